def rmX3_ringf : Room := { frames := 4, cells := 0, slots := 0, locals := 136 }
set_option maxHeartbeats 8000000 in
set_option maxRecDepth 100000 in
/-- a ring -/
theorem c_X3_ringf (l : Launch) (g : gG) (gh : gGh) (lc : LC) (n my : Nat) (I : gI) (R : gR) (J : gJ) (AI : gI) (AJ : gJ) (AR : gR) (a : Nat) (ln : Nat) (inr : Nat) (inb : Nat) (out : Nat) (hv : gInv g gh R AR I AI) (ha : gO g a 3) (hln : gO g ln 0) (hin : gO g inr 4) (hinb : gO g inb 4) (hout : gO g out 4) (h4 : gh 2 out = 4) (hkd : (I ln 0).toInt = 8 ∨ (I ln 0).toInt = 0) (hlm : gh 1 out = 120) (hlc : lnC (I ln) (AI (gh 3 ln)) lc) (hk8 : lc.1 0 = 8) (hro : rOK lc) (hne : inr ≠ out) (h5 : gh 2 inr = 4) (hnx : (I inr 3).toInt = (n : Int)) (hA : okB (AI (gh 0 inr)) n) (hne2 : inb ≠ out) (h6 : gh 2 inb = 4) (hny : (I inb 3).toInt = (my : Int)) (hB : okB (AI (gh 0 inb)) my) (zx : zB (lc.1 5) (AI (gh 0 inr)) n) (hl0 : (I out 3).toInt = 0) (hn9 : n ≤ 120) : gMet l g yX3_ring wsX3_ring rmX3_ringf [.ref a, .ref ln, .ref inr, .ref inb, .ref out] (I, R, J, AI, AJ, AR) (gQi g (fun (z : Int) (w : gS) => R = w.2.1 ∧ J = w.2.2.1 ∧ AJ = w.2.2.2.2.1 ∧ AR = w.2.2.2.2.2 ∧ (gInv g gh R AR (w.1) (w.2.2.2.1)) ∧ (rF g I (w.1)) ∧ (-4 ≤ z ∧ z ≤ 0) ∧ (kI out I (w.1)) ∧ (kA gh out AI (w.2.2.2.1)) ∧ (rgP lc (AI (gh 0 inr)) n (AI (gh 0 inb)) my z ((w.2.2.2.1) (gh 0 out)) ((w.1) out 3).toInt.toNat))) := by
  refine gStart (cc := cX3_ring) (maxL := 10) (ret := (some (.int))) (by decide) rfl (Nat.le_of_ble_eq_true rfl) ?_
  intro p e s m below meth c ls F hr hlk hH hz hS hl
  have hl : lv_has ls 10 [(0, .ref a), (1, .ref ln), (2, .ref inr), (3, .ref inb), (4, .ref out)] := hl
  have hS : va_S (gA g) s.heap s.heap [] := hS
  obtain ⟨H, hHe⟩ : ∃ H : Heap, H = s.heap := ⟨_, rfl⟩
  obtain ⟨locs, hlo⟩ : ∃ k : List Loc, k = [] := ⟨_, rfl⟩
  have hH : gH g I R J AI AJ AR H := by rw [hHe]; exact hH
  have hS : va_S (gA g) s.heap H locs := by rw [hHe, hlo]; exact hS
  suffices hw : W p l e rmX3_ringf s m ([.ref a, .ref ln, .ref inr, .ref inb, .ref out] : List Value).toArray below meth c H locs 0 0 (MQ below (gQi g (fun (z : Int) (w : gS) => R = w.2.1 ∧ J = w.2.2.1 ∧ AJ = w.2.2.2.2.1 ∧ AR = w.2.2.2.2.2 ∧ (gInv g gh R AR (w.1) (w.2.2.2.1)) ∧ (rF g I (w.1)) ∧ (-4 ≤ z ∧ z ≤ 0) ∧ (kI out I (w.1)) ∧ (kA gh out AI (w.2.2.2.1)) ∧ (rgP lc (AI (gh 0 inr)) n (AI (gh 0 inb)) my z ((w.2.2.2.1) (gh 0 out)) ((w.1) out 3).toInt.toNat))) ([.ref a, .ref ln, .ref inr, .ref inb, .ref out] : List Value).toArray s 0 0 (gA g)) (F0 m 0 ls []) by
    rw [hHe, hlo] at hw; exact hw
  clear hHe hlo
  have rf : rF g I I := rF_r
  have fI : kI out I I := kI_r
  have fA : kA gh out AI AI := kA_r
  have hck := cells_k hv ha hout
  have hrn := rk_ne hv ha
  have r45 : lc.1 4 = lc.1 5 := hro.2.2.2.1
  have iX4 : ∀ w ∈ u_ws RX4 TX4 4, w ∈ wsX3_ring := (by decide +kernel)
  have iX3 : ∀ w ∈ u_ws RX3 TX3 3, w ∈ wsX3_ring := (by decide +kernel)
  have k23 : Cond.fieldLink RX3 23 (TX4 3).1 (TX4 3).2.1 (TX4 3).2.2.1 ∈ wsX3_ring := List.mem_of_getElem? (i := 1) rfl
  have k11 : Cond.fieldLink RX3 11 (TX3 0).1 (TX3 0).2.1 (TX3 0).2.2.1 ∈ wsX3_ring := List.mem_of_getElem? (i := 2) rfl
  refine lv_aload_n F.1 F.2.1 dX3_ring_0 rfl (lv_at hl 0 rfl) ?_
  refine g_callv (g_runV (As := []) (rest := []) (ci := 3) F hl.1 hH hS hz (c_X3_clearKeyf l g gh I R J AI AJ AR a hv ha) (cwV 0 F.2.2.2.2.1 gX3_ring_X3_clearKey rfl rfl rfl hdX3_clearKey ⟨Nat.le_of_ble_eq_true rfl, Nat.le_of_ble_eq_true rfl⟩) ha (by decide) rfl rfl rfl (Nat.le_of_ble_eq_true rfl) dX3_ring_1 ⟨Nat.zero_le _, Nat.zero_le _⟩) hS (fun I_1 R_2 J_3 AI_4 AJ_5 AR_6 H locs hp_7 hH hS => ?_)
  dsimp only at hp_7
  obtain ⟨rfl, rfl, rfl, rfl, rfl, hv, q_8, hkz0⟩ := hp_7
  have fA := kA_t fA (kA_0 q_8)
  refine z_iconst F dX3_ring_4 ?_
  refine lv_istore (lv' := [(5, .int (iI 0)), (0, .ref a), (1, .ref ln), (2, .ref inr), (3, .ref inb), (4, .ref out)]) F.1 F.2.1 dX3_ring_5 hl (by decide) rfl (fun ls hl => ?_)
  have cut_7_10 : ∀ (NN : Nat) (i : Int) (I_9 : gI) (AI_10 : gI) (H : Heap) (locs : List Loc) (ls : Array Slot), zr i → (gInv g gh R AR I_9 AI_10) → (rF g I I_9) → ((I_9 ln 0).toInt = 8 ∨ (I_9 ln 0).toInt = 0) → (0 ≤ i ∧ i ≤ 240) → (kI out I I_9) → (kA gh out AI AI_10) → (∀ j : Nat, lc.1 4 ≤ (j : Int) → j < 5 → AI_10 (gh 30 0) j = 0) → (rgI (AI_10 (gh 0 out)) (AI_10 (gh 32 0)) (I_9 out 3).toInt.toNat 0 (fun _ => False) (rQ0 (AI (gh 0 inr)) i.toNat) zM (iI 0)) → (0 ≤ (I_9 out 3).toInt ∧ (I_9 out 3).toInt ≤ i ∧ i ≤ (n : Int)) → (240 - i) < ((NN : Nat) : Int) → gH g I_9 R J AI_10 AJ AR H → va_S (gA g) s.heap H locs → lv_has ls 10 [(5, .int (iI i)), (0, .ref a), (1, .ref ln), (2, .ref inr), (3, .ref inb), (4, .ref out)] → W p l e rmX3_ringf s m ([.ref a, .ref ln, .ref inr, .ref inb, .ref out] : List Value).toArray below meth c H locs 0 0 (MQ below (gQi g (fun (z : Int) (w : gS) => R = w.2.1 ∧ J = w.2.2.1 ∧ AJ = w.2.2.2.2.1 ∧ AR = w.2.2.2.2.2 ∧ (gInv g gh R AR (w.1) (w.2.2.2.1)) ∧ (rF g I (w.1)) ∧ (-4 ≤ z ∧ z ≤ 0) ∧ (kI out I (w.1)) ∧ (kA gh out AI (w.2.2.2.1)) ∧ (rgP lc (AI (gh 0 inr)) n (AI (gh 0 inb)) my z ((w.2.2.2.1) (gh 0 out)) ((w.1) out 3).toInt.toNat))) ([.ref a, .ref ln, .ref inr, .ref inb, .ref out] : List Value).toArray s 0 0 (gA g)) (F0 m 7 ls []) := by
    intro NN7
    induction NN7 with
    | zero =>
      intro i I_9 AI_10 H locs ls zi hv rf hkd hi fI fA hkz hrg hse2 hm7 hH hS hl
      exact absurd hm7 (by omega)
    | succ NN7 ih7 =>
      intro i I_9 AI_10 H locs ls zi hv rf hkd hi fI fA hkz hrg hse2 hm7 hH hS hl
      have hX : AI_10 (gh 0 inr) = AI (gh 0 inr) := kA_x fA hv ha hout hin hne
      have hXi : I_9 inr = I inr := fI inr hne
      have hXn : (I_9 inr 3).toInt = (n : Int) := by rw [hXi]; exact hnx
      have hY : AI_10 (gh 0 inb) = AI (gh 0 inb) := kA_x fA hv ha hout hinb hne2
      have hYi : I_9 inb = I inb := fI inb hne2
      have hYm : (I_9 inb 3).toInt = (my : Int) := by rw [hYi]; exact hny
      have hlcN : lnC (I_9 ln) (AI_10 (gh 3 ln)) lc := lnC_m hlc (fI ln (gO_ne hln hout (by decide))) (kA_l fA hv ha hout hln)
      refine lv_iload F.1 F.2.1 dX3_ring_7 (lv_at hl 0 rfl) ?_
      refine lv_aload_n F.1 F.2.1 dX3_ring_9 rfl (lv_at hl 3 rfl) ?_
      refine g_getI (ci := 4) (k := 3) F hH rfl (by decide) iX4 hin (by decide) rfl k23 dX3_ring_10 ?_
      obtain ⟨b_12a, b_12b, b_12c, b_12d, b_12e, b_12f, b_12g, b_12h⟩ := gI_rows hv hin
      refine z_icmp_ge (tgt := 60) F dX3_ring_13 (by decide) zi (zr_t _) (fun c_13 => ?_) (fun c_13 => ?_)
      · refine z_iconst F dX3_ring_60 ?_
        refine lv_istore (lv' := [(5, .int (iI 0)), (0, .ref a), (1, .ref ln), (2, .ref inr), (3, .ref inb), (4, .ref out)]) F.1 F.2.1 dX3_ring_61 hl (by decide) rfl (fun ls hl => ?_)
        refine z_iconst F dX3_ring_63 ?_
        refine lv_istore (lv' := [(6, .int (iI 1)), (5, .int (iI 0)), (0, .ref a), (1, .ref ln), (2, .ref inr), (3, .ref inb), (4, .ref out)]) F.1 F.2.1 dX3_ring_64 hl (by decide) rfl (fun ls hl => ?_)
        have cut_66_15 : ∀ (NN : Nat) (fr rd : Int) (I_14 : gI) (AI_15 : gI) (H : Heap) (locs : List Loc) (ls : Array Slot), zr fr → zr rd → (gInv g gh R AR I_14 AI_15) → (rF g I I_14) → ((I_14 ln 0).toInt = 8 ∨ (I_14 ln 0).toInt = 0) → (0 ≤ fr ∧ fr ≤ 120) → (1 ≤ rd ∧ rd ≤ 42) → (kI out I I_14) → (kA gh out AI AI_15) → (∀ j : Nat, lc.1 4 ≤ (j : Int) → j < 5 → AI_15 (gh 30 0) j = 0) → (rgR lc (AI (gh 0 inr)) n (AI (gh 0 inb)) my (AI_15 (gh 0 out)) (AI_15 (gh 32 0)) (I_14 out 3).toInt.toNat fr.toNat (rd - 1).toNat) → (0 ≤ (I_14 out 3).toInt) → (42 - rd) < ((NN : Nat) : Int) → gH g I_14 R J AI_15 AJ AR H → va_S (gA g) s.heap H locs → lv_has ls 10 [(6, .int (iI rd)), (5, .int (iI fr)), (0, .ref a), (1, .ref ln), (2, .ref inr), (3, .ref inb), (4, .ref out)] → W p l e rmX3_ringf s m ([.ref a, .ref ln, .ref inr, .ref inb, .ref out] : List Value).toArray below meth c H locs 0 0 (MQ below (gQi g (fun (z : Int) (w : gS) => R = w.2.1 ∧ J = w.2.2.1 ∧ AJ = w.2.2.2.2.1 ∧ AR = w.2.2.2.2.2 ∧ (gInv g gh R AR (w.1) (w.2.2.2.1)) ∧ (rF g I (w.1)) ∧ (-4 ≤ z ∧ z ≤ 0) ∧ (kI out I (w.1)) ∧ (kA gh out AI (w.2.2.2.1)) ∧ (rgP lc (AI (gh 0 inr)) n (AI (gh 0 inb)) my z ((w.2.2.2.1) (gh 0 out)) ((w.1) out 3).toInt.toNat))) ([.ref a, .ref ln, .ref inr, .ref inb, .ref out] : List Value).toArray s 0 0 (gA g)) (F0 m 66 ls []) := by
          intro NN66
          induction NN66 with
          | zero =>
            intro fr rd I_14 AI_15 H locs ls zfr zrd hv rf hkd hfr hrd fI fA hkz hrr hse2 hm66 hH hS hl
            exact absurd hm66 (by omega)
          | succ NN66 ih66 =>
            intro fr rd I_14 AI_15 H locs ls zfr zrd hv rf hkd hfr hrd fI fA hkz hrr hse2 hm66 hH hS hl
            have hX : AI_15 (gh 0 inr) = AI (gh 0 inr) := kA_x fA hv ha hout hin hne
            have hXi : I_14 inr = I inr := fI inr hne
            have hXn : (I_14 inr 3).toInt = (n : Int) := by rw [hXi]; exact hnx
            have hY : AI_15 (gh 0 inb) = AI (gh 0 inb) := kA_x fA hv ha hout hinb hne2
            have hYi : I_14 inb = I inb := fI inb hne2
            have hYm : (I_14 inb 3).toInt = (my : Int) := by rw [hYi]; exact hny
            have hlcN : lnC (I_14 ln) (AI_15 (gh 3 ln)) lc := lnC_m hlc (fI ln (gO_ne hln hout (by decide))) (kA_l fA hv ha hout hln)
            have hfl := rgR_le hrr
            refine lv_iload F.1 F.2.1 dX3_ring_66 (lv_at hl 0 rfl) ?_
            refine z_bipush F dX3_ring_68 (by decide) ?_
            refine z_icmp_gt (tgt := 139) F dX3_ring_70 (by decide) zrd ⟨by decide, by decide⟩ (fun c_17 => ?_) (fun c_17 => ?_)
            · refine z_iconst F dX3_ring_139 ?_
              exact g_iret F hr hlk hH hS hz ⟨by decide, by decide⟩ ⟨rfl, rfl, rfl, rfl, hv, rf, by first | omega | rfl | (dsimp only; omega), fI, fA, Or.inl ⟨rfl, by (try dsimp only); exact rg_end hrr (by omega) (by first | exact Or.inr (by omega) | exact Or.inl (by omega))⟩⟩ dX3_ring_140
            · refine lv_iload F.1 F.2.1 dX3_ring_73 (lv_at hl 1 rfl) ?_
              refine lv_aload F.1 F.2.1 dX3_ring_75 (lv_at hl 6 rfl) ?_
              refine g_getI (ci := 4) (k := 3) F hH rfl (by decide) iX4 hout (by decide) rfl k23 dX3_ring_77 ?_
              obtain ⟨b_18a, b_18b, b_18c, b_18d, b_18e, b_18f, b_18g, b_18h⟩ := gI_rows hv hout
              refine z_icmp_ge (tgt := 139) F dX3_ring_80 (by decide) zfr (zr_t _) (fun c_19 => ?_) (fun c_19 => ?_)
              · refine z_iconst F dX3_ring_139 ?_
                exact g_iret F hr hlk hH hS hz ⟨by decide, by decide⟩ ⟨rfl, rfl, rfl, rfl, hv, rf, by first | omega | rfl | (dsimp only; omega), fI, fA, Or.inl ⟨rfl, by (try dsimp only); exact rg_end hrr (by omega) (by first | exact Or.inr (by omega) | exact Or.inl (by omega))⟩⟩ dX3_ring_140
              · obtain ⟨Mk, Tk9, hrk9⟩ := rg_enter hrr
                refine lv_aload F.1 F.2.1 dX3_ring_83 (lv_at hl 6 rfl) ?_
                refine g_getI (ci := 4) (k := 3) F hH rfl (by decide) iX4 hout (by decide) rfl k23 dX3_ring_85 ?_
                refine lv_istore (lv' := [(7, .int (iI ((I_14 out 3).toInt))), (6, .int (iI rd)), (5, .int (iI fr)), (0, .ref a), (1, .ref ln), (2, .ref inr), (3, .ref inb), (4, .ref out)]) F.1 F.2.1 dX3_ring_88 hl (by decide) rfl (fun ls hl => ?_)
                refine lv_iload F.1 F.2.1 dX3_ring_90 (lv_at hl 2 rfl) ?_
                refine lv_istore (lv' := [(8, .int (iI fr)), (7, .int (iI ((I_14 out 3).toInt))), (6, .int (iI rd)), (5, .int (iI fr)), (0, .ref a), (1, .ref ln), (2, .ref inr), (3, .ref inb), (4, .ref out)]) F.1 F.2.1 dX3_ring_92 hl (by decide) rfl (fun ls hl => ?_)
                have cut_94_21 : ∀ (NN : Nat) (k : Int) (I_20 : gI) (AI_21 : gI) (H : Heap) (locs : List Loc) (ls : Array Slot), zr k → (gInv g gh R AR I_20 AI_21) → (rF g I I_20) → ((I_20 ln 0).toInt = 8 ∨ (I_20 ln 0).toInt = 0) → (0 ≤ k ∧ k ≤ 120) → (kI out I I_20) → (kA gh out AI AI_21) → (∀ j : Nat, lc.1 4 ≤ (j : Int) → j < 5 → AI_21 (gh 30 0) j = 0) → (rgK lc (AI (gh 0 inr)) n (AI (gh 0 inb)) my (AI_21 (gh 0 out)) (AI_21 (gh 32 0)) (I_20 out 3).toInt.toNat fr.toNat ((I_14 out 3).toInt).toNat k.toNat (rd - 1).toNat Mk Tk9) → (0 ≤ (I_20 out 3).toInt ∧ fr ≤ k ∧ k ≤ ((I_14 out 3).toInt) ∧ ((I_14 out 3).toInt) ≤ (I_20 out 3).toInt ∧ fr < ((I_14 out 3).toInt)) → (120 - k) < ((NN : Nat) : Int) → gH g I_20 R J AI_21 AJ AR H → va_S (gA g) s.heap H locs → lv_has ls 10 [(8, .int (iI k)), (7, .int (iI ((I_14 out 3).toInt))), (6, .int (iI rd)), (5, .int (iI fr)), (0, .ref a), (1, .ref ln), (2, .ref inr), (3, .ref inb), (4, .ref out)] → W p l e rmX3_ringf s m ([.ref a, .ref ln, .ref inr, .ref inb, .ref out] : List Value).toArray below meth c H locs 0 0 (MQ below (gQi g (fun (z : Int) (w : gS) => R = w.2.1 ∧ J = w.2.2.1 ∧ AJ = w.2.2.2.2.1 ∧ AR = w.2.2.2.2.2 ∧ (gInv g gh R AR (w.1) (w.2.2.2.1)) ∧ (rF g I (w.1)) ∧ (-4 ≤ z ∧ z ≤ 0) ∧ (kI out I (w.1)) ∧ (kA gh out AI (w.2.2.2.1)) ∧ (rgP lc (AI (gh 0 inr)) n (AI (gh 0 inb)) my z ((w.2.2.2.1) (gh 0 out)) ((w.1) out 3).toInt.toNat))) ([.ref a, .ref ln, .ref inr, .ref inb, .ref out] : List Value).toArray s 0 0 (gA g)) (F0 m 94 ls []) := by
                  intro NN94
                  induction NN94 with
                  | zero =>
                    intro k I_20 AI_21 H locs ls zk hv rf hkd hk fI fA hkz hrk hse2 hm94 hH hS hl
                    exact absurd hm94 (by omega)
                  | succ NN94 ih94 =>
                    intro k I_20 AI_21 H locs ls zk hv rf hkd hk fI fA hkz hrk hse2 hm94 hH hS hl
                    have hX : AI_21 (gh 0 inr) = AI (gh 0 inr) := kA_x fA hv ha hout hin hne
                    have hXi : I_20 inr = I inr := fI inr hne
                    have hXn : (I_20 inr 3).toInt = (n : Int) := by rw [hXi]; exact hnx
                    have hY : AI_21 (gh 0 inb) = AI (gh 0 inb) := kA_x fA hv ha hout hinb hne2
                    have hYi : I_20 inb = I inb := fI inb hne2
                    have hYm : (I_20 inb 3).toInt = (my : Int) := by rw [hYi]; exact hny
                    have hlcN : lnC (I_20 ln) (AI_21 (gh 3 ln)) lc := lnC_m hlc (fI ln (gO_ne hln hout (by decide))) (kA_l fA hv ha hout hln)
                    refine lv_iload F.1 F.2.1 dX3_ring_94 (lv_at hl 0 rfl) ?_
                    refine lv_iload F.1 F.2.1 dX3_ring_96 (lv_at hl 1 rfl) ?_
                    refine z_icmp_ge (tgt := 129) F dX3_ring_98 (by decide) zk (zr_t _) (fun c_23 => ?_) (fun c_23 => ?_)
                    · rw [show k.toNat = ((I_14 out 3).toInt).toNat by omega] at hrk
                      have hrr9 := rg_round hrk (by omega)
                      rw [show (rd - 1).toNat + 1 = (rd + 1 - 1).toNat by omega] at hrr9
                      refine lv_iload F.1 F.2.1 dX3_ring_129 (lv_at hl 1 rfl) ?_
                      refine lv_istore (lv' := [(5, .int (iI ((I_14 out 3).toInt))), (8, .int (iI k)), (7, .int (iI ((I_14 out 3).toInt))), (6, .int (iI rd)), (0, .ref a), (1, .ref ln), (2, .ref inr), (3, .ref inb), (4, .ref out)]) F.1 F.2.1 dX3_ring_131 hl (by decide) rfl (fun ls hl => ?_)
                      refine z_iinc (lv' := [(6, .int (iI (rd + 1))), (5, .int (iI ((I_14 out 3).toInt))), (8, .int (iI k)), (7, .int (iI ((I_14 out 3).toInt))), (0, .ref a), (1, .ref ln), (2, .ref inr), (3, .ref inb), (4, .ref out)]) F dX3_ring_133 hl (k := 3) rfl (by decide) rfl (fun ls hl => ?_)
                      refine z_goto (tgt := 66) F dX3_ring_136 (by decide) ?_
                      exact ih66 ((I_14 out 3).toInt) (rd + 1) I_20 AI_21 H locs ls (zr_t _) ⟨by omega, by omega⟩ hv rf (by omega) (by omega) (by omega) fI fA hkz hrr9 (by omega) (by omega) hH hS (lv_sub hl [0, 1, 4, 5, 6, 7, 8] rfl)
                    · have hrk2 := hrk.2.1
                      rw [show (((rd - 1).toNat : Nat) : Int) + 1 = rd by omega] at hrk2
                      refine lv_aload_n F.1 F.2.1 dX3_ring_101 rfl (lv_at hl 4 rfl) ?_
                      refine lv_aload_n F.1 F.2.1 dX3_ring_102 rfl (lv_at hl 5 rfl) ?_
                      refine lv_iload F.1 F.2.1 dX3_ring_103 (lv_at hl 0 rfl) ?_
                      refine lv_aload_n F.1 F.2.1 dX3_ring_105 rfl (lv_at hl 7 rfl) ?_
                      refine lv_aload F.1 F.2.1 dX3_ring_106 (lv_at hl 8 rfl) ?_
                      refine lv_iload F.1 F.2.1 dX3_ring_108 (lv_at hl 2 rfl) ?_
                      have b_24 := gI_line hv hln
                      unfold vLineI at b_24
                      obtain ⟨b_25a, b_25b, b_25c, b_25d, b_25e, b_25f, b_25g, b_25h⟩ := gI_rows hv hinb
                      obtain ⟨b_26a, b_26b, b_26c, b_26d, b_26e, b_26f, b_26g, b_26h⟩ := gI_rows hv hout
                      refine g_calli (g_runV (As := [.ref ln, .int (iI k), .ref inb, .ref out, .int (iI rd)]) (rest := []) (ci := 3) F hl.1 hH hS hz (c_X3_goOnf l g gh lc my (((I_14 out 3).toInt).toNat) ((rS lc (AI (gh 0 inr)) n (AI (gh 0 inb)) my (rd - 1).toNat).2) (fun s => ∃ i, fr.toNat ≤ i ∧ i < k.toNat ∧ rGo lc (AI (gh 0 inb)) my (Tk9 i) s) Mk (Tk9 k.toNat) I_20 R J AI_21 AJ AR a ln k inb out rd zk zrd hv ha hln hinb hout (by omega) (by omega) (by omega) (by omega) hlcN hk8 hro hne2 (by omega) hYm (hrk.1 k.toNat (by omega)) hrk2 hkz (by omega)) (cwV 5 F.2.2.2.2.1 gX3_ring_X3_goOn rfl rfl rfl hdX3_goOn ⟨Nat.le_of_ble_eq_true rfl, Nat.le_of_ble_eq_true rfl⟩) ha (by decide) rfl rfl rfl (Nat.le_of_ble_eq_true rfl) dX3_ring_110 ⟨Nat.zero_le _, Nat.zero_le _⟩) hS (fun v_33 I_27 R_28 J_29 AI_30 AJ_31 AR_32 H locs zv_33 hp_34 hH hS => ?_)
                      dsimp only at hp_34
                      obtain ⟨rfl, rfl, rfl, rfl, hv, rfq, q_35, kIq, kAq, qgo, qgz⟩ := hp_34
                      have rf := rF_t rf rfq
                      have u_36 : (I_27 ln 0).toInt = (I ln 0).toInt := by rw [rf ln 0 hln (by decide)]
                      have fI := kI_t fI kIq
                      have fA := kA_t fA kAq
                      rw [hY] at qgo
                      refine lv_istore (lv' := [(9, .int (iI v_33)), (8, .int (iI k)), (7, .int (iI ((I_14 out 3).toInt))), (6, .int (iI rd)), (5, .int (iI fr)), (0, .ref a), (1, .ref ln), (2, .ref inr), (3, .ref inb), (4, .ref out)]) F.1 F.2.1 dX3_ring_113 hl (by decide) rfl (fun ls hl => ?_)
                      refine lv_iload F.1 F.2.1 dX3_ring_115 (lv_at hl 0 rfl) ?_
                      refine z_if_eq (tgt := 123) F dX3_ring_117 (by decide) zv_33 (fun c_37 => ?_) (fun c_37 => ?_)
                      · obtain ⟨-, qg1, qg2, qg3⟩ := qgo.resolve_right (fun h => by rcases h with h | h <;> omega)
                        clear qgo hrk2
                        have hl120 := (gI_rows hv hout).2.2.2.1
                        rw [show (iI rd : Int32) = iI ((((rd - 1).toNat : Nat) : Int) + 1) by rw [show (((rd - 1).toNat : Nat) : Int) + 1 = rd by omega]] at qg1
                        have hrk9 := rg_step hrk (by omega) qg1 (fun j hj => qgz.2 j (by omega)) (fun h9 => by have := qg3 (by omega); omega) (by omega)
                        rw [show k.toNat + 1 = (k + 1).toNat by omega] at hrk9
                        have hkz := qgz.1
                        refine z_iinc (lv' := [(8, .int (iI (k + 1))), (9, .int (iI v_33)), (7, .int (iI ((I_14 out 3).toInt))), (6, .int (iI rd)), (5, .int (iI fr)), (0, .ref a), (1, .ref ln), (2, .ref inr), (3, .ref inb), (4, .ref out)]) F dX3_ring_123 hl (k := 1) rfl (by decide) rfl (fun ls hl => ?_)
                        refine z_goto (tgt := 94) F dX3_ring_126 (by decide) ?_
                        exact ih94 (k + 1) I_27 AI_30 H locs ls ⟨by omega, by omega⟩ hv rf (by omega) (by omega) fI fA hkz hrk9 (by omega) (by omega) hH hS (lv_sub hl [0, 2, 3, 4, 5, 6, 7, 8, 9] rfl)
                      · refine lv_iload F.1 F.2.1 dX3_ring_120 (lv_at hl 0 rfl) ?_
                        exact g_iret F hr hlk hH hS hz zv_33 ⟨rfl, rfl, rfl, rfl, hv, rf, by first | omega | rfl | (dsimp only; omega), fI, fA, by
        rcases qgo with h9 | h9 | h9
        · exact absurd h9.1 (by omega)
        · exact Or.inr (Or.inl ⟨h9.1, rg_big hrk (by omega) (by omega) (by omega) h9.2.2⟩)
        · obtain ⟨s9, h8, h7⟩ := h9.2.2
          exact Or.inr (Or.inr ⟨h9.1, rg_many hrk (by omega) (by omega) (by omega) h8 h7⟩)⟩ dX3_ring_122
                exact cut_94_21 (((120 - fr) + 1 : Int).toNat) fr I_14 AI_15 H locs ls zfr hv rf (by omega) (by omega) fI fA hkz hrk9 (by omega) (by omega) hH hS (lv_sub hl [0, 1, 2, 3, 4, 5, 6, 7, 8] rfl)
        exact cut_66_15 (((42 - 1) + 1 : Int).toNat) 0 1 I_9 AI_10 H locs ls ⟨by decide, by decide⟩ ⟨by decide, by decide⟩ hv rf (by omega) (by omega) (by omega) fI fA hkz (by rw [show i.toNat = n by omega] at hrg; exact rg_init hrg (by omega)) (by omega) (by omega) hH hS (lv_sub hl [0, 1, 2, 3, 4, 5, 6] rfl)
      · refine lv_aload_n F.1 F.2.1 dX3_ring_16 rfl (lv_at hl 3 rfl) ?_
        refine lv_iload F.1 F.2.1 dX3_ring_17 (lv_at hl 0 rfl) ?_
        refine g_calli (g_runV (As := [.int (iI i)]) (rest := []) (ci := 4) F hl.1 hH hS hz (c_X4_amount l g gh I_9 R J AI_10 AJ AR inr i zi hv hin (by omega) (by omega)) (cwV 1 F.2.2.2.2.1 gX3_ring_X4_amount rfl rfl rfl hdX4_amount ⟨Nat.le_of_ble_eq_true rfl, Nat.le_of_ble_eq_true rfl⟩) hin (by decide) rfl rfl rfl (Nat.le_of_ble_eq_true rfl) dX3_ring_19 ⟨Nat.zero_le _, Nat.zero_le _⟩) hS (fun v_44 I_38 R_39 J_40 AI_41 AJ_42 AR_43 H locs zv_44 hp_45 hH hS => ?_)
        dsimp only at hp_45
        obtain ⟨rfl, rfl, rfl, rfl, rfl, rfl, qa0⟩ := hp_45
        have qa : v_44 = ((AI (gh 0 inr)) (6 * i.toNat + 4)).toInt := by rw [qa0, hX, show (i * 6 + (I_9 inr 0).toInt).toNat = 6 * i.toNat + 4 by omega]
        refine z_if_le (tgt := 54) F dX3_ring_22 (by decide) zv_44 (fun c_46 => ?_) (fun c_46 => ?_)
        · have hrg9 := rgI_q hrg (Q' := rQ0 (AI (gh 0 inr)) (i + 1).toNat) (fun s => by rw [show (i + 1).toNat = i.toNat + 1 by omega]; exact rq0_n (by omega))
          refine z_iinc (lv' := [(5, .int (iI (i + 1))), (0, .ref a), (1, .ref ln), (2, .ref inr), (3, .ref inb), (4, .ref out)]) F dX3_ring_54 hl (k := 0) rfl (by decide) rfl (fun ls hl => ?_)
          refine z_goto (tgt := 7) F dX3_ring_57 (by decide) ?_
          exact ih7 (i + 1) I_9 AI_10 H locs ls ⟨by omega, by omega⟩ hv rf (by omega) (by omega) fI fA hkz hrg9 (by omega) (by omega) hH hS (lv_sub hl [0, 1, 2, 3, 4, 5] rfl)
        · refine lv_aload_n F.1 F.2.1 dX3_ring_25 rfl (lv_at hl 3 rfl) ?_
          refine lv_iload F.1 F.2.1 dX3_ring_26 (lv_at hl 0 rfl) ?_
          refine z_iconst F dX3_ring_28 ?_
          refine lv_aload_n F.1 F.2.1 dX3_ring_29 rfl (lv_at hl 1 rfl) ?_
          obtain ⟨r_47a, r_47b⟩ := gR_rk0 hv ha
          refine g_getR (ci := 3) (k := 0) F hH rfl (by decide) iX3 ha (by decide) rfl (b := gh 30 0) r_47a k11 dX3_ring_30 ?_
          refine g_callv (g_runV (As := [.int (iI i), .int (iI 0), .ref (gh 30 0)]) (rest := []) (ci := 4) F hl.1 hH hS hz (c_X4_copyKeyf l g gh I_9 R J AI_10 AJ AR inr i 0 (gh 30 0) zi ⟨by decide, by decide⟩ hv hin (by omega) (by omega) r_47b (ro30 hv ha) (by omega) (by omega)) (cwV 3 F.2.2.2.2.1 gX3_ring_X4_copyKey rfl rfl rfl hdX4_copyKey ⟨Nat.le_of_ble_eq_true rfl, Nat.le_of_ble_eq_true rfl⟩) hin (by decide) rfl rfl rfl (Nat.le_of_ble_eq_true rfl) dX3_ring_33 ⟨Nat.zero_le _, Nat.zero_le _⟩) hS (fun I_48 R_49 J_50 AI_51 AJ_52 AR_53 H locs hp_54 hH hS => ?_)
          dsimp only at hp_54
          obtain ⟨rfl, rfl, rfl, rfl, rfl, q_55, hv, qck⟩ := hp_54
          have fA := kA_t fA (kA_0 q_55)
          have hkt : ∀ q, q < 4 → AI_51 (gh 30 0) q = tg (tup (AI (gh 0 inr)) i.toNat) q := fun q hq => by rw [qck, h5, hX]; unfold va_cpy; rw [if_pos ⟨by omega, by omega⟩, tg_up q hq]; congr 1; omega
          have hkz : ∀ j : Nat, lc.1 4 ≤ (j : Int) → j < 5 → AI_51 (gh 30 0) j = 0 := fun j h1 h2 => by
            by_cases e9 : j < 4
            · rw [hkt j e9]; exact zx i.toNat (by omega) j (by omega) e9
            · rw [qck, h5]; unfold va_cpy; rw [if_neg (by omega)]; exact hkz j h1 h2
          have hrg := rgI_c (f' := AI_51 (gh 0 out)) (A' := AI_51 (gh 32 0)) hrg (by rw [q_55 _ hck.1]; exact rwA_r) (fun _ _ => by rw [q_55 _ hrn.2.1.symm])
          have hat : atW (AI_51 (gh 0 out)) (I_9 out 3).toInt.toNat (I_9 out 3).toInt.toNat (tup (AI (gh 0 inr)) i.toNat) := rg_at hrg hA (by omega)
          refine lv_aload_n F.1 F.2.1 dX3_ring_36 rfl (lv_at hl 1 rfl) ?_
          refine lv_aload F.1 F.2.1 dX3_ring_37 (lv_at hl 5 rfl) ?_
          refine lv_aload F.1 F.2.1 dX3_ring_39 (lv_at hl 5 rfl) ?_
          refine g_getI (ci := 4) (k := 3) F hH rfl (by decide) iX4 hout (by decide) rfl k23 dX3_ring_41 ?_
          obtain ⟨b_56a, b_56b, b_56c, b_56d, b_56e, b_56f, b_56g, b_56h⟩ := gI_rows hv hout
          refine z_iconst F dX3_ring_44 ?_
          refine g_calli (g_runV (As := [.ref out, .int (iI ((I_9 out 3).toInt)), .int (iI 0)]) (rest := []) (ci := 3) F hl.1 hH hS hz (c_X3_arrivef l g gh (tup (AI (gh 0 inr)) i.toNat) I_9 R J AI_51 AJ AR a out ((I_9 out 3).toInt) 0 (zr_t _) ⟨by decide, by decide⟩ hv ha hout (by omega) (by omega) hkt (by omega) hat) (cwV 3 F.2.2.2.2.1 gX3_ring_X3_arrive rfl rfl rfl hdX3_arrive ⟨Nat.le_of_ble_eq_true rfl, Nat.le_of_ble_eq_true rfl⟩) ha (by decide) rfl rfl rfl (Nat.le_of_ble_eq_true rfl) dX3_ring_45 ⟨Nat.zero_le _, Nat.zero_le _⟩) hS (fun v_63 I_57 R_58 J_59 AI_60 AJ_61 AR_62 H locs zv_63 hp_64 hH hS => ?_)
          dsimp only at hp_64
          obtain ⟨rfl, rfl, rfl, rfl, hv, rfq, q_65, kIq, kAq, qarr, qak⟩ := hp_64
          have rf := rF_t rf rfq
          have u_66 : (I_57 ln 0).toInt = (I ln 0).toInt := by rw [rf ln 0 hln (by decide)]
          have fI := kI_t fI kIq
          have fA := kA_t fA kAq
          have hkz : ∀ j : Nat, lc.1 4 ≤ (j : Int) → j < 5 → AI_60 (gh 30 0) j = 0 := fun j h1 h2 => by rw [qak.1]; exact hkz j h1 h2
          refine z_if_ne (tgt := 54) F dX3_ring_48 (by decide) zv_63 (fun c_67 => ?_) (fun c_67 => ?_)
          · obtain ⟨-, qa1, qa2, qa3, qa4, qa5⟩ := qarr.resolve_left (fun h => by omega)
            clear qarr
            have hrg8 := rgI_ins hrg hat qa3 (fun j hj => qa4 j (by omega)) qa5
            rw [show (I_9 out 3).toInt.toNat + 1 = (I_57 out 3).toInt.toNat by omega] at hrg8
            have hrg9 := rgI_q hrg8 (Q' := rQ0 (AI (gh 0 inr)) (i + 1).toNat) (fun s => by rw [show (i + 1).toNat = i.toNat + 1 by omega]; exact rq0_y (by omega))
            refine z_iinc (lv' := [(5, .int (iI (i + 1))), (0, .ref a), (1, .ref ln), (2, .ref inr), (3, .ref inb), (4, .ref out)]) F dX3_ring_54 hl (k := 0) rfl (by decide) rfl (fun ls hl => ?_)
            refine z_goto (tgt := 7) F dX3_ring_57 (by decide) ?_
            exact ih7 (i + 1) I_57 AI_60 H locs ls ⟨by omega, by omega⟩ hv rf (by omega) (by omega) fI fA hkz hrg9 (by omega) (by omega) hH hS (lv_sub hl [0, 1, 2, 3, 4, 5] rfl)
          · refine z_bipush F dX3_ring_51 (by decide) ?_
            exact g_iret F hr hlk hH hS hz ⟨by decide, by decide⟩ ⟨rfl, rfl, rfl, rfl, hv, rf, by first | omega | rfl | (dsimp only; omega), fI, fA, by rcases qarr with h9 | h9 <;> omega⟩ dX3_ring_53
  exact cut_7_10 (((240 - 0) + 1 : Int).toNat) 0 I AI_4 H locs ls ⟨by decide, by decide⟩ hv rf (by omega) (by omega) fI fA (fun j _ h2 => hkz0 j h2) (by rw [show (I out 3).toInt = 0 by omega]; exact rg_zero) (by omega) (by omega) hH hS (lv_sub hl [0, 1, 2, 3, 4, 5] rfl)
