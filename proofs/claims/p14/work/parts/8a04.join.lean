def rmX3_fillJoinedf : Room := { frames := 1, cells := 0, slots := 0, locals := 22 }
set_option maxHeartbeats 4000000 in
set_option maxRecDepth 100000 in
/-- the columns of a joined tuple -/
theorem c_X3_fillJoinedf (l : Launch) (g : gG) (gh : gGh) (lc : LC) (t u : Tup) (I : gI) (R : gR) (J : gJ) (AI : gI) (AJ : gJ) (AR : gR) (a : Nat) (ln : Nat) (inr : Nat) (i0 : Int) (inb : Nat) (j0 : Int) (zi0 : zr i0) (zj0 : zr j0) (hv : gInv g gh R AR I AI) (ha : gO g a 3) (hln : gO g ln 0) (hin : gO g inr 4) (hinb : gO g inb 4) (h0 : 0 ≤ i0 ∧ i0 < (gh 1 inr : Int)) (h1 : 0 ≤ j0 ∧ j0 < (gh 1 inb : Int)) (hlc : lnC (I ln) (AI (gh 3 ln)) lc) (hk3 : lc.1 0 = 3) (hjo : jOK lc) (ht : ∀ j, j < 4 → AI (gh 0 inr) ((i0 * 6).toNat + j) = tg t j) (hu : ∀ j, j < 4 → AI (gh 0 inb) ((j0 * 6).toNat + j) = tg u j) (hkz : ∀ j : Nat, (lc.1 5).toNat + jc lc (lc.1 6).toNat ≤ j → j < 5 → AI (gh 30 0) j = 0) : gMet l g yX3_fillJoined wsX3_fillJoined rmX3_fillJoinedf [.ref a, .ref ln, .ref inr, .int (iI i0), .ref inb, .int (iI j0)] (I, R, J, AI, AJ, AR) (gQv g (fun w : gS => I = w.1 ∧ R = w.2.1 ∧ J = w.2.2.1 ∧ AJ = w.2.2.2.2.1 ∧ AR = w.2.2.2.2.2 ∧ (gInv g gh R AR I (w.2.2.2.1)) ∧ (∀ b, b ≠ gh 30 0 → (w.2.2.2.1) b = AI b) ∧ (∀ j, j < 4 → (w.2.2.2.1) (gh 30 0) j = tg (jn lc t u) j) ∧ (∀ j : Nat, (lc.1 5).toNat + jc lc (lc.1 6).toNat ≤ j → j < 5 → (w.2.2.2.1) (gh 30 0) j = 0))) := by
  refine gStart (cc := cX3_fillJoined) (maxL := 8) (ret := none) (by decide) rfl (Nat.le_of_ble_eq_true rfl) ?_
  intro p e s m below meth c ls F hr hlk hH hz hS hl
  have hl : lv_has ls 8 [(0, .ref a), (1, .ref ln), (2, .ref inr), (3, .int (iI i0)), (4, .ref inb), (5, .int (iI j0))] := hl
  have hS : va_S (gA g) s.heap s.heap [] := hS
  obtain ⟨H, hHe⟩ : ∃ H : Heap, H = s.heap := ⟨_, rfl⟩
  obtain ⟨locs, hlo⟩ : ∃ k : List Loc, k = [] := ⟨_, rfl⟩
  have hH : gH g I R J AI AJ AR H := by rw [hHe]; exact hH
  have hS : va_S (gA g) s.heap H locs := by rw [hHe, hlo]; exact hS
  suffices hw : W p l e rmX3_fillJoinedf s m ([.ref a, .ref ln, .ref inr, .int (iI i0), .ref inb, .int (iI j0)] : List Value).toArray below meth c H locs 0 0 (MQ below (gQv g (fun w : gS => I = w.1 ∧ R = w.2.1 ∧ J = w.2.2.1 ∧ AJ = w.2.2.2.2.1 ∧ AR = w.2.2.2.2.2 ∧ (gInv g gh R AR I (w.2.2.2.1)) ∧ (∀ b, b ≠ gh 30 0 → (w.2.2.2.1) b = AI b) ∧ (∀ j, j < 4 → (w.2.2.2.1) (gh 30 0) j = tg (jn lc t u) j) ∧ (∀ j : Nat, (lc.1 5).toNat + jc lc (lc.1 6).toNat ≤ j → j < 5 → (w.2.2.2.1) (gh 30 0) j = 0))) ([.ref a, .ref ln, .ref inr, .int (iI i0), .ref inb, .int (iI j0)] : List Value).toArray s 0 0 (gA g)) (F0 m 0 ls []) by
    rw [hHe, hlo] at hw; exact hw
  clear hHe hlo
  have h56 := hlc.2.2.1 (Or.inl hk3)
  have hjo1 := hjo.1
  have hjo2 := hjo.2.1
  have hjo3 := hjo.2.2.1
  have hjo4 := hjo.2.2.2.1
  have hjo5 := hjo.2.2.2.2.1
  have h56b := h56
  have iX3 : ∀ w ∈ u_ws RX3 TX3 3, w ∈ wsX3_fillJoined := (by decide +kernel)
  have iX0 : ∀ w ∈ u_ws RX0 TX0 15, w ∈ wsX3_fillJoined := (by decide +kernel)
  have k96 : Cond.fieldLink RX3 96 (TX0 5).1 (TX0 5).2.1 (TX0 5).2.2.1 ∈ wsX3_fillJoined := List.mem_of_getElem? (i := 1) rfl
  have k11 : Cond.fieldLink RX3 11 (TX3 0).1 (TX3 0).2.1 (TX3 0).2.2.1 ∈ wsX3_fillJoined := List.mem_of_getElem? (i := 2) rfl
  have k103 : Cond.fieldLink RX3 103 (TX0 6).1 (TX0 6).2.1 (TX0 6).2.2.1 ∈ wsX3_fillJoined := List.mem_of_getElem? (i := 3) rfl
  refine z_iconst F dX3_fillJoined_0 ?_
  refine lv_istore (lv' := [(6, .int (iI 0)), (0, .ref a), (1, .ref ln), (2, .ref inr), (3, .int (iI i0)), (4, .ref inb), (5, .int (iI j0))]) F.1 F.2.1 dX3_fillJoined_1 hl (by decide) rfl (fun ls hl => ?_)
  refine z_iconst F dX3_fillJoined_3 ?_
  refine lv_istore (lv' := [(7, .int (iI 0)), (6, .int (iI 0)), (0, .ref a), (1, .ref ln), (2, .ref inr), (3, .int (iI i0)), (4, .ref inb), (5, .int (iI j0))]) F.1 F.2.1 dX3_fillJoined_4 hl (by decide) rfl (fun ls hl => ?_)
  have cut_6_1 : ∀ (NN : Nat) (fl cc_ : Int) (AI_1 : gI) (H : Heap) (locs : List Loc) (ls : Array Slot), zr fl → zr cc_ → (gInv g gh R AR I AI_1) → (0 ≤ cc_ ∧ cc_ ≤ 4 ∧ fl = cc_) → (∀ b, b ≠ gh 30 0 → AI_1 b = AI b) → (∀ j : Nat, (j : Int) < cc_ → AI_1 (gh 30 0) j = tg t j) → (∀ j : Nat, cc_ ≤ (j : Int) → AI_1 (gh 30 0) j = AI (gh 30 0) j) → (cc_ ≤ lc.1 5) → (4 - cc_) < ((NN : Nat) : Int) → gH g I R J AI_1 AJ AR H → va_S (gA g) s.heap H locs → lv_has ls 8 [(7, .int (iI cc_)), (6, .int (iI fl)), (0, .ref a), (1, .ref ln), (2, .ref inr), (3, .int (iI i0)), (4, .ref inb), (5, .int (iI j0))] → W p l e rmX3_fillJoinedf s m ([.ref a, .ref ln, .ref inr, .int (iI i0), .ref inb, .int (iI j0)] : List Value).toArray below meth c H locs 0 0 (MQ below (gQv g (fun w : gS => I = w.1 ∧ R = w.2.1 ∧ J = w.2.2.1 ∧ AJ = w.2.2.2.2.1 ∧ AR = w.2.2.2.2.2 ∧ (gInv g gh R AR I (w.2.2.2.1)) ∧ (∀ b, b ≠ gh 30 0 → (w.2.2.2.1) b = AI b) ∧ (∀ j, j < 4 → (w.2.2.2.1) (gh 30 0) j = tg (jn lc t u) j) ∧ (∀ j : Nat, (lc.1 5).toNat + jc lc (lc.1 6).toNat ≤ j → j < 5 → (w.2.2.2.1) (gh 30 0) j = 0))) ([.ref a, .ref ln, .ref inr, .int (iI i0), .ref inb, .int (iI j0)] : List Value).toArray s 0 0 (gA g)) (F0 m 6 ls []) := by
    intro NN6
    induction NN6 with
    | zero =>
      intro fl cc_ AI_1 H locs ls zfl zcc_ hv hi fA9 hj1 hj3 hcc hm6 hH hS hl
      exact absurd hm6 (by omega)
    | succ NN6 ih6 =>
      intro fl cc_ AI_1 H locs ls zfl zcc_ hv hi fA9 hj1 hj3 hcc hm6 hH hS hl
      have hX : AI_1 (gh 0 inr) = AI (gh 0 inr) := by rw [fA9 _ (cells_k hv ha hin).1]
      have hY : AI_1 (gh 0 inb) = AI (gh 0 inb) := by rw [fA9 _ (cells_k hv ha hinb).1]
      have hlcN : lnC (I ln) (AI_1 (gh 3 ln)) lc := lnC_m hlc rfl (fA9 _ (ne_9 (ln_9 hv hln) (ro30 hv ha) (by decide)))
      refine lv_iload F.1 F.2.1 dX3_fillJoined_6 (lv_at hl 0 rfl) ?_
      refine lv_aload_n F.1 F.2.1 dX3_fillJoined_8 rfl (lv_at hl 3 rfl) ?_
      refine g_getI (ci := 0) (k := 5) F hH rfl (by decide) iX0 hln (by decide) rfl k96 dX3_fillJoined_9 ?_
      have b_3 := gI_line hv hln
      unfold vLineI at b_3
      refine z_icmp_ge (tgt := 38) F dX3_fillJoined_12 (by decide) zcc_ (zr_t _) (fun c_4 => ?_) (fun c_4 => ?_)
      · refine z_iconst F dX3_fillJoined_38 ?_
        refine lv_istore (lv' := [(7, .int (iI 0)), (6, .int (iI fl)), (0, .ref a), (1, .ref ln), (2, .ref inr), (3, .int (iI i0)), (4, .ref inb), (5, .int (iI j0))]) F.1 F.2.1 dX3_fillJoined_39 hl (by decide) rfl (fun ls hl => ?_)
        have cut_41_5 : ∀ (NN : Nat) (f2 c2 : Int) (AI_5 : gI) (H : Heap) (locs : List Loc) (ls : Array Slot), zr f2 → zr c2 → (gInv g gh R AR I AI_5) → (0 ≤ c2 ∧ c2 ≤ 4 ∧ 0 ≤ f2 ∧ f2 ≤ 4) → (∀ b, b ≠ gh 30 0 → AI_5 b = AI b) → (∀ j : Nat, (j : Int) < lc.1 5 → AI_5 (gh 30 0) j = tg t j) → (∀ d : Nat, (d : Int) < c2 → ¬ tld lc d → AI_5 (gh 30 0) ((lc.1 5).toNat + jc lc d) = tg u d) → (∀ j : Nat, (lc.1 5).toNat + jc lc c2.toNat ≤ j → AI_5 (gh 30 0) j = AI (gh 30 0) j) → (f2 = lc.1 5 + jc lc c2.toNat ∧ c2 ≤ lc.1 6) → (4 - c2) < ((NN : Nat) : Int) → gH g I R J AI_5 AJ AR H → va_S (gA g) s.heap H locs → lv_has ls 8 [(7, .int (iI c2)), (6, .int (iI f2)), (0, .ref a), (1, .ref ln), (2, .ref inr), (3, .int (iI i0)), (4, .ref inb), (5, .int (iI j0))] → W p l e rmX3_fillJoinedf s m ([.ref a, .ref ln, .ref inr, .int (iI i0), .ref inb, .int (iI j0)] : List Value).toArray below meth c H locs 0 0 (MQ below (gQv g (fun w : gS => I = w.1 ∧ R = w.2.1 ∧ J = w.2.2.1 ∧ AJ = w.2.2.2.2.1 ∧ AR = w.2.2.2.2.2 ∧ (gInv g gh R AR I (w.2.2.2.1)) ∧ (∀ b, b ≠ gh 30 0 → (w.2.2.2.1) b = AI b) ∧ (∀ j, j < 4 → (w.2.2.2.1) (gh 30 0) j = tg (jn lc t u) j) ∧ (∀ j : Nat, (lc.1 5).toNat + jc lc (lc.1 6).toNat ≤ j → j < 5 → (w.2.2.2.1) (gh 30 0) j = 0))) ([.ref a, .ref ln, .ref inr, .int (iI i0), .ref inb, .int (iI j0)] : List Value).toArray s 0 0 (gA g)) (F0 m 41 ls []) := by
          intro NN41
          induction NN41 with
          | zero =>
            intro f2 c2 AI_5 H locs ls zf2 zc2 hv hi fA9 hj1 hj2 hj3 hc2 hm41 hH hS hl
            exact absurd hm41 (by omega)
          | succ NN41 ih41 =>
            intro f2 c2 AI_5 H locs ls zf2 zc2 hv hi fA9 hj1 hj2 hj3 hc2 hm41 hH hS hl
            have hX : AI_5 (gh 0 inr) = AI (gh 0 inr) := by rw [fA9 _ (cells_k hv ha hin).1]
            have hY : AI_5 (gh 0 inb) = AI (gh 0 inb) := by rw [fA9 _ (cells_k hv ha hinb).1]
            have hlcN : lnC (I ln) (AI_5 (gh 3 ln)) lc := lnC_m hlc rfl (fA9 _ (ne_9 (ln_9 hv hln) (ro30 hv ha) (by decide)))
            refine lv_iload F.1 F.2.1 dX3_fillJoined_41 (lv_at hl 0 rfl) ?_
            refine lv_aload_n F.1 F.2.1 dX3_fillJoined_43 rfl (lv_at hl 3 rfl) ?_
            refine g_getI (ci := 0) (k := 6) F hH rfl (by decide) iX0 hln (by decide) rfl k103 dX3_fillJoined_44 ?_
            refine z_icmp_ge (tgt := 90) F dX3_fillJoined_47 (by decide) zc2 (zr_t _) (fun c_7 => ?_) (fun c_7 => ?_)
            · exact g_vret F hr hlk hH hS hz ⟨rfl, rfl, rfl, rfl, rfl, hv, fA9, by (try dsimp only); exact jn_of (fun j h _ => hj1 j h) (fun d h1 h2 => jn_e1 (c2 := c2) hj2 (by omega) (by omega) d h1 h2 hjo5 hjo1) (fun j h1 h2 => by rw [hj3 j (jn_e2 (by omega) (by omega) h1)]; exact hkz j h1 (by omega)) hjo1, by (try dsimp only); exact fun j h1 h2 => by rw [hj3 j (jn_e2 (by omega) (by omega) h1)]; exact hkz j h1 h2⟩ dX3_fillJoined_90
            · refine lv_iload F.1 F.2.1 dX3_fillJoined_50 (lv_at hl 1 rfl) ?_
              refine z_iconst F dX3_fillJoined_52 ?_
              refine z_icmp_ge (tgt := 90) F dX3_fillJoined_53 (by decide) zf2 ⟨by decide, by decide⟩ (fun c_8 => ?_) (fun c_8 => ?_)
              · exact g_vret F hr hlk hH hS hz ⟨rfl, rfl, rfl, rfl, rfl, hv, fA9, by (try dsimp only); exact jn_of (fun j h _ => hj1 j h) (fun d h1 h2 => jn_e1 (c2 := c2) hj2 (by omega) (by omega) d h1 h2 hjo5 hjo1) (fun j h1 h2 => by rw [hj3 j (jn_e2 (by omega) (by omega) h1)]; exact hkz j h1 (by omega)) hjo1, by (try dsimp only); exact fun j h1 h2 => by rw [hj3 j (jn_e2 (by omega) (by omega) h1)]; exact hkz j h1 h2⟩ dX3_fillJoined_90
              · refine lv_aload_n F.1 F.2.1 dX3_fillJoined_56 rfl (lv_at hl 3 rfl) ?_
                refine lv_iload F.1 F.2.1 dX3_fillJoined_57 (lv_at hl 0 rfl) ?_
                refine g_calli (g_runV (As := [.int (iI c2)]) (rest := []) (ci := 0) F hl.1 hH hS hz (c_X0_tellsSecondf l g gh I R J AI_5 AJ AR ln c2 zc2 hv hln) (cwV 1 F.2.2.2.2.1 gX3_fillJoined_X0_tellsSecond rfl rfl rfl hdX0_tellsSecond ⟨Nat.le_of_ble_eq_true rfl, Nat.le_of_ble_eq_true rfl⟩) hln (by decide) rfl rfl rfl (Nat.le_of_ble_eq_true rfl) dX3_fillJoined_59 ⟨Nat.zero_le _, Nat.zero_le _⟩) hS (fun v_15 I_9 R_10 J_11 AI_12 AJ_13 AR_14 H locs zv_15 hp_16 hH hS => ?_)
                dsimp only at hp_16
                obtain ⟨rfl, rfl, rfl, rfl, rfl, rfl, q_17, qts⟩ := hp_16
                have hts : (∃ j : Nat, (j : Int) < (I ln 8).toInt ∧ (AI_5 (gh 3 ln) (2 * j + 1)).toInt = c2) ↔ tld lc c2.toNat := tld_ln hlcN hk3 (by omega)
                clear hts
                have hts := propext (tld_ln hlcN hk3 (z := c2) (by omega))
                refine z_if_ne (tgt := 84) F dX3_fillJoined_62 (by decide) zv_15 (fun c_18 => ?_) (fun c_18 => ?_)
                · have hty : tld lc c2.toNat := by have := tIz_1 qts (by omega); rw [hts] at this; exact this
                  have hjs := jc_k hty
                  refine z_iinc (lv' := [(7, .int (iI (c2 + 1))), (6, .int (iI f2)), (0, .ref a), (1, .ref ln), (2, .ref inr), (3, .int (iI i0)), (4, .ref inb), (5, .int (iI j0))]) F dX3_fillJoined_84 hl (k := 0) rfl (by decide) rfl (fun ls hl => ?_)
                  refine z_goto (tgt := 41) F dX3_fillJoined_87 (by decide) ?_
                  exact ih41 f2 (c2 + 1) AI_5 H locs ls zf2 ⟨by omega, by omega⟩ hv (by omega) (fun b hb => fA9 b hb) hj1 (fun d hd hn => hj2 d (by by_cases e9 : (d : Int) = c2; (· exact absurd (by rw [show d = c2.toNat by omega]; exact hty) hn); (· omega)) hn) (by rw [show (c2 + 1).toNat = c2.toNat + 1 by omega, hjs]; exact hj3) (by rw [show (c2 + 1).toNat = c2.toNat + 1 by omega]; omega) (by omega) hH hS (lv_sub hl [0, 1, 2, 3, 4, 5, 6, 7] rfl)
                · refine lv_aload_n F.1 F.2.1 dX3_fillJoined_65 rfl (lv_at hl 2 rfl) ?_
                  obtain ⟨r_19a, r_19b⟩ := gR_rk0 hv ha
                  refine g_getR (ci := 3) (k := 0) F hH rfl (by decide) iX3 ha (by decide) rfl (b := gh 30 0) r_19a k11 dX3_fillJoined_66 ?_
                  refine lv_iload F.1 F.2.1 dX3_fillJoined_69 (lv_at hl 1 rfl) ?_
                  refine lv_aload F.1 F.2.1 dX3_fillJoined_71 (lv_at hl 6 rfl) ?_
                  refine lv_iload F.1 F.2.1 dX3_fillJoined_73 (lv_at hl 7 rfl) ?_
                  refine lv_iload F.1 F.2.1 dX3_fillJoined_75 (lv_at hl 0 rfl) ?_
                  obtain ⟨b_20a, b_20b, b_20c, b_20d, b_20e, b_20f, b_20g, b_20h⟩ := gI_rows hv hinb
                  refine g_calli (g_runV (As := [.int (iI j0), .int (iI c2)]) (rest := [.int (iI f2), .ref (gh 30 0)]) (ci := 4) F hl.1 hH hS hz (c_X4_cell l g gh I R J AI_5 AJ AR inb j0 c2 zj0 zc2 hv hinb (by omega) (by omega) (by omega) (by omega)) (cwV 2 F.2.2.2.2.1 gX3_fillJoined_X4_cell rfl rfl rfl hdX4_cell ⟨Nat.le_of_ble_eq_true rfl, Nat.le_of_ble_eq_true rfl⟩) hinb (by decide) rfl rfl rfl (Nat.le_of_ble_eq_true rfl) dX3_fillJoined_77 ⟨Nat.zero_le _, Nat.zero_le _⟩) hS (fun v_27 I_21 R_22 J_23 AI_24 AJ_25 AR_26 H locs zv_27 hp_28 hH hS => ?_)
                  dsimp only at hp_28
                  obtain ⟨rfl, rfl, rfl, rfl, rfl, rfl, qc1⟩ := hp_28
                  have hx80 : 0 ≤ f2 ∧ f2 < ((5 : Nat) : Int) ∧ f2 ≤ 2147483647 := ⟨by omega, by omega, by omega⟩
                  refine g_iast F hH hS r_19b hx80.1 hx80.2.1 hx80.2.2 dX3_fillJoined_80 (fun H locs hH hS => ?_)
                  obtain ⟨AI_29, eAI_29⟩ : ∃ qQ, qQ = gup2 AI_5 (gh 30 0) (f2).toNat (iI (v_27)) := ⟨_, rfl⟩
                  rw [← eAI_29] at hH
                  have kAI_29 : ∀ b, b ≠ (gh 30 0) → AI_29 b = AI_5 b := fun b hb => by rw [eAI_29]; exact funext fun j => gup2_a _ _ hb
                  have hv : gInv g gh R AR I AI_29 := gInv_plain hv (ro30 hv ha) kAI_29
                  have hnt : ¬ tld lc c2.toNat := fun h9 => tIz_0 qts (by omega) (by rw [hts]; exact h9)
                  have hjs := jc_s hnt
                  have hj1 : ∀ j : Nat, (j : Int) < lc.1 5 → AI_29 (gh 30 0) j = tg t j := fun j hj => by rw [eAI_29, gup2_k _ _ (by omega)]; exact hj1 j hj
                  have hj2 : ∀ d : Nat, (d : Int) < c2 + 1 → ¬ tld lc d → AI_29 (gh 30 0) ((lc.1 5).toNat + jc lc d) = tg u d := fun d hd hn => by
                    by_cases e9 : (d : Int) = c2
                    · rw [eAI_29, gup2_e _ _ (by rw [show d = c2.toNat by omega]; omega), qc1, iI_self, hY, ← hu d (by omega)]; congr 1; omega
                    · have hlt := jc_lt (q := c2.toNat) hn (by omega)
                      rw [eAI_29, gup2_k _ _ (by omega)]; exact hj2 d (by omega) hn
                  have hj3 : ∀ j : Nat, (lc.1 5).toNat + jc lc (c2.toNat + 1) ≤ j → AI_29 (gh 30 0) j = AI (gh 30 0) j := fun j hj => by rw [eAI_29, gup2_k _ _ (by omega)]; exact hj3 j (by omega)
                  refine z_iinc (lv' := [(6, .int (iI (f2 + 1))), (7, .int (iI c2)), (0, .ref a), (1, .ref ln), (2, .ref inr), (3, .int (iI i0)), (4, .ref inb), (5, .int (iI j0))]) F dX3_fillJoined_81 hl (k := 1) rfl (by decide) rfl (fun ls hl => ?_)
                  refine z_iinc (lv' := [(7, .int (iI (c2 + 1))), (6, .int (iI (f2 + 1))), (0, .ref a), (1, .ref ln), (2, .ref inr), (3, .int (iI i0)), (4, .ref inb), (5, .int (iI j0))]) F dX3_fillJoined_84 hl (k := 1) rfl (by decide) rfl (fun ls hl => ?_)
                  refine z_goto (tgt := 41) F dX3_fillJoined_87 (by decide) ?_
                  exact ih41 (f2 + 1) (c2 + 1) AI_29 H locs ls ⟨by omega, by omega⟩ ⟨by omega, by omega⟩ hv (by omega) (fun b hb => (kAI_29 b hb).trans (fA9 b hb)) hj1 hj2 (by rw [show (c2 + 1).toNat = c2.toNat + 1 by omega]; exact hj3) (by rw [show (c2 + 1).toNat = c2.toNat + 1 by omega]; omega) (by omega) hH hS (lv_sub hl [0, 1, 2, 3, 4, 5, 6, 7] rfl)
        exact cut_41_5 (((4 - 0) + 1 : Int).toNat) fl 0 AI_1 H locs ls zfl ⟨by decide, by decide⟩ hv (by omega) (fun b hb => fA9 b hb) (fun j hj => hj1 j (by omega)) (fun d hd => absurd hd (by omega)) (fun j hj => hj3 j (by omega)) ⟨by show _ = _ + ((0 : Nat) : Int); omega, by omega⟩ (by omega) hH hS (lv_sub hl [0, 1, 2, 3, 4, 5, 6, 7] rfl)
      · refine lv_aload_n F.1 F.2.1 dX3_fillJoined_15 rfl (lv_at hl 2 rfl) ?_
        obtain ⟨r_30a, r_30b⟩ := gR_rk0 hv ha
        refine g_getR (ci := 3) (k := 0) F hH rfl (by decide) iX3 ha (by decide) rfl (b := gh 30 0) r_30a k11 dX3_fillJoined_16 ?_
        refine lv_iload F.1 F.2.1 dX3_fillJoined_19 (lv_at hl 1 rfl) ?_
        refine lv_aload_n F.1 F.2.1 dX3_fillJoined_21 rfl (lv_at hl 4 rfl) ?_
        refine lv_iload_n F.1 F.2.1 dX3_fillJoined_22 rfl (lv_at hl 5 rfl) ?_
        refine lv_iload F.1 F.2.1 dX3_fillJoined_23 (lv_at hl 0 rfl) ?_
        obtain ⟨b_31a, b_31b, b_31c, b_31d, b_31e, b_31f, b_31g, b_31h⟩ := gI_rows hv hin
        refine g_calli (g_runV (As := [.int (iI i0), .int (iI cc_)]) (rest := [.int (iI fl), .ref (gh 30 0)]) (ci := 4) F hl.1 hH hS hz (c_X4_cell l g gh I R J AI_1 AJ AR inr i0 cc_ zi0 zcc_ hv hin (by omega) (by omega) (by omega) (by omega)) (cwV 2 F.2.2.2.2.1 gX3_fillJoined_X4_cell rfl rfl rfl hdX4_cell ⟨Nat.le_of_ble_eq_true rfl, Nat.le_of_ble_eq_true rfl⟩) hin (by decide) rfl rfl rfl (Nat.le_of_ble_eq_true rfl) dX3_fillJoined_25 ⟨Nat.zero_le _, Nat.zero_le _⟩) hS (fun v_38 I_32 R_33 J_34 AI_35 AJ_36 AR_37 H locs zv_38 hp_39 hH hS => ?_)
        dsimp only at hp_39
        obtain ⟨rfl, rfl, rfl, rfl, rfl, rfl, qc0⟩ := hp_39
        have hx28 : 0 ≤ fl ∧ fl < ((5 : Nat) : Int) ∧ fl ≤ 2147483647 := ⟨by omega, by omega, by omega⟩
        refine g_iast F hH hS r_30b hx28.1 hx28.2.1 hx28.2.2 dX3_fillJoined_28 (fun H locs hH hS => ?_)
        obtain ⟨AI_40, eAI_40⟩ : ∃ qQ, qQ = gup2 AI_1 (gh 30 0) (fl).toNat (iI (v_38)) := ⟨_, rfl⟩
        rw [← eAI_40] at hH
        have kAI_40 : ∀ b, b ≠ (gh 30 0) → AI_40 b = AI_1 b := fun b hb => by rw [eAI_40]; exact funext fun j => gup2_a _ _ hb
        have hv : gInv g gh R AR I AI_40 := gInv_plain hv (ro30 hv ha) kAI_40
        have hj1 : ∀ j : Nat, (j : Int) < cc_ + 1 → AI_40 (gh 30 0) j = tg t j := fun j hj => by
          by_cases e9 : (j : Int) = cc_
          · rw [eAI_40, gup2_e _ _ (by omega), qc0, iI_self, hX, ← ht j (by omega)]; congr 1; omega
          · rw [eAI_40, gup2_k _ _ (by omega)]; exact hj1 j (by omega)
        have hj3 : ∀ j : Nat, cc_ + 1 ≤ (j : Int) → AI_40 (gh 30 0) j = AI (gh 30 0) j := fun j hj => by rw [eAI_40, gup2_k _ _ (by omega)]; exact hj3 j (by omega)
        refine z_iinc (lv' := [(6, .int (iI (fl + 1))), (7, .int (iI cc_)), (0, .ref a), (1, .ref ln), (2, .ref inr), (3, .int (iI i0)), (4, .ref inb), (5, .int (iI j0))]) F dX3_fillJoined_29 hl (k := 1) rfl (by decide) rfl (fun ls hl => ?_)
        refine z_iinc (lv' := [(7, .int (iI (cc_ + 1))), (6, .int (iI (fl + 1))), (0, .ref a), (1, .ref ln), (2, .ref inr), (3, .int (iI i0)), (4, .ref inb), (5, .int (iI j0))]) F dX3_fillJoined_32 hl (k := 1) rfl (by decide) rfl (fun ls hl => ?_)
        refine z_goto (tgt := 6) F dX3_fillJoined_35 (by decide) ?_
        exact ih6 (fl + 1) (cc_ + 1) AI_40 H locs ls ⟨by omega, by omega⟩ ⟨by omega, by omega⟩ hv (by omega) (fun b hb => (kAI_40 b hb).trans (fA9 b hb)) hj1 hj3 (by omega) (by omega) hH hS (lv_sub hl [0, 1, 2, 3, 4, 5, 6, 7] rfl)
  exact cut_6_1 (((4 - 0) + 1 : Int).toNat) 0 0 AI H locs ls ⟨by decide, by decide⟩ ⟨by decide, by decide⟩ hv (by omega) (fun _ _ => rfl) (fun j hj => absurd hj (by omega)) (fun _ _ => rfl) (by omega) (by omega) hH hS (lv_sub hl [0, 1, 2, 3, 4, 5, 6, 7] rfl)

def rmX3_joinf : Room := { frames := 3, cells := 0, slots := 0, locals := 108 }
set_option maxHeartbeats 4000000 in
set_option maxRecDepth 100000 in
/-- a join -/
theorem c_X3_joinf (l : Launch) (g : gG) (gh : gGh) (lc : LC) (n my : Nat) (I : gI) (R : gR) (J : gJ) (AI : gI) (AJ : gJ) (AR : gR) (a : Nat) (ln : Nat) (inr : Nat) (inb : Nat) (out : Nat) (hv : gInv g gh R AR I AI) (ha : gO g a 3) (hln : gO g ln 0) (hin : gO g inr 4) (hinb : gO g inb 4) (hout : gO g out 4) (h4 : gh 2 out = 4) (hkd : (I ln 0).toInt = 3) (hlc : lnC (I ln) (AI (gh 3 ln)) lc) (hk3 : lc.1 0 = 3) (hjo : jOK lc) (hne : inr ≠ out) (h5 : gh 2 inr = 4) (hnx : (I inr 3).toInt = (n : Int)) (hA : okB (AI (gh 0 inr)) n) (hne2 : inb ≠ out) (h6 : gh 2 inb = 4) (hny : (I inb 3).toInt = (my : Int)) (hB : okB (AI (gh 0 inb)) my) (zx : zB (lc.1 5) (AI (gh 0 inr)) n) (zy : zB (lc.1 6) (AI (gh 0 inb)) my) (hl0 : (I out 3).toInt = 0) (hlm : gh 1 out = 120) : gMet l g yX3_join wsX3_join rmX3_joinf [.ref a, .ref ln, .ref inr, .ref inb, .ref out] (I, R, J, AI, AJ, AR) (gQi g (fun (z : Int) (w : gS) => R = w.2.1 ∧ J = w.2.2.1 ∧ AJ = w.2.2.2.2.1 ∧ AR = w.2.2.2.2.2 ∧ (gInv g gh R AR (w.1) (w.2.2.2.1)) ∧ (rF g I (w.1)) ∧ (-4 ≤ z ∧ z ≤ 0) ∧ (kI out I (w.1)) ∧ (kA gh out AI (w.2.2.2.1)) ∧ ((z = 0 ∧ ¬ 1500 < pJ lc (AI (gh 0 inr)) (AI (gh 0 inb)) my n ∧ isB ((w.2.2.2.1) (gh 0 out)) ((w.1) out 3).toInt.toNat (sJ lc (AI (gh 0 inr)) (AI (gh 0 inb)) my n) zM ∧ ((w.1) out 3).toInt ≤ 120) ∨ (z = -3 ∧ (1500 < pJ lc (AI (gh 0 inr)) (AI (gh 0 inb)) my n ∨ bigP 120 (fun t => sJ lc (AI (gh 0 inr)) (AI (gh 0 inb)) my n t ≠ 0)))))) := by
  refine gStart (cc := cX3_join) (maxL := 8) (ret := (some (.int))) (by decide) rfl (Nat.le_of_ble_eq_true rfl) ?_
  intro p e s m below meth c ls F hr hlk hH hz hS hl
  have hl : lv_has ls 8 [(0, .ref a), (1, .ref ln), (2, .ref inr), (3, .ref inb), (4, .ref out)] := hl
  have hS : va_S (gA g) s.heap s.heap [] := hS
  obtain ⟨H, hHe⟩ : ∃ H : Heap, H = s.heap := ⟨_, rfl⟩
  obtain ⟨locs, hlo⟩ : ∃ k : List Loc, k = [] := ⟨_, rfl⟩
  have hH : gH g I R J AI AJ AR H := by rw [hHe]; exact hH
  have hS : va_S (gA g) s.heap H locs := by rw [hHe, hlo]; exact hS
  suffices hw : W p l e rmX3_joinf s m ([.ref a, .ref ln, .ref inr, .ref inb, .ref out] : List Value).toArray below meth c H locs 0 0 (MQ below (gQi g (fun (z : Int) (w : gS) => R = w.2.1 ∧ J = w.2.2.1 ∧ AJ = w.2.2.2.2.1 ∧ AR = w.2.2.2.2.2 ∧ (gInv g gh R AR (w.1) (w.2.2.2.1)) ∧ (rF g I (w.1)) ∧ (-4 ≤ z ∧ z ≤ 0) ∧ (kI out I (w.1)) ∧ (kA gh out AI (w.2.2.2.1)) ∧ ((z = 0 ∧ ¬ 1500 < pJ lc (AI (gh 0 inr)) (AI (gh 0 inb)) my n ∧ isB ((w.2.2.2.1) (gh 0 out)) ((w.1) out 3).toInt.toNat (sJ lc (AI (gh 0 inr)) (AI (gh 0 inb)) my n) zM ∧ ((w.1) out 3).toInt ≤ 120) ∨ (z = -3 ∧ (1500 < pJ lc (AI (gh 0 inr)) (AI (gh 0 inb)) my n ∨ bigP 120 (fun t => sJ lc (AI (gh 0 inr)) (AI (gh 0 inb)) my n t ≠ 0)))))) ([.ref a, .ref ln, .ref inr, .ref inb, .ref out] : List Value).toArray s 0 0 (gA g)) (F0 m 0 ls []) by
    rw [hHe, hlo] at hw; exact hw
  clear hHe hlo
  have rf : rF g I I := rF_r
  have fI : kI out I I := kI_r
  have fA : kA gh out AI AI := kA_r
  have hjo5 := hjo.2.2.2.2.1
  have iX4 : ∀ w ∈ u_ws RX4 TX4 4, w ∈ wsX3_join := (by decide +kernel)
  have iX3 : ∀ w ∈ u_ws RX3 TX3 3, w ∈ wsX3_join := (by decide +kernel)
  have k23 : Cond.fieldLink RX3 23 (TX4 3).1 (TX4 3).2.1 (TX4 3).2.2.1 ∈ wsX3_join := List.mem_of_getElem? (i := 1) rfl
  have k63 : Cond.fieldLink RX3 63 (TX4 2).1 (TX4 2).2.1 (TX4 2).2.2.1 ∈ wsX3_join := List.mem_of_getElem? (i := 2) rfl
  have k11 : Cond.fieldLink RX3 11 (TX3 0).1 (TX3 0).2.1 (TX3 0).2.2.1 ∈ wsX3_join := List.mem_of_getElem? (i := 3) rfl
  refine z_iconst F dX3_join_0 ?_
  refine lv_istore (lv' := [(5, .int (iI 0)), (0, .ref a), (1, .ref ln), (2, .ref inr), (3, .ref inb), (4, .ref out)]) F.1 F.2.1 dX3_join_1 hl (by decide) rfl (fun ls hl => ?_)
  refine lv_aload_n F.1 F.2.1 dX3_join_3 rfl (lv_at hl 1 rfl) ?_
  refine g_callv (g_runV (As := []) (rest := []) (ci := 3) F hl.1 hH hS hz (c_X3_clearKeyf l g gh I R J AI AJ AR a hv ha) (cwV 0 F.2.2.2.2.1 gX3_join_X3_clearKey rfl rfl rfl hdX3_clearKey ⟨Nat.le_of_ble_eq_true rfl, Nat.le_of_ble_eq_true rfl⟩) ha (by decide) rfl rfl rfl (Nat.le_of_ble_eq_true rfl) dX3_join_4 ⟨Nat.zero_le _, Nat.zero_le _⟩) hS (fun I_1 R_2 J_3 AI_4 AJ_5 AR_6 H locs hp_7 hH hS => ?_)
  dsimp only at hp_7
  obtain ⟨rfl, rfl, rfl, rfl, rfl, hv, q_8, hkz0⟩ := hp_7
  have fA := kA_t fA (kA_0 q_8)
  refine z_iconst F dX3_join_7 ?_
  refine lv_istore (lv' := [(6, .int (iI 0)), (5, .int (iI 0)), (0, .ref a), (1, .ref ln), (2, .ref inr), (3, .ref inb), (4, .ref out)]) F.1 F.2.1 dX3_join_8 hl (by decide) rfl (fun ls hl => ?_)
  have cut_10_10 : ∀ (NN : Nat) (prs i : Int) (I_9 : gI) (AI_10 : gI) (H : Heap) (locs : List Loc) (ls : Array Slot), zr prs → zr i → (gInv g gh R AR I_9 AI_10) → (rF g I I_9) → ((I_9 ln 0).toInt = 3) → (0 ≤ i ∧ i ≤ 240) → (0 ≤ prs ∧ prs ≤ 1500) → (kI out I I_9) → (kA gh out AI AI_10) → (∀ j : Nat, (lc.1 5).toNat + jc lc (lc.1 6).toNat ≤ j → j < 5 → AI_10 (gh 30 0) j = 0) → (isB (AI_10 (gh 0 out)) (I_9 out 3).toInt.toNat (sJ lc (AI (gh 0 inr)) (AI (gh 0 inb)) my i.toNat) zM) → (0 ≤ (I_9 out 3).toInt ∧ 0 ≤ i ∧ i ≤ (n : Int) ∧ prs = ((pJ lc (AI (gh 0 inr)) (AI (gh 0 inb)) my i.toNat : Nat) : Int)) → (240 - i) < ((NN : Nat) : Int) → gH g I_9 R J AI_10 AJ AR H → va_S (gA g) s.heap H locs → lv_has ls 8 [(6, .int (iI i)), (5, .int (iI prs)), (0, .ref a), (1, .ref ln), (2, .ref inr), (3, .ref inb), (4, .ref out)] → W p l e rmX3_joinf s m ([.ref a, .ref ln, .ref inr, .ref inb, .ref out] : List Value).toArray below meth c H locs 0 0 (MQ below (gQi g (fun (z : Int) (w : gS) => R = w.2.1 ∧ J = w.2.2.1 ∧ AJ = w.2.2.2.2.1 ∧ AR = w.2.2.2.2.2 ∧ (gInv g gh R AR (w.1) (w.2.2.2.1)) ∧ (rF g I (w.1)) ∧ (-4 ≤ z ∧ z ≤ 0) ∧ (kI out I (w.1)) ∧ (kA gh out AI (w.2.2.2.1)) ∧ ((z = 0 ∧ ¬ 1500 < pJ lc (AI (gh 0 inr)) (AI (gh 0 inb)) my n ∧ isB ((w.2.2.2.1) (gh 0 out)) ((w.1) out 3).toInt.toNat (sJ lc (AI (gh 0 inr)) (AI (gh 0 inb)) my n) zM ∧ ((w.1) out 3).toInt ≤ 120) ∨ (z = -3 ∧ (1500 < pJ lc (AI (gh 0 inr)) (AI (gh 0 inb)) my n ∨ bigP 120 (fun t => sJ lc (AI (gh 0 inr)) (AI (gh 0 inb)) my n t ≠ 0)))))) ([.ref a, .ref ln, .ref inr, .ref inb, .ref out] : List Value).toArray s 0 0 (gA g)) (F0 m 10 ls []) := by
    intro NN10
    induction NN10 with
    | zero =>
      intro prs i I_9 AI_10 H locs ls zprs zi hv rf hkd hi hpr fI fA hkz hjb hjn9 hm10 hH hS hl
      exact absurd hm10 (by omega)
    | succ NN10 ih10 =>
      intro prs i I_9 AI_10 H locs ls zprs zi hv rf hkd hi hpr fI fA hkz hjb hjn9 hm10 hH hS hl
      have hX : AI_10 (gh 0 inr) = AI (gh 0 inr) := kA_x fA hv ha hout hin hne
      have hXi : I_9 inr = I inr := fI inr hne
      have hXn : (I_9 inr 3).toInt = (n : Int) := by rw [hXi]; exact hnx
      have hY : AI_10 (gh 0 inb) = AI (gh 0 inb) := kA_x fA hv ha hout hinb hne2
      have hYi : I_9 inb = I inb := fI inb hne2
      have hYm : (I_9 inb 3).toInt = (my : Int) := by rw [hYi]; exact hny
      have hlcN : lnC (I_9 ln) (AI_10 (gh 3 ln)) lc := lnC_m hlc (fI ln (gO_ne hln hout (by decide))) (kA_l fA hv ha hout hln)
      refine lv_iload F.1 F.2.1 dX3_join_10 (lv_at hl 0 rfl) ?_
      refine lv_aload_n F.1 F.2.1 dX3_join_12 rfl (lv_at hl 4 rfl) ?_
      refine g_getI (ci := 4) (k := 3) F hH rfl (by decide) iX4 hin (by decide) rfl k23 dX3_join_13 ?_
      obtain ⟨b_12a, b_12b, b_12c, b_12d, b_12e, b_12f, b_12g, b_12h⟩ := gI_rows hv hin
      refine z_icmp_ge (tgt := 118) F dX3_join_16 (by decide) zi (zr_t _) (fun c_13 => ?_) (fun c_13 => ?_)
      · refine z_iconst F dX3_join_118 ?_
        exact g_iret F hr hlk hH hS hz ⟨by decide, by decide⟩ ⟨rfl, rfl, rfl, rfl, hv, rf, by first | omega | rfl | (dsimp only; omega), fI, fA, Or.inl ⟨rfl, by rw [← show i.toNat = n by omega]; omega, by rw [← show i.toNat = n by omega]; exact hjb, by have h9 := (gI_rows hv hout).2.2.2.1; (try dsimp only); omega⟩⟩ dX3_join_119
      · refine z_iconst F dX3_join_19 ?_
        refine lv_istore (lv' := [(7, .int (iI 0)), (6, .int (iI i)), (5, .int (iI prs)), (0, .ref a), (1, .ref ln), (2, .ref inr), (3, .ref inb), (4, .ref out)]) F.1 F.2.1 dX3_join_20 hl (by decide) rfl (fun ls hl => ?_)
        have cut_22_15 : ∀ (NN : Nat) (pr2 j : Int) (I_14 : gI) (AI_15 : gI) (H : Heap) (locs : List Loc) (ls : Array Slot), zr pr2 → zr j → (gInv g gh R AR I_14 AI_15) → (rF g I I_14) → ((I_14 ln 0).toInt = 3) → (0 ≤ j ∧ j ≤ 240) → (0 ≤ pr2 ∧ pr2 ≤ 1500) → (kI out I I_14) → (kA gh out AI AI_15) → (∀ j : Nat, (lc.1 5).toNat + jc lc (lc.1 6).toNat ≤ j → j < 5 → AI_15 (gh 30 0) j = 0) → (isB (AI_15 (gh 0 out)) (I_14 out 3).toInt.toNat (sJ1 lc (tup (AI (gh 0 inr)) i.toNat) ((AI (gh 0 inr)) (6 * i.toNat + 4)) (AI (gh 0 inb)) j.toNat (sJ lc (AI (gh 0 inr)) (AI (gh 0 inb)) my i.toNat)) zM) → (0 ≤ (I_14 out 3).toInt ∧ 0 ≤ j ∧ j ≤ (my : Int) ∧ pr2 = ((pJ lc (AI (gh 0 inr)) (AI (gh 0 inb)) my i.toNat : Nat) : Int) + ((pC lc (tup (AI (gh 0 inr)) i.toNat) (AI (gh 0 inb)) j.toNat : Nat) : Int)) → (240 - j) < ((NN : Nat) : Int) → gH g I_14 R J AI_15 AJ AR H → va_S (gA g) s.heap H locs → lv_has ls 8 [(7, .int (iI j)), (6, .int (iI i)), (5, .int (iI pr2)), (0, .ref a), (1, .ref ln), (2, .ref inr), (3, .ref inb), (4, .ref out)] → W p l e rmX3_joinf s m ([.ref a, .ref ln, .ref inr, .ref inb, .ref out] : List Value).toArray below meth c H locs 0 0 (MQ below (gQi g (fun (z : Int) (w : gS) => R = w.2.1 ∧ J = w.2.2.1 ∧ AJ = w.2.2.2.2.1 ∧ AR = w.2.2.2.2.2 ∧ (gInv g gh R AR (w.1) (w.2.2.2.1)) ∧ (rF g I (w.1)) ∧ (-4 ≤ z ∧ z ≤ 0) ∧ (kI out I (w.1)) ∧ (kA gh out AI (w.2.2.2.1)) ∧ ((z = 0 ∧ ¬ 1500 < pJ lc (AI (gh 0 inr)) (AI (gh 0 inb)) my n ∧ isB ((w.2.2.2.1) (gh 0 out)) ((w.1) out 3).toInt.toNat (sJ lc (AI (gh 0 inr)) (AI (gh 0 inb)) my n) zM ∧ ((w.1) out 3).toInt ≤ 120) ∨ (z = -3 ∧ (1500 < pJ lc (AI (gh 0 inr)) (AI (gh 0 inb)) my n ∨ bigP 120 (fun t => sJ lc (AI (gh 0 inr)) (AI (gh 0 inb)) my n t ≠ 0)))))) ([.ref a, .ref ln, .ref inr, .ref inb, .ref out] : List Value).toArray s 0 0 (gA g)) (F0 m 22 ls []) := by
          intro NN22
          induction NN22 with
          | zero =>
            intro pr2 j I_14 AI_15 H locs ls zpr2 zj hv rf hkd hj hpr2 fI fA hkz hjb hjn9 hm22 hH hS hl
            exact absurd hm22 (by omega)
          | succ NN22 ih22 =>
            intro pr2 j I_14 AI_15 H locs ls zpr2 zj hv rf hkd hj hpr2 fI fA hkz hjb hjn9 hm22 hH hS hl
            have hX : AI_15 (gh 0 inr) = AI (gh 0 inr) := kA_x fA hv ha hout hin hne
            have hXi : I_14 inr = I inr := fI inr hne
            have hXn : (I_14 inr 3).toInt = (n : Int) := by rw [hXi]; exact hnx
            have hY : AI_15 (gh 0 inb) = AI (gh 0 inb) := kA_x fA hv ha hout hinb hne2
            have hYi : I_14 inb = I inb := fI inb hne2
            have hYm : (I_14 inb 3).toInt = (my : Int) := by rw [hYi]; exact hny
            have hlcN : lnC (I_14 ln) (AI_15 (gh 3 ln)) lc := lnC_m hlc (fI ln (gO_ne hln hout (by decide))) (kA_l fA hv ha hout hln)
            refine lv_iload F.1 F.2.1 dX3_join_22 (lv_at hl 0 rfl) ?_
            refine lv_aload_n F.1 F.2.1 dX3_join_24 rfl (lv_at hl 6 rfl) ?_
            refine g_getI (ci := 4) (k := 3) F hH rfl (by decide) iX4 hinb (by decide) rfl k23 dX3_join_25 ?_
            obtain ⟨b_17a, b_17b, b_17c, b_17d, b_17e, b_17f, b_17g, b_17h⟩ := gI_rows hv hinb
            refine z_icmp_ge (tgt := 112) F dX3_join_28 (by decide) zj (zr_t _) (fun c_18 => ?_) (fun c_18 => ?_)
            · have hjb8 := hjb
              have hjn8 := hjn9.2.2.2
              rw [show j.toNat = my by omega] at hjb8 hjn8
              have hpj8 : pr2 = ((pJ lc (AI (gh 0 inr)) (AI (gh 0 inb)) my (i + 1).toNat : Nat) : Int) := by rw [show (i + 1).toNat = i.toNat + 1 by omega, pJ]; omega
              refine z_iinc (lv' := [(6, .int (iI (i + 1))), (7, .int (iI j)), (5, .int (iI pr2)), (0, .ref a), (1, .ref ln), (2, .ref inr), (3, .ref inb), (4, .ref out)]) F dX3_join_112 hl (k := 1) rfl (by decide) rfl (fun ls hl => ?_)
              refine z_goto (tgt := 10) F dX3_join_115 (by decide) ?_
              exact ih10 pr2 (i + 1) I_14 AI_15 H locs ls zpr2 ⟨by omega, by omega⟩ hv rf (by omega) (by omega) (by omega) fI fA hkz (by rw [show (i + 1).toNat = i.toNat + 1 by omega, sJ]; exact hjb8) ⟨by omega, by omega, by omega, hpj8⟩ (by omega) hH hS (lv_sub hl [0, 2, 3, 4, 5, 6, 7] rfl)
            · refine lv_aload_n F.1 F.2.1 dX3_join_31 rfl (lv_at hl 4 rfl) ?_
              refine lv_aload_n F.1 F.2.1 dX3_join_32 rfl (lv_at hl 5 rfl) ?_
              obtain ⟨b_19a, b_19b, b_19c, b_19d, b_19e, b_19f, b_19g, b_19h⟩ := gI_rows hv hin
              obtain ⟨r_20a, r_20b⟩ := gR_cells hv hin
              refine g_getR (ci := 4) (k := 2) F hH rfl (by decide) iX4 hin (by decide) rfl (b := gh 0 inr) r_20a k63 dX3_join_33 ?_
              refine lv_iload F.1 F.2.1 dX3_join_36 (lv_at hl 1 rfl) ?_
              refine z_bipush F dX3_join_38 (by decide) ?_
              refine z_imul F dX3_join_40 ?_
              refine lv_aload_n F.1 F.2.1 dX3_join_41 rfl (lv_at hl 6 rfl) ?_
              obtain ⟨r_21a, r_21b⟩ := gR_cells hv hinb
              refine g_getR (ci := 4) (k := 2) F hH rfl (by decide) iX4 hinb (by decide) rfl (b := gh 0 inb) r_21a k63 dX3_join_42 ?_
              refine lv_iload F.1 F.2.1 dX3_join_45 (lv_at hl 0 rfl) ?_
              refine z_bipush F dX3_join_47 (by decide) ?_
              refine z_imul F dX3_join_49 ?_
              have b_22 := gI_line hv hln
              unfold vLineI at b_22
              refine g_calli (g_runV (As := [.ref (gh 0 inr), .int (iI (i * 6)), .ref (gh 0 inb), .int (iI (j * 6))]) (rest := []) (ci := 0) F hl.1 hH hS hz (c_X0_pairsAreAlikef l g gh (6 * gh 1 inr) (6 * gh 1 inb) lc (tup (AI (gh 0 inr)) i.toNat) (tup (AI (gh 0 inb)) j.toNat) I_14 R J AI_15 AJ AR ln (gh 0 inr) (i * 6) (gh 0 inb) (j * 6) ⟨by omega, by omega⟩ ⟨by omega, by omega⟩ hv hln r_20b (by omega) (by omega) (by omega) (by omega) r_21b (by omega) (by omega) (by omega) hlcN hk3 (fun j hj => by rw [hX]; exact rowt (by omega) j hj) (fun j hj => by rw [hY]; exact rowt (by omega) j hj)) (cwV 4 F.2.2.2.2.1 gX3_join_X0_pairsAreAlike rfl rfl rfl hdX0_pairsAreAlike ⟨Nat.le_of_ble_eq_true rfl, Nat.le_of_ble_eq_true rfl⟩) hln (by decide) rfl rfl rfl (Nat.le_of_ble_eq_true rfl) dX3_join_50 ⟨Nat.zero_le _, Nat.zero_le _⟩) hS (fun v_29 I_23 R_24 J_25 AI_26 AJ_27 AR_28 H locs zv_29 hp_30 hH hS => ?_)
              dsimp only at hp_30
              obtain ⟨rfl, rfl, rfl, rfl, rfl, rfl, q_31, qpa⟩ := hp_30
              refine z_if_eq (tgt := 106) F dX3_join_53 (by decide) zv_29 (fun c_32 => ?_) (fun c_32 => ?_)
              · have hal : ¬ alk lc (tup (AI (gh 0 inr)) i.toNat) (tup (AI (gh 0 inb)) j.toNat) := tIz_0 qpa (by omega)
                have hpc := pC_n hal
                have hjb9 := hjb
                rw [← sJ1_n hal, show j.toNat + 1 = (j + 1).toNat by omega] at hjb9
                refine z_iinc (lv' := [(7, .int (iI (j + 1))), (6, .int (iI i)), (5, .int (iI pr2)), (0, .ref a), (1, .ref ln), (2, .ref inr), (3, .ref inb), (4, .ref out)]) F dX3_join_106 hl (k := 0) rfl (by decide) rfl (fun ls hl => ?_)
                refine z_goto (tgt := 22) F dX3_join_109 (by decide) ?_
                exact ih22 pr2 (j + 1) I_14 AI_15 H locs ls zpr2 ⟨by omega, by omega⟩ hv rf (by omega) (by omega) (by omega) fI fA hkz hjb9 ⟨by omega, by omega, by omega, by rw [show (j + 1).toNat = j.toNat + 1 by omega]; omega⟩ (by omega) hH hS (lv_sub hl [0, 1, 2, 3, 4, 5, 6, 7] rfl)
              · have hal : alk lc (tup (AI (gh 0 inr)) i.toNat) (tup (AI (gh 0 inb)) j.toNat) := tIz_1 qpa (by omega)
                have hpc := pC_y hal
                refine z_iinc (lv' := [(5, .int (iI (pr2 + 1))), (7, .int (iI j)), (6, .int (iI i)), (0, .ref a), (1, .ref ln), (2, .ref inr), (3, .ref inb), (4, .ref out)]) F dX3_join_56 hl (k := 2) rfl (by decide) rfl (fun ls hl => ?_)
                refine lv_aload_n F.1 F.2.1 dX3_join_59 rfl (lv_at hl 3 rfl) ?_
                refine lv_aload_n F.1 F.2.1 dX3_join_60 rfl (lv_at hl 4 rfl) ?_
                refine lv_aload_n F.1 F.2.1 dX3_join_61 rfl (lv_at hl 5 rfl) ?_
                refine lv_iload F.1 F.2.1 dX3_join_62 (lv_at hl 2 rfl) ?_
                refine lv_aload_n F.1 F.2.1 dX3_join_64 rfl (lv_at hl 6 rfl) ?_
                refine lv_iload F.1 F.2.1 dX3_join_65 (lv_at hl 1 rfl) ?_
                refine g_callv (g_runV (As := [.ref ln, .ref inr, .int (iI i), .ref inb, .int (iI j)]) (rest := []) (ci := 3) F hl.1 hH hS hz (c_X3_fillJoinedf l g gh lc (tup (AI (gh 0 inr)) i.toNat) (tup (AI (gh 0 inb)) j.toNat) I_14 R J AI_15 AJ AR a ln inr i inb j zi zj hv ha hln hin hinb (by omega) (by omega) hlcN hk3 hjo (fun j hj => by rw [hX]; exact rowt (by omega) j hj) (fun j hj => by rw [hY]; exact rowt (by omega) j hj) hkz) (cwV 5 F.2.2.2.2.1 gX3_join_X3_fillJoined rfl rfl rfl hdX3_fillJoined ⟨Nat.le_of_ble_eq_true rfl, Nat.le_of_ble_eq_true rfl⟩) ha (by decide) rfl rfl rfl (Nat.le_of_ble_eq_true rfl) dX3_join_67 ⟨Nat.zero_le _, Nat.zero_le _⟩) hS (fun I_33 R_34 J_35 AI_36 AJ_37 AR_38 H locs hp_39 hH hS => ?_)
                dsimp only at hp_39
                obtain ⟨rfl, rfl, rfl, rfl, rfl, hv, q_40, hjn, hkz⟩ := hp_39
                have fA := kA_t fA (kA_0 q_40)
                have hjb : isB (AI_36 (gh 0 out)) (I_14 out 3).toInt.toNat (sJ1 lc (tup (AI (gh 0 inr)) i.toNat) ((AI (gh 0 inr)) (6 * i.toNat + 4)) (AI (gh 0 inb)) j.toNat (sJ lc (AI (gh 0 inr)) (AI (gh 0 inb)) my i.toNat)) zM := by rw [q_40 _ (cells_k hv ha hout).1]; exact hjb
                have hX : AI_36 (gh 0 inr) = AI (gh 0 inr) := kA_x fA hv ha hout hin hne
                have hXi : I_14 inr = I inr := fI inr hne
                have hXn : (I_14 inr 3).toInt = (n : Int) := by rw [hXi]; exact hnx
                have hY : AI_36 (gh 0 inb) = AI (gh 0 inb) := kA_x fA hv ha hout hinb hne2
                have hYi : I_14 inb = I inb := fI inb hne2
                have hYm : (I_14 inb 3).toInt = (my : Int) := by rw [hYi]; exact hny
                have hlcN : lnC (I_14 ln) (AI_36 (gh 3 ln)) lc := lnC_m hlc (fI ln (gO_ne hln hout (by decide))) (kA_l fA hv ha hout hln)
                refine lv_iload F.1 F.2.1 dX3_join_70 (lv_at hl 0 rfl) ?_
                refine z_sipush F dX3_join_72 (by decide) ?_
                refine z_icmp_gt (tgt := 103) F dX3_join_75 (by decide) ⟨by omega, by omega⟩ ⟨by decide, by decide⟩ (fun c_41 => ?_) (fun c_41 => ?_)
                · refine z_bipush F dX3_join_103 (by decide) ?_
                  exact g_iret F hr hlk hH hS hz ⟨by decide, by decide⟩ ⟨rfl, rfl, rfl, rfl, hv, rf, by first | omega | rfl | (dsimp only; omega), fI, fA, Or.inr ⟨rfl, Or.inl (by have := pJ_at (c := lc) (x := (AI (gh 0 inr))) (y := (AI (gh 0 inb))) (n := n) (m := my) (i := i.toNat) (j := j.toNat + 1) (by omega) (by omega); omega)⟩⟩ dX3_join_105
                · refine lv_aload F.1 F.2.1 dX3_join_78 (lv_at hl 7 rfl) ?_
                  refine lv_aload_n F.1 F.2.1 dX3_join_80 rfl (lv_at hl 3 rfl) ?_
                  obtain ⟨r_42a, r_42b⟩ := gR_rk0 hv ha
                  refine g_getR (ci := 3) (k := 0) F hH rfl (by decide) iX3 ha (by decide) rfl (b := gh 30 0) r_42a k11 dX3_join_81 ?_
                  refine lv_aload_n F.1 F.2.1 dX3_join_84 rfl (lv_at hl 5 rfl) ?_
                  refine lv_iload F.1 F.2.1 dX3_join_85 (lv_at hl 2 rfl) ?_
                  refine g_calli (g_runV (As := [.int (iI i)]) (rest := [.ref (gh 30 0), .ref out]) (ci := 4) F hl.1 hH hS hz (c_X4_amount l g gh I_14 R J AI_36 AJ AR inr i zi hv hin (by omega) (by omega)) (cwV 1 F.2.2.2.2.1 gX3_join_X4_amount rfl rfl rfl hdX4_amount ⟨Nat.le_of_ble_eq_true rfl, Nat.le_of_ble_eq_true rfl⟩) hin (by decide) rfl rfl rfl (Nat.le_of_ble_eq_true rfl) dX3_join_87 ⟨Nat.zero_le _, Nat.zero_le _⟩) hS (fun v_49 I_43 R_44 J_45 AI_46 AJ_47 AR_48 H locs zv_49 hp_50 hH hS => ?_)
                  dsimp only at hp_50
                  obtain ⟨rfl, rfl, rfl, rfl, rfl, rfl, qa0⟩ := hp_50
                  have qa : v_49 = ((AI (gh 0 inr)) (6 * i.toNat + 4)).toInt := by rw [qa0, hX, show (i * 6 + (I_14 inr 0).toInt).toNat = 6 * i.toNat + 4 by omega]
                  refine lv_aload_n F.1 F.2.1 dX3_join_90 rfl (lv_at hl 6 rfl) ?_
                  refine lv_iload F.1 F.2.1 dX3_join_91 (lv_at hl 1 rfl) ?_
                  refine g_calli (g_runV (As := [.int (iI j)]) (rest := [.int (iI v_49), .ref (gh 30 0), .ref out]) (ci := 4) F hl.1 hH hS hz (c_X4_amount l g gh I_14 R J AI_36 AJ AR inb j zj hv hinb (by omega) (by omega)) (cwV 1 F.2.2.2.2.1 gX3_join_X4_amount rfl rfl rfl hdX4_amount ⟨Nat.le_of_ble_eq_true rfl, Nat.le_of_ble_eq_true rfl⟩) hinb (by decide) rfl rfl rfl (Nat.le_of_ble_eq_true rfl) dX3_join_93 ⟨Nat.zero_le _, Nat.zero_le _⟩) hS (fun v_57 I_51 R_52 J_53 AI_54 AJ_55 AR_56 H locs zv_57 hp_58 hH hS => ?_)
                  dsimp only at hp_58
                  obtain ⟨rfl, rfl, rfl, rfl, rfl, rfl, qb0⟩ := hp_58
                  have qb : v_57 = ((AI (gh 0 inb)) (6 * j.toNat + 4)).toInt := by rw [qb0, hY, show (j * 6 + (I_14 inb 0).toInt).toNat = 6 * j.toNat + 4 by omega]
                  refine z_imul F dX3_join_96 ?_
                  refine z_norm (fun v_59 zv_59 ev_59 => ?_)
                  have qm : iI v_59 = ((AI (gh 0 inr)) (6 * i.toNat + 4)) * (AI (gh 0 inb)) (6 * j.toNat + 4) := by rw [ev_59, ← iI_mul, qa, qb, iI_self, iI_self]
                  obtain ⟨b_60a, b_60b, b_60c, b_60d, b_60e, b_60f, b_60g, b_60h⟩ := gI_rows hv hout
                  refine g_calli (g_runV (As := [.ref (gh 30 0), .int (iI v_59)]) (rest := []) (ci := 4) F hl.1 hH hS hz (c_X4_addAmountf l g gh I_14 R J AI_36 AJ AR out (gh 30 0) v_59 zv_59 hv hout r_42b (ro30 hv ha) (fun h => absurd h (by omega)) (by first | exact hfz | omega)) (cwV 2 F.2.2.2.2.1 gX3_join_X4_addAmount rfl rfl rfl hdX4_addAmount ⟨Nat.le_of_ble_eq_true rfl, Nat.le_of_ble_eq_true rfl⟩) hout (by decide) rfl rfl rfl (Nat.le_of_ble_eq_true rfl) dX3_join_97 ⟨Nat.zero_le _, Nat.zero_le _⟩) hS (fun v_67 I_61 R_62 J_63 AI_64 AJ_65 AR_66 H locs zv_67 hp_68 hH hS => ?_)
                  dsimp only at hp_68
                  obtain ⟨rfl, rfl, rfl, rfl, hv, q_69, q_70, qad⟩ := hp_68
                  have rf := rF_t rf (rF_o hout q_69)
                  have u_71 : (I_61 ln 0).toInt = (I ln 0).toInt := by rw [rf ln 0 hln (by decide)]
                  have fI := kI_t fI q_69
                  have fA := kA_t fA (kA_o q_70)
                  rw [h4] at qad
                  have qadd := isB_add9 hjb (by omega) qad (key_tu hjn) zv_59
                  rw [qm, ← sJ1_y hal, show j.toNat + 1 = (j + 1).toNat by omega] at qadd
                  have qz : (v_67 : Int) = 1 ∨ v_67 = 0 := by rcases qadd with h | h; (· exact Or.inl h.1); (· exact Or.inr h.1)
                  have hkz : ∀ j : Nat, (lc.1 5).toNat + jc lc (lc.1 6).toNat ≤ j → j < 5 → AI_64 (gh 30 0) j = 0 := fun j h1 h2 => by rw [q_70 _ (cells_k hv ha hout).1.symm]; exact hkz j h1 h2
                  refine z_if_ne (tgt := 106) F dX3_join_100 (by decide) zv_67 (fun c_72 => ?_) (fun c_72 => ?_)
                  · obtain ⟨-, ql9, hjb9⟩ := qadd.resolve_right (fun h => absurd h.1 (by omega))
                    refine z_iinc (lv' := [(7, .int (iI (j + 1))), (5, .int (iI (pr2 + 1))), (6, .int (iI i)), (0, .ref a), (1, .ref ln), (2, .ref inr), (3, .ref inb), (4, .ref out)]) F dX3_join_106 hl (k := 1) rfl (by decide) rfl (fun ls hl => ?_)
                    refine z_goto (tgt := 22) F dX3_join_109 (by decide) ?_
                    exact ih22 (pr2 + 1) (j + 1) I_61 AI_64 H locs ls ⟨by omega, by omega⟩ ⟨by omega, by omega⟩ hv rf (by omega) (by omega) (by omega) fI fA hkz hjb9 ⟨by omega, by omega, by omega, by rw [show (j + 1).toNat = j.toNat + 1 by omega]; omega⟩ (by omega) hH hS (lv_sub hl [0, 2, 1, 3, 4, 5, 6, 7] rfl)
                  · refine z_bipush F dX3_join_103 (by decide) ?_
                    exact g_iret F hr hlk hH hS hz ⟨by decide, by decide⟩ ⟨rfl, rfl, rfl, rfl, hv, rf, by first | omega | rfl | (dsimp only; omega), fI, fA, Or.inr ⟨rfl, Or.inr (by
        obtain ⟨-, ql9, qs0, qc0⟩ := qadd.resolve_left (fun h => absurd h.1 (by omega))
        have hb9 := isB_full9 (L := 120) hjb (by omega) qs0 qc0
        rw [← sJ1_y hal] at hb9
        exact bigP_m hb9 (fun s hs => sJ1_keep hjo hA hB zx zy (by omega) (by omega) hs))⟩⟩ dX3_join_105
        exact cut_22_15 (((240 - 0) + 1 : Int).toNat) prs 0 I_9 AI_10 H locs ls zprs ⟨by decide, by decide⟩ hv rf (by omega) (by omega) (by omega) fI fA hkz hjb ⟨by omega, by omega, by omega, by show _ = _ + ((0 : Nat) : Int); omega⟩ (by omega) hH hS (lv_sub hl [0, 1, 2, 3, 4, 5, 6, 7] rfl)
  exact cut_10_10 (((240 - 0) + 1 : Int).toNat) 0 0 I AI_4 H locs ls ⟨by decide, by decide⟩ ⟨by decide, by decide⟩ hv rf (by omega) (by omega) (by omega) fI fA (fun j _ h2 => hkz0 j h2) (by rw [show (I out 3).toInt = 0 by omega]; exact isW_0 (fun t h => h rfl)) ⟨by omega, by omega, by omega, rfl⟩ (by omega) hH hS (lv_sub hl [0, 1, 2, 3, 4, 5, 6] rfl)
