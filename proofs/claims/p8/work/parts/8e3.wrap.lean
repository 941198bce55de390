def rmL_atf : Room := { frames := 8, cells := 1, slots := 6, locals := 128 }
set_option maxHeartbeats 4000000 in
set_option maxRecDepth 100000 in
/-- at, caught -/
theorem c_L_atf (l : Launch) (g : gG) (gh : gGh) (pA bA nA : Nat) (nr : Nat) (cc : Nat → LC) (I : gI) (R : gR) (J : gJ) (AI : gI) (AJ : gJ) (AR : gR) (x : Nat) (rel : Int) (row : Int) (place : Int) (ou : Nat) (zrel : zr rel) (zrow : zr row) (zplace : zr place) (hv : gInv g gh R AR I AI) (hx : xS g gh R AR x pA bA nA) (hou : gAr g ou 10 1) (hlen : (I pA 1).toInt = (nr : Int)) (hln : ∀ r, r < nr → lnC (I (rob AR (gh 6 pA) r)) (AI (gh 3 (rob AR (gh 6 pA) r))) (cc r)) (hst : l.stackTraces = false) : gMetX l g yL_at tsL_at rmL_atf [.ref x, .int (iI rel), .int (iI row), .int (iI place), .ref ou] (I, R, J, AI, AJ, AR) (gQi g (fun (z : Int) (w : gS) => I = w.1 ∧ R = w.2.1 ∧ J = w.2.2.1 ∧ AI = w.2.2.2.1 ∧ AR = w.2.2.2.2.2 ∧ (gInv g gh R AR I AI) ∧ (z = 0 ∨ z = 1) ∧ ((z = 0 ∧ ∃ v9 : Int, (((0 ≤ rel ∧ rel < (nr : Int)) ∧ (place = 4 ∨ (0 ≤ place ∧ place < (cc rel.toNat).1 1)) ∧ 0 ≤ row ∧ row < (((rfC gh AR I AI bA rel.toNat).1 : Nat) : Int)) ∧ v9 = (((rfC gh AR I AI bA rel.toNat)).2 (6 * row.toNat + place.toNat)).toInt) ∧ zr v9 ∧ (w.2.2.2.2.1) ou 0 = (iI v9).toInt64) ∨ (z = 1 ∧ (¬ ((0 ≤ rel ∧ rel < (nr : Int)) ∧ (place = 4 ∨ (0 ≤ place ∧ place < (cc rel.toNat).1 1)) ∧ 0 ≤ row ∧ row < (((rfC gh AR I AI bA rel.toNat).1 : Nat) : Int))))) ∧ (∀ b, b ≠ ou → (w.2.2.2.2.1) b = AJ b))) (fun _ : gS => False) := by
  refine gStartW (cc := cL_at) (maxL := 6) (ret := (some (.int))) (by decide) rfl (Nat.le_of_ble_eq_true rfl) ?_
  intro p e s m below meth c ls F hr hlk hH hz hS hxt hTh hl
  have hl : lv_has ls 6 [(0, .ref x), (1, .int (iI rel)), (2, .int (iI row)), (3, .int (iI place)), (4, .ref ou)] := hl
  have hS : va_S (gA g) s.heap s.heap [] := hS
  obtain ⟨H, hHe⟩ : ∃ H : Heap, H = s.heap := ⟨_, rfl⟩
  obtain ⟨locs, hlo⟩ : ∃ k : List Loc, k = [] := ⟨_, rfl⟩
  have hH : gH g I R J AI AJ AR H := by rw [hHe]; exact hH
  have hS : va_S (gA g) s.heap H locs := by rw [hHe, hlo]; exact hS
  suffices hw : W p l e rmL_atf s m ([.ref x, .int (iI rel), .int (iI row), .int (iI place), .ref ou] : List Value).toArray below meth c H locs 0 0 (vx_MQ below (gQi g (fun (z : Int) (w : gS) => I = w.1 ∧ R = w.2.1 ∧ J = w.2.2.1 ∧ AI = w.2.2.2.1 ∧ AR = w.2.2.2.2.2 ∧ (gInv g gh R AR I AI) ∧ (z = 0 ∨ z = 1) ∧ ((z = 0 ∧ ∃ v9 : Int, (((0 ≤ rel ∧ rel < (nr : Int)) ∧ (place = 4 ∨ (0 ≤ place ∧ place < (cc rel.toNat).1 1)) ∧ 0 ≤ row ∧ row < (((rfC gh AR I AI bA rel.toNat).1 : Nat) : Int)) ∧ v9 = (((rfC gh AR I AI bA rel.toNat)).2 (6 * row.toNat + place.toNat)).toInt) ∧ zr v9 ∧ (w.2.2.2.2.1) ou 0 = (iI v9).toInt64) ∨ (z = 1 ∧ (¬ ((0 ≤ rel ∧ rel < (nr : Int)) ∧ (place = 4 ∨ (0 ≤ place ∧ place < (cc rel.toNat).1 1)) ∧ 0 ≤ row ∧ row < (((rfC gh AR I AI bA rel.toNat).1 : Nat) : Int))))) ∧ (∀ b, b ≠ ou → (w.2.2.2.2.1) b = AJ b))) (vx_X (fun _ : gS => False) (gBX g) (gA g)) ([.ref x, .int (iI rel), .int (iI row), .int (iI place), .ref ou] : List Value).toArray s 1 6 (gA g)) (F0 m 0 ls []) by
    rw [hHe, hlo] at hw; exact hw
  clear hHe hlo
  refine lv_aload F.1 F.2.1 dL_at_0 (lv_at hl 4 rfl) ?_
  refine z_iconst F dL_at_2 ?_
  refine lv_aload_n F.1 F.2.1 dL_at_3 rfl (lv_at hl 0 rfl) ?_
  refine lv_iload_n F.1 F.2.1 dL_at_4 rfl (lv_at hl 1 rfl) ?_
  refine lv_iload_n F.1 F.2.1 dL_at_5 rfl (lv_at hl 2 rfl) ?_
  refine lv_iload_n F.1 F.2.1 dL_at_6 rfl (lv_at hl 3 rfl) ?_
  refine g_calliX (g_runVX (As := [.int (iI rel), .int (iI row), .int (iI place)]) (rest := [.int (iI 0), .ref ou]) (ci := 6) F hTh hl.1 hH hS hz (c_X6_atf l g gh pA bA nA nr cc I R J AI AJ AR x rel row place zrel zrow zplace hv hx hlen hln hst) (cwV 3 F.2.2.2.2.1 (good_up gTB_L_at_X6_at) rfl rfl rfl hdX6_at ⟨Nat.le_of_ble_eq_true rfl, Nat.le_of_ble_eq_true rfl⟩) hx.1 (by decide) rfl rfl rfl (Nat.le_of_ble_eq_true rfl) dL_at_7 ⟨Nat.le_refl _, Nat.le_refl _⟩) hS (fun ce9 q9 I_1 R_2 J_3 AI_4 AJ_5 AR_6 H locs hp hH hS h1 h2 h3 => ?_) (fun z I_1 R_2 J_3 AI_4 AJ_5 AR_6 H locs zz hp hH hS => ?_)
  · dsimp only at hp
    obtain ⟨rfl, rfl, rfl, rfl, rfl, rfl, qtx⟩ := hp
    refine g_catch F hTh hxt (by decide) (by decide) (List.mem_cons_of_mem _ (TBm (tk4 (List.mem_of_getElem? (i := 151) rfl)) rfl)) h1 h2 h3 ?_
    refine lv_astore (lv' := [(5, .ref q9), (0, .ref x), (1, .int (iI rel)), (2, .int (iI row)), (3, .int (iI place)), (4, .ref ou)]) F.1 F.2.1 dL_at_15 hl (by decide) rfl (fun ls hl => ?_)
    refine z_iconst F dL_at_17 ?_
    exact g_iretX F hr hlk hH hS hz ⟨by decide, by decide⟩ ⟨rfl, rfl, rfl, rfl, rfl, hv, by first | omega | rfl | (dsimp only; omega), Or.inr ⟨rfl, qtx⟩, (fun _ _ => rfl)⟩ (by decide) (by decide) dL_at_18
  dsimp only at hp
  obtain ⟨rfl, rfl, rfl, rfl, rfl, rfl, qtv⟩ := hp
  refine lv_i2l F.1 F.2.1 dL_at_10 rfl ?_
  refine lv_topl (fun j_7 ej_7 => ?_)
  have hx11 : 0 ≤ (0 : Int) ∧ (0 : Int) < ((1 : Nat) : Int) ∧ (0 : Int) ≤ 2147483647 := ⟨by omega, by omega, by omega⟩
  refine g_last F hH hS hou hx11.1 hx11.2.1 hx11.2.2 dL_at_11 (fun H locs hH hS => ?_)
  obtain ⟨AJ_8, eAJ_8⟩ : ∃ qQ, qQ = gup2 AJ ou ((0 : Int)).toNat (j_7) := ⟨_, rfl⟩
  rw [← eAJ_8] at hH
  have kAJ_8 : ∀ b, b ≠ ou → AJ_8 b = AJ b := fun b hb => by rw [eAJ_8]; exact funext fun j => gup2_a _ _ hb
  refine z_goto (tgt := 19) F dL_at_12 (by decide) ?_
  refine z_iconst F dL_at_19 ?_
  exact g_iretX F hr hlk hH hS hz ⟨by decide, by decide⟩ ⟨rfl, rfl, rfl, rfl, rfl, hv, by first | omega | rfl | (dsimp only; omega), Or.inl ⟨rfl, _, qtv, zz, by (try dsimp only); rw [eAJ_8, gup2_e _ _ (by decide), ej_7]⟩, kAJ_8⟩ (by decide) (by decide) dL_at_20

def rmL_totalf : Room := { frames := 7, cells := 1, slots := 6, locals := 106 }
set_option maxHeartbeats 4000000 in
set_option maxRecDepth 100000 in
/-- total, caught -/
theorem c_L_totalf (l : Launch) (g : gG) (gh : gGh) (pA bA nA : Nat) (nr : Nat) (I : gI) (R : gR) (J : gJ) (AI : gI) (AJ : gJ) (AR : gR) (x : Nat) (rel : Int) (ou : Nat) (zrel : zr rel) (hv : gInv g gh R AR I AI) (hx : xS g gh R AR x pA bA nA) (hou : gAr g ou 10 1) (hlen : (I pA 1).toInt = (nr : Int)) (hst : l.stackTraces = false) : gMetX l g yL_total tsL_total rmL_totalf [.ref x, .int (iI rel), .ref ou] (I, R, J, AI, AJ, AR) (gQi g (fun (z : Int) (w : gS) => I = w.1 ∧ R = w.2.1 ∧ J = w.2.2.1 ∧ AI = w.2.2.2.1 ∧ AR = w.2.2.2.2.2 ∧ (gInv g gh R AR I AI) ∧ (z = 0 ∨ z = 1) ∧ ((z = 0 ∧ ∃ v9 : Int, ((0 ≤ rel ∧ rel < (nr : Int)) ∧ iI v9 = smA ((rfC gh AR I AI bA rel.toNat)).2 ((rfC gh AR I AI bA rel.toNat)).1) ∧ zr v9 ∧ (w.2.2.2.2.1) ou 0 = (iI v9).toInt64) ∨ (z = 1 ∧ (rel < 0 ∨ (nr : Int) ≤ rel))) ∧ (∀ b, b ≠ ou → (w.2.2.2.2.1) b = AJ b))) (fun _ : gS => False) := by
  refine gStartW (cc := cL_total) (maxL := 4) (ret := (some (.int))) (by decide) rfl (Nat.le_of_ble_eq_true rfl) ?_
  intro p e s m below meth c ls F hr hlk hH hz hS hxt hTh hl
  have hl : lv_has ls 4 [(0, .ref x), (1, .int (iI rel)), (2, .ref ou)] := hl
  have hS : va_S (gA g) s.heap s.heap [] := hS
  obtain ⟨H, hHe⟩ : ∃ H : Heap, H = s.heap := ⟨_, rfl⟩
  obtain ⟨locs, hlo⟩ : ∃ k : List Loc, k = [] := ⟨_, rfl⟩
  have hH : gH g I R J AI AJ AR H := by rw [hHe]; exact hH
  have hS : va_S (gA g) s.heap H locs := by rw [hHe, hlo]; exact hS
  suffices hw : W p l e rmL_totalf s m ([.ref x, .int (iI rel), .ref ou] : List Value).toArray below meth c H locs 0 0 (vx_MQ below (gQi g (fun (z : Int) (w : gS) => I = w.1 ∧ R = w.2.1 ∧ J = w.2.2.1 ∧ AI = w.2.2.2.1 ∧ AR = w.2.2.2.2.2 ∧ (gInv g gh R AR I AI) ∧ (z = 0 ∨ z = 1) ∧ ((z = 0 ∧ ∃ v9 : Int, ((0 ≤ rel ∧ rel < (nr : Int)) ∧ iI v9 = smA ((rfC gh AR I AI bA rel.toNat)).2 ((rfC gh AR I AI bA rel.toNat)).1) ∧ zr v9 ∧ (w.2.2.2.2.1) ou 0 = (iI v9).toInt64) ∨ (z = 1 ∧ (rel < 0 ∨ (nr : Int) ≤ rel))) ∧ (∀ b, b ≠ ou → (w.2.2.2.2.1) b = AJ b))) (vx_X (fun _ : gS => False) (gBX g) (gA g)) ([.ref x, .int (iI rel), .ref ou] : List Value).toArray s 1 6 (gA g)) (F0 m 0 ls []) by
    rw [hHe, hlo] at hw; exact hw
  clear hHe hlo
  refine lv_aload_n F.1 F.2.1 dL_total_0 rfl (lv_at hl 2 rfl) ?_
  refine z_iconst F dL_total_1 ?_
  refine lv_aload_n F.1 F.2.1 dL_total_2 rfl (lv_at hl 0 rfl) ?_
  refine lv_iload_n F.1 F.2.1 dL_total_3 rfl (lv_at hl 1 rfl) ?_
  refine g_calliX (g_runVX (As := [.int (iI rel)]) (rest := [.int (iI 0), .ref ou]) (ci := 6) F hTh hl.1 hH hS hz (c_X6_totalf l g gh pA bA nA nr I R J AI AJ AR x rel zrel hv hx hlen hst) (cwV 1 F.2.2.2.2.1 (good_up gTB_L_total_X6_total) rfl rfl rfl hdX6_total ⟨Nat.le_of_ble_eq_true rfl, Nat.le_of_ble_eq_true rfl⟩) hx.1 (by decide) rfl rfl rfl (Nat.le_of_ble_eq_true rfl) dL_total_4 ⟨Nat.le_refl _, Nat.le_refl _⟩) hS (fun ce9 q9 I_1 R_2 J_3 AI_4 AJ_5 AR_6 H locs hp hH hS h1 h2 h3 => ?_) (fun z I_1 R_2 J_3 AI_4 AJ_5 AR_6 H locs zz hp hH hS => ?_)
  · dsimp only at hp
    obtain ⟨rfl, rfl, rfl, rfl, rfl, rfl, qtx⟩ := hp
    refine g_catch F hTh hxt (by decide) (by decide) (List.mem_cons_of_mem _ (TBm (tk4 (List.mem_of_getElem? (i := 151) rfl)) rfl)) h1 h2 h3 ?_
    refine lv_astore_n (lv' := [(3, .ref q9), (0, .ref x), (1, .int (iI rel)), (2, .ref ou)]) F.1 F.2.1 dL_total_12 rfl hl (by decide) rfl (fun ls hl => ?_)
    refine z_iconst F dL_total_13 ?_
    exact g_iretX F hr hlk hH hS hz ⟨by decide, by decide⟩ ⟨rfl, rfl, rfl, rfl, rfl, hv, by first | omega | rfl | (dsimp only; omega), Or.inr ⟨rfl, qtx⟩, (fun _ _ => rfl)⟩ (by decide) (by decide) dL_total_14
  dsimp only at hp
  obtain ⟨rfl, rfl, rfl, rfl, rfl, rfl, qtv⟩ := hp
  refine lv_i2l F.1 F.2.1 dL_total_7 rfl ?_
  refine lv_topl (fun j_7 ej_7 => ?_)
  have hx8 : 0 ≤ (0 : Int) ∧ (0 : Int) < ((1 : Nat) : Int) ∧ (0 : Int) ≤ 2147483647 := ⟨by omega, by omega, by omega⟩
  refine g_last F hH hS hou hx8.1 hx8.2.1 hx8.2.2 dL_total_8 (fun H locs hH hS => ?_)
  obtain ⟨AJ_8, eAJ_8⟩ : ∃ qQ, qQ = gup2 AJ ou ((0 : Int)).toNat (j_7) := ⟨_, rfl⟩
  rw [← eAJ_8] at hH
  have kAJ_8 : ∀ b, b ≠ ou → AJ_8 b = AJ b := fun b hb => by rw [eAJ_8]; exact funext fun j => gup2_a _ _ hb
  refine z_goto (tgt := 15) F dL_total_9 (by decide) ?_
  refine z_iconst F dL_total_15 ?_
  exact g_iretX F hr hlk hH hS hz ⟨by decide, by decide⟩ ⟨rfl, rfl, rfl, rfl, rfl, hv, by first | omega | rfl | (dsimp only; omega), Or.inl ⟨rfl, _, qtv, zz, by (try dsimp only); rw [eAJ_8, gup2_e _ _ (by decide), ej_7]⟩, kAJ_8⟩ (by decide) (by decide) dL_total_16

def rmL_movedAtf : Room := { frames := 8, cells := 1, slots := 6, locals := 128 }
set_option maxHeartbeats 4000000 in
set_option maxRecDepth 100000 in
/-- movedAt, caught -/
theorem c_L_movedAtf (l : Launch) (g : gG) (gh : gGh) (pA bA nA : Nat) (nr : Nat) (cc : Nat → LC) (I : gI) (R : gR) (J : gJ) (AI : gI) (AJ : gJ) (AR : gR) (x : Nat) (rel : Int) (row : Int) (place : Int) (ou : Nat) (zrel : zr rel) (zrow : zr row) (zplace : zr place) (hv : gInv g gh R AR I AI) (hx : xS g gh R AR x pA bA nA) (hou : gAr g ou 10 1) (hlen : (I pA 1).toInt = (nr : Int)) (hln : ∀ r, r < nr → lnC (I (rob AR (gh 6 pA) r)) (AI (gh 3 (rob AR (gh 6 pA) r))) (cc r)) (hst : l.stackTraces = false) : gMetX l g yL_movedAt tsL_movedAt rmL_movedAtf [.ref x, .int (iI rel), .int (iI row), .int (iI place), .ref ou] (I, R, J, AI, AJ, AR) (gQi g (fun (z : Int) (w : gS) => I = w.1 ∧ R = w.2.1 ∧ J = w.2.2.1 ∧ AI = w.2.2.2.1 ∧ AR = w.2.2.2.2.2 ∧ (gInv g gh R AR I AI) ∧ (z = 0 ∨ z = 1) ∧ ((z = 0 ∧ ∃ v9 : Int, (((0 ≤ rel ∧ rel < (nr : Int)) ∧ (place = 4 ∨ (0 ≤ place ∧ place < (cc rel.toNat).1 1)) ∧ 0 ≤ row ∧ row < (((rfC gh AR I AI (gh 35 0) rel.toNat).1 : Nat) : Int)) ∧ v9 = (((rfC gh AR I AI (gh 35 0) rel.toNat)).2 (6 * row.toNat + place.toNat)).toInt) ∧ zr v9 ∧ (w.2.2.2.2.1) ou 0 = (iI v9).toInt64) ∨ (z = 1 ∧ (¬ ((0 ≤ rel ∧ rel < (nr : Int)) ∧ (place = 4 ∨ (0 ≤ place ∧ place < (cc rel.toNat).1 1)) ∧ 0 ≤ row ∧ row < (((rfC gh AR I AI (gh 35 0) rel.toNat).1 : Nat) : Int))))) ∧ (∀ b, b ≠ ou → (w.2.2.2.2.1) b = AJ b))) (fun _ : gS => False) := by
  refine gStartW (cc := cL_movedAt) (maxL := 6) (ret := (some (.int))) (by decide) rfl (Nat.le_of_ble_eq_true rfl) ?_
  intro p e s m below meth c ls F hr hlk hH hz hS hxt hTh hl
  have hl : lv_has ls 6 [(0, .ref x), (1, .int (iI rel)), (2, .int (iI row)), (3, .int (iI place)), (4, .ref ou)] := hl
  have hS : va_S (gA g) s.heap s.heap [] := hS
  obtain ⟨H, hHe⟩ : ∃ H : Heap, H = s.heap := ⟨_, rfl⟩
  obtain ⟨locs, hlo⟩ : ∃ k : List Loc, k = [] := ⟨_, rfl⟩
  have hH : gH g I R J AI AJ AR H := by rw [hHe]; exact hH
  have hS : va_S (gA g) s.heap H locs := by rw [hHe, hlo]; exact hS
  suffices hw : W p l e rmL_movedAtf s m ([.ref x, .int (iI rel), .int (iI row), .int (iI place), .ref ou] : List Value).toArray below meth c H locs 0 0 (vx_MQ below (gQi g (fun (z : Int) (w : gS) => I = w.1 ∧ R = w.2.1 ∧ J = w.2.2.1 ∧ AI = w.2.2.2.1 ∧ AR = w.2.2.2.2.2 ∧ (gInv g gh R AR I AI) ∧ (z = 0 ∨ z = 1) ∧ ((z = 0 ∧ ∃ v9 : Int, (((0 ≤ rel ∧ rel < (nr : Int)) ∧ (place = 4 ∨ (0 ≤ place ∧ place < (cc rel.toNat).1 1)) ∧ 0 ≤ row ∧ row < (((rfC gh AR I AI (gh 35 0) rel.toNat).1 : Nat) : Int)) ∧ v9 = (((rfC gh AR I AI (gh 35 0) rel.toNat)).2 (6 * row.toNat + place.toNat)).toInt) ∧ zr v9 ∧ (w.2.2.2.2.1) ou 0 = (iI v9).toInt64) ∨ (z = 1 ∧ (¬ ((0 ≤ rel ∧ rel < (nr : Int)) ∧ (place = 4 ∨ (0 ≤ place ∧ place < (cc rel.toNat).1 1)) ∧ 0 ≤ row ∧ row < (((rfC gh AR I AI (gh 35 0) rel.toNat).1 : Nat) : Int))))) ∧ (∀ b, b ≠ ou → (w.2.2.2.2.1) b = AJ b))) (vx_X (fun _ : gS => False) (gBX g) (gA g)) ([.ref x, .int (iI rel), .int (iI row), .int (iI place), .ref ou] : List Value).toArray s 1 6 (gA g)) (F0 m 0 ls []) by
    rw [hHe, hlo] at hw; exact hw
  clear hHe hlo
  refine lv_aload F.1 F.2.1 dL_movedAt_0 (lv_at hl 4 rfl) ?_
  refine z_iconst F dL_movedAt_2 ?_
  refine lv_aload_n F.1 F.2.1 dL_movedAt_3 rfl (lv_at hl 0 rfl) ?_
  refine lv_iload_n F.1 F.2.1 dL_movedAt_4 rfl (lv_at hl 1 rfl) ?_
  refine lv_iload_n F.1 F.2.1 dL_movedAt_5 rfl (lv_at hl 2 rfl) ?_
  refine lv_iload_n F.1 F.2.1 dL_movedAt_6 rfl (lv_at hl 3 rfl) ?_
  refine g_calliX (g_runVX (As := [.int (iI rel), .int (iI row), .int (iI place)]) (rest := [.int (iI 0), .ref ou]) (ci := 6) F hTh hl.1 hH hS hz (c_X6_movedAtf l g gh pA bA nA nr cc I R J AI AJ AR x rel row place zrel zrow zplace hv hx hlen hln hst) (cwV 3 F.2.2.2.2.1 (good_up gTB_L_movedAt_X6_movedAt) rfl rfl rfl hdX6_movedAt ⟨Nat.le_of_ble_eq_true rfl, Nat.le_of_ble_eq_true rfl⟩) hx.1 (by decide) rfl rfl rfl (Nat.le_of_ble_eq_true rfl) dL_movedAt_7 ⟨Nat.le_refl _, Nat.le_refl _⟩) hS (fun ce9 q9 I_1 R_2 J_3 AI_4 AJ_5 AR_6 H locs hp hH hS h1 h2 h3 => ?_) (fun z I_1 R_2 J_3 AI_4 AJ_5 AR_6 H locs zz hp hH hS => ?_)
  · dsimp only at hp
    obtain ⟨rfl, rfl, rfl, rfl, rfl, rfl, qtx⟩ := hp
    refine g_catch F hTh hxt (by decide) (by decide) (List.mem_cons_of_mem _ (TBm (tk4 (List.mem_of_getElem? (i := 151) rfl)) rfl)) h1 h2 h3 ?_
    refine lv_astore (lv' := [(5, .ref q9), (0, .ref x), (1, .int (iI rel)), (2, .int (iI row)), (3, .int (iI place)), (4, .ref ou)]) F.1 F.2.1 dL_movedAt_15 hl (by decide) rfl (fun ls hl => ?_)
    refine z_iconst F dL_movedAt_17 ?_
    exact g_iretX F hr hlk hH hS hz ⟨by decide, by decide⟩ ⟨rfl, rfl, rfl, rfl, rfl, hv, by first | omega | rfl | (dsimp only; omega), Or.inr ⟨rfl, qtx⟩, (fun _ _ => rfl)⟩ (by decide) (by decide) dL_movedAt_18
  dsimp only at hp
  obtain ⟨rfl, rfl, rfl, rfl, rfl, rfl, qtv⟩ := hp
  refine lv_i2l F.1 F.2.1 dL_movedAt_10 rfl ?_
  refine lv_topl (fun j_7 ej_7 => ?_)
  have hx11 : 0 ≤ (0 : Int) ∧ (0 : Int) < ((1 : Nat) : Int) ∧ (0 : Int) ≤ 2147483647 := ⟨by omega, by omega, by omega⟩
  refine g_last F hH hS hou hx11.1 hx11.2.1 hx11.2.2 dL_movedAt_11 (fun H locs hH hS => ?_)
  obtain ⟨AJ_8, eAJ_8⟩ : ∃ qQ, qQ = gup2 AJ ou ((0 : Int)).toNat (j_7) := ⟨_, rfl⟩
  rw [← eAJ_8] at hH
  have kAJ_8 : ∀ b, b ≠ ou → AJ_8 b = AJ b := fun b hb => by rw [eAJ_8]; exact funext fun j => gup2_a _ _ hb
  refine z_goto (tgt := 19) F dL_movedAt_12 (by decide) ?_
  refine z_iconst F dL_movedAt_19 ?_
  exact g_iretX F hr hlk hH hS hz ⟨by decide, by decide⟩ ⟨rfl, rfl, rfl, rfl, rfl, hv, by first | omega | rfl | (dsimp only; omega), Or.inl ⟨rfl, _, qtv, zz, by (try dsimp only); rw [eAJ_8, gup2_e _ _ (by decide), ej_7]⟩, kAJ_8⟩ (by decide) (by decide) dL_movedAt_20
