section
/-! the reference: what was gathered so far -/
section Gat
variable {f f' g g' : Nat → Int32} {n b : Nat} {S : Tup → Int32} {P : Tup → Prop} {t : Tup} {cn : Int32} {z k : Int}
def gaR (f : Nat → Int32) (n : Nat) (S : Tup → Int32) : Prop := ∃ P : Tup → Prop, isW f n P S zM ∧ ∀ t, S t ≠ 0 → P t
theorem gaR_0 : gaR f 0 s0T := ⟨fun _ => False, isW_0 (fun _ h => h), fun t h => absurd rfl h⟩
theorem gaR_s (hS : ∀ t, S t ≠ 0 → P t) (h : (z = 0 ∧ P t ∧ k = (n : Int) ∧ isW f' n P (sAdd S t cn) zM) ∨ (z = 1 ∧ ¬ P t ∧ k = (n : Int) + 1 ∧ isW f' (n + 1) (pAdd P t) (tUp S t cn) (tUp zM t (iI 0)))) : gaR f' k.toNat (sAdd S t cn) := by
  rcases h with ⟨_, h2, h3, h4⟩ | ⟨_, h2, h3, h4⟩
  · refine ⟨P, by rw [show k.toNat = n by omega]; exact h4, fun s hs => ?_⟩
    by_cases w : s = t
    · rw [w]; exact h2
    · rw [sAdd_k w] at hs; exact hS s hs
  · have e0 : S t = 0 := Classical.byContradiction (fun q => h2 (hS t q))
    have eS : tUp S t cn = sAdd S t cn := by rw [sAdd_up, e0, Int32.zero_add]
    have eM : tUp zM t (iI 0) = zM := funext fun s => by
      unfold tUp
      by_cases w : s = t
      · rw [if_pos w]; rfl
      · rw [if_neg w]
    rw [eS, eM] at h4
    refine ⟨pAdd P t, by rw [show k.toNat = n + 1 by omega]; exact h4, fun s hs => ?_⟩
    by_cases w : s = t
    · exact Or.inl w
    · rw [sAdd_k w] at hs; exact Or.inr (hS s hs)
theorem gaR_lay (h : gaR f n S) (hl : layP f g g' b (n : Int) 0) : isB (fun q => g' (b + q)) (wCnt f n).toNat S zM := by
  obtain ⟨P, h1, h2⟩ := h
  exact layP_B h1 hl h2
theorem gaR_big (h : gaR f n S) (hl : 120 < wCnt f n) : bigP 120 (fun t => S t ≠ 0) := by
  have ex : ∀ i : Nat, ∃ r : Nat, i ≤ 120 → r < n ∧ f (6 * r + 4) ≠ 0 ∧ wCnt f r = (i : Int) := fun i => by
    by_cases w : i ≤ 120
    · obtain ⟨r, h1, h2, h3⟩ := wC_ex (f := f) n i (by omega)
      exact ⟨r, fun _ => ⟨h1, h2, h3⟩⟩
    · exact ⟨0, fun q => absurd q w⟩
  obtain ⟨P, hw, _⟩ := h
  refine ⟨fun i => tup f (ex i).choose, fun i j hij hj e => ?_, fun i hi => ?_⟩
  · have a1 := (ex i).choose_spec (by omega)
    have a2 := (ex j).choose_spec hj
    have q := isW_i hw a1.1 a2.1 e
    have q1 := a1.2.2
    rw [q, a2.2.2] at q1
    omega
  · have a1 := (ex i).choose_spec hi
    show S (tup f _) ≠ 0
    rw [← (hw.2.1 _ a1.1).2.1]; exact a1.2.1
end Gat
/-! the reference: a join -/
section Jn
variable {c : LC} {t u : Tup} {T : Nat → Int32} {r k d is : Int} {K K' : Nat → Int32}
def jnM (T : Nat → Int32) (r : Int) (c : LC) : Prop := tI T (40 * r + 4) = c.1 4 ∧ tI T (40 * tI T (40 * r + 2) + 1) = c.1 5 ∧ tI T (40 * tI T (40 * r + 3) + 1) = c.1 6 ∧
  (∀ k : Nat, (k : Int) < c.1 4 → mP T r (k : Int) 0 = c.2 k 0 ∧ mP T r (k : Int) 1 = c.2 k 1) ∧ ∀ d : Nat, (d : Int) < c.1 6 → (mBit (tI T (40 * r + 5)) (d : Int) = 1 ↔ tld c d)
theorem jnM_at (h : jnM T r c) (h0 : 0 ≤ k) (h1 : k < c.1 4) : mP T r k 0 = c.2 k.toNat 0 ∧ mP T r k 1 = c.2 k.toNat 1 := by
  have q := h.2.2.2.1 k.toNat (by omega)
  rw [Int.toNat_of_nonneg h0] at q; exact q
theorem jnM_d (h : jnM T r c) (h0 : 0 ≤ d) (h1 : d < c.1 6) : mBit (tI T (40 * r + 5)) d = 1 ↔ tld c d.toNat := by
  have q := h.2.2.2.2 d.toNat (by omega)
  rw [Int.toNat_of_nonneg h0] at q; exact q
theorem jnM_c (h : jnM T r c) : ∀ d : Nat, (d : Int) ≤ c.1 6 → mCnt (tI T (40 * r + 5)) d = ((jc c d : Nat) : Int)
  | 0, _ => rfl
  | d + 1, hd => by
    have ih := jnM_c h d (by omega)
    have e := h.2.2.2.2 d (by omega)
    rw [mCnt, ih]
    by_cases w : tld c d
    · rw [if_pos (e.mpr w), jc_k w]; omega
    · rw [if_neg (fun q => w (e.mp q)), jc_s w]; omega
def alI (c : LC) (t u : Tup) (is k : Int) : Prop := (is = 1 ∧ ∀ j : Nat, (j : Int) < k → tg t (c.2 j 0).toNat = tg u (c.2 j 1).toNat) ∨ (is = 0 ∧ ¬ alk c t u)
theorem alI_0 : alI c t u 1 0 := Or.inl ⟨rfl, fun j h => absurd h (by omega)⟩
theorem alI_y (h : alI c t u is k) (hi : is ≠ 0) (h0 : 0 ≤ k) (e : tg t (c.2 k.toNat 0).toNat = tg u (c.2 k.toNat 1).toNat) : alI c t u 1 (k + 1) := by
  rcases h with ⟨_, h⟩ | ⟨h, _⟩
  · exact Or.inl ⟨rfl, fun j hj => by
      by_cases w : (j : Int) = k
      · rw [show j = k.toNat by omega]; exact e
      · exact h j (by omega)⟩
  · exact absurd h hi
theorem alI_n (h0 : 0 ≤ k) (h1 : k < c.1 4) (e : tg t (c.2 k.toNat 0).toNat ≠ tg u (c.2 k.toNat 1).toNat) : alI c t u 0 (k + 1) := Or.inr ⟨rfl, fun q => e (q k.toNat (by omega))⟩
theorem alI_z (h : alI c t u is k) (hi : is = 0) : alI c t u 0 (k + 1) := by
  rcases h with ⟨h, _⟩ | ⟨_, h⟩
  · omega
  · exact Or.inr ⟨rfl, h⟩
theorem alI_t (h : alI c t u is k) (hi : is ≠ 0) (hk : c.1 4 ≤ k) : alk c t u := by
  rcases h with ⟨_, h⟩ | ⟨h, _⟩
  · exact fun j hj => h j (by omega)
  · exact absurd h hi
theorem alI_f (h : alI c t u is k) (hi : is = 0) : ¬ alk c t u := by
  rcases h with ⟨h, _⟩ | ⟨_, h⟩
  · omega
  · exact h
def jtM (c : LC) (t u : Tup) (K : Nat → Int32) (d : Int) : Prop := (∀ j : Nat, (j : Int) < c.1 5 → j < 4 → K j = tg t j) ∧ (∀ q : Nat, (q : Int) < d → ¬ tld c q → K ((c.1 5).toNat + jc c q) = tg u q) ∧ ∀ j : Nat, (c.1 5).toNat + jc c d.toNat ≤ j → j < 4 → K j = 0
theorem jtM_0 (h : ∀ j, j < 4 → K j = tg t j) (z : zT (c.1 5) t) (h5 : 0 ≤ c.1 5) : jtM c t u K 0 := by
  refine ⟨fun j _ h4 => h j h4, fun q hq => absurd hq (by omega), fun j hj h4 => ?_⟩
  have e : jc c (0 : Int).toNat = 0 := rfl
  rw [e] at hj
  rw [h j h4]; exact z j (by omega) h4
theorem jtM_k (h : jtM c t u K d) (h0 : 0 ≤ d) (w : tld c d.toNat) : jtM c t u K (d + 1) := by
  refine ⟨h.1, fun q hq hn => ?_, fun j hj h4 => ?_⟩
  · by_cases e : (q : Int) = d
    · exact absurd w (by rw [show d.toNat = q by omega]; exact hn)
    · exact h.2.1 q (by omega) hn
  · rw [show (d + 1).toNat = d.toNat + 1 by omega, jc_k w] at hj; exact h.2.2 j hj h4
theorem jtM_s (h : jtM c t u K d) (h0 : 0 ≤ d) (h5 : 0 ≤ c.1 5) (w : ¬ tld c d.toNat) (e : ∀ j, j ≠ (c.1 5).toNat + jc c d.toNat → K' j = K j) (e' : K' ((c.1 5).toNat + jc c d.toNat) = tg u d.toNat) : jtM c t u K' (d + 1) := by
  refine ⟨fun j hj h4 => by rw [e j (by omega)]; exact h.1 j hj h4, fun q hq hn => ?_, fun j hj h4 => ?_⟩
  · by_cases x : (q : Int) = d
    · rw [show q = d.toNat by omega]; exact e'
    · have lt := jc_lt (q := d.toNat) hn (by omega)
      rw [e _ (by omega)]; exact h.2.1 q (by omega) hn
  · rw [show (d + 1).toNat = d.toNat + 1 by omega, jc_s w] at hj
    rw [e j (by omega)]; exact h.2.2 j (by omega) h4
theorem jtM_e (h : jtM c t u K d) (h0 : 0 ≤ d) (hd : c.1 6 ≤ d) (hd2 : d ≤ c.1 6) (h5 : 0 ≤ c.1 5) : ∀ j, j < 4 → K j = tg (jn c t u) j :=
  jn_of h.1 (fun q hq hn => h.2.1 q (by omega) hn) (fun j hj h4 => h.2.2 j (by rw [show d = c.1 6 by omega]; exact hj) h4) h5
end Jn
end
section
def rmX7_joinsf : Room := { frames := 3, cells := 0, slots := 0, locals := 71 }
set_option maxHeartbeats 4000000 in
set_option maxRecDepth 100000 in
/-- a join -/
theorem c_X7_joinsf (l : Launch) (g : gG) (gh : gGh) (T : Nat → Int32) (lc : LC) (na my : Nat) (bxa bxb : Nat → Int32) (I : gI) (R : gR) (J : gJ) (AI : gI) (AJ : gJ) (AR : gR) (mo : Nat) (sd : Int) (rr : Int) (zsd : zr sd) (zrr : zr rr) (hv : mInv g gh R I AI) (hm : gO g mo 7) (hT : AI (gh 50 0) = T) (hs : 0 ≤ sd ∧ sd ≤ 10) (hr0 : 0 ≤ rr ∧ rr < (I mo 2).toInt) (hk : tI T (40 * rr) = 3) (hw : (I mo 26).toInt = 0) (hjm : jnM T rr lc) (hjo : jOK lc) (hna : tI (AI (gh 57 0)) (16 * sd + tI T (40 * rr + 2)) = (na : Int)) (hXa : ∀ q : Nat, q < 720 → AI (gh 56 0) ((11520 * sd + 720 * tI T (40 * rr + 2)).toNat + q) = bxa q) (hnb : tI (AI (gh 57 0)) (16 * sd + tI T (40 * rr + 3)) = (my : Int)) (hXb : ∀ q : Nat, q < 720 → AI (gh 56 0) ((11520 * sd + 720 * tI T (40 * rr + 3)).toNat + q) = bxb q) (zx : zB (lc.1 5) bxa na) (h120 : na ≤ 120 ∧ my ≤ 120) : gMet l g yX7_joins tsX7_joins rmX7_joinsf [.ref mo, .int (iI sd), .int (iI rr)] (I, R, J, AI, AJ, AR) (gQi g (fun (z : Int) (w : gS) => R = w.2.1 ∧ J = w.2.2.1 ∧ AJ = w.2.2.2.2.1 ∧ AR = w.2.2.2.2.2 ∧ (mInv g gh R (w.1) (w.2.2.2.1)) ∧ ((w.2.2.2.1) (gh 50 0) = T) ∧ (wF mo I (w.1)) ∧ (∀ b, b ≠ gh 75 0 → b ≠ gh 77 0 → (w.2.2.2.1) b = AI b) ∧ ((z = 0 ∧ ¬ 1500 < pJ lc bxa bxb my na ∧ gaR ((w.2.2.2.1) (gh 75 0)) ((w.1) mo 26).toInt.toNat (sJ lc bxa bxb my na)) ∨ (z = -3 ∧ 1500 < pJ lc bxa bxb my na)))) := by
  refine gStart (cc := cX7_joins) (maxL := 14) (ret := (some (.int))) (by decide) rfl (Nat.le_of_ble_eq_true rfl) ?_
  intro p e s m below meth c ls F hr hlk hH hz hS hl
  have hl : lv_has ls 14 [(0, .ref mo), (1, .int (iI sd)), (2, .int (iI rr))] := hl
  have hS : va_S (gA g) s.heap s.heap [] := hS
  obtain ⟨H, hHe⟩ : ∃ H : Heap, H = s.heap := ⟨_, rfl⟩
  obtain ⟨locs, hlo⟩ : ∃ k : List Loc, k = [] := ⟨_, rfl⟩
  have hH : gH g I R J AI AJ AR H := by rw [hHe]; exact hH
  have hS : va_S (gA g) s.heap H locs := by rw [hHe, hlo]; exact hS
  suffices hw : W p l e rmX7_joinsf s m ([.ref mo, .int (iI sd), .int (iI rr)] : List Value).toArray below meth c H locs 0 0 (MQ below (gQi g (fun (z : Int) (w : gS) => R = w.2.1 ∧ J = w.2.2.1 ∧ AJ = w.2.2.2.2.1 ∧ AR = w.2.2.2.2.2 ∧ (mInv g gh R (w.1) (w.2.2.2.1)) ∧ ((w.2.2.2.1) (gh 50 0) = T) ∧ (wF mo I (w.1)) ∧ (∀ b, b ≠ gh 75 0 → b ≠ gh 77 0 → (w.2.2.2.1) b = AI b) ∧ ((z = 0 ∧ ¬ 1500 < pJ lc bxa bxb my na ∧ gaR ((w.2.2.2.1) (gh 75 0)) ((w.1) mo 26).toInt.toNat (sJ lc bxa bxb my na)) ∨ (z = -3 ∧ 1500 < pJ lc bxa bxb my na)))) ([.ref mo, .int (iI sd), .int (iI rr)] : List Value).toArray s 0 0 (gA g)) (F0 m 0 ls []) by
    rw [hHe, hlo] at hw; exact hw
  clear hHe hlo
  have wf : wF mo I I := wF_r
  have hb0 := mJ hv hm
  unfold mNum1 at hb0
  have x := mRow hv hm hT (z := rr) (by omega) (by omega)
  have xa := x.1
  have xc := x.2.2.1
  have xb := x.2.1 (by omega)
  have x3 := x.2.2.2.2.2.2.1 (by omega)
  obtain ⟨x3a, x3b, x3c, x3d⟩ := x3
  have y := mRow hv hm hT (z := tI T (40 * rr + 2)) (by omega) (by omega)
  have ya := y.1
  have yc := y.2.2.1
  have v := mRow hv hm hT (z := tI T (40 * rr + 3)) (by omega) (by omega)
  have va := v.1
  have vc := v.2.2.1
  have hjo1 := hjo.1
  have hjo2 := hjo.2.1
  have hjo3 := hjo.2.2.1
  have hjo4 := hjo.2.2.2.1
  have hjo5 := hjo.2.2.2.2.1
  have hjm1 := hjm.1
  have hjm2 := hjm.2.1
  have hjm3 := hjm.2.2.1
  have iX7 : ∀ w ∈ u_ws RX7 TX7 32, w ∈ tsX7_joins := fun w h => List.mem_cons_of_mem _ (inTB7 w h)
  have k7 : Cond.fieldLink RX7 7 (TX7 0).1 (TX7 0).2.1 (TX7 0).2.2.1 ∈ tsX7_joins := List.mem_cons_of_mem _ fl_7
  have k24 : Cond.fieldLink RX7 24 (TX7 6).1 (TX7 6).2.1 (TX7 6).2.2.1 ∈ tsX7_joins := List.mem_cons_of_mem _ fl_24
  have k45 : Cond.fieldLink RX7 45 (TX7 27).1 (TX7 27).2.1 (TX7 27).2.2.1 ∈ tsX7_joins := List.mem_cons_of_mem _ fl_45
  have k269 : Cond.fieldLink RX7 269 (TX7 26).1 (TX7 26).2.1 (TX7 26).2.2.1 ∈ tsX7_joins := List.mem_cons_of_mem _ fl_269
  refine lv_aload_n F.1 F.2.1 dX7_joins_0 rfl (lv_at hl 0 rfl) ?_
  refine lv_iload_n F.1 F.2.1 dX7_joins_1 rfl (lv_at hl 2 rfl) ?_
  have b_1 := mJ hv hm
  unfold mNum1 at b_1
  refine g_calli (g_runV (As := [.int (iI rr)]) (rest := []) (ci := 7) F hl.1 hH hS hz (c_X7_firstOf l g gh T I R J AI AJ AR mo rr zrr hv hm hT (by omega)) (cwV 1 F.2.2.2.2.1 (good_up gT_X7_firstOf) rfl rfl rfl hdX7_firstOf ⟨Nat.le_of_ble_eq_true rfl, Nat.le_of_ble_eq_true rfl⟩) hm (by decide) rfl rfl rfl (Nat.le_of_ble_eq_true rfl) dX7_joins_2 ⟨Nat.zero_le _, Nat.zero_le _⟩) hS (fun v_8 I_2 R_3 J_4 AI_5 AJ_6 AR_7 H locs zv_8 hp_9 hH hS => ?_)
  dsimp only at hp_9
  obtain ⟨rfl, rfl, rfl, rfl, rfl, rfl, qa⟩ := hp_9
  have ya1 : 1 ≤ tI T (40 * v_8 + 1) ∧ tI T (40 * v_8 + 1) ≤ 4 := by rw [qa]; omega
  have hna9 : tI (AI (gh 57 0)) (16 * sd + v_8) = (na : Int) := by rw [qa]; exact hna
  have hXa9 : ∀ q : Nat, q < 720 → AI (gh 56 0) ((11520 * sd + 720 * v_8).toNat + q) = bxa q := by rw [qa]; exact hXa
  have ya5 : tI T (40 * v_8 + 1) = lc.1 5 := by rw [qa]; exact hjm2
  refine lv_istore_n (lv' := [(3, .int (iI v_8)), (0, .ref mo), (1, .int (iI sd)), (2, .int (iI rr))]) F.1 F.2.1 dX7_joins_5 rfl hl (by decide) rfl (fun ls hl => ?_)
  refine lv_aload_n F.1 F.2.1 dX7_joins_6 rfl (lv_at hl 1 rfl) ?_
  refine lv_iload_n F.1 F.2.1 dX7_joins_7 rfl (lv_at hl 3 rfl) ?_
  refine g_calli (g_runV (As := [.int (iI rr)]) (rest := []) (ci := 7) F hl.1 hH hS hz (c_X7_secondOf l g gh T I R J AI AJ AR mo rr zrr hv hm hT (by omega)) (cwV 1 F.2.2.2.2.1 (good_up gT_X7_secondOf) rfl rfl rfl hdX7_secondOf ⟨Nat.le_of_ble_eq_true rfl, Nat.le_of_ble_eq_true rfl⟩) hm (by decide) rfl rfl rfl (Nat.le_of_ble_eq_true rfl) dX7_joins_8 ⟨Nat.zero_le _, Nat.zero_le _⟩) hS (fun v_16 I_10 R_11 J_12 AI_13 AJ_14 AR_15 H locs zv_16 hp_17 hH hS => ?_)
  dsimp only at hp_17
  obtain ⟨rfl, rfl, rfl, rfl, rfl, rfl, qb⟩ := hp_17
  have va1 : 1 ≤ tI T (40 * v_16 + 1) ∧ tI T (40 * v_16 + 1) ≤ 4 := by rw [qb]; omega
  have hnb9 : tI (AI (gh 57 0)) (16 * sd + v_16) = (my : Int) := by rw [qb]; exact hnb
  have hXb9 : ∀ q : Nat, q < 720 → AI (gh 56 0) ((11520 * sd + 720 * v_16).toNat + q) = bxb q := by rw [qb]; exact hXb
  have va6 : tI T (40 * v_16 + 1) = lc.1 6 := by rw [qb]; exact hjm3
  refine lv_istore (lv' := [(4, .int (iI v_16)), (3, .int (iI v_8)), (0, .ref mo), (1, .int (iI sd)), (2, .int (iI rr))]) F.1 F.2.1 dX7_joins_11 hl (by decide) rfl (fun ls hl => ?_)
  refine lv_aload_n F.1 F.2.1 dX7_joins_13 rfl (lv_at hl 2 rfl) ?_
  obtain ⟨r_18a, r_18b⟩ : R mo 0 = some (gh 50 0) ∧ gAr g (gh 50 0) 9 640 := mR hv hm (q := (0, 640)) (by decide)
  refine g_getR (ci := 7) (k := 0) F hH rfl (by decide) iX7 hm (by decide) rfl (b := gh 50 0) r_18a k7 dX7_joins_14 ?_
  refine z_bipush F dX7_joins_17 (by decide) ?_
  refine lv_iload_n F.1 F.2.1 dX7_joins_19 rfl (lv_at hl 4 rfl) ?_
  refine z_imul F dX7_joins_20 ?_
  refine z_iconst F dX7_joins_21 ?_
  refine z_iadd F dX7_joins_22 ?_
  have hx23 : 0 ≤ ((40 * rr) + 5) ∧ ((40 * rr) + 5) < ((640 : Nat) : Int) ∧ ((40 * rr) + 5) ≤ 2147483647 := ⟨by omega, by omega, by omega⟩
  refine g_iald F hH r_18b hx23.1 hx23.2.1 hx23.2.2 dX7_joins_23 ?_
  refine z_name (fun v_19 ev_19 => ?_)
  have zv_19 : zr v_19 := by rw [ev_19]; exact zr_t _
  have hg : v_19 = tI T (40 * rr + 5) := by rw [ev_19, ← hT]; rfl
  refine lv_istore (lv' := [(5, .int (iI v_19)), (4, .int (iI v_16)), (3, .int (iI v_8)), (0, .ref mo), (1, .int (iI sd)), (2, .int (iI rr))]) F.1 F.2.1 dX7_joins_24 hl (by decide) rfl (fun ls hl => ?_)
  have h4 : tI T (40 * v_8 + 1) + mCnt v_19 (tI T (40 * v_16 + 1)).toNat ≤ 4 := by rw [qa, qb, hg]; exact x3d
  refine z_iconst F dX7_joins_26 ?_
  refine lv_istore (lv' := [(6, .int (iI 0)), (5, .int (iI v_19)), (4, .int (iI v_16)), (3, .int (iI v_8)), (0, .ref mo), (1, .int (iI sd)), (2, .int (iI rr))]) F.1 F.2.1 dX7_joins_27 hl (by decide) rfl (fun ls hl => ?_)
  refine z_iconst F dX7_joins_29 ?_
  refine lv_istore (lv' := [(7, .int (iI 0)), (6, .int (iI 0)), (5, .int (iI v_19)), (4, .int (iI v_16)), (3, .int (iI v_8)), (0, .ref mo), (1, .int (iI sd)), (2, .int (iI rr))]) F.1 F.2.1 dX7_joins_30 hl (by decide) rfl (fun ls hl => ?_)
  have cut_32_21 : ∀ (NN : Nat) (ps i : Int) (I_20 : gI) (AI_21 : gI) (H : Heap) (locs : List Loc) (ls : Array Slot), zr ps → zr i → (mInv g gh R I_20 AI_21) → (AI_21 (gh 50 0) = T) → (wF mo I I_20) → (0 ≤ i ∧ i ≤ 120 ∧ 0 ≤ ps ∧ ps ≤ 1500 ∧ (I_20 mo 26).toInt ≤ 1598) → (∀ b, b ≠ gh 75 0 → b ≠ gh 77 0 → AI_21 b = AI b) → (gaR (AI_21 (gh 75 0)) (I_20 mo 26).toInt.toNat (sJ lc bxa bxb my i.toNat)) → (ps = ((pJ lc bxa bxb my i.toNat : Nat) : Int) ∧ i ≤ (na : Int) ∧ (I_20 mo 26).toInt ≤ ps) → (120 - i) < ((NN : Nat) : Int) → gH g I_20 R J AI_21 AJ AR H → va_S (gA g) s.heap H locs → lv_has ls 14 [(7, .int (iI i)), (6, .int (iI ps)), (5, .int (iI v_19)), (4, .int (iI v_16)), (3, .int (iI v_8)), (0, .ref mo), (1, .int (iI sd)), (2, .int (iI rr))] → W p l e rmX7_joinsf s m ([.ref mo, .int (iI sd), .int (iI rr)] : List Value).toArray below meth c H locs 0 0 (MQ below (gQi g (fun (z : Int) (w : gS) => R = w.2.1 ∧ J = w.2.2.1 ∧ AJ = w.2.2.2.2.1 ∧ AR = w.2.2.2.2.2 ∧ (mInv g gh R (w.1) (w.2.2.2.1)) ∧ ((w.2.2.2.1) (gh 50 0) = T) ∧ (wF mo I (w.1)) ∧ (∀ b, b ≠ gh 75 0 → b ≠ gh 77 0 → (w.2.2.2.1) b = AI b) ∧ ((z = 0 ∧ ¬ 1500 < pJ lc bxa bxb my na ∧ gaR ((w.2.2.2.1) (gh 75 0)) ((w.1) mo 26).toInt.toNat (sJ lc bxa bxb my na)) ∨ (z = -3 ∧ 1500 < pJ lc bxa bxb my na)))) ([.ref mo, .int (iI sd), .int (iI rr)] : List Value).toArray s 0 0 (gA g)) (F0 m 32 ls []) := by
    intro NN32
    induction NN32 with
    | zero =>
      intro ps i I_20 AI_21 H locs ls zps zi hv hT wf hi fW hga hpj hm32 hH hS hl
      exact absurd hm32 (by omega)
    | succ NN32 ih32 =>
      intro ps i I_20 AI_21 H locs ls zps zi hv hT wf hi fW hga hpj hm32 hH hS hl
      have uc_2 : (I_20 mo 2).toInt = (I mo 2).toInt := by rw [wf 2 (by decide)]
      have uc_5 : (I_20 mo 5).toInt = (I mo 5).toInt := by rw [wf 5 (by decide)]
      have uc_14 : (I_20 mo 14).toInt = (I mo 14).toInt := by rw [wf 14 (by decide)]
      have uc_16 : (I_20 mo 16).toInt = (I mo 16).toInt := by rw [wf 16 (by decide)]
      have uc_24 : (I_20 mo 24).toInt = (I mo 24).toInt := by rw [wf 24 (by decide)]
      have h56 : AI_21 (gh 56 0) = AI (gh 56 0) := fW _ (show gh 56 0 ≠ gh 75 0 from mNe hv hm (p := (6, 126720)) (q := (25, 9600)) (by decide) (by decide) (by decide)) (show gh 56 0 ≠ gh 77 0 from mNe hv hm (p := (6, 126720)) (q := (27, 4)) (by decide) (by decide) (by decide))
      have h57 : AI_21 (gh 57 0) = AI (gh 57 0) := fW _ (show gh 57 0 ≠ gh 75 0 from mNe hv hm (p := (7, 176)) (q := (25, 9600)) (by decide) (by decide) (by decide)) (show gh 57 0 ≠ gh 77 0 from mNe hv hm (p := (7, 176)) (q := (27, 4)) (by decide) (by decide) (by decide))
      refine lv_iload F.1 F.2.1 dX7_joins_32 (lv_at hl 0 rfl) ?_
      refine lv_aload_n F.1 F.2.1 dX7_joins_34 rfl (lv_at hl 5 rfl) ?_
      refine lv_iload_n F.1 F.2.1 dX7_joins_35 rfl (lv_at hl 6 rfl) ?_
      refine lv_iload_n F.1 F.2.1 dX7_joins_36 rfl (lv_at hl 4 rfl) ?_
      have b_23 := mJ hv hm
      unfold mNum1 at b_23
      refine g_calli (g_runV (As := [.int (iI sd), .int (iI v_8)]) (rest := [.int (iI i)]) (ci := 7) F hl.1 hH hS hz (c_X7_sizeOf l g gh T I_20 R J AI_21 AJ AR mo sd v_8 zsd zv_8 hv hm hT (by omega) (by omega)) (cwV 2 F.2.2.2.2.1 (good_up gT_X7_sizeOf) rfl rfl rfl hdX7_sizeOf ⟨Nat.le_of_ble_eq_true rfl, Nat.le_of_ble_eq_true rfl⟩) hm (by decide) rfl rfl rfl (Nat.le_of_ble_eq_true rfl) dX7_joins_37 ⟨Nat.zero_le _, Nat.zero_le _⟩) hS (fun v_30 I_24 R_25 J_26 AI_27 AJ_28 AR_29 H locs zv_30 hp_31 hH hS => ?_)
      dsimp only at hp_31
      obtain ⟨rfl, rfl, rfl, rfl, rfl, rfl, q_32, qz37⟩ := hp_31
      have hsqz37 : v_30 = (na : Int) := by rw [qz37, h57]; exact hna9
      refine z_icmp_ge (tgt := 291) F dX7_joins_40 (by decide) zi zv_30 (fun c_33 => ?_) (fun c_33 => ?_)
      · refine z_iconst F dX7_joins_291 ?_
        exact g_iret F hr hlk hH hS hz ⟨by decide, by decide⟩ ⟨rfl, rfl, rfl, rfl, hv, hT, wf, fW, Or.inl ⟨rfl, by rw [← show i.toNat = na by omega]; omega, by rw [← show i.toNat = na by omega]; exact hga⟩⟩ dX7_joins_292
      · refine z_iconst F dX7_joins_43 ?_
        refine lv_istore (lv' := [(8, .int (iI 0)), (7, .int (iI i)), (6, .int (iI ps)), (5, .int (iI v_19)), (4, .int (iI v_16)), (3, .int (iI v_8)), (0, .ref mo), (1, .int (iI sd)), (2, .int (iI rr))]) F.1 F.2.1 dX7_joins_44 hl (by decide) rfl (fun ls hl => ?_)
        have cut_46_35 : ∀ (NN : Nat) (ps jj : Int) (I_34 : gI) (AI_35 : gI) (H : Heap) (locs : List Loc) (ls : Array Slot), zr ps → zr jj → (mInv g gh R I_34 AI_35) → (AI_35 (gh 50 0) = T) → (wF mo I I_34) → (0 ≤ jj ∧ jj ≤ 120 ∧ 0 ≤ ps ∧ ps ≤ 1500 ∧ (I_34 mo 26).toInt ≤ 1598) → (∀ b, b ≠ gh 75 0 → b ≠ gh 77 0 → AI_35 b = AI b) → (gaR (AI_35 (gh 75 0)) (I_34 mo 26).toInt.toNat (sJ1 lc (tup bxa i.toNat) (bxa (6 * i.toNat + 4)) bxb jj.toNat (sJ lc bxa bxb my i.toNat))) → (ps = ((pJ lc bxa bxb my i.toNat : Nat) : Int) + ((pC lc (tup bxa i.toNat) bxb jj.toNat : Nat) : Int) ∧ jj ≤ (my : Int) ∧ (I_34 mo 26).toInt ≤ ps) → (120 - jj) < ((NN : Nat) : Int) → gH g I_34 R J AI_35 AJ AR H → va_S (gA g) s.heap H locs → lv_has ls 14 [(8, .int (iI jj)), (7, .int (iI i)), (6, .int (iI ps)), (5, .int (iI v_19)), (4, .int (iI v_16)), (3, .int (iI v_8)), (0, .ref mo), (1, .int (iI sd)), (2, .int (iI rr))] → W p l e rmX7_joinsf s m ([.ref mo, .int (iI sd), .int (iI rr)] : List Value).toArray below meth c H locs 0 0 (MQ below (gQi g (fun (z : Int) (w : gS) => R = w.2.1 ∧ J = w.2.2.1 ∧ AJ = w.2.2.2.2.1 ∧ AR = w.2.2.2.2.2 ∧ (mInv g gh R (w.1) (w.2.2.2.1)) ∧ ((w.2.2.2.1) (gh 50 0) = T) ∧ (wF mo I (w.1)) ∧ (∀ b, b ≠ gh 75 0 → b ≠ gh 77 0 → (w.2.2.2.1) b = AI b) ∧ ((z = 0 ∧ ¬ 1500 < pJ lc bxa bxb my na ∧ gaR ((w.2.2.2.1) (gh 75 0)) ((w.1) mo 26).toInt.toNat (sJ lc bxa bxb my na)) ∨ (z = -3 ∧ 1500 < pJ lc bxa bxb my na)))) ([.ref mo, .int (iI sd), .int (iI rr)] : List Value).toArray s 0 0 (gA g)) (F0 m 46 ls []) := by
          intro NN46
          induction NN46 with
          | zero =>
            intro ps jj I_34 AI_35 H locs ls zps zjj hv hT wf hj fW hga hpj hm46 hH hS hl
            exact absurd hm46 (by omega)
          | succ NN46 ih46 =>
            intro ps jj I_34 AI_35 H locs ls zps zjj hv hT wf hj fW hga hpj hm46 hH hS hl
            have uc_2 : (I_34 mo 2).toInt = (I mo 2).toInt := by rw [wf 2 (by decide)]
            have uc_5 : (I_34 mo 5).toInt = (I mo 5).toInt := by rw [wf 5 (by decide)]
            have uc_14 : (I_34 mo 14).toInt = (I mo 14).toInt := by rw [wf 14 (by decide)]
            have uc_16 : (I_34 mo 16).toInt = (I mo 16).toInt := by rw [wf 16 (by decide)]
            have uc_24 : (I_34 mo 24).toInt = (I mo 24).toInt := by rw [wf 24 (by decide)]
            have h56 : AI_35 (gh 56 0) = AI (gh 56 0) := fW _ (show gh 56 0 ≠ gh 75 0 from mNe hv hm (p := (6, 126720)) (q := (25, 9600)) (by decide) (by decide) (by decide)) (show gh 56 0 ≠ gh 77 0 from mNe hv hm (p := (6, 126720)) (q := (27, 4)) (by decide) (by decide) (by decide))
            have h57 : AI_35 (gh 57 0) = AI (gh 57 0) := fW _ (show gh 57 0 ≠ gh 75 0 from mNe hv hm (p := (7, 176)) (q := (25, 9600)) (by decide) (by decide) (by decide)) (show gh 57 0 ≠ gh 77 0 from mNe hv hm (p := (7, 176)) (q := (27, 4)) (by decide) (by decide) (by decide))
            refine lv_iload F.1 F.2.1 dX7_joins_46 (lv_at hl 0 rfl) ?_
            refine lv_aload_n F.1 F.2.1 dX7_joins_48 rfl (lv_at hl 6 rfl) ?_
            refine lv_iload_n F.1 F.2.1 dX7_joins_49 rfl (lv_at hl 7 rfl) ?_
            refine lv_iload F.1 F.2.1 dX7_joins_50 (lv_at hl 4 rfl) ?_
            have b_37 := mJ hv hm
            unfold mNum1 at b_37
            refine g_calli (g_runV (As := [.int (iI sd), .int (iI v_16)]) (rest := [.int (iI jj)]) (ci := 7) F hl.1 hH hS hz (c_X7_sizeOf l g gh T I_34 R J AI_35 AJ AR mo sd v_16 zsd zv_16 hv hm hT (by omega) (by omega)) (cwV 2 F.2.2.2.2.1 (good_up gT_X7_sizeOf) rfl rfl rfl hdX7_sizeOf ⟨Nat.le_of_ble_eq_true rfl, Nat.le_of_ble_eq_true rfl⟩) hm (by decide) rfl rfl rfl (Nat.le_of_ble_eq_true rfl) dX7_joins_52 ⟨Nat.zero_le _, Nat.zero_le _⟩) hS (fun v_44 I_38 R_39 J_40 AI_41 AJ_42 AR_43 H locs zv_44 hp_45 hH hS => ?_)
            dsimp only at hp_45
            obtain ⟨rfl, rfl, rfl, rfl, rfl, rfl, q_46, qz52⟩ := hp_45
            have hsqz52 : v_44 = (my : Int) := by rw [qz52, h57]; exact hnb9
            refine z_icmp_ge (tgt := 285) F dX7_joins_55 (by decide) zjj zv_44 (fun c_47 => ?_) (fun c_47 => ?_)
            · have hga8 := hga
              have hpj8 := hpj.1
              rw [show jj.toNat = my by omega] at hga8 hpj8
              have hpj9 : ps = ((pJ lc bxa bxb my (i + 1).toNat : Nat) : Int) := by rw [show (i + 1).toNat = i.toNat + 1 by omega, pJ]; omega
              refine z_iinc (lv' := [(7, .int (iI (i + 1))), (8, .int (iI jj)), (6, .int (iI ps)), (5, .int (iI v_19)), (4, .int (iI v_16)), (3, .int (iI v_8)), (0, .ref mo), (1, .int (iI sd)), (2, .int (iI rr))]) F dX7_joins_285 hl (k := 1) rfl (by decide) rfl (fun ls hl => ?_)
              refine z_goto (tgt := 32) F dX7_joins_288 (by decide) ?_
              exact ih32 ps (i + 1) I_34 AI_35 H locs ls zps ⟨by omega, by omega⟩ hv hT wf (by omega) fW (by rw [show (i + 1).toNat = i.toNat + 1 by omega, sJ]; exact hga8) ⟨hpj9, by omega, by omega⟩ (by omega) hH hS (lv_sub hl [0, 2, 3, 4, 5, 6, 7, 8] rfl)
            · refine lv_iload_n F.1 F.2.1 dX7_joins_58 rfl (lv_at hl 7 rfl) ?_
              refine lv_iload_n F.1 F.2.1 dX7_joins_59 rfl (lv_at hl 5 rfl) ?_
              refine lv_iload F.1 F.2.1 dX7_joins_60 (lv_at hl 1 rfl) ?_
              refine g_calli (g_runS (As := [.int (iI sd), .int (iI v_8), .int (iI i)]) (rest := []) F hl.1 hH hS hz (c_X7_spot l g  I_34 R J AI_35 AJ AR sd v_8 i zsd zv_8 zi (by omega) (by omega) (by omega)) (va_cwS 3 F.2.2.2.2.1 (good_up gT_X7_spot) rfl rfl rfl hdX7_spot.2 ⟨Nat.le_of_ble_eq_true rfl, Nat.le_of_ble_eq_true rfl⟩) rfl rfl (Nat.le_of_ble_eq_true rfl) dX7_joins_62 ⟨Nat.zero_le _, Nat.zero_le _⟩) hS (fun v_54 I_48 R_49 J_50 AI_51 AJ_52 AR_53 H locs zv_54 hp_55 hH hS => ?_)
              dsimp only at hp_55
              obtain ⟨rfl, rfl, rfl, rfl, rfl, rfl, q_56⟩ := hp_55
              refine lv_istore (lv' := [(9, .int (iI v_54)), (8, .int (iI jj)), (7, .int (iI i)), (6, .int (iI ps)), (5, .int (iI v_19)), (4, .int (iI v_16)), (3, .int (iI v_8)), (0, .ref mo), (1, .int (iI sd)), (2, .int (iI rr))]) F.1 F.2.1 dX7_joins_65 hl (by decide) rfl (fun ls hl => ?_)
              refine lv_iload_n F.1 F.2.1 dX7_joins_67 rfl (lv_at hl 8 rfl) ?_
              refine lv_iload F.1 F.2.1 dX7_joins_68 (lv_at hl 5 rfl) ?_
              refine lv_iload F.1 F.2.1 dX7_joins_70 (lv_at hl 1 rfl) ?_
              refine g_calli (g_runS (As := [.int (iI sd), .int (iI v_16), .int (iI jj)]) (rest := []) F hl.1 hH hS hz (c_X7_spot l g  I_34 R J AI_35 AJ AR sd v_16 jj zsd zv_16 zjj (by omega) (by omega) (by omega)) (va_cwS 3 F.2.2.2.2.1 (good_up gT_X7_spot) rfl rfl rfl hdX7_spot.2 ⟨Nat.le_of_ble_eq_true rfl, Nat.le_of_ble_eq_true rfl⟩) rfl rfl (Nat.le_of_ble_eq_true rfl) dX7_joins_72 ⟨Nat.zero_le _, Nat.zero_le _⟩) hS (fun v_63 I_57 R_58 J_59 AI_60 AJ_61 AR_62 H locs zv_63 hp_64 hH hS => ?_)
              dsimp only at hp_64
              obtain ⟨rfl, rfl, rfl, rfl, rfl, rfl, q_65⟩ := hp_64
              refine lv_istore (lv' := [(10, .int (iI v_63)), (9, .int (iI v_54)), (8, .int (iI jj)), (7, .int (iI i)), (6, .int (iI ps)), (5, .int (iI v_19)), (4, .int (iI v_16)), (3, .int (iI v_8)), (0, .ref mo), (1, .int (iI sd)), (2, .int (iI rr))]) F.1 F.2.1 dX7_joins_75 hl (by decide) rfl (fun ls hl => ?_)
              refine z_iconst F dX7_joins_77 ?_
              refine lv_istore (lv' := [(11, .int (iI 1)), (10, .int (iI v_63)), (9, .int (iI v_54)), (8, .int (iI jj)), (7, .int (iI i)), (6, .int (iI ps)), (5, .int (iI v_19)), (4, .int (iI v_16)), (3, .int (iI v_8)), (0, .ref mo), (1, .int (iI sd)), (2, .int (iI rr))]) F.1 F.2.1 dX7_joins_78 hl (by decide) rfl (fun ls hl => ?_)
              refine z_iconst F dX7_joins_80 ?_
              refine lv_istore (lv' := [(12, .int (iI 0)), (11, .int (iI 1)), (10, .int (iI v_63)), (9, .int (iI v_54)), (8, .int (iI jj)), (7, .int (iI i)), (6, .int (iI ps)), (5, .int (iI v_19)), (4, .int (iI v_16)), (3, .int (iI v_8)), (0, .ref mo), (1, .int (iI sd)), (2, .int (iI rr))]) F.1 F.2.1 dX7_joins_81 hl (by decide) rfl (fun ls hl => ?_)
              have cut_83_65 : ∀ (NN : Nat) (is k : Int) (H : Heap) (locs : List Loc) (ls : Array Slot), zr is → zr k → (0 ≤ k ∧ k ≤ 4) → (alI lc (tup bxa i.toNat) (tup bxb jj.toNat) is k) → (4 - k) < ((NN : Nat) : Int) → gH g I_34 R J AI_35 AJ AR H → va_S (gA g) s.heap H locs → lv_has ls 14 [(12, .int (iI k)), (11, .int (iI is)), (10, .int (iI v_63)), (9, .int (iI v_54)), (8, .int (iI jj)), (7, .int (iI i)), (6, .int (iI ps)), (5, .int (iI v_19)), (4, .int (iI v_16)), (3, .int (iI v_8)), (0, .ref mo), (1, .int (iI sd)), (2, .int (iI rr))] → W p l e rmX7_joinsf s m ([.ref mo, .int (iI sd), .int (iI rr)] : List Value).toArray below meth c H locs 0 0 (MQ below (gQi g (fun (z : Int) (w : gS) => R = w.2.1 ∧ J = w.2.2.1 ∧ AJ = w.2.2.2.2.1 ∧ AR = w.2.2.2.2.2 ∧ (mInv g gh R (w.1) (w.2.2.2.1)) ∧ ((w.2.2.2.1) (gh 50 0) = T) ∧ (wF mo I (w.1)) ∧ (∀ b, b ≠ gh 75 0 → b ≠ gh 77 0 → (w.2.2.2.1) b = AI b) ∧ ((z = 0 ∧ ¬ 1500 < pJ lc bxa bxb my na ∧ gaR ((w.2.2.2.1) (gh 75 0)) ((w.1) mo 26).toInt.toNat (sJ lc bxa bxb my na)) ∨ (z = -3 ∧ 1500 < pJ lc bxa bxb my na)))) ([.ref mo, .int (iI sd), .int (iI rr)] : List Value).toArray s 0 0 (gA g)) (F0 m 83 ls []) := by
                intro NN83
                induction NN83 with
                | zero =>
                  intro is k H locs ls zis zk hk1 hal hm83 hH hS hl
                  exact absurd hm83 (by omega)
                | succ NN83 ih83 =>
                  intro is k H locs ls zis zk hk1 hal hm83 hH hS hl
                  refine lv_iload F.1 F.2.1 dX7_joins_83 (lv_at hl 0 rfl) ?_
                  refine lv_aload_n F.1 F.2.1 dX7_joins_85 rfl (lv_at hl 10 rfl) ?_
                  refine lv_iload_n F.1 F.2.1 dX7_joins_86 rfl (lv_at hl 12 rfl) ?_
                  refine g_calli (g_runV (As := [.int (iI rr)]) (rest := [.int (iI k)]) (ci := 7) F hl.1 hH hS hz (c_X7_partsOf l g gh T I_34 R J AI_35 AJ AR mo rr zrr hv hm hT (by omega)) (cwV 1 F.2.2.2.2.1 (good_up gT_X7_partsOf) rfl rfl rfl hdX7_partsOf ⟨Nat.le_of_ble_eq_true rfl, Nat.le_of_ble_eq_true rfl⟩) hm (by decide) rfl rfl rfl (Nat.le_of_ble_eq_true rfl) dX7_joins_87 ⟨Nat.zero_le _, Nat.zero_le _⟩) hS (fun v_73 I_67 R_68 J_69 AI_70 AJ_71 AR_72 H locs zv_73 hp_74 hH hS => ?_)
                  dsimp only at hp_74
                  obtain ⟨rfl, rfl, rfl, rfl, rfl, rfl, q_75⟩ := hp_74
                  refine z_icmp_ge (tgt := 146) F dX7_joins_90 (by decide) zk zv_73 (fun c_76 => ?_) (fun c_76 => ?_)
                  · refine lv_iload F.1 F.2.1 dX7_joins_146 (lv_at hl 1 rfl) ?_
                    refine z_if_ne (tgt := 154) F dX7_joins_148 (by decide) zis (fun c_77 => ?_) (fun c_77 => ?_)
                    · have halk := alI_t hal (by omega) (by omega)
                      have hpc := pC_y halk
                      refine z_iinc (lv' := [(6, .int (iI (ps + 1))), (12, .int (iI k)), (11, .int (iI is)), (10, .int (iI v_63)), (9, .int (iI v_54)), (8, .int (iI jj)), (7, .int (iI i)), (5, .int (iI v_19)), (4, .int (iI v_16)), (3, .int (iI v_8)), (0, .ref mo), (1, .int (iI sd)), (2, .int (iI rr))]) F dX7_joins_154 hl (k := 6) rfl (by decide) rfl (fun ls hl => ?_)
                      refine lv_iload F.1 F.2.1 dX7_joins_157 (lv_at hl 0 rfl) ?_
                      refine z_sipush F dX7_joins_159 (by decide) ?_
                      refine z_icmp_le (tgt := 168) F dX7_joins_162 (by decide) ⟨by omega, by omega⟩ ⟨by decide, by decide⟩ (fun c_78 => ?_) (fun c_78 => ?_)
                      · refine lv_aload_n F.1 F.2.1 dX7_joins_168 rfl (lv_at hl 10 rfl) ?_
                        refine lv_iload F.1 F.2.1 dX7_joins_169 (lv_at hl 4 rfl) ?_
                        refine g_callv (g_runV (As := [.int (iI v_54)]) (rest := []) (ci := 7) F hl.1 hH hS hz (c_X7_takesf l g gh T I_34 R J AI_35 AJ AR mo v_54 zv_54 hv hm hT (by omega)) (cwV 1 F.2.2.2.2.1 (good_up gT_X7_takes) rfl rfl rfl hdX7_takes ⟨Nat.le_of_ble_eq_true rfl, Nat.le_of_ble_eq_true rfl⟩) hm (by decide) rfl rfl rfl (Nat.le_of_ble_eq_true rfl) dX7_joins_171 ⟨Nat.zero_le _, Nat.zero_le _⟩) hS (fun I_79 R_80 J_81 AI_82 AJ_83 AR_84 H locs hp_85 hH hS => ?_)
                        dsimp only at hp_85
                        obtain ⟨rfl, rfl, rfl, rfl, rfl, hv, hT, fWq, taq⟩ := hp_85
                        have htk : ∀ j, j < 4 → AI_82 (gh 77 0) j = tg (tup bxa i.toNat) j := fun j hj => by rw [taq j hj, h56, tg_up j hj, ← hXa9 _ (by omega)]; congr 1; omega
                        have hga : gaR (AI_82 (gh 75 0)) (I_34 mo 26).toInt.toNat (sJ1 lc (tup bxa i.toNat) (bxa (6 * i.toNat + 4)) bxb jj.toNat (sJ lc bxa bxb my i.toNat)) := by rw [fWq _ (show gh 75 0 ≠ gh 77 0 from mNe hv hm (p := (25, 9600)) (q := (27, 4)) (by decide) (by decide) (by decide))]; exact hga
                        have fW : ∀ b, b ≠ gh 75 0 → b ≠ gh 77 0 → AI_82 b = AI b := fun b h1 h2 => (fWq b h2).trans (fW b h1 h2)
                        have h56 : AI_82 (gh 56 0) = AI (gh 56 0) := fW _ (show gh 56 0 ≠ gh 75 0 from mNe hv hm (p := (6, 126720)) (q := (25, 9600)) (by decide) (by decide) (by decide)) (show gh 56 0 ≠ gh 77 0 from mNe hv hm (p := (6, 126720)) (q := (27, 4)) (by decide) (by decide) (by decide))
                        have h57 : AI_82 (gh 57 0) = AI (gh 57 0) := fW _ (show gh 57 0 ≠ gh 75 0 from mNe hv hm (p := (7, 176)) (q := (25, 9600)) (by decide) (by decide) (by decide)) (show gh 57 0 ≠ gh 77 0 from mNe hv hm (p := (7, 176)) (q := (27, 4)) (by decide) (by decide) (by decide))
                        refine lv_aload_n F.1 F.2.1 dX7_joins_174 rfl (lv_at hl 10 rfl) ?_
                        refine lv_iload_n F.1 F.2.1 dX7_joins_175 rfl (lv_at hl 9 rfl) ?_
                        refine g_calli (g_runV (As := [.int (iI v_8)]) (rest := []) (ci := 7) F hl.1 hH hS hz (c_X7_columnsOf l g gh T I_34 R J AI_82 AJ AR mo v_8 zv_8 hv hm hT (by omega)) (cwV 1 F.2.2.2.2.1 (good_up gT_X7_columnsOf) rfl rfl rfl hdX7_columnsOf ⟨Nat.le_of_ble_eq_true rfl, Nat.le_of_ble_eq_true rfl⟩) hm (by decide) rfl rfl rfl (Nat.le_of_ble_eq_true rfl) dX7_joins_176 ⟨Nat.zero_le _, Nat.zero_le _⟩) hS (fun v_92 I_86 R_87 J_88 AI_89 AJ_90 AR_91 H locs zv_92 hp_93 hH hS => ?_)
                        dsimp only at hp_93
                        obtain ⟨rfl, rfl, rfl, rfl, rfl, rfl, qc⟩ := hp_93
                        refine lv_istore (lv' := [(12, .int (iI v_92)), (6, .int (iI (ps + 1))), (11, .int (iI is)), (10, .int (iI v_63)), (9, .int (iI v_54)), (8, .int (iI jj)), (7, .int (iI i)), (5, .int (iI v_19)), (4, .int (iI v_16)), (3, .int (iI v_8)), (0, .ref mo), (1, .int (iI sd)), (2, .int (iI rr))]) F.1 F.2.1 dX7_joins_179 hl (by decide) rfl (fun ls hl => ?_)
                        refine z_iconst F dX7_joins_181 ?_
                        refine lv_istore (lv' := [(13, .int (iI 0)), (12, .int (iI v_92)), (6, .int (iI (ps + 1))), (11, .int (iI is)), (10, .int (iI v_63)), (9, .int (iI v_54)), (8, .int (iI jj)), (7, .int (iI i)), (5, .int (iI v_19)), (4, .int (iI v_16)), (3, .int (iI v_8)), (0, .ref mo), (1, .int (iI sd)), (2, .int (iI rr))]) F.1 F.2.1 dX7_joins_182 hl (by decide) rfl (fun ls hl => ?_)
                        have cut_184_94 : ∀ (NN : Nat) (n d : Int) (AI_94 : gI) (H : Heap) (locs : List Loc) (ls : Array Slot), zr n → zr d → (mInv g gh R I_34 AI_94) → (AI_94 (gh 50 0) = T) → (0 ≤ d ∧ d ≤ 4 ∧ n = tI T (40 * v_8 + 1) + mCnt v_19 d.toNat) → (∀ b, b ≠ gh 75 0 → b ≠ gh 77 0 → AI_94 b = AI b) → (gaR (AI_94 (gh 75 0)) (I_34 mo 26).toInt.toNat (sJ1 lc (tup bxa i.toNat) (bxa (6 * i.toNat + 4)) bxb jj.toNat (sJ lc bxa bxb my i.toNat))) → (jtM lc (tup bxa i.toNat) (tup bxb jj.toNat) (AI_94 (gh 77 0)) d) → (d ≤ lc.1 6) → (4 - d) < ((NN : Nat) : Int) → gH g I_34 R J AI_94 AJ AR H → va_S (gA g) s.heap H locs → lv_has ls 14 [(13, .int (iI d)), (12, .int (iI n)), (6, .int (iI (ps + 1))), (11, .int (iI is)), (10, .int (iI v_63)), (9, .int (iI v_54)), (8, .int (iI jj)), (7, .int (iI i)), (5, .int (iI v_19)), (4, .int (iI v_16)), (3, .int (iI v_8)), (0, .ref mo), (1, .int (iI sd)), (2, .int (iI rr))] → W p l e rmX7_joinsf s m ([.ref mo, .int (iI sd), .int (iI rr)] : List Value).toArray below meth c H locs 0 0 (MQ below (gQi g (fun (z : Int) (w : gS) => R = w.2.1 ∧ J = w.2.2.1 ∧ AJ = w.2.2.2.2.1 ∧ AR = w.2.2.2.2.2 ∧ (mInv g gh R (w.1) (w.2.2.2.1)) ∧ ((w.2.2.2.1) (gh 50 0) = T) ∧ (wF mo I (w.1)) ∧ (∀ b, b ≠ gh 75 0 → b ≠ gh 77 0 → (w.2.2.2.1) b = AI b) ∧ ((z = 0 ∧ ¬ 1500 < pJ lc bxa bxb my na ∧ gaR ((w.2.2.2.1) (gh 75 0)) ((w.1) mo 26).toInt.toNat (sJ lc bxa bxb my na)) ∨ (z = -3 ∧ 1500 < pJ lc bxa bxb my na)))) ([.ref mo, .int (iI sd), .int (iI rr)] : List Value).toArray s 0 0 (gA g)) (F0 m 184 ls []) := by
                          intro NN184
                          induction NN184 with
                          | zero =>
                            intro n d AI_94 H locs ls zn zd hv hT hd fW hga hjt hd6 hm184 hH hS hl
                            exact absurd hm184 (by omega)
                          | succ NN184 ih184 =>
                            intro n d AI_94 H locs ls zn zd hv hT hd fW hga hjt hd6 hm184 hH hS hl
                            have s4 := mCnt_0 (x := v_19) (a := d.toNat)
                            have h56 : AI_94 (gh 56 0) = AI (gh 56 0) := fW _ (show gh 56 0 ≠ gh 75 0 from mNe hv hm (p := (6, 126720)) (q := (25, 9600)) (by decide) (by decide) (by decide)) (show gh 56 0 ≠ gh 77 0 from mNe hv hm (p := (6, 126720)) (q := (27, 4)) (by decide) (by decide) (by decide))
                            have h57 : AI_94 (gh 57 0) = AI (gh 57 0) := fW _ (show gh 57 0 ≠ gh 75 0 from mNe hv hm (p := (7, 176)) (q := (25, 9600)) (by decide) (by decide) (by decide)) (show gh 57 0 ≠ gh 77 0 from mNe hv hm (p := (7, 176)) (q := (27, 4)) (by decide) (by decide) (by decide))
                            have hmc := jnM_c hjm d.toNat (by omega)
                            have hn5 : n = lc.1 5 + ((jc lc d.toNat : Nat) : Int) := by rw [← hg] at hmc; omega
                            refine lv_iload F.1 F.2.1 dX7_joins_184 (lv_at hl 0 rfl) ?_
                            refine lv_aload_n F.1 F.2.1 dX7_joins_186 rfl (lv_at hl 11 rfl) ?_
                            refine lv_iload F.1 F.2.1 dX7_joins_187 (lv_at hl 9 rfl) ?_
                            refine g_calli (g_runV (As := [.int (iI v_16)]) (rest := [.int (iI d)]) (ci := 7) F hl.1 hH hS hz (c_X7_columnsOf l g gh T I_34 R J AI_94 AJ AR mo v_16 zv_16 hv hm hT (by omega)) (cwV 1 F.2.2.2.2.1 (good_up gT_X7_columnsOf) rfl rfl rfl hdX7_columnsOf ⟨Nat.le_of_ble_eq_true rfl, Nat.le_of_ble_eq_true rfl⟩) hm (by decide) rfl rfl rfl (Nat.le_of_ble_eq_true rfl) dX7_joins_189 ⟨Nat.zero_le _, Nat.zero_le _⟩) hS (fun v_102 I_96 R_97 J_98 AI_99 AJ_100 AR_101 H locs zv_102 hp_103 hH hS => ?_)
                            dsimp only at hp_103
                            obtain ⟨rfl, rfl, rfl, rfl, rfl, rfl, qd⟩ := hp_103
                            refine z_icmp_ge (tgt := 235) F dX7_joins_192 (by decide) zd zv_102 (fun c_104 => ?_) (fun c_104 => ?_)
                            · have hjn := jtM_e hjt (by omega) (by omega) (by omega) (by omega)
                              obtain ⟨Pg, hPw, hPs⟩ := hga
                              refine lv_aload_n F.1 F.2.1 dX7_joins_235 rfl (lv_at hl 11 rfl) ?_
                              refine lv_aload_n F.1 F.2.1 dX7_joins_236 rfl (lv_at hl 11 rfl) ?_
                              obtain ⟨r_105a, r_105b⟩ : R mo 6 = some (gh 56 0) ∧ gAr g (gh 56 0) 9 126720 := mR hv hm (q := (6, 126720)) (by decide)
                              refine g_getR (ci := 7) (k := 6) F hH rfl (by decide) iX7 hm (by decide) rfl (b := gh 56 0) r_105a k24 dX7_joins_237 ?_
                              refine lv_iload F.1 F.2.1 dX7_joins_240 (lv_at hl 5 rfl) ?_
                              refine z_iconst F dX7_joins_242 ?_
                              refine z_iadd F dX7_joins_243 ?_
                              have hx244 : 0 ≤ (v_54 + 4) ∧ (v_54 + 4) < ((126720 : Nat) : Int) ∧ (v_54 + 4) ≤ 2147483647 := ⟨by omega, by omega, by omega⟩
                              refine g_iald F hH r_105b hx244.1 hx244.2.1 hx244.2.2 dX7_joins_244 ?_
                              refine z_name (fun v_106 ev_106 => ?_)
                              have zv_106 : zr v_106 := by rw [ev_106]; exact zr_t _
                              have c244 : iI v_106 = bxa (6 * i.toNat + 4) := by rw [ev_106, iI_self, h56, ← hXa9 _ (by omega)]; congr 1; omega
                              refine lv_aload_n F.1 F.2.1 dX7_joins_245 rfl (lv_at hl 11 rfl) ?_
                              refine g_getR (ci := 7) (k := 6) F hH rfl (by decide) iX7 hm (by decide) rfl (b := gh 56 0) r_105a k24 dX7_joins_246 ?_
                              refine lv_iload F.1 F.2.1 dX7_joins_249 (lv_at hl 4 rfl) ?_
                              refine z_iconst F dX7_joins_251 ?_
                              refine z_iadd F dX7_joins_252 ?_
                              have hx253 : 0 ≤ (v_63 + 4) ∧ (v_63 + 4) < ((126720 : Nat) : Int) ∧ (v_63 + 4) ≤ 2147483647 := ⟨by omega, by omega, by omega⟩
                              refine g_iald F hH r_105b hx253.1 hx253.2.1 hx253.2.2 dX7_joins_253 ?_
                              refine z_name (fun v_107 ev_107 => ?_)
                              have zv_107 : zr v_107 := by rw [ev_107]; exact zr_t _
                              have c253 : iI v_107 = bxb (6 * jj.toNat + 4) := by rw [ev_107, iI_self, h56, ← hXb9 _ (by omega)]; congr 1; omega
                              refine z_imul F dX7_joins_254 ?_
                              refine z_norm (fun v_108 zv_108 ev_108 => ?_)
                              have qm : iI v_108 = bxa (6 * i.toNat + 4) * bxb (6 * jj.toNat + 4) := by rw [ev_108, ← iI_mul, c244, c253]
                              refine z_iconst F dX7_joins_255 ?_
                              refine g_calli (g_runV (As := [.int (iI v_108), .int (iI 0)]) (rest := []) (ci := 7) F hl.1 hH hS hz (c_X7_gathersf l g gh T ((I_34 mo 26).toInt.toNat) Pg (sJ1 lc (tup bxa i.toNat) (bxa (6 * i.toNat + 4)) bxb jj.toNat (sJ lc bxa bxb my i.toNat)) zM (jn lc (tup bxa i.toNat) (tup bxb jj.toNat)) I_34 R J AI_94 AJ AR mo v_108 0 zv_108 ⟨by decide, by decide⟩ hv hm hT (by omega) hPw (by omega) hjn) (cwV 2 F.2.2.2.2.1 (good_up gT_X7_gathers) rfl rfl rfl hdX7_gathers ⟨Nat.le_of_ble_eq_true rfl, Nat.le_of_ble_eq_true rfl⟩) hm (by decide) rfl rfl rfl (Nat.le_of_ble_eq_true rfl) dX7_joins_256 ⟨Nat.zero_le _, Nat.zero_le _⟩) hS (fun v_115 I_109 R_110 J_111 AI_112 AJ_113 AR_114 H locs zv_115 hp_116 hH hS => ?_)
                              dsimp only at hp_116
                              obtain ⟨rfl, rfl, rfl, rfl, hv, hT, wfq, q_117, qga, fWq⟩ := hp_116
                              have wf := wF_t wf wfq
                              have u_118_2 : (I_109 mo 2).toInt = (I mo 2).toInt := by rw [wf 2 (by decide)]
                              have u_118_5 : (I_109 mo 5).toInt = (I mo 5).toInt := by rw [wf 5 (by decide)]
                              have u_118_14 : (I_109 mo 14).toInt = (I mo 14).toInt := by rw [wf 14 (by decide)]
                              have u_118_16 : (I_109 mo 16).toInt = (I mo 16).toInt := by rw [wf 16 (by decide)]
                              have u_118_24 : (I_109 mo 24).toInt = (I mo 24).toInt := by rw [wf 24 (by decide)]
                              have hga := gaR_s hPs qga
                              rw [qm, ← sJ1_y halk, show jj.toNat + 1 = (jj + 1).toNat by omega] at hga
                              clear qga
                              have fW : ∀ b, b ≠ gh 75 0 → b ≠ gh 77 0 → AI_112 b = AI b := fun b h1 h2 => (fWq b h1).trans (fW b h1 h2)
                              refine lv_istore (lv' := [(13, .int (iI v_115)), (12, .int (iI n)), (6, .int (iI (ps + 1))), (11, .int (iI is)), (10, .int (iI v_63)), (9, .int (iI v_54)), (8, .int (iI jj)), (7, .int (iI i)), (5, .int (iI v_19)), (4, .int (iI v_16)), (3, .int (iI v_8)), (0, .ref mo), (1, .int (iI sd)), (2, .int (iI rr))]) F.1 F.2.1 dX7_joins_259 hl (by decide) rfl (fun ls hl => ?_)
                              refine lv_iload F.1 F.2.1 dX7_joins_261 (lv_at hl 0 rfl) ?_
                              refine z_if_eq (tgt := 279) F dX7_joins_263 (by decide) zv_115 (fun c_119 => ?_) (fun c_119 => ?_)
                              · refine z_iinc (lv' := [(8, .int (iI (jj + 1))), (13, .int (iI v_115)), (12, .int (iI n)), (6, .int (iI (ps + 1))), (11, .int (iI is)), (10, .int (iI v_63)), (9, .int (iI v_54)), (7, .int (iI i)), (5, .int (iI v_19)), (4, .int (iI v_16)), (3, .int (iI v_8)), (0, .ref mo), (1, .int (iI sd)), (2, .int (iI rr))]) F dX7_joins_279 hl (k := 6) rfl (by decide) rfl (fun ls hl => ?_)
                                refine z_goto (tgt := 46) F dX7_joins_282 (by decide) ?_
                                exact ih46 (ps + 1) (jj + 1) I_109 AI_112 H locs ls ⟨by omega, by omega⟩ ⟨by omega, by omega⟩ hv hT wf (by omega) fW hga ⟨by rw [show (jj + 1).toNat = jj.toNat + 1 by omega]; omega, by omega, by omega⟩ (by omega) hH hS (lv_sub hl [0, 7, 3, 8, 9, 10, 11, 12, 13] rfl)
                              · refine lv_aload_n F.1 F.2.1 dX7_joins_266 rfl (lv_at hl 11 rfl) ?_
                                refine g_getI (ci := 7) (k := 26) F hH rfl (by decide) iX7 hm (by decide) rfl k269 dX7_joins_267 ?_
                                have b_120 := mJ hv hm
                                unfold mNum1 at b_120
                                refine z_sipush F dX7_joins_270 (by decide) ?_
                                refine z_icmp_le (tgt := 279) F dX7_joins_273 (by decide) (zr_t _) ⟨by decide, by decide⟩ (fun c_121 => ?_) (fun c_121 => ?_)
                                · refine z_iinc (lv' := [(8, .int (iI (jj + 1))), (13, .int (iI v_115)), (12, .int (iI n)), (6, .int (iI (ps + 1))), (11, .int (iI is)), (10, .int (iI v_63)), (9, .int (iI v_54)), (7, .int (iI i)), (5, .int (iI v_19)), (4, .int (iI v_16)), (3, .int (iI v_8)), (0, .ref mo), (1, .int (iI sd)), (2, .int (iI rr))]) F dX7_joins_279 hl (k := 6) rfl (by decide) rfl (fun ls hl => ?_)
                                  refine z_goto (tgt := 46) F dX7_joins_282 (by decide) ?_
                                  exact ih46 (ps + 1) (jj + 1) I_109 AI_112 H locs ls ⟨by omega, by omega⟩ ⟨by omega, by omega⟩ hv hT wf (by omega) fW hga ⟨by rw [show (jj + 1).toNat = jj.toNat + 1 by omega]; omega, by omega, by omega⟩ (by omega) hH hS (lv_sub hl [0, 7, 3, 8, 9, 10, 11, 12, 13] rfl)
                                · refine z_bipush F dX7_joins_276 (by decide) ?_
                                  exact g_iret F hr hlk hH hS hz ⟨by decide, by decide⟩ ⟨rfl, rfl, rfl, rfl, hv, hT, wf, fW, absurd trivial (by omega)⟩ dX7_joins_278
                            · refine lv_iload F.1 F.2.1 dX7_joins_195 (lv_at hl 8 rfl) ?_
                              refine lv_iload F.1 F.2.1 dX7_joins_197 (lv_at hl 0 rfl) ?_
                              refine lv_ishr F.1 F.2.1 dX7_joins_199 ?_
                              refine z_top (fun v_122 zv_122 ev_122 => ?_)
                              refine z_iconst F dX7_joins_200 ?_
                              refine lv_iand F.1 F.2.1 dX7_joins_201 ?_
                              refine z_top (fun v_123 zv_123 ev_123 => ?_)
                              have hb : v_123 = mBit v_19 d := by rw [ev_123, ev_122]; rfl
                              refine z_iconst F dX7_joins_202 ?_
                              refine z_icmp_ne (tgt := 209) F dX7_joins_203 (by decide) zv_123 ⟨by decide, by decide⟩ (fun c_124 => ?_) (fun c_124 => ?_)
                              · have s1 := mCnt_s (x := v_19) (k := d) (by omega) (by omega)
                                have s2 := mCnt_le (x := v_19) (a := (d + 1).toNat) (b := (tI T (40 * v_16 + 1)).toNat) (by omega)
                                have s3 := mCnt_0 (x := v_19) (a := d.toNat)
                                have hnt : ¬ tld lc d.toNat := fun h9 => absurd ((jnM_d hjm (by omega) (by omega)).mpr h9) (by rw [← hg, ← hb]; omega)
                                refine lv_aload_n F.1 F.2.1 dX7_joins_209 rfl (lv_at hl 11 rfl) ?_
                                obtain ⟨r_125a, r_125b⟩ : R mo 27 = some (gh 77 0) ∧ gAr g (gh 77 0) 9 4 := mR hv hm (q := (27, 4)) (by decide)
                                refine g_getR (ci := 7) (k := 27) F hH rfl (by decide) iX7 hm (by decide) rfl (b := gh 77 0) r_125a k45 dX7_joins_210 ?_
                                refine lv_iload F.1 F.2.1 dX7_joins_213 (lv_at hl 1 rfl) ?_
                                refine lv_aload_n F.1 F.2.1 dX7_joins_215 rfl (lv_at hl 11 rfl) ?_
                                obtain ⟨r_126a, r_126b⟩ : R mo 6 = some (gh 56 0) ∧ gAr g (gh 56 0) 9 126720 := mR hv hm (q := (6, 126720)) (by decide)
                                refine g_getR (ci := 7) (k := 6) F hH rfl (by decide) iX7 hm (by decide) rfl (b := gh 56 0) r_126a k24 dX7_joins_216 ?_
                                refine lv_iload F.1 F.2.1 dX7_joins_219 (lv_at hl 4 rfl) ?_
                                refine lv_iload F.1 F.2.1 dX7_joins_221 (lv_at hl 0 rfl) ?_
                                refine z_iadd F dX7_joins_223 ?_
                                have hx224 : 0 ≤ (v_63 + d) ∧ (v_63 + d) < ((126720 : Nat) : Int) ∧ (v_63 + d) ≤ 2147483647 := ⟨by omega, by omega, by omega⟩
                                refine g_iald F hH r_126b hx224.1 hx224.2.1 hx224.2.2 dX7_joins_224 ?_
                                refine z_name (fun v_127 ev_127 => ?_)
                                have zv_127 : zr v_127 := by rw [ev_127]; exact zr_t _
                                have c224 : iI v_127 = tg (tup bxb jj.toNat) d.toNat := by rw [ev_127, iI_self, h56, tg_up _ (by omega), ← hXb9 _ (by omega)]; congr 1; omega
                                have hx225 : 0 ≤ n ∧ n < ((4 : Nat) : Int) ∧ n ≤ 2147483647 := ⟨by omega, by omega, by omega⟩
                                refine g_iast F hH hS r_125b hx225.1 hx225.2.1 hx225.2.2 dX7_joins_225 (fun H locs hH hS => ?_)
                                obtain ⟨AI_128, eAI_128⟩ : ∃ qQ, qQ = gup2 AI_94 (gh 77 0) (n).toNat (iI (v_127)) := ⟨_, rfl⟩
                                rw [← eAI_128] at hH
                                have kAI_128 : ∀ b, b ≠ (gh 77 0) → AI_128 b = AI_94 b := fun b hb => by rw [eAI_128]; exact funext fun j => gup2_a _ _ hb
                                have hvO := hv
                                have t_129 : AI_128 (gh 50 0) = AI_94 (gh 50 0) := mK hv hm (p := (0, 640)) (q := (27, 4)) (by decide) (by decide) (by decide) kAI_128
                                have hv : mInv g gh R I_34 AI_128 := mInv_a hv hm (q := (27, 4)) (by decide) (by decide) kAI_128
                                have hT : AI_128 (gh 50 0) = T := t_129.trans hT
                                have hjt := jtM_s hjt (by omega) (by omega) hnt (K' := AI_128 (gh 77 0)) (fun j hj => by rw [eAI_128, gup2_k _ _ (by omega)]) (by rw [eAI_128, gup2_e _ _ (by omega), c224])
                                have hga : gaR (AI_128 (gh 75 0)) (I_34 mo 26).toInt.toNat (sJ1 lc (tup bxa i.toNat) (bxa (6 * i.toNat + 4)) bxb jj.toNat (sJ lc bxa bxb my i.toNat)) := by rw [kAI_128 _ (show gh 75 0 ≠ gh 77 0 from mNe hv hm (p := (25, 9600)) (q := (27, 4)) (by decide) (by decide) (by decide))]; exact hga
                                have fW : ∀ b, b ≠ gh 75 0 → b ≠ gh 77 0 → AI_128 b = AI b := fun b h1 h2 => (kAI_128 b h2).trans (fW b h1 h2)
                                refine z_iinc (lv' := [(12, .int (iI (n + 1))), (13, .int (iI d)), (6, .int (iI (ps + 1))), (11, .int (iI is)), (10, .int (iI v_63)), (9, .int (iI v_54)), (8, .int (iI jj)), (7, .int (iI i)), (5, .int (iI v_19)), (4, .int (iI v_16)), (3, .int (iI v_8)), (0, .ref mo), (1, .int (iI sd)), (2, .int (iI rr))]) F dX7_joins_226 hl (k := 1) rfl (by decide) rfl (fun ls hl => ?_)
                                refine z_iinc (lv' := [(13, .int (iI (d + 1))), (12, .int (iI (n + 1))), (6, .int (iI (ps + 1))), (11, .int (iI is)), (10, .int (iI v_63)), (9, .int (iI v_54)), (8, .int (iI jj)), (7, .int (iI i)), (5, .int (iI v_19)), (4, .int (iI v_16)), (3, .int (iI v_8)), (0, .ref mo), (1, .int (iI sd)), (2, .int (iI rr))]) F dX7_joins_229 hl (k := 1) rfl (by decide) rfl (fun ls hl => ?_)
                                refine z_goto (tgt := 184) F dX7_joins_232 (by decide) ?_
                                exact ih184 (n + 1) (d + 1) AI_128 H locs ls ⟨by omega, by omega⟩ ⟨by omega, by omega⟩ hv hT (by first | (rw [mCnt_z (by omega) (by omega)]; omega) | (rw [mCnt_s (by omega) (by omega)]; omega) | (refine ⟨by omega, by omega, ?_⟩; show _ = _ + (0 : Int); omega)) fW hga hjt (by omega) (by omega) hH hS (lv_sub hl [0, 1, 2, 3, 4, 5, 6, 7, 8, 9, 10, 11, 12, 13] rfl)
                              · have hty : tld lc d.toNat := (jnM_d hjm (by omega) (by omega)).mp (by rw [← hg, ← hb]; omega)
                                have hjt := jtM_k hjt (by omega) hty
                                refine z_goto (tgt := 229) F dX7_joins_206 (by decide) ?_
                                refine z_iinc (lv' := [(13, .int (iI (d + 1))), (12, .int (iI n)), (6, .int (iI (ps + 1))), (11, .int (iI is)), (10, .int (iI v_63)), (9, .int (iI v_54)), (8, .int (iI jj)), (7, .int (iI i)), (5, .int (iI v_19)), (4, .int (iI v_16)), (3, .int (iI v_8)), (0, .ref mo), (1, .int (iI sd)), (2, .int (iI rr))]) F dX7_joins_229 hl (k := 0) rfl (by decide) rfl (fun ls hl => ?_)
                                refine z_goto (tgt := 184) F dX7_joins_232 (by decide) ?_
                                exact ih184 n (d + 1) AI_94 H locs ls zn ⟨by omega, by omega⟩ hv hT (by first | (rw [mCnt_z (by omega) (by omega)]; omega) | (rw [mCnt_s (by omega) (by omega)]; omega) | (refine ⟨by omega, by omega, ?_⟩; show _ = _ + (0 : Int); omega)) fW hga hjt (by omega) (by omega) hH hS (lv_sub hl [0, 1, 2, 3, 4, 5, 6, 7, 8, 9, 10, 11, 12, 13] rfl)
                        exact cut_184_94 (((4 - 0) + 1 : Int).toNat) v_92 0 AI_82 H locs ls zv_92 ⟨by decide, by decide⟩ hv hT (by first | (rw [mCnt_z (by omega) (by omega)]; omega) | (rw [mCnt_s (by omega) (by omega)]; omega) | (refine ⟨by omega, by omega, ?_⟩; show _ = _ + (0 : Int); omega)) fW hga (jtM_0 htk (zx i.toNat (by omega)) (by omega)) (by omega) (by omega) hH hS (lv_sub hl [0, 1, 2, 3, 4, 5, 6, 7, 8, 9, 10, 11, 12, 13] rfl)
                      · refine z_bipush F dX7_joins_165 (by decide) ?_
                        exact g_iret F hr hlk hH hS hz ⟨by decide, by decide⟩ ⟨rfl, rfl, rfl, rfl, hv, hT, wf, fW, Or.inr ⟨rfl, by have := pJ_at (c := lc) (x := bxa) (y := bxb) (n := na) (m := my) (i := i.toNat) (j := jj.toNat + 1) (by omega) (by omega); omega⟩⟩ dX7_joins_167
                    · refine z_goto (tgt := 279) F dX7_joins_151 (by decide) ?_
                      have hnal := alI_f hal (by omega)
                      have hpc := pC_n hnal
                      have hga := hga
                      rw [← sJ1_n hnal, show jj.toNat + 1 = (jj + 1).toNat by omega] at hga
                      refine z_iinc (lv' := [(8, .int (iI (jj + 1))), (12, .int (iI k)), (11, .int (iI is)), (10, .int (iI v_63)), (9, .int (iI v_54)), (7, .int (iI i)), (6, .int (iI ps)), (5, .int (iI v_19)), (4, .int (iI v_16)), (3, .int (iI v_8)), (0, .ref mo), (1, .int (iI sd)), (2, .int (iI rr))]) F dX7_joins_279 hl (k := 4) rfl (by decide) rfl (fun ls hl => ?_)
                      refine z_goto (tgt := 46) F dX7_joins_282 (by decide) ?_
                      exact ih46 ps (jj + 1) I_34 AI_35 H locs ls zps ⟨by omega, by omega⟩ hv hT wf (by omega) fW hga ⟨by rw [show (jj + 1).toNat = jj.toNat + 1 by omega]; omega, by omega, by omega⟩ (by omega) hH hS (lv_sub hl [0, 5, 6, 7, 8, 9, 10, 11, 12] rfl)
                  · refine lv_iload F.1 F.2.1 dX7_joins_93 (lv_at hl 1 rfl) ?_
                    refine z_if_eq (tgt := 137) F dX7_joins_95 (by decide) zis (fun c_130 => ?_) (fun c_130 => ?_)
                    · refine z_iconst F dX7_joins_137 ?_
                      refine lv_istore (lv' := [(11, .int (iI 0)), (12, .int (iI k)), (10, .int (iI v_63)), (9, .int (iI v_54)), (8, .int (iI jj)), (7, .int (iI i)), (6, .int (iI ps)), (5, .int (iI v_19)), (4, .int (iI v_16)), (3, .int (iI v_8)), (0, .ref mo), (1, .int (iI sd)), (2, .int (iI rr))]) F.1 F.2.1 dX7_joins_138 hl (by decide) rfl (fun ls hl => ?_)
                      refine z_iinc (lv' := [(12, .int (iI (k + 1))), (11, .int (iI 0)), (10, .int (iI v_63)), (9, .int (iI v_54)), (8, .int (iI jj)), (7, .int (iI i)), (6, .int (iI ps)), (5, .int (iI v_19)), (4, .int (iI v_16)), (3, .int (iI v_8)), (0, .ref mo), (1, .int (iI sd)), (2, .int (iI rr))]) F dX7_joins_140 hl (k := 1) rfl (by decide) rfl (fun ls hl => ?_)
                      refine z_goto (tgt := 83) F dX7_joins_143 (by decide) ?_
                      exact ih83 0 (k + 1) H locs ls ⟨by decide, by decide⟩ ⟨by omega, by omega⟩ (by omega) (alI_z hal (by omega)) (by omega) hH hS (lv_sub hl [0, 1, 2, 3, 4, 5, 6, 7, 8, 9, 10, 11, 12] rfl)
                    · have q1 := x3c k (by omega) (by omega)
                      have hpk := jnM_at hjm (k := k) (by omega) (by omega)
                      refine lv_aload_n F.1 F.2.1 dX7_joins_98 rfl (lv_at hl 10 rfl) ?_
                      obtain ⟨r_131a, r_131b⟩ : R mo 6 = some (gh 56 0) ∧ gAr g (gh 56 0) 9 126720 := mR hv hm (q := (6, 126720)) (by decide)
                      refine g_getR (ci := 7) (k := 6) F hH rfl (by decide) iX7 hm (by decide) rfl (b := gh 56 0) r_131a k24 dX7_joins_99 ?_
                      refine lv_iload F.1 F.2.1 dX7_joins_102 (lv_at hl 3 rfl) ?_
                      refine lv_aload_n F.1 F.2.1 dX7_joins_104 rfl (lv_at hl 10 rfl) ?_
                      refine lv_iload_n F.1 F.2.1 dX7_joins_105 rfl (lv_at hl 12 rfl) ?_
                      refine lv_iload F.1 F.2.1 dX7_joins_106 (lv_at hl 0 rfl) ?_
                      refine z_iconst F dX7_joins_108 ?_
                      refine g_calli (g_runV (As := [.int (iI rr), .int (iI k), .int (iI 0)]) (rest := [.int (iI v_54), .ref (gh 56 0)]) (ci := 7) F hl.1 hH hS hz (c_X7_part l g gh T I_34 R J AI_35 AJ AR mo rr k 0 zrr zk ⟨by decide, by decide⟩ hv hm hT (by omega) (by omega) (by omega)) (cwV 3 F.2.2.2.2.1 (good_up gT_X7_part) rfl rfl rfl hdX7_part ⟨Nat.le_of_ble_eq_true rfl, Nat.le_of_ble_eq_true rfl⟩) hm (by decide) rfl rfl rfl (Nat.le_of_ble_eq_true rfl) dX7_joins_109 ⟨Nat.zero_le _, Nat.zero_le _⟩) hS (fun v_138 I_132 R_133 J_134 AI_135 AJ_136 AR_137 H locs zv_138 hp_139 hH hS => ?_)
                      dsimp only at hp_139
                      obtain ⟨rfl, rfl, rfl, rfl, rfl, rfl, qp0⟩ := hp_139
                      refine z_iadd F dX7_joins_112 ?_
                      have hx113 : 0 ≤ (v_54 + v_138) ∧ (v_54 + v_138) < ((126720 : Nat) : Int) ∧ (v_54 + v_138) ≤ 2147483647 := ⟨by omega, by omega, by omega⟩
                      refine g_iald F hH r_131b hx113.1 hx113.2.1 hx113.2.2 dX7_joins_113 ?_
                      refine z_name (fun v_140 ev_140 => ?_)
                      have zv_140 : zr v_140 := by rw [ev_140]; exact zr_t _
                      have c113 : iI v_140 = tg (tup bxa i.toNat) (lc.2 k.toNat 0).toNat := by rw [ev_140, iI_self, h56, tg_up _ (by omega), ← hXa9 _ (by omega)]; congr 1; omega
                      refine lv_aload_n F.1 F.2.1 dX7_joins_114 rfl (lv_at hl 10 rfl) ?_
                      refine g_getR (ci := 7) (k := 6) F hH rfl (by decide) iX7 hm (by decide) rfl (b := gh 56 0) r_131a k24 dX7_joins_115 ?_
                      refine lv_iload F.1 F.2.1 dX7_joins_118 (lv_at hl 2 rfl) ?_
                      refine lv_aload_n F.1 F.2.1 dX7_joins_120 rfl (lv_at hl 10 rfl) ?_
                      refine lv_iload_n F.1 F.2.1 dX7_joins_121 rfl (lv_at hl 12 rfl) ?_
                      refine lv_iload F.1 F.2.1 dX7_joins_122 (lv_at hl 0 rfl) ?_
                      refine z_iconst F dX7_joins_124 ?_
                      refine g_calli (g_runV (As := [.int (iI rr), .int (iI k), .int (iI 1)]) (rest := [.int (iI v_63), .ref (gh 56 0), .int (iI v_140)]) (ci := 7) F hl.1 hH hS hz (c_X7_part l g gh T I_34 R J AI_35 AJ AR mo rr k 1 zrr zk ⟨by decide, by decide⟩ hv hm hT (by omega) (by omega) (by omega)) (cwV 3 F.2.2.2.2.1 (good_up gT_X7_part) rfl rfl rfl hdX7_part ⟨Nat.le_of_ble_eq_true rfl, Nat.le_of_ble_eq_true rfl⟩) hm (by decide) rfl rfl rfl (Nat.le_of_ble_eq_true rfl) dX7_joins_125 ⟨Nat.zero_le _, Nat.zero_le _⟩) hS (fun v_147 I_141 R_142 J_143 AI_144 AJ_145 AR_146 H locs zv_147 hp_148 hH hS => ?_)
                      dsimp only at hp_148
                      obtain ⟨rfl, rfl, rfl, rfl, rfl, rfl, qp1⟩ := hp_148
                      refine z_iadd F dX7_joins_128 ?_
                      have hx129 : 0 ≤ (v_63 + v_147) ∧ (v_63 + v_147) < ((126720 : Nat) : Int) ∧ (v_63 + v_147) ≤ 2147483647 := ⟨by omega, by omega, by omega⟩
                      refine g_iald F hH r_131b hx129.1 hx129.2.1 hx129.2.2 dX7_joins_129 ?_
                      refine z_name (fun v_149 ev_149 => ?_)
                      have zv_149 : zr v_149 := by rw [ev_149]; exact zr_t _
                      have c129 : iI v_149 = tg (tup bxb jj.toNat) (lc.2 k.toNat 1).toNat := by rw [ev_149, iI_self, h56, tg_up _ (by omega), ← hXb9 _ (by omega)]; congr 1; omega
                      refine z_icmp_ne (tgt := 137) F dX7_joins_130 (by decide) zv_140 zv_149 (fun c_150 => ?_) (fun c_150 => ?_)
                      · refine z_iconst F dX7_joins_137 ?_
                        refine lv_istore (lv' := [(11, .int (iI 0)), (12, .int (iI k)), (10, .int (iI v_63)), (9, .int (iI v_54)), (8, .int (iI jj)), (7, .int (iI i)), (6, .int (iI ps)), (5, .int (iI v_19)), (4, .int (iI v_16)), (3, .int (iI v_8)), (0, .ref mo), (1, .int (iI sd)), (2, .int (iI rr))]) F.1 F.2.1 dX7_joins_138 hl (by decide) rfl (fun ls hl => ?_)
                        refine z_iinc (lv' := [(12, .int (iI (k + 1))), (11, .int (iI 0)), (10, .int (iI v_63)), (9, .int (iI v_54)), (8, .int (iI jj)), (7, .int (iI i)), (6, .int (iI ps)), (5, .int (iI v_19)), (4, .int (iI v_16)), (3, .int (iI v_8)), (0, .ref mo), (1, .int (iI sd)), (2, .int (iI rr))]) F dX7_joins_140 hl (k := 1) rfl (by decide) rfl (fun ls hl => ?_)
                        refine z_goto (tgt := 83) F dX7_joins_143 (by decide) ?_
                        exact ih83 0 (k + 1) H locs ls ⟨by decide, by decide⟩ ⟨by omega, by omega⟩ (by omega) (alI_n (by omega) (by omega) (by rw [← c113, ← c129]; intro h9; have h8 := (iI_eq zv_140 zv_149).mp h9; omega)) (by omega) hH hS (lv_sub hl [0, 1, 2, 3, 4, 5, 6, 7, 8, 9, 10, 11, 12] rfl)
                      · refine z_iconst F dX7_joins_133 ?_
                        refine z_goto (tgt := 138) F dX7_joins_134 (by decide) ?_
                        refine lv_istore (lv' := [(11, .int (iI 1)), (12, .int (iI k)), (10, .int (iI v_63)), (9, .int (iI v_54)), (8, .int (iI jj)), (7, .int (iI i)), (6, .int (iI ps)), (5, .int (iI v_19)), (4, .int (iI v_16)), (3, .int (iI v_8)), (0, .ref mo), (1, .int (iI sd)), (2, .int (iI rr))]) F.1 F.2.1 dX7_joins_138 hl (by decide) rfl (fun ls hl => ?_)
                        refine z_iinc (lv' := [(12, .int (iI (k + 1))), (11, .int (iI 1)), (10, .int (iI v_63)), (9, .int (iI v_54)), (8, .int (iI jj)), (7, .int (iI i)), (6, .int (iI ps)), (5, .int (iI v_19)), (4, .int (iI v_16)), (3, .int (iI v_8)), (0, .ref mo), (1, .int (iI sd)), (2, .int (iI rr))]) F dX7_joins_140 hl (k := 1) rfl (by decide) rfl (fun ls hl => ?_)
                        refine z_goto (tgt := 83) F dX7_joins_143 (by decide) ?_
                        exact ih83 1 (k + 1) H locs ls ⟨by decide, by decide⟩ ⟨by omega, by omega⟩ (by omega) (alI_y hal (by omega) (by omega) (by rw [← c113, ← c129, show v_140 = v_149 by omega])) (by omega) hH hS (lv_sub hl [0, 1, 2, 3, 4, 5, 6, 7, 8, 9, 10, 11, 12] rfl)
              exact cut_83_65 (((4 - 0) + 1 : Int).toNat) 1 0 H locs ls ⟨by decide, by decide⟩ ⟨by decide, by decide⟩ (by omega) alI_0 (by omega) hH hS (lv_sub hl [0, 1, 2, 3, 4, 5, 6, 7, 8, 9, 10, 11, 12] rfl)
        exact cut_46_35 (((120 - 0) + 1 : Int).toNat) ps 0 I_20 AI_21 H locs ls zps ⟨by decide, by decide⟩ hv hT wf (by omega) fW hga ⟨by show _ = _ + ((0 : Nat) : Int); omega, by omega, by omega⟩ (by omega) hH hS (lv_sub hl [0, 1, 2, 3, 4, 5, 6, 7, 8] rfl)
  exact cut_32_21 (((120 - 0) + 1 : Int).toNat) 0 0 I AI H locs ls ⟨by decide, by decide⟩ ⟨by decide, by decide⟩ hv hT wf (by omega) (fun _ _ _ => rfl) (by rw [show (I mo 26).toInt = 0 by omega]; exact gaR_0) ⟨rfl, by omega, by omega⟩ (by omega) hH hS (lv_sub hl [0, 1, 2, 3, 4, 5, 6, 7] rfl)
end
section
/-! the reference: groups -/
section Grp
variable {c : LC} {f W W' : Nat → Int32} {t u : Tup} {T : Nat → Int32} {r hs su v z k' : Int} {n i m k : Nat}
def gfM (T : Nat → Int32) (r : Int) (c : LC) : Prop := gpM T r c ∧ (mP T r (c.1 4) 1 = c.1 9 ∧ mP T r (c.1 4) 0 = c.1 10) ∧ 0 ≤ c.1 9 ∧ c.1 9 ≤ 3 ∧ 0 ≤ c.1 10 ∧ c.1 10 ≤ 3 ∧ 0 ≤ c.1 4 ∧ c.1 4 ≤ 3
def gfI (c : LC) (f : Nat → Int32) (u : Tup) (i : Nat) (hs su : Int) : Prop := gF c f u i = (iI hs, iI su) ∧ (hs = 0 ∨ hs = 1)
theorem gfI_0 (h : ∀ j : Nat, (j : Int) < (i : Int) → gk c (tup f j) ≠ u) : gfI c f u i 0 0 := ⟨gF_0 i (fun k hk => h k (by omega)), Or.inl rfl⟩
theorem gfI_n (h : gfI c f u i hs su) (w : gk c (tup f i) ≠ u) : gfI c f u (i + 1) hs su := ⟨by rw [gF_n w]; exact h.1, h.2⟩
theorem gfI_c {su' : Int} (h : gfI c f u i hs su) (w : gk c (tup f i) = u) (h9 : c.1 9 = 0) (e : iI su' = iI su + f (6 * i + 4)) : gfI c f u (i + 1) hs su' := ⟨by
  rw [gF_y w, h.1]; unfold fS; rw [if_pos h9, e], h.2⟩
theorem gfI_s {su' : Int} (h : gfI c f u i hs su) (w : gk c (tup f i) = u) (h9 : c.1 9 = 1) (e : iI su' = iI su + f (6 * i + 4) * tg (tup f i) (c.1 10).toNat) : gfI c f u (i + 1) hs su' := ⟨by
  rw [gF_y w, h.1]; unfold fS; rw [if_neg (by omega), if_pos h9, e], h.2⟩
theorem gfI_z (h : gfI c f u i hs su) (w : gk c (tup f i) = u) (h0 : 2 ≤ c.1 9) (ha : (f (6 * i + 4)).toInt ≤ 0) : gfI c f u (i + 1) hs su := ⟨by
  rw [gF_y w, h.1]; unfold fS; rw [if_neg (by omega), if_neg (by omega), if_neg (by omega)], h.2⟩
theorem gfI_cd (hb : hs = 0 ∨ hs = 1) (zs : zr su) (zv : zr v) : ((iI hs : Int32) = 0 ∨ (c.1 9 = 2 ∧ (iI v).toInt < (iI su).toInt) ∨ (c.1 9 ≠ 2 ∧ (iI su).toInt < (iI v).toInt)) ↔ (hs = 0 ∨ (c.1 9 = 2 ∧ v < su) ∨ (c.1 9 ≠ 2 ∧ su < v)) := by
  rw [iI_val zs, iI_val zv]
  have e : (iI hs : Int32) = 0 ↔ hs = 0 := by
    rcases hb with h | h
    · rw [h]; exact ⟨fun _ => rfl, fun _ => rfl⟩
    · rw [h]; exact ⟨fun q => absurd q (by decide), fun q => absurd q (by decide)⟩
  rw [e]
theorem gfI_t (h : gfI c f u i hs su) (w : gk c (tup f i) = u) (h0 : 2 ≤ c.1 9) (ha : 0 < (f (6 * i + 4)).toInt) (zs : zr su) (zv : zr v) (e : iI v = tg (tup f i) (c.1 10).toNat) (hc : hs = 0 ∨ (c.1 9 = 2 ∧ v < su) ∨ (c.1 9 ≠ 2 ∧ su < v)) : gfI c f u (i + 1) 1 v := ⟨by
  rw [gF_y w, h.1]; unfold fS
  rw [if_neg (by omega), if_neg (by omega), if_pos ha, ← e]
  dsimp only
  rw [if_pos ((gfI_cd h.2 zs zv).mpr hc)]; rfl, Or.inr rfl⟩
theorem gfI_k (h : gfI c f u i hs su) (w : gk c (tup f i) = u) (h0 : 2 ≤ c.1 9) (ha : 0 < (f (6 * i + 4)).toInt) (zs : zr su) (zv : zr v) (e : iI v = tg (tup f i) (c.1 10).toNat) (hc : ¬ (hs = 0 ∨ (c.1 9 = 2 ∧ v < su) ∨ (c.1 9 ≠ 2 ∧ su < v))) : gfI c f u (i + 1) 1 su := ⟨by
  rw [gF_y w, h.1]; unfold fS
  rw [if_neg (by omega), if_neg (by omega), if_pos ha, ← e]
  dsimp only
  rw [if_neg (fun q => hc ((gfI_cd h.2 zs zv).mp q))]; rfl, Or.inr rfl⟩
theorem gTp_l (hk : (k : Int) < c.1 4) (h4 : k < 4) : tg (gTp c f n (gk c t)) k = tg t (c.2 k 0).toNat := by
  unfold gTp; rw [tg_ts h4, if_neg (by omega)]; unfold gk; rw [tg_mk k h4, if_pos hk]
theorem gTp_m (hk : (k : Int) = c.1 4) (h4 : k < 4) : tg (gTp c f n u) k = (gF c f u n).2 := by
  unfold gTp; rw [tg_ts h4, if_pos (by omega)]
theorem gTp_r (hk : c.1 4 < (k : Int)) (h0 : 0 ≤ c.1 4) (h4 : k < 4) : tg (gTp c f n (gk c t)) k = 0 := by
  unfold gTp; rw [tg_ts h4, if_neg (by omega)]; exact gk_z (by omega) h4
theorem gTp_i (h0 : 0 ≤ c.1 4) (e : gTp c f n (gk c t) = gTp c f n (gk c u)) : gk c t = gk c u := tg_x fun k hk => by
  by_cases w : k = (c.1 4).toNat
  · rw [gk_z (by omega) hk, gk_z (by omega) hk]
  · have q : tg (gTp c f n (gk c t)) k = tg (gTp c f n (gk c u)) k := by rw [e]
    unfold gTp at q
    rw [tg_ts hk, tg_ts hk, if_neg w, if_neg w] at q; exact q
def gPM (c : LC) (f : Nat → Int32) (n i : Nat) : Tup → Prop := fun t => ∃ k, k < i ∧ gTp c f n (gk c (tup f k)) = t
def grM (c : LC) (f : Nat → Int32) (n i : Nat) (W : Nat → Int32) (m : Nat) : Prop := isW W m (gPM c f n i) (fun _ => 1) zM
theorem grM_0 : grM c f n 0 W 0 := isW_0 (fun t ⟨k, hk, _⟩ => Nat.not_lt_zero k hk)
theorem grM_k (h : grM c f n i W m) (hn : ¬ ∀ j : Nat, (j : Int) < (i : Int) → gk c (tup f j) ≠ gk c (tup f i)) : grM c f n (i + 1) W m := by
  refine isW_q h (fun t => ⟨fun ⟨k, hk, e⟩ => ?_, fun ⟨k, hk, e⟩ => ⟨k, by omega, e⟩⟩) (fun _ _ => rfl) (fun _ _ => rfl)
  by_cases w : k = i
  · have q : ∃ j : Nat, j < i ∧ gk c (tup f j) = gk c (tup f i) := Classical.byContradiction fun q => hn fun j hj e9 => q ⟨j, by omega, e9⟩
    obtain ⟨j, hj, e9⟩ := q
    exact ⟨j, hj, by rw [e9, ← w]; exact e⟩
  · exact ⟨k, by omega, e⟩
theorem grM_s (h0 : 0 ≤ c.1 4) (hn : ∀ j : Nat, (j : Int) < (i : Int) → gk c (tup f j) ≠ gk c (tup f i))
    (h : (z = 0 ∧ gPM c f n i (gTp c f n (gk c (tup f i))) ∧ k' = (m : Int) ∧ isW W' m (gPM c f n i) (sAdd (fun _ => 1) (gTp c f n (gk c (tup f i))) (iI 1)) zM) ∨
      (z = 1 ∧ ¬ gPM c f n i (gTp c f n (gk c (tup f i))) ∧ k' = (m : Int) + 1 ∧ isW W' (m + 1) (pAdd (gPM c f n i) (gTp c f n (gk c (tup f i)))) (tUp (fun _ => 1) (gTp c f n (gk c (tup f i))) (iI 1)) (tUp zM (gTp c f n (gk c (tup f i))) (iI 0)))) : grM c f n (i + 1) W' k'.toNat := by
  rcases h with ⟨_, ⟨k, hk, e⟩, _⟩ | ⟨_, _, h3, h4⟩
  · exact absurd (gTp_i h0 e) (hn k (by omega))
  · rw [show k'.toNat = m + 1 by omega]
    refine isW_q h4 (fun t => ⟨fun ⟨k, hk, e⟩ => ?_, fun h => ?_⟩) (fun s _ => ?_) (fun s _ => ?_)
    · by_cases w : k = i
      · exact Or.inl (by rw [← e, w])
      · exact Or.inr ⟨k, by omega, e⟩
    · rcases h with h | ⟨k, hk, e⟩
      · exact ⟨i, by omega, h.symm⟩
      · exact ⟨k, by omega, e⟩
    · unfold tUp
      by_cases w : s = gTp c f n (gk c (tup f i))
      · rw [if_pos w]; rfl
      · rw [if_neg w]
    · unfold tUp
      by_cases w : s = gTp c f n (gk c (tup f i))
      · rw [if_pos w]; rfl
      · rw [if_neg w]
theorem grM_e (h : grM c f n n W m) : gaR W m (sG c f n) := by
  refine ⟨gPM c f n n, isW_q h (fun _ => Iff.rfl) (fun t ht => ?_) (fun _ _ => rfl), fun t ht => ?_⟩
  · unfold sG; exact pI_y ht
  · exact pI_ne (p := gPM c f n n t) (a := 1) ht
end Grp
end
