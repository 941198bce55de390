section
/-! the reference: sides copied -/
def cpL (f f' : Nat → Int32) (N fm to k : Int) : Prop := (∀ q : Nat, (q : Int) < N * to ∨ N * to + k ≤ (q : Int) → f' q = f q) ∧ ∀ q : Nat, (q : Int) < k → f' ((N * to).toNat + q) = f ((N * fm).toNat + q)
theorem cpL_0 {f : Nat → Int32} {N fm to : Int} : cpL f f N fm to 0 := ⟨fun _ _ => rfl, fun q h => absurd h (by omega)⟩
theorem cpL_s {f f' f2 : Nat → Int32} {N fm to k : Int} (h : cpL f f' N fm to k) (h0 : 0 ≤ k) (ht : 0 ≤ N * to) (hf : 0 ≤ N * fm) (hk : N * fm = N * to ∨ N * fm + k < N * to ∨ N * to + k ≤ N * fm) (e : ∀ j, j ≠ (N * to + k).toNat → f2 j = f' j) (e' : f2 (N * to + k).toNat = f' (N * fm + k).toNat) : cpL f f2 N fm to (k + 1) := by
  refine ⟨fun q hq => ?_, fun q hq => ?_⟩
  · rw [e q (by omega)]; exact h.1 q (by omega)
  · by_cases w : (q : Int) = k
    · rw [show (N * to).toNat + q = (N * to + k).toNat by omega, e', show (N * fm).toNat + q = (N * fm + k).toNat by omega]
      exact h.1 _ (by omega)
    · rw [e _ (by omega)]; exact h.2 q (by omega)
def cpP (gh : gGh) (fm to : Int) (AI AI' : gI) : Prop := (∀ b, b ≠ gh 56 0 → b ≠ gh 57 0 → b ≠ gh 79 0 → AI' b = AI b) ∧ cpL (AI (gh 56 0)) (AI' (gh 56 0)) 11520 fm to 11520 ∧ cpL (AI (gh 57 0)) (AI' (gh 57 0)) 16 fm to 16 ∧ cpL (AI (gh 79 0)) (AI' (gh 79 0)) 16 fm to 16
theorem cp_to {gh : gGh} {fm to : Int} {AI AI' : gI} (h : cpP gh fm to AI AI') (h0 : 0 ≤ fm ∧ 0 ≤ to) {r : Nat} (hr : r < 16) : rfM gh AI' to r = rfM gh AI fm r := by
  unfold rfM
  refine Prod.ext ?_ (funext fun q => ?_)
  · show (AI' (gh 57 0) _).toInt.toNat = (AI (gh 57 0) _).toInt.toNat
    have e := h.2.2.1.2 r (by omega)
    rw [show (16 * to + (r : Int)).toNat = (16 * to).toNat + r by omega, e, show (16 * fm).toNat + r = (16 * fm + (r : Int)).toNat by omega]
  · show (if q < 720 then _ else _) = if q < 720 then _ else _
    by_cases w : q < 720
    · rw [if_pos w, if_pos w]
      have e := h.2.1.2 (720 * r + q) (by omega)
      rw [show (11520 * to + 720 * (r : Int)).toNat + q = (11520 * to).toNat + (720 * r + q) by omega, e]; congr 1; omega
    · rw [if_neg w, if_neg w]
theorem cp_o {gh : gGh} {fm to sd : Int} {AI AI' : gI} (h : cpP gh fm to AI AI') (h0 : 0 ≤ fm ∧ 0 ≤ to) (hs : 0 ≤ sd) (hne : sd ≠ to) {r : Nat} (hr : r < 16) : rfM gh AI' sd r = rfM gh AI sd r := by
  unfold rfM
  refine Prod.ext ?_ (funext fun q => ?_)
  · show (AI' (gh 57 0) _).toInt.toNat = (AI (gh 57 0) _).toInt.toNat
    rw [h.2.2.1.1 _ (by omega)]
  · show (if q < 720 then _ else _) = if q < 720 then _ else _
    by_cases w : q < 720
    · rw [if_pos w, if_pos w, h.2.1.1 _ (by omega)]
    · rw [if_neg w, if_neg w]
/-! the reference: a table with its changes -/
section Chm
variable {x b W W' : Nat → Int32} {n m i j nb : Nat} {rr z k' : Int} {t : Tup} {P : Tup → Prop} {S : Tup → Int32} {cn : Int32}
/-- the batch, read off three arrays -/
def rbE (T V C b : Nat → Int32) (nb : Nat) : Prop := ∀ i, i < nb → T i = b (6 * i) ∧ (∀ k, k < 4 → V (4 * i + k) = b (6 * i + 1 + k)) ∧ C i = b (6 * i + 5)
def gaX (f : Nat → Int32) (n : Nat) (P : Tup → Prop) (S : Tup → Int32) : Prop := isW f n P S zM ∧ ∀ t, S t ≠ 0 → P t
theorem gaX_R (h : gaX W n P S) : gaR W n S := ⟨P, h.1, h.2⟩
theorem gaX_s (h0 : ∀ t, S t ≠ 0 → P t) (h : (z = 0 ∧ P t ∧ k' = (n : Int) ∧ isW W' n P (sAdd S t cn) zM) ∨ (z = 1 ∧ ¬ P t ∧ k' = (n : Int) + 1 ∧ isW W' (n + 1) (pAdd P t) (tUp S t cn) (tUp zM t (iI 0)))) : gaX W' k'.toNat (pAdd P t) (sAdd S t cn) := by
  have hs : ∀ s, sAdd S t cn s ≠ 0 → pAdd P t s := fun s hs => by
    by_cases w : s = t
    · exact Or.inl w
    · rw [sAdd_k w] at hs; exact Or.inr (h0 s hs)
  rcases h with ⟨_, h2, h3, h4⟩ | ⟨_, h2, h3, h4⟩
  · refine ⟨?_, hs⟩
    rw [show k'.toNat = n by omega]
    refine isW_q h4 (fun s => ⟨fun w => ?_, fun w => Or.inr w⟩) (fun _ _ => rfl) (fun _ _ => rfl)
    rcases w with w | w
    · rw [w]; exact h2
    · exact w
  · have e0 : S t = 0 := Classical.byContradiction (fun q => h2 (h0 t q))
    have eS : tUp S t cn = sAdd S t cn := by rw [sAdd_up, e0, Int32.zero_add]
    have eM : tUp zM t (iI 0) = zM := funext fun s => by
      unfold tUp
      by_cases w : s = t
      · rw [if_pos w]; rfl
      · rw [if_neg w]
    rw [eS, eM] at h4
    exact ⟨by rw [show k'.toNat = n + 1 by omega]; exact h4, hs⟩
theorem gaX_q {P' : Tup → Prop} {S' : Tup → Int32} (h : gaX W n P S) (hP : ∀ t, P' t ↔ P t) (hS : ∀ t, S' t = S t) : gaX W n P' S' := ⟨isW_q h.1 hP (fun t _ => hS t) (fun _ _ => rfl), fun t ht => (hP t).mpr (h.2 t (by rw [← hS t]; exact ht))⟩
def paX (x : Nat → Int32) (i : Nat) : Tup → Prop := fun t => ∃ q, q < i ∧ tup x q = t
def pbX (x : Nat → Int32) (n : Nat) (b : Nat → Int32) (rr : Int) (j : Nat) : Tup → Prop := fun t => paX x n t ∨ ∃ q, q < j ∧ (b (6 * q)).toInt = rr ∧ btu b q = t
def sbX (x : Nat → Int32) (n : Nat) (b : Nat → Int32) (rr : Int) (j : Nat) : Tup → Int32 := fun t => bS x n t + cS b rr j t
abbrev s1X (x : Nat → Int32) (i : Nat) : Tup → Int32 := sR id (fun _ a => a) x i s0T
theorem gx_0 : gaX W 0 (paX x 0) (s1X x 0) := ⟨isW_0 (fun t ⟨q, h, _⟩ => Nat.not_lt_zero q h), fun t h => absurd rfl h⟩
theorem gx_1 (h : gaX W m (pAdd (paX x i) (tup x i)) (sAdd (s1X x i) (tup x i) (x (6 * i + 4)))) : gaX W m (paX x (i + 1)) (s1X x (i + 1)) := by
  refine gaX_q h (fun t => ⟨fun ⟨q, a, e⟩ => ?_, fun w => ?_⟩) (fun t => rfl)
  · by_cases w : q = i
    · exact Or.inl (by rw [← e, w])
    · exact Or.inr ⟨q, by omega, e⟩
  · rcases w with w | ⟨q, a, e⟩
    · exact ⟨i, by omega, w.symm⟩
    · exact ⟨q, by omega, e⟩
theorem gx_2 (hx : okB x n) (h : gaX W m (paX x n) (s1X x n)) : gaX W m (pbX x n b rr 0) (sbX x n b rr 0) := by
  refine gaX_q h (fun t => ⟨fun w => w.elim id (fun ⟨q, a, _⟩ => absurd a (Nat.not_lt_zero q)), Or.inl⟩) (fun t => ?_)
  show bS x n t + cS b rr 0 t = s1X x n t
  rw [show cS b rr 0 t = 0 from rfl, Int32.add_zero]
  show _ = sR id (fun _ a => a) x n s0T t
  rw [sR_all hx (fun _ => rfl)]
  show bS x n t = s0T t + bS x n t
  rw [show s0T t = 0 from rfl, Int32.zero_add]
theorem gx_n (hn : (b (6 * j)).toInt ≠ rr) (h : gaX W m (pbX x n b rr j) (sbX x n b rr j)) : gaX W m (pbX x n b rr (j + 1)) (sbX x n b rr (j + 1)) := by
  refine gaX_q h (fun t => ⟨fun w => ?_, fun w => ?_⟩) (fun t => ?_)
  · rcases w with w | ⟨q, a, e⟩
    · exact Or.inl w
    · by_cases v : q = j
      · rw [v] at e; exact absurd e.1 hn
      · exact Or.inr ⟨q, by omega, e⟩
  · rcases w with w | ⟨q, a, e⟩
    · exact Or.inl w
    · exact Or.inr ⟨q, by omega, e⟩
  · show bS x n t + cS b rr (j + 1) t = bS x n t + cS b rr j t
    rw [cS, if_neg (fun q => hn q.1)]
theorem gx_y (hb : btO b nb) (hj : j < nb) (hy : (b (6 * j)).toInt = rr) (h : gaX W m (pAdd (pbX x n b rr j) (btu b j)) (sAdd (sbX x n b rr j) (btu b j) (b (6 * j + 5)))) : gaX W m (pbX x n b rr (j + 1)) (sbX x n b rr (j + 1)) := by
  refine gaX_q h (fun t => ⟨fun w => ?_, fun w => ?_⟩) (fun t => ?_)
  · rcases w with w | ⟨q, a, e⟩
    · exact Or.inr (Or.inl w)
    · by_cases v : q = j
      · exact Or.inl (by rw [← e.2, v])
      · exact Or.inr (Or.inr ⟨q, by omega, e⟩)
  · rcases w with w | w | ⟨q, a, e⟩
    · exact Or.inr ⟨j, by omega, hy, w.symm⟩
    · exact Or.inl w
    · exact Or.inr ⟨q, by omega, e⟩
  · show bS x n t + cS b rr (j + 1) t = sAdd (sbX x n b rr j) (btu b j) (b (6 * j + 5)) t
    by_cases w : t = btu b j
    · rw [w, sAdd_s, cS, if_pos ⟨hy, rfl⟩]
      show _ = bS x n (btu b j) + cS b rr j (btu b j) + b (6 * j + 5)
      rw [cS_n j (fun q hq e => absurd (bt_lt hb.1 hq hj (by rw [e.1, hy])) (by rw [e.2, tc_0.mpr rfl]; decide)), Int32.add_zero]
    · rw [sAdd_k w, cS, if_neg (fun q => w q.2.symm)]; rfl
/-- a table's count would be below 0 -/
def lowX (x : Nat → Int32) (n : Nat) (b : Nat → Int32) (rr : Int) (nb : Nat) : Prop := ∃ t, pbX x n b rr nb t ∧ (sbX x n b rr nb t).toInt < 0
theorem low_y (h : gaX W m (pbX x n b rr nb) (sbX x n b rr nb)) (hi : i < m) (hl : (W (6 * i + 4)).toInt < 0) : lowX x n b rr nb := by
  have q := h.1.2.1 i hi
  exact ⟨tup W i, q.1, by rw [← q.2.1]; exact hl⟩
theorem low_n (h : gaX W m (pbX x n b rr nb) (sbX x n b rr nb)) (hn : ∀ i : Nat, (i : Int) < (m : Int) → 0 ≤ (W (6 * i + 4)).toInt) : ¬ lowX x n b rr nb := fun ⟨t, a, e⟩ => by
  obtain ⟨i, hi, w⟩ := h.1.2.2 t a
  have q := (h.1.2.1 i hi).2.1
  rw [w] at q
  have := hn i (by omega)
  rw [q] at this
  omega
theorem low_b {F : RF} (hb : btO b nb) (hF : ∀ t, 0 ≤ (bS (F rr.toNat).2 (F rr.toNat).1 t).toInt) (h0 : 0 ≤ rr) (h : lowX (F rr.toNat).2 (F rr.toNat).1 b rr nb) : ∃ i, i < nb ∧ blw b F 1 i := by
  obtain ⟨t, a, e⟩ := h
  by_cases w : ∃ q, q < nb ∧ (b (6 * q)).toInt = rr ∧ btu b q = t
  · obtain ⟨q, q1, q2, q3⟩ := w
    refine ⟨q, q1, ?_⟩
    unfold blw
    have c := cS_y hb.1 nb (Nat.le_refl _) q1 q2
    rw [q3] at c ⊢
    rw [q2]
    have e9 : sbX (F rr.toNat).2 (F rr.toNat).1 b rr nb t = bS (F rr.toNat).2 (F rr.toNat).1 t + b (6 * q + 5) := by
      show _ + cS b rr nb t = _
      rw [c]
    rw [e9] at e
    rw [show (iI 1 : Int32) = 1 from rfl, Int32.one_mul]; exact e
  · have c := cS_n (f := b) (tb := rr) (t := t) nb (fun q hq k => w ⟨q, hq, k⟩)
    have e9 : sbX (F rr.toNat).2 (F rr.toNat).1 b rr nb t = bS (F rr.toNat).2 (F rr.toNat).1 t := by
      show _ + cS b rr nb t = _
      rw [c, Int32.add_zero]
    rw [e9] at e
    have := hF t
    omega
theorem low_f {F : RF} {tbs : Int} (hb : btO b nb) (htb : ∀ i, i < nb → 0 ≤ (b (6 * i)).toInt ∧ (b (6 * i)).toInt < tbs) (h : ∀ q : Nat, (q : Int) < tbs → ¬ lowX (F q).2 (F q).1 b (q : Int) nb) : ¬ ∃ i, i < nb ∧ blw b F 1 i := fun ⟨i, hi, e⟩ => by
  have q := htb i hi
  refine h (b (6 * i)).toInt.toNat (by omega) ⟨btu b i, Or.inr ⟨i, hi, by omega, rfl⟩, ?_⟩
  have e1 : (((b (6 * i)).toInt.toNat : Nat) : Int) = (b (6 * i)).toInt := by omega
  show (bS (F (b (6 * i)).toInt.toNat).2 (F (b (6 * i)).toInt.toNat).1 (btu b i) + cS b (((b (6 * i)).toInt.toNat : Nat) : Int) nb (btu b i)).toInt < 0
  rw [e1, cS_y hb.1 nb (Nat.le_refl _) hi rfl]
  unfold blw at e
  rw [show (iI 1 : Int32) = 1 from rfl, Int32.one_mul] at e; exact e
theorem sb_tb {F : RF} {r : Nat} : sbX (F r).2 (F r).1 b (r : Int) nb = tbS b nb F 1 r := funext fun t => by
  show _ = bS (F r).2 (F r).1 t + iI 1 * cS b (r : Int) nb t
  rw [show (iI 1 : Int32) = 1 from rfl, Int32.one_mul]; rfl
end Chm
end
section
def rmX7_copiesf : Room := { frames := 0, cells := 0, slots := 0, locals := 0 }
set_option maxHeartbeats 4000000 in
set_option maxRecDepth 100000 in
/-- a side is copied -/
theorem c_X7_copiesf (l : Launch) (g : gG) (gh : gGh) (T : Nat → Int32) (I : gI) (R : gR) (J : gJ) (AI : gI) (AJ : gJ) (AR : gR) (mo : Nat) (fm : Int) (to : Int) (zfm : zr fm) (zto : zr to) (hv : mInv g gh R I AI) (hm : gO g mo 7) (hT : AI (gh 50 0) = T) (h0 : 0 ≤ fm ∧ fm ≤ 10 ∧ 0 ≤ to ∧ to ≤ 10) : gMet l g yX7_copies tsX7_copies rmX7_copiesf [.ref mo, .int (iI fm), .int (iI to)] (I, R, J, AI, AJ, AR) (gQv g (fun w : gS => I = w.1 ∧ R = w.2.1 ∧ J = w.2.2.1 ∧ AJ = w.2.2.2.2.1 ∧ AR = w.2.2.2.2.2 ∧ (mInv g gh R I (w.2.2.2.1)) ∧ ((w.2.2.2.1) (gh 50 0) = T) ∧ (cpP gh fm to AI (w.2.2.2.1)))) := by
  refine gStart (cc := cX7_copies) (maxL := 4) (ret := none) (by decide) rfl (Nat.le_of_ble_eq_true rfl) ?_
  intro p e s m below meth c ls F hr hlk hH hz hS hl
  have hl : lv_has ls 4 [(0, .ref mo), (1, .int (iI fm)), (2, .int (iI to))] := hl
  have hS : va_S (gA g) s.heap s.heap [] := hS
  obtain ⟨H, hHe⟩ : ∃ H : Heap, H = s.heap := ⟨_, rfl⟩
  obtain ⟨locs, hlo⟩ : ∃ k : List Loc, k = [] := ⟨_, rfl⟩
  have hH : gH g I R J AI AJ AR H := by rw [hHe]; exact hH
  have hS : va_S (gA g) s.heap H locs := by rw [hHe, hlo]; exact hS
  suffices hw : W p l e rmX7_copiesf s m ([.ref mo, .int (iI fm), .int (iI to)] : List Value).toArray below meth c H locs 0 0 (MQ below (gQv g (fun w : gS => I = w.1 ∧ R = w.2.1 ∧ J = w.2.2.1 ∧ AJ = w.2.2.2.2.1 ∧ AR = w.2.2.2.2.2 ∧ (mInv g gh R I (w.2.2.2.1)) ∧ ((w.2.2.2.1) (gh 50 0) = T) ∧ (cpP gh fm to AI (w.2.2.2.1)))) ([.ref mo, .int (iI fm), .int (iI to)] : List Value).toArray s 0 0 (gA g)) (F0 m 0 ls []) by
    rw [hHe, hlo] at hw; exact hw
  clear hHe hlo
  have iX7 : ∀ w ∈ u_ws RX7 TX7 32, w ∈ tsX7_copies := fun w h => List.mem_cons_of_mem _ (inTB7 w h)
  have k24 : Cond.fieldLink RX7 24 (TX7 6).1 (TX7 6).2.1 (TX7 6).2.2.1 ∈ tsX7_copies := List.mem_cons_of_mem _ fl_24
  have k27 : Cond.fieldLink RX7 27 (TX7 7).1 (TX7 7).2.1 (TX7 7).2.2.1 ∈ tsX7_copies := List.mem_cons_of_mem _ fl_27
  have k51 : Cond.fieldLink RX7 51 (TX7 29).1 (TX7 29).2.1 (TX7 29).2.2.1 ∈ tsX7_copies := List.mem_cons_of_mem _ fl_51
  refine z_iconst F dX7_copies_0 ?_
  refine lv_istore_n (lv' := [(3, .int (iI 0)), (0, .ref mo), (1, .int (iI fm)), (2, .int (iI to))]) F.1 F.2.1 dX7_copies_1 rfl hl (by decide) rfl (fun ls hl => ?_)
  have cut_2_1 : ∀ (NN : Nat) (k : Int) (AI_1 : gI) (H : Heap) (locs : List Loc) (ls : Array Slot), zr k → (mInv g gh R I AI_1) → (AI_1 (gh 50 0) = T) → (0 ≤ k ∧ k ≤ 11520) → (∀ b, b ≠ gh 56 0 → b ≠ gh 57 0 → b ≠ gh 79 0 → AI_1 b = AI b) → (cpL (AI (gh 56 0)) (AI_1 (gh 56 0)) 11520 fm to k) → (cpL (AI (gh 57 0)) (AI_1 (gh 57 0)) 16 fm to 0) → (cpL (AI (gh 79 0)) (AI_1 (gh 79 0)) 16 fm to 0) → (11520 - k) < ((NN : Nat) : Int) → gH g I R J AI_1 AJ AR H → va_S (gA g) s.heap H locs → lv_has ls 4 [(3, .int (iI k)), (0, .ref mo), (1, .int (iI fm)), (2, .int (iI to))] → W p l e rmX7_copiesf s m ([.ref mo, .int (iI fm), .int (iI to)] : List Value).toArray below meth c H locs 0 0 (MQ below (gQv g (fun w : gS => I = w.1 ∧ R = w.2.1 ∧ J = w.2.2.1 ∧ AJ = w.2.2.2.2.1 ∧ AR = w.2.2.2.2.2 ∧ (mInv g gh R I (w.2.2.2.1)) ∧ ((w.2.2.2.1) (gh 50 0) = T) ∧ (cpP gh fm to AI (w.2.2.2.1)))) ([.ref mo, .int (iI fm), .int (iI to)] : List Value).toArray s 0 0 (gA g)) (F0 m 2 ls []) := by
    intro NN2
    induction NN2 with
    | zero =>
      intro k AI_1 H locs ls zk hv hT hk1 fW c56 c57 c79 hm2 hH hS hl
      exact absurd hm2 (by omega)
    | succ NN2 ih2 =>
      intro k AI_1 H locs ls zk hv hT hk1 fW c56 c57 c79 hm2 hH hS hl
      refine lv_iload_n F.1 F.2.1 dX7_copies_2 rfl (lv_at hl 0 rfl) ?_
      refine z_sipush F dX7_copies_3 (by decide) ?_
      refine z_icmp_ge (tgt := 39) F dX7_copies_6 (by decide) zk ⟨by decide, by decide⟩ (fun c_3 => ?_) (fun c_3 => ?_)
      · refine z_iconst F dX7_copies_39 ?_
        refine lv_istore_n (lv' := [(3, .int (iI 0)), (0, .ref mo), (1, .int (iI fm)), (2, .int (iI to))]) F.1 F.2.1 dX7_copies_40 rfl hl (by decide) rfl (fun ls hl => ?_)
        have cut_41_4 : ∀ (NN : Nat) (k : Int) (AI_4 : gI) (H : Heap) (locs : List Loc) (ls : Array Slot), zr k → (mInv g gh R I AI_4) → (AI_4 (gh 50 0) = T) → (0 ≤ k ∧ k ≤ 16) → (∀ b, b ≠ gh 56 0 → b ≠ gh 57 0 → b ≠ gh 79 0 → AI_4 b = AI b) → (cpL (AI (gh 56 0)) (AI_4 (gh 56 0)) 11520 fm to 11520) → (cpL (AI (gh 57 0)) (AI_4 (gh 57 0)) 16 fm to k) → (cpL (AI (gh 79 0)) (AI_4 (gh 79 0)) 16 fm to k) → (16 - k) < ((NN : Nat) : Int) → gH g I R J AI_4 AJ AR H → va_S (gA g) s.heap H locs → lv_has ls 4 [(3, .int (iI k)), (0, .ref mo), (1, .int (iI fm)), (2, .int (iI to))] → W p l e rmX7_copiesf s m ([.ref mo, .int (iI fm), .int (iI to)] : List Value).toArray below meth c H locs 0 0 (MQ below (gQv g (fun w : gS => I = w.1 ∧ R = w.2.1 ∧ J = w.2.2.1 ∧ AJ = w.2.2.2.2.1 ∧ AR = w.2.2.2.2.2 ∧ (mInv g gh R I (w.2.2.2.1)) ∧ ((w.2.2.2.1) (gh 50 0) = T) ∧ (cpP gh fm to AI (w.2.2.2.1)))) ([.ref mo, .int (iI fm), .int (iI to)] : List Value).toArray s 0 0 (gA g)) (F0 m 41 ls []) := by
          intro NN41
          induction NN41 with
          | zero =>
            intro k AI_4 H locs ls zk hv hT hk2 fW c56 c57 c79 hm41 hH hS hl
            exact absurd hm41 (by omega)
          | succ NN41 ih41 =>
            intro k AI_4 H locs ls zk hv hT hk2 fW c56 c57 c79 hm41 hH hS hl
            refine lv_iload_n F.1 F.2.1 dX7_copies_41 rfl (lv_at hl 0 rfl) ?_
            refine z_bipush F dX7_copies_42 (by decide) ?_
            refine z_icmp_ge (tgt := 97) F dX7_copies_44 (by decide) zk ⟨by decide, by decide⟩ (fun c_6 => ?_) (fun c_6 => ?_)
            · exact g_vret F hr hlk hH hS hz ⟨rfl, rfl, rfl, rfl, rfl, hv, hT, ⟨fW, c56, (by rw [show k = 16 by omega] at c57; exact c57), (by rw [show k = 16 by omega] at c79; exact c79)⟩⟩ dX7_copies_97
            · refine lv_aload_n F.1 F.2.1 dX7_copies_47 rfl (lv_at hl 1 rfl) ?_
              obtain ⟨r_7a, r_7b⟩ : R mo 7 = some (gh 57 0) ∧ gAr g (gh 57 0) 9 176 := mR hv hm (q := (7, 176)) (by decide)
              refine g_getR (ci := 7) (k := 7) F hH rfl (by decide) iX7 hm (by decide) rfl (b := gh 57 0) r_7a k27 dX7_copies_48 ?_
              refine z_bipush F dX7_copies_51 (by decide) ?_
              refine lv_iload_n F.1 F.2.1 dX7_copies_53 rfl (lv_at hl 3 rfl) ?_
              refine z_imul F dX7_copies_54 ?_
              refine lv_iload_n F.1 F.2.1 dX7_copies_55 rfl (lv_at hl 0 rfl) ?_
              refine z_iadd F dX7_copies_56 ?_
              refine lv_aload_n F.1 F.2.1 dX7_copies_57 rfl (lv_at hl 1 rfl) ?_
              refine g_getR (ci := 7) (k := 7) F hH rfl (by decide) iX7 hm (by decide) rfl (b := gh 57 0) r_7a k27 dX7_copies_58 ?_
              refine z_bipush F dX7_copies_61 (by decide) ?_
              refine lv_iload_n F.1 F.2.1 dX7_copies_63 rfl (lv_at hl 2 rfl) ?_
              refine z_imul F dX7_copies_64 ?_
              refine lv_iload_n F.1 F.2.1 dX7_copies_65 rfl (lv_at hl 0 rfl) ?_
              refine z_iadd F dX7_copies_66 ?_
              have hx67 : 0 ≤ ((16 * fm) + k) ∧ ((16 * fm) + k) < ((176 : Nat) : Int) ∧ ((16 * fm) + k) ≤ 2147483647 := ⟨by omega, by omega, by omega⟩
              refine g_iald F hH r_7b hx67.1 hx67.2.1 hx67.2.2 dX7_copies_67 ?_
              have q67 := mSz hv hm (z := 16 * fm + k) (by omega) (by omega)
              have hx68 : 0 ≤ ((16 * to) + k) ∧ ((16 * to) + k) < ((176 : Nat) : Int) ∧ ((16 * to) + k) ≤ 2147483647 := ⟨by omega, by omega, by omega⟩
              refine g_iast F hH hS r_7b hx68.1 hx68.2.1 hx68.2.2 dX7_copies_68 (fun H locs hH hS => ?_)
              obtain ⟨AI_8, eAI_8⟩ : ∃ qQ, qQ = gup2 AI_4 (gh 57 0) (((16 * to) + k)).toNat (iI ((AI_4 (gh 57 0) (((16 * fm) + k)).toNat).toInt)) := ⟨_, rfl⟩
              rw [← eAI_8] at hH
              have kAI_8 : ∀ b, b ≠ (gh 57 0) → AI_8 b = AI_4 b := fun b hb => by rw [eAI_8]; exact funext fun j => gup2_a _ _ hb
              have hvO := hv
              have t_9 : AI_8 (gh 50 0) = AI_4 (gh 50 0) := mK hv hm (p := (0, 640)) (q := (7, 176)) (by decide) (by decide) (by decide) kAI_8
              have hv : mInv g gh R I AI_8 := mInv_sizes1 hv hm eAI_8 (by omega) (by omega)
              have hT : AI_8 (gh 50 0) = T := t_9.trans hT
              have c57 : cpL (AI (gh 57 0)) (AI_8 (gh 57 0)) 16 fm to (k + 1) := cpL_s c57 (by omega) (by omega) (by omega) (by omega) (fun j hj => by rw [eAI_8, gup2_k _ _ (by omega)]) (by rw [eAI_8, gup2_e _ _ (by omega), iI_self])
              have c56 : cpL (AI (gh 56 0)) (AI_8 (gh 56 0)) 11520 fm to 11520 := by rw [kAI_8 _ (show gh 56 0 ≠ gh 57 0 from mNe hv hm (p := (6, 126720)) (q := (7, 176)) (by decide) (by decide) (by decide))]; exact c56
              have c79 : cpL (AI (gh 79 0)) (AI_8 (gh 79 0)) 16 fm to k := by rw [kAI_8 _ (show gh 79 0 ≠ gh 57 0 from mNe hv hm (p := (29, 176)) (q := (7, 176)) (by decide) (by decide) (by decide))]; exact c79
              have fW : ∀ b, b ≠ gh 56 0 → b ≠ gh 57 0 → b ≠ gh 79 0 → AI_8 b = AI b := fun b h1 h2 h3 => (kAI_8 b h2).trans (fW b h1 h2 h3)
              refine lv_aload_n F.1 F.2.1 dX7_copies_69 rfl (lv_at hl 1 rfl) ?_
              obtain ⟨r_10a, r_10b⟩ : R mo 29 = some (gh 79 0) ∧ gAr g (gh 79 0) 9 176 := mR hv hm (q := (29, 176)) (by decide)
              refine g_getR (ci := 7) (k := 29) F hH rfl (by decide) iX7 hm (by decide) rfl (b := gh 79 0) r_10a k51 dX7_copies_70 ?_
              refine z_bipush F dX7_copies_73 (by decide) ?_
              refine lv_iload_n F.1 F.2.1 dX7_copies_75 rfl (lv_at hl 3 rfl) ?_
              refine z_imul F dX7_copies_76 ?_
              refine lv_iload_n F.1 F.2.1 dX7_copies_77 rfl (lv_at hl 0 rfl) ?_
              refine z_iadd F dX7_copies_78 ?_
              refine lv_aload_n F.1 F.2.1 dX7_copies_79 rfl (lv_at hl 1 rfl) ?_
              refine g_getR (ci := 7) (k := 29) F hH rfl (by decide) iX7 hm (by decide) rfl (b := gh 79 0) r_10a k51 dX7_copies_80 ?_
              refine z_bipush F dX7_copies_83 (by decide) ?_
              refine lv_iload_n F.1 F.2.1 dX7_copies_85 rfl (lv_at hl 2 rfl) ?_
              refine z_imul F dX7_copies_86 ?_
              refine lv_iload_n F.1 F.2.1 dX7_copies_87 rfl (lv_at hl 0 rfl) ?_
              refine z_iadd F dX7_copies_88 ?_
              have hx89 : 0 ≤ ((16 * fm) + k) ∧ ((16 * fm) + k) < ((176 : Nat) : Int) ∧ ((16 * fm) + k) ≤ 2147483647 := ⟨by omega, by omega, by omega⟩
              refine g_iald F hH r_10b hx89.1 hx89.2.1 hx89.2.2 dX7_copies_89 ?_
              refine z_name (fun v_11 ev_11 => ?_)
              have zv_11 : zr v_11 := by rw [ev_11]; exact zr_t _
              have hx90 : 0 ≤ ((16 * to) + k) ∧ ((16 * to) + k) < ((176 : Nat) : Int) ∧ ((16 * to) + k) ≤ 2147483647 := ⟨by omega, by omega, by omega⟩
              refine g_iast F hH hS r_10b hx90.1 hx90.2.1 hx90.2.2 dX7_copies_90 (fun H locs hH hS => ?_)
              obtain ⟨AI_12, eAI_12⟩ : ∃ qQ, qQ = gup2 AI_8 (gh 79 0) (((16 * to) + k)).toNat (iI (v_11)) := ⟨_, rfl⟩
              rw [← eAI_12] at hH
              have kAI_12 : ∀ b, b ≠ (gh 79 0) → AI_12 b = AI_8 b := fun b hb => by rw [eAI_12]; exact funext fun j => gup2_a _ _ hb
              have hvO := hv
              have t_13 : AI_12 (gh 50 0) = AI_8 (gh 50 0) := mK hv hm (p := (0, 640)) (q := (29, 176)) (by decide) (by decide) (by decide) kAI_12
              have hv : mInv g gh R I AI_12 := mInv_a hv hm (q := (29, 176)) (by decide) (by decide) kAI_12
              have hT : AI_12 (gh 50 0) = T := t_13.trans hT
              have c79 : cpL (AI (gh 79 0)) (AI_12 (gh 79 0)) 16 fm to (k + 1) := cpL_s c79 (by omega) (by omega) (by omega) (by omega) (fun j hj => by rw [eAI_12, gup2_k _ _ (by omega)]) (by rw [eAI_12, gup2_e _ _ (by omega), ev_11, iI_self])
              have c56 : cpL (AI (gh 56 0)) (AI_12 (gh 56 0)) 11520 fm to 11520 := by rw [kAI_12 _ (show gh 56 0 ≠ gh 79 0 from mNe hv hm (p := (6, 126720)) (q := (29, 176)) (by decide) (by decide) (by decide))]; exact c56
              have c57 : cpL (AI (gh 57 0)) (AI_12 (gh 57 0)) 16 fm to (k + 1) := by rw [kAI_12 _ (show gh 57 0 ≠ gh 79 0 from mNe hv hm (p := (7, 176)) (q := (29, 176)) (by decide) (by decide) (by decide))]; exact c57
              have fW : ∀ b, b ≠ gh 56 0 → b ≠ gh 57 0 → b ≠ gh 79 0 → AI_12 b = AI b := fun b h1 h2 h3 => (kAI_12 b h3).trans (fW b h1 h2 h3)
              refine z_iinc (lv' := [(3, .int (iI (k + 1))), (0, .ref mo), (1, .int (iI fm)), (2, .int (iI to))]) F dX7_copies_91 hl (k := 0) rfl (by decide) rfl (fun ls hl => ?_)
              refine z_goto (tgt := 41) F dX7_copies_94 (by decide) ?_
              exact ih41 (k + 1) AI_12 H locs ls ⟨by omega, by omega⟩ hv hT (by omega) fW c56 c57 c79 (by omega) hH hS (lv_sub hl [0, 1, 2, 3] rfl)
        exact cut_41_4 (((16 - 0) + 1 : Int).toNat) 0 AI_1 H locs ls ⟨by decide, by decide⟩ hv hT (by omega) fW (by rw [show k = 11520 by omega] at c56; exact c56) c57 c79 (by omega) hH hS (lv_sub hl [0, 1, 2, 3] rfl)
      · refine lv_aload_n F.1 F.2.1 dX7_copies_9 rfl (lv_at hl 1 rfl) ?_
        obtain ⟨r_14a, r_14b⟩ : R mo 6 = some (gh 56 0) ∧ gAr g (gh 56 0) 9 126720 := mR hv hm (q := (6, 126720)) (by decide)
        refine g_getR (ci := 7) (k := 6) F hH rfl (by decide) iX7 hm (by decide) rfl (b := gh 56 0) r_14a k24 dX7_copies_10 ?_
        refine z_sipush F dX7_copies_13 (by decide) ?_
        refine lv_iload_n F.1 F.2.1 dX7_copies_16 rfl (lv_at hl 3 rfl) ?_
        refine z_imul F dX7_copies_17 ?_
        refine lv_iload_n F.1 F.2.1 dX7_copies_18 rfl (lv_at hl 0 rfl) ?_
        refine z_iadd F dX7_copies_19 ?_
        refine lv_aload_n F.1 F.2.1 dX7_copies_20 rfl (lv_at hl 1 rfl) ?_
        refine g_getR (ci := 7) (k := 6) F hH rfl (by decide) iX7 hm (by decide) rfl (b := gh 56 0) r_14a k24 dX7_copies_21 ?_
        refine z_sipush F dX7_copies_24 (by decide) ?_
        refine lv_iload_n F.1 F.2.1 dX7_copies_27 rfl (lv_at hl 2 rfl) ?_
        refine z_imul F dX7_copies_28 ?_
        refine lv_iload_n F.1 F.2.1 dX7_copies_29 rfl (lv_at hl 0 rfl) ?_
        refine z_iadd F dX7_copies_30 ?_
        have hx31 : 0 ≤ ((11520 * fm) + k) ∧ ((11520 * fm) + k) < ((126720 : Nat) : Int) ∧ ((11520 * fm) + k) ≤ 2147483647 := ⟨by omega, by omega, by omega⟩
        refine g_iald F hH r_14b hx31.1 hx31.2.1 hx31.2.2 dX7_copies_31 ?_
        refine z_name (fun v_15 ev_15 => ?_)
        have zv_15 : zr v_15 := by rw [ev_15]; exact zr_t _
        have hx32 : 0 ≤ ((11520 * to) + k) ∧ ((11520 * to) + k) < ((126720 : Nat) : Int) ∧ ((11520 * to) + k) ≤ 2147483647 := ⟨by omega, by omega, by omega⟩
        refine g_iast F hH hS r_14b hx32.1 hx32.2.1 hx32.2.2 dX7_copies_32 (fun H locs hH hS => ?_)
        obtain ⟨AI_16, eAI_16⟩ : ∃ qQ, qQ = gup2 AI_1 (gh 56 0) (((11520 * to) + k)).toNat (iI (v_15)) := ⟨_, rfl⟩
        rw [← eAI_16] at hH
        have kAI_16 : ∀ b, b ≠ (gh 56 0) → AI_16 b = AI_1 b := fun b hb => by rw [eAI_16]; exact funext fun j => gup2_a _ _ hb
        have hvO := hv
        have t_17 : AI_16 (gh 50 0) = AI_1 (gh 50 0) := mK hv hm (p := (0, 640)) (q := (6, 126720)) (by decide) (by decide) (by decide) kAI_16
        have hv : mInv g gh R I AI_16 := mInv_a hv hm (q := (6, 126720)) (by decide) (by decide) kAI_16
        have hT : AI_16 (gh 50 0) = T := t_17.trans hT
        have c56 : cpL (AI (gh 56 0)) (AI_16 (gh 56 0)) 11520 fm to (k + 1) := cpL_s c56 (by omega) (by omega) (by omega) (by omega) (fun j hj => by rw [eAI_16, gup2_k _ _ (by omega)]) (by rw [eAI_16, gup2_e _ _ (by omega), ev_15, iI_self])
        have c57 : cpL (AI (gh 57 0)) (AI_16 (gh 57 0)) 16 fm to 0 := by rw [kAI_16 _ (show gh 57 0 ≠ gh 56 0 from mNe hv hm (p := (7, 176)) (q := (6, 126720)) (by decide) (by decide) (by decide))]; exact c57
        have c79 : cpL (AI (gh 79 0)) (AI_16 (gh 79 0)) 16 fm to 0 := by rw [kAI_16 _ (show gh 79 0 ≠ gh 56 0 from mNe hv hm (p := (29, 176)) (q := (6, 126720)) (by decide) (by decide) (by decide))]; exact c79
        have fW : ∀ b, b ≠ gh 56 0 → b ≠ gh 57 0 → b ≠ gh 79 0 → AI_16 b = AI b := fun b h1 h2 h3 => (kAI_16 b h1).trans (fW b h1 h2 h3)
        refine z_iinc (lv' := [(3, .int (iI (k + 1))), (0, .ref mo), (1, .int (iI fm)), (2, .int (iI to))]) F dX7_copies_33 hl (k := 0) rfl (by decide) rfl (fun ls hl => ?_)
        refine z_goto (tgt := 2) F dX7_copies_36 (by decide) ?_
        exact ih2 (k + 1) AI_16 H locs ls ⟨by omega, by omega⟩ hv hT (by omega) fW c56 c57 c79 (by omega) hH hS (lv_sub hl [0, 1, 2, 3] rfl)
  exact cut_2_1 (((11520 - 0) + 1 : Int).toNat) 0 AI H locs ls ⟨by decide, by decide⟩ hv hT (by omega) (fun _ _ _ _ => rfl) cpL_0 cpL_0 cpL_0 (by omega) hH hS (lv_sub hl [0, 1, 2, 3] rfl)

def rmX7_tablesf : Room := { frames := 1, cells := 0, slots := 0, locals := 21 }
set_option maxHeartbeats 4000000 in
set_option maxRecDepth 100000 in
/-- how many tables -/
theorem c_X7_tablesf (l : Launch) (g : gG) (gh : gGh) (T : Nat → Int32) (I : gI) (R : gR) (J : gJ) (AI : gI) (AJ : gJ) (AR : gR) (mo : Nat) (hv : mInv g gh R I AI) (hm : gO g mo 7) (hT : AI (gh 50 0) = T) : gMet l g yX7_tables tsX7_tables rmX7_tablesf [.ref mo] (I, R, J, AI, AJ, AR) (gQi g (fun (z : Int) (w : gS) => I = w.1 ∧ R = w.2.1 ∧ J = w.2.2.1 ∧ AI = w.2.2.2.1 ∧ AJ = w.2.2.2.2.1 ∧ AR = w.2.2.2.2.2 ∧ (0 ≤ z ∧ z ≤ (I mo 2).toInt) ∧ (∀ r : Int, z ≤ r → r < (I mo 2).toInt → tI T (40 * r) ≠ 0) ∧ (∀ r : Int, 0 ≤ r → r < z → tI T (40 * r) = 0))) := by
  refine gStart (cc := cX7_tables) (maxL := 2) (ret := (some (.int))) (by decide) rfl (Nat.le_of_ble_eq_true rfl) ?_
  intro p e s m below meth c ls F hr hlk hH hz hS hl
  have hl : lv_has ls 2 [(0, .ref mo)] := hl
  have hS : va_S (gA g) s.heap s.heap [] := hS
  obtain ⟨H, hHe⟩ : ∃ H : Heap, H = s.heap := ⟨_, rfl⟩
  obtain ⟨locs, hlo⟩ : ∃ k : List Loc, k = [] := ⟨_, rfl⟩
  have hH : gH g I R J AI AJ AR H := by rw [hHe]; exact hH
  have hS : va_S (gA g) s.heap H locs := by rw [hHe, hlo]; exact hS
  suffices hw : W p l e rmX7_tablesf s m ([.ref mo] : List Value).toArray below meth c H locs 0 0 (MQ below (gQi g (fun (z : Int) (w : gS) => I = w.1 ∧ R = w.2.1 ∧ J = w.2.2.1 ∧ AI = w.2.2.2.1 ∧ AJ = w.2.2.2.2.1 ∧ AR = w.2.2.2.2.2 ∧ (0 ≤ z ∧ z ≤ (I mo 2).toInt) ∧ (∀ r : Int, z ≤ r → r < (I mo 2).toInt → tI T (40 * r) ≠ 0) ∧ (∀ r : Int, 0 ≤ r → r < z → tI T (40 * r) = 0))) ([.ref mo] : List Value).toArray s 0 0 (gA g)) (F0 m 0 ls []) by
    rw [hHe, hlo] at hw; exact hw
  clear hHe hlo
  have hb0 := mJ hv hm
  unfold mNum1 at hb0
  have iX7 : ∀ w ∈ u_ws RX7 TX7 32, w ∈ tsX7_tables := fun w h => List.mem_cons_of_mem _ (inTB7 w h)
  have k64 : Cond.fieldLink RX7 64 (TX7 2).1 (TX7 2).2.1 (TX7 2).2.2.1 ∈ tsX7_tables := List.mem_cons_of_mem _ fl_64
  refine z_iconst F dX7_tables_0 ?_
  refine lv_istore_n (lv' := [(1, .int (iI 0)), (0, .ref mo)]) F.1 F.2.1 dX7_tables_1 rfl hl (by decide) rfl (fun ls hl => ?_)
  have cut_2_0 : ∀ (NN : Nat) (n : Int) (H : Heap) (locs : List Loc) (ls : Array Slot), zr n → (0 ≤ n ∧ n ≤ (I mo 2).toInt) → (∀ r : Int, 0 ≤ r → r < n → tI T (40 * r) = 0) → (16 - n) < ((NN : Nat) : Int) → gH g I R J AI AJ AR H → va_S (gA g) s.heap H locs → lv_has ls 2 [(1, .int (iI n)), (0, .ref mo)] → W p l e rmX7_tablesf s m ([.ref mo] : List Value).toArray below meth c H locs 0 0 (MQ below (gQi g (fun (z : Int) (w : gS) => I = w.1 ∧ R = w.2.1 ∧ J = w.2.2.1 ∧ AI = w.2.2.2.1 ∧ AJ = w.2.2.2.2.1 ∧ AR = w.2.2.2.2.2 ∧ (0 ≤ z ∧ z ≤ (I mo 2).toInt) ∧ (∀ r : Int, z ≤ r → r < (I mo 2).toInt → tI T (40 * r) ≠ 0) ∧ (∀ r : Int, 0 ≤ r → r < z → tI T (40 * r) = 0))) ([.ref mo] : List Value).toArray s 0 0 (gA g)) (F0 m 2 ls []) := by
    intro NN2
    induction NN2 with
    | zero =>
      intro n H locs ls zn hn htt hm2 hH hS hl
      exact absurd hm2 (by omega)
    | succ NN2 ih2 =>
      intro n H locs ls zn hn htt hm2 hH hS hl
      refine lv_iload_n F.1 F.2.1 dX7_tables_2 rfl (lv_at hl 0 rfl) ?_
      refine lv_aload_n F.1 F.2.1 dX7_tables_3 rfl (lv_at hl 1 rfl) ?_
      refine g_getI (ci := 7) (k := 2) F hH rfl (by decide) iX7 hm (by decide) rfl k64 dX7_tables_4 ?_
      have b_2 := mJ hv hm
      unfold mNum1 at b_2
      refine z_icmp_ge (tgt := 24) F dX7_tables_7 (by decide) zn (zr_t _) (fun c_3 => ?_) (fun c_3 => ?_)
      · refine lv_iload_n F.1 F.2.1 dX7_tables_24 rfl (lv_at hl 0 rfl) ?_
        exact g_iret F hr hlk hH hS hz zn ⟨rfl, rfl, rfl, rfl, rfl, rfl, by first | omega | rfl | (dsimp only; omega), mViews hv hm hT (by omega) (fun _ => by omega), htt⟩ dX7_tables_25
      · refine lv_aload_n F.1 F.2.1 dX7_tables_10 rfl (lv_at hl 1 rfl) ?_
        refine lv_iload_n F.1 F.2.1 dX7_tables_11 rfl (lv_at hl 0 rfl) ?_
        refine g_calli (g_runV (As := [.int (iI n)]) (rest := []) (ci := 7) F hl.1 hH hS hz (c_X7_kindOf l g gh T I R J AI AJ AR mo n zn hv hm hT (by omega)) (cwV 1 F.2.2.2.2.1 (good_up gT_X7_kindOf) rfl rfl rfl hdX7_kindOf ⟨Nat.le_of_ble_eq_true rfl, Nat.le_of_ble_eq_true rfl⟩) hm (by decide) rfl rfl rfl (Nat.le_of_ble_eq_true rfl) dX7_tables_12 ⟨Nat.zero_le _, Nat.zero_le _⟩) hS (fun v_10 I_4 R_5 J_6 AI_7 AJ_8 AR_9 H locs zv_10 hp_11 hH hS => ?_)
        dsimp only at hp_11
        obtain ⟨rfl, rfl, rfl, rfl, rfl, rfl, qkd⟩ := hp_11
        refine z_if_ne (tgt := 24) F dX7_tables_15 (by decide) zv_10 (fun c_12 => ?_) (fun c_12 => ?_)
        · refine lv_iload_n F.1 F.2.1 dX7_tables_24 rfl (lv_at hl 0 rfl) ?_
          exact g_iret F hr hlk hH hS hz zn ⟨rfl, rfl, rfl, rfl, rfl, rfl, by first | omega | rfl | (dsimp only; omega), mViews hv hm hT (by omega) (fun _ => by omega), htt⟩ dX7_tables_25
        · refine z_iinc (lv' := [(1, .int (iI (n + 1))), (0, .ref mo)]) F dX7_tables_18 hl (k := 0) rfl (by decide) rfl (fun ls hl => ?_)
          refine z_goto (tgt := 2) F dX7_tables_21 (by decide) ?_
          exact ih2 (n + 1) H locs ls ⟨by omega, by omega⟩ (by omega) (fun r h1 h2 => by by_cases e9 : r = n; (· rw [e9, ← qkd]; omega); (· exact htt r h1 (by omega))) (by omega) hH hS (lv_sub hl [0, 1] rfl)
  exact cut_2_0 (((16 - 0) + 1 : Int).toNat) 0 H locs ls ⟨by decide, by decide⟩ (by omega) (fun r h1 h2 => absurd h2 (by omega)) (by omega) hH hS (lv_sub hl [0, 1] rfl)
end
section
def rmX7_changesOff : Room := { frames := 3, cells := 0, slots := 0, locals := 71 }
set_option maxHeartbeats 4000000 in
set_option maxRecDepth 100000 in
/-- a table with its changes -/
theorem c_X7_changesOff (l : Launch) (g : gG) (gh : gGh) (T : Nat → Int32) (na nb : Nat) (bxa bf : Nat → Int32) (I : gI) (R : gR) (J : gJ) (AI : gI) (AJ : gJ) (AR : gR) (mo : Nat) (sd : Int) (rr : Int) (zsd : zr sd) (zrr : zr rr) (hv : mInv g gh R I AI) (hm : gO g mo 7) (hT : AI (gh 50 0) = T) (hs : 0 ≤ sd ∧ sd ≤ 10) (hr0 : 0 ≤ rr ∧ rr ≤ 15) (hna : tI (AI (gh 57 0)) (16 * sd + rr) = (na : Int)) (hXa : ∀ q : Nat, q < 720 → AI (gh 56 0) ((11520 * sd + 720 * rr).toNat + q) = bxa q) (h120 : na ≤ 120) (hA : okB bxa na) (hnb : (I mo 14).toInt = (nb : Int)) (hbf : rbE (AI (gh 61 0)) (AI (gh 62 0)) (AI (gh 63 0)) bf nb) (hbt : btO bf nb) : gMet l g yX7_changesOf tsX7_changesOf rmX7_changesOff [.ref mo, .int (iI sd), .int (iI rr)] (I, R, J, AI, AJ, AR) (gQi g (fun (z : Int) (w : gS) => R = w.2.1 ∧ J = w.2.2.1 ∧ AJ = w.2.2.2.2.1 ∧ AR = w.2.2.2.2.2 ∧ (mInv g gh R (w.1) (w.2.2.2.1)) ∧ ((w.2.2.2.1) (gh 50 0) = T) ∧ (wF mo I (w.1)) ∧ (z = 0 ∨ z = 1) ∧ (∀ b, b ≠ gh 75 0 → b ≠ gh 77 0 → (w.2.2.2.1) b = AI b) ∧ (gaX ((w.2.2.2.1) (gh 75 0)) ((w.1) mo 26).toInt.toNat (pbX bxa na bf rr nb) (sbX bxa na bf rr nb)) ∧ (tIz z (lowX bxa na bf rr nb)))) := by
  refine gStart (cc := cX7_changesOf) (maxL := 6) (ret := (some (.boolean))) (by decide) rfl (Nat.le_of_ble_eq_true rfl) ?_
  intro p e s m below meth c ls F hr hlk hH hz hS hl
  have hl : lv_has ls 6 [(0, .ref mo), (1, .int (iI sd)), (2, .int (iI rr))] := hl
  have hS : va_S (gA g) s.heap s.heap [] := hS
  obtain ⟨H, hHe⟩ : ∃ H : Heap, H = s.heap := ⟨_, rfl⟩
  obtain ⟨locs, hlo⟩ : ∃ k : List Loc, k = [] := ⟨_, rfl⟩
  have hH : gH g I R J AI AJ AR H := by rw [hHe]; exact hH
  have hS : va_S (gA g) s.heap H locs := by rw [hHe, hlo]; exact hS
  suffices hw : W p l e rmX7_changesOff s m ([.ref mo, .int (iI sd), .int (iI rr)] : List Value).toArray below meth c H locs 0 0 (MQ below (gQi g (fun (z : Int) (w : gS) => R = w.2.1 ∧ J = w.2.2.1 ∧ AJ = w.2.2.2.2.1 ∧ AR = w.2.2.2.2.2 ∧ (mInv g gh R (w.1) (w.2.2.2.1)) ∧ ((w.2.2.2.1) (gh 50 0) = T) ∧ (wF mo I (w.1)) ∧ (z = 0 ∨ z = 1) ∧ (∀ b, b ≠ gh 75 0 → b ≠ gh 77 0 → (w.2.2.2.1) b = AI b) ∧ (gaX ((w.2.2.2.1) (gh 75 0)) ((w.1) mo 26).toInt.toNat (pbX bxa na bf rr nb) (sbX bxa na bf rr nb)) ∧ (tIz z (lowX bxa na bf rr nb)))) ([.ref mo, .int (iI sd), .int (iI rr)] : List Value).toArray s 0 0 (gA g)) (F0 m 0 ls []) by
    rw [hHe, hlo] at hw; exact hw
  clear hHe hlo
  have wf : wF mo I I := wF_r
  have iX7 : ∀ w ∈ u_ws RX7 TX7 32, w ∈ tsX7_changesOf := fun w h => List.mem_cons_of_mem _ (inTB7 w h)
  have k269 : Cond.fieldLink RX7 269 (TX7 26).1 (TX7 26).2.1 (TX7 26).2.2.1 ∈ tsX7_changesOf := List.mem_cons_of_mem _ fl_269
  have k24 : Cond.fieldLink RX7 24 (TX7 6).1 (TX7 6).2.1 (TX7 6).2.2.1 ∈ tsX7_changesOf := List.mem_cons_of_mem _ fl_24
  have k266 : Cond.fieldLink RX7 266 (TX7 14).1 (TX7 14).2.1 (TX7 14).2.2.1 ∈ tsX7_changesOf := List.mem_cons_of_mem _ fl_266
  have k30 : Cond.fieldLink RX7 30 (TX7 11).1 (TX7 11).2.1 (TX7 11).2.2.1 ∈ tsX7_changesOf := List.mem_cons_of_mem _ fl_30
  have k45 : Cond.fieldLink RX7 45 (TX7 27).1 (TX7 27).2.1 (TX7 27).2.2.1 ∈ tsX7_changesOf := List.mem_cons_of_mem _ fl_45
  have k33 : Cond.fieldLink RX7 33 (TX7 12).1 (TX7 12).2.1 (TX7 12).2.2.1 ∈ tsX7_changesOf := List.mem_cons_of_mem _ fl_33
  have k36 : Cond.fieldLink RX7 36 (TX7 13).1 (TX7 13).2.1 (TX7 13).2.2.1 ∈ tsX7_changesOf := List.mem_cons_of_mem _ fl_36
  have k42 : Cond.fieldLink RX7 42 (TX7 25).1 (TX7 25).2.1 (TX7 25).2.2.1 ∈ tsX7_changesOf := List.mem_cons_of_mem _ fl_42
  refine lv_aload_n F.1 F.2.1 dX7_changesOf_0 rfl (lv_at hl 0 rfl) ?_
  refine z_iconst F dX7_changesOf_1 ?_
  refine g_putI (ci := 7) (k := 26) F hH hS rfl (by decide) iX7 hm (by decide) tyX7 tyX7_ok nmX7 rfl rfl rfl k269 dX7_changesOf_2 (fun H locs hH hS => ?_)
  obtain ⟨I_1, eI_1⟩ : ∃ qQ, qQ = gup2 I mo 26 (iI (0)) := ⟨_, rfl⟩
  rw [← eI_1] at hH
  have kI_1 : ∀ b, b ≠ mo → I_1 b = I b := fun b hb => by rw [eI_1]; exact funext fun j => gup2_a _ _ hb
  have w_2 : (I_1 mo 26).toInt = 0 := by rw [eI_1, gup2_s]; exact iI_val ⟨by decide, by decide⟩
  have hv : mInv g gh R I_1 AI := by rw [eI_1]; exact mP26 hv hm (by omega) (by omega)
  have wf : wF mo I I_1 := wF_t wf (by rw [eI_1]; exact wF_p)
  have u_3_2 : (I_1 mo 2).toInt = (I mo 2).toInt := by rw [wf 2 (by decide)]
  have u_3_5 : (I_1 mo 5).toInt = (I mo 5).toInt := by rw [wf 5 (by decide)]
  have u_3_14 : (I_1 mo 14).toInt = (I mo 14).toInt := by rw [wf 14 (by decide)]
  have u_3_16 : (I_1 mo 16).toInt = (I mo 16).toInt := by rw [wf 16 (by decide)]
  have u_3_24 : (I_1 mo 24).toInt = (I mo 24).toInt := by rw [wf 24 (by decide)]
  refine z_iconst F dX7_changesOf_5 ?_
  refine lv_istore_n (lv' := [(3, .int (iI 1)), (0, .ref mo), (1, .int (iI sd)), (2, .int (iI rr))]) F.1 F.2.1 dX7_changesOf_6 rfl hl (by decide) rfl (fun ls hl => ?_)
  refine z_iconst F dX7_changesOf_7 ?_
  refine lv_istore (lv' := [(4, .int (iI 0)), (3, .int (iI 1)), (0, .ref mo), (1, .int (iI sd)), (2, .int (iI rr))]) F.1 F.2.1 dX7_changesOf_8 hl (by decide) rfl (fun ls hl => ?_)
  have cut_10_5 : ∀ (NN : Nat) (an i : Int) (I_4 : gI) (AI_5 : gI) (H : Heap) (locs : List Loc) (ls : Array Slot), zr an → zr i → (mInv g gh R I_4 AI_5) → (AI_5 (gh 50 0) = T) → (wF mo I I_4) → (0 ≤ i ∧ i ≤ 120 ∧ (I_4 mo 26).toInt ≤ i) → (∀ b, b ≠ gh 75 0 → b ≠ gh 77 0 → AI_5 b = AI b) → (gaX (AI_5 (gh 75 0)) (I_4 mo 26).toInt.toNat (paX bxa i.toNat) (s1X bxa i.toNat)) → (i ≤ (na : Int)) → (120 - i) < ((NN : Nat) : Int) → gH g I_4 R J AI_5 AJ AR H → va_S (gA g) s.heap H locs → lv_has ls 6 [(4, .int (iI i)), (3, .int (iI an)), (0, .ref mo), (1, .int (iI sd)), (2, .int (iI rr))] → W p l e rmX7_changesOff s m ([.ref mo, .int (iI sd), .int (iI rr)] : List Value).toArray below meth c H locs 0 0 (MQ below (gQi g (fun (z : Int) (w : gS) => R = w.2.1 ∧ J = w.2.2.1 ∧ AJ = w.2.2.2.2.1 ∧ AR = w.2.2.2.2.2 ∧ (mInv g gh R (w.1) (w.2.2.2.1)) ∧ ((w.2.2.2.1) (gh 50 0) = T) ∧ (wF mo I (w.1)) ∧ (z = 0 ∨ z = 1) ∧ (∀ b, b ≠ gh 75 0 → b ≠ gh 77 0 → (w.2.2.2.1) b = AI b) ∧ (gaX ((w.2.2.2.1) (gh 75 0)) ((w.1) mo 26).toInt.toNat (pbX bxa na bf rr nb) (sbX bxa na bf rr nb)) ∧ (tIz z (lowX bxa na bf rr nb)))) ([.ref mo, .int (iI sd), .int (iI rr)] : List Value).toArray s 0 0 (gA g)) (F0 m 10 ls []) := by
    intro NN10
    induction NN10 with
    | zero =>
      intro an i I_4 AI_5 H locs ls zan zi hv hT wf hi fW hgx hin hm10 hH hS hl
      exact absurd hm10 (by omega)
    | succ NN10 ih10 =>
      intro an i I_4 AI_5 H locs ls zan zi hv hT wf hi fW hgx hin hm10 hH hS hl
      have uc_2 : (I_4 mo 2).toInt = (I mo 2).toInt := by rw [wf 2 (by decide)]
      have uc_5 : (I_4 mo 5).toInt = (I mo 5).toInt := by rw [wf 5 (by decide)]
      have uc_14 : (I_4 mo 14).toInt = (I mo 14).toInt := by rw [wf 14 (by decide)]
      have uc_16 : (I_4 mo 16).toInt = (I mo 16).toInt := by rw [wf 16 (by decide)]
      have uc_24 : (I_4 mo 24).toInt = (I mo 24).toInt := by rw [wf 24 (by decide)]
      have h56 : AI_5 (gh 56 0) = AI (gh 56 0) := fW _ (show gh 56 0 ≠ gh 75 0 from mNe hv hm (p := (6, 126720)) (q := (25, 9600)) (by decide) (by decide) (by decide)) (show gh 56 0 ≠ gh 77 0 from mNe hv hm (p := (6, 126720)) (q := (27, 4)) (by decide) (by decide) (by decide))
      have h57 : AI_5 (gh 57 0) = AI (gh 57 0) := fW _ (show gh 57 0 ≠ gh 75 0 from mNe hv hm (p := (7, 176)) (q := (25, 9600)) (by decide) (by decide) (by decide)) (show gh 57 0 ≠ gh 77 0 from mNe hv hm (p := (7, 176)) (q := (27, 4)) (by decide) (by decide) (by decide))
      refine lv_iload F.1 F.2.1 dX7_changesOf_10 (lv_at hl 0 rfl) ?_
      refine lv_aload_n F.1 F.2.1 dX7_changesOf_12 rfl (lv_at hl 2 rfl) ?_
      refine lv_iload_n F.1 F.2.1 dX7_changesOf_13 rfl (lv_at hl 3 rfl) ?_
      refine lv_iload_n F.1 F.2.1 dX7_changesOf_14 rfl (lv_at hl 4 rfl) ?_
      have b_7 := mJ hv hm
      unfold mNum1 at b_7
      refine g_calli (g_runV (As := [.int (iI sd), .int (iI rr)]) (rest := [.int (iI i)]) (ci := 7) F hl.1 hH hS hz (c_X7_sizeOf l g gh T I_4 R J AI_5 AJ AR mo sd rr zsd zrr hv hm hT (by omega) (by omega)) (cwV 2 F.2.2.2.2.1 (good_up gT_X7_sizeOf) rfl rfl rfl hdX7_sizeOf ⟨Nat.le_of_ble_eq_true rfl, Nat.le_of_ble_eq_true rfl⟩) hm (by decide) rfl rfl rfl (Nat.le_of_ble_eq_true rfl) dX7_changesOf_15 ⟨Nat.zero_le _, Nat.zero_le _⟩) hS (fun v_14 I_8 R_9 J_10 AI_11 AJ_12 AR_13 H locs zv_14 hp_15 hH hS => ?_)
      dsimp only at hp_15
      obtain ⟨rfl, rfl, rfl, rfl, rfl, rfl, q_16, qz15⟩ := hp_15
      have hs15 : v_14 = (na : Int) := by rw [qz15, h57]; exact hna
      refine z_icmp_ge (tgt := 58) F dX7_changesOf_18 (by decide) zi zv_14 (fun c_17 => ?_) (fun c_17 => ?_)
      · have hgx9 := gx_2 (b := bf) (rr := rr) hA (by rw [show i.toNat = na by omega] at hgx; exact hgx)
        refine z_iconst F dX7_changesOf_58 ?_
        refine lv_istore (lv' := [(4, .int (iI 0)), (3, .int (iI an)), (0, .ref mo), (1, .int (iI sd)), (2, .int (iI rr))]) F.1 F.2.1 dX7_changesOf_59 hl (by decide) rfl (fun ls hl => ?_)
        have cut_61_19 : ∀ (NN : Nat) (an k : Int) (I_18 : gI) (AI_19 : gI) (H : Heap) (locs : List Loc) (ls : Array Slot), zr an → zr k → (mInv g gh R I_18 AI_19) → (AI_19 (gh 50 0) = T) → (wF mo I I_18) → (0 ≤ k ∧ k ≤ 40 ∧ (I_18 mo 26).toInt ≤ 120 + k) → (∀ b, b ≠ gh 75 0 → b ≠ gh 77 0 → AI_19 b = AI b) → (gaX (AI_19 (gh 75 0)) (I_18 mo 26).toInt.toNat (pbX bxa na bf rr k.toNat) (sbX bxa na bf rr k.toNat)) → (k ≤ (nb : Int)) → (40 - k) < ((NN : Nat) : Int) → gH g I_18 R J AI_19 AJ AR H → va_S (gA g) s.heap H locs → lv_has ls 6 [(4, .int (iI k)), (3, .int (iI an)), (0, .ref mo), (1, .int (iI sd)), (2, .int (iI rr))] → W p l e rmX7_changesOff s m ([.ref mo, .int (iI sd), .int (iI rr)] : List Value).toArray below meth c H locs 0 0 (MQ below (gQi g (fun (z : Int) (w : gS) => R = w.2.1 ∧ J = w.2.2.1 ∧ AJ = w.2.2.2.2.1 ∧ AR = w.2.2.2.2.2 ∧ (mInv g gh R (w.1) (w.2.2.2.1)) ∧ ((w.2.2.2.1) (gh 50 0) = T) ∧ (wF mo I (w.1)) ∧ (z = 0 ∨ z = 1) ∧ (∀ b, b ≠ gh 75 0 → b ≠ gh 77 0 → (w.2.2.2.1) b = AI b) ∧ (gaX ((w.2.2.2.1) (gh 75 0)) ((w.1) mo 26).toInt.toNat (pbX bxa na bf rr nb) (sbX bxa na bf rr nb)) ∧ (tIz z (lowX bxa na bf rr nb)))) ([.ref mo, .int (iI sd), .int (iI rr)] : List Value).toArray s 0 0 (gA g)) (F0 m 61 ls []) := by
          intro NN61
          induction NN61 with
          | zero =>
            intro an k I_18 AI_19 H locs ls zan zk hv hT wf hk1 fW hgx hkn hm61 hH hS hl
            exact absurd hm61 (by omega)
          | succ NN61 ih61 =>
            intro an k I_18 AI_19 H locs ls zan zk hv hT wf hk1 fW hgx hkn hm61 hH hS hl
            have uc_2 : (I_18 mo 2).toInt = (I mo 2).toInt := by rw [wf 2 (by decide)]
            have uc_5 : (I_18 mo 5).toInt = (I mo 5).toInt := by rw [wf 5 (by decide)]
            have uc_14 : (I_18 mo 14).toInt = (I mo 14).toInt := by rw [wf 14 (by decide)]
            have uc_16 : (I_18 mo 16).toInt = (I mo 16).toInt := by rw [wf 16 (by decide)]
            have uc_24 : (I_18 mo 24).toInt = (I mo 24).toInt := by rw [wf 24 (by decide)]
            have h56 : AI_19 (gh 56 0) = AI (gh 56 0) := fW _ (show gh 56 0 ≠ gh 75 0 from mNe hv hm (p := (6, 126720)) (q := (25, 9600)) (by decide) (by decide) (by decide)) (show gh 56 0 ≠ gh 77 0 from mNe hv hm (p := (6, 126720)) (q := (27, 4)) (by decide) (by decide) (by decide))
            have h57 : AI_19 (gh 57 0) = AI (gh 57 0) := fW _ (show gh 57 0 ≠ gh 75 0 from mNe hv hm (p := (7, 176)) (q := (25, 9600)) (by decide) (by decide) (by decide)) (show gh 57 0 ≠ gh 77 0 from mNe hv hm (p := (7, 176)) (q := (27, 4)) (by decide) (by decide) (by decide))
            have e61 : AI_19 (gh 61 0) = AI (gh 61 0) := fW _ (show gh 61 0 ≠ gh 75 0 from mNe hv hm (p := (11, 41)) (q := (25, 9600)) (by decide) (by decide) (by decide)) (show gh 61 0 ≠ gh 77 0 from mNe hv hm (p := (11, 41)) (q := (27, 4)) (by decide) (by decide) (by decide))
            have e62 : AI_19 (gh 62 0) = AI (gh 62 0) := fW _ (show gh 62 0 ≠ gh 75 0 from mNe hv hm (p := (12, 164)) (q := (25, 9600)) (by decide) (by decide) (by decide)) (show gh 62 0 ≠ gh 77 0 from mNe hv hm (p := (12, 164)) (q := (27, 4)) (by decide) (by decide) (by decide))
            have e63 : AI_19 (gh 63 0) = AI (gh 63 0) := fW _ (show gh 63 0 ≠ gh 75 0 from mNe hv hm (p := (13, 41)) (q := (25, 9600)) (by decide) (by decide) (by decide)) (show gh 63 0 ≠ gh 77 0 from mNe hv hm (p := (13, 41)) (q := (27, 4)) (by decide) (by decide) (by decide))
            refine lv_iload F.1 F.2.1 dX7_changesOf_61 (lv_at hl 0 rfl) ?_
            refine lv_aload_n F.1 F.2.1 dX7_changesOf_63 rfl (lv_at hl 2 rfl) ?_
            refine g_getI (ci := 7) (k := 14) F hH rfl (by decide) iX7 hm (by decide) rfl k266 dX7_changesOf_64 ?_
            have b_21 := mJ hv hm
            unfold mNum1 at b_21
            refine z_icmp_ge (tgt := 149) F dX7_changesOf_67 (by decide) zk (zr_t _) (fun c_22 => ?_) (fun c_22 => ?_)
            · rw [show k.toNat = nb by omega] at hgx
              refine z_iconst F dX7_changesOf_149 ?_
              refine lv_istore (lv' := [(4, .int (iI 0)), (3, .int (iI an)), (0, .ref mo), (1, .int (iI sd)), (2, .int (iI rr))]) F.1 F.2.1 dX7_changesOf_150 hl (by decide) rfl (fun ls hl => ?_)
              have cut_152_22 : ∀ (NN : Nat) (k : Int) (H : Heap) (locs : List Loc) (ls : Array Slot), zr k → (0 ≤ k ∧ k ≤ (I_18 mo 26).toInt) → (∀ i : Nat, (i : Int) < k → 0 ≤ (AI_19 (gh 75 0) (6 * i + 4)).toInt) → ((I_18 mo 26).toInt - k) < ((NN : Nat) : Int) → gH g I_18 R J AI_19 AJ AR H → va_S (gA g) s.heap H locs → lv_has ls 6 [(4, .int (iI k)), (3, .int (iI an)), (0, .ref mo), (1, .int (iI sd)), (2, .int (iI rr))] → W p l e rmX7_changesOff s m ([.ref mo, .int (iI sd), .int (iI rr)] : List Value).toArray below meth c H locs 0 0 (MQ below (gQi g (fun (z : Int) (w : gS) => R = w.2.1 ∧ J = w.2.2.1 ∧ AJ = w.2.2.2.2.1 ∧ AR = w.2.2.2.2.2 ∧ (mInv g gh R (w.1) (w.2.2.2.1)) ∧ ((w.2.2.2.1) (gh 50 0) = T) ∧ (wF mo I (w.1)) ∧ (z = 0 ∨ z = 1) ∧ (∀ b, b ≠ gh 75 0 → b ≠ gh 77 0 → (w.2.2.2.1) b = AI b) ∧ (gaX ((w.2.2.2.1) (gh 75 0)) ((w.1) mo 26).toInt.toNat (pbX bxa na bf rr nb) (sbX bxa na bf rr nb)) ∧ (tIz z (lowX bxa na bf rr nb)))) ([.ref mo, .int (iI sd), .int (iI rr)] : List Value).toArray s 0 0 (gA g)) (F0 m 152 ls []) := by
                intro NN152
                induction NN152 with
                | zero =>
                  intro k H locs ls zk hk3 hnn hm152 hH hS hl
                  exact absurd hm152 (by omega)
                | succ NN152 ih152 =>
                  intro k H locs ls zk hk3 hnn hm152 hH hS hl
                  refine lv_iload F.1 F.2.1 dX7_changesOf_152 (lv_at hl 0 rfl) ?_
                  refine lv_aload_n F.1 F.2.1 dX7_changesOf_154 rfl (lv_at hl 2 rfl) ?_
                  refine g_getI (ci := 7) (k := 26) F hH rfl (by decide) iX7 hm (by decide) rfl k269 dX7_changesOf_155 ?_
                  refine z_icmp_ge (tgt := 184) F dX7_changesOf_158 (by decide) zk (zr_t _) (fun c_24 => ?_) (fun c_24 => ?_)
                  · refine z_iconst F dX7_changesOf_184 ?_
                    exact g_zret F hr hlk hH hS hz (by omega) ⟨rfl, rfl, rfl, rfl, hv, hT, wf, by first | omega | rfl | (dsimp only; omega), fW, hgx, tIz_f (low_n hgx (fun i hi => hnn i (by omega)))⟩ dX7_changesOf_185
                  · refine lv_aload_n F.1 F.2.1 dX7_changesOf_161 rfl (lv_at hl 2 rfl) ?_
                    obtain ⟨r_25a, r_25b⟩ : R mo 25 = some (gh 75 0) ∧ gAr g (gh 75 0) 9 9600 := mR hv hm (q := (25, 9600)) (by decide)
                    refine g_getR (ci := 7) (k := 25) F hH rfl (by decide) iX7 hm (by decide) rfl (b := gh 75 0) r_25a k42 dX7_changesOf_162 ?_
                    refine z_bipush F dX7_changesOf_165 (by decide) ?_
                    refine lv_iload F.1 F.2.1 dX7_changesOf_167 (lv_at hl 0 rfl) ?_
                    refine z_imul F dX7_changesOf_169 ?_
                    refine z_iconst F dX7_changesOf_170 ?_
                    refine z_iadd F dX7_changesOf_171 ?_
                    have hx172 : 0 ≤ ((6 * k) + 4) ∧ ((6 * k) + 4) < ((9600 : Nat) : Int) ∧ ((6 * k) + 4) ≤ 2147483647 := ⟨by omega, by omega, by omega⟩
                    refine g_iald F hH r_25b hx172.1 hx172.2.1 hx172.2.2 dX7_changesOf_172 ?_
                    refine z_name (fun v_26 ev_26 => ?_)
                    have zv_26 : zr v_26 := by rw [ev_26]; exact zr_t _
                    have c172 : v_26 = (AI_19 (gh 75 0) (6 * k.toNat + 4)).toInt := by rw [ev_26, show (6 * k + 4).toNat = 6 * k.toNat + 4 by omega]
                    refine z_if_ge (tgt := 178) F dX7_changesOf_173 (by decide) zv_26 (fun c_27 => ?_) (fun c_27 => ?_)
                    · refine z_iinc (lv' := [(4, .int (iI (k + 1))), (3, .int (iI an)), (0, .ref mo), (1, .int (iI sd)), (2, .int (iI rr))]) F dX7_changesOf_178 hl (k := 0) rfl (by decide) rfl (fun ls hl => ?_)
                      refine z_goto (tgt := 152) F dX7_changesOf_181 (by decide) ?_
                      exact ih152 (k + 1) H locs ls ⟨by omega, by omega⟩ (by omega) (fun i hi => by by_cases e9 : (i : Int) = k; (· rw [show i = k.toNat by omega, ← c172]; omega); (· exact hnn i (by omega))) (by omega) hH hS (lv_sub hl [0, 1, 2, 3, 4] rfl)
                    · refine z_iconst F dX7_changesOf_176 ?_
                      exact g_zret F hr hlk hH hS hz (by omega) ⟨rfl, rfl, rfl, rfl, hv, hT, wf, by first | omega | rfl | (dsimp only; omega), fW, hgx, tIz_t (low_y hgx (i := k.toNat) (by omega) (by rw [← c172]; omega))⟩ dX7_changesOf_177
              exact cut_152_22 ((((I_18 mo 26).toInt - 0) + 1 : Int).toNat) 0 H locs ls ⟨by decide, by decide⟩ (by omega) (fun j hj => absurd hj (by omega)) (by omega) hH hS (lv_sub hl [0, 1, 2, 3, 4] rfl)
            · refine lv_aload_n F.1 F.2.1 dX7_changesOf_70 rfl (lv_at hl 2 rfl) ?_
              obtain ⟨r_28a, r_28b⟩ : R mo 11 = some (gh 61 0) ∧ gAr g (gh 61 0) 9 41 := mR hv hm (q := (11, 41)) (by decide)
              refine g_getR (ci := 7) (k := 11) F hH rfl (by decide) iX7 hm (by decide) rfl (b := gh 61 0) r_28a k30 dX7_changesOf_71 ?_
              refine lv_iload F.1 F.2.1 dX7_changesOf_74 (lv_at hl 0 rfl) ?_
              have hx76 : 0 ≤ k ∧ k < ((41 : Nat) : Int) ∧ k ≤ 2147483647 := ⟨by omega, by omega, by omega⟩
              refine g_iald F hH r_28b hx76.1 hx76.2.1 hx76.2.2 dX7_changesOf_76 ?_
              refine z_name (fun v_29 ev_29 => ?_)
              have zv_29 : zr v_29 := by rw [ev_29]; exact zr_t _
              have c76 : v_29 = (bf (6 * k.toNat)).toInt := by rw [ev_29, e61, (hbf k.toNat (by omega)).1]
              refine lv_iload_n F.1 F.2.1 dX7_changesOf_77 rfl (lv_at hl 4 rfl) ?_
              refine z_icmp_eq (tgt := 84) F dX7_changesOf_78 (by decide) zv_29 zrr (fun c_30 => ?_) (fun c_30 => ?_)
              · refine z_iconst F dX7_changesOf_84 ?_
                refine lv_istore (lv' := [(5, .int (iI 0)), (4, .int (iI k)), (3, .int (iI an)), (0, .ref mo), (1, .int (iI sd)), (2, .int (iI rr))]) F.1 F.2.1 dX7_changesOf_85 hl (by decide) rfl (fun ls hl => ?_)
                have cut_87_31 : ∀ (NN : Nat) (i : Int) (AI_31 : gI) (H : Heap) (locs : List Loc) (ls : Array Slot), zr i → (mInv g gh R I_18 AI_31) → (AI_31 (gh 50 0) = T) → (0 ≤ i ∧ i ≤ 4) → (∀ b, b ≠ gh 75 0 → b ≠ gh 77 0 → AI_31 b = AI b) → (gaX (AI_31 (gh 75 0)) (I_18 mo 26).toInt.toNat (pbX bxa na bf rr k.toNat) (sbX bxa na bf rr k.toNat)) → (∀ j : Nat, (j : Int) < i → AI_31 (gh 77 0) j = tg (btu bf k.toNat) j) → (4 - i) < ((NN : Nat) : Int) → gH g I_18 R J AI_31 AJ AR H → va_S (gA g) s.heap H locs → lv_has ls 6 [(5, .int (iI i)), (4, .int (iI k)), (3, .int (iI an)), (0, .ref mo), (1, .int (iI sd)), (2, .int (iI rr))] → W p l e rmX7_changesOff s m ([.ref mo, .int (iI sd), .int (iI rr)] : List Value).toArray below meth c H locs 0 0 (MQ below (gQi g (fun (z : Int) (w : gS) => R = w.2.1 ∧ J = w.2.2.1 ∧ AJ = w.2.2.2.2.1 ∧ AR = w.2.2.2.2.2 ∧ (mInv g gh R (w.1) (w.2.2.2.1)) ∧ ((w.2.2.2.1) (gh 50 0) = T) ∧ (wF mo I (w.1)) ∧ (z = 0 ∨ z = 1) ∧ (∀ b, b ≠ gh 75 0 → b ≠ gh 77 0 → (w.2.2.2.1) b = AI b) ∧ (gaX ((w.2.2.2.1) (gh 75 0)) ((w.1) mo 26).toInt.toNat (pbX bxa na bf rr nb) (sbX bxa na bf rr nb)) ∧ (tIz z (lowX bxa na bf rr nb)))) ([.ref mo, .int (iI sd), .int (iI rr)] : List Value).toArray s 0 0 (gA g)) (F0 m 87 ls []) := by
                  intro NN87
                  induction NN87 with
                  | zero =>
                    intro i AI_31 H locs ls zi hv hT hi2 fW hgx htk hm87 hH hS hl
                    exact absurd hm87 (by omega)
                  | succ NN87 ih87 =>
                    intro i AI_31 H locs ls zi hv hT hi2 fW hgx htk hm87 hH hS hl
                    have e61 : AI_31 (gh 61 0) = AI (gh 61 0) := fW _ (show gh 61 0 ≠ gh 75 0 from mNe hv hm (p := (11, 41)) (q := (25, 9600)) (by decide) (by decide) (by decide)) (show gh 61 0 ≠ gh 77 0 from mNe hv hm (p := (11, 41)) (q := (27, 4)) (by decide) (by decide) (by decide))
                    have e62 : AI_31 (gh 62 0) = AI (gh 62 0) := fW _ (show gh 62 0 ≠ gh 75 0 from mNe hv hm (p := (12, 164)) (q := (25, 9600)) (by decide) (by decide) (by decide)) (show gh 62 0 ≠ gh 77 0 from mNe hv hm (p := (12, 164)) (q := (27, 4)) (by decide) (by decide) (by decide))
                    have e63 : AI_31 (gh 63 0) = AI (gh 63 0) := fW _ (show gh 63 0 ≠ gh 75 0 from mNe hv hm (p := (13, 41)) (q := (25, 9600)) (by decide) (by decide) (by decide)) (show gh 63 0 ≠ gh 77 0 from mNe hv hm (p := (13, 41)) (q := (27, 4)) (by decide) (by decide) (by decide))
                    refine lv_iload F.1 F.2.1 dX7_changesOf_87 (lv_at hl 0 rfl) ?_
                    refine z_iconst F dX7_changesOf_89 ?_
                    refine z_icmp_ge (tgt := 118) F dX7_changesOf_90 (by decide) zi ⟨by decide, by decide⟩ (fun c_33 => ?_) (fun c_33 => ?_)
                    · refine lv_aload_n F.1 F.2.1 dX7_changesOf_118 rfl (lv_at hl 3 rfl) ?_
                      refine lv_aload_n F.1 F.2.1 dX7_changesOf_119 rfl (lv_at hl 3 rfl) ?_
                      obtain ⟨r_34a, r_34b⟩ : R mo 13 = some (gh 63 0) ∧ gAr g (gh 63 0) 9 41 := mR hv hm (q := (13, 41)) (by decide)
                      refine g_getR (ci := 7) (k := 13) F hH rfl (by decide) iX7 hm (by decide) rfl (b := gh 63 0) r_34a k36 dX7_changesOf_120 ?_
                      refine lv_iload F.1 F.2.1 dX7_changesOf_123 (lv_at hl 1 rfl) ?_
                      have hx125 : 0 ≤ k ∧ k < ((41 : Nat) : Int) ∧ k ≤ 2147483647 := ⟨by omega, by omega, by omega⟩
                      refine g_iald F hH r_34b hx125.1 hx125.2.1 hx125.2.2 dX7_changesOf_125 ?_
                      refine z_name (fun v_35 ev_35 => ?_)
                      have zv_35 : zr v_35 := by rw [ev_35]; exact zr_t _
                      have c125 : iI v_35 = bf (6 * k.toNat + 5) := by rw [ev_35, iI_self, e63, (hbf k.toNat (by omega)).2.2]
                      refine z_iconst F dX7_changesOf_126 ?_
                      refine g_calli (g_runV (As := [.int (iI v_35), .int (iI 0)]) (rest := []) (ci := 7) F hl.1 hH hS hz (c_X7_gathersf l g gh T ((I_18 mo 26).toInt.toNat) (pbX bxa na bf rr k.toNat) (sbX bxa na bf rr k.toNat) zM (btu bf k.toNat) I_18 R J AI_31 AJ AR mo v_35 0 zv_35 ⟨by decide, by decide⟩ hv hm hT (by omega) hgx.1 (by omega) (fun j hj => htk j (by omega))) (cwV 2 F.2.2.2.2.1 (good_up gT_X7_gathers) rfl rfl rfl hdX7_gathers ⟨Nat.le_of_ble_eq_true rfl, Nat.le_of_ble_eq_true rfl⟩) hm (by decide) rfl rfl rfl (Nat.le_of_ble_eq_true rfl) dX7_changesOf_127 ⟨Nat.zero_le _, Nat.zero_le _⟩) hS (fun v_42 I_36 R_37 J_38 AI_39 AJ_40 AR_41 H locs zv_42 hp_43 hH hS => ?_)
                      dsimp only at hp_43
                      obtain ⟨rfl, rfl, rfl, rfl, hv, hT, wfq, q_44, qga, fWq⟩ := hp_43
                      have wf := wF_t wf wfq
                      have u_45_2 : (I_36 mo 2).toInt = (I mo 2).toInt := by rw [wf 2 (by decide)]
                      have u_45_5 : (I_36 mo 5).toInt = (I mo 5).toInt := by rw [wf 5 (by decide)]
                      have u_45_14 : (I_36 mo 14).toInt = (I mo 14).toInt := by rw [wf 14 (by decide)]
                      have u_45_16 : (I_36 mo 16).toInt = (I mo 16).toInt := by rw [wf 16 (by decide)]
                      have u_45_24 : (I_36 mo 24).toInt = (I mo 24).toInt := by rw [wf 24 (by decide)]
                      have hgx9 := gaX_s hgx.2 qga
                      rw [c125] at hgx9
                      have hgx9 := gx_y hbt (by omega) (by omega) hgx9
                      rw [show k.toNat + 1 = (k + 1).toNat by omega] at hgx9
                      clear qga
                      have fW : ∀ b, b ≠ gh 75 0 → b ≠ gh 77 0 → AI_39 b = AI b := fun b h1 h2 => (fWq b h1).trans (fW b h1 h2)
                      refine z_if_ne (tgt := 137) F dX7_changesOf_130 (by decide) zv_42 (fun c_46 => ?_) (fun c_46 => ?_)
                      · refine z_iconst F dX7_changesOf_137 ?_
                        refine z_goto (tgt := 142) F dX7_changesOf_138 (by decide) ?_
                        refine lv_istore_n (lv' := [(3, .int (iI 1)), (5, .int (iI i)), (4, .int (iI k)), (0, .ref mo), (1, .int (iI sd)), (2, .int (iI rr))]) F.1 F.2.1 dX7_changesOf_142 rfl hl (by decide) rfl (fun ls hl => ?_)
                        refine z_iinc (lv' := [(4, .int (iI (k + 1))), (3, .int (iI 1)), (5, .int (iI i)), (0, .ref mo), (1, .int (iI sd)), (2, .int (iI rr))]) F dX7_changesOf_143 hl (k := 2) rfl (by decide) rfl (fun ls hl => ?_)
                        refine z_goto (tgt := 61) F dX7_changesOf_146 (by decide) ?_
                        exact ih61 1 (k + 1) I_36 AI_39 H locs ls ⟨by decide, by decide⟩ ⟨by omega, by omega⟩ hv hT wf (by omega) fW hgx9 (by omega) (by omega) hH hS (lv_sub hl [0, 1, 3, 4, 5] rfl)
                      · refine lv_iload_n F.1 F.2.1 dX7_changesOf_133 rfl (lv_at hl 2 rfl) ?_
                        refine z_if_eq (tgt := 141) F dX7_changesOf_134 (by decide) zan (fun c_47 => ?_) (fun c_47 => ?_)
                        · refine z_iconst F dX7_changesOf_141 ?_
                          refine lv_istore_n (lv' := [(3, .int (iI 0)), (5, .int (iI i)), (4, .int (iI k)), (0, .ref mo), (1, .int (iI sd)), (2, .int (iI rr))]) F.1 F.2.1 dX7_changesOf_142 rfl hl (by decide) rfl (fun ls hl => ?_)
                          refine z_iinc (lv' := [(4, .int (iI (k + 1))), (3, .int (iI 0)), (5, .int (iI i)), (0, .ref mo), (1, .int (iI sd)), (2, .int (iI rr))]) F dX7_changesOf_143 hl (k := 2) rfl (by decide) rfl (fun ls hl => ?_)
                          refine z_goto (tgt := 61) F dX7_changesOf_146 (by decide) ?_
                          exact ih61 0 (k + 1) I_36 AI_39 H locs ls ⟨by decide, by decide⟩ ⟨by omega, by omega⟩ hv hT wf (by omega) fW hgx9 (by omega) (by omega) hH hS (lv_sub hl [0, 1, 3, 4, 5] rfl)
                        · refine z_iconst F dX7_changesOf_137 ?_
                          refine z_goto (tgt := 142) F dX7_changesOf_138 (by decide) ?_
                          refine lv_istore_n (lv' := [(3, .int (iI 1)), (5, .int (iI i)), (4, .int (iI k)), (0, .ref mo), (1, .int (iI sd)), (2, .int (iI rr))]) F.1 F.2.1 dX7_changesOf_142 rfl hl (by decide) rfl (fun ls hl => ?_)
                          refine z_iinc (lv' := [(4, .int (iI (k + 1))), (3, .int (iI 1)), (5, .int (iI i)), (0, .ref mo), (1, .int (iI sd)), (2, .int (iI rr))]) F dX7_changesOf_143 hl (k := 2) rfl (by decide) rfl (fun ls hl => ?_)
                          refine z_goto (tgt := 61) F dX7_changesOf_146 (by decide) ?_
                          exact ih61 1 (k + 1) I_36 AI_39 H locs ls ⟨by decide, by decide⟩ ⟨by omega, by omega⟩ hv hT wf (by omega) fW hgx9 (by omega) (by omega) hH hS (lv_sub hl [0, 1, 3, 4, 5] rfl)
                    · refine lv_aload_n F.1 F.2.1 dX7_changesOf_93 rfl (lv_at hl 3 rfl) ?_
                      obtain ⟨r_48a, r_48b⟩ : R mo 27 = some (gh 77 0) ∧ gAr g (gh 77 0) 9 4 := mR hv hm (q := (27, 4)) (by decide)
                      refine g_getR (ci := 7) (k := 27) F hH rfl (by decide) iX7 hm (by decide) rfl (b := gh 77 0) r_48a k45 dX7_changesOf_94 ?_
                      refine lv_iload F.1 F.2.1 dX7_changesOf_97 (lv_at hl 0 rfl) ?_
                      refine lv_aload_n F.1 F.2.1 dX7_changesOf_99 rfl (lv_at hl 3 rfl) ?_
                      obtain ⟨r_49a, r_49b⟩ : R mo 12 = some (gh 62 0) ∧ gAr g (gh 62 0) 9 164 := mR hv hm (q := (12, 164)) (by decide)
                      refine g_getR (ci := 7) (k := 12) F hH rfl (by decide) iX7 hm (by decide) rfl (b := gh 62 0) r_49a k33 dX7_changesOf_100 ?_
                      refine z_iconst F dX7_changesOf_103 ?_
                      refine lv_iload F.1 F.2.1 dX7_changesOf_104 (lv_at hl 1 rfl) ?_
                      refine z_imul F dX7_changesOf_106 ?_
                      refine lv_iload F.1 F.2.1 dX7_changesOf_107 (lv_at hl 0 rfl) ?_
                      refine z_iadd F dX7_changesOf_109 ?_
                      have hx110 : 0 ≤ ((4 * k) + i) ∧ ((4 * k) + i) < ((164 : Nat) : Int) ∧ ((4 * k) + i) ≤ 2147483647 := ⟨by omega, by omega, by omega⟩
                      refine g_iald F hH r_49b hx110.1 hx110.2.1 hx110.2.2 dX7_changesOf_110 ?_
                      refine z_name (fun v_50 ev_50 => ?_)
                      have zv_50 : zr v_50 := by rw [ev_50]; exact zr_t _
                      have c110 : iI v_50 = tg (btu bf k.toNat) i.toNat := by rw [ev_50, iI_self, e62, btu_at (by omega), ← (hbf k.toNat (by omega)).2.1 _ (by omega)]; congr 1; omega
                      have hx111 : 0 ≤ i ∧ i < ((4 : Nat) : Int) ∧ i ≤ 2147483647 := ⟨by omega, by omega, by omega⟩
                      refine g_iast F hH hS r_48b hx111.1 hx111.2.1 hx111.2.2 dX7_changesOf_111 (fun H locs hH hS => ?_)
                      obtain ⟨AI_51, eAI_51⟩ : ∃ qQ, qQ = gup2 AI_31 (gh 77 0) (i).toNat (iI (v_50)) := ⟨_, rfl⟩
                      rw [← eAI_51] at hH
                      have kAI_51 : ∀ b, b ≠ (gh 77 0) → AI_51 b = AI_31 b := fun b hb => by rw [eAI_51]; exact funext fun j => gup2_a _ _ hb
                      have hvO := hv
                      have t_52 : AI_51 (gh 50 0) = AI_31 (gh 50 0) := mK hv hm (p := (0, 640)) (q := (27, 4)) (by decide) (by decide) (by decide) kAI_51
                      have hv : mInv g gh R I_18 AI_51 := mInv_a hv hm (q := (27, 4)) (by decide) (by decide) kAI_51
                      have hT : AI_51 (gh 50 0) = T := t_52.trans hT
                      have htk : ∀ j : Nat, (j : Int) < i + 1 → AI_51 (gh 77 0) j = tg (btu bf k.toNat) j := fun j hj => by
                        by_cases e9 : (j : Int) = i
                        · rw [eAI_51, gup2_e _ _ (by omega), c110, show j = i.toNat by omega]
                        · rw [eAI_51, gup2_k _ _ (by omega)]; exact htk j (by omega)
                      have hgx : gaX (AI_51 (gh 75 0)) (I_18 mo 26).toInt.toNat (pbX bxa na bf rr k.toNat) (sbX bxa na bf rr k.toNat) := by rw [kAI_51 _ (show gh 75 0 ≠ gh 77 0 from mNe hv hm (p := (25, 9600)) (q := (27, 4)) (by decide) (by decide) (by decide))]; exact hgx
                      have fW : ∀ b, b ≠ gh 75 0 → b ≠ gh 77 0 → AI_51 b = AI b := fun b h1 h2 => (kAI_51 b h2).trans (fW b h1 h2)
                      refine z_iinc (lv' := [(5, .int (iI (i + 1))), (4, .int (iI k)), (3, .int (iI an)), (0, .ref mo), (1, .int (iI sd)), (2, .int (iI rr))]) F dX7_changesOf_112 hl (k := 0) rfl (by decide) rfl (fun ls hl => ?_)
                      refine z_goto (tgt := 87) F dX7_changesOf_115 (by decide) ?_
                      exact ih87 (i + 1) AI_51 H locs ls ⟨by omega, by omega⟩ hv hT (by omega) fW hgx htk (by omega) hH hS (lv_sub hl [0, 1, 2, 3, 4, 5] rfl)
                exact cut_87_31 (((4 - 0) + 1 : Int).toNat) 0 AI_19 H locs ls ⟨by decide, by decide⟩ hv hT (by omega) fW hgx (fun j hj => absurd hj (by omega)) (by omega) hH hS (lv_sub hl [0, 1, 2, 3, 4, 5] rfl)
              · have hgx9 := gx_n (by omega) hgx
                rw [show k.toNat + 1 = (k + 1).toNat by omega] at hgx9
                refine z_goto (tgt := 143) F dX7_changesOf_81 (by decide) ?_
                refine z_iinc (lv' := [(4, .int (iI (k + 1))), (3, .int (iI an)), (0, .ref mo), (1, .int (iI sd)), (2, .int (iI rr))]) F dX7_changesOf_143 hl (k := 0) rfl (by decide) rfl (fun ls hl => ?_)
                refine z_goto (tgt := 61) F dX7_changesOf_146 (by decide) ?_
                exact ih61 an (k + 1) I_18 AI_19 H locs ls zan ⟨by omega, by omega⟩ hv hT wf (by omega) fW hgx9 (by omega) (by omega) hH hS (lv_sub hl [0, 1, 2, 3, 4] rfl)
        exact cut_61_19 (((40 - 0) + 1 : Int).toNat) an 0 I_4 AI_5 H locs ls zan ⟨by decide, by decide⟩ hv hT wf (by omega) fW hgx9 (by omega) (by omega) hH hS (lv_sub hl [0, 1, 2, 3, 4] rfl)
      · refine lv_aload_n F.1 F.2.1 dX7_changesOf_21 rfl (lv_at hl 2 rfl) ?_
        refine lv_iload_n F.1 F.2.1 dX7_changesOf_22 rfl (lv_at hl 3 rfl) ?_
        refine lv_iload_n F.1 F.2.1 dX7_changesOf_23 rfl (lv_at hl 4 rfl) ?_
        refine lv_iload F.1 F.2.1 dX7_changesOf_24 (lv_at hl 0 rfl) ?_
        refine g_calli (g_runS (As := [.int (iI sd), .int (iI rr), .int (iI i)]) (rest := [.ref mo]) F hl.1 hH hS hz (c_X7_spot l g  I_4 R J AI_5 AJ AR sd rr i zsd zrr zi (by omega) (by omega) (by omega)) (va_cwS 3 F.2.2.2.2.1 (good_up gT_X7_spot) rfl rfl rfl hdX7_spot.2 ⟨Nat.le_of_ble_eq_true rfl, Nat.le_of_ble_eq_true rfl⟩) rfl rfl (Nat.le_of_ble_eq_true rfl) dX7_changesOf_26 ⟨Nat.zero_le _, Nat.zero_le _⟩) hS (fun v_59 I_53 R_54 J_55 AI_56 AJ_57 AR_58 H locs zv_59 hp_60 hH hS => ?_)
        dsimp only at hp_60
        obtain ⟨rfl, rfl, rfl, rfl, rfl, rfl, q_61⟩ := hp_60
        refine g_callv (g_runV (As := [.int (iI v_59)]) (rest := []) (ci := 7) F hl.1 hH hS hz (c_X7_takesf l g gh T I_4 R J AI_5 AJ AR mo v_59 zv_59 hv hm hT (by omega)) (cwV 1 F.2.2.2.2.1 (good_up gT_X7_takes) rfl rfl rfl hdX7_takes ⟨Nat.le_of_ble_eq_true rfl, Nat.le_of_ble_eq_true rfl⟩) hm (by decide) rfl rfl rfl (Nat.le_of_ble_eq_true rfl) dX7_changesOf_29 ⟨Nat.zero_le _, Nat.zero_le _⟩) hS (fun I_62 R_63 J_64 AI_65 AJ_66 AR_67 H locs hp_68 hH hS => ?_)
        dsimp only at hp_68
        obtain ⟨rfl, rfl, rfl, rfl, rfl, hv, hT, fWq, taq⟩ := hp_68
        have htk : ∀ j, j < 4 → AI_65 (gh 77 0) j = tg (tup bxa i.toNat) j := fun j hj => by rw [taq j hj, h56, tg_up j hj, ← hXa _ (by omega)]; congr 1; omega
        have hgx : gaX (AI_65 (gh 75 0)) (I_4 mo 26).toInt.toNat (paX bxa i.toNat) (s1X bxa i.toNat) := by rw [fWq _ (show gh 75 0 ≠ gh 77 0 from mNe hv hm (p := (25, 9600)) (q := (27, 4)) (by decide) (by decide) (by decide))]; exact hgx
        have fW : ∀ b, b ≠ gh 75 0 → b ≠ gh 77 0 → AI_65 b = AI b := fun b h1 h2 => (fWq b h2).trans (fW b h1 h2)
        have h56 : AI_65 (gh 56 0) = AI (gh 56 0) := fW _ (show gh 56 0 ≠ gh 75 0 from mNe hv hm (p := (6, 126720)) (q := (25, 9600)) (by decide) (by decide) (by decide)) (show gh 56 0 ≠ gh 77 0 from mNe hv hm (p := (6, 126720)) (q := (27, 4)) (by decide) (by decide) (by decide))
        have h57 : AI_65 (gh 57 0) = AI (gh 57 0) := fW _ (show gh 57 0 ≠ gh 75 0 from mNe hv hm (p := (7, 176)) (q := (25, 9600)) (by decide) (by decide) (by decide)) (show gh 57 0 ≠ gh 77 0 from mNe hv hm (p := (7, 176)) (q := (27, 4)) (by decide) (by decide) (by decide))
        refine lv_aload_n F.1 F.2.1 dX7_changesOf_32 rfl (lv_at hl 2 rfl) ?_
        refine lv_aload_n F.1 F.2.1 dX7_changesOf_33 rfl (lv_at hl 2 rfl) ?_
        obtain ⟨r_69a, r_69b⟩ : R mo 6 = some (gh 56 0) ∧ gAr g (gh 56 0) 9 126720 := mR hv hm (q := (6, 126720)) (by decide)
        refine g_getR (ci := 7) (k := 6) F hH rfl (by decide) iX7 hm (by decide) rfl (b := gh 56 0) r_69a k24 dX7_changesOf_34 ?_
        refine lv_iload_n F.1 F.2.1 dX7_changesOf_37 rfl (lv_at hl 3 rfl) ?_
        refine lv_iload_n F.1 F.2.1 dX7_changesOf_38 rfl (lv_at hl 4 rfl) ?_
        refine lv_iload F.1 F.2.1 dX7_changesOf_39 (lv_at hl 0 rfl) ?_
        refine g_calli (g_runS (As := [.int (iI sd), .int (iI rr), .int (iI i)]) (rest := [.ref (gh 56 0), .ref mo]) F hl.1 hH hS hz (c_X7_spot l g  I_4 R J AI_65 AJ AR sd rr i zsd zrr zi (by omega) (by omega) (by omega)) (va_cwS 3 F.2.2.2.2.1 (good_up gT_X7_spot) rfl rfl rfl hdX7_spot.2 ⟨Nat.le_of_ble_eq_true rfl, Nat.le_of_ble_eq_true rfl⟩) rfl rfl (Nat.le_of_ble_eq_true rfl) dX7_changesOf_41 ⟨Nat.zero_le _, Nat.zero_le _⟩) hS (fun v_76 I_70 R_71 J_72 AI_73 AJ_74 AR_75 H locs zv_76 hp_77 hH hS => ?_)
        dsimp only at hp_77
        obtain ⟨rfl, rfl, rfl, rfl, rfl, rfl, q_78⟩ := hp_77
        refine z_iconst F dX7_changesOf_44 ?_
        refine z_iadd F dX7_changesOf_45 ?_
        have hx46 : 0 ≤ (v_76 + 4) ∧ (v_76 + 4) < ((126720 : Nat) : Int) ∧ (v_76 + 4) ≤ 2147483647 := ⟨by omega, by omega, by omega⟩
        refine g_iald F hH r_69b hx46.1 hx46.2.1 hx46.2.2 dX7_changesOf_46 ?_
        refine z_name (fun v_79 ev_79 => ?_)
        have zv_79 : zr v_79 := by rw [ev_79]; exact zr_t _
        have c46 : iI v_79 = bxa (6 * i.toNat + 4) := by rw [ev_79, iI_self, h56, ← hXa _ (by omega)]; congr 1; omega
        refine z_iconst F dX7_changesOf_47 ?_
        refine g_calli (g_runV (As := [.int (iI v_79), .int (iI 0)]) (rest := []) (ci := 7) F hl.1 hH hS hz (c_X7_gathersf l g gh T ((I_4 mo 26).toInt.toNat) (paX bxa i.toNat) (s1X bxa i.toNat) zM (tup bxa i.toNat) I_4 R J AI_65 AJ AR mo v_79 0 zv_79 ⟨by decide, by decide⟩ hv hm hT (by omega) hgx.1 (by omega) htk) (cwV 2 F.2.2.2.2.1 (good_up gT_X7_gathers) rfl rfl rfl hdX7_gathers ⟨Nat.le_of_ble_eq_true rfl, Nat.le_of_ble_eq_true rfl⟩) hm (by decide) rfl rfl rfl (Nat.le_of_ble_eq_true rfl) dX7_changesOf_48 ⟨Nat.zero_le _, Nat.zero_le _⟩) hS (fun v_86 I_80 R_81 J_82 AI_83 AJ_84 AR_85 H locs zv_86 hp_87 hH hS => ?_)
        dsimp only at hp_87
        obtain ⟨rfl, rfl, rfl, rfl, hv, hT, wfq, q_88, qga, fWq⟩ := hp_87
        have wf := wF_t wf wfq
        have u_89_2 : (I_80 mo 2).toInt = (I mo 2).toInt := by rw [wf 2 (by decide)]
        have u_89_5 : (I_80 mo 5).toInt = (I mo 5).toInt := by rw [wf 5 (by decide)]
        have u_89_14 : (I_80 mo 14).toInt = (I mo 14).toInt := by rw [wf 14 (by decide)]
        have u_89_16 : (I_80 mo 16).toInt = (I mo 16).toInt := by rw [wf 16 (by decide)]
        have u_89_24 : (I_80 mo 24).toInt = (I mo 24).toInt := by rw [wf 24 (by decide)]
        have hgx9 := gaX_s hgx.2 qga
        rw [c46] at hgx9
        have hgx9 := gx_1 hgx9
        rw [show i.toNat + 1 = (i + 1).toNat by omega] at hgx9
        clear qga
        have fW : ∀ b, b ≠ gh 75 0 → b ≠ gh 77 0 → AI_83 b = AI b := fun b h1 h2 => (fWq b h1).trans (fW b h1 h2)
        refine lv_istore_n (lv' := [(3, .int (iI v_86)), (4, .int (iI i)), (0, .ref mo), (1, .int (iI sd)), (2, .int (iI rr))]) F.1 F.2.1 dX7_changesOf_51 rfl hl (by decide) rfl (fun ls hl => ?_)
        refine z_iinc (lv' := [(4, .int (iI (i + 1))), (3, .int (iI v_86)), (0, .ref mo), (1, .int (iI sd)), (2, .int (iI rr))]) F dX7_changesOf_52 hl (k := 1) rfl (by decide) rfl (fun ls hl => ?_)
        refine z_goto (tgt := 10) F dX7_changesOf_55 (by decide) ?_
        exact ih10 v_86 (i + 1) I_80 AI_83 H locs ls zv_86 ⟨by omega, by omega⟩ hv hT wf (by omega) fW hgx9 (by omega) (by omega) hH hS (lv_sub hl [0, 1, 2, 3, 4] rfl)
  exact cut_10_5 (((120 - 0) + 1 : Int).toNat) 1 0 I_1 AI H locs ls ⟨by decide, by decide⟩ ⟨by decide, by decide⟩ hv hT wf (by omega) (fun _ _ _ => rfl) (by rw [show (I_1 mo 26).toInt = 0 by omega]; exact gx_0) (by omega) (by omega) hH hS (lv_sub hl [0, 1, 2, 3, 4] rfl)
end
section
/-! the reference: the draft -/
theorem rfM_g {gh : gGh} {AI AI' : gI} {sd : Int} (h56 : AI' (gh 56 0) = AI (gh 56 0)) (h57 : AI' (gh 57 0) = AI (gh 57 0)) : rfM gh AI' sd = rfM gh AI sd := by unfold rfM; rw [h56, h57]
theorem tb_eq {T : Nat → Int32} {z tbs many : Int} (h1 : 0 ≤ z ∧ z ≤ many) (h2 : ∀ r : Int, z ≤ r → r < many → tI T (40 * r) ≠ 0) (h3 : ∀ r : Int, 0 ≤ r → r < z → tI T (40 * r) = 0) (h4 : 0 ≤ tbs ∧ tbs ≤ many) (h5 : ∀ r : Int, 0 ≤ r → r < tbs → tI T (40 * r) = 0) (h6 : ∀ r : Int, tbs ≤ r → r < many → tI T (40 * r) ≠ 0) : z = tbs := by
  apply Classical.byContradiction
  intro q
  by_cases w : z < tbs
  · exact h2 z (by omega) (by omega) (h5 z (by omega) w)
  · exact h6 tbs (by omega) (by omega) (h3 tbs (by omega) (by omega))
/-- the plan, as the reference has it -/
def plM9 (T : Nat → Int32) (tbs : Int) (nr : Nat) (cc : Nat → LC) (cl : Nat → Int) : Prop := (0 ≤ tbs ∧ tbs ≤ (nr : Int)) ∧ (∀ r : Int, 0 ≤ r → r < tbs → tI T (40 * r) = 0) ∧ ∀ r : Nat, r < nr → tbs ≤ (r : Int) → lnM T (r : Int) (cc r) ∧ cOK (cc r) r cl ∧ cZ (cc r) r cl
theorem pl_6 {T : Nat → Int32} {tbs many : Int} {nr : Nat} {cc : Nat → LC} {cl : Nat → Int} (h : plM9 T tbs nr cc cl) (hm : many = (nr : Int)) : ∀ r : Int, tbs ≤ r → r < many → tI T (40 * r) ≠ 0 := fun r h1 h2 => by
  have h0 := h.1
  have q := h.2.2 r.toNat (by omega) (by omega)
  have e := q.1.1.1
  rw [Int.toNat_of_nonneg (by omega)] at e
  have c := q.2.1.1.1
  omega
/-- the batch, as the reference has it -/
def btM9 (gh : gGh) (AI : gI) (bf : Nat → Int32) (nb : Nat) (tbs : Int) (cl : Nat → Int) : Prop := rbE (AI (gh 61 0)) (AI (gh 62 0)) (AI (gh 63 0)) bf nb ∧ btO bf nb ∧ btZ cl bf nb ∧ ∀ i, i < nb → 0 ≤ (bf (6 * i)).toInt ∧ (bf (6 * i)).toInt < tbs
/-- sides ahead of the draft are as they were -/
def sdK (gh : gGh) (AI AI' : gI) : Prop := (∀ q : Nat, q < 115200 → AI' (gh 56 0) q = AI (gh 56 0) q) ∧ ∀ j : Nat, j < 160 → AI' (gh 57 0) j = AI (gh 57 0) j ∧ AI' (gh 79 0) j = AI (gh 79 0) j
def noZ (gh : gGh) (AI AI' : gI) : Prop := ∀ b, b ≠ gh 56 0 → b ≠ gh 57 0 → b ≠ gh 75 0 → b ≠ gh 77 0 → b ≠ gh 78 0 → b ≠ gh 79 0 → b ≠ gh 80 0 → AI' b = AI b
/-- the rounds of rings -/
def rdA (tbs : Int) (cc : Nat → LC) (F : RF) (RM : Nat → Int32) (k : Nat) : Prop := ∀ q : Nat, q < k → tbs ≤ (q : Int) → (cc q).1 0 = 8 → ∃ R9 : Nat, rgY (cc q) (F ((cc q).1 2).toNat).2 (F ((cc q).1 2).toNat).1 (F ((cc q).1 3).toNat).2 (F ((cc q).1 3).toNat).1 R9 (F q).2 (F q).1 ∧ RM q = iI (R9 : Int)
section Drm
variable {gh : gGh} {AI A1 AI' AI2 : gI} {sd rr k z tbs : Int} {n m nr nb r : Nat} {cc : Nat → LC} {cl : Nat → Int} {bf : Nat → Int32} {S : Tup → Int32} {F F' F0 : RF} {RM RM' : Nat → Int32}
theorem sdK_r : sdK gh AI AI := ⟨fun _ _ => rfl, fun _ _ => ⟨rfl, rfl⟩⟩
theorem sdK_k (h : sdK gh AI AI') (q : rkM gh 10 rr AI' AI2) (h0 : 0 ≤ rr) : sdK gh AI AI2 :=
  ⟨fun p hp => (q.2.1 p (by omega)).trans (h.1 p hp), fun j hj => ⟨(q.2.2.1 j (by omega)).trans (h.2 j hj).1, (q.2.2.2 j (by omega)).trans (h.2 j hj).2⟩⟩
theorem noZ_r : noZ gh AI AI := fun _ _ _ _ _ _ _ _ => rfl
theorem noZ_k (h : noZ gh AI AI') (q : rkM gh sd rr AI' AI2) : noZ gh AI AI2 := fun b h1 h2 h3 h4 h5 h6 h7 => (q.1 b h1 h2 h3 h4 h5 h6 h7).trans (h b h1 h2 h3 h4 h5 h6 h7)
theorem sdK_c (h : cpP gh 0 10 AI A1) : sdK gh AI A1 := ⟨fun q hq => h.2.1.1 q (by omega), fun j hj => ⟨h.2.2.1.1 j (by omega), h.2.2.2.1 j (by omega)⟩⟩
theorem noZ_c (h : cpP gh 0 10 AI A1) : noZ gh AI A1 := fun b h1 h2 _ _ _ h6 _ => h.1 b h1 h2 h6
theorem noZ_t (h : noZ gh AI AI') (q : noZ gh AI' AI2) : noZ gh AI AI2 := fun b h1 h2 h3 h4 h5 h6 h7 => (q b h1 h2 h3 h4 h5 h6 h7).trans (h b h1 h2 h3 h4 h5 h6 h7)
/-- a table laid -/
theorem lay_t (h0 : 0 ≤ rr) (h1 : tI (AI' (gh 57 0)) (16 * sd + rr) ≤ 120) (hn : 0 ≤ k) (h : gaR (AI (gh 75 0)) k.toNat S) (hl : lyP gh sd rr k AI AI' z) : (z = 0 ∧ isB (rfM gh AI' sd rr.toNat).2 (rfM gh AI' sd rr.toNat).1 S zM ∧ (rfM gh AI' sd rr.toNat).1 ≤ 120) ∨ (z = -3 ∧ bigP 120 (fun t => S t ≠ 0)) := by
  rcases hl with ⟨a, b, _, d, e⟩ | ⟨a, b, _⟩
  · have w0 := wCnt_0 (f := AI (gh 75 0)) (a := k.toNat)
    refine Or.inl ⟨a, ?_, ?_⟩
    · rw [rfM_1 h0, d, iI_val ⟨by omega, by omega⟩]
      exact isW_c (gaR_lay h (by rw [Int.toNat_of_nonneg hn]; exact b)) (rfM_w h0 (by omega))
    · rw [rfM_1 h0, d, iI_val ⟨by omega, by omega⟩]; omega
  · exact Or.inr ⟨a, gaR_big h b⟩
theorem rd_up (hl : cLt tbs nr cc) (hk : r ≤ nr) (e : ∀ q, q < r → F' q = F q) (eR : ∀ q, q < r → RM' q = RM q) (h : rdA tbs cc F RM r) : rdA tbs cc F' RM' r := fun q hq h1 h2 => by
  obtain ⟨R9, a, b⟩ := h q hq h1 h2
  have c := hl q (by omega) h1
  refine ⟨R9, ?_, (eR q hq).trans b⟩
  rw [e q hq, e _ (by omega), e _ (by omega)]; exact a
theorem rd_s (h : rdA tbs cc F RM r) (hn : tbs ≤ (r : Int) → (cc r).1 0 = 8 → ∃ R9 : Nat, rgY (cc r) (F ((cc r).1 2).toNat).2 (F ((cc r).1 2).toNat).1 (F ((cc r).1 3).toNat).2 (F ((cc r).1 3).toNat).1 R9 (F r).2 (F r).1 ∧ RM r = iI (R9 : Int)) : rdA tbs cc F RM (r + 1) := fun q hq h1 h2 => by
  by_cases w : q = r
  · subst w; exact hn h1 h2
  · exact h q (by omega) h1 h2
/-- the draft up to relation r -/
def drS (gh : gGh) (AI : gI) (tbs : Int) (nr : Nat) (cc : Nat → LC) (cl : Nat → Int) (bf : Nat → Int32) (nb : Nat) (AI' : gI) (r : Nat) : Prop :=
  sdK gh AI AI' ∧ noZ gh AI AI' ∧ stA tbs cc (tbS bf nb (rfM gh AI 0) 1) cl (rfM gh AI' 10) r ∧ (∀ q : Nat, r ≤ q → q < 16 → rfM gh AI' 10 q = rfM gh AI 0 q) ∧ rdA tbs cc (rfM gh AI' 10) (fun q => AI' (gh 79 0) (160 + q)) r
theorem dr_0 (hs : sdK gh AI AI') (hz : noZ gh AI AI') (h : ∀ q : Nat, q < 16 → rfM gh AI' 10 q = rfM gh AI 0 q) : drS gh AI tbs nr cc cl bf nb AI' 0 := ⟨hs, hz, st_0, fun q _ hq => h q hq, fun q hq => absurd hq (Nat.not_lt_zero q)⟩
/-- what a step keeps -/
theorem dr_k (hl : cLt tbs nr cc) (hr : r < nr) (h16 : nr ≤ 16) (h : drS gh AI tbs nr cc cl bf nb AI' r) (q : rkM gh 10 (r : Int) AI' AI2) :
    sdK gh AI AI2 ∧ noZ gh AI AI2 ∧ stA tbs cc (tbS bf nb (rfM gh AI 0) 1) cl (rfM gh AI2 10) r ∧ (∀ p : Nat, r + 1 ≤ p → p < 16 → rfM gh AI2 10 p = rfM gh AI 0 p) ∧ rdA tbs cc (rfM gh AI2 10) (fun q => AI2 (gh 79 0) (160 + q)) r ∧ ∀ p, p < r → rfM gh AI2 10 p = rfM gh AI' 10 p := by
  obtain ⟨h1, h2, h3, h4, h5⟩ := h
  have e : ∀ p, p < r → rfM gh AI2 10 p = rfM gh AI' 10 p := fun p hp => rk_F q ⟨by omega, by omega, by omega⟩ ⟨by omega, by omega⟩ (Or.inr (by omega))
  refine ⟨sdK_k h1 q (by omega), noZ_k h2 q, st_up hl (by omega) e h3, fun p hp hp2 => ?_, rd_up hl (by omega) e (fun p hp => q.2.2.2 _ (by omega)) h5, e⟩
  rw [rk_F q ⟨by omega, by omega, by omega⟩ ⟨by omega, by omega⟩ (Or.inr (by omega))]
  exact h4 p (by omega) hp2
theorem dr_t (hl : cLt tbs nr cc) (hr : r < nr) (h16 : nr ≤ 16) (ht : (r : Int) < tbs) (h : drS gh AI tbs nr cc cl bf nb AI' r) (q : rkM gh 10 (r : Int) AI' AI2) (hF : zB (cl r) (rfM gh AI 0 r).2 (rfM gh AI 0 r).1) (hz : btZ cl bf nb)
    (hB : isB (rfM gh AI2 10 r).2 (rfM gh AI2 10 r).1 (tbS bf nb (rfM gh AI 0) 1 r) zM) (hm : (rfM gh AI2 10 r).1 ≤ 120) : drS gh AI tbs nr cc cl bf nb AI2 (r + 1) := by
  obtain ⟨a1, a2, a3, a4, a5, _⟩ := dr_k hl hr h16 h q
  exact ⟨a1, a2, st_tb a3 ht rfl hF hz hB hm, a4, rd_s a5 (fun w => absurd w (by omega))⟩
theorem dr_v (hl : cLt tbs nr cc) (hr : r < nr) (h16 : nr ≤ 16) (ht : tbs ≤ (r : Int)) (hc : cOK (cc r) r cl ∧ cZ (cc r) r cl) (h : drS gh AI tbs nr cc cl bf nb AI' r) (q : rkM gh 10 (r : Int) AI' AI2)
    (hv : vwP (cc r) (rfM gh AI' 10) 0 (rfM gh AI2 10 r).2 (rfM gh AI2 10 r).1) (hR : (cc r).1 0 = 8 → ∃ R9 : Nat, rgY (cc r) (rfM gh AI' 10 ((cc r).1 2).toNat).2 (rfM gh AI' 10 ((cc r).1 2).toNat).1 (rfM gh AI' 10 ((cc r).1 3).toNat).2 (rfM gh AI' 10 ((cc r).1 3).toNat).1 R9 (rfM gh AI2 10 r).2 (rfM gh AI2 10 r).1 ∧ AI2 (gh 79 0) (160 + r) = iI (R9 : Int)) : drS gh AI tbs nr cc cl bf nb AI2 (r + 1) := by
  obtain ⟨a1, a2, a3, a4, a5, e⟩ := dr_k hl hr h16 h q
  refine ⟨a1, a2, st_vw a3 ht hc rfl (st_vc hc.1 e hv), a4, rd_s a5 (fun _ w => ?_)⟩
  obtain ⟨R9, b1, b2⟩ := hR w
  have c := hl r hr ht
  refine ⟨R9, ?_, b2⟩
  rw [e _ (by omega), e _ (by omega)]; exact b1
/-- what drafts answers and leaves -/
def drP (gh : gGh) (AI : gI) (tbs : Int) (nr : Nat) (cc : Nat → LC) (cl : Nat → Int) (bf : Nat → Int32) (nb : Nat) (z : Int) (AI' : gI) : Prop :=
  sdK gh AI AI' ∧ noZ gh AI AI' ∧ rnP tbs nr cc (∃ i, i < nb ∧ blw bf (rfM gh AI 0) 1 i) (tbS bf nb (rfM gh AI 0) 1) z (rfM gh AI' 10) ∧ (z = 0 → stA tbs cc (tbS bf nb (rfM gh AI 0) 1) cl (rfM gh AI' 10) nr ∧ rdA tbs cc (rfM gh AI' 10) (fun q => AI' (gh 79 0) (160 + q)) nr) ∧ (z = 0 ∨ z = -2 ∨ z = -3 ∨ z = -4)
theorem dr_low (hs : sdK gh AI AI') (hz : noZ gh AI AI') (h : ∃ i, i < nb ∧ blw bf (rfM gh AI 0) 1 i) : drP gh AI tbs nr cc cl bf nb (-2) AI' := ⟨hs, hz, Or.inl ⟨h, rfl⟩, fun w => absurd w (by decide), Or.inr (Or.inl rfl)⟩
theorem dr_end (h : drS gh AI tbs nr cc cl bf nb AI' nr) (hb : ¬ ∃ i, i < nb ∧ blw bf (rfM gh AI 0) 1 i) : drP gh AI tbs nr cc cl bf nb 0 AI' :=
  ⟨h.1, h.2.1, Or.inr ⟨hb, nr, Nat.le_refl _, fun q hq => (h.2.2.1 q hq).1, Or.inl ⟨rfl, rfl⟩⟩, fun _ => ⟨h.2.2.1, h.2.2.2.2⟩, Or.inl rfl⟩
theorem dr_tm (hl : cLt tbs nr cc) (hr : r < nr) (h16 : nr ≤ 16) (ht : (r : Int) < tbs) (h : drS gh AI tbs nr cc cl bf nb AI' r) (q : rkM gh 10 (r : Int) AI' AI2) (hb : ¬ ∃ i, i < nb ∧ blw bf (rfM gh AI 0) 1 i) (hB : bigP 120 (fun t => tbS bf nb (rfM gh AI 0) 1 r t ≠ 0)) : drP gh AI tbs nr cc cl bf nb (-3) AI2 := by
  obtain ⟨a1, a2, a3, _⟩ := dr_k hl hr h16 h q
  refine ⟨a1, a2, Or.inr ⟨hb, r, by omega, fun p hp => (a3 p hp).1, Or.inr ⟨hr, ?_⟩⟩, fun w => absurd w (by decide), Or.inr (Or.inr (Or.inl rfl))⟩
  unfold stF; rw [if_pos ht]; exact ⟨rfl, hB⟩
theorem dr_vm (hl : cLt tbs nr cc) (hr : r < nr) (h16 : nr ≤ 16) (ht : tbs ≤ (r : Int)) (hc : cOK (cc r) r cl) (h : drS gh AI tbs nr cc cl bf nb AI' r) (q : rkM gh 10 (r : Int) AI' AI2) (hb : ¬ ∃ i, i < nb ∧ blw bf (rfM gh AI 0) 1 i) (hz : z = 0 ∨ z = -3 ∨ z = -4) (hz0 : z ≠ 0)
    (hv : vwP (cc r) (rfM gh AI' 10) z (rfM gh AI2 10 r).2 (rfM gh AI2 10 r).1) : drP gh AI tbs nr cc cl bf nb z AI2 := by
  obtain ⟨a1, a2, a3, _, _, e⟩ := dr_k hl hr h16 h q
  refine ⟨a1, a2, Or.inr ⟨hb, r, by omega, fun p hp => (a3 p hp).1, Or.inr ⟨hr, ?_⟩⟩, fun w => absurd w hz0, by omega⟩
  unfold stF; rw [if_neg (by omega)]; exact ⟨hz0, _, _, st_vc hc e hv⟩
end Drm
end
