/-! the reference: the draft -/
theorem rfM_g {gh : gGh} {AI AI' : gI} {sd : Int} (h56 : AI' (gh 56 0) = AI (gh 56 0)) (h57 : AI' (gh 57 0) = AI (gh 57 0)) : rfM gh AI' sd = rfM gh AI sd := by unfold rfM; rw [h56, h57]
theorem tb_eq {T : Nat → Int32} {z tbs many : Int} (h1 : 0 ≤ z ∧ z ≤ many) (h2 : ∀ r : Int, z ≤ r → r < many → tI T (40 * r) ≠ 0) (h3 : ∀ r : Int, 0 ≤ r → r < z → tI T (40 * r) = 0) (h4 : 0 ≤ tbs ∧ tbs ≤ many) (h5 : ∀ r : Int, 0 ≤ r → r < tbs → tI T (40 * r) = 0) (h6 : ∀ r : Int, tbs ≤ r → r < many → tI T (40 * r) ≠ 0) : z = tbs := by
  apply Classical.byContradiction
  intro q
  by_cases w : z < tbs
  · exact h2 z (by omega) (by omega) (h5 z (by omega) w)
  · exact h6 tbs (by omega) (by omega) (h3 tbs (by omega) (by omega))
/-- the plan, as the reference has it -/
def plM9 (T : Nat → Int32) (tbs : Int) (nr : Nat) (cc : Nat → LC) (cl : Nat → Int) : Prop := (0 ≤ tbs ∧ tbs ≤ (nr : Int)) ∧ (∀ r : Int, 0 ≤ r → r < tbs → tI T (40 * r) = 0) ∧ ∀ r : Nat, r < nr → tbs ≤ (r : Int) → lnM T (r : Int) (cc r) ∧ cOK (cc r) r cl ∧ cZ (cc r) r cl
theorem pl_6 {T : Nat → Int32} {tbs many : Int} {nr : Nat} {cc : Nat → LC} {cl : Nat → Int} (h : plM9 T tbs nr cc cl) (hm : many = (nr : Int)) : ∀ r : Int, tbs ≤ r → r < many → tI T (40 * r) ≠ 0 := fun r h1 h2 => by
  have h0 := h.1
  have q := h.2.2 r.toNat (by omega) (by omega)
  have e := q.1.1.1
  rw [Int.toNat_of_nonneg (by omega)] at e
  have c := q.2.1.1.1
  omega
/-- the batch, as the reference has it -/
def btM9 (gh : gGh) (AI : gI) (bf : Nat → Int32) (nb : Nat) (tbs : Int) (cl : Nat → Int) : Prop := rbE (AI (gh 61 0)) (AI (gh 62 0)) (AI (gh 63 0)) bf nb ∧ btO bf nb ∧ btZ cl bf nb ∧ ∀ i, i < nb → 0 ≤ (bf (6 * i)).toInt ∧ (bf (6 * i)).toInt < tbs
/-- sides ahead of the draft are as they were -/
def sdK (gh : gGh) (AI AI' : gI) : Prop := (∀ q : Nat, q < 115200 → AI' (gh 56 0) q = AI (gh 56 0) q) ∧ ∀ j : Nat, j < 160 → AI' (gh 57 0) j = AI (gh 57 0) j ∧ AI' (gh 79 0) j = AI (gh 79 0) j
def noZ (gh : gGh) (AI AI' : gI) : Prop := ∀ b, b ≠ gh 56 0 → b ≠ gh 57 0 → b ≠ gh 75 0 → b ≠ gh 77 0 → b ≠ gh 78 0 → b ≠ gh 79 0 → b ≠ gh 80 0 → AI' b = AI b
/-- the rounds of rings -/
def rdA (tbs : Int) (cc : Nat → LC) (F : RF) (RM : Nat → Int32) (k : Nat) : Prop := ∀ q : Nat, q < k → tbs ≤ (q : Int) → (cc q).1 0 = 8 → ∃ R9 : Nat, rgY (cc q) (F ((cc q).1 2).toNat).2 (F ((cc q).1 2).toNat).1 (F ((cc q).1 3).toNat).2 (F ((cc q).1 3).toNat).1 R9 (F q).2 (F q).1 ∧ RM q = iI (R9 : Int)
section Drm
variable {gh : gGh} {AI A1 AI' AI2 : gI} {sd rr k z tbs : Int} {n m nr nb r : Nat} {cc : Nat → LC} {cl : Nat → Int} {bf : Nat → Int32} {S : Tup → Int32} {F F' F0 : RF} {RM RM' : Nat → Int32}
theorem sdK_r : sdK gh AI AI := ⟨fun _ _ => rfl, fun _ _ => ⟨rfl, rfl⟩⟩
theorem sdK_k (h : sdK gh AI AI') (q : rkM gh 10 rr AI' AI2) (h0 : 0 ≤ rr) : sdK gh AI AI2 :=
  ⟨fun p hp => (q.2.1 p (by omega)).trans (h.1 p hp), fun j hj => ⟨(q.2.2.1 j (by omega)).trans (h.2 j hj).1, (q.2.2.2 j (by omega)).trans (h.2 j hj).2⟩⟩
theorem noZ_r : noZ gh AI AI := fun _ _ _ _ _ _ _ _ => rfl
theorem noZ_k (h : noZ gh AI AI') (q : rkM gh sd rr AI' AI2) : noZ gh AI AI2 := fun b h1 h2 h3 h4 h5 h6 h7 => (q.1 b h1 h2 h3 h4 h5 h6 h7).trans (h b h1 h2 h3 h4 h5 h6 h7)
theorem sdK_c (h : cpP gh 0 10 AI A1) : sdK gh AI A1 := ⟨fun q hq => h.2.1.1 q (by omega), fun j hj => ⟨h.2.2.1.1 j (by omega), h.2.2.2.1 j (by omega)⟩⟩
theorem noZ_c (h : cpP gh 0 10 AI A1) : noZ gh AI A1 := fun b h1 h2 _ _ _ h6 _ => h.1 b h1 h2 h6
theorem noZ_t (h : noZ gh AI AI') (q : noZ gh AI' AI2) : noZ gh AI AI2 := fun b h1 h2 h3 h4 h5 h6 h7 => (q b h1 h2 h3 h4 h5 h6 h7).trans (h b h1 h2 h3 h4 h5 h6 h7)
/-- a table laid -/
theorem lay_t (h0 : 0 ≤ rr) (h1 : tI (AI' (gh 57 0)) (16 * sd + rr) ≤ 120) (hn : 0 ≤ k) (h : gaR (AI (gh 75 0)) k.toNat S) (hl : lyP gh sd rr k AI AI' z) : (z = 0 ∧ isB (rfM gh AI' sd rr.toNat).2 (rfM gh AI' sd rr.toNat).1 S zM ∧ (rfM gh AI' sd rr.toNat).1 ≤ 120) ∨ (z = -3 ∧ bigP 120 (fun t => S t ≠ 0)) := by
  rcases hl with ⟨a, b, _, d, e⟩ | ⟨a, b, _⟩
  · have w0 := wCnt_0 (f := AI (gh 75 0)) (a := k.toNat)
    refine Or.inl ⟨a, ?_, ?_⟩
    · rw [rfM_1 h0, d, iI_val ⟨by omega, by omega⟩]
      exact isW_c (gaR_lay h (by rw [Int.toNat_of_nonneg hn]; exact b)) (rfM_w h0 (by omega))
    · rw [rfM_1 h0, d, iI_val ⟨by omega, by omega⟩]; omega
  · exact Or.inr ⟨a, gaR_big h b⟩
theorem rd_up (hl : cLt tbs nr cc) (hk : r ≤ nr) (e : ∀ q, q < r → F' q = F q) (eR : ∀ q, q < r → RM' q = RM q) (h : rdA tbs cc F RM r) : rdA tbs cc F' RM' r := fun q hq h1 h2 => by
  obtain ⟨R9, a, b⟩ := h q hq h1 h2
  have c := hl q (by omega) h1
  refine ⟨R9, ?_, (eR q hq).trans b⟩
  rw [e q hq, e _ (by omega), e _ (by omega)]; exact a
theorem rd_s (h : rdA tbs cc F RM r) (hn : tbs ≤ (r : Int) → (cc r).1 0 = 8 → ∃ R9 : Nat, rgY (cc r) (F ((cc r).1 2).toNat).2 (F ((cc r).1 2).toNat).1 (F ((cc r).1 3).toNat).2 (F ((cc r).1 3).toNat).1 R9 (F r).2 (F r).1 ∧ RM r = iI (R9 : Int)) : rdA tbs cc F RM (r + 1) := fun q hq h1 h2 => by
  by_cases w : q = r
  · subst w; exact hn h1 h2
  · exact h q (by omega) h1 h2
/-- the draft up to relation r -/
def drS (gh : gGh) (AI : gI) (tbs : Int) (nr : Nat) (cc : Nat → LC) (cl : Nat → Int) (bf : Nat → Int32) (nb : Nat) (AI' : gI) (r : Nat) : Prop :=
  sdK gh AI AI' ∧ noZ gh AI AI' ∧ stA tbs cc (tbS bf nb (rfM gh AI 0) 1) cl (rfM gh AI' 10) r ∧ (∀ q : Nat, r ≤ q → q < 16 → rfM gh AI' 10 q = rfM gh AI 0 q) ∧ rdA tbs cc (rfM gh AI' 10) (fun q => AI' (gh 79 0) (160 + q)) r
theorem dr_0 (hs : sdK gh AI AI') (hz : noZ gh AI AI') (h : ∀ q : Nat, q < 16 → rfM gh AI' 10 q = rfM gh AI 0 q) : drS gh AI tbs nr cc cl bf nb AI' 0 := ⟨hs, hz, st_0, fun q _ hq => h q hq, fun q hq => absurd hq (Nat.not_lt_zero q)⟩
/-- what a step keeps -/
theorem dr_k (hl : cLt tbs nr cc) (hr : r < nr) (h16 : nr ≤ 16) (h : drS gh AI tbs nr cc cl bf nb AI' r) (q : rkM gh 10 (r : Int) AI' AI2) :
    sdK gh AI AI2 ∧ noZ gh AI AI2 ∧ stA tbs cc (tbS bf nb (rfM gh AI 0) 1) cl (rfM gh AI2 10) r ∧ (∀ p : Nat, r + 1 ≤ p → p < 16 → rfM gh AI2 10 p = rfM gh AI 0 p) ∧ rdA tbs cc (rfM gh AI2 10) (fun q => AI2 (gh 79 0) (160 + q)) r ∧ ∀ p, p < r → rfM gh AI2 10 p = rfM gh AI' 10 p := by
  obtain ⟨h1, h2, h3, h4, h5⟩ := h
  have e : ∀ p, p < r → rfM gh AI2 10 p = rfM gh AI' 10 p := fun p hp => rk_F q ⟨by omega, by omega, by omega⟩ ⟨by omega, by omega⟩ (Or.inr (by omega))
  refine ⟨sdK_k h1 q (by omega), noZ_k h2 q, st_up hl (by omega) e h3, fun p hp hp2 => ?_, rd_up hl (by omega) e (fun p hp => q.2.2.2 _ (by omega)) h5, e⟩
  rw [rk_F q ⟨by omega, by omega, by omega⟩ ⟨by omega, by omega⟩ (Or.inr (by omega))]
  exact h4 p (by omega) hp2
theorem dr_t (hl : cLt tbs nr cc) (hr : r < nr) (h16 : nr ≤ 16) (ht : (r : Int) < tbs) (h : drS gh AI tbs nr cc cl bf nb AI' r) (q : rkM gh 10 (r : Int) AI' AI2) (hF : zB (cl r) (rfM gh AI 0 r).2 (rfM gh AI 0 r).1) (hz : btZ cl bf nb)
    (hB : isB (rfM gh AI2 10 r).2 (rfM gh AI2 10 r).1 (tbS bf nb (rfM gh AI 0) 1 r) zM) (hm : (rfM gh AI2 10 r).1 ≤ 120) : drS gh AI tbs nr cc cl bf nb AI2 (r + 1) := by
  obtain ⟨a1, a2, a3, a4, a5, _⟩ := dr_k hl hr h16 h q
  exact ⟨a1, a2, st_tb a3 ht rfl hF hz hB hm, a4, rd_s a5 (fun w => absurd w (by omega))⟩
theorem dr_v (hl : cLt tbs nr cc) (hr : r < nr) (h16 : nr ≤ 16) (ht : tbs ≤ (r : Int)) (hc : cOK (cc r) r cl ∧ cZ (cc r) r cl) (h : drS gh AI tbs nr cc cl bf nb AI' r) (q : rkM gh 10 (r : Int) AI' AI2)
    (hv : vwP (cc r) (rfM gh AI' 10) 0 (rfM gh AI2 10 r).2 (rfM gh AI2 10 r).1) (hR : (cc r).1 0 = 8 → ∃ R9 : Nat, rgY (cc r) (rfM gh AI' 10 ((cc r).1 2).toNat).2 (rfM gh AI' 10 ((cc r).1 2).toNat).1 (rfM gh AI' 10 ((cc r).1 3).toNat).2 (rfM gh AI' 10 ((cc r).1 3).toNat).1 R9 (rfM gh AI2 10 r).2 (rfM gh AI2 10 r).1 ∧ AI2 (gh 79 0) (160 + r) = iI (R9 : Int)) : drS gh AI tbs nr cc cl bf nb AI2 (r + 1) := by
  obtain ⟨a1, a2, a3, a4, a5, e⟩ := dr_k hl hr h16 h q
  refine ⟨a1, a2, st_vw a3 ht hc rfl (st_vc hc.1 e hv), a4, rd_s a5 (fun _ w => ?_)⟩
  obtain ⟨R9, b1, b2⟩ := hR w
  have c := hl r hr ht
  refine ⟨R9, ?_, b2⟩
  rw [e _ (by omega), e _ (by omega)]; exact b1
/-- what drafts answers and leaves -/
def drP (gh : gGh) (AI : gI) (tbs : Int) (nr : Nat) (cc : Nat → LC) (cl : Nat → Int) (bf : Nat → Int32) (nb : Nat) (z : Int) (AI' : gI) : Prop :=
  sdK gh AI AI' ∧ noZ gh AI AI' ∧ rnP tbs nr cc (∃ i, i < nb ∧ blw bf (rfM gh AI 0) 1 i) (tbS bf nb (rfM gh AI 0) 1) z (rfM gh AI' 10) ∧ (z = 0 → stA tbs cc (tbS bf nb (rfM gh AI 0) 1) cl (rfM gh AI' 10) nr ∧ rdA tbs cc (rfM gh AI' 10) (fun q => AI' (gh 79 0) (160 + q)) nr) ∧ (z = 0 ∨ z = -2 ∨ z = -3 ∨ z = -4)
theorem dr_low (hs : sdK gh AI AI') (hz : noZ gh AI AI') (h : ∃ i, i < nb ∧ blw bf (rfM gh AI 0) 1 i) : drP gh AI tbs nr cc cl bf nb (-2) AI' := ⟨hs, hz, Or.inl ⟨h, rfl⟩, fun w => absurd w (by decide), Or.inr (Or.inl rfl)⟩
theorem dr_end (h : drS gh AI tbs nr cc cl bf nb AI' nr) (hb : ¬ ∃ i, i < nb ∧ blw bf (rfM gh AI 0) 1 i) : drP gh AI tbs nr cc cl bf nb 0 AI' :=
  ⟨h.1, h.2.1, Or.inr ⟨hb, nr, Nat.le_refl _, fun q hq => (h.2.2.1 q hq).1, Or.inl ⟨rfl, rfl⟩⟩, fun _ => ⟨h.2.2.1, h.2.2.2.2⟩, Or.inl rfl⟩
theorem dr_tm (hl : cLt tbs nr cc) (hr : r < nr) (h16 : nr ≤ 16) (ht : (r : Int) < tbs) (h : drS gh AI tbs nr cc cl bf nb AI' r) (q : rkM gh 10 (r : Int) AI' AI2) (hb : ¬ ∃ i, i < nb ∧ blw bf (rfM gh AI 0) 1 i) (hB : bigP 120 (fun t => tbS bf nb (rfM gh AI 0) 1 r t ≠ 0)) : drP gh AI tbs nr cc cl bf nb (-3) AI2 := by
  obtain ⟨a1, a2, a3, _⟩ := dr_k hl hr h16 h q
  refine ⟨a1, a2, Or.inr ⟨hb, r, by omega, fun p hp => (a3 p hp).1, Or.inr ⟨hr, ?_⟩⟩, fun w => absurd w (by decide), Or.inr (Or.inr (Or.inl rfl))⟩
  unfold stF; rw [if_pos ht]; exact ⟨rfl, hB⟩
theorem dr_vm (hl : cLt tbs nr cc) (hr : r < nr) (h16 : nr ≤ 16) (ht : tbs ≤ (r : Int)) (hc : cOK (cc r) r cl) (h : drS gh AI tbs nr cc cl bf nb AI' r) (q : rkM gh 10 (r : Int) AI' AI2) (hb : ¬ ∃ i, i < nb ∧ blw bf (rfM gh AI 0) 1 i) (hz : z = 0 ∨ z = -3 ∨ z = -4) (hz0 : z ≠ 0)
    (hv : vwP (cc r) (rfM gh AI' 10) z (rfM gh AI2 10 r).2 (rfM gh AI2 10 r).1) : drP gh AI tbs nr cc cl bf nb z AI2 := by
  obtain ⟨a1, a2, a3, _, _, e⟩ := dr_k hl hr h16 h q
  refine ⟨a1, a2, Or.inr ⟨hb, r, by omega, fun p hp => (a3 p hp).1, Or.inr ⟨hr, ?_⟩⟩, fun w => absurd w hz0, by omega⟩
  unfold stF; rw [if_neg (by omega)]; exact ⟨hz0, _, _, st_vc hc e hv⟩
end Drm
