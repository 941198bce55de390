/-! the reference: sizes by sums, sides with rounds -/
noncomputable def bgN (S : Tup → Int32) : Nat := @dite _ (∃ m f, isB f m S zM) (Classical.propDecidable _) (fun h => h.choose) (fun _ => 0)
theorem bgN_e {f : Nat → Int32} {m : Nat} {S : Tup → Int32} (h : isB f m S zM) : bgN S = m := by
  have ex : ∃ m f, isB f m S zM := ⟨m, f, h⟩
  have e : bgN S = ex.choose := @dif_pos _ (Classical.propDecidable _) ex _ _ _
  obtain ⟨f', h'⟩ := ex.choose_spec
  rw [e]
  exact (isW_u h' h (fun _ _ => rfl) (fun _ _ => rfl)).1
def rsM (gh : gGh) (AI : gI) (sd : Int) (r : Nat) : (Nat × (Nat → Int32)) × Int32 := (rfM gh AI sd r, AI (gh 79 0) (16 * sd + (r : Int)).toNat)
def mvF (gh : gGh) (AI : gI) (r : Nat) : Tup → Int32 := mvS (rfM gh AI 0 r).2 (rfM gh AI 0 r).1 (rfM gh AI 9 r).2 (rfM gh AI 9 r).1
section Cmm
variable {gh : gGh} {AI AI' AI2 A1 : gI} {fm to sd u a : Int} {r n : Nat} {f : Nat → Int32}
theorem cps_to (h : cpP gh fm to AI AI') (h0 : 0 ≤ fm ∧ 0 ≤ to) (hr : r < 16) : rsM gh AI' to r = rsM gh AI fm r := by
  unfold rsM
  rw [cp_to h h0 hr]
  have e := h.2.2.2.2 r (by omega)
  rw [show (16 * to + (r : Int)).toNat = (16 * to).toNat + r by omega, e, show (16 * fm).toNat + r = (16 * fm + (r : Int)).toNat by omega]
theorem cps_o (h : cpP gh fm to AI AI') (h0 : 0 ≤ fm ∧ 0 ≤ to) (hs : 0 ≤ sd) (hne : sd ≠ to) (hr : r < 16) : rsM gh AI' sd r = rsM gh AI sd r := by
  unfold rsM
  rw [cp_o h h0 hs hne hr, h.2.2.2.1 _ (by omega)]
theorem rs_rf (h : rsM gh AI' fm r = rsM gh AI sd r) : rfM gh AI' fm r = rfM gh AI sd r := congrArg Prod.fst h
theorem rs_79 (h : rsM gh AI' fm r = rsM gh AI sd r) : AI' (gh 79 0) (16 * fm + (r : Int)).toNat = AI (gh 79 0) (16 * sd + (r : Int)).toNat := congrArg Prod.snd h
theorem rsM_k (h : sdK gh AI AI') (h0 : 0 ≤ sd ∧ sd ≤ 9) (hr : r < 16) : rsM gh AI' sd r = rsM gh AI sd r := by
  unfold rsM rfM
  refine Prod.ext (Prod.ext ?_ (funext fun q => ?_)) ?_
  · show (AI' (gh 57 0) _).toInt.toNat = (AI (gh 57 0) _).toInt.toNat
    rw [(h.2 _ (by omega)).1]
  · show (if q < 720 then _ else _) = if q < 720 then _ else _
    by_cases w : q < 720
    · rw [if_pos w, if_pos w, h.1 _ (by omega)]
    · rw [if_neg w, if_neg w]
  · show AI' (gh 79 0) _ = AI (gh 79 0) _
    rw [(h.2 _ (by omega)).2]
theorem rsM_g (h56 : AI' (gh 56 0) = AI (gh 56 0)) (h57 : AI' (gh 57 0) = AI (gh 57 0)) (h79 : AI' (gh 79 0) = AI (gh 79 0)) : rsM gh AI' sd = rsM gh AI sd := by
  funext r; unfold rsM; rw [rfM_g h56 h57, h79]
/-- the steps to undo, as a new one comes -/
def bkP (gh : gGh) (AI AI' : gI) (u u' : Int) : Prop :=
  (u < 8 ∧ u' = u + 1 ∧ (∀ j : Int, 0 ≤ j → j < u → ∀ r : Nat, r < 16 → rsM gh AI' (1 + j) r = rsM gh AI (1 + j) r) ∧ ∀ r : Nat, r < 16 → rsM gh AI' (1 + u) r = rsM gh AI 0 r) ∨
  (u = 8 ∧ u' = 8 ∧ (∀ j : Int, 0 ≤ j → j < 7 → ∀ r : Nat, r < 16 → rsM gh AI' (1 + j) r = rsM gh AI (2 + j) r) ∧ ∀ r : Nat, r < 16 → rsM gh AI' 8 r = rsM gh AI 0 r)
/-- moved down by one so far -/
def bkI (gh : gGh) (AI AI' : gI) (k : Int) : Prop := (∀ j : Int, 0 ≤ j → j < k - 1 → ∀ r : Nat, r < 16 → rsM gh AI' (1 + j) r = rsM gh AI (2 + j) r) ∧ (∀ sd : Int, sd = 0 ∨ sd = 9 ∨ sd = 10 ∨ (k ≤ sd ∧ sd ≤ 8) → ∀ r : Nat, r < 16 → rsM gh AI' sd r = rsM gh AI sd r) ∧ ∀ b, b ≠ gh 56 0 → b ≠ gh 57 0 → b ≠ gh 79 0 → AI' b = AI b
theorem bkI_1 : bkI gh AI AI 1 := ⟨fun j h1 h2 => absurd h2 (by omega), fun _ _ _ _ => rfl, fun _ _ _ _ => rfl⟩
theorem bkI_s {k : Int} (h : bkI gh AI AI' k) (h1 : 1 ≤ k ∧ k < 8) (q : cpP gh fm to AI' AI2) (e1 : fm = 1 + k) (e2 : to = k) : bkI gh AI AI2 (k + 1) := by
  subst e1; subst e2
  refine ⟨fun j a b r hr => ?_, fun sd hs r hr => ?_, fun b a1 a2 a3 => (q.1 b a1 a2 a3).trans (h.2.2 b a1 a2 a3)⟩
  · by_cases w : j = to - 1
    · rw [show 1 + j = to by omega, show 2 + j = 1 + to by omega, cps_to q ⟨by omega, by omega⟩ hr]
      exact h.2.1 _ (by omega) r hr
    · rw [cps_o q ⟨by omega, by omega⟩ (by omega) (by omega) hr]; exact h.1 j a (by omega) r hr
  · rw [cps_o q ⟨by omega, by omega⟩ (by omega) (by omega) hr]; exact h.2.1 sd (by omega) r hr
/-- what commit leaves of the sides -/
def cmM (gh : gGh) (AI A1 AI' : gI) (u u' : Int) : Prop := (∀ r : Nat, r < 16 → rsM gh AI' 0 r = rsM gh A1 10 r) ∧ (∀ r : Nat, r < 16 → rsM gh AI' 9 r = rsM gh AI 0 r) ∧ bkP gh AI AI' u u'
theorem cm_a {B1 B2 B3 : gI} (hu : 0 ≤ u ∧ u < 8) (hk : sdK gh AI A1) (q1 : cpP gh 0 (1 + u) A1 B1) (q2 : cpP gh 0 9 B1 B2) (q3 : cpP gh 10 0 B2 B3) : cmM gh AI A1 B3 u (u + 1) := by
  refine ⟨fun r hr => ?_, fun r hr => ?_, Or.inl ⟨hu.2, rfl, fun j h1 h2 r hr => ?_, fun r hr => ?_⟩⟩
  · rw [cps_to q3 ⟨by decide, by decide⟩ hr, cps_o q2 ⟨by decide, by decide⟩ (by decide) (by decide) hr, cps_o q1 ⟨by decide, by omega⟩ (by decide) (by omega) hr]
  · rw [cps_o q3 ⟨by decide, by decide⟩ (by decide) (by decide) hr, cps_to q2 ⟨by decide, by decide⟩ hr, cps_o q1 ⟨by decide, by omega⟩ (by decide) (by omega) hr, rsM_k hk ⟨by decide, by decide⟩ hr]
  · rw [cps_o q3 ⟨by decide, by decide⟩ (by omega) (by omega) hr, cps_o q2 ⟨by decide, by decide⟩ (by omega) (by omega) hr, cps_o q1 ⟨by decide, by omega⟩ (by omega) (by omega) hr, rsM_k hk ⟨by omega, by omega⟩ hr]
  · rw [cps_o q3 ⟨by decide, by decide⟩ (by omega) (by omega) hr, cps_o q2 ⟨by decide, by decide⟩ (by omega) (by omega) hr, cps_to q1 ⟨by decide, by omega⟩ hr, rsM_k hk ⟨by decide, by decide⟩ hr]
theorem cm_b {B0 B1 B2 B3 : gI} (hk : sdK gh AI A1) (q0 : bkI gh A1 B0 8) (q1 : cpP gh 0 8 B0 B1) (q2 : cpP gh 0 9 B1 B2) (q3 : cpP gh 10 0 B2 B3) : cmM gh AI A1 B3 8 8 := by
  refine ⟨fun r hr => ?_, fun r hr => ?_, Or.inr ⟨rfl, rfl, fun j h1 h2 r hr => ?_, fun r hr => ?_⟩⟩
  · rw [cps_to q3 ⟨by decide, by decide⟩ hr, cps_o q2 ⟨by decide, by decide⟩ (by decide) (by decide) hr, cps_o q1 ⟨by decide, by decide⟩ (by decide) (by decide) hr, q0.2.1 10 (by omega) r hr]
  · rw [cps_o q3 ⟨by decide, by decide⟩ (by decide) (by decide) hr, cps_to q2 ⟨by decide, by decide⟩ hr, cps_o q1 ⟨by decide, by decide⟩ (by decide) (by decide) hr, q0.2.1 0 (by omega) r hr, rsM_k hk ⟨by decide, by decide⟩ hr]
  · rw [cps_o q3 ⟨by decide, by decide⟩ (by omega) (by omega) hr, cps_o q2 ⟨by decide, by decide⟩ (by omega) (by omega) hr, cps_o q1 ⟨by decide, by decide⟩ (by omega) (by omega) hr, q0.1 j h1 (by omega) r hr, rsM_k hk ⟨by omega, by omega⟩ hr]
  · rw [cps_o q3 ⟨by decide, by decide⟩ (by decide) (by decide) hr, cps_o q2 ⟨by decide, by decide⟩ (by decide) (by decide) hr, cps_to q1 ⟨by decide, by decide⟩ hr, q0.2.1 0 (by omega) r hr, rsM_k hk ⟨by decide, by decide⟩ hr]
theorem noZ_cp (h : noZ gh AI AI') (q : cpP gh fm to AI' AI2) : noZ gh AI AI2 := fun b h1 h2 h3 h4 h5 h6 h7 => (q.1 b h1 h2 h6).trans (h b h1 h2 h3 h4 h5 h6 h7)
theorem noZ_bk {k : Int} (h : noZ gh AI AI') (q : bkI gh AI' AI2 k) : noZ gh AI AI2 := fun b h1 h2 h3 h4 h5 h6 h7 => (q.2.2 b h1 h2 h6).trans (h b h1 h2 h3 h4 h5 h6 h7)
/-- what undo leaves of the sides -/
def unM (gh : gGh) (AI AI' : gI) (u' : Int) : Prop := (∀ r : Nat, r < 16 → rsM gh AI' 0 r = rsM gh AI (1 + u') r) ∧ (∀ r : Nat, r < 16 → rsM gh AI' 9 r = rsM gh AI 0 r) ∧ (∀ sd : Int, 1 ≤ sd → sd ≤ 8 → ∀ r : Nat, r < 16 → rsM gh AI' sd r = rsM gh AI sd r) ∧ ∀ b, b ≠ gh 56 0 → b ≠ gh 57 0 → b ≠ gh 79 0 → AI' b = AI b
theorem un_m {B1 B2 : gI} (hu : 0 ≤ u ∧ u < 8) (q1 : cpP gh 0 9 AI B1) (q2 : cpP gh (1 + u) 0 B1 B2) : unM gh AI B2 u := by
  refine ⟨fun r hr => ?_, fun r hr => ?_, fun sd h1 h2 r hr => ?_, fun b a1 a2 a3 => (q2.1 b a1 a2 a3).trans (q1.1 b a1 a2 a3)⟩
  · rw [cps_to q2 ⟨by omega, by decide⟩ hr, cps_o q1 ⟨by decide, by decide⟩ (by omega) (by omega) hr]
  · rw [cps_o q2 ⟨by omega, by decide⟩ (by decide) (by decide) hr, cps_to q1 ⟨by decide, by decide⟩ hr]
  · rw [cps_o q2 ⟨by omega, by decide⟩ (by omega) (by omega) hr, cps_o q1 ⟨by decide, by decide⟩ (by omega) (by omega) hr]
end Cmm
section Cmm2
variable {gh : gGh} {AI AI' AI2 A1 B0 B1 B2 B3 : gI} {u u' tbs n k : Int} {nr : Nat} {f : Nat → Int}
def noY (gh : gGh) (AI AI' : gI) : Prop := ∀ b, b ≠ gh 56 0 → b ≠ gh 57 0 → b ≠ gh 75 0 → b ≠ gh 77 0 → b ≠ gh 78 0 → b ≠ gh 79 0 → b ≠ gh 80 0 → b ≠ gh 81 0 → AI' b = AI b
theorem noY_z (h : noZ gh AI AI') (q : ∀ b, b ≠ gh 81 0 → AI2 b = AI' b) : noY gh AI AI2 := fun b h1 h2 h3 h4 h5 h6 h7 h8 => (q b h8).trans (h b h1 h2 h3 h4 h5 h6 h7)
def bkU (gh : gGh) (A1 B : gI) (u u' : Int) : Prop := (u < 8 ∧ u' = u ∧ B = A1) ∨ (u = 8 ∧ u' = 7 ∧ bkI gh A1 B 8)
theorem cm_all (hk : sdK gh AI A1) (hb : bkU gh A1 B0 u u') (h0 : 0 ≤ u) (q1 : cpP gh 0 (1 + u') B0 B1) (q2 : cpP gh 0 9 B1 B2) (q3 : cpP gh 10 0 B2 B3) : cmM gh AI A1 B3 u (u' + 1) := by
  rcases hb with ⟨a, b, e⟩ | ⟨a, b, e⟩
  · subst b; subst e; exact cm_a ⟨h0, a⟩ hk q1 q2 q3
  · subst a; subst b; exact cm_b hk e q1 q2 q3
theorem cmM_g (h : cmM gh AI A1 AI' u u') (h56 : AI2 (gh 56 0) = AI' (gh 56 0)) (h57 : AI2 (gh 57 0) = AI' (gh 57 0)) (h79 : AI2 (gh 79 0) = AI' (gh 79 0)) : cmM gh AI A1 AI2 u u' := by
  have e : ∀ sd, rsM gh AI2 sd = rsM gh AI' sd := fun sd => rsM_g h56 h57 h79
  refine ⟨fun r hr => by rw [e]; exact h.1 r hr, fun r hr => by rw [e]; exact h.2.1 r hr, ?_⟩
  rcases h.2.2 with ⟨a, b, c, d⟩ | ⟨a, b, c, d⟩
  · exact Or.inl ⟨a, b, fun j h1 h2 r hr => by rw [e]; exact c j h1 h2 r hr, fun r hr => by rw [e]; exact d r hr⟩
  · exact Or.inr ⟨a, b, fun j h1 h2 r hr => by rw [e]; exact c j h1 h2 r hr, fun r hr => by rw [e]; exact d r hr⟩
theorem noZ_bu (h : noZ gh AI A1) (hb : bkU gh A1 B0 u u') : noZ gh AI B0 := by
  rcases hb with ⟨_, _, e⟩ | ⟨_, _, e⟩
  · rw [e]; exact h
  · exact noZ_bk h e
theorem smL_s (h0 : 0 ≤ tbs) (hk : tbs ≤ k) (e : n = smL f tbs.toNat (k - tbs).toNat) : n + f k.toNat = smL f tbs.toNat (k + 1 - tbs).toNat := by
  rw [show (k + 1 - tbs).toNat = (k - tbs).toNat + 1 by omega, smL, e, show tbs.toNat + (k - tbs).toNat = k.toNat by omega]
end Cmm2
