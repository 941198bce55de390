/-! column: both answer alike -/
section Anc
variable {g : gG} {I AI I1 AI1 : gI} {R R1 AR : gR} {pA bA nA nr : Nat} {tbs rel v1 v2 col wh th : Int} {cc : Nat → LC} {cl : Nat → Int} {lw : Int64}
theorem an_column (hv0 : gInv (gW g (I, AI)) (ghF 0 (hG (gZ g))) R1 AR I1 AI1) (hP : lP8 g I AR AI pA nr tbs cc cl) (hQ : lQ8 g I AR AI bA nA nr tbs cc cl)
    (c : (v1 = 0 ∧ ∃ v9 : Int, (clX nr (rfC (hG (gZ g)) AR I AI bA rel.toNat).1 ((cc rel.toNat).1 1) rel col wh ∧ clP (rfC (hG (gZ g)) AR I AI bA rel.toNat).2 (rfC (hG (gZ g)) AR I AI bA rel.toNat).1 col wh v9) ∧ zr v9 ∧ lw = (iI v9).toInt64) ∨ (v1 = 1 ∧ ¬ clX nr (rfC (hG (gZ g)) AR I AI bA rel.toNat).1 ((cc rel.toNat).1 1) rel col wh))
    (m : (th = 1 ∧ v2 = 0 ∧ ¬ clM (AI1 (hGm (gZ g) 50 0)) nr (rfM (hGm (gZ g)) AI1 0 rel.toNat).1 rel col wh) ∨ (th = 0 ∧ clM (AI1 (hGm (gZ g) 50 0)) nr (rfM (hGm (gZ g)) AI1 0 rel.toNat).1 rel col wh ∧ clP (rfM (hGm (gZ g)) AI1 0 rel.toNat).2 (rfM (hGm (gZ g)) AI1 0 rel.toNat).1 col wh v2)) : v1 = th ∧ (v1 = 0 → lw = (iI v2).toInt64) := by
  rw [e_rf hv0] at m
  by_cases hr : 0 ≤ rel ∧ rel < (nr : Int)
  · have k := m_kd hv0 hP hr
    have w := hQ.1.2.1 rel.toNat (by omega)
    have w1 : (rfC (hG (gZ g)) AR I AI bA rel.toNat).1 = (rfM (hGm (gZ g)) AI 0 rel.toNat).1 := w.1
    have c4 := (hP.2.2.2.2.2 rel.toNat (by omega)).2
    have e : clM (AI1 (hGm (gZ g) 50 0)) nr (rfM (hGm (gZ g)) AI 0 rel.toNat).1 rel col wh ↔ clX nr (rfC (hG (gZ g)) AR I AI bA rel.toNat).1 ((cc rel.toNat).1 1) rel col wh := by
      unfold clM clX
      rw [k.2.1, w1]
    rw [e] at m
    rcases c with ⟨a1, v9, ⟨a2, a3⟩, a4, a5⟩ | ⟨a1, a2⟩
    · rcases m with ⟨b1, b2, b3⟩ | ⟨b1, b2, b3⟩
      · exact absurd a2 b3
      · refine ⟨by omega, fun _ => ?_⟩
        have u := clP_u (f := (rfC (hG (gZ g)) AR I AI bA rel.toNat).2) (h := (rfM (hGm (gZ g)) AI 0 rel.toNat).2) ⟨w1, w.2⟩ (by have := a2.2.1; omega) a3 b3
        rw [a5, u]
    · rcases m with ⟨b1, b2, b3⟩ | ⟨b1, b2, b3⟩
      · exact ⟨by omega, fun h => absurd h (by omega)⟩
      · exact absurd b2 a2
  · rcases c with ⟨_, _, ⟨a2, _⟩, _⟩ | ⟨a1, _⟩
    · exact absurd a2.1 hr
    · rcases m with ⟨b1, _⟩ | ⟨_, b2, _⟩
      · exact ⟨by omega, fun h => absurd h (by omega)⟩
      · exact absurd b2.1 hr
end Anc
