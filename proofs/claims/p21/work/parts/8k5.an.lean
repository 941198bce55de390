section
/-! both answer alike -/
section An8
variable {g : gG} {I AI I1 AI1 : gI} {R R1 AR : gR} {pA bA nA nr : Nat} {tbs rel v1 v2 : Int} {cc : Nat → LC} {cl : Nat → Int} {f f' : Nat → Int32} {n n' : Nat} {t : Tup}
theorem an_size (hv0 : gInv (gW g (I, AI)) (ghF 0 (hG (gZ g))) R1 AR I1 AI1) (hQ : lQ8 g I AR AI bA nA nr tbs cc cl) (c : ((rel < 0 ∨ (nr : Int) ≤ rel) ∧ v1 = -1) ∨ ((0 ≤ rel ∧ rel < (nr : Int)) ∧ v1 = (((rfC (hG (gZ g)) AR I AI bA rel.toNat).1 : Nat) : Int)))
    (m : ((rel < 0 ∨ (nr : Int) ≤ rel) ∧ v2 = -1) ∨ ((0 ≤ rel ∧ rel < (nr : Int)) ∧ v2 = (((rfM (hGm (gZ g)) AI1 0 rel.toNat).1 : Nat) : Int))) : v1 = v2 := by
  rcases c with ⟨a1, a2⟩ | ⟨a1, a2⟩
  · rcases m with ⟨b1, b2⟩ | ⟨b1, b2⟩
    · omega
    · exfalso; omega
  · rcases m with ⟨b1, b2⟩ | ⟨b1, b2⟩
    · exfalso; omega
    · rw [a2, b2, e_rf hv0, (hQ.1.2.1 rel.toNat (by omega)).1]; rfl
theorem m_mv (hv0 : gInv (gW g (I, AI)) (ghF 0 (hG (gZ g))) R1 AR I1 AI1) (hQ : lQ8 g I AR AI bA nA nr tbs cc cl) {r : Nat} (hr : r < nr) : bgN (mvF (hGm (gZ g)) AI1 r) = (rfC (hG (gZ g)) AR I AI (hG (gZ g) 35 0) r).1 := by
  have e : mvF (hGm (gZ g)) AI1 r = mv8 (rsM (hGm (gZ g)) AI 0) (rsM (hGm (gZ g)) AI 9) r := by unfold mvF; rw [e_rf hv0]; rfl
  rw [e]; exact bgN_e (hQ.2.2.1 r hr).1
theorem an_moved (hv0 : gInv (gW g (I, AI)) (ghF 0 (hG (gZ g))) R1 AR I1 AI1) (hQ : lQ8 g I AR AI bA nA nr tbs cc cl) (c : ((rel < 0 ∨ (nr : Int) ≤ rel) ∧ v1 = -1) ∨ ((0 ≤ rel ∧ rel < (nr : Int)) ∧ v1 = (((rfC (hG (gZ g)) AR I AI (hG (gZ g) 35 0) rel.toNat).1 : Nat) : Int)))
    (m : ((rel < 0 ∨ (nr : Int) ≤ rel) ∧ v2 = -1) ∨ ((0 ≤ rel ∧ rel < (nr : Int)) ∧ v2 = ((bgN (mvF (hGm (gZ g)) AI1 rel.toNat) : Nat) : Int))) : v1 = v2 := by
  rcases c with ⟨a1, a2⟩ | ⟨a1, a2⟩
  · rcases m with ⟨b1, b2⟩ | ⟨b1, b2⟩
    · omega
    · exfalso; omega
  · rcases m with ⟨b1, b2⟩ | ⟨b1, b2⟩
    · exfalso; omega
    · rw [a2, b2, m_mv hv0 hQ (by omega)]
/-- the kind of a relation, as the reference's row tells it -/
theorem m_kd (hv0 : gInv (gW g (I, AI)) (ghF 0 (hG (gZ g))) R1 AR I1 AI1) (hP : lP8 g I AR AI pA nr tbs cc cl) (hr : 0 ≤ rel ∧ rel < (nr : Int)) : tI (AI1 (hGm (gZ g) 50 0)) (40 * rel) = (cc rel.toNat).1 0 ∧ tI (AI1 (hGm (gZ g) 50 0)) (40 * rel + 1) = (cc rel.toNat).1 1 ∧ (rel < tbs → (cc rel.toNat).1 0 = 0) ∧ (tbs ≤ rel → 1 ≤ (cc rel.toNat).1 0) := by
  have e : AI1 (hGm (gZ g) 50 0) = AI (gZ g + 206) := e_t5 hv0 (o := 206) (by decide +kernel)
  have er : ((rel.toNat : Nat) : Int) = rel := Int.toNat_of_nonneg hr.1
  have w := hP.2.2.2.2.2 rel.toNat (by omega)
  rw [er] at w
  rw [e]
  refine ⟨w.2.2.2, w.1.trans w.2.2.1.symm, fun h => ?_, fun h => ?_⟩
  · rw [← w.2.2.2]; exact hP.2.2.2.2.1.2.2.1 rel hr.1 h
  · exact (e_hcK hP rel.toNat (by omega) (by omega)).1.1.1
theorem an_came (hv0 : gInv (gW g (I, AI)) (ghF 0 (hG (gZ g))) R1 AR I1 AI1) (hP : lP8 g I AR AI pA nr tbs cc cl) (hQ : lQ8 g I AR AI bA nA nr tbs cc cl)
    (c : (((rel < 0 ∨ (nr : Int) ≤ rel) ∨ rel < tbs) ∧ v1 = -1) ∨ ((0 ≤ rel ∧ rel < (nr : Int)) ∧ tbs ≤ rel ∧ v1 = (if (cc rel.toNat).1 2 = -1 then (0 : Int) else (((rfC (hG (gZ g)) AR I AI (hG (gZ g) 35 0) ((cc rel.toNat).1 2).toNat).1 : Nat) : Int)) + (if (cc rel.toNat).1 3 = -1 then 0 else (((rfC (hG (gZ g)) AR I AI (hG (gZ g) 35 0) ((cc rel.toNat).1 3).toNat).1 : Nat) : Int))))
    (m : (((rel < 0 ∨ (nr : Int) ≤ rel) ∨ tI (AI1 (hGm (gZ g) 50 0)) (40 * rel) = 0) ∧ v2 = -1) ∨ (((0 ≤ rel ∧ rel < (nr : Int)) ∧ tI (AI1 (hGm (gZ g) 50 0)) (40 * rel) ≠ 0) ∧ v2 = ((bgN (mvF (hGm (gZ g)) AI1 ((cc rel.toNat).1 2).toNat) : Nat) : Int) + (if (cc rel.toNat).1 3 < 0 then 0 else ((bgN (mvF (hGm (gZ g)) AI1 ((cc rel.toNat).1 3).toNat) : Nat) : Int)))) : v1 = v2 := by
  by_cases hr : 0 ≤ rel ∧ rel < (nr : Int)
  · have k := m_kd hv0 hP hr
    by_cases ht : rel < tbs
    · have k0 := k.2.2.1 ht
      rcases c with ⟨_, a2⟩ | ⟨_, a2, _⟩
      · rcases m with ⟨_, b2⟩ | ⟨⟨_, b1⟩, _⟩
        · omega
        · exact absurd (k.1.trans k0) b1
      · exfalso; omega
    · have k0 := k.2.2.2 (by omega)
      rcases c with ⟨a1, _⟩ | ⟨_, _, a2⟩
      · exfalso; omega
      · rcases m with ⟨b1, _⟩ | ⟨_, b2⟩
        · rcases b1 with b1 | b1
          · exfalso; omega
          · rw [k.1] at b1; exfalso; omega
        · have o := (e_hcK hP rel.toNat (by omega) (by omega)).1.1
          rw [a2, b2, if_neg (by omega), m_mv hv0 hQ (by omega)]
          by_cases q : (cc rel.toNat).1 3 = -1
          · rw [if_pos q, if_pos (by omega)]
          · rw [if_neg q, if_neg (by omega), m_mv hv0 hQ (by omega)]
  · rcases c with ⟨_, a2⟩ | ⟨a1, _⟩
    · rcases m with ⟨_, b2⟩ | ⟨⟨b1, _⟩, _⟩
      · omega
      · exact absurd b1 hr
    · exact absurd a1 hr
theorem mk_u (hs : okB f n) (e : n = n' ∧ rwA f f' n) (a : mkR f n t v1) (b : mkR f' n' t v2) : v1 = v2 := by
  obtain ⟨rfl, e⟩ := e
  have tu : ∀ i, i < n → tup f i = tup f' i := fun i hi => rwS_t (e i hi)
  rcases a with ⟨i, a1, a2, a3⟩ | ⟨a1, a2⟩
  · rcases b with ⟨j, b1, b2, b3⟩ | ⟨b1, b2⟩
    · have ij : i = j := srtB_ne hs.1 a1 b1 (a2.trans (b2.symm.trans (tu j b1).symm))
      subst ij
      rw [a3, b3, e i a1 5 (by decide)]
    · exact absurd ((tu i a1).symm.trans a2) (b1 i a1)
  · rcases b with ⟨j, b1, b2, b3⟩ | ⟨b1, b2⟩
    · exact absurd ((tu j b1).trans b2) (a1 j b1)
    · omega
theorem an_round (hv0 : gInv (gW g (I, AI)) (ghF 0 (hG (gZ g))) R1 AR I1 AI1) (hP : lP8 g I AR AI pA nr tbs cc cl) (hQ : lQ8 g I AR AI bA nA nr tbs cc cl) {a b c' d : Int}
    (c : (¬ ((0 ≤ rel ∧ rel < (nr : Int)) ∧ (cc rel.toNat).1 0 = 8) ∧ v1 = -1) ∨ (((0 ≤ rel ∧ rel < (nr : Int)) ∧ (cc rel.toNat).1 0 = 8) ∧ mkR (rfC (hG (gZ g)) AR I AI bA rel.toNat).2 (rfC (hG (gZ g)) AR I AI bA rel.toNat).1 (kyT ((cc rel.toNat).1 1) a b c' d) v1))
    (m : (((rel < 0 ∨ (nr : Int) ≤ rel) ∨ tI (AI1 (hGm (gZ g) 50 0)) (40 * rel) ≠ 8) ∧ v2 = -1) ∨ (((0 ≤ rel ∧ rel < (nr : Int)) ∧ tI (AI1 (hGm (gZ g) 50 0)) (40 * rel) = 8) ∧ mkR (rfM (hGm (gZ g)) AI1 0 rel.toNat).2 (rfM (hGm (gZ g)) AI1 0 rel.toNat).1 (kyT (tI (AI1 (hGm (gZ g) 50 0)) (40 * rel + 1)) a b c' d) v2)) : v1 = v2 := by
  by_cases hr : 0 ≤ rel ∧ rel < (nr : Int)
  · have k := m_kd hv0 hP hr
    rw [k.1, k.2.1, e_rf hv0] at m
    rcases c with ⟨a1, a2⟩ | ⟨a1, a2⟩
    · rcases m with ⟨_, b2⟩ | ⟨b1, _⟩
      · omega
      · exact absurd b1 a1
    · rcases m with ⟨b1, _⟩ | ⟨_, b2⟩
      · exfalso; omega
      · exact mk_u (e_bgC hQ rel.toNat (by omega)).1 (hQ.1.2.1 rel.toNat (by omega)) a2 b2
  · rcases c with ⟨_, a2⟩ | ⟨a1, _⟩
    · rcases m with ⟨_, b2⟩ | ⟨b1, _⟩
      · omega
      · exact absurd b1.1 hr
    · exact absurd a1.1 hr
theorem an_rounds (hv0 : gInv (gW g (I, AI)) (ghF 0 (hG (gZ g))) R1 AR I1 AI1) (hP : lP8 g I AR AI pA nr tbs cc cl) (hQ : lQ8 g I AR AI bA nA nr tbs cc cl)
    (c : (¬ ((0 ≤ rel ∧ rel < (nr : Int)) ∧ (cc rel.toNat).1 0 = 8) ∧ v1 = -1) ∨ (((0 ≤ rel ∧ rel < (nr : Int)) ∧ (cc rel.toNat).1 0 = 8) ∧ rdX (rfC (hG (gZ g)) AR I AI bA rel.toNat).2 (rfC (hG (gZ g)) AR I AI bA rel.toNat).1 v1))
    (m : (((rel < 0 ∨ (nr : Int) ≤ rel) ∨ tI (AI1 (hGm (gZ g) 50 0)) (40 * rel) ≠ 8) ∧ v2 = -1) ∨ (((0 ≤ rel ∧ rel < (nr : Int)) ∧ tI (AI1 (hGm (gZ g) 50 0)) (40 * rel) = 8) ∧ v2 = (AI1 (hGm (gZ g) 79 0) rel.toNat).toInt)) : v1 = v2 := by
  by_cases hr : 0 ≤ rel ∧ rel < (nr : Int)
  · have k := m_kd hv0 hP hr
    rw [k.1] at m
    rcases c with ⟨a1, a2⟩ | ⟨a1, a2⟩
    · rcases m with ⟨_, b2⟩ | ⟨b1, _⟩
      · omega
      · exact absurd b1 a1
    · rcases m with ⟨b1, _⟩ | ⟨_, b2⟩
      · exfalso; omega
      · have ht : tbs ≤ rel := by
          by_cases q : rel < tbs
          · have := k.2.2.1 q; omega
          · omega
        obtain ⟨R9, r1, r2⟩ := (e_gd hQ).2 rel.toNat (by omega) (by omega) a1.2
        have w := hQ.1.2.1 rel.toNat (by omega)
        have e79 : AI1 (hGm (gZ g) 79 0) = AI (hGm (gZ g) 79 0) := e_t5 hv0 (o := 219) (by decide +kernel)
        have rx : rdX (sF8 (rsM (hGm (gZ g)) AI 0) rel.toNat).2 (sF8 (rsM (hGm (gZ g)) AI 0) rel.toNat).1 v1 := by
          rw [← w.1]
          refine ⟨a2.1, fun q hq => ?_, a2.2.2.imp id (fun ⟨q, h1, h2⟩ => ⟨q, h1, ?_⟩)⟩
          · rw [← w.2 q hq 5 (by decide)]; exact a2.2.1 q hq
          · rw [← w.2 q h1 5 (by decide)]; exact h2
        have e1 := rg_R r1 rx
        have r9 := r1.1
        have r2' : AI (hGm (gZ g) 79 0) (16 * 0 + ((rel.toNat : Nat) : Int)).toNat = iI (R9 : Int) := r2
        rw [show (16 * 0 + ((rel.toNat : Nat) : Int)).toNat = rel.toNat by omega] at r2'
        rw [b2, e79, r2', iI_val ⟨by omega, by omega⟩]
        exact e1
  · rcases c with ⟨_, a2⟩ | ⟨a1, _⟩
    · rcases m with ⟨_, b2⟩ | ⟨b1, _⟩
      · omega
      · exact absurd b1.1 hr
    · exact absurd a1.1 hr
theorem an_differs (hP : lP8 g I AR AI pA nr tbs cc cl) (hQ : lQ8 g I AR AI bA nA nr tbs cc cl) {A2 A1 : gI}
    (c : ((rel < 0 ∨ (nr : Int) ≤ rel) ∧ v1 = -1) ∨ ((0 ≤ rel ∧ rel < (nr : Int)) ∧ ∃ Fn : RF, rnP tbs nr cc (∃ i, i < 0 ∧ blw f (rfC (hG (gZ g)) AR I AI bA) 1 i) (tbS f 0 (rfC (hG (gZ g)) AR I AI bA) 1) 0 Fn ∧ ∃ (f9 : Nat → Int32) (k : Nat), isB f9 k (fun t => bS (Fn rel.toNat).2 (Fn rel.toNat).1 t + iI (-1) * bS (rfC (hG (gZ g)) AR I AI bA rel.toNat).2 (rfC (hG (gZ g)) AR I AI bA rel.toNat).1 t) zM ∧ v1 = (k : Int)))
    (m : ((rel < 0 ∨ (nr : Int) ≤ rel) ∧ v2 = -1 ∧ A2 = A1) ∨ ((0 ≤ rel ∧ rel < (nr : Int)) ∧ v2 = 0 ∧ sdK (hGm (gZ g)) A1 A2 ∧ noZ (hGm (gZ g)) A1 A2)) : v1 = v2 := by
  rcases c with ⟨a1, a2⟩ | ⟨a1, Fn, a2, f9, k, a3, a4⟩
  · rcases m with ⟨b1, b2, _⟩ | ⟨b1, _⟩
    · omega
    · exfalso; omega
  · rcases m with ⟨b1, _⟩ | ⟨b1, b2, _⟩
    · exfalso; omega
    · have w := (rnP_u (e_cLt hP) a2 (eS_df hP.2.2.1.2.1 hQ.1)).2 rfl rel.toNat (by omega)
      have k0 := df_k w (hQ.1.2.1 rel.toNat (by omega)) a3
      omega
theorem iI_u (h1 : zr v1) (h2 : zr v2) (e : iI v1 = iI v2) : v1 = v2 := by
  have w := congrArg Int32.toInt e
  rw [iI_val h1, iI_val h2] at w; exact w
theorem an_told (hOK : gOK g) (hv : gInv (gW g (I, AI)) (ghF 0 (hG (gZ g))) R AR I AI) (hx : xS (gW g (I, AI)) (hG (gZ g)) R AR (gZ g + 0) pA bA nA) (hv0 : gInv (gW g (I, AI)) (ghF 0 (hG (gZ g))) R1 AR I1 AI1) (hP : lP8 g I AR AI pA nr tbs cc cl) (hQ : lQ8 g I AR AI bA nA nr tbs cc cl) (hb : (I (gZ g + 179) 3).toInt = (I (gZ g + 205) 14).toInt) (hl : (I (gZ g + 0) 1).toInt = (I (gZ g + 205) 16).toInt) {wh : Int} (z1 : zr v1) (z2 : zr v2)
    (c : (wh = 0 ∧ v1 = tbs) ∨ (wh = 1 ∧ v1 = (nr : Int) - tbs) ∨ (wh = 2 ∧ iI v1 = I (gZ g + 0) 16) ∨ (wh = 3 ∧ iI v1 = I (gZ g + 0) 17) ∨ (wh = 4 ∧ v1 = (I (gZ g + 0) 15).toInt) ∨ (wh = 5 ∧ v1 = (I (gZ g + 179) 3).toInt) ∨ (wh = 6 ∧ v1 = smL (fun r : Nat => (((rfC (hG (gZ g)) AR I AI bA r).1 : Nat) : Int)) tbs.toNat (nr - tbs.toNat)) ∨ (wh = 7 ∧ v1 = smL (lnR AR I (hG (gZ g) 35 0)) tbs.toNat (nr - tbs.toNat)) ∨
      (wh = 8 ∧ v1 = smL (fun r : Nat => (if (cc r).1 2 = -1 then (0 : Int) else (((rfC (hG (gZ g)) AR I AI (hG (gZ g) 35 0) ((cc r).1 2).toNat).1 : Nat) : Int)) + (if (cc r).1 3 = -1 then 0 else (((rfC (hG (gZ g)) AR I AI (hG (gZ g) 35 0) ((cc r).1 3).toNat).1 : Nat) : Int))) tbs.toNat (nr - tbs.toNat)) ∨ (wh = 9 ∧ v1 = (I (gZ g + 0) 1).toInt) ∨ ((wh < 0 ∨ 9 < wh) ∧ v1 = -1))
    (m : (wh = 0 ∧ v2 = tbs) ∨ (wh = 1 ∧ v2 = (nr : Int) - tbs) ∨ (wh = 2 ∧ iI v2 = I1 (gZ g + 205) 9) ∨ (wh = 3 ∧ iI v2 = I1 (gZ g + 205) 10) ∨ (wh = 4 ∧ v2 = (I1 (gZ g + 205) 8).toInt) ∨ (wh = 5 ∧ v2 = (I1 (gZ g + 205) 14).toInt) ∨ (wh = 6 ∧ v2 = smL (fun r => (((rfM (hGm (gZ g)) AI1 0 r).1 : Nat) : Int)) tbs.toNat (nr - tbs.toNat)) ∨ (wh = 7 ∧ v2 = smL (fun r => ((bgN (mvF (hGm (gZ g)) AI1 r) : Nat) : Int)) tbs.toNat (nr - tbs.toNat)) ∨
      (wh = 8 ∧ v2 = smL (ctF (hGm (gZ g)) AI1 cc) tbs.toNat (nr - tbs.toNat)) ∨ (wh = 9 ∧ v2 = (I1 (gZ g + 205) 16).toInt) ∨ ((wh < 0 ∨ 9 < wh) ∧ v2 = -1)) : v1 = v2 := by
  have emo : I1 (gZ g + 205) = I (gZ g + 205) := e_mo hOK hv0
  rw [emo] at m
  have m0 := hQ.2.1
  have nb := hP.2.2.1
  rcases c with ⟨w, c⟩ | ⟨w, c⟩ | ⟨w, c⟩ | ⟨w, c⟩ | ⟨w, c⟩ | ⟨w, c⟩ | ⟨w, c⟩ | ⟨w, c⟩ | ⟨w, c⟩ | ⟨w, c⟩ | ⟨w, c⟩
  · have m := m.resolve_right (fun h => by rcases h with h | h | h | h | h | h | h | h | h | h <;> (have := h.1; omega)); omega
  · have m := (m.resolve_left (fun h => by have := h.1; omega)).resolve_right (fun h => by rcases h with h | h | h | h | h | h | h | h | h <;> (have := h.1; omega)); omega
  · have m := ((m.resolve_left (fun h => by have := h.1; omega)).resolve_left (fun h => by have := h.1; omega)).resolve_right (fun h => by rcases h with h | h | h | h | h | h | h | h <;> (have := h.1; omega))
    exact iI_u z1 z2 (by rw [c, m.2]; exact m0.2.1)
  · have m := (((m.resolve_left (fun h => by have := h.1; omega)).resolve_left (fun h => by have := h.1; omega)).resolve_left (fun h => by have := h.1; omega)).resolve_right (fun h => by rcases h with h | h | h | h | h | h | h <;> (have := h.1; omega))
    exact iI_u z1 z2 (by rw [c, m.2]; exact m0.2.2)
  · have m := ((((m.resolve_left (fun h => by have := h.1; omega)).resolve_left (fun h => by have := h.1; omega)).resolve_left (fun h => by have := h.1; omega)).resolve_left (fun h => by have := h.1; omega)).resolve_right (fun h => by rcases h with h | h | h | h | h | h <;> (have := h.1; omega))
    omega
  · have m := (((((m.resolve_left (fun h => by have := h.1; omega)).resolve_left (fun h => by have := h.1; omega)).resolve_left (fun h => by have := h.1; omega)).resolve_left (fun h => by have := h.1; omega)).resolve_left (fun h => by have := h.1; omega)).resolve_right (fun h => by rcases h with h | h | h | h | h <;> (have := h.1; omega))
    omega
  · have m := ((((((m.resolve_left (fun h => by have := h.1; omega)).resolve_left (fun h => by have := h.1; omega)).resolve_left (fun h => by have := h.1; omega)).resolve_left (fun h => by have := h.1; omega)).resolve_left (fun h => by have := h.1; omega)).resolve_left (fun h => by have := h.1; omega)).resolve_right (fun h => by rcases h with h | h | h | h <;> (have := h.1; omega))
    rw [c, m.2]
    refine smL_c _ (fun r h1 h2 => ?_)
    have e1 : (rfC (hG (gZ g)) AR I AI bA r).1 = (rfM (hGm (gZ g)) AI 0 r).1 := (hQ.1.2.1 r (by omega)).1
    show (((rfC (hG (gZ g)) AR I AI bA r).1 : Nat) : Int) = (((rfM (hGm (gZ g)) AI1 0 r).1 : Nat) : Int)
    rw [e_rf hv0, e1]
  · have m := (((((((m.resolve_left (fun h => by have := h.1; omega)).resolve_left (fun h => by have := h.1; omega)).resolve_left (fun h => by have := h.1; omega)).resolve_left (fun h => by have := h.1; omega)).resolve_left (fun h => by have := h.1; omega)).resolve_left (fun h => by have := h.1; omega)).resolve_left (fun h => by have := h.1; omega)).resolve_right (fun h => by rcases h with h | h | h <;> (have := h.1; omega))
    rw [c, m.2]
    refine smL_c _ (fun r h1 h2 => ?_)
    show lnR AR I (hG (gZ g) 35 0) r = ((bgN (mvF (hGm (gZ g)) AI1 r) : Nat) : Int)
    rw [m_mv hv0 hQ (by omega)]
    have z := e_len hv (isRA_o (e_35 hv hx.1) (show r < 16 by omega)).2.1
    show (I (rob AR (hG (gZ g) 35 0) r) 3).toInt = (((I (rob AR (hG (gZ g) 35 0) r) 3).toInt.toNat : Nat) : Int)
    omega
  · have m := ((((((((m.resolve_left (fun h => by have := h.1; omega)).resolve_left (fun h => by have := h.1; omega)).resolve_left (fun h => by have := h.1; omega)).resolve_left (fun h => by have := h.1; omega)).resolve_left (fun h => by have := h.1; omega)).resolve_left (fun h => by have := h.1; omega)).resolve_left (fun h => by have := h.1; omega)).resolve_left (fun h => by have := h.1; omega)).resolve_right (fun h => by rcases h with h | h <;> (have := h.1; omega))
    rw [c, m.2]
    refine smL_c _ (fun r h1 h2 => ?_)
    have o := (e_hcK hP r (by omega) (by omega)).1.1
    unfold ctF
    rw [if_neg (by omega), m_mv hv0 hQ (by omega)]
    by_cases q : (cc r).1 3 = -1
    · rw [if_pos q, if_pos (by omega)]
    · rw [if_neg q, if_neg (by omega), m_mv hv0 hQ (by omega)]
  · have m := (((((((((m.resolve_left (fun h => by have := h.1; omega)).resolve_left (fun h => by have := h.1; omega)).resolve_left (fun h => by have := h.1; omega)).resolve_left (fun h => by have := h.1; omega)).resolve_left (fun h => by have := h.1; omega)).resolve_left (fun h => by have := h.1; omega)).resolve_left (fun h => by have := h.1; omega)).resolve_left (fun h => by have := h.1; omega)).resolve_left (fun h => by have := h.1; omega)).resolve_right (fun h => by have := h.1; omega)
    omega
  · rcases m with m | m | m | m | m | m | m | m | m | m | m
    all_goals first | (have := m.1; omega) | skip
    all_goals omega
/-! answers that may be exceptions: v1 the class's (1: thrown), th the reference's; lw the class's value -/
theorem an_at (hv0 : gInv (gW g (I, AI)) (ghF 0 (hG (gZ g))) R1 AR I1 AI1) (hP : lP8 g I AR AI pA nr tbs cc cl) (hQ : lQ8 g I AR AI bA nA nr tbs cc cl) {row pl th : Int} {lw : Int64}
    (c : (v1 = 0 ∧ ∃ v9 : Int, (((0 ≤ rel ∧ rel < (nr : Int)) ∧ (pl = 4 ∨ (0 ≤ pl ∧ pl < (cc rel.toNat).1 1)) ∧ 0 ≤ row ∧ row < (((rfC (hG (gZ g)) AR I AI bA rel.toNat).1 : Nat) : Int)) ∧ v9 = ((rfC (hG (gZ g)) AR I AI bA rel.toNat).2 (6 * row.toNat + pl.toNat)).toInt) ∧ zr v9 ∧ lw = (iI v9).toInt64) ∨ (v1 = 1 ∧ ¬ ((0 ≤ rel ∧ rel < (nr : Int)) ∧ (pl = 4 ∨ (0 ≤ pl ∧ pl < (cc rel.toNat).1 1)) ∧ 0 ≤ row ∧ row < (((rfC (hG (gZ g)) AR I AI bA rel.toNat).1 : Nat) : Int))))
    (m : (th = 1 ∧ v2 = 0 ∧ ¬ (tdM (AI1 (hGm (gZ g) 50 0)) nr rel pl ∧ 0 ≤ row ∧ row < (((rfM (hGm (gZ g)) AI1 0 rel.toNat).1 : Nat) : Int))) ∨ (th = 0 ∧ (tdM (AI1 (hGm (gZ g) 50 0)) nr rel pl ∧ 0 ≤ row ∧ row < (((rfM (hGm (gZ g)) AI1 0 rel.toNat).1 : Nat) : Int)) ∧ v2 = ((rfM (hGm (gZ g)) AI1 0 rel.toNat).2 (6 * row.toNat + pl.toNat)).toInt)) : v1 = th ∧ (v1 = 0 → lw = (iI v2).toInt64) := by
  rw [e_rf hv0] at m
  by_cases hr : 0 ≤ rel ∧ rel < (nr : Int)
  · have k := m_kd hv0 hP hr
    have w := hQ.1.2.1 rel.toNat (by omega)
    have w1 : (rfC (hG (gZ g)) AR I AI bA rel.toNat).1 = (rfM (hGm (gZ g)) AI 0 rel.toNat).1 := w.1
    have c4 := (hP.2.2.2.2.2 rel.toNat (by omega)).2
    unfold tdM at m
    rw [k.2.1, ← w1] at m
    rcases c with ⟨a1, v9, ⟨a2, a3⟩, a4, a5⟩ | ⟨a1, a2⟩
    · rcases m with ⟨b1, b2, b3⟩ | ⟨b1, b2, b3⟩
      · exact absurd ⟨⟨a2.1, a2.2.1⟩, a2.2.2⟩ b3
      · have e := rwA_at w.2 (show 6 * row.toNat + pl.toNat < 6 * _ by have := a2.2.1; have := a2.2.2; omega)
        refine ⟨by omega, fun _ => ?_⟩
        rw [a5, a3, b3, e]; rfl
    · rcases m with ⟨b1, b2, b3⟩ | ⟨b1, b2, b3⟩
      · exact ⟨by omega, fun h => absurd h (by omega)⟩
      · exact absurd ⟨b2.1.1, b2.1.2, b2.2⟩ a2
  · rcases c with ⟨_, _, ⟨a2, _⟩, _⟩ | ⟨a1, _⟩
    · exact absurd a2.1 hr
    · rcases m with ⟨b1, _⟩ | ⟨_, b2, _⟩
      · exact ⟨by omega, fun h => absurd h (by omega)⟩
      · exact absurd b2.1.1 hr
theorem an_movedAt (hv0 : gInv (gW g (I, AI)) (ghF 0 (hG (gZ g))) R1 AR I1 AI1) (hP : lP8 g I AR AI pA nr tbs cc cl) (hQ : lQ8 g I AR AI bA nA nr tbs cc cl) {row pl th : Int} {lw : Int64}
    (c : (v1 = 0 ∧ ∃ v9 : Int, (((0 ≤ rel ∧ rel < (nr : Int)) ∧ (pl = 4 ∨ (0 ≤ pl ∧ pl < (cc rel.toNat).1 1)) ∧ 0 ≤ row ∧ row < (((rfC (hG (gZ g)) AR I AI (hG (gZ g) 35 0) rel.toNat).1 : Nat) : Int)) ∧ v9 = ((rfC (hG (gZ g)) AR I AI (hG (gZ g) 35 0) rel.toNat).2 (6 * row.toNat + pl.toNat)).toInt) ∧ zr v9 ∧ lw = (iI v9).toInt64) ∨ (v1 = 1 ∧ ¬ ((0 ≤ rel ∧ rel < (nr : Int)) ∧ (pl = 4 ∨ (0 ≤ pl ∧ pl < (cc rel.toNat).1 1)) ∧ 0 ≤ row ∧ row < (((rfC (hG (gZ g)) AR I AI (hG (gZ g) 35 0) rel.toNat).1 : Nat) : Int))))
    (m : (th = 1 ∧ v2 = 0 ∧ ¬ (tdM (AI1 (hGm (gZ g) 50 0)) nr rel pl ∧ 0 ≤ row ∧ row < ((bgN (mvF (hGm (gZ g)) AI1 rel.toNat) : Nat) : Int))) ∨ (th = 0 ∧ (tdM (AI1 (hGm (gZ g) 50 0)) nr rel pl ∧ 0 ≤ row ∧ row < ((bgN (mvF (hGm (gZ g)) AI1 rel.toNat) : Nat) : Int)) ∧ ∃ f : Nat → Int32, isB f (bgN (mvF (hGm (gZ g)) AI1 rel.toNat)) (mvF (hGm (gZ g)) AI1 rel.toNat) zM ∧ v2 = (f (6 * row.toNat + pl.toNat)).toInt)) : v1 = th ∧ (v1 = 0 → lw = (iI v2).toInt64) := by
  by_cases hr : 0 ≤ rel ∧ rel < (nr : Int)
  · have k := m_kd hv0 hP hr
    have e : mvF (hGm (gZ g)) AI1 rel.toNat = mv8 (rsM (hGm (gZ g)) AI 0) (rsM (hGm (gZ g)) AI 9) rel.toNat := by unfold mvF; rw [e_rf hv0]; rfl
    have w := (hQ.2.2.1 rel.toNat (by omega)).1
    rw [m_mv hv0 hQ (by omega), e] at m
    have c4 := (hP.2.2.2.2.2 rel.toNat (by omega)).2
    unfold tdM at m
    rw [k.2.1] at m
    rcases c with ⟨a1, v9, ⟨a2, a3⟩, a4, a5⟩ | ⟨a1, a2⟩
    · rcases m with ⟨b1, b2, b3⟩ | ⟨b1, b2, f9, b3, b4⟩
      · exact absurd ⟨⟨a2.1, a2.2.1⟩, a2.2.2⟩ b3
      · have u := (isW_u w b3 (fun _ _ => rfl) (fun _ _ => rfl)).2
        have e := rwA_at u (show 6 * row.toNat + pl.toNat < 6 * _ by have := a2.2.1; have := a2.2.2; omega)
        refine ⟨by omega, fun _ => ?_⟩
        rw [a5, a3, b4, e]
    · rcases m with ⟨b1, b2, b3⟩ | ⟨b1, b2, f9, b3, b4⟩
      · exact ⟨by omega, fun h => absurd h (by omega)⟩
      · exact absurd ⟨b2.1.1, b2.1.2, b2.2⟩ a2
  · rcases c with ⟨_, _, ⟨a2, _⟩, _⟩ | ⟨a1, _⟩
    · exact absurd a2.1 hr
    · rcases m with ⟨b1, _⟩ | ⟨_, b2, _⟩
      · exact ⟨by omega, fun h => absurd h (by omega)⟩
      · exact absurd b2.1.1 hr
theorem an_count (hv0 : gInv (gW g (I, AI)) (ghF 0 (hG (gZ g))) R1 AR I1 AI1) (hP : lP8 g I AR AI pA nr tbs cc cl) (hQ : lQ8 g I AR AI bA nA nr tbs cc cl) {a b c' d th : Int} {lw : Int64}
    (c : (v1 = 0 ∧ ∃ v9 : Int, ((0 ≤ rel ∧ rel < (nr : Int)) ∧ v9 = (bS (rfC (hG (gZ g)) AR I AI bA rel.toNat).2 (rfC (hG (gZ g)) AR I AI bA rel.toNat).1 (kyT ((cc rel.toNat).1 1) a b c' d)).toInt) ∧ zr v9 ∧ lw = (iI v9).toInt64) ∨ (v1 = 1 ∧ (rel < 0 ∨ (nr : Int) ≤ rel)))
    (m : ((rel < 0 ∨ (nr : Int) ≤ rel) ∧ th = 1 ∧ v2 = 0) ∨ ((0 ≤ rel ∧ rel < (nr : Int)) ∧ th = 0 ∧ v2 = (bS (rfM (hGm (gZ g)) AI1 0 rel.toNat).2 (rfM (hGm (gZ g)) AI1 0 rel.toNat).1 (kyT (tI (AI1 (hGm (gZ g) 50 0)) (40 * rel + 1)) a b c' d)).toInt)) : v1 = th ∧ (v1 = 0 → lw = (iI v2).toInt64) := by
  rw [e_rf hv0] at m
  rcases c with ⟨a1, v9, ⟨a2, a3⟩, a4, a5⟩ | ⟨a1, a2⟩
  · rcases m with ⟨b1, _⟩ | ⟨b1, b2, b3⟩
    · exfalso; omega
    · refine ⟨by omega, fun _ => ?_⟩
      have w := congrFun (oS_c (hQ.1.2.1 rel.toNat (by omega))) (kyT ((cc rel.toNat).1 1) a b c' d)
      have w2 : bS (rfC (hG (gZ g)) AR I AI bA rel.toNat).2 (rfC (hG (gZ g)) AR I AI bA rel.toNat).1 (kyT ((cc rel.toNat).1 1) a b c' d) = bS (rfM (hGm (gZ g)) AI 0 rel.toNat).2 (rfM (hGm (gZ g)) AI 0 rel.toNat).1 (kyT ((cc rel.toNat).1 1) a b c' d) := w
      rw [(m_kd hv0 hP b1).2.1, ← w2] at b3
      rw [a5, a3, b3]
  · rcases m with ⟨_, b1, _⟩ | ⟨b1, _⟩
    · exact ⟨by omega, fun h => absurd h (by omega)⟩
    · exfalso; omega
theorem an_total (hv0 : gInv (gW g (I, AI)) (ghF 0 (hG (gZ g))) R1 AR I1 AI1) (hQ : lQ8 g I AR AI bA nA nr tbs cc cl) {th : Int} {lw : Int64}
    (c : (v1 = 0 ∧ ∃ v9 : Int, ((0 ≤ rel ∧ rel < (nr : Int)) ∧ iI v9 = smA (rfC (hG (gZ g)) AR I AI bA rel.toNat).2 (rfC (hG (gZ g)) AR I AI bA rel.toNat).1) ∧ zr v9 ∧ lw = (iI v9).toInt64) ∨ (v1 = 1 ∧ (rel < 0 ∨ (nr : Int) ≤ rel)))
    (m : ((rel < 0 ∨ (nr : Int) ≤ rel) ∧ th = 1 ∧ v2 = 0) ∨ ((0 ≤ rel ∧ rel < (nr : Int)) ∧ th = 0 ∧ iI v2 = smA (rfM (hGm (gZ g)) AI1 0 rel.toNat).2 (rfM (hGm (gZ g)) AI1 0 rel.toNat).1)) : v1 = th ∧ (v1 = 0 → lw = (iI v2).toInt64) := by
  rw [e_rf hv0] at m
  rcases c with ⟨a1, v9, ⟨a2, a3⟩, a4, a5⟩ | ⟨a1, a2⟩
  · rcases m with ⟨b1, _⟩ | ⟨b1, b2, b3⟩
    · exfalso; omega
    · refine ⟨by omega, fun _ => ?_⟩
      have w := hQ.1.2.1 rel.toNat (by omega)
      have w1 : (rfC (hG (gZ g)) AR I AI bA rel.toNat).1 = (rfM (hGm (gZ g)) AI 0 rel.toNat).1 := w.1
      rw [a5, a3, b3, ← w1]
      exact congrArg _ (smA_c _ w.2)
  · rcases m with ⟨_, b1, _⟩ | ⟨b1, _⟩
    · exact ⟨by omega, fun h => absurd h (by omega)⟩
    · exfalso; omega
end An8
end
section
/-! of: what the law keeps of the lines over both systems -/
/-- the plan's lines on both sides: first and second, whom they hang on, how far, their names -/
def lN8 (g : gG) (I : gI) (J : gJ) (AI : gI) (AJ : gJ) (AR : gR) (pA : Nat) : Prop :=
  ∃ (nr : Nat) (b : tTx) (n : Nat) (nt : Nat → Nat), (I pA 1).toInt = (nr : Int) ∧ nr ≤ 16 ∧ rowsH (hG (gZ g)) AR I pA nr ∧
    ∀ r : Nat, r < nr → ((I (rob AR (hG (gZ g) 6 pA) r) 3).toInt = tI (AI (gZ g + 206)) (40 * (r : Int) + 2) ∧ (I (rob AR (hG (gZ g) 6 pA) r) 4).toInt = tI (AI (gZ g + 206)) (40 * (r : Int) + 3) ∧
      (tI (AI (gZ g + 206)) (40 * (r : Int)) = 0 → (I (rob AR (hG (gZ g) 6 pA) r) 3).toInt = -1 ∧ (I (rob AR (hG (gZ g) 6 pA) r) 4).toInt = -1)) ∧
      pK b n (nt r) = 3 ∧ J (rob AR (hG (gZ g) 6 pA) r) 1 = pN b n (nt r) ∧ AJ (gZ g + 207) r = pMw b n (nt r)
def lNI (g : gG) (I : gI) (R : gR) (J : gJ) (AI : gI) (AJ : gJ) (AR : gR) : Prop := ∃ pA : Nat, R (gZ g + 0) 3 = some pA ∧ lN8 g I J AI AJ AR pA
theorem ln_fs {b : tTx} {n r h : Nat} {nt : Nat → Nat} {cl : Nat → Int} {f P T : Nat → Int32} {M kd : Int} (w : kLn b n r nt cl h f P kd) (m : mLn b n r nt h T M kd) : (f 3).toInt = tI T (40 * M + 2) ∧ (f 4).toInt = tI T (40 * M + 3) ∧ (kd = 0 → (f 3).toInt = -1 ∧ (f 4).toInt = -1) := by
  unfold kLn at w
  unfold mLn at m
  by_cases k1 : kd = 1
  · rw [if_pos k1] at w m; obtain ⟨a, c, _⟩ := w; obtain ⟨⟨a', c'⟩, _⟩ := m; exact ⟨a.trans a'.symm, c.trans c'.symm, fun z => absurd (k1.symm.trans z) (by decide)⟩
  · rw [if_neg k1] at w m
    by_cases k2 : kd = 2
    · rw [if_pos k2] at w m; obtain ⟨a, c, _⟩ := w; obtain ⟨⟨a', c'⟩, _⟩ := m; exact ⟨a.trans a'.symm, c.trans c'.symm, fun z => absurd (k2.symm.trans z) (by decide)⟩
    · rw [if_neg k2] at w m
      by_cases k3 : kd = 3
      · rw [if_pos k3] at w m; obtain ⟨a, c, _⟩ := w; obtain ⟨⟨a', c'⟩, _⟩ := m; exact ⟨a.trans a'.symm, c.trans c'.symm, fun z => absurd (k3.symm.trans z) (by decide)⟩
      · rw [if_neg k3] at w m
        by_cases k4 : kd = 4 ∨ kd = 5
        · rw [if_pos k4] at w m; obtain ⟨a, c⟩ := w; obtain ⟨a', c'⟩ := m; exact ⟨a.trans a'.symm, c.trans c'.symm, fun z => by omega⟩
        · rw [if_neg k4] at w m
          by_cases k6 : kd = 6
          · rw [if_pos k6] at w m; obtain ⟨a, c⟩ := w; obtain ⟨a', c'⟩ := m; exact ⟨a.trans a'.symm, c.trans c'.symm, fun z => absurd (k6.symm.trans z) (by decide)⟩
          · rw [if_neg k6] at w m
            by_cases k7 : kd = 7
            · rw [if_pos k7] at w m; obtain ⟨a, c, _⟩ := w; obtain ⟨⟨a', c'⟩, _⟩ := m; exact ⟨a.trans a'.symm, c.trans c'.symm, fun z => absurd (k7.symm.trans z) (by decide)⟩
            · rw [if_neg k7] at w m
              by_cases k8 : kd = 8
              · rw [if_pos k8] at w m; obtain ⟨a, c, _⟩ := w; obtain ⟨⟨a', c'⟩, _⟩ := m; exact ⟨a.trans a'.symm, c.trans c'.symm, fun z => absurd (k8.symm.trans z) (by decide)⟩
              · rw [if_neg k8] at w m
                obtain ⟨a, c⟩ := w; obtain ⟨a', c'⟩ := m
                exact ⟨a.trans a'.symm, c.trans c'.symm, fun _ => ⟨a, c⟩⟩
section LN8
variable {g : gG} {I AI I1 AI1 I2 AI2 : gI} {R R1 R2 AR : gR} {J J1 J2 : gJ} {AJ AJ1 AJ2 : gJ} {pA bA nA b1 n1 nr : Nat} {tbs : Int} {cc : Nat → LC} {cl : Nat → Int}
/-- nothing of the lines has changed -/
theorem lN_e (h : lN8 g I J AI AJ AR pA) (ep : I2 pA 1 = I pA 1) (ey : ∀ r, r < 16 → I2 (rob AR (hG (gZ g) 6 pA) r) = I (rob AR (hG (gZ g) 6 pA) r)) (ej : ∀ r, r < 16 → J2 (rob AR (hG (gZ g) 6 pA) r) = J (rob AR (hG (gZ g) 6 pA) r)) (et : AI2 (gZ g + 206) = AI (gZ g + 206)) (en : AJ2 (gZ g + 207) = AJ (gZ g + 207)) : lN8 g I2 J2 AI2 AJ2 AR pA := by
  obtain ⟨nr, b, n, nt, a1, a2, a3, a4⟩ := h
  refine ⟨nr, b, n, nt, by rw [ep]; exact a1, a2, rowsH_f a3 (fun r hr => ey r (by omega)), fun r hr => ?_⟩
  rw [ey r (by omega), ej r (by omega), et, en]
  exact a4 r hr
theorem lN_y {M : gI × gI} {I0 AI0 : gI} (hv : gInv (gW g M) (ghF 0 (hG (gZ g))) R AR I0 AI0) (hx : xS (gW g M) (hG (gZ g)) R1 AR (gZ g + 0) pA bA nA) {r : Nat} (hr : r < 16) : gO (gW g M) (rob AR (hG (gZ g) 6 pA) r) 0 := gl_o (gh := ghF 0 (hG (gZ g))) hv hx.2.2.1 hr
/-- over a call of both that is no plan -/
theorem lN_k (hOK : gOK g) (hv0 : gInv (gW g (I, AI)) (ghF 0 (hG (gZ g))) R1 AR I1 AI1) (hx : xS (gW g (I, AI)) (hG (gZ g)) R AR (gZ g + 0) pA bA nA) (hx1 : xS (gW g (I, AI)) (hG (gZ g)) R1 AR (gZ g + 0) pA b1 n1) (h : lNI g I R J AI AJ AR) (fI : ∀ b c, gO (gW g (I, AI)) b c → c ≠ 4 → c ≠ 6 → I1 b = I b) (n1' : ∀ b c, gO (gW g (I2, AI2)) b c → c ≠ 7 → I2 b = I1 b) (ht : AI2 (gZ g + 206) = AI1 (gZ g + 206)) (en : AJ2 (gZ g + 207) = AJ (gZ g + 207)) : lNI g I2 R1 J AI2 AJ2 AR := by
  obtain ⟨p, hp, hN⟩ := h
  have e : p = pA := Option.some.inj (hp.symm.trans hx.2.1)
  subst e
  refine ⟨p, hx1.2.1, lN_e hN ?_ (fun r hr => ?_) (fun r hr => rfl) (ht.trans (e_t5 hv0 (o := 206) (by decide +kernel))) en⟩
  · rw [n1' p 2 hx.2.2.1 (by decide), fI p 2 hx.2.2.1 (by decide) (by decide)]
  · have y := lN_y hv0 hx hr
    rw [n1' _ 0 y (by decide), fI _ 0 y (by decide) (by decide)]
/-- both have been fed -/
theorem lN_fd (hOK : gOK g) (hv : gInv (gW g (I, AI)) (ghF 0 (hG (gZ g))) R AR I AI) (hx : xS (gW g (I, AI)) (hG (gZ g)) R AR (gZ g + 0) pA bA nA) (h : lNI g I R J AI AJ AR) (e1 : ∀ b, b ≠ gZ g + 0 → b ≠ gZ g + 205 → I2 b = I b) (e4 : ∀ b, b ≠ gZ g + 1 → b ≠ gZ g + 215 → AI2 b = AI b) : lNI g I2 R J AI2 AJ AR := by
  obtain ⟨p, hp, hN⟩ := h
  have e : p = pA := Option.some.inj (hp.symm.trans hx.2.1)
  subst e
  have o5 : gO (gW g (I, AI)) (gZ g + 205) 7 := gO_i hOK (o := 205) (by decide) (by decide +kernel)
  have k : ∀ b c, gO (gW g (I, AI)) b c → c ≠ 6 → c ≠ 7 → I2 b = I b := fun b c hb h6 h7 => e1 b (gO_ne hb hx.1 h6) (gO_ne hb o5 h7)
  refine ⟨p, hp, lN_e hN ?_ (fun r hr => ?_) (fun r hr => rfl) (e4 _ (by omega) (by omega)) rfl⟩
  · rw [k p 2 hx.2.2.1 (by decide) (by decide)]
  · exact k _ 0 (lN_y hv hx hr) (by decide) (by decide)
/-- both have planned -/
theorem lN_pl (hOK : gOK g) {q n : Nat} {b : tTx} {z : Int} (hv0 : gInv (gW g (I, AI)) (ghF 0 (hG (gZ g))) R1 AR I1 AI1) (hx : xS (gW g (I, AI)) (hG (gZ g)) R AR (gZ g + 0) pA bA nA) (hqO : gO (gW g (I, AI)) q 2) (h : lNI g I R J AI AJ AR)
    (p1 : plE (gW g (I, AI)) (ghF 0 (hG (gZ g))) AR I J AI R1 I1 J1 AI1 (gZ g + 0) pA q bA nA b n z) (pc : plC (gW g (I, AI)) (ghF 0 (hG (gZ g))) AR I AI I1 AI1 (gZ g + 0) pA q bA b n z) (hr1 : 0 ≤ z → rowsH (ghF 0 (hG (gZ g))) AR I1 q (sPlF b n).1) (fa1 : ∀ b, b ≠ gZ g + 7 → AJ1 b = AJ b)
    (n1 : ∀ b c, gO (gW g (I2, AI2)) b c → c ≠ 7 → I2 b = I1 b) (p2 : plM (hGm (gZ g)) (AI1 (gZ g + 206)) I1 I2 AI2 (gZ g + 205) b n z) (pn : plN (hGm (gZ g)) I1 AI1 I2 AI2 (gZ g + 205) b n z) (fj2 : ∀ b, b ≠ gZ g + 205 → J2 b = J1 b)
    (nm2 : 0 ≤ z → ∀ r : Nat, r < (sPlF b n).1 → AJ2 (gZ g + 207) r = pMw b n ((sPlF b n).2.1 r) ∧ pK b n ((sPlF b n).2.1 r) = 3) (nn2 : z < 0 → AJ2 (gZ g + 207) = AJ1 (gZ g + 207)) : lNI g I2 R1 J2 AI2 AJ2 AR := by
  obtain ⟨p, hp, hN⟩ := h
  have e : p = pA := Option.some.inj (hp.symm.trans hx.2.1)
  subst e
  have o5 : gO (gW g (I, AI)) (gZ g + 205) 7 := gO_i hOK (o := 205) (by decide) (by decide +kernel)
  have ly : ∀ q, gO (gW g (I, AI)) q 2 → ∀ r, r < 16 → gO (gW g (I, AI)) (rob AR (hG (gZ g) 6 q) r) 0 ∧ hG (gZ g) 4 (rob AR (hG (gZ g) 6 q) r) = q ∧ AR (hG (gZ g) 6 q) r = some (rob AR (hG (gZ g) 6 q) r) := fun q hq r hr => by
    obtain ⟨y, a1, a2, a3, _⟩ := (hv0.2.2.2.1 q hq).1.2.2.1 r hr
    have a1 : AR (hG (gZ g) 6 q) r = some y := a1
    rw [rob_e a1]
    exact ⟨a2, a3, a1⟩
  have nj : ∀ q, gO (gW g (I, AI)) q 2 → ∀ r, r < 16 → rob AR (hG (gZ g) 6 q) r ≠ gZ g + 205 := fun q hq r hr => gO_ne (ly q hq r hr).1 o5 (by decide)
  rcases p1 with ⟨z1, x1, _, x3, x4, _, _⟩ | ⟨z1, x1, _, x3, x4, x5⟩
  · rcases p2 with ⟨_, y1, _⟩ | ⟨z2, _⟩
    · refine ⟨p, x1.2.1, lN_e hN ?_ (fun r hr => ?_) (fun r hr => ?_) (y1.trans (e_t5 hv0 (o := 206) (by decide +kernel))) ((nn2 z1).trans (fa1 _ (by omega)))⟩
      · rw [n1 p 2 hx.2.2.1 (by decide), x3]
      · have y := ly p hx.2.2.1 r hr
        rw [n1 _ 0 y.1 (by decide)]
        exact (x4 _ y.1 y.2.1).1
      · have y := ly p hx.2.2.1 r hr
        rw [fj2 _ (nj p hx.2.2.1 r hr)]
        exact (x4 _ y.1 y.2.1).2
    · exact absurd z1 (by omega)
  · rcases pc with ⟨z2, _⟩ | ⟨_, c1, _⟩
    · exact absurd z1 (by omega)
    · rcases p2 with ⟨z2, _⟩ | ⟨_, y1, y2, _⟩
      · exact absurd z1 (by omega)
      · rcases pn with ⟨z2, _⟩ | ⟨_, _, _, _, _, _, d6⟩
        · exact absurd z1 (by omega)
        · obtain ⟨a1, a2, a3, _⟩ := x3
          have hr1 : rowsH (hG (gZ g)) AR I1 q (sPlF b n).1 := hr1 z1
          refine ⟨q, x1.2.1, (sPlF b n).1, b, n, (sPlF b n).2.1, by rw [n1 q 2 hqO (by decide)]; exact a1, a2, rowsH_f hr1 (fun r hr => n1 _ 0 (ly q hqO r (by omega)).1 (by decide)), fun r hr => ?_⟩
          have y := ly q hqO r (by omega)
          have kc := (c1 r hr).2 _ y.2.2
          have km := (d6 r hr).2
          have w := ln_fs kc.2 km
          have nm := nm2 z1 r hr
          rw [n1 _ 0 y.1 (by decide), fj2 _ (nj q hqO r (by omega))]
          refine ⟨⟨w.1, w.2.1, fun t0 => w.2.2 ?_⟩, nm.2, (a3 r hr _ y.2.2).1, nm.1⟩
          rw [← (y2 r hr).2]; exact t0
/-- the start: no lines -/
theorem lN_0 (hR : R (gZ g + 0) 3 = some pA) (h0 : (I pA 1).toInt = 0) : lNI g I R J AI AJ AR := ⟨pA, hR, 0, fun _ => 0, 0, fun _ => 0, h0, Nat.zero_le _, rowsH_0, fun r hr => absurd hr (Nat.not_lt_zero r)⟩
/-- the class's sets and ways are those that the reference reckons -/
theorem lN_hd (hP : lP8 g I AR AI pA nr tbs cc cl) (h : lN8 g I J AI AJ AR pA) : kWf (kTk (AI (gZ g + 206))) (kTf (AI (gZ g + 206))) (kTs (AI (gZ g + 206))) nr ∧ ∀ r : Nat, r < nr →
    I (rob AR (hG (gZ g) 6 pA) r) 13 = kHs (kTk (AI (gZ g + 206))) (kTf (AI (gZ g + 206))) (kTs (AI (gZ g + 206))) 16 r ∧ (I (rob AR (hG (gZ g) 6 pA) r) 14).toInt = kDs (kTk (AI (gZ g + 206))) (kTf (AI (gZ g + 206))) (kTs (AI (gZ g + 206))) 16 r := by
  obtain ⟨nr', b, n, nt, a1, a2, a3, a4⟩ := h
  have en : nr' = nr := by have := hP.1; omega
  subst en
  have hc : ∀ r : Nat, r < nr' → tI (AI (gZ g + 206)) (40 * (r : Int)) ≠ 0 → 0 ≤ tI (AI (gZ g + 206)) (40 * (r : Int) + 2) ∧ tI (AI (gZ g + 206)) (40 * (r : Int) + 2) < (r : Int) ∧ -1 ≤ tI (AI (gZ g + 206)) (40 * (r : Int) + 3) ∧ tI (AI (gZ g + 206)) (40 * (r : Int) + 3) < (r : Int) := fun r hr hk => by
    have ht : tbs ≤ (r : Int) := by
      by_cases q : tbs ≤ (r : Int)
      · exact q
      · exact absurd (hP.2.2.2.2.1.2.2.1 (r : Int) (by omega) (by omega)) hk
    have o := (hP.2.2.2.2.1.2.2.2 r hr ht)
    have m := o.1.1
    have k := o.2.1.1
    rw [m.2.2.1, m.2.2.2]
    exact ⟨k.2.2.1, k.2.2.2.1, k.2.2.2.2.1, k.2.2.2.2.2⟩
  have hW : kWf (kTk (AI (gZ g + 206))) (kTf (AI (gZ g + 206))) (kTs (AI (gZ g + 206))) nr' := fun r hr hk => hc r hr hk
  exact ⟨hW, hd_p (f := fun r => (I (rob AR (hG (gZ g) 6 pA) r) 3).toInt) (s := fun r => (I (rob AR (hG (gZ g) 6 pA) r) 4).toInt) (D := fun r => (I (rob AR (hG (gZ g) 6 pA) r) 14).toInt) (H := fun r => I (rob AR (hG (gZ g) 6 pA) r) 13) hW a2 (fun r hr => ⟨(a4 r hr).1.1, (a4 r hr).1.2.1⟩)
    (fun r hr hk => by have f := (a4 r hr).1.2.2 hk; (try dsimp only); omega) (fun r hr => (a3 r hr).2.1) (fun r hr => (a3 r hr).2.2.1)⟩
/-- of: alike -/
theorem an_of (hOK : gOK g) {rel wh v1 v2 : Int} (z1 : zr v1) (z2 : zr v2) (hx : xS (gW g (I, AI)) (hG (gZ g)) R AR (gZ g + 0) pA bA nA) (hP : lP8 g I AR AI pA nr tbs cc cl) (hN : lNI g I R J AI AJ AR)
    (c : ((rel < 0 ∨ (nr : Int) ≤ rel) ∧ v1 = -1) ∨ ((0 ≤ rel ∧ rel < (nr : Int)) ∧ kOf (I (rob AR (hG (gZ g) 6 pA) rel.toNat) 0).toInt (I (rob AR (hG (gZ g) 6 pA) rel.toNat) 2).toInt (I (rob AR (hG (gZ g) 6 pA) rel.toNat) 3).toInt (I (rob AR (hG (gZ g) 6 pA) rel.toNat) 4).toInt (I (rob AR (hG (gZ g) 6 pA) rel.toNat) 13) (kHc (fun u => I (rob AR (hG (gZ g) 6 pA) u) 13) rel (I pA 1).toInt.toNat) (I (rob AR (hG (gZ g) 6 pA) rel.toNat) 14).toInt (kLa (J (rob AR (hG (gZ g) 6 pA) rel.toNat) 1)) (kLc (J (rob AR (hG (gZ g) 6 pA) rel.toNat) 1)) wh v1))
    (m : ((rel < 0 ∨ (I (gZ g + 205) 2).toInt ≤ rel) ∧ v2 = -1) ∨ ((0 ≤ rel ∧ rel < (I (gZ g + 205) 2).toInt) ∧ kOf (tI (AI (gZ g + 206)) (40 * rel)) (tI (AI (gZ g + 206)) (40 * rel + 1)) (tI (AI (gZ g + 206)) (40 * rel + 2)) (tI (AI (gZ g + 206)) (40 * rel + 3)) (kHs (kTk (AI (gZ g + 206))) (kTf (AI (gZ g + 206))) (kTs (AI (gZ g + 206))) 16 rel.toNat) (kHm (fun u => kHs (kTk (AI (gZ g + 206))) (kTf (AI (gZ g + 206))) (kTs (AI (gZ g + 206))) 16 u) rel (I (gZ g + 205) 2).toInt.toNat) (kDs (kTk (AI (gZ g + 206))) (kTf (AI (gZ g + 206))) (kTs (AI (gZ g + 206))) 16 rel.toNat) (kLb (AJ (gZ g + 207) rel.toNat)) (kLe (AJ (gZ g + 207) rel.toNat)) wh v2)) : v1 = v2 := by
  obtain ⟨p, hp, hN⟩ := hN
  have e : p = pA := Option.some.inj (hp.symm.trans hx.2.1)
  subst e
  have hm2 := hP.2.2.2.2.1.1
  have hl := hP.1
  have h16 := hP.2.2.1.2.2
  rcases c with ⟨c1, c2⟩ | ⟨c1, c2⟩
  · rcases m with ⟨_, m2⟩ | ⟨m1, _⟩
    · omega
    · exfalso; omega
  · rcases m with ⟨m1, _⟩ | ⟨_, m2⟩
    · exfalso; omega
    · have er : ((rel.toNat : Nat) : Int) = rel := Int.toNat_of_nonneg c1.1
      have hr : rel.toNat < nr := by omega
      have hd := (lN_hd hP hN).2
      obtain ⟨nr', b, n, nt, a1, a2, a3, a4⟩ := hN
      have en : nr' = nr := by omega
      subst en
      have w := a4 rel.toNat hr
      rw [er] at w
      have p8 := hP.2.2.2.2.2 rel.toNat hr
      rw [er] at p8
      have pc := hP.2.2.2.1 rel.toNat hr
      refine kOf_u z1 z2 ?_ ?_ w.1.1 w.1.2.1 (hd _ hr).1 ?_ (hd _ hr).2 (fun z y a c => ?_) ?_ c2 m2
      · rw [pc.1.1, p8.2.2.2]
      · rw [pc.1.2.1, p8.2.2.1, p8.1]
      · rw [hl, hm2, ← er]
        exact kHc_m (by omega) _ (by omega) (fun u hu => (hd u (by omega)).1)
      · rw [w.2.2.1] at a
        rw [w.2.2.2] at c
        exact nm_ab w.2.1 a c
      · rw [w.2.2.1, w.2.2.2]; exact nm_ce w.2.1
end LN8
end
