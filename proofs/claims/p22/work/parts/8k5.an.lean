/-! both answer alike -/
section An8
variable {g : gG} {I AI I1 AI1 : gI} {R R1 AR : gR} {pA bA nA nr : Nat} {tbs rel v1 v2 : Int} {cc : Nat → LC} {cl : Nat → Int} {f f' : Nat → Int32} {n n' : Nat} {t : Tup}
theorem an_size (hv0 : gInv (gW g (I, AI)) (ghF 0 (hG (gZ g))) R1 AR I1 AI1) (hQ : lQ8 g I AR AI bA nA nr tbs cc cl) (c : ((rel < 0 ∨ (nr : Int) ≤ rel) ∧ v1 = -1) ∨ ((0 ≤ rel ∧ rel < (nr : Int)) ∧ v1 = (((rfC (hG (gZ g)) AR I AI bA rel.toNat).1 : Nat) : Int)))
    (m : ((rel < 0 ∨ (nr : Int) ≤ rel) ∧ v2 = -1) ∨ ((0 ≤ rel ∧ rel < (nr : Int)) ∧ v2 = (((rfM (hGm (gZ g)) AI1 0 rel.toNat).1 : Nat) : Int))) : v1 = v2 := by
  rcases c with ⟨a1, a2⟩ | ⟨a1, a2⟩
  · rcases m with ⟨b1, b2⟩ | ⟨b1, b2⟩
    · omega
    · exfalso; omega
  · rcases m with ⟨b1, b2⟩ | ⟨b1, b2⟩
    · exfalso; omega
    · rw [a2, b2, e_rf hv0, (hQ.1.2.1 rel.toNat (by omega)).1]; rfl
theorem m_mv (hv0 : gInv (gW g (I, AI)) (ghF 0 (hG (gZ g))) R1 AR I1 AI1) (hQ : lQ8 g I AR AI bA nA nr tbs cc cl) {r : Nat} (hr : r < nr) : bgN (mvF (hGm (gZ g)) AI1 r) = (rfC (hG (gZ g)) AR I AI (hG (gZ g) 35 0) r).1 := by
  have e : mvF (hGm (gZ g)) AI1 r = mv8 (rsM (hGm (gZ g)) AI 0) (rsM (hGm (gZ g)) AI 9) r := by unfold mvF; rw [e_rf hv0]; rfl
  rw [e]; exact bgN_e (hQ.2.2.1 r hr).1
theorem an_moved (hv0 : gInv (gW g (I, AI)) (ghF 0 (hG (gZ g))) R1 AR I1 AI1) (hQ : lQ8 g I AR AI bA nA nr tbs cc cl) (c : ((rel < 0 ∨ (nr : Int) ≤ rel) ∧ v1 = -1) ∨ ((0 ≤ rel ∧ rel < (nr : Int)) ∧ v1 = (((rfC (hG (gZ g)) AR I AI (hG (gZ g) 35 0) rel.toNat).1 : Nat) : Int)))
    (m : ((rel < 0 ∨ (nr : Int) ≤ rel) ∧ v2 = -1) ∨ ((0 ≤ rel ∧ rel < (nr : Int)) ∧ v2 = ((bgN (mvF (hGm (gZ g)) AI1 rel.toNat) : Nat) : Int))) : v1 = v2 := by
  rcases c with ⟨a1, a2⟩ | ⟨a1, a2⟩
  · rcases m with ⟨b1, b2⟩ | ⟨b1, b2⟩
    · omega
    · exfalso; omega
  · rcases m with ⟨b1, b2⟩ | ⟨b1, b2⟩
    · exfalso; omega
    · rw [a2, b2, m_mv hv0 hQ (by omega)]
/-- the kind of a relation, as the reference's row tells it -/
theorem m_kd (hv0 : gInv (gW g (I, AI)) (ghF 0 (hG (gZ g))) R1 AR I1 AI1) (hP : lP8 g I AR AI pA nr tbs cc cl) (hr : 0 ≤ rel ∧ rel < (nr : Int)) : tI (AI1 (hGm (gZ g) 50 0)) (40 * rel) = (cc rel.toNat).1 0 ∧ tI (AI1 (hGm (gZ g) 50 0)) (40 * rel + 1) = (cc rel.toNat).1 1 ∧ (rel < tbs → (cc rel.toNat).1 0 = 0) ∧ (tbs ≤ rel → 1 ≤ (cc rel.toNat).1 0) := by
  have e : AI1 (hGm (gZ g) 50 0) = AI (gZ g + 206) := e_t5 hv0 (o := 206) (by decide +kernel)
  have er : ((rel.toNat : Nat) : Int) = rel := Int.toNat_of_nonneg hr.1
  have w := hP.2.2.2.2.2 rel.toNat (by omega)
  rw [er] at w
  rw [e]
  refine ⟨w.2.2.2, w.1.trans w.2.2.1.symm, fun h => ?_, fun h => ?_⟩
  · rw [← w.2.2.2]; exact hP.2.2.2.2.1.2.2.1 rel hr.1 h
  · exact (e_hcK hP rel.toNat (by omega) (by omega)).1.1.1
theorem an_came (hv0 : gInv (gW g (I, AI)) (ghF 0 (hG (gZ g))) R1 AR I1 AI1) (hP : lP8 g I AR AI pA nr tbs cc cl) (hQ : lQ8 g I AR AI bA nA nr tbs cc cl)
    (c : (((rel < 0 ∨ (nr : Int) ≤ rel) ∨ rel < tbs) ∧ v1 = -1) ∨ ((0 ≤ rel ∧ rel < (nr : Int)) ∧ tbs ≤ rel ∧ v1 = (if (cc rel.toNat).1 2 = -1 then (0 : Int) else (((rfC (hG (gZ g)) AR I AI (hG (gZ g) 35 0) ((cc rel.toNat).1 2).toNat).1 : Nat) : Int)) + (if (cc rel.toNat).1 3 = -1 then 0 else (((rfC (hG (gZ g)) AR I AI (hG (gZ g) 35 0) ((cc rel.toNat).1 3).toNat).1 : Nat) : Int))))
    (m : (((rel < 0 ∨ (nr : Int) ≤ rel) ∨ tI (AI1 (hGm (gZ g) 50 0)) (40 * rel) = 0) ∧ v2 = -1) ∨ (((0 ≤ rel ∧ rel < (nr : Int)) ∧ tI (AI1 (hGm (gZ g) 50 0)) (40 * rel) ≠ 0) ∧ v2 = ((bgN (mvF (hGm (gZ g)) AI1 ((cc rel.toNat).1 2).toNat) : Nat) : Int) + (if (cc rel.toNat).1 3 < 0 then 0 else ((bgN (mvF (hGm (gZ g)) AI1 ((cc rel.toNat).1 3).toNat) : Nat) : Int)))) : v1 = v2 := by
  by_cases hr : 0 ≤ rel ∧ rel < (nr : Int)
  · have k := m_kd hv0 hP hr
    by_cases ht : rel < tbs
    · have k0 := k.2.2.1 ht
      rcases c with ⟨_, a2⟩ | ⟨_, a2, _⟩
      · rcases m with ⟨_, b2⟩ | ⟨⟨_, b1⟩, _⟩
        · omega
        · exact absurd (k.1.trans k0) b1
      · exfalso; omega
    · have k0 := k.2.2.2 (by omega)
      rcases c with ⟨a1, _⟩ | ⟨_, _, a2⟩
      · exfalso; omega
      · rcases m with ⟨b1, _⟩ | ⟨_, b2⟩
        · rcases b1 with b1 | b1
          · exfalso; omega
          · rw [k.1] at b1; exfalso; omega
        · have o := (e_hcK hP rel.toNat (by omega) (by omega)).1.1
          rw [a2, b2, if_neg (by omega), m_mv hv0 hQ (by omega)]
          by_cases q : (cc rel.toNat).1 3 = -1
          · rw [if_pos q, if_pos (by omega)]
          · rw [if_neg q, if_neg (by omega), m_mv hv0 hQ (by omega)]
  · rcases c with ⟨_, a2⟩ | ⟨a1, _⟩
    · rcases m with ⟨_, b2⟩ | ⟨⟨b1, _⟩, _⟩
      · omega
      · exact absurd b1 hr
    · exact absurd a1 hr
theorem mk_u (hs : okB f n) (e : n = n' ∧ rwA f f' n) (a : mkR f n t v1) (b : mkR f' n' t v2) : v1 = v2 := by
  obtain ⟨rfl, e⟩ := e
  have tu : ∀ i, i < n → tup f i = tup f' i := fun i hi => rwS_t (e i hi)
  rcases a with ⟨i, a1, a2, a3⟩ | ⟨a1, a2⟩
  · rcases b with ⟨j, b1, b2, b3⟩ | ⟨b1, b2⟩
    · have ij : i = j := srtB_ne hs.1 a1 b1 (a2.trans (b2.symm.trans (tu j b1).symm))
      subst ij
      rw [a3, b3, e i a1 5 (by decide)]
    · exact absurd ((tu i a1).symm.trans a2) (b1 i a1)
  · rcases b with ⟨j, b1, b2, b3⟩ | ⟨b1, b2⟩
    · exact absurd ((tu j b1).trans b2) (a1 j b1)
    · omega
theorem an_round (hv0 : gInv (gW g (I, AI)) (ghF 0 (hG (gZ g))) R1 AR I1 AI1) (hP : lP8 g I AR AI pA nr tbs cc cl) (hQ : lQ8 g I AR AI bA nA nr tbs cc cl) {a b c' d : Int}
    (c : (¬ ((0 ≤ rel ∧ rel < (nr : Int)) ∧ (cc rel.toNat).1 0 = 8) ∧ v1 = -1) ∨ (((0 ≤ rel ∧ rel < (nr : Int)) ∧ (cc rel.toNat).1 0 = 8) ∧ mkR (rfC (hG (gZ g)) AR I AI bA rel.toNat).2 (rfC (hG (gZ g)) AR I AI bA rel.toNat).1 (kyT ((cc rel.toNat).1 1) a b c' d) v1))
    (m : (((rel < 0 ∨ (nr : Int) ≤ rel) ∨ tI (AI1 (hGm (gZ g) 50 0)) (40 * rel) ≠ 8) ∧ v2 = -1) ∨ (((0 ≤ rel ∧ rel < (nr : Int)) ∧ tI (AI1 (hGm (gZ g) 50 0)) (40 * rel) = 8) ∧ mkR (rfM (hGm (gZ g)) AI1 0 rel.toNat).2 (rfM (hGm (gZ g)) AI1 0 rel.toNat).1 (kyT (tI (AI1 (hGm (gZ g) 50 0)) (40 * rel + 1)) a b c' d) v2)) : v1 = v2 := by
  by_cases hr : 0 ≤ rel ∧ rel < (nr : Int)
  · have k := m_kd hv0 hP hr
    rw [k.1, k.2.1, e_rf hv0] at m
    rcases c with ⟨a1, a2⟩ | ⟨a1, a2⟩
    · rcases m with ⟨_, b2⟩ | ⟨b1, _⟩
      · omega
      · exact absurd b1 a1
    · rcases m with ⟨b1, _⟩ | ⟨_, b2⟩
      · exfalso; omega
      · exact mk_u (e_bgC hQ rel.toNat (by omega)).1 (hQ.1.2.1 rel.toNat (by omega)) a2 b2
  · rcases c with ⟨_, a2⟩ | ⟨a1, _⟩
    · rcases m with ⟨_, b2⟩ | ⟨b1, _⟩
      · omega
      · exact absurd b1.1 hr
    · exact absurd a1.1 hr
theorem an_rounds (hv0 : gInv (gW g (I, AI)) (ghF 0 (hG (gZ g))) R1 AR I1 AI1) (hP : lP8 g I AR AI pA nr tbs cc cl) (hQ : lQ8 g I AR AI bA nA nr tbs cc cl)
    (c : (¬ ((0 ≤ rel ∧ rel < (nr : Int)) ∧ (cc rel.toNat).1 0 = 8) ∧ v1 = -1) ∨ (((0 ≤ rel ∧ rel < (nr : Int)) ∧ (cc rel.toNat).1 0 = 8) ∧ rdX (rfC (hG (gZ g)) AR I AI bA rel.toNat).2 (rfC (hG (gZ g)) AR I AI bA rel.toNat).1 v1))
    (m : (((rel < 0 ∨ (nr : Int) ≤ rel) ∨ tI (AI1 (hGm (gZ g) 50 0)) (40 * rel) ≠ 8) ∧ v2 = -1) ∨ (((0 ≤ rel ∧ rel < (nr : Int)) ∧ tI (AI1 (hGm (gZ g) 50 0)) (40 * rel) = 8) ∧ v2 = (AI1 (hGm (gZ g) 79 0) rel.toNat).toInt)) : v1 = v2 := by
  by_cases hr : 0 ≤ rel ∧ rel < (nr : Int)
  · have k := m_kd hv0 hP hr
    rw [k.1] at m
    rcases c with ⟨a1, a2⟩ | ⟨a1, a2⟩
    · rcases m with ⟨_, b2⟩ | ⟨b1, _⟩
      · omega
      · exact absurd b1 a1
    · rcases m with ⟨b1, _⟩ | ⟨_, b2⟩
      · exfalso; omega
      · have ht : tbs ≤ rel := by
          by_cases q : rel < tbs
          · have := k.2.2.1 q; omega
          · omega
        obtain ⟨R9, r1, r2⟩ := (e_gd hQ).2 rel.toNat (by omega) (by omega) a1.2
        have w := hQ.1.2.1 rel.toNat (by omega)
        have e79 : AI1 (hGm (gZ g) 79 0) = AI (hGm (gZ g) 79 0) := e_t5 hv0 (o := 219) (by decide +kernel)
        have rx : rdX (sF8 (rsM (hGm (gZ g)) AI 0) rel.toNat).2 (sF8 (rsM (hGm (gZ g)) AI 0) rel.toNat).1 v1 := by
          rw [← w.1]
          refine ⟨a2.1, fun q hq => ?_, a2.2.2.imp id (fun ⟨q, h1, h2⟩ => ⟨q, h1, ?_⟩)⟩
          · rw [← w.2 q hq 5 (by decide)]; exact a2.2.1 q hq
          · rw [← w.2 q h1 5 (by decide)]; exact h2
        have e1 := rg_R r1 rx
        have r9 := r1.1
        have r2' : AI (hGm (gZ g) 79 0) (16 * 0 + ((rel.toNat : Nat) : Int)).toNat = iI (R9 : Int) := r2
        rw [show (16 * 0 + ((rel.toNat : Nat) : Int)).toNat = rel.toNat by omega] at r2'
        rw [b2, e79, r2', iI_val ⟨by omega, by omega⟩]
        exact e1
  · rcases c with ⟨_, a2⟩ | ⟨a1, _⟩
    · rcases m with ⟨_, b2⟩ | ⟨b1, _⟩
      · omega
      · exact absurd b1.1 hr
    · exact absurd a1.1 hr
theorem an_differs (hP : lP8 g I AR AI pA nr tbs cc cl) (hQ : lQ8 g I AR AI bA nA nr tbs cc cl) {A2 A1 : gI}
    (c : ((rel < 0 ∨ (nr : Int) ≤ rel) ∧ v1 = -1) ∨ ((0 ≤ rel ∧ rel < (nr : Int)) ∧ ∃ Fn : RF, rnP tbs nr cc (∃ i, i < 0 ∧ blw f (rfC (hG (gZ g)) AR I AI bA) 1 i) (tbS f 0 (rfC (hG (gZ g)) AR I AI bA) 1) 0 Fn ∧ ∃ (f9 : Nat → Int32) (k : Nat), isB f9 k (fun t => bS (Fn rel.toNat).2 (Fn rel.toNat).1 t + iI (-1) * bS (rfC (hG (gZ g)) AR I AI bA rel.toNat).2 (rfC (hG (gZ g)) AR I AI bA rel.toNat).1 t) zM ∧ v1 = (k : Int)))
    (m : ((rel < 0 ∨ (nr : Int) ≤ rel) ∧ v2 = -1 ∧ A2 = A1) ∨ ((0 ≤ rel ∧ rel < (nr : Int)) ∧ v2 = 0 ∧ sdK (hGm (gZ g)) A1 A2 ∧ noZ (hGm (gZ g)) A1 A2)) : v1 = v2 := by
  rcases c with ⟨a1, a2⟩ | ⟨a1, Fn, a2, f9, k, a3, a4⟩
  · rcases m with ⟨b1, b2, _⟩ | ⟨b1, _⟩
    · omega
    · exfalso; omega
  · rcases m with ⟨b1, _⟩ | ⟨b1, b2, _⟩
    · exfalso; omega
    · have w := (rnP_u (e_cLt hP) a2 (eS_df hP.2.2.1.2.1 hQ.1)).2 rfl rel.toNat (by omega)
      have k0 := df_k w (hQ.1.2.1 rel.toNat (by omega)) a3
      omega
theorem iI_u (h1 : zr v1) (h2 : zr v2) (e : iI v1 = iI v2) : v1 = v2 := by
  have w := congrArg Int32.toInt e
  rw [iI_val h1, iI_val h2] at w; exact w
theorem an_told (hOK : gOK g) (hv : gInv (gW g (I, AI)) (ghF 0 (hG (gZ g))) R AR I AI) (hx : xS (gW g (I, AI)) (hG (gZ g)) R AR (gZ g + 0) pA bA nA) (hv0 : gInv (gW g (I, AI)) (ghF 0 (hG (gZ g))) R1 AR I1 AI1) (hP : lP8 g I AR AI pA nr tbs cc cl) (hQ : lQ8 g I AR AI bA nA nr tbs cc cl) (hb : (I (gZ g + 179) 3).toInt = (I (gZ g + 205) 14).toInt) (hl : (I (gZ g + 0) 1).toInt = (I (gZ g + 205) 16).toInt) {wh : Int} (z1 : zr v1) (z2 : zr v2)
    (c : (wh = 0 ∧ v1 = tbs) ∨ (wh = 1 ∧ v1 = (nr : Int) - tbs) ∨ (wh = 2 ∧ iI v1 = I (gZ g + 0) 16) ∨ (wh = 3 ∧ iI v1 = I (gZ g + 0) 17) ∨ (wh = 4 ∧ v1 = (I (gZ g + 0) 15).toInt) ∨ (wh = 5 ∧ v1 = (I (gZ g + 179) 3).toInt) ∨ (wh = 6 ∧ v1 = smL (fun r : Nat => (((rfC (hG (gZ g)) AR I AI bA r).1 : Nat) : Int)) tbs.toNat (nr - tbs.toNat)) ∨ (wh = 7 ∧ v1 = smL (lnR AR I (hG (gZ g) 35 0)) tbs.toNat (nr - tbs.toNat)) ∨
      (wh = 8 ∧ v1 = smL (fun r : Nat => (if (cc r).1 2 = -1 then (0 : Int) else (((rfC (hG (gZ g)) AR I AI (hG (gZ g) 35 0) ((cc r).1 2).toNat).1 : Nat) : Int)) + (if (cc r).1 3 = -1 then 0 else (((rfC (hG (gZ g)) AR I AI (hG (gZ g) 35 0) ((cc r).1 3).toNat).1 : Nat) : Int))) tbs.toNat (nr - tbs.toNat)) ∨ (wh = 9 ∧ v1 = (I (gZ g + 0) 1).toInt) ∨ ((wh < 0 ∨ 9 < wh) ∧ v1 = -1))
    (m : (wh = 0 ∧ v2 = tbs) ∨ (wh = 1 ∧ v2 = (nr : Int) - tbs) ∨ (wh = 2 ∧ iI v2 = I1 (gZ g + 205) 9) ∨ (wh = 3 ∧ iI v2 = I1 (gZ g + 205) 10) ∨ (wh = 4 ∧ v2 = (I1 (gZ g + 205) 8).toInt) ∨ (wh = 5 ∧ v2 = (I1 (gZ g + 205) 14).toInt) ∨ (wh = 6 ∧ v2 = smL (fun r => (((rfM (hGm (gZ g)) AI1 0 r).1 : Nat) : Int)) tbs.toNat (nr - tbs.toNat)) ∨ (wh = 7 ∧ v2 = smL (fun r => ((bgN (mvF (hGm (gZ g)) AI1 r) : Nat) : Int)) tbs.toNat (nr - tbs.toNat)) ∨
      (wh = 8 ∧ v2 = smL (ctF (hGm (gZ g)) AI1 cc) tbs.toNat (nr - tbs.toNat)) ∨ (wh = 9 ∧ v2 = (I1 (gZ g + 205) 16).toInt) ∨ ((wh < 0 ∨ 9 < wh) ∧ v2 = -1)) : v1 = v2 := by
  have emo : I1 (gZ g + 205) = I (gZ g + 205) := e_mo hOK hv0
  rw [emo] at m
  have m0 := hQ.2.1
  have nb := hP.2.2.1
  rcases c with ⟨w, c⟩ | ⟨w, c⟩ | ⟨w, c⟩ | ⟨w, c⟩ | ⟨w, c⟩ | ⟨w, c⟩ | ⟨w, c⟩ | ⟨w, c⟩ | ⟨w, c⟩ | ⟨w, c⟩ | ⟨w, c⟩
  · have m := m.resolve_right (fun h => by rcases h with h | h | h | h | h | h | h | h | h | h <;> (have := h.1; omega)); omega
  · have m := (m.resolve_left (fun h => by have := h.1; omega)).resolve_right (fun h => by rcases h with h | h | h | h | h | h | h | h | h <;> (have := h.1; omega)); omega
  · have m := ((m.resolve_left (fun h => by have := h.1; omega)).resolve_left (fun h => by have := h.1; omega)).resolve_right (fun h => by rcases h with h | h | h | h | h | h | h | h <;> (have := h.1; omega))
    exact iI_u z1 z2 (by rw [c, m.2]; exact m0.2.1)
  · have m := (((m.resolve_left (fun h => by have := h.1; omega)).resolve_left (fun h => by have := h.1; omega)).resolve_left (fun h => by have := h.1; omega)).resolve_right (fun h => by rcases h with h | h | h | h | h | h | h <;> (have := h.1; omega))
    exact iI_u z1 z2 (by rw [c, m.2]; exact m0.2.2)
  · have m := ((((m.resolve_left (fun h => by have := h.1; omega)).resolve_left (fun h => by have := h.1; omega)).resolve_left (fun h => by have := h.1; omega)).resolve_left (fun h => by have := h.1; omega)).resolve_right (fun h => by rcases h with h | h | h | h | h | h <;> (have := h.1; omega))
    omega
  · have m := (((((m.resolve_left (fun h => by have := h.1; omega)).resolve_left (fun h => by have := h.1; omega)).resolve_left (fun h => by have := h.1; omega)).resolve_left (fun h => by have := h.1; omega)).resolve_left (fun h => by have := h.1; omega)).resolve_right (fun h => by rcases h with h | h | h | h | h <;> (have := h.1; omega))
    omega
  · have m := ((((((m.resolve_left (fun h => by have := h.1; omega)).resolve_left (fun h => by have := h.1; omega)).resolve_left (fun h => by have := h.1; omega)).resolve_left (fun h => by have := h.1; omega)).resolve_left (fun h => by have := h.1; omega)).resolve_left (fun h => by have := h.1; omega)).resolve_right (fun h => by rcases h with h | h | h | h <;> (have := h.1; omega))
    rw [c, m.2]
    refine smL_c _ (fun r h1 h2 => ?_)
    have e1 : (rfC (hG (gZ g)) AR I AI bA r).1 = (rfM (hGm (gZ g)) AI 0 r).1 := (hQ.1.2.1 r (by omega)).1
    show (((rfC (hG (gZ g)) AR I AI bA r).1 : Nat) : Int) = (((rfM (hGm (gZ g)) AI1 0 r).1 : Nat) : Int)
    rw [e_rf hv0, e1]
  · have m := (((((((m.resolve_left (fun h => by have := h.1; omega)).resolve_left (fun h => by have := h.1; omega)).resolve_left (fun h => by have := h.1; omega)).resolve_left (fun h => by have := h.1; omega)).resolve_left (fun h => by have := h.1; omega)).resolve_left (fun h => by have := h.1; omega)).resolve_left (fun h => by have := h.1; omega)).resolve_right (fun h => by rcases h with h | h | h <;> (have := h.1; omega))
    rw [c, m.2]
    refine smL_c _ (fun r h1 h2 => ?_)
    show lnR AR I (hG (gZ g) 35 0) r = ((bgN (mvF (hGm (gZ g)) AI1 r) : Nat) : Int)
    rw [m_mv hv0 hQ (by omega)]
    have z := e_len hv (isRA_o (e_35 hv hx.1) (show r < 16 by omega)).2.1
    show (I (rob AR (hG (gZ g) 35 0) r) 3).toInt = (((I (rob AR (hG (gZ g) 35 0) r) 3).toInt.toNat : Nat) : Int)
    omega
  · have m := ((((((((m.resolve_left (fun h => by have := h.1; omega)).resolve_left (fun h => by have := h.1; omega)).resolve_left (fun h => by have := h.1; omega)).resolve_left (fun h => by have := h.1; omega)).resolve_left (fun h => by have := h.1; omega)).resolve_left (fun h => by have := h.1; omega)).resolve_left (fun h => by have := h.1; omega)).resolve_left (fun h => by have := h.1; omega)).resolve_right (fun h => by rcases h with h | h <;> (have := h.1; omega))
    rw [c, m.2]
    refine smL_c _ (fun r h1 h2 => ?_)
    have o := (e_hcK hP r (by omega) (by omega)).1.1
    unfold ctF
    rw [if_neg (by omega), m_mv hv0 hQ (by omega)]
    by_cases q : (cc r).1 3 = -1
    · rw [if_pos q, if_pos (by omega)]
    · rw [if_neg q, if_neg (by omega), m_mv hv0 hQ (by omega)]
  · have m := (((((((((m.resolve_left (fun h => by have := h.1; omega)).resolve_left (fun h => by have := h.1; omega)).resolve_left (fun h => by have := h.1; omega)).resolve_left (fun h => by have := h.1; omega)).resolve_left (fun h => by have := h.1; omega)).resolve_left (fun h => by have := h.1; omega)).resolve_left (fun h => by have := h.1; omega)).resolve_left (fun h => by have := h.1; omega)).resolve_left (fun h => by have := h.1; omega)).resolve_right (fun h => by have := h.1; omega)
    omega
  · rcases m with m | m | m | m | m | m | m | m | m | m | m
    all_goals first | (have := m.1; omega) | skip
    all_goals omega
/-! answers that may be exceptions: v1 the class's (1: thrown), th the reference's; lw the class's value -/
theorem an_at (hv0 : gInv (gW g (I, AI)) (ghF 0 (hG (gZ g))) R1 AR I1 AI1) (hP : lP8 g I AR AI pA nr tbs cc cl) (hQ : lQ8 g I AR AI bA nA nr tbs cc cl) {row pl th : Int} {lw : Int64}
    (c : (v1 = 0 ∧ ∃ v9 : Int, (((0 ≤ rel ∧ rel < (nr : Int)) ∧ (pl = 4 ∨ (0 ≤ pl ∧ pl < (cc rel.toNat).1 1)) ∧ 0 ≤ row ∧ row < (((rfC (hG (gZ g)) AR I AI bA rel.toNat).1 : Nat) : Int)) ∧ v9 = ((rfC (hG (gZ g)) AR I AI bA rel.toNat).2 (6 * row.toNat + pl.toNat)).toInt) ∧ zr v9 ∧ lw = (iI v9).toInt64) ∨ (v1 = 1 ∧ ¬ ((0 ≤ rel ∧ rel < (nr : Int)) ∧ (pl = 4 ∨ (0 ≤ pl ∧ pl < (cc rel.toNat).1 1)) ∧ 0 ≤ row ∧ row < (((rfC (hG (gZ g)) AR I AI bA rel.toNat).1 : Nat) : Int))))
    (m : (th = 1 ∧ v2 = 0 ∧ ¬ (tdM (AI1 (hGm (gZ g) 50 0)) nr rel pl ∧ 0 ≤ row ∧ row < (((rfM (hGm (gZ g)) AI1 0 rel.toNat).1 : Nat) : Int))) ∨ (th = 0 ∧ (tdM (AI1 (hGm (gZ g) 50 0)) nr rel pl ∧ 0 ≤ row ∧ row < (((rfM (hGm (gZ g)) AI1 0 rel.toNat).1 : Nat) : Int)) ∧ v2 = ((rfM (hGm (gZ g)) AI1 0 rel.toNat).2 (6 * row.toNat + pl.toNat)).toInt)) : v1 = th ∧ (v1 = 0 → lw = (iI v2).toInt64) := by
  rw [e_rf hv0] at m
  by_cases hr : 0 ≤ rel ∧ rel < (nr : Int)
  · have k := m_kd hv0 hP hr
    have w := hQ.1.2.1 rel.toNat (by omega)
    have w1 : (rfC (hG (gZ g)) AR I AI bA rel.toNat).1 = (rfM (hGm (gZ g)) AI 0 rel.toNat).1 := w.1
    have c4 := (hP.2.2.2.2.2 rel.toNat (by omega)).2
    unfold tdM at m
    rw [k.2.1, ← w1] at m
    rcases c with ⟨a1, v9, ⟨a2, a3⟩, a4, a5⟩ | ⟨a1, a2⟩
    · rcases m with ⟨b1, b2, b3⟩ | ⟨b1, b2, b3⟩
      · exact absurd ⟨⟨a2.1, a2.2.1⟩, a2.2.2⟩ b3
      · have e := rwA_at w.2 (show 6 * row.toNat + pl.toNat < 6 * _ by have := a2.2.1; have := a2.2.2; omega)
        refine ⟨by omega, fun _ => ?_⟩
        rw [a5, a3, b3, e]; rfl
    · rcases m with ⟨b1, b2, b3⟩ | ⟨b1, b2, b3⟩
      · exact ⟨by omega, fun h => absurd h (by omega)⟩
      · exact absurd ⟨b2.1.1, b2.1.2, b2.2⟩ a2
  · rcases c with ⟨_, _, ⟨a2, _⟩, _⟩ | ⟨a1, _⟩
    · exact absurd a2.1 hr
    · rcases m with ⟨b1, _⟩ | ⟨_, b2, _⟩
      · exact ⟨by omega, fun h => absurd h (by omega)⟩
      · exact absurd b2.1.1 hr
theorem an_movedAt (hv0 : gInv (gW g (I, AI)) (ghF 0 (hG (gZ g))) R1 AR I1 AI1) (hP : lP8 g I AR AI pA nr tbs cc cl) (hQ : lQ8 g I AR AI bA nA nr tbs cc cl) {row pl th : Int} {lw : Int64}
    (c : (v1 = 0 ∧ ∃ v9 : Int, (((0 ≤ rel ∧ rel < (nr : Int)) ∧ (pl = 4 ∨ (0 ≤ pl ∧ pl < (cc rel.toNat).1 1)) ∧ 0 ≤ row ∧ row < (((rfC (hG (gZ g)) AR I AI (hG (gZ g) 35 0) rel.toNat).1 : Nat) : Int)) ∧ v9 = ((rfC (hG (gZ g)) AR I AI (hG (gZ g) 35 0) rel.toNat).2 (6 * row.toNat + pl.toNat)).toInt) ∧ zr v9 ∧ lw = (iI v9).toInt64) ∨ (v1 = 1 ∧ ¬ ((0 ≤ rel ∧ rel < (nr : Int)) ∧ (pl = 4 ∨ (0 ≤ pl ∧ pl < (cc rel.toNat).1 1)) ∧ 0 ≤ row ∧ row < (((rfC (hG (gZ g)) AR I AI (hG (gZ g) 35 0) rel.toNat).1 : Nat) : Int))))
    (m : (th = 1 ∧ v2 = 0 ∧ ¬ (tdM (AI1 (hGm (gZ g) 50 0)) nr rel pl ∧ 0 ≤ row ∧ row < ((bgN (mvF (hGm (gZ g)) AI1 rel.toNat) : Nat) : Int))) ∨ (th = 0 ∧ (tdM (AI1 (hGm (gZ g) 50 0)) nr rel pl ∧ 0 ≤ row ∧ row < ((bgN (mvF (hGm (gZ g)) AI1 rel.toNat) : Nat) : Int)) ∧ ∃ f : Nat → Int32, isB f (bgN (mvF (hGm (gZ g)) AI1 rel.toNat)) (mvF (hGm (gZ g)) AI1 rel.toNat) zM ∧ v2 = (f (6 * row.toNat + pl.toNat)).toInt)) : v1 = th ∧ (v1 = 0 → lw = (iI v2).toInt64) := by
  by_cases hr : 0 ≤ rel ∧ rel < (nr : Int)
  · have k := m_kd hv0 hP hr
    have e : mvF (hGm (gZ g)) AI1 rel.toNat = mv8 (rsM (hGm (gZ g)) AI 0) (rsM (hGm (gZ g)) AI 9) rel.toNat := by unfold mvF; rw [e_rf hv0]; rfl
    have w := (hQ.2.2.1 rel.toNat (by omega)).1
    rw [m_mv hv0 hQ (by omega), e] at m
    have c4 := (hP.2.2.2.2.2 rel.toNat (by omega)).2
    unfold tdM at m
    rw [k.2.1] at m
    rcases c with ⟨a1, v9, ⟨a2, a3⟩, a4, a5⟩ | ⟨a1, a2⟩
    · rcases m with ⟨b1, b2, b3⟩ | ⟨b1, b2, f9, b3, b4⟩
      · exact absurd ⟨⟨a2.1, a2.2.1⟩, a2.2.2⟩ b3
      · have u := (isW_u w b3 (fun _ _ => rfl) (fun _ _ => rfl)).2
        have e := rwA_at u (show 6 * row.toNat + pl.toNat < 6 * _ by have := a2.2.1; have := a2.2.2; omega)
        refine ⟨by omega, fun _ => ?_⟩
        rw [a5, a3, b4, e]
    · rcases m with ⟨b1, b2, b3⟩ | ⟨b1, b2, f9, b3, b4⟩
      · exact ⟨by omega, fun h => absurd h (by omega)⟩
      · exact absurd ⟨b2.1.1, b2.1.2, b2.2⟩ a2
  · rcases c with ⟨_, _, ⟨a2, _⟩, _⟩ | ⟨a1, _⟩
    · exact absurd a2.1 hr
    · rcases m with ⟨b1, _⟩ | ⟨_, b2, _⟩
      · exact ⟨by omega, fun h => absurd h (by omega)⟩
      · exact absurd b2.1.1 hr
theorem an_count (hv0 : gInv (gW g (I, AI)) (ghF 0 (hG (gZ g))) R1 AR I1 AI1) (hP : lP8 g I AR AI pA nr tbs cc cl) (hQ : lQ8 g I AR AI bA nA nr tbs cc cl) {a b c' d th : Int} {lw : Int64}
    (c : (v1 = 0 ∧ ∃ v9 : Int, ((0 ≤ rel ∧ rel < (nr : Int)) ∧ v9 = (bS (rfC (hG (gZ g)) AR I AI bA rel.toNat).2 (rfC (hG (gZ g)) AR I AI bA rel.toNat).1 (kyT ((cc rel.toNat).1 1) a b c' d)).toInt) ∧ zr v9 ∧ lw = (iI v9).toInt64) ∨ (v1 = 1 ∧ (rel < 0 ∨ (nr : Int) ≤ rel)))
    (m : ((rel < 0 ∨ (nr : Int) ≤ rel) ∧ th = 1 ∧ v2 = 0) ∨ ((0 ≤ rel ∧ rel < (nr : Int)) ∧ th = 0 ∧ v2 = (bS (rfM (hGm (gZ g)) AI1 0 rel.toNat).2 (rfM (hGm (gZ g)) AI1 0 rel.toNat).1 (kyT (tI (AI1 (hGm (gZ g) 50 0)) (40 * rel + 1)) a b c' d)).toInt)) : v1 = th ∧ (v1 = 0 → lw = (iI v2).toInt64) := by
  rw [e_rf hv0] at m
  rcases c with ⟨a1, v9, ⟨a2, a3⟩, a4, a5⟩ | ⟨a1, a2⟩
  · rcases m with ⟨b1, _⟩ | ⟨b1, b2, b3⟩
    · exfalso; omega
    · refine ⟨by omega, fun _ => ?_⟩
      have w := congrFun (oS_c (hQ.1.2.1 rel.toNat (by omega))) (kyT ((cc rel.toNat).1 1) a b c' d)
      have w2 : bS (rfC (hG (gZ g)) AR I AI bA rel.toNat).2 (rfC (hG (gZ g)) AR I AI bA rel.toNat).1 (kyT ((cc rel.toNat).1 1) a b c' d) = bS (rfM (hGm (gZ g)) AI 0 rel.toNat).2 (rfM (hGm (gZ g)) AI 0 rel.toNat).1 (kyT ((cc rel.toNat).1 1) a b c' d) := w
      rw [(m_kd hv0 hP b1).2.1, ← w2] at b3
      rw [a5, a3, b3]
  · rcases m with ⟨_, b1, _⟩ | ⟨b1, _⟩
    · exact ⟨by omega, fun h => absurd h (by omega)⟩
    · exfalso; omega
theorem an_total (hv0 : gInv (gW g (I, AI)) (ghF 0 (hG (gZ g))) R1 AR I1 AI1) (hQ : lQ8 g I AR AI bA nA nr tbs cc cl) {th : Int} {lw : Int64}
    (c : (v1 = 0 ∧ ∃ v9 : Int, ((0 ≤ rel ∧ rel < (nr : Int)) ∧ iI v9 = smA (rfC (hG (gZ g)) AR I AI bA rel.toNat).2 (rfC (hG (gZ g)) AR I AI bA rel.toNat).1) ∧ zr v9 ∧ lw = (iI v9).toInt64) ∨ (v1 = 1 ∧ (rel < 0 ∨ (nr : Int) ≤ rel)))
    (m : ((rel < 0 ∨ (nr : Int) ≤ rel) ∧ th = 1 ∧ v2 = 0) ∨ ((0 ≤ rel ∧ rel < (nr : Int)) ∧ th = 0 ∧ iI v2 = smA (rfM (hGm (gZ g)) AI1 0 rel.toNat).2 (rfM (hGm (gZ g)) AI1 0 rel.toNat).1)) : v1 = th ∧ (v1 = 0 → lw = (iI v2).toInt64) := by
  rw [e_rf hv0] at m
  rcases c with ⟨a1, v9, ⟨a2, a3⟩, a4, a5⟩ | ⟨a1, a2⟩
  · rcases m with ⟨b1, _⟩ | ⟨b1, b2, b3⟩
    · exfalso; omega
    · refine ⟨by omega, fun _ => ?_⟩
      have w := hQ.1.2.1 rel.toNat (by omega)
      have w1 : (rfC (hG (gZ g)) AR I AI bA rel.toNat).1 = (rfM (hGm (gZ g)) AI 0 rel.toNat).1 := w.1
      rw [a5, a3, b3, ← w1]
      exact congrArg _ (smA_c _ w.2)
  · rcases m with ⟨_, b1, _⟩ | ⟨b1, _⟩
    · exact ⟨by omega, fun h => absurd h (by omega)⟩
    · exfalso; omega
end An8
