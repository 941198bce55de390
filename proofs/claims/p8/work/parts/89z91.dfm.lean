/-! the reference: reckoned afresh -/
def dfI (gh : gGh) (AI AI' : gI) (nr : Nat) : Prop := ∀ q : Nat, q < nr → rfA (rfM gh AI' 10) (rfM gh AI 0) q
theorem bgOK_f {F F' : RF} {cl : Nat → Int} {q : Nat} (h : rfA F F' q) (b : bgOK F' cl q) : bgOK F cl q := by
  obtain ⟨h1, h2⟩ := h
  obtain ⟨b1, b2, b3⟩ := b
  refine ⟨?_, by omega, fun i hi => ?_⟩
  · rw [h1] at h2 ⊢; exact okB_c h2 b1
  · have e := rwS_t (h2 i hi)
    rw [e]; exact b3 i (by omega)
section Dfm
variable {gh : gGh} {AI AI' AI2 : gI} {nr k : Nat} {z : Int} {cc : Nat → LC} {cl : Nat → Int}
theorem df_0 (h : ∀ q : Nat, q < 16 → rfM gh AI' 10 q = rfM gh AI 0 q) (hn : nr ≤ 16) : dfI gh AI AI' nr := fun q hq => by
  unfold rfA; rw [h q (by omega)]; exact ⟨rfl, rwA_r⟩
theorem df_s (h : dfI gh AI AI' nr) (hk : k < nr) (hn : nr ≤ 16) (q : rkM gh 10 (k : Int) AI' AI2) (vw : vwP (cc k) (rfM gh AI' 10) z (rfM gh AI2 10 k).2 (rfM gh AI2 10 k).1) (hv : vwP (cc k) (rfM gh AI 0) 0 (rfM gh AI 0 k).2 (rfM gh AI 0 k).1) (hc : cOK (cc k) k cl) : z = 0 ∧ dfI gh AI AI2 nr := by
  have c1 := hc.1
  have v2 := vwP_c (h ((cc k).1 2).toNat (by omega)) (h ((cc k).1 3).toNat (by omega)) vw
  have u := vwP_u hv v2
  refine ⟨u.1.symm, fun p hp => ?_⟩
  by_cases w : p = k
  · subst w
    have u2 := u.2 rfl
    refine ⟨u2.1.symm, ?_⟩
    rw [← u2.1]; exact rwA_s u2.2
  · unfold rfA
    rw [rk_F q ⟨by omega, by omega, by omega⟩ ⟨by omega, by omega⟩ (Or.inr (by omega))]; exact h p hp
theorem df_g (h : dfI gh AI AI' nr) (hk : k < nr) (b : bgOK (rfM gh AI 0) cl k) : bgOK (rfM gh AI' 10) cl k := bgOK_f (h k hk) b
/-- row i of what is, row j of what was reckoned -/
theorem df_e {f f' : Nat → Int32} {n i j : Nat} (ok : okB f n) (h : rwA f' f n) (hi : i < n) (hj : j < n) : (tup f i = tup f' j ↔ i = j) := by
  rw [rwS_t (h j hj)]
  exact ⟨fun e => srtB_ne ok.1 hi hj e, fun e => by rw [e]⟩
theorem df_4 {f f' : Nat → Int32} {n i : Nat} (h : rwA f' f n) (hi : i < n) : f' (6 * i + 4) = f (6 * i + 4) := h i hi 4 (by omega)
end Dfm
/-- what came to a view -/
noncomputable def ctF (gh : gGh) (AI : gI) (cc : Nat → LC) (r : Nat) : Int := ((bgN (mvF gh AI ((cc r).1 2).toNat) : Nat) : Int) + (if (cc r).1 3 < 0 then 0 else ((bgN (mvF gh AI ((cc r).1 3).toNat) : Nat) : Int))
