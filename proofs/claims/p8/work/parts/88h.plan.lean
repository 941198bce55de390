/-! the relations of a plan -/
def rob (AR : gR) (b r : Nat) : Nat := (AR b r).getD 0
theorem rob_e {AR : gR} {b r y : Nat} (h : AR b r = some y) : rob AR b r = y := by unfold rob; rw [h]; rfl
/-- what an array of bags has -/
def rfC (gh : gGh) (AR : gR) (I AI : gI) (b : Nat) : RF := fun r => ((I (rob AR b r) 3).toInt.toNat, AI (gh 0 (rob AR b r)))
def cOK (c : LC) (r : Nat) (cl : Nat → Int) : Prop :=
  (1 ≤ c.1 0 ∧ c.1 0 ≤ 8 ∧ 0 ≤ c.1 2 ∧ c.1 2 < (r : Int) ∧ -1 ≤ c.1 3 ∧ c.1 3 < (r : Int)) ∧ ((c.1 0 = 3 ∨ c.1 0 = 4 ∨ c.1 0 = 5 ∨ c.1 0 = 8) → 0 ≤ c.1 3) ∧
  (c.1 0 = 2 → 0 ≤ c.1 4 ∧ ∀ k : Nat, (k : Int) < c.1 4 → c.2 k 0 < 4) ∧ (c.1 0 = 3 → jOK c ∧ c.1 5 = cl (c.1 2).toNat ∧ c.1 6 = cl (c.1 3).toNat) ∧
  (c.1 0 = 7 → (0 ≤ c.1 4 ∧ c.1 4 ≤ 3) ∧ (0 ≤ c.1 9 ∧ c.1 9 ≤ 3) ∧ 0 ≤ c.1 10 ∧ c.1 10 ≤ 3) ∧ (c.1 0 = 8 → rOK c ∧ c.1 5 = cl (c.1 2).toNat ∧ c.1 6 = cl (c.1 3).toNat)
/-- the columns of a view -/
def cZ (c : LC) (r : Nat) (cl : Nat → Int) : Prop :=
  (c.1 0 = 1 ∨ c.1 0 = 6 → cl r = cl (c.1 2).toNat) ∧ (c.1 0 = 4 ∨ c.1 0 = 5 → cl r = cl (c.1 2).toNat ∧ cl (c.1 3).toNat = cl (c.1 2).toNat) ∧ (c.1 0 = 2 → cl r = c.1 4) ∧ (c.1 0 = 3 → cl r = c.1 5 + jc c (c.1 6).toNat) ∧ (c.1 0 = 7 → cl r = c.1 4 + 1) ∧ (c.1 0 = 8 → cl r = c.1 5)
def bgOK (F : RF) (cl : Nat → Int) (r : Nat) : Prop := okB (F r).2 (F r).1 ∧ (F r).1 ≤ 120 ∧ zB (cl r) (F r).2 (F r).1
section Vw
variable {c : LC} {F : RF} {x y f : Nat → Int32} {n m k r : Nat} {z len : Int} {cl : Nat → Int} {t : Tup}
theorem vw_1 (hk : c.1 0 = 1 ∨ c.1 0 = 2 ∨ c.1 0 = 6) (h1 : F (c.1 2).toNat = (n, x)) (h : z = 0 ∧ isB f len.toNat (sR (vK c) (vA c) x n s0T) zM ∧ len ≤ (n : Int)) (hn : n ≤ 120) : vwP c F z f len.toNat := by
  unfold vwP
  rw [if_neg (by omega)]
  refine Or.inl ⟨h.1, fun q => by have := q.1; omega, ?_, by omega⟩
  unfold vS
  rw [if_neg (by omega), if_neg (by omega), if_neg (by omega), if_neg (by omega), h1]
  exact h.2.1
theorem vw_7 (hk : c.1 0 = 7) (h1 : F (c.1 2).toNat = (n, x)) (h : z = 0 ∧ isB f len.toNat (sG c x n) zM ∧ len ≤ (n : Int)) (hn : n ≤ 120) : vwP c F z f len.toNat := by
  unfold vwP
  rw [if_neg (by omega)]
  refine Or.inl ⟨h.1, fun q => by have := q.1; omega, ?_, by omega⟩
  unfold vS
  rw [if_neg (by omega), if_neg (by omega), if_neg (by omega), if_pos hk, h1]
  exact h.2.1
theorem vw_8 (hk : c.1 0 = 8) (h1 : F (c.1 2).toNat = (n, x)) (h2 : F (c.1 3).toNat = (m, y)) (h : rgP c x n y m z f k) : vwP c F z f k := by
  unfold vwP
  rw [if_pos hk, h1, h2]; exact h
theorem vw_3 (hk : c.1 0 = 3) (h1 : F (c.1 2).toNat = (n, x)) (h2 : F (c.1 3).toNat = (m, y)) (h : (z = 0 ∧ ¬ 1500 < pJ c x y m n ∧ isB f len.toNat (sJ c x y m n) zM ∧ len ≤ 120) ∨ (z = -3 ∧ (1500 < pJ c x y m n ∨ bigP 120 (fun t => sJ c x y m n t ≠ 0)))) : vwP c F z f len.toNat := by
  have es : vS c F = sJ c x y m n := by unfold vS; rw [if_pos hk, h1, h2]
  have em : vMany c F ↔ 1500 < pJ c x y m n := by unfold vMany; rw [h1, h2]; exact ⟨fun q => q.2, fun q => ⟨hk, q⟩⟩
  unfold vwP
  rw [if_neg (by omega), es, em]
  rcases h with ⟨a, b, d, e⟩ | h
  · exact Or.inl ⟨a, b, d, by omega⟩
  · exact Or.inr h
theorem vw_4 {sg : Int} {w : Int} (hk : (c.1 0 = 4 ∧ sg = 1) ∨ (c.1 0 = 5 ∧ sg = -1)) (h1 : F (c.1 2).toNat = (n, x)) (h2 : F (c.1 3).toNat = (m, y)) (h : (w = 1 ∧ isB f len.toNat (fun t => bS x n t + iI sg * bS y m t) zM) ∨ (w = 0 ∧ bigP 120 (fun t => bS x n t + iI sg * bS y m t ≠ 0))) (hl : len ≤ 120) (hz : (w = 1 ∧ z = 0) ∨ (w = 0 ∧ z = -3)) : vwP c F z f len.toNat := by
  have es : vS c F = fun t => bS x n t + iI sg * bS y m t := by
    unfold vS
    rcases hk with ⟨a, b⟩ | ⟨a, b⟩
    · rw [if_neg (by omega), if_pos a, h1, h2, b]
    · rw [if_neg (by omega), if_neg (by omega), if_pos a, h1, h2, b]
  unfold vwP
  rw [if_neg (by omega), es]
  rcases h with ⟨a, b⟩ | ⟨a, b⟩
  · exact Or.inl ⟨by omega, fun q => by have := q.1; omega, b, by omega⟩
  · exact Or.inr ⟨by omega, Or.inr b⟩
/-! what a view has is a bag again, 0 beyond its columns -/
theorem zT_m {a b : Int} {t : Tup} (h : a ≤ b) (k : zT a t) : zT b t := fun j h1 h2 => k j (by omega) h2
theorem zB_of {cols : Int} {f : Nat → Int32} {n : Nat} {P : Tup → Prop} {S M : Tup → Int32} (a : isW f n P S M) (h : ∀ t, P t → zT cols t) : zB cols f n := fun i hi => h _ (a.2.1 i hi).1
theorem trT_z {h : Nat → Int32} : zT (c.1 4) (trT c h) := fun k h1 h2 => by unfold trT; rw [tg_mk k h2, if_neg (by omega)]
theorem jn_z {u : Tup} (h5 : 0 ≤ c.1 5) (h6 : c.1 5 ≤ 4) : zT (c.1 5 + jc c (c.1 6).toNat) (jn c t u) := fun k h1 h2 => by
  unfold jn
  rw [tg_mk k h2, if_neg (by omega), jat_n _ (by omega)]
theorem bS_z {cols : Int} (h : zB cols f n) (hs : bS f n t ≠ 0) : zT cols t := by
  apply Classical.byContradiction
  intro q
  exact hs (bS_n n (fun i hi e => q (by rw [← e]; exact h i hi)))
theorem vw_ok (hc : cOK c r cl) (hz : cZ c r cl) (hb : ∀ q, q < r → bgOK F cl q) (h : vwP c F 0 f k) : okB f k ∧ k ≤ 120 ∧ zB (cl r) f k := by
  obtain ⟨⟨k1, k2, k3, k4, k5, k6⟩, k7, k8, k9, k10, k11⟩ := hc
  obtain ⟨z1, z4, z2, z3, z7, z8⟩ := hz
  have b1 := hb (c.1 2).toNat (by omega)
  unfold vwP at h
  by_cases w8 : c.1 0 = 8
  · rw [if_pos w8] at h
    rcases h with ⟨_, R, h1, h2, h3, h4, M, h5, h6⟩ | ⟨h, _⟩ | ⟨h, _⟩
    · refine ⟨⟨h5.1, fun i hi => by rw [(h5.2.1 i hi).2.1]; exact (by decide : (1 : Int32) ≠ 0)⟩, h4, ?_⟩
      rw [z8 w8]
      obtain ⟨hr, e5, e6⟩ := k11 w8
      refine zB_of h5 (fun t ht => ?_)
      obtain ⟨q, _, e⟩ := rS_at R t ht
      cases q with
      | zero =>
        obtain ⟨i, hi, _, e⟩ := e
        rw [← e, e5]; exact b1.2.2 i hi
      | succ q =>
        obtain ⟨⟨s, _, j, _, _, _, e⟩, _⟩ := e
        rw [← e, ← hr.2.2.2.1]; exact trT_z
    · exact absurd h (by decide)
    · exact absurd h (by decide)
  · rw [if_neg w8] at h
    rcases h with ⟨_, _, h1, h2⟩ | ⟨h, _⟩
    · refine ⟨okB_of h1, h2, zB_of h1 (fun t ht => ?_)⟩
      have ht : vS c F t ≠ 0 := ht
      unfold vS at ht
      by_cases w3 : c.1 0 = 3
      · rw [if_pos w3] at ht
        obtain ⟨i, j, _, _, _, e⟩ := sJ_supp _ _ ht
        rw [← e, z3 w3]; exact jn_z (k9 w3).1.1 (k9 w3).1.2.1
      · rw [if_neg w3] at ht
        by_cases w4 : c.1 0 = 4 ∨ c.1 0 = 5
        · have b2 := hb (c.1 3).toNat (by have := k7 (by omega); omega)
          have e := z4 w4
          have hor : bS (F (c.1 2).toNat).2 (F (c.1 2).toNat).1 t ≠ 0 ∨ bS (F (c.1 3).toNat).2 (F (c.1 3).toNat).1 t ≠ 0 := by
            by_cases q : bS (F (c.1 2).toNat).2 (F (c.1 2).toNat).1 t = 0
            · refine Or.inr (fun q2 => ?_)
              rcases w4 with w | w
              · rw [if_pos w] at ht
                have ht : bS (F (c.1 2).toNat).2 (F (c.1 2).toNat).1 t + iI 1 * bS (F (c.1 3).toNat).2 (F (c.1 3).toNat).1 t ≠ 0 := ht
                rw [q, q2, Int32.mul_zero, Int32.add_zero] at ht; exact ht rfl
              · rw [if_neg (by omega), if_pos w] at ht
                have ht : bS (F (c.1 2).toNat).2 (F (c.1 2).toNat).1 t + iI (-1) * bS (F (c.1 3).toNat).2 (F (c.1 3).toNat).1 t ≠ 0 := ht
                rw [q, q2, Int32.mul_zero, Int32.add_zero] at ht; exact ht rfl
            · exact Or.inl q
          rcases hor with q | q
          · rw [e.1]; exact bS_z b1.2.2 q
          · rw [e.1, ← e.2]; exact bS_z b2.2.2 q
        · rw [if_neg (by omega), if_neg (by omega)] at ht
          by_cases w7 : c.1 0 = 7
          · rw [if_pos w7] at ht
            obtain ⟨i, hi, e⟩ := pI_ne ht
            have k10 := k10 w7
            rw [← e, z7 w7]
            intro j h1 h2
            unfold gTp
            rw [tg_ts h2, if_neg (by omega)]
            exact gk_z (by omega) h2
          · rw [if_neg w7] at ht
            rcases sR_supp _ _ ht with q | ⟨j, hj, _, e⟩
            · exact absurd rfl q
            · rw [← e]
              by_cases w2 : c.1 0 = 2
              · rw [vK_2 w2, z2 w2]; exact trT_z
              · rw [vK_id w2, z1 (by omega)]; exact b1.2.2 j hj
    · exact absurd h (by decide)
end Vw
