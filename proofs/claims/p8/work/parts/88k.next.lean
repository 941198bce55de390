/-! the bags that come next: who is who, what stays -/
def rsD (AR : gR) (b n : Nat) : Prop := ∀ i j, i < n → j < n → rob AR b i = rob AR b j → i = j
def rsX (AR : gR) (b n b' n' : Nat) : Prop := ∀ i j, i < n → j < n' → rob AR b i ≠ rob AR b' j
def nIf (gh : gGh) (AR : gR) (nA : Nat) (I I' : gI) : Prop := ∀ b, b ≠ gh 39 0 → (∀ r, r < 16 → rob AR nA r ≠ b) → I' b = I b
def nAf (gh : gGh) (AR : gR) (nA : Nat) (AI AI' : gI) : Prop := ∀ b, b ≠ gh 0 (gh 39 0) → (∀ r, r < 16 → gh 0 (rob AR nA r) ≠ b) → b ≠ gh 29 0 → b ≠ gh 30 0 → b ≠ gh 31 0 → b ≠ gh 32 0 → AI' b = AI b
section Next
variable {g : gG} {gh : gGh} {R AR : gR} {I I' I'' AI AI' AI'' I0 AI0 : gI} {nA bA b o q r n : Nat}
theorem nIf_r : nIf gh AR nA I I := fun _ _ _ => rfl
theorem nIf_t (h : nIf gh AR nA I I') (h' : nIf gh AR nA I' I'') : nIf gh AR nA I I'' := fun b a c => (h' b a c).trans (h b a c)
theorem nAf_r : nAf gh AR nA AI AI := fun _ _ _ _ _ _ _ => rfl
theorem nAf_t (h : nAf gh AR nA AI AI') (h' : nAf gh AR nA AI' AI'') : nAf gh AR nA AI AI'' := fun b a c d e f k => (h' b a c d e f k).trans (h b a c d e f k)
theorem nIf_n (hr : r < 16) (h : ∀ b, b ≠ rob AR nA r → I' b = I b) : nIf gh AR nA I I' := fun b _ c => h b (fun e => c r hr e.symm)
theorem nAf_n (hr : r < 16) (h : ∀ b, b ≠ gh 0 (rob AR nA r) → AI' b = AI b) : nAf gh AR nA AI AI' := fun b _ c _ _ _ _ => h b (fun e => c r hr e.symm)
theorem nAf_k (hr : r < 16) (h : kA gh (rob AR nA r) AI AI') : nAf gh AR nA AI AI' := fun b _ c _ e f k => h b (fun e => c r hr e.symm) e f k
theorem nIf_c (h : ∀ b, b ≠ gh 39 0 → I' b = I b) : nIf gh AR nA I I' := fun b a _ => h b a
theorem nAf_c (h : ∀ b, b ≠ gh 0 (gh 39 0) → b ≠ gh 29 0 → AI' b = AI b) : nAf gh AR nA AI AI' := fun b a _ d _ _ _ => h b a d
theorem nAf_y (h : ∀ b, b ≠ gh 29 0 → AI' b = AI b) : nAf gh AR nA AI AI' := fun b _ _ d _ _ _ => h b d
theorem isRA_o {lim key : Nat} (h : isRA g gh AR b n lim key) (hr : r < n) : AR b r = some (rob AR b r) ∧ gO g (rob AR b r) 4 ∧ gh 1 (rob AR b r) = lim ∧ gh 2 (rob AR b r) = key := by
  obtain ⟨y, a, c, d, e, _⟩ := h.2 r hr
  rw [rob_e a]; exact ⟨a, c, d, e⟩
theorem rfC_k (hI : I' (rob AR b r) = I (rob AR b r)) (hA : AI' (gh 0 (rob AR b r)) = AI (gh 0 (rob AR b r))) : rfC gh AR I' AI' b r = rfC gh AR I AI b r := by unfold rfC; rw [hI, hA]
/-- a Rows that is none of those that change stays -/
theorem nAf_o (f : nAf gh AR nA AI AI') (hv : gInv g gh R AR I0 AI0) {x : Nat} (hx : gO g x 6) (ho : gO g o 4) (hn : isRA g gh AR nA 16 120 4) (h39 : o ≠ gh 39 0) (hne : ∀ r, r < 16 → rob AR nA r ≠ o) : AI' (gh 0 o) = AI (gh 0 o) := by
  have a := gR_x4 hv hx
  have k := cells_k hv a.2 ho
  have t := gR_x10 hv hx
  refine f _ (cells_ne hv t.2.1 ho h39) (fun r hr e => ?_) (ne_9 (cells_9 hv ho) (ro29 hv hx) (by decide)) k.1 k.2.1 k.2.2
  have q := isRA_o hn hr
  exact cells_ne hv ho q.2.1 (hne r hr) e
theorem nAf_ln (f : nAf gh AR nA AI AI') (hv : gInv g gh R AR I0 AI0) {x ln : Nat} (hx : gO g x 6) (hl : gO g ln 0) (hn : isRA g gh AR nA 16 120 4) : AI' (gh 3 ln) = AI (gh 3 ln) := by
  have a := gR_x4 hv hx
  have t := gR_x10 hv hx
  have l9 := ln_9 hv hl
  refine f _ (ne_9 l9 (cells_9 hv t.2.1) (by decide)) (fun r hr e => ?_) (ne_9 l9 (ro29 hv hx) (by decide)) (ne_9 l9 (ro30 hv a.2) (by decide)) (ne_9 l9 (ro31 hv a.2) (by decide)) (ne_9 l9 (ro32 hv a.2) (by decide))
  exact ne_9 (cells_9 hv (isRA_o hn hr).2.1) l9 (by decide) e
end Next
section StP
variable {tbs : Int} {nr r q : Nat} {c : Nat → LC} {T : Nat → Tup → Int32} {F F' : RF} {cl : Nat → Int} {f : Nat → Int32} {n : Nat} {sg : Int}
theorem stP_k (hl : cLt tbs nr c) (hq : q < nr) (h : ∀ p, p ≤ q → F' p = F p) (a : stP tbs c T F q) : stP tbs c T F' q := by
  unfold stP at a ⊢
  rw [h q (Nat.le_refl _)]
  by_cases w : (q : Int) < tbs
  · rw [if_pos w] at a ⊢; exact a
  · rw [if_neg w] at a ⊢
    have l := hl q hq (by omega)
    refine vwP_c ?_ ?_ a
    · unfold rfA; rw [h ((c q).1 2).toNat (by omega)]; exact ⟨rfl, rwA_r⟩
    · unfold rfA; rw [h ((c q).1 3).toNat (by omega)]; exact ⟨rfl, rwA_r⟩
/-- a batch's changes have 0 beyond their tables' columns -/
def btZ (cl : Nat → Int) (f : Nat → Int32) (n : Nat) : Prop := ∀ i, i < n → zT (cl (f (6 * i)).toInt.toNat) (btu f i)
theorem cS_z {r : Nat} (hz : btZ cl f n) {t : Tup} : ∀ m, m ≤ n → cS f (r : Int) m t ≠ 0 → zT (cl r) t
  | 0, _, h => absurd rfl h
  | m + 1, hm, h => by
    rw [cS] at h
    by_cases w : (f (6 * m)).toInt = (r : Int) ∧ btu f m = t
    · have := hz m (by omega)
      rw [w.1, w.2] at this
      exact this
    · rw [if_neg w] at h
      exact cS_z hz m (by omega) h
theorem tb_ok {k : Nat} {g : Nat → Int32} (hF : zB (cl r) (F r).2 (F r).1) (hz : btZ cl f n) (h : isB g k (tbS f n F sg r) zM) (hk : k ≤ 120) : okB g k ∧ k ≤ 120 ∧ zB (cl r) g k := by
  refine ⟨okB_of h, hk, zB_of h (fun t ht => ?_)⟩
  have ht : bS (F r).2 (F r).1 t + iI sg * cS f (r : Int) n t ≠ 0 := ht
  by_cases w : bS (F r).2 (F r).1 t = 0
  · by_cases v : cS f (r : Int) n t = 0
    · rw [w, v, Int32.mul_zero, Int32.add_zero] at ht; exact absurd rfl ht
    · exact cS_z hz n (Nat.le_refl _) v
  · exact bS_z hF w
end StP
