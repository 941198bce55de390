/-! one line as told, by tokens -/
section Lct
variable (b : tTx) (n : Nat) (nt : Nat → Nat) (cl : Nat → Int) (r : Nat)
def lcF : Int := if kdT b n (nt r) = 0 then -1 else pFd b n nt r (nt r + 3)
def lcS : Int := if kdT b n (nt r) = 3 ∨ kdT b n (nt r) = 4 ∨ kdT b n (nt r) = 5 then pFd b n nt r (nt r + 3 + 1) else if kdT b n (nt r) = 8 then pFd b n nt r (nt r + 3 + 2) else -1
def lcN : Nat := if kdT b n (nt r) = 1 then iCnt nxT (spA b n) 9 (nt r + 3 + 2) else if kdT b n (nt r) = 2 then iCnt (nxE b n) (spC b n) 5 (nt r + 3 + 1) else if kdT b n (nt r) = 3 then iCnt nxT (spC b n) 5 (nt r + 3 + 3)
  else if kdT b n (nt r) = 7 then iCnt nxB (spC b n) 4 (nt r + 3 + 2) else if kdT b n (nt r) = 8 then iCnt (nxE b n) (spC b n) 5 (nt r + 3 + 8) else 0
def lcO : Nat := nxB (iPos nxB (nt r + 3 + 2) (lcN b n nt r - 1))
def lcP (k w : Nat) : Int :=
  if kdT b n (nt r) = 1 then (if w = 0 then pV b n (iPos nxT (nt r + 3 + 2) k) else if w = 1 then pK b n (iPos nxT (nt r + 3 + 2) k + 1) else if w = 2 then (if pK b n (iPos nxT (nt r + 3 + 2) k + 2) = 4 then -1 else pV b n (iPos nxT (nt r + 3 + 2) k + 2)) else pV b n (iPos nxT (nt r + 3 + 2) k + 2))
  else if kdT b n (nt r) = 2 then (if w = 0 then teC b n (iPos (nxE b n) (nt r + 3 + 1) k) else teN b n (iPos (nxE b n) (nt r + 3 + 1) k))
  else if kdT b n (nt r) = 3 then (if w = 0 then pV b n (iPos nxT (nt r + 3 + 3) k) else pV b n (iPos nxT (nt r + 3 + 3) k + 2))
  else if kdT b n (nt r) = 7 then pV b n (iPos nxB (nt r + 3 + 2) k)
  else (if w = 0 then teC b n (iPos (nxE b n) (nt r + 3 + 8) k) else teN b n (iPos (nxE b n) (nt r + 3 + 8) k))
def lcA : Nat → Int
  | 0 => kdT b n (nt r)
  | 1 => cl r
  | 2 => lcF b n nt r
  | 3 => lcS b n nt r
  | 4 => ((lcN b n nt r : Nat) : Int)
  | 5 => cl (lcF b n nt r).toNat
  | 6 => cl (lcS b n nt r).toNat
  | 7 => pV b n (nt r + 3 + 4)
  | 8 => pV b n (nt r + 3 + 6)
  | 9 => pV b n (lcO b n nt r) - 16
  | 10 => if pV b n (lcO b n nt r) = 16 then 0 else pV b n (lcO b n nt r + 1)
  | _ => 0
def lcT : LC := (lcA b n nt cl r, lcP b n nt r)
end Lct
section LctC
variable {b : tTx} {n : Nat} {nt : Nat → Nat} {cl : Nat → Int} {r : Nat} {f P : Nat → Int32}
theorem lcF_v (h : kdT b n (nt r) ≠ 0) : lcF b n nt r = pFd b n nt r (nt r + 3) := if_neg h
theorem lcS_1 (h : kdT b n (nt r) = 3 ∨ kdT b n (nt r) = 4 ∨ kdT b n (nt r) = 5) : lcS b n nt r = pFd b n nt r (nt r + 3 + 1) := if_pos h
theorem lcS_2 (h : kdT b n (nt r) = 8) : lcS b n nt r = pFd b n nt r (nt r + 3 + 2) := by unfold lcS; rw [if_neg (by omega), if_pos h]
theorem lcS_0 (h : ¬ (kdT b n (nt r) = 3 ∨ kdT b n (nt r) = 4 ∨ kdT b n (nt r) = 5)) (k : kdT b n (nt r) ≠ 8) : lcS b n nt r = -1 := by unfold lcS; rw [if_neg h, if_neg k]
theorem lcN_1 (h : kdT b n (nt r) = 1) : lcN b n nt r = iCnt nxT (spA b n) 9 (nt r + 3 + 2) := if_pos h
theorem lcN_2 (h : kdT b n (nt r) = 2) : lcN b n nt r = iCnt (nxE b n) (spC b n) 5 (nt r + 3 + 1) := by unfold lcN; rw [if_neg (by omega), if_pos h]
theorem lcN_3 (h : kdT b n (nt r) = 3) : lcN b n nt r = iCnt nxT (spC b n) 5 (nt r + 3 + 3) := by unfold lcN; rw [if_neg (by omega), if_neg (by omega), if_pos h]
theorem lcN_7 (h : kdT b n (nt r) = 7) : lcN b n nt r = iCnt nxB (spC b n) 4 (nt r + 3 + 2) := by unfold lcN; rw [if_neg (by omega), if_neg (by omega), if_neg (by omega), if_pos h]
theorem lcN_8 (h : kdT b n (nt r) = 8) : lcN b n nt r = iCnt (nxE b n) (spC b n) 5 (nt r + 3 + 8) := by unfold lcN; rw [if_neg (by omega), if_neg (by omega), if_neg (by omega), if_neg (by omega), if_pos h]
theorem lcP_1 (h : kdT b n (nt r) = 1) {k w : Nat} : lcP b n nt r k w = (if w = 0 then pV b n (iPos nxT (nt r + 3 + 2) k) else if w = 1 then pK b n (iPos nxT (nt r + 3 + 2) k + 1) else if w = 2 then (if pK b n (iPos nxT (nt r + 3 + 2) k + 2) = 4 then -1 else pV b n (iPos nxT (nt r + 3 + 2) k + 2)) else pV b n (iPos nxT (nt r + 3 + 2) k + 2)) := if_pos h
theorem lcP_2 (h : kdT b n (nt r) = 2) {k w : Nat} : lcP b n nt r k w = (if w = 0 then teC b n (iPos (nxE b n) (nt r + 3 + 1) k) else teN b n (iPos (nxE b n) (nt r + 3 + 1) k)) := by unfold lcP; rw [if_neg (by omega), if_pos h]
theorem lcP_3 (h : kdT b n (nt r) = 3) {k w : Nat} : lcP b n nt r k w = (if w = 0 then pV b n (iPos nxT (nt r + 3 + 3) k) else pV b n (iPos nxT (nt r + 3 + 3) k + 2)) := by unfold lcP; rw [if_neg (by omega), if_neg (by omega), if_pos h]
theorem lcP_7 (h : kdT b n (nt r) = 7) {k w : Nat} : lcP b n nt r k w = pV b n (iPos nxB (nt r + 3 + 2) k) := by unfold lcP; rw [if_neg (by omega), if_neg (by omega), if_neg (by omega), if_pos h]
theorem lcP_8 (h : kdT b n (nt r) = 8) {k w : Nat} : lcP b n nt r k w = (if w = 0 then teC b n (iPos (nxE b n) (nt r + 3 + 8) k) else teN b n (iPos (nxE b n) (nt r + 3 + 8) k)) := by unfold lcP; rw [if_neg (by omega), if_neg (by omega), if_neg (by omega), if_neg (by omega)]
theorem kd_cs (h : 0 ≤ kdT b n (nt r) ∧ kdT b n (nt r) ≤ 8) : kdT b n (nt r) = 0 ∨ kdT b n (nt r) = 1 ∨ kdT b n (nt r) = 2 ∨ kdT b n (nt r) = 3 ∨ (kdT b n (nt r) = 4 ∨ kdT b n (nt r) = 5) ∨ kdT b n (nt r) = 6 ∨ kdT b n (nt r) = 7 ∨ kdT b n (nt r) = 8 := by omega
/-- a line of the class that was read holds it -/
theorem lnC_k (hk : (f 0).toInt = kdT b n (nt r)) (hc : (f 2).toInt = cl r) (h9 : 0 ≤ kdT b n (nt r) ∧ kdT b n (nt r) ≤ 8) (h : kLn b n r nt cl (nt r + 3) f P (kdT b n (nt r))) : lnC f P (lcT b n nt cl r) := by
  have NO : ∀ {k : Int} {p : Prop}, kdT b n (nt r) ≠ k → (lcT b n nt cl r).1 0 = k → p := fun a c => absurd c a
  unfold lnC
  show ((f 0).toInt = kdT b n (nt r) ∧ (f 2).toInt = cl r ∧ (f 3).toInt = lcF b n nt r ∧ (f 4).toInt = lcS b n nt r) ∧ _
  unfold kLn at h
  rcases kd_cs h9 with e | e | e | e | e | e | e | e
  · repeat rw [if_neg (by omega)] at h
    refine ⟨⟨hk, hc, by rw [h.1]; unfold lcF; rw [if_pos e], by rw [h.2, lcS_0 (by omega) (by omega)]⟩, fun q => ?_, fun q => ?_, NO (by omega), fun q => ?_, NO (by omega), NO (by omega)⟩ <;> (have q : _ ∨ _ := q; exfalso; have e9 : (lcT b n nt cl r).1 0 = kdT b n (nt r) := rfl; omega)
  · rw [if_pos e] at h
    obtain ⟨a1, a2, a3, a4⟩ := h
    refine ⟨⟨hk, hc, by rw [a1, lcF_v (by omega)], by rw [a2, lcS_0 (by omega) (by omega)]⟩, fun _ => ?_, fun q => ?_, fun _ k hk9 => ?_, fun q => ?_, NO (by omega), NO (by omega)⟩
    · show _ = ((lcN b n nt r : Nat) : Int); rw [a3, lcN_1 e]
    · exfalso; have e9 : (lcT b n nt cl r).1 0 = kdT b n (nt r) := rfl; omega
    · have q := a4 k (by have hk9 : (k : Int) < ((lcN b n nt r : Nat) : Int) := hk9; rw [lcN_1 e] at hk9; rw [a3]; exact hk9)
      show _ = lcP b n nt r k 0 ∧ _ = lcP b n nt r k 1 ∧ _ = lcP b n nt r k 2 ∧ _ = lcP b n nt r k 3
      rw [lcP_1 e, lcP_1 e, lcP_1 e, lcP_1 e]; exact q
    · exfalso; have e9 : (lcT b n nt cl r).1 0 = kdT b n (nt r) := rfl; omega
  · rw [if_neg (by omega), if_pos e] at h
    obtain ⟨a1, a2, a3, a4⟩ := h
    refine ⟨⟨hk, hc, by rw [a1, lcF_v (by omega)], by rw [a2, lcS_0 (by omega) (by omega)]⟩, fun _ => ?_, fun q => ?_, NO (by omega), fun _ k hk9 => ?_, NO (by omega), NO (by omega)⟩
    · show _ = ((lcN b n nt r : Nat) : Int); rw [a3, lcN_2 e]
    · exfalso; have e9 : (lcT b n nt cl r).1 0 = kdT b n (nt r) := rfl; omega
    · have q := a4 k (by have hk9 : (k : Int) < ((lcN b n nt r : Nat) : Int) := hk9; rw [lcN_2 e] at hk9; rw [a3]; exact hk9)
      show _ = lcP b n nt r k 0 ∧ _ = lcP b n nt r k 1
      rw [lcP_2 e, lcP_2 e]; exact q
  · rw [if_neg (by omega), if_neg (by omega), if_pos e] at h
    obtain ⟨a1, a2, a5, a6, a3, a4⟩ := h
    refine ⟨⟨hk, hc, by rw [a1, lcF_v (by omega)], by rw [a2, lcS_1 (by omega)]⟩, fun _ => ?_, fun _ => ?_, NO (by omega), fun _ k hk9 => ?_, NO (by omega), NO (by omega)⟩
    · show _ = ((lcN b n nt r : Nat) : Int); rw [a3, lcN_3 e]
    · show _ = cl (lcF b n nt r).toNat ∧ _ = cl (lcS b n nt r).toNat
      rw [lcF_v (by omega), lcS_1 (by omega)]; exact ⟨a5, a6⟩
    · have q := a4 k (by have hk9 : (k : Int) < ((lcN b n nt r : Nat) : Int) := hk9; rw [lcN_3 e] at hk9; rw [a3]; exact hk9)
      show _ = lcP b n nt r k 0 ∧ _ = lcP b n nt r k 1
      rw [lcP_3 e, lcP_3 e]; exact q
  · rw [if_neg (by omega), if_neg (by omega), if_neg (by omega), if_pos e] at h
    refine ⟨⟨hk, hc, by rw [h.1, lcF_v (by omega)], by rw [h.2, lcS_1 (by omega)]⟩, fun q => ?_, fun q => ?_, NO (by omega), fun q => ?_, NO (by omega), NO (by omega)⟩ <;> (exfalso; have e9 : (lcT b n nt cl r).1 0 = kdT b n (nt r) := rfl; omega)
  · rw [if_neg (by omega), if_neg (by omega), if_neg (by omega), if_neg (by omega), if_pos e] at h
    refine ⟨⟨hk, hc, by rw [h.1, lcF_v (by omega)], by rw [h.2, lcS_0 (by omega) (by omega)]⟩, fun q => ?_, fun q => ?_, NO (by omega), fun q => ?_, NO (by omega), NO (by omega)⟩ <;> (exfalso; have e9 : (lcT b n nt cl r).1 0 = kdT b n (nt r) := rfl; omega)
  · rw [if_neg (by omega), if_neg (by omega), if_neg (by omega), if_neg (by omega), if_neg (by omega), if_pos e] at h
    obtain ⟨a1, a2, a3, a4, a5, a6⟩ := h
    rw [a3, ← lcN_7 e, show (((lcN b n nt r : Nat) : Int)).toNat = lcN b n nt r from rfl] at a5 a6
    refine ⟨⟨hk, hc, by rw [a1, lcF_v (by omega)], by rw [a2, lcS_0 (by omega) (by omega)]⟩, fun _ => ?_, fun q => ?_, NO (by omega), fun q => ?_, fun _ => ⟨fun k hk9 => ?_, ?_, a6⟩, NO (by omega)⟩
    · show _ = ((lcN b n nt r : Nat) : Int); rw [a3, lcN_7 e]
    · exfalso; have e9 : (lcT b n nt cl r).1 0 = kdT b n (nt r) := rfl; omega
    · exfalso; have e9 : (lcT b n nt cl r).1 0 = kdT b n (nt r) := rfl; omega
    · have q := a4 k (by have hk9 : (k : Int) < ((lcN b n nt r : Nat) : Int) := hk9; rw [lcN_7 e] at hk9; rw [a3]; exact hk9)
      show _ = lcP b n nt r k 0
      rw [lcP_7 e]; exact q
    · show _ = 16 + (pV b n (lcO b n nt r) - 16)
      have a5 : (f 11).toInt = pV b n (lcO b n nt r) := a5
      rw [a5]; omega
  · rw [if_neg (by omega), if_neg (by omega), if_neg (by omega), if_neg (by omega), if_neg (by omega), if_neg (by omega), if_pos e] at h
    obtain ⟨a1, a2, a5, a6, a7, a8, a3, a4⟩ := h
    refine ⟨⟨hk, hc, by rw [a1, lcF_v (by omega)], by rw [a2, lcS_2 e]⟩, fun _ => ?_, fun _ => ?_, NO (by omega), fun _ k hk9 => ?_, NO (by omega), fun _ => ⟨a7, a8⟩⟩
    · show _ = ((lcN b n nt r : Nat) : Int); rw [a3, lcN_8 e]
    · show _ = cl (lcF b n nt r).toNat ∧ _ = cl (lcS b n nt r).toNat
      rw [lcF_v (by omega), lcS_2 e]; exact ⟨a5, a6⟩
    · have q := a4 k (by have hk9 : (k : Int) < ((lcN b n nt r : Nat) : Int) := hk9; rw [lcN_8 e] at hk9; rw [a3]; exact hk9)
      show _ = lcP b n nt r k 0 ∧ _ = lcP b n nt r k 1
      rw [lcP_8 e, lcP_8 e]; exact q
/-- nt and cl of earlier lines alone -/
theorem kLn_cg {nt' : Nat → Nat} {cl' : Nat → Int} {h : Nat} {kd : Int} (hf : kd = 3 → cF b n r nt' cl' h = cF b n r nt cl h ∧ cF b n r nt' cl' (h + 1) = cF b n r nt cl (h + 1)) (hg : kd = 8 → cF b n r nt' cl' h = cF b n r nt cl h ∧ cF b n r nt' cl' (h + 2) = cF b n r nt cl (h + 2)) (e : ∀ u, u < r → nt' u = nt u) (w : kLn b n r nt cl h f P kd) : kLn b n r nt' cl' h f P kd := by
  unfold kLn at w ⊢
  unfold kSel kPrj kJoi kTwo kOne kGrp kRng at w ⊢
  have e1 : ∀ t, pFd b n nt' r t = pFd b n nt r t := fun t => pFd_cg e t
  simp only [e1]
  by_cases k1 : kd = 1
  · rw [if_pos k1] at w ⊢; exact w
  rw [if_neg k1] at w ⊢
  by_cases k2 : kd = 2
  · rw [if_pos k2] at w ⊢; exact w
  rw [if_neg k2] at w ⊢
  by_cases k3 : kd = 3
  · rw [if_pos k3] at w ⊢
    rw [(hf k3).1, (hf k3).2]; exact w
  rw [if_neg k3] at w ⊢
  by_cases k4 : kd = 4 ∨ kd = 5
  · rw [if_pos k4] at w ⊢; exact w
  rw [if_neg k4] at w ⊢
  by_cases k6 : kd = 6
  · rw [if_pos k6] at w ⊢; exact w
  rw [if_neg k6] at w ⊢
  by_cases k7 : kd = 7
  · rw [if_pos k7] at w ⊢; exact w
  rw [if_neg k7] at w ⊢
  by_cases k8 : kd = 8
  · rw [if_pos k8] at w ⊢
    rw [(hg k8).1, (hg k8).2]; exact w
  rw [if_neg k8] at w ⊢; exact w
end LctC
