/-! one relation more -/
section Steps
variable {tbs sg : Int} {nr k n m : Nat} {c : Nat → LC} {T : Nat → Tup → Int32} {F F' F0 : RF} {cl : Nat → Int} {f g : Nat → Int32} {z : Int}
def stA (tbs : Int) (c : Nat → LC) (T : Nat → Tup → Int32) (cl : Nat → Int) (F : RF) (k : Nat) : Prop := ∀ q, q < k → stP tbs c T F q ∧ bgOK F cl q
theorem cLt_of (h : ∀ r : Nat, r < nr → tbs ≤ (r : Int) → cOK (c r) r cl ∧ cZ (c r) r cl) : cLt tbs nr c := fun r h1 h2 => by
  obtain ⟨⟨_, _, a, b, _, d⟩, _⟩ := (h r h1 h2).1
  exact ⟨b, a, d⟩
theorem st_0 : stA tbs c T cl F 0 := fun q hq => absurd hq (Nat.not_lt_zero q)
theorem st_up (hl : cLt tbs nr c) (hk : k ≤ nr) (e : ∀ q, q < k → F' q = F q) (h : stA tbs c T cl F k) : stA tbs c T cl F' k := fun q hq => by
  refine ⟨stP_k hl (by omega) (fun p hp => e p (by omega)) (h q hq).1, ?_⟩
  have := (h q hq).2
  unfold bgOK at this ⊢
  rw [e q hq]; exact this
theorem st_tb (h : stA tbs c (tbS f n F0 sg) cl F k) (hk : (k : Int) < tbs) (e : F k = (m, g)) (hF : zB (cl k) (F0 k).2 (F0 k).1) (hz : btZ cl f n) (hB : isB g m (tbS f n F0 sg k) zM) (hm : m ≤ 120) : stA tbs c (tbS f n F0 sg) cl F (k + 1) := fun q hq => by
  by_cases w : q < k
  · exact h q w
  · have eq : q = k := by omega
    subst eq
    unfold stP bgOK
    rw [if_pos hk, e]
    exact ⟨⟨hB, hm⟩, tb_ok hF hz hB hm⟩
theorem st_vw (h : stA tbs c T cl F k) (hk : tbs ≤ (k : Int)) (hc : cOK (c k) k cl ∧ cZ (c k) k cl) (e : F k = (m, g)) (hv : vwP (c k) F 0 g m) : stA tbs c T cl F (k + 1) := fun q hq => by
  by_cases w : q < k
  · exact h q w
  · have eq : q = k := by omega
    subst eq
    unfold stP
    rw [if_neg (by omega), e]
    refine ⟨hv, ?_⟩
    unfold bgOK
    rw [e]
    exact vw_ok hc.1 hc.2 (fun p hp => (h p hp).2) hv
theorem st_vc (hc : cOK (c k) k cl) (e : ∀ q, q < k → F' q = F q) (h : vwP (c k) F z g m) : vwP (c k) F' z g m := by
  obtain ⟨⟨_, _, a, b, _, d⟩, _⟩ := hc
  refine vwP_c ?_ ?_ h
  · unfold rfA; rw [e ((c k).1 2).toNat (by omega)]; exact ⟨rfl, rwA_r⟩
  · by_cases w : ((c k).1 3).toNat < k
    · unfold rfA; rw [e ((c k).1 3).toNat w]; exact ⟨rfl, rwA_r⟩
    · have : ((c k).1 3).toNat = 0 := by omega
      unfold rfA; rw [this, e 0 (by omega)]; exact ⟨rfl, rwA_r⟩
end Steps
/-- what moved of a relation -/
def mvQ (gh : gGh) (AR : gR) (I AI : gI) (bA nA : Nat) (I' AI' : gI) (r : Nat) : Prop :=
  isB (AI' (gh 0 (rob AR (gh 35 0) r))) (I' (rob AR (gh 35 0) r) 3).toInt.toNat (fun t => bS (AI (gh 0 (rob AR nA r))) (I (rob AR nA r) 3).toInt.toNat t + iI (-1) * bS (AI (gh 0 (rob AR bA r))) (I (rob AR bA r) 3).toInt.toNat t) zM ∧ 0 ≤ (I' (rob AR (gh 35 0) r) 3).toInt
