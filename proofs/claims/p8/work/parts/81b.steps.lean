/-! the steps of the lists, outcome by outcome -/
def Hid (P : Prop) : Prop := P
def pSg (z : Int) (P : Prop) : Prop := (z = -1 ∧ ¬ P) ∨ (0 ≤ z ∧ P)
theorem pSg_y {z : Int} {P : Prop} (h : pSg z P) (k : 0 ≤ z) : P := by rcases h with h | h; (· exact absurd h.1 (by omega)); (· exact h.2)
theorem pSg_n {z : Int} {P : Prop} (h : pSg z P) (k : z < 0) : ¬ P := by rcases h with h | h; (· exact h.2); (· exact absurd h.1 (by omega))
theorem pSg_t {z : Int} {P : Prop} (k : 0 ≤ z) (p : P) : pSg z P := Or.inr ⟨k, p⟩
theorem pSg_f {z : Int} {P : Prop} (k : z = -1) (p : ¬ P) : pSg z P := Or.inl ⟨k, p⟩
theorem tIz_n {z : Int} {P : Prop} (h : tIz z (0 = (0 : Int) ∧ P)) (hz : z = 0) : ¬ P := fun p => tIz_0 h hz ⟨rfl, p⟩
theorem tIz_y {z f : Int} {P : Prop} (h : tIz z (f = (0 : Int) ∧ P)) (hz : z ≠ 0) : P := (tIz_1 h hz).2
section Steps
variable {b : tTx} {n : Nat} {c d k lim : Int} {h : Nat} {L : List Int}
abbrev pSi (b : tTx) (n h : Nat) : Prop := pK b n h = 61 ∨ pK b n h = 60 ∨ pK b n h = 62
theorem sTest_ok (a : pCf b n c h = 0) (e : k < 8) (s : pSi b n (h + 1)) (v : Hid (pK b n (h + 2) = 4 ∨ pCf b n c (h + 2) = 0)) : sTest b n c k h = (0, h + 3, 0) := by
  unfold sTest
  rw [if_pos a, if_neg (by omega), if_pos s]
  rcases v with v | v
  · rw [if_pos v]
  · by_cases w : pK b n (h + 2) = 4
    · rw [if_pos w]
    · rw [if_neg w, if_pos v]
theorem sTest_4 (a : pCf b n c h = 0) (e : 8 ≤ k) : sTest b n c k h = (4, h, 0) := by unfold sTest; rw [if_pos a, if_pos e]
theorem sTest_c (a : pCf b n c h ≠ 0) : sTest b n c k h = (pCf b n c h, h, 0) := by unfold sTest; rw [if_neg a]
theorem sTest_s (a : pCf b n c h = 0) (e : k < 8) (s : ¬ pSi b n (h + 1)) : sTest b n c k h = (1, h + 1, 0) := by unfold sTest; rw [if_pos a, if_neg (by omega), if_neg s]
theorem sTest_v (a : pCf b n c h = 0) (e : k < 8) (s : pSi b n (h + 1)) (w : pK b n (h + 2) ≠ 4) (v : pCf b n c (h + 2) ≠ 0) : sTest b n c k h = (pCf b n c (h + 2), h + 2, 0) := by
  unfold sTest; rw [if_pos a, if_neg (by omega), if_pos s, if_neg w, if_neg v]
theorem sTerm_n (a : pK b n h = 4) (e : k < 4) : sTerm b n c k h = (0, h + 1, 0) := by unfold sTerm; rw [if_pos a, if_neg (by omega)]
theorem sTerm_n4 (a : pK b n h = 4) (e : 4 ≤ k) : sTerm b n c k h = (4, h, 0) := by unfold sTerm; rw [if_pos a, if_pos e]
theorem sTerm_c4 (a : pCf b n c h = 0) (e : 4 ≤ k) : sTerm b n c k h = (4, h, 0) := by
  have w := pCf_0 a
  unfold sTerm; rw [if_neg (by omega), if_pos a, if_pos e]
theorem sTerm_x (w : pK b n h ≠ 4) (a : pCf b n c h ≠ 0) : sTerm b n c k h = (pCf b n c h, h, 0) := by unfold sTerm; rw [if_neg w, if_neg a]
theorem sTerm_c (a : pCf b n c h = 0) (e : k < 4) (s : ¬ (pK b n (h + 1) = 43 ∨ pK b n (h + 1) = 45)) : sTerm b n c k h = (0, h + 1, 0) := by
  have w := pCf_0 a
  unfold sTerm; rw [if_neg (by omega), if_pos a, if_neg (by omega), if_neg s]
theorem sTerm_s (a : pCf b n c h = 0) (e : k < 4) (s : pK b n (h + 1) = 43 ∨ pK b n (h + 1) = 45) (v : pK b n (h + 2) = 4) : sTerm b n c k h = (0, h + 3, 0) := by
  have w := pCf_0 a
  unfold sTerm; rw [if_neg (by omega), if_pos a, if_neg (by omega), if_pos s, if_pos v]
theorem sTerm_s1 (a : pCf b n c h = 0) (e : k < 4) (s : pK b n (h + 1) = 43 ∨ pK b n (h + 1) = 45) (v : pK b n (h + 2) ≠ 4) : sTerm b n c k h = (1, h + 2, 0) := by
  have w := pCf_0 a
  unfold sTerm; rw [if_neg (by omega), if_pos a, if_neg (by omega), if_pos s, if_neg v]
theorem sPair_x (a : pCf b n c h ≠ 0) : sPair b n c d k lim h = (pCf b n c h, h, 0) := by unfold sPair; rw [if_neg a]
theorem sPair_4 (a : pCf b n c h = 0) (e : lim ≤ k) : sPair b n c d k lim h = (4, h, 0) := by unfold sPair; rw [if_pos a, if_pos e]
theorem sPair_1 (a : pCf b n c h = 0) (e : k < lim) (s : pK b n (h + 1) ≠ 61) : sPair b n c d k lim h = (1, h + 1, 0) := by
  unfold sPair; rw [if_pos a, if_neg (by omega)]
  have t : sTk b n 61 (h + 1) = (1, h + 1, 0) := if_neg s
  exact thn_x t.symm (by show (1 : Int) ≠ 0; decide)
theorem sPair_v (a : pCf b n c h = 0) (e : k < lim) (s : pK b n (h + 1) = 61) (v : pCf b n d (h + 2) ≠ 0) : sPair b n c d k lim h = (pCf b n d (h + 2), h + 2, 0) := by
  unfold sPair; rw [if_pos a, if_neg (by omega)]
  have t : sTk b n 61 (h + 1) = (0, h + 2, 0) := if_pos s
  exact thn_y t.symm rfl (if_neg v)
theorem sPair_ok (a : pCf b n c h = 0) (e : k < lim) (s : pK b n (h + 1) = 61) (v : pCf b n d (h + 2) = 0) : sPair b n c d k lim h = (0, h + 3, pV b n (h + 2)) := by
  unfold sPair; rw [if_pos a, if_neg (by omega)]
  have t : sTk b n 61 (h + 1) = (0, h + 2, 0) := if_pos s
  exact thn_y t.symm rfl (if_pos v)
theorem sBy_x (a : pCf b n c h ≠ 0) : sBy b n c k L h = (pCf b n c h, h, 0) := by unfold sBy; rw [if_neg a]
theorem sBy_2 (a : pCf b n c h = 0) (m : pV b n h ∈ L) : sBy b n c k L h = (2, h, 0) := by unfold sBy; rw [if_pos a, if_pos m]
theorem sBy_4 (a : pCf b n c h = 0) (m : ¬ pV b n h ∈ L) (e : 3 ≤ k) : sBy b n c k L h = (4, h, 0) := by unfold sBy; rw [if_pos a, if_neg m, if_pos e]
theorem sBy_ok (a : pCf b n c h = 0) (m : ¬ pV b n h ∈ L) (e : k < 3) : sBy b n c k L h = (0, h + 1, pV b n h) := by unfold sBy; rw [if_pos a, if_neg m, if_neg (by omega)]
end Steps
theorem pCf_n1 {b : tTx} {n h : Nat} {c : Int} (w : pK b n h ≠ 2) : pCf b n c h ≠ 0 := by rw [pCf_no w]; decide
theorem pCf_n2 {b : tTx} {n h : Nat} {c : Int} (w : pK b n h = 2) (v : c ≤ pV b n h) : pCf b n c h ≠ 0 := by rw [pCf_big w v]; decide
theorem pE1 {b : tTx} {n h t : Nat} {c : Int} {r : pR} (e : r = (pCf b n c h, t, 0)) (w : pK b n h ≠ 2) : r = (1, t, 0) := by rw [e, pCf_no w]
theorem pE2 {b : tTx} {n h t : Nat} {c : Int} {r : pR} (e : r = (pCf b n c h, t, 0)) (w : pK b n h = 2) (v : c ≤ pV b n h) : r = (2, t, 0) := by rw [e, pCf_big w v]
theorem hid {P : Prop} (h : P) : Hid P := h
