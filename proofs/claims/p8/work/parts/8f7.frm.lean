/-! helpers of the reference's reading with what it leaves in the row -/
def frM (M : Int) (T T' : Nat → Int32) : Prop := ∀ z : Int, 0 ≤ z → z < 40 * M → tI T' z = tI T z
def pSv (z K : Int) : Prop := (z = 0 ∧ K = 61) ∨ (z = 1 ∧ K = 60) ∨ (z = 2 ∧ K = 62) ∨ z = -1
section FrM
variable {b : tTx} {n h F hc : Nat} {M k v z : Int} {T T' T'' : Nat → Int32} {L : List Int}
theorem frM_r : frM M T T := fun _ _ _ => rfl
theorem frM_t (h : frM M T T') (k : frM M T' T'') : frM M T T'' := fun z a c => (k z a c).trans (h z a c)
theorem frM_p {p a b c d : Int} (h : frM M T T') (hp : 0 ≤ p) (s : sP T' T'' M p a b c d) : frM M T T'' := fun z a c => (s.1 z a (by omega)).trans (h z a c)
theorem frM_h {kd cl one oth ps : Int} (h : frM M T T') (s : hP T' T'' M kd cl one oth ps) : frM M T T'' := fun z a c => (s.1 z a (by omega)).trans (h z a c)
theorem frM_5 {v : Int} (h : frM M T T') (s : s1 T' T'' (40 * M + 5) v) : frM M T T'' := fun z a c => (s.1 z a (by omega)).trans (h z a c)
theorem frM_f {fm : Int} (hf : 0 ≤ fm) (h : frM M T T') (s : trF T' T'' M fm) : frM M T T'' := fun z a c => (s z a (by omega)).trans (h z a c)
theorem hP_m {kd cl one oth ps w : Int} (hM : 0 ≤ M) (hk : 0 ≤ k) (hw : 0 ≤ w) (s : hP T T' M kd cl one oth ps) : mP T' M k w = mP T M k w := s.1 _ (by omega) (by omega)
theorem trF_m {w : Int} (hM : 0 ≤ M) (hw : 0 ≤ w ∧ w ≤ 3) (s : trF T T' M 1) : mP T' M 0 w = mP T M 0 w := s _ (by omega) (by omega)
theorem rTest_mk {c s ic v : Int} (hk : 0 ≤ k) (p : sP T T' M k c s ic v) (hc0 : c = pV b n hc) (hs : pSv s (pK b n (hc + 1))) (h0 : 0 ≤ s) (hi : (ic = 1 ∧ pK b n (hc + 2) ≠ 4) ∨ (ic = 0 ∧ pK b n (hc + 2) = 4)) (hv : v = pV b n (hc + 2)) : rTest b n M T' k.toNat hc := by
  unfold rTest
  rw [Int.toNat_of_nonneg hk, p.2.1, p.2.2.1, p.2.2.2.1, p.2.2.2.2]
  refine ⟨hc0, ?_, ?_, hv⟩
  · rcases hs with q | q | q | q
    · rw [if_pos q.2]; exact q.1
    · rw [if_neg (by omega), if_pos q.2]; exact q.1
    · rw [if_neg (by omega), if_neg (by omega)]; exact q.1
    · omega
  · rcases hi with q | q
    · rw [if_neg q.2]; exact q.1
    · rw [if_pos q.2]; exact q.1
theorem rTerm_mk {fm c y u w p : Int} (hk : 0 ≤ k) (s : sP T T' M p c y u w) (hp : p = fm + k) (h0 : c = teC b n hc) (h1 : y = teN b n hc) : rTerm b n M fm T' k.toNat hc := by
  unfold rTerm
  subst hp
  rw [Int.toNat_of_nonneg hk, s.2.1, s.2.2.1]; exact ⟨h0, h1⟩
theorem te_n (h : pK b n hc = 4) : teC b n hc = -1 ∧ teN b n hc = pV b n hc := ⟨if_pos h, if_pos h⟩
theorem te_c (h : pK b n hc ≠ 4) (k : ¬ (pK b n (hc + 1) = 43 ∨ pK b n (hc + 1) = 45)) : teC b n hc = pV b n hc ∧ teN b n hc = 0 := ⟨if_neg h, by unfold teN; rw [if_neg h, if_neg (by omega), if_neg (by omega)]⟩
theorem te_p (h : pK b n hc ≠ 4) (k : pK b n (hc + 1) = 43) : teC b n hc = pV b n hc ∧ teN b n hc = pV b n (hc + 2) := ⟨if_neg h, by unfold teN; rw [if_neg h, if_pos k]⟩
theorem te_m (h : pK b n hc ≠ 4) (k : pK b n (hc + 1) = 45) : teC b n hc = pV b n hc ∧ teN b n hc = - pV b n (hc + 2) := ⟨if_neg h, by unfold teN; rw [if_neg h, if_neg (by omega), if_pos k]⟩
theorem rPair_mk {c y u w : Int} (hk : 0 ≤ k) (s : sP T T' M k c y u w) (h0 : c = pV b n hc) (h1 : y = pV b n (hc + 2)) : rPair b n M T' k.toNat hc := by
  unfold rPair
  rw [Int.toNat_of_nonneg hk, s.2.1, s.2.2.1]; exact ⟨h0, h1⟩
theorem rBy_mk {c y u w : Int} (hk : 0 ≤ k) (s : sP T T' M k c y u w) (h0 : c = pV b n hc) : rBy b n M T' k.toNat hc := by
  unfold rBy
  rw [Int.toNat_of_nonneg hk, s.2.1]; exact h0
/-- the second columns that are told so far -/
def pLm (b : tTx) (n : Nat) (h : Nat) (k : Int) (L : List Int) : Prop := ∀ x : Int, x ∈ L ↔ ∃ j : Nat, (j : Int) < k ∧ pV b n (iPos nxT h j + 2) = x
theorem pLm_0 : pLm b n h 0 [] := fun x => ⟨fun e => absurd e List.not_mem_nil, fun ⟨j, hj, _⟩ => absurd hj (by omega)⟩
theorem pLm_s {sp : Nat → Bool} (hl : iL nxT sp F h k hc) (a : pLm b n h k L) : pLm b n h (k + 1) (pV b n (hc + 2) :: L) := fun x => by
  have h0 := hl.1
  have hp := iL_p hl
  rw [List.mem_cons, a x]
  constructor
  · rintro (e | ⟨j, hj, e⟩)
    · exact ⟨k.toNat, by omega, by rw [← hp]; exact e.symm⟩
    · exact ⟨j, by omega, e⟩
  · rintro ⟨j, hj, e⟩
    by_cases c : (j : Int) < k
    · exact Or.inr ⟨j, c, e⟩
    · have : j = k.toNat := by omega
      subst this
      rw [← hp] at e; exact Or.inl e.symm
theorem rGn_mk {x : Int} (g : mGn x L) (a : pLm b n h k L) (e : ((iCnt nxT (spC b n) F h : Nat) : Int) = k) : rGn b n x F h := fun d hd => by
  rw [g (d : Int) (by omega) (by omega), a (d : Int)]
  exact ⟨fun ⟨j, hj, q⟩ => ⟨j, by omega, q⟩, fun ⟨j, hj, q⟩ => ⟨j, by omega, q⟩⟩
theorem mGrp_f {c0 y u w : Int} (s : sP T T' M k c0 y u w) (hf : pFo y (pK b n hc) (pV b n hc)) (h0 : 0 ≤ y) (hc0 : (y = 0 ∧ c0 = 0) ∨ (0 < y ∧ c0 = pV b n (hc + 1))) : mP T' M k 1 = pV b n hc - 16 ∧ mP T' M k 0 = (if pV b n hc = 16 then 0 else pV b n (hc + 1)) := by
  have q := pFo_y hf h0
  rw [s.2.1, s.2.2.1]
  refine ⟨by omega, ?_⟩
  rcases hc0 with e | e
  · rw [if_pos (by omega)]; exact e.2
  · rw [if_neg (by omega)]; exact e.2
end FrM
