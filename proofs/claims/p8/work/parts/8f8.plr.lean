/-! what the lines told so far hold in the reference's rows; what a plan leaves of the reference -/
def rowsR (b : tTx) (n nr : Nat) (nt : Nat → Nat) (cl : Nat → Int) (T : Nat → Int32) : Prop := ∀ r : Nat, r < nr → LG b n nt cl r ∧ mLn b n r nt (nt r + 3) T (r : Int) (kdT b n (nt r))
def plR (b : tTx) (n : Nat) (T : Nat → Int32) : Prop := rowsR b n (sPlF b n).1 (sPlF b n).2.1 (sPlF b n).2.2.1 T
def plN (gh : gGh) (I AI I' AI' : gI) (mo : Nat) (b : tTx) (n : Nat) (z : Int) : Prop :=
  (z < 0 ∧ AI' (gh 57 0) = AI (gh 57 0) ∧ AI' (gh 79 0) = AI (gh 79 0) ∧ I' mo 8 = I mo 8 ∧ I' mo 9 = I mo 9 ∧ I' mo 10 = I mo 10) ∨
  (0 ≤ z ∧ (∀ j : Nat, j < 176 → AI' (gh 57 0) j = 0) ∧ (∀ j : Nat, j < 16 → AI' (gh 79 0) j = 0) ∧ (I' mo 8).toInt = 0 ∧ (I' mo 9).toInt = 0 ∧ (I' mo 10).toInt = 0 ∧ plR b n (AI' (gh 50 0)))
def plK (gh : gGh) (AI AI' : gI) : Prop := ∀ b, b ≠ gh 50 0 → b ≠ gh 53 0 → b ≠ gh 57 0 → b ≠ gh 79 0 → AI' b = AI b
section RowsS
variable {b : tTx} {n nr h0 : Nat} {nt : Nat → Nat} {cl : Nat → Int} {T T' : Nat → Int32} {x kd : Int}
theorem mE_4b {gh : gGh} {AI : gI} {AJ : gJ} (w : mE gh AI AJ b n nr nt cl) : ∀ r, r < nr → 1 ≤ cl r ∧ cl r ≤ 4 := fun r hr => (w.2.1 r hr).2.2.2
theorem mFr9 {g : gG} {gh : gGh} {R : gR} {I AI AI1 AI' : gI} {m : Nat} {p q : Nat × Nat} (hv : mInv g gh R I AI) (hm : gO g m 7) (hp : p ∈ mTab) (hq : q ∈ mTab) (hne : p.1 ≠ q.1) (e : ∀ b, b ≠ gh (50 + q.1) 0 → AI' b = AI1 b) : AI' (gh (50 + p.1) 0) = AI1 (gh (50 + p.1) 0) :=
  e _ (fun z => hne (by have h := ((hv.1 m hm).2.1 p hp).2.2.2; have h' := ((hv.1 m hm).2.1 q hq).2.2.2; rw [z, h'] at h; exact h.symm))
theorem rows_0 : rowsR b n 0 nt cl T := fun r hr => absurd hr (Nat.not_lt_zero r)
theorem rows_f (hcl : ∀ u, u < nr → 1 ≤ cl u ∧ cl u ≤ 4) (hr : rowsR b n nr nt cl T) (e : ∀ z : Int, 0 ≤ z → z < 40 * (nr : Int) → tI T' z = tI T z) : rowsR b n nr nt cl T' := fun r hr9 => by
  have q := hr r hr9
  have g := LG_n (fun u hu => hcl u (by omega)) q.1
  exact ⟨q.1, mLn_c (by omega) (fun z a c => e z (by omega) (by omega)) g.1 g.2.1 g.2.2.1 g.2.2.2.1 g.2.2.2.2 q.2⟩
theorem rows_s (hr : rowsR b n nr nt cl T) (hcl : ∀ u, u < nr → 1 ≤ cl u ∧ cl u ≤ 4) (hg : LG b n (sUp nt nr h0) (sUp cl nr x) nr) (fr : frM (nr : Int) T T') (hn : mLn b n nr nt (h0 + 3) T' (nr : Int) (kdT b n h0)) : rowsR b n (nr + 1) (sUp nt nr h0) (sUp cl nr x) T' := fun r hr9 => by
  by_cases q : r = nr
  · subst q
    refine ⟨hg, ?_⟩
    rw [sUp_s]
    exact mLn_cg (fun u hu => sUp_k (by omega)) hn
  · have w := rows_f hcl hr fr r (by omega)
    refine ⟨LG_cg (fun u hu => sUp_k (by omega)) (fun u hu => sUp_k (by omega)) w.1, ?_⟩
    rw [sUp_k q]
    exact mLn_cg (fun u hu => sUp_k (by omega)) w.2
theorem mLn_0 (e : kd = 0) {h : Nat} {M : Int} (k : rFS T M (-1) (-1)) : mLn b n nr nt h T M kd := by
  unfold mLn
  subst e
  rw [if_neg (by decide), if_neg (by decide), if_neg (by decide), if_neg (by decide), if_neg (by decide), if_neg (by decide), if_neg (by decide)]; exact k
theorem z_at {A A' : gI} {o : Nat} {i : Int} (h0 : 0 ≤ i) (e : A' = gup2 A o i.toNat (iI 0)) (h : ∀ j : Nat, (j : Int) < i → A o j = 0) : ∀ j : Nat, (j : Int) < i + 1 → A' o j = 0 := fun j hj => by
  rw [e]
  by_cases q : j = i.toNat
  · rw [q, gup2_s]; rfl
  · rw [gup2_k _ _ q]; exact h j (by omega)
theorem plK_t {gh : gGh} {AI AI' AI'' : gI} (h : plK gh AI AI') (k : ∀ b, b ≠ gh 50 0 → b ≠ gh 53 0 → b ≠ gh 57 0 → b ≠ gh 79 0 → AI'' b = AI' b) : plK gh AI AI'' := fun b a c d e => (k b a c d e).trans (h b a c d e)
end RowsS
