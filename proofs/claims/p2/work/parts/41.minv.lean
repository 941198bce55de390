/-! what a state of the reference is. gh (50 + k) 0: the array of field k; gh 9 = 5 and gh 10 = k there; gh 48 0: the object -/
def mTab : List (Nat × Nat) := [(0, 640), (3, 640), (6, 126720), (7, 176), (11, 41), (12, 164), (13, 41), (15, 936), (25, 9600), (27, 4), (28, 8), (29, 176), (30, 600), (31, 1200)]
def mSh (g : gG) (gh : gGh) (R : gR) : Prop := ∀ m, gO g m 7 → m = gh 48 0 ∧ (∀ q ∈ mTab, R m q.1 = some (gh (50 + q.1) 0) ∧ gAr g (gh (50 + q.1) 0) 9 q.2 ∧ gh 9 (gh (50 + q.1) 0) = 5 ∧ gh 10 (gh (50 + q.1) 0) = q.1) ∧
  (R m 1 = some (gh 51 0) ∧ gAr g (gh 51 0) 10 16) ∧ (R m 4 = some (gh 54 0) ∧ gAr g (gh 54 0) 10 16)
def mNum (f : Nat → Int32) : Prop := 0 ≤ (f 2).toInt ∧ (f 2).toInt ≤ 16 ∧ 0 ≤ (f 5).toInt ∧ (f 5).toInt ≤ 16 ∧ 0 ≤ (f 8).toInt ∧ (f 8).toInt ≤ 8 ∧ 0 ≤ (f 14).toInt ∧ (f 14).toInt ≤ 40 ∧ 0 ≤ (f 16).toInt ∧ (f 16).toInt ≤ 936 ∧
  0 ≤ (f 18).toInt ∧ (f 18).toInt ≤ 936 ∧ 0 ≤ (f 19).toInt ∧ (f 19).toInt ≤ 937 ∧ 0 ≤ (f 20).toInt ∧ (f 20).toInt ≤ 937 ∧ 0 ≤ (f 24).toInt ∧ (f 24).toInt ≤ 10000 ∧ 0 ≤ (f 26).toInt ∧ (f 26).toInt ≤ 1600 ∧ ((f 21).toInt = 1 → 0 ≤ (f 23).toInt ∧ (f 23).toInt ≤ 3)
/-- a bit of x, as the machine takes it -/
def mBit (x d : Int) : Int := (iI ((iI x >>> (iI d &&& 31)).toInt) &&& iI 1).toInt
def mCnt (x : Int) : Nat → Int
  | 0 => 0
  | n + 1 => mCnt x n + (if mBit x n = 1 then 0 else 1)
/-- a relation's row: kind, columns, first, second, parts, gone, then parts of four -/
def mPart (f : Nat → Int32) (r k w : Nat) : Int := (f (40 * r + 6 + 4 * k + w)).toInt
def rowOK (f : Nat → Int32) (r : Nat) : Prop :=
  (0 ≤ (f (40 * r)).toInt ∧ (f (40 * r)).toInt ≤ 8 ∧ 1 ≤ (f (40 * r + 1)).toInt ∧ (f (40 * r + 1)).toInt ≤ 4) ∧
  ((f (40 * r)).toInt ≠ 0 → 0 ≤ (f (40 * r + 2)).toInt ∧ (f (40 * r + 2)).toInt < r ∧ -1 ≤ (f (40 * r + 3)).toInt ∧ (f (40 * r + 3)).toInt < r) ∧
  (0 ≤ (f (40 * r + 4)).toInt ∧ (f (40 * r + 4)).toInt ≤ 8) ∧
  ((f (40 * r)).toInt = 1 → ∀ k : Nat, (k : Int) < (f (40 * r + 4)).toInt → 0 ≤ mPart f r k 0 ∧ mPart f r k 0 ≤ 3 ∧ (mPart f r k 2 = 1 → 0 ≤ mPart f r k 3 ∧ mPart f r k 3 ≤ 3)) ∧
  ((f (40 * r)).toInt = 2 → (f (40 * r + 4)).toInt ≤ 4 ∧ ∀ k : Nat, (k : Int) < (f (40 * r + 4)).toInt → mPart f r k 0 ≤ 3) ∧
  ((f (40 * r)).toInt = 3 → 0 ≤ (f (40 * r + 3)).toInt ∧ (f (40 * r + 4)).toInt ≤ 4 ∧ (∀ k : Nat, (k : Int) < (f (40 * r + 4)).toInt → 0 ≤ mPart f r k 0 ∧ mPart f r k 0 ≤ 3 ∧ 0 ≤ mPart f r k 1 ∧ mPart f r k 1 ≤ 3) ∧
    (f (40 * (f (40 * r + 2)).toInt.toNat + 1)).toInt + mCnt (f (40 * r + 5)).toInt (f (40 * (f (40 * r + 3)).toInt.toNat + 1)).toInt.toNat ≤ 4) ∧
  ((f (40 * r)).toInt = 4 ∨ (f (40 * r)).toInt = 5 → 0 ≤ (f (40 * r + 3)).toInt) ∧
  ((f (40 * r)).toInt = 7 → (f (40 * r + 4)).toInt ≤ 3 ∧ (∀ k : Nat, (k : Int) < (f (40 * r + 4)).toInt → 0 ≤ mPart f r k 0 ∧ mPart f r k 0 ≤ 3) ∧ 0 ≤ mPart f r (f (40 * r + 4)).toInt.toNat 0 ∧ mPart f r (f (40 * r + 4)).toInt.toNat 0 ≤ 3) ∧
  ((f (40 * r)).toInt = 8 → 0 ≤ (f (40 * r + 3)).toInt ∧ (f (40 * r + 4)).toInt ≤ 4 ∧ 0 ≤ mPart f r 0 0 ∧ mPart f r 0 0 ≤ 3 ∧ 0 ≤ mPart f r 0 1 ∧ mPart f r 0 1 ≤ 3 ∧ (∀ k : Nat, k < 4 → (k : Int) < (f (40 * r + 4)).toInt → mPart f r (k + 1) 0 ≤ 3) ∧ (f (40 * r + 4)).toInt = (f (40 * (f (40 * r + 2)).toInt.toNat + 1)).toInt)
def mCon (gh : gGh) (f : Nat → Int32) (AI : gI) : Prop := (∀ j : Nat, j < 176 → 0 ≤ (AI (gh 57 0) j).toInt ∧ (AI (gh 57 0) j).toInt ≤ 120) ∧ (∀ j : Nat, j < 41 → 0 ≤ (AI (gh 61 0) j).toInt ∧ (AI (gh 61 0) j).toInt ≤ 15) ∧
  (∀ r : Nat, (r : Int) < (f 2).toInt → rowOK (AI (gh 50 0)) r) ∧ (∀ r : Nat, (r : Int) < (f 5).toInt → rowOK (AI (gh 53 0)) r)
/-- the class's side is as gM says -/
def mFr (g : gG) (gh : gGh) (I AI : gI) : Prop := (∀ b c, gO g b c → c ≠ 7 → I b = (gM g).1 b) ∧ ∀ b, gh 9 b ≠ 5 → AI b = (gM g).2 b
def mInv (g : gG) (gh : gGh) (R : gR) (I AI : gI) : Prop := mSh g gh R ∧ (∀ m, gO g m 7 → mNum (I m) ∧ mCon gh (I m) AI) ∧ mFr g gh I AI
section MInv
variable {g : gG} {gh : gGh} {R : gR} {I AI : gI} {m : Nat}
theorem mR (hv : mInv g gh R I AI) (hm : gO g m 7) {q : Nat × Nat} (h : q ∈ mTab) : R m q.1 = some (gh (50 + q.1) 0) ∧ gAr g (gh (50 + q.1) 0) 9 q.2 := ⟨((hv.1 m hm).2.1 q h).1, ((hv.1 m hm).2.1 q h).2.1⟩
theorem mI (hv : mInv g gh R I AI) (hm : gO g m 7) : mNum (I m) := (hv.2.1 m hm).1
theorem mOne (hv : mInv g gh R I AI) (hm : gO g m 7) {b : Nat} (hb : gO g b 7) : b = m := (hv.1 b hb).1.trans (hv.1 m hm).1.symm
/-- an int field but many and readMany -/
theorem mInv_f {k : Nat} {v : Int32} (hv : mInv g gh R I AI) (hm : gO g m 7) (hk : k ≠ 2 ∧ k ≠ 5) (h : mNum (gup2 I m k v m)) : mInv g gh R (gup2 I m k v) AI := by
  refine ⟨hv.1, fun b hb => ?_, fun b c hb hc => (gup2_o hm hb hc).trans (hv.2.2.1 b c hb hc), hv.2.2.2⟩
  have e := mOne hv hm hb
  subst e
  refine ⟨h, ?_⟩
  unfold mCon
  rw [gup2_k (j := 2) _ _ (Ne.symm hk.1), gup2_k (j := 5) _ _ (Ne.symm hk.2)]
  exact (hv.2.1 b hb).2
/-- an array that no invariant looks into -/
theorem mInv_a {AI' : gI} {q : Nat × Nat} (hv : mInv g gh R I AI) (hm : gO g m 7) (hq : q ∈ mTab) (hn : q.1 ≠ 0 ∧ q.1 ≠ 3 ∧ q.1 ≠ 7 ∧ q.1 ≠ 11) (e : ∀ b, b ≠ gh (50 + q.1) 0 → AI' b = AI b) : mInv g gh R I AI' := by
  have hr := (hv.1 m hm).2.1 q hq
  have s : ∀ p ∈ mTab, p.1 ≠ q.1 → AI' (gh (50 + p.1) 0) = AI (gh (50 + p.1) 0) := fun p hp hne => e _ (fun z => hne (by have := ((hv.1 m hm).2.1 p hp).2.2.2; rw [z, hr.2.2.2] at this; exact this.symm))
  refine ⟨hv.1, fun b hb => ⟨(hv.2.1 b hb).1, ?_⟩, hv.2.2.1, fun b hb => (e b (fun z => hb (by rw [z]; exact hr.2.2.1))).trans (hv.2.2.2 b hb)⟩
  unfold mCon
  have s7 : AI' (gh 57 0) = AI (gh 57 0) := s (7, 176) (by decide) (Ne.symm hn.2.2.1)
  have s11 : AI' (gh 61 0) = AI (gh 61 0) := s (11, 41) (by decide) (Ne.symm hn.2.2.2)
  have s0 : AI' (gh 50 0) = AI (gh 50 0) := s (0, 640) (by decide) (Ne.symm hn.1)
  have s3 : AI' (gh 53 0) = AI (gh 53 0) := s (3, 640) (by decide) (Ne.symm hn.2.1)
  rw [s7, s11, s0, s3]
  exact (hv.2.1 b hb).2
theorem mInv_sizes {AI' : gI} (hv : mInv g gh R I AI) (hm : gO g m 7) (e : ∀ b, b ≠ gh 57 0 → AI' b = AI b) (h : ∀ j : Nat, j < 176 → 0 ≤ (AI' (gh 57 0) j).toInt ∧ (AI' (gh 57 0) j).toInt ≤ 120) : mInv g gh R I AI' := by
  have hr := (hv.1 m hm).2.1 (7, 176) (by decide)
  have h10 : gh 10 (gh 57 0) = 7 := hr.2.2.2
  have s : ∀ p ∈ mTab, p.1 ≠ 7 → AI' (gh (50 + p.1) 0) = AI (gh (50 + p.1) 0) := fun p hp hne => e _ (fun z => hne (by have := ((hv.1 m hm).2.1 p hp).2.2.2; rw [z, h10] at this; exact this.symm))
  refine ⟨hv.1, fun b hb => ⟨(hv.2.1 b hb).1, ?_⟩, hv.2.2.1, fun b hb => (e b (fun z => hb (by rw [z]; exact hr.2.2.1))).trans (hv.2.2.2 b hb)⟩
  have q := (hv.2.1 b hb).2
  unfold mCon
  have s11 : AI' (gh 61 0) = AI (gh 61 0) := s (11, 41) (by decide) (by decide)
  have s0 : AI' (gh 50 0) = AI (gh 50 0) := s (0, 640) (by decide) (by decide)
  have s3 : AI' (gh 53 0) = AI (gh 53 0) := s (3, 640) (by decide) (by decide)
  rw [s11, s0, s3]
  exact ⟨h, q.2⟩
theorem mInv_ct {AI' : gI} (hv : mInv g gh R I AI) (hm : gO g m 7) (e : ∀ b, b ≠ gh 61 0 → AI' b = AI b) (h : ∀ j : Nat, j < 41 → 0 ≤ (AI' (gh 61 0) j).toInt ∧ (AI' (gh 61 0) j).toInt ≤ 15) : mInv g gh R I AI' := by
  have hr := (hv.1 m hm).2.1 (11, 41) (by decide)
  have h10 : gh 10 (gh 61 0) = 11 := hr.2.2.2
  have s : ∀ p ∈ mTab, p.1 ≠ 11 → AI' (gh (50 + p.1) 0) = AI (gh (50 + p.1) 0) := fun p hp hne => e _ (fun z => hne (by have := ((hv.1 m hm).2.1 p hp).2.2.2; rw [z, h10] at this; exact this.symm))
  refine ⟨hv.1, fun b hb => ⟨(hv.2.1 b hb).1, ?_⟩, hv.2.2.1, fun b hb => (e b (fun z => hb (by rw [z]; exact hr.2.2.1))).trans (hv.2.2.2 b hb)⟩
  have q := (hv.2.1 b hb).2
  unfold mCon
  have s7 : AI' (gh 57 0) = AI (gh 57 0) := s (7, 176) (by decide) (by decide)
  have s0 : AI' (gh 50 0) = AI (gh 50 0) := s (0, 640) (by decide) (by decide)
  have s3 : AI' (gh 53 0) = AI (gh 53 0) := s (3, 640) (by decide) (by decide)
  rw [s7, s0, s3]
  exact ⟨q.1, h, q.2.2⟩
theorem mSz (hv : mInv g gh R I AI) (hm : gO g m 7) {z : Int} (h0 : 0 ≤ z) (h1 : z < 176) : 0 ≤ (AI (gh 57 0) z.toNat).toInt ∧ (AI (gh 57 0) z.toNat).toInt ≤ 120 := (hv.2.1 m hm).2.1 z.toNat (by omega)
theorem mCt (hv : mInv g gh R I AI) (hm : gO g m 7) {z : Int} (h0 : 0 ≤ z) (h1 : z < 41) : 0 ≤ (AI (gh 61 0) z.toNat).toInt ∧ (AI (gh 61 0) z.toNat).toInt ≤ 15 := (hv.2.1 m hm).2.2.1 z.toNat (by omega)
theorem mRow (hv : mInv g gh R I AI) (hm : gO g m 7) {z : Int} (h0 : 0 ≤ z) (h1 : z < (I m 2).toInt) : rowOK (AI (gh 50 0)) z.toNat := (hv.2.1 m hm).2.2.2.1 z.toNat (by omega)
/-- only worked may be another one; or also what calls of the face write -/
def wF (m : Nat) (I I' : gI) : Prop := ∀ j, j ≠ 26 → I' m j = I m j
def mF (m : Nat) (I I' : gI) : Prop := ∀ j, j ≠ 8 → j ≠ 9 → j ≠ 10 → j ≠ 14 → j ≠ 17 → j ≠ 26 → I' m j = I m j
theorem wF_r : wF m I I := fun _ _ => rfl
theorem wF_t {I' I'' : gI} (h : wF m I I') (h' : wF m I' I'') : wF m I I'' := fun j hj => (h' j hj).trans (h j hj)
theorem mF_r : mF m I I := fun _ _ _ _ _ _ _ => rfl
theorem mF_t {I' I'' : gI} (h : mF m I I') (h' : mF m I' I'') : mF m I I'' := fun j a b c d e f => (h' j a b c d e f).trans (h j a b c d e f)
theorem mF_w {I' : gI} (h : wF m I I') : mF m I I' := fun j _ _ _ _ _ f => h j f
theorem wF_p {v : Int32} : wF m I (gup2 I m 26 v) := fun _ hj => gup2_k _ _ hj
theorem mF_p {k : Nat} {v : Int32} (hk : k = 8 ∨ k = 9 ∨ k = 10 ∨ k = 14 ∨ k = 17 ∨ k = 26) : mF m I (gup2 I m k v) := fun j a b c d e f => gup2_k _ _ (by omega)
end MInv
