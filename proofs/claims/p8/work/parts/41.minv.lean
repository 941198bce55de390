/-! what a state of the reference is. gh (50 + k) 0: the array of field k; gh 9 = 5 and gh 10 = k there; gh 48 0: the object -/
def mTab : List (Nat × Nat) := [(0, 640), (3, 640), (6, 126720), (7, 176), (11, 41), (12, 164), (13, 41), (15, 936), (25, 9600), (27, 4), (28, 8), (29, 176), (30, 600), (31, 1200)]
def mSh (g : gG) (gh : gGh) (R : gR) : Prop := ∀ m, gO g m 7 → m = gh 48 0 ∧ (∀ q ∈ mTab, R m q.1 = some (gh (50 + q.1) 0) ∧ gAr g (gh (50 + q.1) 0) 9 q.2 ∧ (q.1 ≠ 15 → q.1 ≠ 11 → q.1 ≠ 12 → q.1 ≠ 13 → gh 9 (gh (50 + q.1) 0) = 5) ∧ gh 10 (gh (50 + q.1) 0) = q.1) ∧
  (R m 1 = some (gh 51 0) ∧ gAr g (gh 51 0) 10 16) ∧ (R m 4 = some (gh 54 0) ∧ gAr g (gh 54 0) 10 16)
def mNum (f : Nat → Int32) : Prop := 0 ≤ (f 2).toInt ∧ (f 2).toInt ≤ 16 ∧ 0 ≤ (f 5).toInt ∧ (f 5).toInt ≤ 16 ∧ 0 ≤ (f 8).toInt ∧ (f 8).toInt ≤ 8 ∧ 0 ≤ (f 14).toInt ∧ (f 14).toInt ≤ 40 ∧ 0 ≤ (f 16).toInt ∧ (f 16).toInt ≤ 936 ∧
  0 ≤ (f 18).toInt ∧ (f 18).toInt ≤ 936 ∧ 0 ≤ (f 19).toInt ∧ (f 19).toInt ≤ 937 ∧ 0 ≤ (f 20).toInt ∧ (f 20).toInt ≤ 937 ∧ 0 ≤ (f 24).toInt ∧ (f 24).toInt ≤ 10000 ∧ 0 ≤ (f 26).toInt ∧ (f 26).toInt ≤ 1600 ∧ ((f 21).toInt = 1 → 0 ≤ (f 23).toInt ∧ (f 23).toInt ≤ 3)
/-- the same, without the token -/
def mNum1 (f : Nat → Int32) : Prop := 0 ≤ (f 2).toInt ∧ (f 2).toInt ≤ 16 ∧ 0 ≤ (f 5).toInt ∧ (f 5).toInt ≤ 16 ∧ 0 ≤ (f 8).toInt ∧ (f 8).toInt ≤ 8 ∧ 0 ≤ (f 14).toInt ∧ (f 14).toInt ≤ 40 ∧ 0 ≤ (f 16).toInt ∧ (f 16).toInt ≤ 936 ∧
  0 ≤ (f 18).toInt ∧ (f 18).toInt ≤ 936 ∧ 0 ≤ (f 19).toInt ∧ (f 19).toInt ≤ 937 ∧ 0 ≤ (f 20).toInt ∧ (f 20).toInt ≤ 937 ∧ 0 ≤ (f 24).toInt ∧ (f 24).toInt ≤ 10000 ∧ 0 ≤ (f 26).toInt ∧ (f 26).toInt ≤ 1600
/-- a bit of x, as the machine takes it -/
def mBit (x d : Int) : Int := (iI ((iI x >>> (iI d &&& 31)).toInt) &&& iI 1).toInt
def mCnt (x : Int) : Nat → Int
  | 0 => 0
  | n + 1 => mCnt x n + (if mBit x n = 1 then 0 else 1)
/-- a number of a list -/
def tI (f : Nat → Int32) (z : Int) : Int := (f z.toNat).toInt
/-- a part of a relation's row -/
def mP (f : Nat → Int32) (r k w : Int) : Int := tI f (40 * r + 6 + 4 * k + w)
/-- a relation's row: kind, columns, first, second, parts, gone, then parts of four -/
def rowOK (f : Nat → Int32) (r : Int) : Prop :=
  (0 ≤ tI f (40 * r) ∧ tI f (40 * r) ≤ 8 ∧ 1 ≤ tI f (40 * r + 1) ∧ tI f (40 * r + 1) ≤ 4) ∧
  (tI f (40 * r) ≠ 0 → 0 ≤ tI f (40 * r + 2) ∧ tI f (40 * r + 2) < r ∧ -1 ≤ tI f (40 * r + 3) ∧ tI f (40 * r + 3) < r) ∧
  (0 ≤ tI f (40 * r + 4) ∧ tI f (40 * r + 4) ≤ 8) ∧
  (tI f (40 * r) = 0 → 0 < r → tI f (40 * (r - 1)) = 0) ∧
  (tI f (40 * r) = 1 → ∀ k : Int, 0 ≤ k → k < tI f (40 * r + 4) → 0 ≤ mP f r k 0 ∧ mP f r k 0 ≤ 3 ∧ (mP f r k 2 = 1 → 0 ≤ mP f r k 3 ∧ mP f r k 3 ≤ 3)) ∧
  (tI f (40 * r) = 2 → tI f (40 * r + 4) ≤ 4 ∧ ∀ k : Int, 0 ≤ k → k < tI f (40 * r + 4) → mP f r k 0 ≤ 3) ∧
  (tI f (40 * r) = 3 → 0 ≤ tI f (40 * r + 3) ∧ tI f (40 * r + 4) ≤ 4 ∧ (∀ k : Int, 0 ≤ k → k < tI f (40 * r + 4) → 0 ≤ mP f r k 0 ∧ mP f r k 0 ≤ 3 ∧ 0 ≤ mP f r k 1 ∧ mP f r k 1 ≤ 3) ∧
    tI f (40 * tI f (40 * r + 2) + 1) + mCnt (tI f (40 * r + 5)) (tI f (40 * tI f (40 * r + 3) + 1)).toNat ≤ 4) ∧
  (tI f (40 * r) = 4 ∨ tI f (40 * r) = 5 → 0 ≤ tI f (40 * r + 3)) ∧
  (tI f (40 * r) = 7 → tI f (40 * r + 4) ≤ 3 ∧ (∀ k : Int, 0 ≤ k → k < tI f (40 * r + 4) → 0 ≤ mP f r k 0 ∧ mP f r k 0 ≤ 3) ∧ 0 ≤ mP f r (tI f (40 * r + 4)) 0 ∧ mP f r (tI f (40 * r + 4)) 0 ≤ 3) ∧
  (tI f (40 * r) = 8 → 0 ≤ tI f (40 * r + 3) ∧ tI f (40 * r + 4) ≤ 4 ∧ 0 ≤ mP f r 0 0 ∧ mP f r 0 0 ≤ 3 ∧ 0 ≤ mP f r 0 1 ∧ mP f r 0 1 ≤ 3 ∧ (∀ k : Int, 0 ≤ k → k < tI f (40 * r + 4) → mP f r (1 + k) 0 ≤ 3) ∧ tI f (40 * r + 4) = tI f (40 * tI f (40 * r + 2) + 1))
theorem rowOK_c {f f' : Nat → Int32} {r : Int} (hr : 0 ≤ r) (e : ∀ z : Int, 0 ≤ z → z < 40 * r + 40 → tI f' z = tI f z) (h : rowOK f r) : rowOK f' r := by
  obtain ⟨ha, hb, hc, hd, h1, h2, h3, h4, h7, h8⟩ := h
  have e0 : tI f' (40 * r) = tI f (40 * r) := e _ (by omega) (by omega)
  have e1 : tI f' (40 * r + 1) = tI f (40 * r + 1) := e _ (by omega) (by omega)
  have e2 : tI f' (40 * r + 2) = tI f (40 * r + 2) := e _ (by omega) (by omega)
  have e3 : tI f' (40 * r + 3) = tI f (40 * r + 3) := e _ (by omega) (by omega)
  have e4 : tI f' (40 * r + 4) = tI f (40 * r + 4) := e _ (by omega) (by omega)
  have e5 : tI f' (40 * r + 5) = tI f (40 * r + 5) := e _ (by omega) (by omega)
  have ep : ∀ k w : Int, 0 ≤ k → k ≤ 7 → 0 ≤ w → w ≤ 3 → mP f' r k w = mP f r k w := fun k w _ _ _ _ => e _ (by omega) (by omega)
  unfold rowOK
  rw [e0, e1, e2, e3, e4, e5]
  refine ⟨ha, hb, hc, fun a b => by rw [e _ (by omega) (by omega)]; exact hd a b, fun a k hk hl => ?_, fun a => ⟨(h2 a).1, fun k hk hl => ?_⟩, fun a => ⟨(h3 a).1, (h3 a).2.1, fun k hk hl => ?_, ?_⟩, h4, fun a => ⟨(h7 a).1, fun k hk hl => ?_, ?_⟩, fun a => ⟨(h8 a).1, (h8 a).2.1, ?_⟩⟩
  · rw [ep k 0 hk (by omega) (by decide) (by decide), ep k 2 hk (by omega) (by decide) (by decide), ep k 3 hk (by omega) (by decide) (by decide)]; exact h1 a k hk hl
  · rw [ep k 0 hk (by omega) (by decide) (by decide)]; exact (h2 a).2 k hk hl
  · rw [ep k 0 hk (by omega) (by decide) (by decide), ep k 1 hk (by omega) (by decide) (by decide)]; exact (h3 a).2.2.1 k hk hl
  · have q := hb (by omega)
    have q3 := (h3 a).1
    rw [e (40 * tI f (40 * r + 2) + 1) (by omega) (by omega), e (40 * tI f (40 * r + 3) + 1) (by omega) (by omega)]; exact (h3 a).2.2.2
  · have q := (h7 a).1
    rw [ep k 0 hk (by omega) (by decide) (by decide)]; exact (h7 a).2.1 k hk hl
  · have q := (h7 a).1
    rw [ep _ 0 (by omega) (by omega) (by decide) (by decide)]; exact (h7 a).2.2
  · have q := hb (by omega)
    obtain ⟨q3, q4, qa, qb, qc, qd, qe, qf⟩ := h8 a
    rw [ep 0 0 (by decide) (by decide) (by decide) (by decide), ep 0 1 (by decide) (by decide) (by decide) (by decide), e (40 * tI f (40 * r + 2) + 1) (by omega) (by omega)]
    exact ⟨qa, qb, qc, qd, fun k hk hl => by rw [ep (1 + k) 0 (by omega) (by omega) (by decide) (by decide)]; exact qe k hk hl, qf⟩
def mCon (gh : gGh) (f : Nat → Int32) (AI : gI) : Prop := (∀ j : Nat, j < 176 → 0 ≤ (AI (gh 57 0) j).toInt ∧ (AI (gh 57 0) j).toInt ≤ 120) ∧ (∀ j : Nat, j < 41 → 0 ≤ (AI (gh 61 0) j).toInt ∧ (AI (gh 61 0) j).toInt ≤ 15) ∧
  (∀ r : Int, 0 ≤ r → r < (f 2).toInt → rowOK (AI (gh 50 0)) r) ∧ (∀ r : Int, 0 ≤ r → r < (f 5).toInt → rowOK (AI (gh 53 0)) r)
/-- the class's side is as gM says -/
def mFr (g : gG) (gh : gGh) (I AI : gI) : Prop := (∀ b c, gO g b c → c ≠ 7 → I b = (gM g).1 b) ∧ ∀ b, gh 9 b ≠ 5 → AI b = (gM g).2 b
def mInv (g : gG) (gh : gGh) (R : gR) (I AI : gI) : Prop := mSh g gh R ∧ (∀ m, gO g m 7 → mNum (I m) ∧ mCon gh (I m) AI) ∧ mFr g gh I AI
section MInv
variable {g : gG} {gh : gGh} {R : gR} {I AI : gI} {m : Nat}
theorem mR (hv : mInv g gh R I AI) (hm : gO g m 7) {q : Nat × Nat} (h : q ∈ mTab) : R m q.1 = some (gh (50 + q.1) 0) ∧ gAr g (gh (50 + q.1) 0) 9 q.2 := ⟨((hv.1 m hm).2.1 q h).1, ((hv.1 m hm).2.1 q h).2.1⟩
theorem mI (hv : mInv g gh R I AI) (hm : gO g m 7) : mNum (I m) := (hv.2.1 m hm).1
theorem mJ (hv : mInv g gh R I AI) (hm : gO g m 7) : mNum1 (I m) := by have h := mI hv hm; unfold mNum at h; unfold mNum1; omega
theorem mTok (hv : mInv g gh R I AI) (hm : gO g m 7) : (I m 21).toInt = 1 → 0 ≤ (I m 23).toInt ∧ (I m 23).toInt ≤ 3 := by have h := mI hv hm; unfold mNum at h; omega
theorem mOne (hv : mInv g gh R I AI) (hm : gO g m 7) {b : Nat} (hb : gO g b 7) : b = m := (hv.1 b hb).1.trans (hv.1 m hm).1.symm
/-- an int field but many and readMany -/
theorem mInv_f {k : Nat} {v : Int32} (hv : mInv g gh R I AI) (hm : gO g m 7) (hk : k ≠ 2 ∧ k ≠ 5) (h : mNum (gup2 I m k v m)) : mInv g gh R (gup2 I m k v) AI := by
  refine ⟨hv.1, fun b hb => ?_, fun b c hb hc => (gup2_o hm hb hc).trans (hv.2.2.1 b c hb hc), hv.2.2.2⟩
  have e := mOne hv hm hb
  subst e
  refine ⟨h, ?_⟩
  unfold mCon
  rw [gup2_k (j := 2) _ _ (Ne.symm hk.1), gup2_k (j := 5) _ _ (Ne.symm hk.2)]
  exact (hv.2.1 b hb).2
/-- an array that no invariant looks into -/
theorem mInv_b {AI' : gI} {q : Nat × Nat} (hv : mInv g gh R I AI) (hm : gO g m 7) (hq : q ∈ mTab) (hn : q.1 ≠ 0 ∧ q.1 ≠ 3 ∧ q.1 ≠ 7 ∧ q.1 ≠ 11 ∧ q.1 ≠ 15) (h9 : gh 9 (gh (50 + q.1) 0) = 5) (e : ∀ b, b ≠ gh (50 + q.1) 0 → AI' b = AI b) : mInv g gh R I AI' := by
  have hr := (hv.1 m hm).2.1 q hq
  have s : ∀ p ∈ mTab, p.1 ≠ q.1 → AI' (gh (50 + p.1) 0) = AI (gh (50 + p.1) 0) := fun p hp hne => e _ (fun z => hne (by have := ((hv.1 m hm).2.1 p hp).2.2.2; rw [z, hr.2.2.2] at this; exact this.symm))
  refine ⟨hv.1, fun b hb => ⟨(hv.2.1 b hb).1, ?_⟩, hv.2.2.1, fun b hb => (e b (fun z => hb (by rw [z]; exact h9))).trans (hv.2.2.2 b hb)⟩
  unfold mCon
  have s7 : AI' (gh 57 0) = AI (gh 57 0) := s (7, 176) (by decide) (Ne.symm hn.2.2.1)
  have s11 : AI' (gh 61 0) = AI (gh 61 0) := s (11, 41) (by decide) (Ne.symm hn.2.2.2.1)
  have s0 : AI' (gh 50 0) = AI (gh 50 0) := s (0, 640) (by decide) (Ne.symm hn.1)
  have s3 : AI' (gh 53 0) = AI (gh 53 0) := s (3, 640) (by decide) (Ne.symm hn.2.1)
  rw [s7, s11, s0, s3]
  exact (hv.2.1 b hb).2
theorem mInv_a {AI' : gI} {q : Nat × Nat} (hv : mInv g gh R I AI) (hm : gO g m 7) (hq : q ∈ mTab) (hn : (q.1 ≠ 0 ∧ q.1 ≠ 3 ∧ q.1 ≠ 7 ∧ q.1 ≠ 11 ∧ q.1 ≠ 15) ∧ q.1 ≠ 12 ∧ q.1 ≠ 13) (e : ∀ b, b ≠ gh (50 + q.1) 0 → AI' b = AI b) : mInv g gh R I AI' :=
  mInv_b hv hm hq hn.1 (((hv.1 m hm).2.1 q hq).2.2.1 hn.1.2.2.2.2 hn.1.2.2.2.1 hn.2.1 hn.2.2) e
theorem mInv_sizes {AI' : gI} (hv : mInv g gh R I AI) (hm : gO g m 7) (e : ∀ b, b ≠ gh 57 0 → AI' b = AI b) (h : ∀ j : Nat, j < 176 → 0 ≤ (AI' (gh 57 0) j).toInt ∧ (AI' (gh 57 0) j).toInt ≤ 120) : mInv g gh R I AI' := by
  have hr := (hv.1 m hm).2.1 (7, 176) (by decide)
  have h10 : gh 10 (gh 57 0) = 7 := hr.2.2.2
  have s : ∀ p ∈ mTab, p.1 ≠ 7 → AI' (gh (50 + p.1) 0) = AI (gh (50 + p.1) 0) := fun p hp hne => e _ (fun z => hne (by have := ((hv.1 m hm).2.1 p hp).2.2.2; rw [z, h10] at this; exact this.symm))
  refine ⟨hv.1, fun b hb => ⟨(hv.2.1 b hb).1, ?_⟩, hv.2.2.1, fun b hb => (e b (fun z => hb (by rw [z]; exact hr.2.2.1 (by decide) (by decide) (by decide) (by decide)))).trans (hv.2.2.2 b hb)⟩
  have q := (hv.2.1 b hb).2
  unfold mCon
  have s11 : AI' (gh 61 0) = AI (gh 61 0) := s (11, 41) (by decide) (by decide)
  have s0 : AI' (gh 50 0) = AI (gh 50 0) := s (0, 640) (by decide) (by decide)
  have s3 : AI' (gh 53 0) = AI (gh 53 0) := s (3, 640) (by decide) (by decide)
  rw [s11, s0, s3]
  exact ⟨h, q.2⟩
theorem mInv_ct {AI' : gI} (hv : mInv g gh R I AI) (hm : gO g m 7) (h61 : gh 9 (gh 61 0) = 5) (e : ∀ b, b ≠ gh 61 0 → AI' b = AI b) (h : ∀ j : Nat, j < 41 → 0 ≤ (AI' (gh 61 0) j).toInt ∧ (AI' (gh 61 0) j).toInt ≤ 15) : mInv g gh R I AI' := by
  have hr := (hv.1 m hm).2.1 (11, 41) (by decide)
  have h10 : gh 10 (gh 61 0) = 11 := hr.2.2.2
  have s : ∀ p ∈ mTab, p.1 ≠ 11 → AI' (gh (50 + p.1) 0) = AI (gh (50 + p.1) 0) := fun p hp hne => e _ (fun z => hne (by have := ((hv.1 m hm).2.1 p hp).2.2.2; rw [z, h10] at this; exact this.symm))
  refine ⟨hv.1, fun b hb => ⟨(hv.2.1 b hb).1, ?_⟩, hv.2.2.1, fun b hb => (e b (fun z => hb (by rw [z]; exact h61))).trans (hv.2.2.2 b hb)⟩
  have q := (hv.2.1 b hb).2
  unfold mCon
  have s7 : AI' (gh 57 0) = AI (gh 57 0) := s (7, 176) (by decide) (by decide)
  have s0 : AI' (gh 50 0) = AI (gh 50 0) := s (0, 640) (by decide) (by decide)
  have s3 : AI' (gh 53 0) = AI (gh 53 0) := s (3, 640) (by decide) (by decide)
  rw [s7, s0, s3]
  exact ⟨q.1, h, q.2.2⟩
theorem mInv_read {AI' : gI} {z : Int} {v : Int32} (hv : mInv g gh R I AI) (hm : gO g m 7) (e : AI' = gup2 AI (gh 53 0) z.toNat v) (hz : 40 * (I m 5).toInt ≤ z) : mInv g gh R I AI' := by
  have hr := (hv.1 m hm).2.1 (3, 640) (by decide)
  have h10 : gh 10 (gh 53 0) = 3 := hr.2.2.2
  have e' : ∀ b, b ≠ gh 53 0 → AI' b = AI b := fun b hb => by rw [e]; exact funext fun j => gup2_a _ _ hb
  have s : ∀ p ∈ mTab, p.1 ≠ 3 → AI' (gh (50 + p.1) 0) = AI (gh (50 + p.1) 0) := fun p hp hne => e' _ (fun z => hne (by have := ((hv.1 m hm).2.1 p hp).2.2.2; rw [z, h10] at this; exact this.symm))
  refine ⟨hv.1, fun b hb => ⟨(hv.2.1 b hb).1, ?_⟩, hv.2.2.1, fun b hb => (e' b (fun z => hb (by rw [z]; exact hr.2.2.1 (by decide) (by decide) (by decide) (by decide)))).trans (hv.2.2.2 b hb)⟩
  have hbm := mOne hv hm hb
  subst hbm
  have q := (hv.2.1 b hb).2
  unfold mCon
  have s7 : AI' (gh 57 0) = AI (gh 57 0) := s (7, 176) (by decide) (by decide)
  have s11 : AI' (gh 61 0) = AI (gh 61 0) := s (11, 41) (by decide) (by decide)
  have s0 : AI' (gh 50 0) = AI (gh 50 0) := s (0, 640) (by decide) (by decide)
  rw [s7, s11, s0]
  refine ⟨q.1, q.2.1, q.2.2.1, fun r h0 h1 => rowOK_c h0 (fun y hy hl => ?_) (q.2.2.2 r h0 h1)⟩
  unfold tI
  rw [e, gup2_k _ _ (by omega)]
theorem mSz (hv : mInv g gh R I AI) (hm : gO g m 7) {z : Int} (h0 : 0 ≤ z) (h1 : z < 176) : 0 ≤ (AI (gh 57 0) z.toNat).toInt ∧ (AI (gh 57 0) z.toNat).toInt ≤ 120 := (hv.2.1 m hm).2.1 z.toNat (by omega)
theorem mCt (hv : mInv g gh R I AI) (hm : gO g m 7) {z : Int} (h0 : 0 ≤ z) (h1 : z < 41) : 0 ≤ (AI (gh 61 0) z.toNat).toInt ∧ (AI (gh 61 0) z.toNat).toInt ≤ 15 := (hv.2.1 m hm).2.2.1 z.toNat (by omega)
theorem mRow {T : Nat → Int32} (hv : mInv g gh R I AI) (hm : gO g m 7) (hT : AI (gh 50 0) = T) {z : Int} (h0 : 0 ≤ z) (h1 : z < (I m 2).toInt) : rowOK T z := by rw [← hT]; exact (hv.2.1 m hm).2.2.2.1 z h0 h1
theorem mRead (hv : mInv g gh R I AI) (hm : gO g m 7) {z : Int} (h0 : 0 ≤ z) (h1 : z < (I m 5).toInt) : rowOK (AI (gh 53 0)) z := (hv.2.1 m hm).2.2.2.2 z h0 h1
/-- another array's write leaves an array as it was -/
theorem mK {AI' : gI} {p q : Nat × Nat} (hv : mInv g gh R I AI) (hm : gO g m 7) (hp : p ∈ mTab) (hq : q ∈ mTab) (hne : p.1 ≠ q.1) (e : ∀ b, b ≠ gh (50 + q.1) 0 → AI' b = AI b) : AI' (gh (50 + p.1) 0) = AI (gh (50 + p.1) 0) :=
  e _ (fun z => hne (by have h := ((hv.1 m hm).2.1 p hp).2.2.2; have h' := ((hv.1 m hm).2.1 q hq).2.2.2; rw [z, h'] at h; exact h.symm))
/-- only worked may be another one; or also what calls of the face write -/
def wF (m : Nat) (I I' : gI) : Prop := ∀ j, j ≠ 26 → I' m j = I m j
def mF (m : Nat) (I I' : gI) : Prop := ∀ j, j ≠ 8 → j ≠ 9 → j ≠ 10 → j ≠ 14 → j ≠ 17 → j ≠ 26 → I' m j = I m j
/-- the same, but the changes stay -/
def nF (m : Nat) (I I' : gI) : Prop := ∀ j, j ≠ 8 → j ≠ 9 → j ≠ 10 → j ≠ 17 → j ≠ 26 → I' m j = I m j
/-- what the parser writes -/
def qF (m : Nat) (I I' : gI) : Prop := ∀ j, j ≠ 19 → j ≠ 20 → j ≠ 21 → j ≠ 23 → j ≠ 24 → I' m j = I m j
theorem qF_r : qF m I I := fun _ _ _ _ _ _ => rfl
theorem qF_t {I' I'' : gI} (h : qF m I I') (h' : qF m I' I'') : qF m I I'' := fun j a b c d e => (h' j a b c d e).trans (h j a b c d e)
theorem qF_p {k : Nat} {v : Int32} (hk : k = 19 ∨ k = 20 ∨ k = 21 ∨ k = 23 ∨ k = 24) : qF m I (gup2 I m k v) := fun j a b c d e => gup2_k _ _ (by omega)
theorem wF_r : wF m I I := fun _ _ => rfl
theorem wF_t {I' I'' : gI} (h : wF m I I') (h' : wF m I' I'') : wF m I I'' := fun j hj => (h' j hj).trans (h j hj)
theorem mF_r : mF m I I := fun _ _ _ _ _ _ _ => rfl
theorem mF_t {I' I'' : gI} (h : mF m I I') (h' : mF m I' I'') : mF m I I'' := fun j a b c d e f => (h' j a b c d e f).trans (h j a b c d e f)
theorem mF_w {I' : gI} (h : wF m I I') : mF m I I' := fun j _ _ _ _ _ f => h j f
theorem wF_p {v : Int32} : wF m I (gup2 I m 26 v) := fun _ hj => gup2_k _ _ hj
theorem mF_p {k : Nat} {v : Int32} (hk : k = 8 ∨ k = 9 ∨ k = 10 ∨ k = 14 ∨ k = 17 ∨ k = 26) : mF m I (gup2 I m k v) := fun j a b c d e f => gup2_k _ _ (by omega)
theorem nF_r : nF m I I := fun _ _ _ _ _ _ => rfl
theorem nF_t {I' I'' : gI} (h : nF m I I') (h' : nF m I' I'') : nF m I I'' := fun j a b c d e => (h' j a b c d e).trans (h j a b c d e)
theorem nF_w {I' : gI} (h : wF m I I') : nF m I I' := fun j _ _ _ _ f => h j f
theorem mF_n {I' : gI} (h : nF m I I') : mF m I I' := fun j a b c _ d e => h j a b c d e
theorem nF_p {k : Nat} {v : Int32} (hk : k = 8 ∨ k = 9 ∨ k = 10 ∨ k = 17 ∨ k = 26) : nF m I (gup2 I m k v) := fun j a b c d e => gup2_k _ _ (by omega)
end MInv
