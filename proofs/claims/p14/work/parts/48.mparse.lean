section
/-! the reference's reading of a tape: what its steps leave in the row that is read -/
theorem z_eq {v x : Int} (hv : zr v) (hx : zr x) (h : iI v = iI x) : v = x := by have := congrArg Int32.toInt h; rwa [iI_val hv, iI_val hx] at this
theorem z_wrap (x : Int) : ∃ v, zr v ∧ iI x = iI v ∧ (zr x → v = x) := ⟨(iI x).toInt, zr_t _, (iI_self _).symm, fun h => iI_val h⟩
theorem mBit01 (x d : Int) : mBit x d = 0 ∨ mBit x d = 1 := by
  unfold mBit
  generalize (iI ((iI x >>> (iI d &&& 31)).toInt)) = y
  have h : y &&& iI 1 = 0 ∨ y &&& iI 1 = 1 := by
    have t : (y &&& iI 1).toBitVec = y.toBitVec &&& 1#32 := rfl
    rw [BitVec.and_one_eq_setWidth_ofBool_getLsbD] at t
    cases q : y.toBitVec.getLsbD 0
    · rw [q] at t; exact Or.inl (Int32.toBitVec_inj.mp t)
    · rw [q] at t; exact Or.inr (Int32.toBitVec_inj.mp t)
  rcases h with h | h <;> rw [h]
  · exact Or.inl rfl
  · exact Or.inr rfl
theorem tI_s {A : gI} {b : Nat} {z v : Int} (hv : zr v) : tI (gup2 A b z.toNat (iI v) b) z = v := by unfold tI; rw [gup2_s]; exact iI_val hv
theorem tI_k {A : gI} {b : Nat} {z y : Int} {v : Int32} (hz : 0 ≤ z) (hy : 0 ≤ y) (h : y ≠ z) : tI (gup2 A b z.toNat v b) y = tI (A b) y := by unfold tI; rw [gup2_k _ _ (by omega)]
def s1 (f f' : Nat → Int32) (x v : Int) : Prop := (∀ z : Int, 0 ≤ z → z ≠ x → tI f' z = tI f z) ∧ tI f' x = v
theorem s1_mk {A A' : gI} {b : Nat} {x v : Int} (hx : 0 ≤ x) (hv : zr v) (e : A' = gup2 A b x.toNat (iI v)) : s1 (A b) (A' b) x v := by
  subst e
  exact ⟨fun z hz hn => tI_k hx hz hn, tI_s hv⟩
def sP (f f' : Nat → Int32) (M k a b c d : Int) : Prop := (∀ z : Int, 0 ≤ z → (z < 40 * M + 6 + 4 * k ∨ 40 * M + 6 + 4 * k + 4 ≤ z) → tI f' z = tI f z) ∧ mP f' M k 0 = a ∧ mP f' M k 1 = b ∧ mP f' M k 2 = c ∧ mP f' M k 3 = d
theorem sP_mk {A A1 A2 A3 A4 : gI} {o : Nat} {z M k a b c d : Int} (hM : 0 ≤ M) (hk : 0 ≤ k) (ha : zr a) (hb : zr b) (hc : zr c) (hd : zr d) (hz : z = 40 * M + 6 + 4 * k)
    (e1 : A1 = gup2 A o z.toNat (iI a)) (e2 : A2 = gup2 A1 o (z + 1).toNat (iI b)) (e3 : A3 = gup2 A2 o (z + 2).toNat (iI c)) (e4 : A4 = gup2 A3 o (z + 3).toNat (iI d)) : sP (A o) (A4 o) M k a b c d := by
  subst e1 e2 e3 e4
  subst hz
  refine ⟨fun y hy hn => ?_, ?_, ?_, ?_, ?_⟩
  · rw [tI_k (by omega) hy (by omega), tI_k (by omega) hy (by omega), tI_k (by omega) hy (by omega), tI_k (by omega) hy (by omega)]
  · unfold mP; rw [Int.add_zero, tI_k (by omega) (by omega) (by omega), tI_k (by omega) (by omega) (by omega), tI_k (by omega) (by omega) (by omega)]; exact tI_s ha
  · unfold mP; rw [tI_k (by omega) (by omega) (by omega), tI_k (by omega) (by omega) (by omega)]; exact tI_s hb
  · unfold mP; rw [tI_k (by omega) (by omega) (by omega)]; exact tI_s hc
  · exact tI_s hd
def hP (f f' : Nat → Int32) (M kd cl one oth ps : Int) : Prop := (∀ z : Int, 0 ≤ z → (z < 40 * M ∨ 40 * M + 6 ≤ z) → tI f' z = tI f z) ∧ tI f' (40 * M) = kd ∧ tI f' (40 * M + 1) = cl ∧ tI f' (40 * M + 2) = one ∧ tI f' (40 * M + 3) = oth ∧ tI f' (40 * M + 4) = ps
theorem hP_mk {f f1 f2 f3 f4 f5 : Nat → Int32} {M a b c d e : Int} (hM : 0 ≤ M) (h1 : s1 f f1 (40 * M + 0) a) (h2 : s1 f1 f2 (40 * M + 1) b) (h3 : s1 f2 f3 (40 * M + 2) c) (h4 : s1 f3 f4 (40 * M + 3) d) (h5 : s1 f4 f5 (40 * M + 4) e) : hP f f5 M a b c d e := by
  refine ⟨fun z hz hn => ?_, ?_, ?_, ?_, ?_, h5.2⟩
  · rw [h5.1 z hz (by omega), h4.1 z hz (by omega), h3.1 z hz (by omega), h2.1 z hz (by omega), h1.1 z hz (by omega)]
  · rw [h5.1 _ (by omega) (by omega), h4.1 _ (by omega) (by omega), h3.1 _ (by omega) (by omega), h2.1 _ (by omega) (by omega)]; have := h1.2; rwa [Int.add_zero] at this
  · rw [h5.1 _ (by omega) (by omega), h4.1 _ (by omega) (by omega), h3.1 _ (by omega) (by omega)]; exact h2.2
  · rw [h5.1 _ (by omega) (by omega), h4.1 _ (by omega) (by omega)]; exact h3.2
  · rw [h5.1 _ (by omega) (by omega)]; exact h4.2
theorem hP_s5 {f f1 f2 : Nat → Int32} {M a b c d e v : Int} (hM : 0 ≤ M) (h : hP f f1 M a b c d e) (h5 : s1 f1 f2 (40 * M + 5) v) : hP f f2 M a b c d e ∧ tI f2 (40 * M + 5) = v := by
  obtain ⟨h0, ha, hb, hc, hd, he⟩ := h
  refine ⟨⟨fun z hz hn => ?_, ?_, ?_, ?_, ?_, ?_⟩, h5.2⟩
  · rw [h5.1 z hz (by omega), h0 z hz hn]
  · rw [h5.1 _ (by omega) (by omega)]; exact ha
  · rw [h5.1 _ (by omega) (by omega)]; exact hb
  · rw [h5.1 _ (by omega) (by omega)]; exact hc
  · rw [h5.1 _ (by omega) (by omega)]; exact hd
  · rw [h5.1 _ (by omega) (by omega)]; exact he
/-- parts of a selection, of a list of terms, of a join, of a group -/
def selP (f : Nat → Int32) (M n : Int) : Prop := ∀ k : Int, 0 ≤ k → k < n → 0 ≤ mP f M k 0 ∧ mP f M k 0 ≤ 3 ∧ (mP f M k 2 = 1 → 0 ≤ mP f M k 3 ∧ mP f M k 3 ≤ 3)
def termP (f : Nat → Int32) (M fm n : Int) : Prop := ∀ k : Int, 0 ≤ k → k < n → mP f M (fm + k) 0 ≤ 3
def joinP (f : Nat → Int32) (M n : Int) : Prop := ∀ k : Int, 0 ≤ k → k < n → 0 ≤ mP f M k 0 ∧ mP f M k 0 ≤ 3 ∧ 0 ≤ mP f M k 1 ∧ mP f M k 1 ≤ 3
def grpP (f : Nat → Int32) (M n : Int) : Prop := ∀ k : Int, 0 ≤ k → k < n → 0 ≤ mP f M k 0 ∧ mP f M k 0 ≤ 3
def trF (f f' : Nat → Int32) (M fm : Int) : Prop := ∀ z : Int, 0 ≤ z → (z < 40 * M + 6 + 4 * fm ∨ 40 * M + 6 + 4 * fm + 16 ≤ z) → tI f' z = tI f z
theorem sP_old {f f' : Nat → Int32} {M n a b c d k w : Int} (h : sP f f' M n a b c d) (hM : 0 ≤ M) (hk : 0 ≤ k) (hl : k < n) (hw : 0 ≤ w ∧ w ≤ 3) : mP f' M k w = mP f M k w := h.1 _ (by omega) (by omega)
theorem selP_step {f f' : Nat → Int32} {M n a b c d : Int} (hM : 0 ≤ M) (h : selP f M n) (hs : sP f f' M n a b c d) (ha : 0 ≤ a ∧ a ≤ 3) (hd : c = 1 → 0 ≤ d ∧ d ≤ 3) : selP f' M (n + 1) := by
  intro k hk hl
  by_cases q : k = n
  · subst q; rw [hs.2.1, hs.2.2.2.1, hs.2.2.2.2]; exact ⟨ha.1, ha.2, hd⟩
  · rw [sP_old hs hM hk (by omega) (by decide), sP_old hs hM hk (by omega) (by decide), sP_old hs hM hk (by omega) (by decide)]; exact h k hk (by omega)
theorem joinP_step {f f' : Nat → Int32} {M n a b c d : Int} (hM : 0 ≤ M) (h : joinP f M n) (hs : sP f f' M n a b c d) (ha : 0 ≤ a ∧ a ≤ 3) (hb : 0 ≤ b ∧ b ≤ 3) : joinP f' M (n + 1) := by
  intro k hk hl
  by_cases q : k = n
  · subst q; rw [hs.2.1, hs.2.2.1]; exact ⟨ha.1, ha.2, hb⟩
  · rw [sP_old hs hM hk (by omega) (by decide), sP_old hs hM hk (by omega) (by decide)]; exact h k hk (by omega)
theorem grpP_step {f f' : Nat → Int32} {M n a b c d : Int} (hM : 0 ≤ M) (h : grpP f M n) (hs : sP f f' M n a b c d) (ha : 0 ≤ a ∧ a ≤ 3) : grpP f' M (n + 1) := by
  intro k hk hl
  by_cases q : k = n
  · subst q; rw [hs.2.1]; exact ha
  · rw [sP_old hs hM hk (by omega) (by decide)]; exact h k hk (by omega)
theorem termP_step {f f' : Nat → Int32} {M fm n a b c d : Int} (hM : 0 ≤ M) (hfm : 0 ≤ fm) (h : termP f M fm n) (hs : sP f f' M (fm + n) a b c d) (ha : a ≤ 3) : termP f' M fm (n + 1) := by
  intro k hk hl
  by_cases q : k = n
  · subst q; rw [hs.2.1]; exact ha
  · rw [sP_old hs hM (by omega) (by omega) (by decide)]; exact h k hk (by omega)
theorem trF_step {f f' f'' : Nat → Int32} {M fm n a b c d : Int} (h : trF f f' M fm) (hn : 0 ≤ n ∧ n ≤ 3) (hs : sP f' f'' M (fm + n) a b c d) : trF f f'' M fm := fun z hz hl => (hs.1 z hz (by omega)).trans (h z hz hl)
theorem trF_r {f : Nat → Int32} {M fm : Int} : trF f f M fm := fun _ _ _ => rfl
theorem row_mk {f f' : Nat → Int32} {M kd cl one oth ps : Int} (hM : 0 ≤ M) (h : hP f f' M kd cl one oth ps) (hk : 0 ≤ kd ∧ kd ≤ 8) (hc : 1 ≤ cl ∧ cl ≤ 4) (h1 : kd ≠ 0 → 0 ≤ one ∧ one < M ∧ -1 ≤ oth ∧ oth < M) (hp : 0 ≤ ps ∧ ps ≤ 8)
    (h0 : kd = 0 → 0 < M → tI f (40 * (M - 1)) = 0) (c1 : kd = 1 → selP f M ps) (c2 : kd = 2 → ps ≤ 4 ∧ termP f M 0 ps)
    (c3 : kd = 3 → 0 ≤ oth ∧ ps ≤ 4 ∧ joinP f M ps ∧ tI f (40 * one + 1) + mCnt (tI f' (40 * M + 5)) (tI f (40 * oth + 1)).toNat ≤ 4)
    (c4 : kd = 4 ∨ kd = 5 → 0 ≤ oth) (c7 : kd = 7 → ps ≤ 3 ∧ grpP f M (ps + 1))
    (c8 : kd = 8 → 0 ≤ oth ∧ ps ≤ 4 ∧ 0 ≤ mP f M 0 0 ∧ mP f M 0 0 ≤ 3 ∧ 0 ≤ mP f M 0 1 ∧ mP f M 0 1 ≤ 3 ∧ termP f M 1 ps ∧ ps = tI f (40 * one + 1)) : rowOK f' M := by
  obtain ⟨hf, q0, q1, q2, q3, q4⟩ := h
  have ep : ∀ k w : Int, 0 ≤ k → 0 ≤ w → mP f' M k w = mP f M k w := fun k w _ _ => hf _ (by omega) (by omega)
  unfold rowOK
  rw [q0, q1, q2, q3, q4]
  refine ⟨⟨hk.1, hk.2, hc.1, hc.2⟩, h1, hp, fun a b => by rw [hf _ (by omega) (by omega)]; exact h0 a b, fun a k b c => ?_, fun a => ⟨(c2 a).1, fun k b c => ?_⟩, fun a => ?_, c4, fun a => ?_, fun a => ?_⟩
  · rw [ep k 0 b (by decide), ep k 2 b (by decide), ep k 3 b (by decide)]; exact c1 a k b c
  · rw [ep k 0 b (by decide)]; have := (c2 a).2 k b c; rwa [Int.zero_add] at this
  · obtain ⟨x1, x2, x3, x4⟩ := c3 a
    have y := h1 (by omega)
    refine ⟨x1, x2, fun k b c => ?_, ?_⟩
    · rw [ep k 0 b (by decide), ep k 1 b (by decide)]; exact x3 k b c
    · rw [hf (40 * one + 1) (by omega) (by omega), hf (40 * oth + 1) (by omega) (by omega)]; exact x4
  · obtain ⟨x1, x2⟩ := c7 a
    refine ⟨x1, fun k b c => ?_, ?_⟩
    · rw [ep k 0 b (by decide)]; exact x2 k b (by omega)
    · rw [ep ps 0 hp.1 (by decide)]; exact x2 ps hp.1 (by omega)
  · obtain ⟨x1, x2, x3, x4, x5, x6, x7, x8⟩ := c8 a
    have y := h1 (by omega)
    rw [ep 0 0 (by decide) (by decide), ep 0 1 (by decide) (by decide), hf (40 * one + 1) (by omega) (by omega)]
    exact ⟨x1, x2, x3, x4, x5, x6, fun k b c => by rw [ep (1 + k) 0 (by omega) (by decide)]; exact x7 k b c, x8⟩
theorem mCol {g : gG} {gh : gGh} {R : gR} {I AI : gI} {m : Nat} (hv : mInv g gh R I AI) (hm : gO g m 7) {z : Int} (h0 : 0 ≤ z) (h1 : z < (I m 5).toInt) : 1 ≤ tI (AI (gh 53 0)) (40 * z + 1) ∧ tI (AI (gh 53 0)) (40 * z + 1) ≤ 4 := by
  have h := (mRead hv hm h0 h1).1
  omega
theorem named_step {f : Nat → Int64} {k : Int} {w : Int64} (h : ∀ j : Int, 0 ≤ j → j < k → f j.toNat ≠ w) (hk : f k.toNat ≠ w) : ∀ j : Int, 0 ≤ j → j < k + 1 → f j.toNat ≠ w := fun j h0 h1 => by
  by_cases q : j = k
  · subst q; exact hk
  · exact h j h0 (by omega)
theorem mP5_0 {g : gG} {gh : gGh} {R : gR} {I AI : gI} {m : Nat} (hv : mInv g gh R I AI) (hm : gO g m 7) : mInv g gh R (gup2 I m 5 (iI 0)) AI := by
  refine ⟨hv.1, fun b hb => ?_, fun b c hb hc => (gup2_o hm hb hc).trans (hv.2.2.1 b c hb hc), hv.2.2.2⟩
  have e := mOne hv hm hb
  subst e
  obtain ⟨q, q1, q2, q3, q4⟩ := hv.2.1 b hb
  refine ⟨?_, q1, q2, ?_, ?_⟩
  · unfold mNum at q ⊢
    rw [gup2_k (j := 2) (k := 5) _ _ (by decide), gup2_k (j := 8) (k := 5) _ _ (by decide), gup2_k (j := 14) (k := 5) _ _ (by decide), gup2_k (j := 16) (k := 5) _ _ (by decide), gup2_k (j := 18) (k := 5) _ _ (by decide), gup2_k (j := 19) (k := 5) _ _ (by decide), gup2_k (j := 20) (k := 5) _ _ (by decide), gup2_k (j := 21) (k := 5) _ _ (by decide), gup2_k (j := 23) (k := 5) _ _ (by decide), gup2_k (j := 24) (k := 5) _ _ (by decide), gup2_k (j := 26) (k := 5) _ _ (by decide), gup2_s, iI_val ⟨by omega, by omega⟩]
    omega
  · rw [gup2_k (j := 2) (k := 5) _ _ (by decide)]; exact q3
  · intro r h0 h1
    rw [gup2_s, iI_val ⟨by omega, by omega⟩] at h1
    exact absurd h1 (by omega)
theorem mP5 {g : gG} {gh : gGh} {R : gR} {I AI : gI} {m : Nat} {z : Int} (hv : mInv g gh R I AI) (hm : gO g m 7) (hz : z = (I m 5).toInt + 1) (hl : z ≤ 16) (hr : rowOK (AI (gh 53 0)) (I m 5).toInt) : mInv g gh R (gup2 I m 5 (iI z)) AI := by
  refine ⟨hv.1, fun b hb => ?_, fun b c hb hc => (gup2_o hm hb hc).trans (hv.2.2.1 b c hb hc), hv.2.2.2⟩
  have e := mOne hv hm hb
  subst e
  obtain ⟨q, q1, q2, q3, q4⟩ := hv.2.1 b hb
  have q0 := q
  unfold mNum at q0
  refine ⟨?_, q1, q2, ?_, ?_⟩
  · unfold mNum
    rw [gup2_k (j := 2) (k := 5) _ _ (by decide), gup2_k (j := 8) (k := 5) _ _ (by decide), gup2_k (j := 14) (k := 5) _ _ (by decide), gup2_k (j := 16) (k := 5) _ _ (by decide), gup2_k (j := 18) (k := 5) _ _ (by decide), gup2_k (j := 19) (k := 5) _ _ (by decide), gup2_k (j := 20) (k := 5) _ _ (by decide), gup2_k (j := 21) (k := 5) _ _ (by decide), gup2_k (j := 23) (k := 5) _ _ (by decide), gup2_k (j := 24) (k := 5) _ _ (by decide), gup2_k (j := 26) (k := 5) _ _ (by decide), gup2_s, iI_val ⟨by omega, by omega⟩]
    omega
  · rw [gup2_k (j := 2) (k := 5) _ _ (by decide)]; exact q3
  · intro r h0 h1
    rw [gup2_s, iI_val ⟨by omega, by omega⟩] at h1
    by_cases e : r = (I b 5).toInt
    · rw [e]; exact hr
    · exact q4 r h0 (by omega)
/-- no relation told: told may be written -/
theorem mP2_0 {g : gG} {gh : gGh} {R : gR} {I AI : gI} {m : Nat} (hv : mInv g gh R I AI) (hm : gO g m 7) : mInv g gh R (gup2 I m 2 (iI 0)) AI := by
  refine ⟨hv.1, fun b hb => ?_, fun b c hb hc => (gup2_o hm hb hc).trans (hv.2.2.1 b c hb hc), hv.2.2.2⟩
  have e := mOne hv hm hb
  subst e
  obtain ⟨q, q1, q2, q3, q4⟩ := hv.2.1 b hb
  refine ⟨?_, q1, q2, ?_, ?_⟩
  · unfold mNum at q ⊢
    rw [gup2_k (j := 5) (k := 2) _ _ (by decide), gup2_k (j := 8) (k := 2) _ _ (by decide), gup2_k (j := 14) (k := 2) _ _ (by decide), gup2_k (j := 16) (k := 2) _ _ (by decide), gup2_k (j := 18) (k := 2) _ _ (by decide), gup2_k (j := 19) (k := 2) _ _ (by decide), gup2_k (j := 20) (k := 2) _ _ (by decide), gup2_k (j := 21) (k := 2) _ _ (by decide), gup2_k (j := 23) (k := 2) _ _ (by decide), gup2_k (j := 24) (k := 2) _ _ (by decide), gup2_k (j := 26) (k := 2) _ _ (by decide), gup2_s, iI_val ⟨by omega, by omega⟩]
    omega
  · intro r h0 h1
    rw [gup2_s, iI_val ⟨by omega, by omega⟩] at h1
    exact absurd h1 (by omega)
  · rw [gup2_k (j := 5) (k := 2) _ _ (by decide)]; exact q4
theorem mInv_told0 {g : gG} {gh : gGh} {R : gR} {I AI AI' : gI} {m z : Nat} {v : Int32} (hv : mInv g gh R I AI) (hm : gO g m 7) (h0 : (I m 2).toInt = 0) (e : AI' = gup2 AI (gh 50 0) z v) : mInv g gh R I AI' := by
  have hr := (hv.1 m hm).2.1 (0, 640) (by decide)
  have h10 : gh 10 (gh 50 0) = 0 := hr.2.2.2
  have e' : ∀ b, b ≠ gh 50 0 → AI' b = AI b := fun b hb => by rw [e]; exact funext fun j => gup2_a _ _ hb
  have s : ∀ p ∈ mTab, p.1 ≠ 0 → AI' (gh (50 + p.1) 0) = AI (gh (50 + p.1) 0) := fun p hp hne => e' _ (fun z => hne (by have := ((hv.1 m hm).2.1 p hp).2.2.2; rw [z, h10] at this; exact this.symm))
  refine ⟨hv.1, fun b hb => ⟨(hv.2.1 b hb).1, ?_⟩, hv.2.2.1, fun b hb => (e' b (fun z => hb (by rw [z]; exact hr.2.2.1 (by decide) (by decide) (by decide) (by decide)))).trans (hv.2.2.2 b hb)⟩
  have hbm := mOne hv hm hb
  subst hbm
  have q := (hv.2.1 b hb).2
  unfold mCon
  have s7 : AI' (gh 57 0) = AI (gh 57 0) := s (7, 176) (by decide) (by decide)
  have s11 : AI' (gh 61 0) = AI (gh 61 0) := s (11, 41) (by decide) (by decide)
  have s3 : AI' (gh 53 0) = AI (gh 53 0) := s (3, 640) (by decide) (by decide)
  rw [s7, s11, s3]
  exact ⟨q.1, q.2.1, fun r h1 h2 => absurd h2 (by omega), q.2.2.2⟩
theorem mPlan {g : gG} {gh : gGh} {R : gR} {I I' Iv AI : gI} {m : Nat} {M : Int} (hv : mInv g gh R Iv AI) (hm : gO g m 7) (hN : mNum (I m)) (eIv : Iv = gup2 I m 2 (iI 0)) (hM : M = (I m 5).toInt)
    (ef : I' = gup2 (gup2 (gup2 (gup2 (gup2 I m 2 (iI M)) m 8 (iI 0)) m 9 (iI 0)) m 10 (iI 0)) m 14 (iI 0)) (hr : ∀ r : Int, 0 ≤ r → r < M → rowOK (AI (gh 50 0)) r) : mInv g gh R I' AI ∧ (I' m 16).toInt = (I m 16).toInt := by
  have e : ∀ j, j ≠ 2 → j ≠ 8 → j ≠ 9 → j ≠ 10 → j ≠ 14 → I' m j = I m j := fun j a b c d q => by rw [ef, gup2_k _ _ q, gup2_k _ _ d, gup2_k _ _ c, gup2_k _ _ b, gup2_k _ _ a]
  have e14 : (I' m 14).toInt = 0 := by rw [ef, gup2_s]; exact iI_val ⟨by omega, by omega⟩
  have e8 : (I' m 8).toInt = 0 := by rw [ef, gup2_k (j := 8) (k := 14) _ _ (by decide), gup2_k (j := 8) (k := 10) _ _ (by decide), gup2_k (j := 8) (k := 9) _ _ (by decide), gup2_s]; exact iI_val ⟨by omega, by omega⟩
  have h0 := hN
  unfold mNum at h0
  have e2 : (I' m 2).toInt = M := by rw [ef, gup2_k (j := 2) (k := 14) _ _ (by decide), gup2_k (j := 2) (k := 10) _ _ (by decide), gup2_k (j := 2) (k := 9) _ _ (by decide), gup2_k (j := 2) (k := 8) _ _ (by decide), gup2_s]; exact iI_val ⟨by omega, by omega⟩
  refine ⟨⟨hv.1, fun b hb => ?_, fun b c hb hc => ?_, hv.2.2.2⟩, by rw [e 16 (by decide) (by decide) (by decide) (by decide) (by decide)]⟩
  · have q := mOne hv hm hb
    subst q
    obtain ⟨_, q1, q2, q3, q4⟩ := hv.2.1 b hb
    refine ⟨?_, q1, q2, ?_, ?_⟩
    · unfold mNum
      rw [e2, e8, e14, e 5 (by decide) (by decide) (by decide) (by decide) (by decide), e 16 (by decide) (by decide) (by decide) (by decide) (by decide), e 18 (by decide) (by decide) (by decide) (by decide) (by decide), e 19 (by decide) (by decide) (by decide) (by decide) (by decide), e 20 (by decide) (by decide) (by decide) (by decide) (by decide), e 21 (by decide) (by decide) (by decide) (by decide) (by decide), e 23 (by decide) (by decide) (by decide) (by decide) (by decide), e 24 (by decide) (by decide) (by decide) (by decide) (by decide), e 26 (by decide) (by decide) (by decide) (by decide) (by decide)]
      omega
    · rw [e2]; exact hr
    · rw [e 5 (by decide) (by decide) (by decide) (by decide) (by decide)]
      rw [eIv, gup2_k (j := 5) (k := 2) _ _ (by decide)] at q4
      exact q4
  · have q := hv.2.2.1 b c hb hc
    rw [eIv] at q
    have q' := (gup2_o (k := 2) (v := iI 0) (I := I) hm hb hc).symm.trans q
    rw [ef, gup2_o hm hb hc, gup2_o hm hb hc, gup2_o hm hb hc, gup2_o hm hb hc, gup2_o hm hb hc]
    exact q'
theorem mCnt_u {x : Int} {a : Nat} : mCnt x a ≤ a := by
  induction a with
  | zero => exact Int.le_refl _
  | succ n ih => rw [mCnt]; split <;> omega
end
section
theorem hdX7_wrong : yX7_wrong.cls = RX7 ∧ yX7_wrong.cls ≠ "java/lang/invoke/MethodHandle" ∧ yX7_wrong.cls ≠ "java/lang/invoke/VarHandle" ∧ (parseMethodDescriptor yX7_wrong.desc).map (fun d => d.parameters.length) = some 1 := by decide +kernel
theorem hdX7_runs : yX7_runs.cls = RX7 ∧ yX7_runs.cls ≠ "java/lang/invoke/MethodHandle" ∧ yX7_runs.cls ≠ "java/lang/invoke/VarHandle" ∧ (parseMethodDescriptor yX7_runs.desc).map (fun d => d.parameters.length) = some 1 := by decide +kernel
theorem hdX7_next : yX7_next.cls = RX7 ∧ yX7_next.cls ≠ "java/lang/invoke/MethodHandle" ∧ yX7_next.cls ≠ "java/lang/invoke/VarHandle" ∧ (parseMethodDescriptor yX7_next.desc).map (fun d => d.parameters.length) = some 0 := by decide +kernel
end
section
theorem hdX7_packed : yX7_packed.cls = RX7 ∧ yX7_packed.cls ≠ "java/lang/invoke/MethodHandle" ∧ yX7_packed.cls ≠ "java/lang/invoke/VarHandle" ∧ (parseMethodDescriptor yX7_packed.desc).map (fun d => d.parameters.length) = some 1 := by decide +kernel
theorem hdX7_isWord : yX7_isWord.cls = RX7 ∧ yX7_isWord.cls ≠ "java/lang/invoke/MethodHandle" ∧ yX7_isWord.cls ≠ "java/lang/invoke/VarHandle" ∧ (parseMethodDescriptor yX7_isWord.desc).map (fun d => d.parameters.length) = some 1 := by decide +kernel
theorem hdX7_isSign : yX7_isSign.cls = RX7 ∧ yX7_isSign.cls ≠ "java/lang/invoke/MethodHandle" ∧ yX7_isSign.cls ≠ "java/lang/invoke/VarHandle" ∧ (parseMethodDescriptor yX7_isSign.desc).map (fun d => d.parameters.length) = some 1 := by decide +kernel
theorem hdX7_mustSign : yX7_mustSign.cls = RX7 ∧ yX7_mustSign.cls ≠ "java/lang/invoke/MethodHandle" ∧ yX7_mustSign.cls ≠ "java/lang/invoke/VarHandle" ∧ (parseMethodDescriptor yX7_mustSign.desc).map (fun d => d.parameters.length) = some 1 := by decide +kernel
theorem hdX7_mustWord : yX7_mustWord.cls = RX7 ∧ yX7_mustWord.cls ≠ "java/lang/invoke/MethodHandle" ∧ yX7_mustWord.cls ≠ "java/lang/invoke/VarHandle" ∧ (parseMethodDescriptor yX7_mustWord.desc).map (fun d => d.parameters.length) = some 1 := by decide +kernel
theorem hdX7_isReserved : yX7_isReserved.cls = RX7 ∧ yX7_isReserved.cls ≠ "java/lang/invoke/MethodHandle" ∧ yX7_isReserved.cls ≠ "java/lang/invoke/VarHandle" ∧ (parseMethodDescriptor yX7_isReserved.desc).map (fun d => d.parameters.length) = some 0 := by decide +kernel
def rmX7_named : Room := { frames := 0, cells := 0, slots := 0, locals := 0 }
theorem hdX7_named : yX7_named.cls = RX7 ∧ yX7_named.cls ≠ "java/lang/invoke/MethodHandle" ∧ yX7_named.cls ≠ "java/lang/invoke/VarHandle" ∧ (parseMethodDescriptor yX7_named.desc).map (fun d => d.parameters.length) = some 1 := by decide +kernel
set_option maxHeartbeats 4000000 in
set_option maxRecDepth 100000 in
/-- named -/
theorem c_X7_named (l : Launch) (g : gG) (gh : gGh) (T : Nat → Int32) (I : gI) (R : gR) (J : gJ) (AI : gI) (AJ : gJ) (AR : gR) (mo : Nat) (lw : Int64) (hv : mInv g gh R I AI) (hm : gO g mo 7) (hT : AI (gh 50 0) = T) : gMet l g yX7_named tsX7_named rmX7_named [.ref mo, .long lw] (I, R, J, AI, AJ, AR) (gQi g (fun (z : Int) (w : gS) => I = w.1 ∧ R = w.2.1 ∧ J = w.2.2.1 ∧ AI = w.2.2.2.1 ∧ AJ = w.2.2.2.2.1 ∧ AR = w.2.2.2.2.2 ∧ (-1 ≤ z ∧ z < (I mo 5).toInt) ∧ ((0 ≤ z → AJ (gh 54 0) z.toNat = lw) ∧ (z < 0 → ∀ j : Int, 0 ≤ j → j < (I mo 5).toInt → AJ (gh 54 0) j.toNat ≠ lw)))) := by
  refine gStart (cc := cX7_named) (maxL := 4) (ret := (some (.int))) (by decide) rfl (Nat.le_of_ble_eq_true rfl) ?_
  intro p e s m below meth c ls F hr hlk hH hz hS hl
  have hl : lv_has ls 4 [(0, .ref mo), (1, .long lw)] := hl
  have hS : va_S (gA g) s.heap s.heap [] := hS
  obtain ⟨H, hHe⟩ : ∃ H : Heap, H = s.heap := ⟨_, rfl⟩
  obtain ⟨locs, hlo⟩ : ∃ k : List Loc, k = [] := ⟨_, rfl⟩
  have hH : gH g I R J AI AJ AR H := by rw [hHe]; exact hH
  have hS : va_S (gA g) s.heap H locs := by rw [hHe, hlo]; exact hS
  suffices hw : W p l e rmX7_named s m ([.ref mo, .long lw] : List Value).toArray below meth c H locs 0 0 (MQ below (gQi g (fun (z : Int) (w : gS) => I = w.1 ∧ R = w.2.1 ∧ J = w.2.2.1 ∧ AI = w.2.2.2.1 ∧ AJ = w.2.2.2.2.1 ∧ AR = w.2.2.2.2.2 ∧ (-1 ≤ z ∧ z < (I mo 5).toInt) ∧ ((0 ≤ z → AJ (gh 54 0) z.toNat = lw) ∧ (z < 0 → ∀ j : Int, 0 ≤ j → j < (I mo 5).toInt → AJ (gh 54 0) j.toNat ≠ lw)))) ([.ref mo, .long lw] : List Value).toArray s 0 0 (gA g)) (F0 m 0 ls []) by
    rw [hHe, hlo] at hw; exact hw
  clear hHe hlo
  have hb0 := mJ hv hm
  unfold mNum1 at hb0
  have iX7 : ∀ w ∈ u_ws RX7 TX7 32, w ∈ tsX7_named := fun w h => List.mem_cons_of_mem _ (inTB7 w h)
  have k184 : Cond.fieldLink RX7 184 (TX7 5).1 (TX7 5).2.1 (TX7 5).2.2.1 ∈ tsX7_named := List.mem_cons_of_mem _ fl_184
  have k20 : Cond.fieldLink RX7 20 (TX7 4).1 (TX7 4).2.1 (TX7 4).2.2.1 ∈ tsX7_named := List.mem_cons_of_mem _ fl_20
  refine z_iconst F dX7_named_0 ?_
  refine lv_istore_n (lv' := [(3, .int (iI 0)), (0, .ref mo), (1, .long lw)]) F.1 F.2.1 dX7_named_1 rfl hl (by decide) rfl (fun ls hl => ?_)
  have cut_2_0 : ∀ (NN : Nat) (k : Int) (H : Heap) (locs : List Loc) (ls : Array Slot), zr k → (0 ≤ k ∧ k ≤ (I mo 5).toInt) → (∀ j : Int, 0 ≤ j → j < k → AJ (gh 54 0) j.toNat ≠ lw) → ((I mo 5).toInt - k) < ((NN : Nat) : Int) → gH g I R J AI AJ AR H → va_S (gA g) s.heap H locs → lv_has ls 4 [(3, .int (iI k)), (0, .ref mo), (1, .long lw)] → W p l e rmX7_named s m ([.ref mo, .long lw] : List Value).toArray below meth c H locs 0 0 (MQ below (gQi g (fun (z : Int) (w : gS) => I = w.1 ∧ R = w.2.1 ∧ J = w.2.2.1 ∧ AI = w.2.2.2.1 ∧ AJ = w.2.2.2.2.1 ∧ AR = w.2.2.2.2.2 ∧ (-1 ≤ z ∧ z < (I mo 5).toInt) ∧ ((0 ≤ z → AJ (gh 54 0) z.toNat = lw) ∧ (z < 0 → ∀ j : Int, 0 ≤ j → j < (I mo 5).toInt → AJ (gh 54 0) j.toNat ≠ lw)))) ([.ref mo, .long lw] : List Value).toArray s 0 0 (gA g)) (F0 m 2 ls []) := by
    intro NN2
    induction NN2 with
    | zero =>
      intro k H locs ls zk hk hno hm2 hH hS hl
      exact absurd hm2 (by omega)
    | succ NN2 ih2 =>
      intro k H locs ls zk hk hno hm2 hH hS hl
      refine lv_iload_n F.1 F.2.1 dX7_named_2 rfl (lv_at hl 0 rfl) ?_
      refine lv_aload_n F.1 F.2.1 dX7_named_3 rfl (lv_at hl 1 rfl) ?_
      refine g_getI (ci := 7) (k := 5) F hH rfl (by decide) iX7 hm (by decide) rfl k184 dX7_named_4 ?_
      have b_2 := mJ hv hm
      unfold mNum1 at b_2
      refine z_icmp_ge (tgt := 29) F dX7_named_7 (by decide) zk (zr_t _) (fun c_3 => ?_) (fun c_3 => ?_)
      · refine z_iconst F dX7_named_29 ?_
        exact g_iret F hr hlk hH hS hz ⟨by decide, by decide⟩ ⟨rfl, rfl, rfl, rfl, rfl, rfl, by first | omega | rfl | (dsimp only; omega), by first | exact ⟨fun _ => hlc.mp (by omega), fun h => absurd h (by omega)⟩ | exact ⟨fun h => absurd h (by decide), fun _ j h1 h2 => hno j h1 (by omega)⟩⟩ dX7_named_30
      · refine lv_aload_n F.1 F.2.1 dX7_named_10 rfl (lv_at hl 1 rfl) ?_
        refine g_getR (ci := 7) (k := 4) F hH rfl (by decide) iX7 hm (by decide) rfl (b := gh 54 0) (hv.1 mo hm).2.2.2.1 k20 dX7_named_11 ?_
        refine lv_iload_n F.1 F.2.1 dX7_named_14 rfl (lv_at hl 0 rfl) ?_
        have hx15 : 0 ≤ k ∧ k < ((16 : Nat) : Int) ∧ k ≤ 2147483647 := ⟨by omega, by omega, by omega⟩
        refine g_lald F hH (hv.1 mo hm).2.2.2.2 hx15.1 hx15.2.1 hx15.2.2 dX7_named_15 ?_
        refine lv_topl (fun j_4 ej_4 => ?_)
        refine lv_lload_n F.1 F.2.1 dX7_named_16 rfl (lv_at hl 2 rfl) ?_
        refine W.lcmp F.1 F.2.1 dX7_named_17 ?_
        refine z_top (fun v_5 zv_5 ev_5 => ?_)
        have lv_5 : v_5 = 0 ↔ j_4 = lw := by rw [ev_5]; exact z_lcmp
        have hlc : v_5 = 0 ↔ AJ (gh 54 0) k.toNat = lw := by rw [← ej_4]; exact lv_5
        refine z_if_ne (tgt := 23) F dX7_named_18 (by decide) zv_5 (fun c_6 => ?_) (fun c_6 => ?_)
        · refine z_iinc (lv' := [(3, .int (iI (k + 1))), (0, .ref mo), (1, .long lw)]) F dX7_named_23 hl (k := 0) rfl (by decide) rfl (fun ls hl => ?_)
          refine z_goto (tgt := 2) F dX7_named_26 (by decide) ?_
          exact ih2 (k + 1) H locs ls ⟨by omega, by omega⟩ (by omega) (by first | exact (fun j h1 h2 => absurd h2 (by omega)) | exact (named_step hno (fun h => absurd (hlc.mpr h) (by omega)))) (by omega) hH hS (lv_sub hl [0, 1, 2] rfl)
        · refine lv_iload_n F.1 F.2.1 dX7_named_21 rfl (lv_at hl 0 rfl) ?_
          exact g_iret F hr hlk hH hS hz zk ⟨rfl, rfl, rfl, rfl, rfl, rfl, by first | omega | rfl | (dsimp only; omega), by first | exact ⟨fun _ => hlc.mp (by omega), fun h => absurd h (by omega)⟩ | exact ⟨fun h => absurd h (by decide), fun _ j h1 h2 => hno j h1 (by omega)⟩⟩ dX7_named_22
  exact cut_2_0 ((((I mo 5).toInt - 0) + 1 : Int).toNat) 0 H locs ls ⟨by decide, by decide⟩ (by omega) (by first | exact (fun j h1 h2 => absurd h2 (by omega)) | exact (named_step hno (fun h => absurd (hlc.mpr h) (by omega)))) (by omega) hH hS (lv_sub hl [0, 1, 2] rfl)

theorem hdX7_newName : yX7_newName.cls = RX7 ∧ yX7_newName.cls ≠ "java/lang/invoke/MethodHandle" ∧ yX7_newName.cls ≠ "java/lang/invoke/VarHandle" ∧ (parseMethodDescriptor yX7_newName.desc).map (fun d => d.parameters.length) = some 0 := by decide +kernel
theorem hdX7_relation : yX7_relation.cls = RX7 ∧ yX7_relation.cls ≠ "java/lang/invoke/MethodHandle" ∧ yX7_relation.cls ≠ "java/lang/invoke/VarHandle" ∧ (parseMethodDescriptor yX7_relation.desc).map (fun d => d.parameters.length) = some 0 := by decide +kernel
def rmX7_columns : Room := { frames := 0, cells := 0, slots := 0, locals := 0 }
theorem hdX7_columns : yX7_columns.cls = RX7 ∧ yX7_columns.cls ≠ "java/lang/invoke/MethodHandle" ∧ yX7_columns.cls ≠ "java/lang/invoke/VarHandle" ∧ (parseMethodDescriptor yX7_columns.desc).map (fun d => d.parameters.length) = some 1 := by decide +kernel
set_option maxHeartbeats 4000000 in
set_option maxRecDepth 100000 in
/-- columns -/
theorem c_X7_columns (l : Launch) (g : gG) (gh : gGh) (T : Nat → Int32) (I : gI) (R : gR) (J : gJ) (AI : gI) (AJ : gJ) (AR : gR) (mo : Nat) (rr : Int) (zrr : zr rr) (hv : mInv g gh R I AI) (hm : gO g mo 7) (hT : AI (gh 50 0) = T) (hr0 : 0 ≤ rr ∧ rr ≤ 15) : gMet l g yX7_columns tsX7_columns rmX7_columns [.ref mo, .int (iI rr)] (I, R, J, AI, AJ, AR) (gQi g (fun (z : Int) (w : gS) => I = w.1 ∧ R = w.2.1 ∧ J = w.2.2.1 ∧ AI = w.2.2.2.1 ∧ AJ = w.2.2.2.2.1 ∧ AR = w.2.2.2.2.2 ∧ (z = tI (AI (gh 53 0)) (40 * rr + 1)))) := by
  refine gStart (cc := cX7_columns) (maxL := 2) (ret := (some (.int))) (by decide) rfl (Nat.le_of_ble_eq_true rfl) ?_
  intro p e s m below meth c ls F hr hlk hH hz hS hl
  have hl : lv_has ls 2 [(0, .ref mo), (1, .int (iI rr))] := hl
  have hS : va_S (gA g) s.heap s.heap [] := hS
  obtain ⟨H, hHe⟩ : ∃ H : Heap, H = s.heap := ⟨_, rfl⟩
  obtain ⟨locs, hlo⟩ : ∃ k : List Loc, k = [] := ⟨_, rfl⟩
  have hH : gH g I R J AI AJ AR H := by rw [hHe]; exact hH
  have hS : va_S (gA g) s.heap H locs := by rw [hHe, hlo]; exact hS
  suffices hw : W p l e rmX7_columns s m ([.ref mo, .int (iI rr)] : List Value).toArray below meth c H locs 0 0 (MQ below (gQi g (fun (z : Int) (w : gS) => I = w.1 ∧ R = w.2.1 ∧ J = w.2.2.1 ∧ AI = w.2.2.2.1 ∧ AJ = w.2.2.2.2.1 ∧ AR = w.2.2.2.2.2 ∧ (z = tI (AI (gh 53 0)) (40 * rr + 1)))) ([.ref mo, .int (iI rr)] : List Value).toArray s 0 0 (gA g)) (F0 m 0 ls []) by
    rw [hHe, hlo] at hw; exact hw
  clear hHe hlo
  have iX7 : ∀ w ∈ u_ws RX7 TX7 32, w ∈ tsX7_columns := fun w h => List.mem_cons_of_mem _ (inTB7 w h)
  have k17 : Cond.fieldLink RX7 17 (TX7 3).1 (TX7 3).2.1 (TX7 3).2.2.1 ∈ tsX7_columns := List.mem_cons_of_mem _ fl_17
  refine lv_aload_n F.1 F.2.1 dX7_columns_0 rfl (lv_at hl 0 rfl) ?_
  obtain ⟨r_1a, r_1b⟩ : R mo 3 = some (gh 53 0) ∧ gAr g (gh 53 0) 9 640 := mR hv hm (q := (3, 640)) (by decide)
  refine g_getR (ci := 7) (k := 3) F hH rfl (by decide) iX7 hm (by decide) rfl (b := gh 53 0) r_1a k17 dX7_columns_1 ?_
  refine z_bipush F dX7_columns_4 (by decide) ?_
  refine lv_iload_n F.1 F.2.1 dX7_columns_6 rfl (lv_at hl 1 rfl) ?_
  refine z_imul F dX7_columns_7 ?_
  refine z_iconst F dX7_columns_8 ?_
  refine z_iadd F dX7_columns_9 ?_
  have hx10 : 0 ≤ ((40 * rr) + 1) ∧ ((40 * rr) + 1) < ((640 : Nat) : Int) ∧ ((40 * rr) + 1) ≤ 2147483647 := ⟨by omega, by omega, by omega⟩
  refine g_iald F hH r_1b hx10.1 hx10.2.1 hx10.2.2 dX7_columns_10 ?_
  exact g_iret F hr hlk hH hS hz (zr_t _) ⟨rfl, rfl, rfl, rfl, rfl, rfl, rfl⟩ dX7_columns_11

theorem hdX7_column : yX7_column.cls = RX7 ∧ yX7_column.cls ≠ "java/lang/invoke/MethodHandle" ∧ yX7_column.cls ≠ "java/lang/invoke/VarHandle" ∧ (parseMethodDescriptor yX7_column.desc).map (fun d => d.parameters.length) = some 1 := by decide +kernel
theorem hdX7_numberTold : yX7_numberTold.cls = RX7 ∧ yX7_numberTold.cls ≠ "java/lang/invoke/MethodHandle" ∧ yX7_numberTold.cls ≠ "java/lang/invoke/VarHandle" ∧ (parseMethodDescriptor yX7_numberTold.desc).map (fun d => d.parameters.length) = some 0 := by decide +kernel
theorem hdX7_sets : yX7_sets.cls = RX7 ∧ yX7_sets.cls ≠ "java/lang/invoke/MethodHandle" ∧ yX7_sets.cls ≠ "java/lang/invoke/VarHandle" ∧ (parseMethodDescriptor yX7_sets.desc).map (fun d => d.parameters.length) = some 2 := by decide +kernel
theorem hdX7_setsPart : yX7_setsPart.cls = RX7 ∧ yX7_setsPart.cls ≠ "java/lang/invoke/MethodHandle" ∧ yX7_setsPart.cls ≠ "java/lang/invoke/VarHandle" ∧ (parseMethodDescriptor yX7_setsPart.desc).map (fun d => d.parameters.length) = some 5 := by decide +kernel
theorem hdX7_header : yX7_header.cls = RX7 ∧ yX7_header.cls ≠ "java/lang/invoke/MethodHandle" ∧ yX7_header.cls ≠ "java/lang/invoke/VarHandle" ∧ (parseMethodDescriptor yX7_header.desc).map (fun d => d.parameters.length) = some 5 := by decide +kernel
end
section
theorem hdX7_termsTold : yX7_termsTold.cls = RX7 ∧ yX7_termsTold.cls ≠ "java/lang/invoke/MethodHandle" ∧ yX7_termsTold.cls ≠ "java/lang/invoke/VarHandle" ∧ (parseMethodDescriptor yX7_termsTold.desc).map (fun d => d.parameters.length) = some 2 := by decide +kernel
theorem hdX7_selectTold : yX7_selectTold.cls = RX7 ∧ yX7_selectTold.cls ≠ "java/lang/invoke/MethodHandle" ∧ yX7_selectTold.cls ≠ "java/lang/invoke/VarHandle" ∧ (parseMethodDescriptor yX7_selectTold.desc).map (fun d => d.parameters.length) = some 0 := by decide +kernel
theorem hdX7_projectTold : yX7_projectTold.cls = RX7 ∧ yX7_projectTold.cls ≠ "java/lang/invoke/MethodHandle" ∧ yX7_projectTold.cls ≠ "java/lang/invoke/VarHandle" ∧ (parseMethodDescriptor yX7_projectTold.desc).map (fun d => d.parameters.length) = some 0 := by decide +kernel
end
section
theorem hdX7_joinTold : yX7_joinTold.cls = RX7 ∧ yX7_joinTold.cls ≠ "java/lang/invoke/MethodHandle" ∧ yX7_joinTold.cls ≠ "java/lang/invoke/VarHandle" ∧ (parseMethodDescriptor yX7_joinTold.desc).map (fun d => d.parameters.length) = some 0 := by decide +kernel
theorem hdX7_bothTold : yX7_bothTold.cls = RX7 ∧ yX7_bothTold.cls ≠ "java/lang/invoke/MethodHandle" ∧ yX7_bothTold.cls ≠ "java/lang/invoke/VarHandle" ∧ (parseMethodDescriptor yX7_bothTold.desc).map (fun d => d.parameters.length) = some 1 := by decide +kernel
end
section
theorem hdX7_groupTold : yX7_groupTold.cls = RX7 ∧ yX7_groupTold.cls ≠ "java/lang/invoke/MethodHandle" ∧ yX7_groupTold.cls ≠ "java/lang/invoke/VarHandle" ∧ (parseMethodDescriptor yX7_groupTold.desc).map (fun d => d.parameters.length) = some 0 := by decide +kernel
theorem hdX7_ringTold : yX7_ringTold.cls = RX7 ∧ yX7_ringTold.cls ≠ "java/lang/invoke/MethodHandle" ∧ yX7_ringTold.cls ≠ "java/lang/invoke/VarHandle" ∧ (parseMethodDescriptor yX7_ringTold.desc).map (fun d => d.parameters.length) = some 0 := by decide +kernel
end
section
theorem kind0_step {f f' : Nat → Int32} {M cl one oth ps : Int} (hM : 0 ≤ M) (h : ∀ r : Int, 0 ≤ r → r < M → tI f (40 * r) = 0) (hp : hP f f' M 0 cl one oth ps) : ∀ r : Int, 0 ≤ r → r < M + 1 → tI f' (40 * r) = 0 := fun r h0 h1 => by
  by_cases q : r = M
  · rw [q]; exact hp.2.1
  · rw [hp.1 _ (by omega) (by omega)]; exact h r h0 (by omega)
theorem mCp {g : gG} {gh : gGh} {R : gR} {I AI AI' : gI} {m : Nat} {i v : Int} (hv : mInv g gh R I AI) (hm : gO g m 7) (h0 : 0 ≤ i) (e : AI' = gup2 AI (gh 50 0) i.toNat (iI v)) (ev : v = (AI (gh 53 0) i.toNat).toInt)
    (h : ∀ y : Int, 0 ≤ y → y < i → tI (AI (gh 50 0)) y = tI (AI (gh 53 0)) y) : ∀ y : Int, 0 ≤ y → y < i + 1 → tI (AI' (gh 50 0)) y = tI (AI' (gh 53 0)) y := fun y a b => by
  have e3 : AI' (gh 53 0) = AI (gh 53 0) := mK hv hm (p := (3, 640)) (q := (0, 640)) (by decide) (by decide) (by decide) (fun b hb => by rw [e]; exact funext fun j => gup2_a _ _ hb)
  rw [e3, e]
  by_cases q : y = i
  · rw [q, ev]; unfold tI; rw [gup2_s, iI_self]
  · rw [tI_k h0 a q]; exact h y a (by omega)
theorem hdX7_tableTold : yX7_tableTold.cls = RX7 ∧ yX7_tableTold.cls ≠ "java/lang/invoke/MethodHandle" ∧ yX7_tableTold.cls ≠ "java/lang/invoke/VarHandle" ∧ (parseMethodDescriptor yX7_tableTold.desc).map (fun d => d.parameters.length) = some 1 := by decide +kernel
theorem hdX7_viewTold : yX7_viewTold.cls = RX7 ∧ yX7_viewTold.cls ≠ "java/lang/invoke/MethodHandle" ∧ yX7_viewTold.cls ≠ "java/lang/invoke/VarHandle" ∧ (parseMethodDescriptor yX7_viewTold.desc).map (fun d => d.parameters.length) = some 0 := by decide +kernel
end
section
theorem hdX7_plan : yX7_plan.cls = RX7 ∧ yX7_plan.cls ≠ "java/lang/invoke/MethodHandle" ∧ yX7_plan.cls ≠ "java/lang/invoke/VarHandle" ∧ (parseMethodDescriptor yX7_plan.desc).map (fun d => d.parameters.length) = some 0 := by decide +kernel
end
section
/-! the making of both systems: a fixed run of writes. (1, o, k, v): field k of cell o gets the number v; (2, o, k, q): it gets the cell q; (3, o, j, q): place j of row o gets the cell q. Kinds and lengths of the cells -/
def cEv : List (List (Nat × Nat × Nat × Nat)) := [[(2, 0, 0, 1), (2, 3, 0, 4), (2, 3, 1, 5), (2, 3, 2, 6), (2, 3, 3, 7), (2, 2, 0, 3), (2, 8, 0, 9), (2, 10, 7, 11), (3, 9, 0, 10), (2, 12, 7, 13), (3, 9, 1, 12), (2, 14, 7, 15), (3, 9, 2, 14), (2, 16, 7, 17), (3, 9, 3, 16), (2, 18, 7, 19)], [(3, 9, 4, 18), (2, 20, 7, 21), (3, 9, 5, 20), (2, 22, 7, 23), (3, 9, 6, 22), (2, 24, 7, 25), (3, 9, 7, 24), (2, 26, 7, 27), (3, 9, 8, 26), (2, 28, 7, 29), (3, 9, 9, 28), (2, 30, 7, 31), (3, 9, 10, 30), (2, 32, 7, 33), (3, 9, 11, 32), (2, 34, 7, 35)], [(3, 9, 12, 34), (2, 36, 7, 37), (3, 9, 13, 36), (2, 38, 7, 39), (3, 9, 14, 38), (2, 40, 7, 41), (3, 9, 15, 40), (2, 2, 1, 8), (2, 2, 2, 10), (2, 0, 2, 2), (2, 42, 0, 43), (2, 44, 7, 45), (3, 43, 0, 44), (2, 46, 7, 47), (3, 43, 1, 46), (2, 48, 7, 49)], [(3, 43, 2, 48), (2, 50, 7, 51), (3, 43, 3, 50), (2, 52, 7, 53), (3, 43, 4, 52), (2, 54, 7, 55), (3, 43, 5, 54), (2, 56, 7, 57), (3, 43, 6, 56), (2, 58, 7, 59), (3, 43, 7, 58), (2, 60, 7, 61), (3, 43, 8, 60), (2, 62, 7, 63), (3, 43, 9, 62), (2, 64, 7, 65)], [(3, 43, 10, 64), (2, 66, 7, 67), (3, 43, 11, 66), (2, 68, 7, 69), (3, 43, 12, 68), (2, 70, 7, 71), (3, 43, 13, 70), (2, 72, 7, 73), (3, 43, 14, 72), (2, 74, 7, 75), (3, 43, 15, 74), (2, 0, 3, 42), (2, 76, 0, 77), (2, 76, 1, 78), (2, 76, 2, 79), (2, 0, 4, 76)], [(1, 81, 0, 4), (1, 81, 1, 120), (2, 81, 2, 82), (3, 80, 0, 81), (1, 83, 0, 4), (1, 83, 1, 120), (2, 83, 2, 84), (3, 80, 1, 83), (1, 85, 0, 4), (1, 85, 1, 120), (2, 85, 2, 86), (3, 80, 2, 85), (1, 87, 0, 4), (1, 87, 1, 120), (2, 87, 2, 88), (3, 80, 3, 87)], [(1, 89, 0, 4), (1, 89, 1, 120), (2, 89, 2, 90), (3, 80, 4, 89), (1, 91, 0, 4), (1, 91, 1, 120), (2, 91, 2, 92), (3, 80, 5, 91), (1, 93, 0, 4), (1, 93, 1, 120), (2, 93, 2, 94), (3, 80, 6, 93), (1, 95, 0, 4), (1, 95, 1, 120), (2, 95, 2, 96), (3, 80, 7, 95)], [(1, 97, 0, 4), (1, 97, 1, 120), (2, 97, 2, 98), (3, 80, 8, 97), (1, 99, 0, 4), (1, 99, 1, 120), (2, 99, 2, 100), (3, 80, 9, 99), (1, 101, 0, 4), (1, 101, 1, 120), (2, 101, 2, 102), (3, 80, 10, 101), (1, 103, 0, 4), (1, 103, 1, 120), (2, 103, 2, 104), (3, 80, 11, 103)], [(1, 105, 0, 4), (1, 105, 1, 120), (2, 105, 2, 106), (3, 80, 12, 105), (1, 107, 0, 4), (1, 107, 1, 120), (2, 107, 2, 108), (3, 80, 13, 107), (1, 109, 0, 4), (1, 109, 1, 120), (2, 109, 2, 110), (3, 80, 14, 109), (1, 111, 0, 4), (1, 111, 1, 120), (2, 111, 2, 112), (3, 80, 15, 111)], [(2, 0, 5, 80), (1, 114, 0, 4), (1, 114, 1, 120), (2, 114, 2, 115), (3, 113, 0, 114), (1, 116, 0, 4), (1, 116, 1, 120), (2, 116, 2, 117), (3, 113, 1, 116), (1, 118, 0, 4), (1, 118, 1, 120), (2, 118, 2, 119), (3, 113, 2, 118), (1, 120, 0, 4), (1, 120, 1, 120), (2, 120, 2, 121)], [(3, 113, 3, 120), (1, 122, 0, 4), (1, 122, 1, 120), (2, 122, 2, 123), (3, 113, 4, 122), (1, 124, 0, 4), (1, 124, 1, 120), (2, 124, 2, 125), (3, 113, 5, 124), (1, 126, 0, 4), (1, 126, 1, 120), (2, 126, 2, 127), (3, 113, 6, 126), (1, 128, 0, 4), (1, 128, 1, 120), (2, 128, 2, 129)], [(3, 113, 7, 128), (1, 130, 0, 4), (1, 130, 1, 120), (2, 130, 2, 131), (3, 113, 8, 130), (1, 132, 0, 4), (1, 132, 1, 120), (2, 132, 2, 133), (3, 113, 9, 132), (1, 134, 0, 4), (1, 134, 1, 120), (2, 134, 2, 135), (3, 113, 10, 134), (1, 136, 0, 4), (1, 136, 1, 120), (2, 136, 2, 137)], [(3, 113, 11, 136), (1, 138, 0, 4), (1, 138, 1, 120), (2, 138, 2, 139), (3, 113, 12, 138), (1, 140, 0, 4), (1, 140, 1, 120), (2, 140, 2, 141), (3, 113, 13, 140), (1, 142, 0, 4), (1, 142, 1, 120), (2, 142, 2, 143), (3, 113, 14, 142), (1, 144, 0, 4), (1, 144, 1, 120), (2, 144, 2, 145)], [(3, 113, 15, 144), (2, 0, 6, 113), (1, 147, 0, 4), (1, 147, 1, 240), (2, 147, 2, 148), (3, 146, 0, 147), (1, 149, 0, 4), (1, 149, 1, 240), (2, 149, 2, 150), (3, 146, 1, 149), (1, 151, 0, 4), (1, 151, 1, 240), (2, 151, 2, 152), (3, 146, 2, 151), (1, 153, 0, 4), (1, 153, 1, 240)], [(2, 153, 2, 154), (3, 146, 3, 153), (1, 155, 0, 4), (1, 155, 1, 240), (2, 155, 2, 156), (3, 146, 4, 155), (1, 157, 0, 4), (1, 157, 1, 240), (2, 157, 2, 158), (3, 146, 5, 157), (1, 159, 0, 4), (1, 159, 1, 240), (2, 159, 2, 160), (3, 146, 6, 159), (1, 161, 0, 4), (1, 161, 1, 240)], [(2, 161, 2, 162), (3, 146, 7, 161), (1, 163, 0, 4), (1, 163, 1, 240), (2, 163, 2, 164), (3, 146, 8, 163), (1, 165, 0, 4), (1, 165, 1, 240), (2, 165, 2, 166), (3, 146, 9, 165), (1, 167, 0, 4), (1, 167, 1, 240), (2, 167, 2, 168), (3, 146, 10, 167), (1, 169, 0, 4), (1, 169, 1, 240)], [(2, 169, 2, 170), (3, 146, 11, 169), (1, 171, 0, 4), (1, 171, 1, 240), (2, 171, 2, 172), (3, 146, 12, 171), (1, 173, 0, 4), (1, 173, 1, 240), (2, 173, 2, 174), (3, 146, 13, 173), (1, 175, 0, 4), (1, 175, 1, 240), (2, 175, 2, 176), (3, 146, 14, 175), (1, 177, 0, 4), (1, 177, 1, 240)], [(2, 177, 2, 178), (3, 146, 15, 177), (2, 0, 7, 146), (1, 179, 0, 5), (1, 179, 1, 40), (2, 179, 2, 180), (2, 0, 8, 179), (1, 181, 0, 5), (1, 181, 1, 40), (2, 181, 2, 182), (2, 0, 9, 181), (1, 183, 0, 4), (1, 183, 1, 40), (2, 183, 2, 184), (2, 0, 10, 183), (1, 185, 0, 4)], [(1, 185, 1, 240), (2, 185, 2, 186), (2, 0, 11, 185), (2, 0, 12, 187), (1, 189, 0, 5), (1, 189, 1, 40), (2, 189, 2, 190), (3, 188, 0, 189), (1, 191, 0, 5), (1, 191, 1, 40), (2, 191, 2, 192), (3, 188, 1, 191), (1, 193, 0, 5), (1, 193, 1, 40), (2, 193, 2, 194), (3, 188, 2, 193)], [(1, 195, 0, 5), (1, 195, 1, 40), (2, 195, 2, 196), (3, 188, 3, 195), (1, 197, 0, 5), (1, 197, 1, 40), (2, 197, 2, 198), (3, 188, 4, 197), (1, 199, 0, 5), (1, 199, 1, 40), (2, 199, 2, 200), (3, 188, 5, 199), (1, 201, 0, 5), (1, 201, 1, 40), (2, 201, 2, 202), (3, 188, 6, 201)], [(1, 203, 0, 5), (1, 203, 1, 40), (2, 203, 2, 204), (3, 188, 7, 203), (2, 0, 13, 188), (2, 205, 0, 206), (2, 205, 1, 207), (2, 205, 3, 208), (2, 205, 4, 209), (2, 205, 6, 210), (2, 205, 7, 211), (2, 205, 11, 212), (2, 205, 12, 213), (2, 205, 13, 214), (2, 205, 15, 215), (2, 205, 25, 216)], [(2, 205, 27, 217), (2, 205, 28, 218), (2, 205, 29, 219), (2, 205, 30, 220), (2, 205, 31, 221)]]
def cKT : List Nat := [6, 8, 1, 5, 9, 9, 9, 10, 2, 11, 0, 9, 0, 9, 0, 9, 0, 9, 0, 9, 0, 9, 0, 9, 0, 9, 0, 9, 0, 9, 0, 9, 0, 9, 0, 9, 0, 9, 0, 9, 0, 9, 2, 11, 0, 9, 0, 9, 0, 9, 0, 9, 0, 9, 0, 9, 0, 9, 0, 9, 0, 9, 0, 9, 0, 9, 0, 9, 0, 9, 0, 9, 0, 9, 0, 9, 3, 9, 9, 9, 12, 4, 9, 4, 9, 4, 9, 4, 9, 4, 9, 4, 9, 4, 9, 4, 9, 4, 9, 4, 9, 4, 9, 4, 9, 4, 9, 4, 9, 4, 9, 4, 9, 12, 4, 9, 4, 9, 4, 9, 4, 9, 4, 9, 4, 9, 4, 9, 4, 9, 4, 9, 4, 9, 4, 9, 4, 9, 4, 9, 4, 9, 4, 9, 4, 9, 12, 4, 9, 4, 9, 4, 9, 4, 9, 4, 9, 4, 9, 4, 9, 4, 9, 4, 9, 4, 9, 4, 9, 4, 9, 4, 9, 4, 9, 4, 9, 4, 9, 4, 9, 4, 9, 4, 9, 4, 9, 9, 12, 4, 9, 4, 9, 4, 9, 4, 9, 4, 9, 4, 9, 4, 9, 4, 9, 7, 9, 10, 9, 10, 9, 9, 9, 9, 9, 9, 9, 9, 9, 9, 9, 9, 10]
def cNT : List Nat := [0, 936, 0, 0, 901, 901, 901, 901, 0, 16, 0, 32, 0, 32, 0, 32, 0, 32, 0, 32, 0, 32, 0, 32, 0, 32, 0, 32, 0, 32, 0, 32, 0, 32, 0, 32, 0, 32, 0, 32, 0, 32, 0, 16, 0, 32, 0, 32, 0, 32, 0, 32, 0, 32, 0, 32, 0, 32, 0, 32, 0, 32, 0, 32, 0, 32, 0, 32, 0, 32, 0, 32, 0, 32, 0, 32, 0, 5, 8, 480, 16, 0, 720, 0, 720, 0, 720, 0, 720, 0, 720, 0, 720, 0, 720, 0, 720, 0, 720, 0, 720, 0, 720, 0, 720, 0, 720, 0, 720, 0, 720, 0, 720, 16, 0, 720, 0, 720, 0, 720, 0, 720, 0, 720, 0, 720, 0, 720, 0, 720, 0, 720, 0, 720, 0, 720, 0, 720, 0, 720, 0, 720, 0, 720, 0, 720, 16, 0, 1440, 0, 1440, 0, 1440, 0, 1440, 0, 1440, 0, 1440, 0, 1440, 0, 1440, 0, 1440, 0, 1440, 0, 1440, 0, 1440, 0, 1440, 0, 1440, 0, 1440, 0, 1440, 0, 240, 0, 240, 0, 240, 0, 1440, 5, 8, 0, 240, 0, 240, 0, 240, 0, 240, 0, 240, 0, 240, 0, 240, 0, 240, 0, 640, 16, 640, 16, 126720, 176, 41, 164, 41, 936, 9600, 4, 8, 176, 600, 1200, 1]
def ev (t : Nat) : Nat × Nat × Nat × Nat := (cEv.getD (t / 16) []).getD (t % 16) (9, 0, 0, 0)
def kT (o : Nat) : Nat := cKT.getD o 99
def nT (o : Nat) : Nat := cNT.getD o 0
/-- what the first t writes left: int fields, references, places of rows -/
def cI : Nat → Nat → Nat → Nat
  | 0, _, _ => 0
  | t + 1, o, k => if (ev t).1 = 1 ∧ (ev t).2.1 = o ∧ (ev t).2.2.1 = k then (ev t).2.2.2 else cI t o k
def cR : Nat → Nat → Nat → Option Nat
  | 0, _, _ => none
  | t + 1, o, k => if (ev t).1 = 2 ∧ (ev t).2.1 = o ∧ (ev t).2.2.1 = k then some (ev t).2.2.2 else cR t o k
def cA : Nat → Nat → Nat → Option Nat
  | 0, _, _ => none
  | t + 1, o, k => if (ev t).1 = 3 ∧ (ev t).2.1 = o ∧ (ev t).2.2.1 = k then some (ev t).2.2.2 else cA t o k
/-- the first t writes reach the first n cells alone -/
def cfr (t n : Nat) : Prop := ∀ j, j < t → (ev j).2.1 < n
theorem cI_fr {t n o k : Nat} (h : cfr t n) (ho : n ≤ o) : cI t o k = 0 := by
  induction t with
  | zero => rfl
  | succ t ih => rw [cI, if_neg (fun q => by have := h t (Nat.lt_succ_self t); omega)]; exact ih (fun j hj => h j (by omega))
theorem cR_fr {t n o k : Nat} (h : cfr t n) (ho : n ≤ o) : cR t o k = none := by
  induction t with
  | zero => rfl
  | succ t ih => rw [cR, if_neg (fun q => by have := h t (Nat.lt_succ_self t); omega)]; exact ih (fun j hj => h j (by omega))
theorem cA_fr {t n o k : Nat} (h : cfr t n) (ho : n ≤ o) : cA t o k = none := by
  induction t with
  | zero => rfl
  | succ t ih => rw [cA, if_neg (fun q => by have := h t (Nat.lt_succ_self t); omega)]; exact ih (fun j hj => h j (by omega))
def gn (g : gG) (n : Nat) : gG := (g.1, g.2.1, (List.range' (gZ g) n, gZ g), g.2.2.2)
def wI (g : gG) (t : Nat) : gI := fun a k => if gZ g ≤ a then iI ((cI t (a - gZ g) k : Nat) : Int) else 0
def wR (g : gG) (t : Nat) : gR := fun a k => if gZ g ≤ a then (cR t (a - gZ g) k).map (fun q => gZ g + q) else none
def wA (g : gG) (t : Nat) : gR := fun a k => if gZ g ≤ a then (cA t (a - gZ g) k).map (fun q => gZ g + q) else none
def zJ : gJ := fun _ _ => 0
def zA : gI := fun _ _ => 0
theorem wR_at {g : gG} {t o k q : Nat} (h : cR t o k = some q) : wR g t (gZ g + o) k = some (gZ g + q) := by unfold wR; rw [if_pos (Nat.le_add_right _ _), Nat.add_sub_cancel_left, h]; rfl
theorem wA_at {g : gG} {t o k q : Nat} (h : cA t o k = some q) : wA g t (gZ g + o) k = some (gZ g + q) := by unfold wA; rw [if_pos (Nat.le_add_right _ _), Nat.add_sub_cancel_left, h]; rfl
theorem cI_k {t o k : Nat} (h : (ev t).1 ≠ 1) : cI (t + 1) o k = cI t o k := by rw [cI, if_neg (fun q => h q.1)]
theorem ev_I {g : gG} {t : Nat} (h : (ev t).1 ≠ 1) : wI g (t + 1) = wI g t := by funext a k; unfold wI; rw [cI_k h]
theorem cI_1 {t o k v x j : Nat} (h : ev t = (1, o, k, v)) : cI (t + 1) x j = if o = x ∧ k = j then v else cI t x j := by
  rw [cI, h]
  by_cases q : o = x ∧ k = j
  · rw [if_pos q, if_pos ⟨rfl, q.1, q.2⟩]
  · rw [if_neg q, if_neg (fun w => q w.2)]
theorem ev_I1 {g : gG} {t o k v : Nat} (h : ev t = (1, o, k, v)) : wI g (t + 1) = gup2 (wI g t) (gZ g + o) k (iI (v : Int)) := by
  funext a j
  show (if gZ g ≤ a then iI ((cI (t + 1) (a - gZ g) j : Nat) : Int) else 0) = if a = gZ g + o ∧ j = k then iI (v : Int) else (if gZ g ≤ a then iI ((cI t (a - gZ g) j : Nat) : Int) else 0)
  rw [cI_1 h]
  by_cases hz : gZ g ≤ a
  · rw [if_pos hz, if_pos hz]
    by_cases q : o = a - gZ g ∧ k = j
    · rw [if_pos q, if_pos (by omega)]
    · rw [if_neg q, if_neg (by omega)]
  · rw [if_neg hz, if_neg hz, if_neg (by omega)]
theorem cR_k {t o k : Nat} (h : (ev t).1 ≠ 2) : cR (t + 1) o k = cR t o k := by rw [cR, if_neg (fun q => h q.1)]
theorem ev_R {g : gG} {t : Nat} (h : (ev t).1 ≠ 2) : wR g (t + 1) = wR g t := by funext a k; unfold wR; rw [cR_k h]
theorem cR_1 {t o k v x j : Nat} (h : ev t = (2, o, k, v)) : cR (t + 1) x j = if o = x ∧ k = j then some v else cR t x j := by
  rw [cR, h]
  by_cases q : o = x ∧ k = j
  · rw [if_pos q, if_pos ⟨rfl, q.1, q.2⟩]
  · rw [if_neg q, if_neg (fun w => q w.2)]
theorem ev_R2 {g : gG} {t o k v : Nat} (h : ev t = (2, o, k, v)) : wR g (t + 1) = gup2 (wR g t) (gZ g + o) k (some (gZ g + v)) := by
  funext a j
  show (if gZ g ≤ a then (cR (t + 1) (a - gZ g) j).map (fun q => gZ g + q) else none) = if a = gZ g + o ∧ j = k then some (gZ g + v) else (if gZ g ≤ a then (cR t (a - gZ g) j).map (fun q => gZ g + q) else none)
  rw [cR_1 h]
  by_cases hz : gZ g ≤ a
  · rw [if_pos hz, if_pos hz]
    by_cases q : o = a - gZ g ∧ k = j
    · rw [if_pos q, if_pos (by omega)]; rfl
    · rw [if_neg q, if_neg (by omega)]
  · rw [if_neg hz, if_neg hz, if_neg (by omega)]
theorem cA_k {t o k : Nat} (h : (ev t).1 ≠ 3) : cA (t + 1) o k = cA t o k := by rw [cA, if_neg (fun q => h q.1)]
theorem ev_A {g : gG} {t : Nat} (h : (ev t).1 ≠ 3) : wA g (t + 1) = wA g t := by funext a k; unfold wA; rw [cA_k h]
theorem cA_1 {t o k v x j : Nat} (h : ev t = (3, o, k, v)) : cA (t + 1) x j = if o = x ∧ k = j then some v else cA t x j := by
  rw [cA, h]
  by_cases q : o = x ∧ k = j
  · rw [if_pos q, if_pos ⟨rfl, q.1, q.2⟩]
  · rw [if_neg q, if_neg (fun w => q w.2)]
theorem ev_A3 {g : gG} {t o k v : Nat} (h : ev t = (3, o, k, v)) : wA g (t + 1) = gup2 (wA g t) (gZ g + o) k (some (gZ g + v)) := by
  funext a j
  show (if gZ g ≤ a then (cA (t + 1) (a - gZ g) j).map (fun q => gZ g + q) else none) = if a = gZ g + o ∧ j = k then some (gZ g + v) else (if gZ g ≤ a then (cA t (a - gZ g) j).map (fun q => gZ g + q) else none)
  rw [cA_1 h]
  by_cases hz : gZ g ≤ a
  · rw [if_pos hz, if_pos hz]
    by_cases q : o = a - gZ g ∧ k = j
    · rw [if_pos q, if_pos (by omega)]; rfl
    · rw [if_neg q, if_neg (by omega)]
  · rw [if_neg hz, if_neg hz, if_neg (by omega)]
/-- the world behind t writes, n cells made -/
def cH (g : gG) (t n : Nat) (H : Heap) : Prop := gH (gn g n) (wI g t) (wR g t) zJ zA zJ (wA g t) H ∧ gZ g + n ≤ H.size
/-- kinds and lengths of the cells to come -/
def gOK (g : gG) : Prop := ∀ o, o < 223 → gK g (gZ g + o) = kT o ∧ gN g (gZ g + o) = nT o
/-- what the makers need of the tables beside their words -/
def cNst (U : State) : Prop := va_Nw (.methodLinkNest RX6 15 yX1_init RX6) U ∧ va_Nw (.methodLinkNest RX6 29 yX3_init RX6) U ∧ va_Nw (.methodLinkNest RX1 11 yX5_init RX6) U ∧ va_Nw (.methodLinkNest RX2 17 yX0_init RX6) U ∧ va_AO RX0 U ∧ va_AO RX4 U
theorem cNst_mv {s U : State} (h : cNst s) (hW : s.WarmedH U.vm) : cNst U := ⟨va_Nw.warmM hW h.1, va_Nw.warmM hW h.2.1, va_Nw.warmM hW h.2.2.1, va_Nw.warmM hW h.2.2.2.1, va_AO.moved hW.alike h.2.2.2.2.1, va_AO.moved hW.alike h.2.2.2.2.2⟩
theorem cNst_same {s U : State} (h : cNst s) (hv : s.vm = U.vm) : cNst U := ⟨va_Nw.same rfl hv h.1, va_Nw.same rfl hv h.2.1, va_Nw.same rfl hv h.2.2.1, va_Nw.same rfl hv h.2.2.2.1, va_AO.moved (by rw [hv]; exact Vm.Alike.refl _) h.2.2.2.2.1, va_AO.moved (by rw [hv]; exact Vm.Alike.refl _) h.2.2.2.2.2⟩
def cPre (g : gG) (t n : Nat) (av : List Value) : Array Value → State → Prop := va_Pc av (fun U => (cH g t n U.heap ∧ U.heap.size = gZ g + n) ∧ va_K (gD g) vwCl (gT g) U ∧ gStr g U ∧ cNst U)
theorem cPre_blind {g : gG} {t n : Nat} {av : List Value} : FrameBlind (cPre g t n av) := fun a U f mk q => ⟨q.1, q.2.1, va_K.moved (u := U) (U := U.calling f mk a) (Vm.Alike.refl U.vm) q.2.2.1, gStr_same (U := U.calling f mk a) q.2.2.2.1 rfl rfl, cNst_same (U := U.calling f mk a) q.2.2.2.2 rfl⟩
abbrev cQv (g : gG) (t n : Nat) : Array Value → State → Outcome → State → Prop := va_Qv (S := Unit) (fun _ => True) (fun _ U => cH g t n U.heap) (gA g)
abbrev cQr (g : gG) (t n q : Nat) : Array Value → State → Outcome → State → Prop := va_Qr (S := Unit) (fun _ => True) (fun _ a U => cH g t n U.heap ∧ a = gZ g + q) (gA g)
theorem gFix_n {g : gG} {n : Nat} {p : Program} {c : Code} {cc : ByteArray} {nL : Nat} {s : State} {args : Array Value} {Ts : List Cond} {own : String} {m : MethodId} (F : gFix g p c cc nL s args Ts own m) : gFix (gn g n) p c cc nL s args Ts own m := F
theorem gO_n {g : gG} {n o c : Nat} (ho : o < n) (hk : gK g (gZ g + o) = c) : gO (gn g n) (gZ g + o) c := ⟨List.mem_range'_1.mpr ⟨Nat.le_add_right _ _, Nat.add_lt_add_left ho _⟩, hk⟩
theorem gAr_n {g : gG} {n o c N : Nat} (ho : o < n) (hk : gK g (gZ g + o) = c) (hl : gN g (gZ g + o) = N) : gAr (gn g n) (gZ g + o) c N := ⟨List.mem_range'_1.mpr ⟨Nat.le_add_right _ _, Nat.add_lt_add_left ho _⟩, hk, hl⟩
def dvs (ts : List Nat) : List Value := ts.map (fun k => match k with
  | 0 => .int 0
  | 1 => .long 0
  | _ => .null)
theorem gFs_fr {g : gG} {t n : Nat} {ts : List Nat} (h : cfr t n) : gFs (wI g t) (wR g t) zJ (gZ g + n) ts = dvs ts := by
  unfold gFs dvs
  apply List.ext_getElem?
  intro i
  rw [List.getElem?_mapIdx, List.getElem?_map]
  cases ts[i]? with
  | none => rfl
  | some k =>
    have e1 : wI g t (gZ g + n) i = 0 := by unfold wI; rw [if_pos (Nat.le_add_right _ _), Nat.add_sub_cancel_left, cI_fr h (Nat.le_refl _)]; rfl
    have e2 : wR g t (gZ g + n) i = none := by unfold wR; rw [if_pos (Nat.le_add_right _ _), Nat.add_sub_cancel_left, cR_fr h (Nat.le_refl _)]; rfl
    match k with
    | 0 => show some (Value.int (wI g t (gZ g + n) i)) = _; rw [e1]; rfl
    | 1 => rfl
    | k + 2 => show some (va_rf (wR g t (gZ g + n) i)) = _; rw [e2]; rfl
theorem va_plp {L : List Nat} {f : Nat → va_E} {a : Nat} : va_pl (L ++ [a]) f = va_pl L f ++ [(a, f a)] := List.map_append
section Cons
variable {g : gG} {t n : Nat}
variable {p : Program} {l : Launch} {e : Env} {Rm : Room} {s : State} {m : MethodId} {args : Array Value} {below : List Frame} {meth : Method} {c : Code} {H : Heap} {locs : List Loc} {cells slots : Nat} {Q : State → Prop}
variable {cc : ByteArray} {pc nL : Nat} {ls : Array Slot} {rest st0 : List Value} {Ts : List Cond} {own : String}
theorem w_size {fr : JFrame} (k : H.size ≤ s.heap.size + cells → W p l e Rm s m args below meth c H locs cells slots Q fr) : W p l e Rm s m args below meth c H locs cells slots Q fr := fun T hT X => k (by rw [← hT]; exact X.same.2.2.1) T hT X
theorem vaS_j {A : Nat → Prop} {H1 : Heap} {locs1 : List Loc} (hS : va_S A s.heap H locs) (h : va_S A H H1 locs1) : va_S A s.heap H1 locs1 := ⟨Nat.le_trans hS.1 h.1, fun q h1 h2 => (h.2.1 q (Nat.lt_of_lt_of_le h1 hS.1) h2).trans (hS.2.1 q h1 h2), h.2.2⟩
/-- a cell more -/
theorem cH_push {H1 : Heap} (hH : cH g t n H) (hz : H.size = gZ g + n) (z1 : H1.size = gZ g + n + 1) (o1 : ∀ q : Nat, q < H.size → H1[q]? = H[q]?) (hn : va_at (gD g) vwCl (gZ g + n, gE g (wI g t) (wR g t) zJ zA zJ (wA g t) (gZ g + n)) H1) : cH g t (n + 1) H1 := by
  obtain ⟨⟨hP, hD⟩, hl⟩ := hH
  have er : gL (gn g (n + 1)) = gL (gn g n) ++ [gZ g + n] := List.range'_1_concat
  refine ⟨⟨?_, ?_⟩, by omega⟩
  · show va_P (gD g) vwCl (va_pl (gL (gn g (n + 1))) (gE g (wI g t) (wR g t) zJ zA zJ (wA g t))) H1
    rw [er, va_plp]
    refine (hP.kept (fun k x hx => o1 x.1 ((hP k x hx).lt))).app (fun k x hx => ?_)
    have hz : k < 1 := (List.getElem?_eq_some_iff.mp hx).1
    rw [show k = 0 by omega] at hx
    cases hx
    exact hn
  · show va_D (gA g) (va_pl (gL (gn g (n + 1))) (gE g (wI g t) (wR g t) zJ zA zJ (wA g t)))
    rw [er, va_plp]
    exact va_D.push hD hP hz.symm (Nat.le_add_right _ _)
theorem vaS_push {H1 : Heap} (hS : va_S (gA g) s.heap H locs) (z1 : H.size ≤ H1.size) (o1 : ∀ q : Nat, q < H.size → H1[q]? = H[q]?) : va_S (gA g) s.heap H1 locs := ⟨Nat.le_trans hS.1 z1, fun x h1 h2 => (o1 x (Nat.lt_of_lt_of_le h1 hS.1)).trans (hS.2.1 x h1 h2), hS.2.2⟩
theorem c_new (F : gFix g p c cc nL s args Ts own m) (hH : cH g t n H) (hS : va_S (gA g) s.heap H locs) (hcnt : s.heap.size + cells = gZ g + n) {C : String} {T : u_T} {N ci index : Nat} (hc : vwCl[ci]? = some (C, T, N)) (hc8 : ci < 8) (hin : ∀ w ∈ u_ws C T N, w ∈ Ts) (ty : Nat → FieldType) (hty : ∀ k, k < N → parseFieldDescriptor (T k).2.2.1 = some (ty k)) (hdf : ∀ j, j < N → defaultValue (ty j) = vp_V (dvs (gft ci)) j)
    (hk : gK g (gZ g + n) = ci) (hfr : cfr t n) (hcl : Cond.classLink own index C ∈ Ts) (hinst : Cond.instantiable C N ∈ Ts) (hini : Cond.initialized C ∈ Ts) (hcells : cells + 1 ≤ Rm.cells) (hslots : slots + N ≤ Rm.slots) (hdg : decode cc pc = .ok (.new index, 3))
    (kk : ∀ H1 : Heap, cH g t (n + 1) H1 → va_S (gA g) s.heap H1 locs → W p l e Rm s m args below meth c H1 locs (cells + 1) (slots + N) Q (F0 m (pc + 3) ls (.ref (gZ g + n) :: rest))) : W p l e Rm s m args below meth c H locs cells slots Q (F0 m pc ls rest) := by
  refine w_size (fun hsz => ?_)
  have hz : H.size = gZ g + n := by have := hH.2; omega
  obtain ⟨hx, hb0, -, hown, hts, hK, -⟩ := F
  have hKn := hK.1 ci _ hc
  refine W.newcK hx hb0 hown (hts _ hcl) (hts _ hinst) (hts _ hini) rfl hdg hcells hslots hKn.2.1 hz fun H1 kC hkC e1 z1 o1 => ?_
  refine kk H1 (cH_push hH hz z1 (fun q hq => o1 q (by omega)) ?_) (vaS_push hS (by omega) (fun q hq => o1 q (by omega)))
  rw [gE_obj hk hc8]
  exact ⟨_, hc, (u_born ty hts hin hKn hkC e1 hty).to (fun j hj => by rw [gFs_fr hfr]; exact hdf j hj)⟩
theorem c_newA (F : gFix g p c cc nL s args Ts own m) (hH : cH g t n H) (hS : va_S (gA g) s.heap H locs) (hcnt : s.heap.size + cells = gZ g + n) {atype : ArrayType} {ty : FieldType} {ck i : Nat} {z : Int} {N : Nat} (hty : newarray.typeOf atype = ty) (hi : (gT g)[i]? = some (gY g ck, ty)) (hra : ∀ cA, va_RA s cA ty → s.vm.findClass ("[" ++ ty.toString) = some cA)
    (hcell : ∀ cA : ClassId, vp_cell cA (N, gX ck (fun _ => 0) (fun _ => 0) (fun _ => none)) = arrV cA N (fun _ => defaultValue ty)) (hc8 : ¬ ck < 8) (harr : Cond.arrayClass ty ∈ Ts) (h0 : 0 ≤ z) (hN : z.toNat = N) (h9 : z ≤ 2147483647) (hbytes : N * componentBytes ty ≤ 536870912) (hcells : cells + 1 ≤ Rm.cells) (hslots : slots + N ≤ Rm.slots)
    (hk : gK g (gZ g + n) = ck) (hl : gN g (gZ g + n) = N) (hfr : cfr t n) (hdg : decode cc pc = .ok (.newarray atype, 2))
    (kk : ∀ H1 : Heap, cH g t (n + 1) H1 → va_S (gA g) s.heap H1 locs → W p l e Rm s m args below meth c H1 locs (cells + 1) (slots + N) Q (F0 m (pc + 2) ls (.ref (gZ g + n) :: rest))) : W p l e Rm s m args below meth c H locs cells slots Q (F0 m pc ls (.int (iI z) :: rest)) := by
  subst hty
  refine w_size (fun hsz => ?_)
  have hz : H.size = gZ g + n := by have := hH.2; omega
  obtain ⟨hx, hb0, -, hown, hts, hK, -⟩ := F
  refine va_newaK hx hb0 (hts _ harr) (g := F0 m pc ls (.int (iI z) :: rest)) rfl hdg rfl (by rw [Int32.lt_iff_toInt_lt, iI_val ⟨by omega, h9⟩]; exact Int.not_lt.mpr h0) ((iI_nat h0 h9).trans hN) hbytes hcells hslots hz fun H1 cA e1 z1 o1 hAr hNm => ?_
  refine kk H1 (cH_push hH hz z1 (fun q hq => o1 q (by omega)) ?_) (vaS_push hS (by omega) (fun q hq => o1 q (by omega)))
  rw [gE_arr hk hl hc8]
  have ec : cA = gY g ck := Option.some.inj (hNm.symm.trans (hra _ (hK.2 i _ hi).2))
  subst ec
  show H1[gZ g + n]? = some (vp_cell _ _)
  have ew : wA g t (gZ g + n) = fun _ => none := by funext j; unfold wA; rw [if_pos (Nat.le_add_right _ _), Nat.add_sub_cancel_left, cA_fr hfr (Nat.le_refl _)]; rfl
  rw [e1, ew]
  exact congrArg some (hcell _).symm
theorem c_newR (F : gFix g p c cc nL s args Ts own m) (hH : cH g t n H) (hS : va_S (gA g) s.heap H locs) (hcnt : s.heap.size + cells = gZ g + n) {C : String} {ck i index : Nat} {z : Int} {N : Nat} (hi : (gT g)[i]? = some (gY g ck, .object C)) (hck : ck = 11 ∨ ck = 12) (hcl : Cond.classLink own index C ∈ Ts) (hover : va_AO C s) (h0 : 0 ≤ z) (hN : z.toNat = N) (h9 : z ≤ 2147483647) (hbytes : N * 4 ≤ 536870912) (hcells : cells + 1 ≤ Rm.cells) (hslots : slots + N ≤ Rm.slots)
    (hk : gK g (gZ g + n) = ck) (hl : gN g (gZ g + n) = N) (hfr : cfr t n) (hdg : decode cc pc = .ok (.anewarray index, 3))
    (kk : ∀ H1 : Heap, cH g t (n + 1) H1 → va_S (gA g) s.heap H1 locs → W p l e Rm s m args below meth c H1 locs (cells + 1) (slots + N) Q (F0 m (pc + 3) ls (.ref (gZ g + n) :: rest))) : W p l e Rm s m args below meth c H locs cells slots Q (F0 m pc ls (.int (iI z) :: rest)) := by
  refine w_size (fun hsz => ?_)
  have hz : H.size = gZ g + n := by have := hH.2; omega
  obtain ⟨hx, hb0, -, hown, hts, hK, -⟩ := F
  have eN := (iI_nat h0 h9).trans hN
  refine W.anew hx hb0 hown (hts _ hcl) (va_AO.use hover) (g := F0 m pc ls (.int (iI z) :: rest)) rfl hdg rfl (by rw [Int32.lt_iff_toInt_lt, iI_val ⟨by omega, h9⟩]; exact Int.not_lt.mpr h0) (by rw [eN]; exact hbytes) hcells (by rw [eN]; exact hslots) fun cA kA comp f1 f2 f3 f4 => ?_
  rw [eN]
  obtain ⟨H1, hH1⟩ : ∃ q, q = H.push ({ cls := cA, slots := Array.replicate N .null } : Cell) := ⟨_, rfl⟩
  have z1 : H1.size = gZ g + n + 1 := by rw [hH1, Array.size_push, hz]
  have e1 : H1[gZ g + n]? = some (arrV cA N (fun _ => .null)) := by rw [hH1, ← hz, Array.getElem?_push_size, ← arrV_new]
  have o1 : ∀ q : Nat, q < H.size → H1[q]? = H[q]? := fun q hq => by rw [hH1, Array.getElem?_push, if_neg (Nat.ne_of_lt hq)]
  have k1 := kk H1 (cH_push hH hz z1 o1 ?_) (vaS_push hS (by omega) o1)
  · rw [hz, ← hH1]; exact k1
  · rw [gE_arr hk hl (by omega)]
    obtain ⟨kA', comp', h1, h2, h3, h4⟩ := (hK.2 i _ hi).2
    have ec : cA = gY g ck := Option.some.inj (f1.symm.trans h4)
    subst ec
    show H1[gZ g + n]? = some (vp_cell _ _)
    have ew : wA g t (gZ g + n) = fun _ => none := by funext j; unfold wA; rw [if_pos (Nat.le_add_right _ _), Nat.add_sub_cancel_left, cA_fr hfr (Nat.le_refl _)]; rfl
    have ex : gX ck (zA (gZ g + n)) (zJ (gZ g + n)) (wA g t (gZ g + n)) = .inr (.inr (.inr (.inr (fun _ => none)))) := by
      rw [ew]; unfold gX; rw [if_neg (by omega), if_neg (by omega)]
    rw [ex, e1, vp_cell_q]
    rfl
theorem cH_2 {o k q : Nat} {H1 : Heap} (he : ev t = (2, o, k, q)) (hl : gZ g + n ≤ H1.size) (h : gH (gn g n) (wI g t) (gup2 (wR g t) (gZ g + o) k (some (gZ g + q))) zJ zA zJ (wA g t) H1) : cH g (t + 1) n H1 := by
  refine ⟨?_, hl⟩
  rw [ev_R2 he, ev_I (by rw [he]; dsimp only; decide), ev_A (by rw [he]; dsimp only; decide)]
  exact h
theorem cH_1 {o k v : Nat} {H1 : Heap} (he : ev t = (1, o, k, v)) (hl : gZ g + n ≤ H1.size) (h : gH (gn g n) (gup2 (wI g t) (gZ g + o) k (iI (v : Int))) (wR g t) zJ zA zJ (wA g t) H1) : cH g (t + 1) n H1 := by
  refine ⟨?_, hl⟩
  rw [ev_I1 he, ev_R (by rw [he]; dsimp only; decide), ev_A (by rw [he]; dsimp only; decide)]
  exact h
theorem cH_3 {o k q : Nat} {H1 : Heap} (he : ev t = (3, o, k, q)) (hl : gZ g + n ≤ H1.size) (h : gH (gn g n) (wI g t) (wR g t) zJ zA zJ (gup2 (wA g t) (gZ g + o) k (some (gZ g + q))) H1) : cH g (t + 1) n H1 := by
  refine ⟨?_, hl⟩
  rw [ev_A3 he, ev_R (by rw [he]; dsimp only; decide), ev_I (by rw [he]; dsimp only; decide)]
  exact h
theorem c_putRF (F : gFix g p c cc nL s args Ts own m) (hH : cH g t n H) (hS : va_S (gA g) s.heap H locs) {C : String} {T : u_T} {N ci k index o q : Nat} (hc : vwCl[ci]? = some (C, T, N)) (hc8 : ci < 8) (hin : ∀ w ∈ u_ws C T N, w ∈ Ts) (ho : o < n) (ha : gK g (gZ g + o) = ci) (hk : k < N) (ty0 : Nat → FieldType) (hty : ∀ k, k < N → parseFieldDescriptor (T k).2.2.1 = some (ty0 k)) (hnm : ∀ a, a < N → ∀ b, b < N → a ≠ b → (T a).2.1 ≠ (T b).2.1) (hf : (gft ci)[k]? = some 2) {ty : FieldType} (hn : ∀ x, narrow ty (.ref x) = .ref x) (hfit : ∀ x, fits ty (.ref x) = true) (hfin : (T k).2.2.2 = true) (hini : meth.name = "<init>") (hdecl : (T k).1 = own) (hd : parseFieldDescriptor (T k).2.2.1 = some ty) (hl : Cond.fieldLink own index (T k).1 (T k).2.1 (T k).2.2.1 ∈ Ts) (hdg : decode cc pc = .ok (.putfield index, 3)) (he : ev t = (2, o, k, q))
    (kk : ∀ (H1 : Heap) (locs1 : List Loc), cH g (t + 1) n H1 → va_S (gA g) s.heap H1 locs1 → W p l e Rm s m args below meth c H1 locs1 cells slots Q (F0 m (pc + 3) ls rest)) : W p l e Rm s m args below meth c H locs cells slots Q (F0 m pc ls (.ref (gZ g + q) :: .ref (gZ g + o) :: rest)) :=
  g_putRF (gFix_n F) hH.1 (H0 := H) ⟨Nat.le_refl _, fun _ _ _ => rfl, hS.2.2⟩ hc hc8 hin (gO_n ho ha) hk ty0 hty hnm hf (hn _) (hfit _) hfin hini hdecl hd hl hdg (fun H1 locs1 h1 h2 => kk H1 locs1 (cH_2 he (Nat.le_trans hH.2 h2.1) h1) (vaS_j hS h2))
theorem c_putR (F : gFix g p c cc nL s args Ts own m) (hH : cH g t n H) (hS : va_S (gA g) s.heap H locs) {C : String} {T : u_T} {N ci k index o q : Nat} (hc : vwCl[ci]? = some (C, T, N)) (hc8 : ci < 8) (hin : ∀ w ∈ u_ws C T N, w ∈ Ts) (ho : o < n) (ha : gK g (gZ g + o) = ci) (hk : k < N) (ty0 : Nat → FieldType) (hty : ∀ k, k < N → parseFieldDescriptor (T k).2.2.1 = some (ty0 k)) (hnm : ∀ a, a < N → ∀ b, b < N → a ≠ b → (T a).2.1 ≠ (T b).2.1) (hf : (gft ci)[k]? = some 2) {ty : FieldType} (hn : ∀ x, narrow ty (.ref x) = .ref x) (hfit : ∀ x, fits ty (.ref x) = true) (hfin : (T k).2.2.2 = false) (hd : parseFieldDescriptor (T k).2.2.1 = some ty) (hl : Cond.fieldLink own index (T k).1 (T k).2.1 (T k).2.2.1 ∈ Ts) (hdg : decode cc pc = .ok (.putfield index, 3)) (he : ev t = (2, o, k, q))
    (kk : ∀ (H1 : Heap) (locs1 : List Loc), cH g (t + 1) n H1 → va_S (gA g) s.heap H1 locs1 → W p l e Rm s m args below meth c H1 locs1 cells slots Q (F0 m (pc + 3) ls rest)) : W p l e Rm s m args below meth c H locs cells slots Q (F0 m pc ls (.ref (gZ g + q) :: .ref (gZ g + o) :: rest)) :=
  g_putR (gFix_n F) hH.1 (H0 := H) ⟨Nat.le_refl _, fun _ _ _ => rfl, hS.2.2⟩ hc hc8 hin (gO_n ho ha) hk ty0 hty hnm hf (hn _) (hfit _) hfin hd hl hdg (fun H1 locs1 h1 h2 => kk H1 locs1 (cH_2 he (Nat.le_trans hH.2 h2.1) h1) (vaS_j hS h2))
theorem c_putIF (F : gFix g p c cc nL s args Ts own m) (hH : cH g t n H) (hS : va_S (gA g) s.heap H locs) {C : String} {T : u_T} {N ci k index o v : Nat} (hc : vwCl[ci]? = some (C, T, N)) (hc8 : ci < 8) (hin : ∀ w ∈ u_ws C T N, w ∈ Ts) (ho : o < n) (ha : gK g (gZ g + o) = ci) (hk : k < N) (ty0 : Nat → FieldType) (hty : ∀ k, k < N → parseFieldDescriptor (T k).2.2.1 = some (ty0 k)) (hnm : ∀ a, a < N → ∀ b, b < N → a ≠ b → (T a).2.1 ≠ (T b).2.1) (hf : (gft ci)[k]? = some 0) (hfin : (T k).2.2.2 = true) (hini : meth.name = "<init>") (hdecl : (T k).1 = own) (hd : parseFieldDescriptor (T k).2.2.1 = some .int) (hl : Cond.fieldLink own index (T k).1 (T k).2.1 (T k).2.2.1 ∈ Ts) (hdg : decode cc pc = .ok (.putfield index, 3)) (he : ev t = (1, o, k, v))
    (kk : ∀ (H1 : Heap) (locs1 : List Loc), cH g (t + 1) n H1 → va_S (gA g) s.heap H1 locs1 → W p l e Rm s m args below meth c H1 locs1 cells slots Q (F0 m (pc + 3) ls rest)) : W p l e Rm s m args below meth c H locs cells slots Q (F0 m pc ls (.int (iI (v : Int)) :: .ref (gZ g + o) :: rest)) :=
  g_putIF (gFix_n F) hH.1 (H0 := H) ⟨Nat.le_refl _, fun _ _ _ => rfl, hS.2.2⟩ hc hc8 hin (gO_n ho ha) hk ty0 hty hnm hf hfin hini hdecl hd hl hdg (fun H1 locs1 h1 h2 => kk H1 locs1 (cH_1 he (Nat.le_trans hH.2 h2.1) h1) (vaS_j hS h2))
/-- a place of a row: kind 11 of Lines, 12 of Rows -/
theorem c_aast (F : gFix g p c cc nL s args Ts own m) (hH : cH g t n H) (hS : va_S (gA g) s.heap H locs) {ck ci i o q N : Nat} {r : vw_C} {j : Nat} (hi : (gT g)[i]? = some (gY g ck, .object r.1)) (hck : ck = 11 ∨ ck = 12) (hc : vwCl[ci]? = some r) (hc8 : ci < 8) (ho : o < n) (hq : q < n) (hk : gK g (gZ g + o) = ck) (hl : gN g (gZ g + o) = N) (hkq : gK g (gZ g + q) = ci) (hj : j < N) (hj9 : j ≤ 2147483647) (hdg : decode cc pc = .ok (.aastore, 1)) (he : ev t = (3, o, j, q))
    (kk : ∀ (H1 : Heap) (locs1 : List Loc), cH g (t + 1) n H1 → va_S (gA g) s.heap H1 locs1 → W p l e Rm s m args below meth c H1 locs1 cells slots Q (F0 m (pc + 1) ls rest)) : W p l e Rm s m args below meth c H locs cells slots Q (F0 m pc ls (.ref (gZ g + q) :: .int (iI (j : Int)) :: .ref (gZ g + o) :: rest)) := by
  obtain ⟨hx, hb0, -, hown, hts, hK, -⟩ := F
  have ha := gAr_n (n := n) ho hk hl
  have hv := gO_n (n := n) hq hkq
  obtain ⟨q0, hq0⟩ := g_at (g := gn g n) (I := wI g t) (R := wR g t) (J := zJ) (AI := zA) (AJ := zJ) (AR := wA g t) ha.1
  obtain ⟨q1, hq1⟩ := g_at (g := gn g n) (I := wI g t) (R := wR g t) (J := zJ) (AI := zA) (AJ := zJ) (AR := wA g t) hv.1
  have ex : ∀ f : Nat → Option Nat, gX ck (zA (gZ g + o)) (zJ (gZ g + o)) f = .inr (.inr (.inr (.inr f))) := fun f => by unfold gX; rw [if_neg (by omega), if_neg (by omega)]
  have ea : gE (gn g n) (wI g t) (wR g t) zJ zA zJ (wA g t) (gZ g + o) = .inl (gY g ck, N, .inr (.inr (.inr (.inr (wA g t (gZ g + o)))))) := (gE_arr ha.2.1 ha.2.2 (by omega)).trans (congrArg (fun z => Sum.inl (gY g ck, N, z)) (ex _))
  have hset := g_set (g := gn g n) (A := gA g) (f' := gE (gn g n) (wI g t) (wR g t) zJ zA zJ (gup2 (wA g t) (gZ g + o) j (some (gZ g + q)))) (e := .inl (gY g ck, N, .inr (.inr (.inr (.inr (va_up (wA g t (gZ g + o)) j (some (gZ g + q)))))))) hH.1.2 ha.1 hq0
    ((gE_arr ha.2.1 ha.2.2 (by omega)).trans (congrArg (fun z => Sum.inl (gY g ck, N, z)) ((ex _).trans (congrArg (fun z => Sum.inr (Sum.inr (Sum.inr (Sum.inr z)))) (funext fun y => by
      unfold gup2 va_up
      by_cases hy : y = j
      · rw [if_pos ⟨rfl, hy⟩, if_pos hy]
      · rw [if_neg (fun w => hy w.2), if_neg hy])))))
    (fun b hb => by
      unfold gE
      rw [show gup2 (wA g t) (gZ g + o) j (some (gZ g + q)) b = wA g t b from funext fun y => gup2_a _ _ hb])
  rw [ea] at hq0
  rw [gE_obj hv.2 hc8] at hq1
  have hin : vp_in (iI (j : Int)) N := iI_in (by omega) (by omega) (by omega)
  refine va_astq (H0 := H) hx hb0 hK hH.1.1 hH.1.2 ⟨Nat.le_refl _, fun _ _ _ => rfl, hS.2.2⟩ q0 i q1 ci hq0 hi hq1 hc hin hdg (fun H1 locs1 h1 h2 h3 => ?_)
  rw [iI_nat (by omega) (by omega), Int.toNat_natCast] at h1 h2
  rw [hset] at h1 h2
  exact kk H1 locs1 (cH_3 he (Nat.le_trans hH.2 h3.1) ⟨h1, h2⟩) (vaS_j hS h3)
variable {y : MethodName} {bytes : ByteArray} {maxL N index b t' n' mc ms q : Nat} {ret : Option FieldType} {ws : List Cond} {rm : Room} {As : List Value} {host : String}
theorem c_pre (F : gFix g p c cc nL s args Ts own m) (hNst : cNst s) (hH : cH g t n H) (hS : va_S (gA g) s.heap H locs) (hz : H.size = gZ g + n) {av : List Value} : ∀ U : State, U.heap = H → s.WarmedH U.vm → cPre g t n av av.toArray U := fun U hU hW =>
  ⟨rfl, ⟨by rw [hU]; exact hH, by rw [hU]; exact hz⟩, va_K.moved hW.alike F.2.2.2.2.2.1, gStr_mv F.2.2.2.2.2.2 hW (fun a h1 h2 => by rw [hU]; exact hS.2.1 a h1 h2), cNst_mv hNst hW⟩
theorem c_callI (F : gFix g p c cc nL s args Ts own m) (hNst : cNst s) (hls : ls.size = nL) (hH : cH g t n H) (hS : va_S (gA g) s.heap H locs) (hcnt : s.heap.size + cells = gZ g + n) (M : Met l y ws rm (cPre g t n (.ref b :: As)) (cQv g t' n') mc ms (gA g))
    (cw : CallB Rm s args own index y bytes maxL none ws rm mc ms N ∧ y.name = "<init>" ∧ (Cond.instanceMethod y).before args s = true) (hn : As.length = N) (hst : st0 = As.reverse ++ .ref b :: rest) (hroom : (rest.map fun v => v.category).sum ≤ 8) (hdg : decode cc pc = .ok (.invokespecial index, 3)) (hcs : cells + mc ≤ Rm.cells ∧ slots + ms ≤ Rm.slots)
    (kk : ∀ (H1 : Heap) (locs1 : List Loc), cH g t' n' H1 → va_S (gA g) s.heap H1 locs1 → W p l e Rm s m args below meth c H1 locs1 (cells + mc) (slots + ms) Q (F0 m (pc + 3) ls rest)) : W p l e Rm s m args below meth c H locs cells slots Q (F0 m pc ls st0) :=
  w_size (fun hsz => va_callv (va_runI (As := As) (rest := rest) ⟨F.1, F.2.1, F.2.2.1, F.2.2.2.1, F.2.2.2.2.1⟩ M cw ⟨cPre_blind, c_pre F hNst hH hS (by have := hH.2; omega)⟩ rfl hn hls hst (lv_room (m := m) (pc := pc) (ls := ls) (rest := st0) hroom) hdg hcs) hS (fun q _ h => h) (fun q h => h) (fun u t1 H1 locs1 ht hvm hp hB hz1 hk1 hS1 => kk H1 locs1 (by rw [← ht]; exact hB) hS1))
theorem c_callN (F : gFix g p c cc nL s args Ts own m) (hNst : cNst s) (hls : ls.size = nL) (hH : cH g t n H) (hS : va_S (gA g) s.heap H locs) (hcnt : s.heap.size + cells = gZ g + n) (M : Met l y ws rm (cPre g t n (.ref b :: As)) (cQv g t' n') mc ms (gA g))
    (cw : va_CN Rm s args own index y host bytes maxL none ws rm mc ms N ∧ y.name = "<init>" ∧ (Cond.instanceMethod y).before args s = true) (hn : As.length = N) (hst : st0 = As.reverse ++ .ref b :: rest) (hroom : (rest.map fun v => v.category).sum ≤ 8) (hdg : decode cc pc = .ok (.invokespecial index, 3)) (hcs : cells + mc ≤ Rm.cells ∧ slots + ms ≤ Rm.slots)
    (kk : ∀ (H1 : Heap) (locs1 : List Loc), cH g t' n' H1 → va_S (gA g) s.heap H1 locs1 → W p l e Rm s m args below meth c H1 locs1 (cells + mc) (slots + ms) Q (F0 m (pc + 3) ls rest)) : W p l e Rm s m args below meth c H locs cells slots Q (F0 m pc ls st0) :=
  w_size (fun hsz => va_callv (va_runIN (As := As) (rest := rest) ⟨F.1, F.2.1, F.2.2.1, F.2.2.2.1, F.2.2.2.2.1⟩ M cw ⟨cPre_blind, c_pre F hNst hH hS (by have := hH.2; omega)⟩ rfl hn hls hst (lv_room (m := m) (pc := pc) (ls := ls) (rest := st0) hroom) hdg hcs) hS (fun q _ h => h) (fun q h => h) (fun u t1 H1 locs1 ht hvm hp hB hz1 hk1 hS1 => kk H1 locs1 (by rw [← ht]; exact hB) hS1))
theorem c_callS (F : gFix g p c cc nL s args Ts own m) (hNst : cNst s) (hls : ls.size = nL) (hH : cH g t n H) (hS : va_S (gA g) s.heap H locs) (hcnt : s.heap.size + cells = gZ g + n) (M : Met l y ws rm (cPre g t n As) (cQr g t' n' q) mc ms (gA g))
    (cw : CallB Rm s args own index y bytes maxL ret ws rm mc ms N ∧ (Cond.static y).before args s = true) (hn : As.length = N) (hst : st0 = As.reverse ++ rest) (hroom : (rest.map fun v => v.category).sum ≤ 8) (hdg : decode cc pc = .ok (.invokestatic index, 3)) (hcs : cells + mc ≤ Rm.cells ∧ slots + ms ≤ Rm.slots)
    (kk : ∀ (H1 : Heap) (locs1 : List Loc), cH g t' n' H1 → va_S (gA g) s.heap H1 locs1 → W p l e Rm s m args below meth c H1 locs1 (cells + mc) (slots + ms) Q (F0 m (pc + 3) ls (.ref (gZ g + q) :: rest))) : W p l e Rm s m args below meth c H locs cells slots Q (F0 m pc ls st0) :=
  w_size (fun hsz => va_callr (va_runS (As := As) (rest := rest) ⟨F.1, F.2.1, F.2.2.1, F.2.2.2.1, F.2.2.2.2.1⟩ M cw ⟨cPre_blind, c_pre F hNst hH hS (by have := hH.2; omega)⟩ rfl hn hls hst (lv_room (m := m) (pc := pc) (ls := ls) (rest := st0) hroom) hdg hcs) hS (fun q _ h => h) (fun q h => h) (fun w ra t1 H1 locs1 ht hvm hp hB hz1 hk1 hS1 => by
    obtain ⟨h1, rfl⟩ := hB
    exact kk H1 locs1 (by rw [← ht]; exact h1) hS1))
theorem c_vret (F : gFix g p c cc nL s args Ts own m) (hr : meth.sig.returnType = none) (hlk : meth.locks = false) (hH : cH g t n H) (hS : va_S (gA g) s.heap H locs) (h1 : cells ≤ mc) (h2 : slots ≤ ms) (hdg : decode cc pc = .ok (.return_, 1)) :
    W p l e Rm s m args below meth c H locs cells slots (MQ below (cQv g t n) args s mc ms (gA g)) (F0 m pc ls []) :=
  W.widen h1 h2 (W.vret F.1 F.2.1 hr (fun t1 ht hW => ⟨⟨(), rfl, trivial, by show cH g t n t1.heap; rw [ht]; exact hH⟩, hS.F ht⟩) hS.2.2 hdg hlk)
theorem c_aret (F : gFix g p c cc nL s args Ts own m) {rt : FieldType} (hr : meth.sig.returnType = some rt) (hrt : (∃ n, rt = .object n) ∨ ∃ t, rt = .array t) (hlk : meth.locks = false) (hH : cH g t n H) (hS : va_S (gA g) s.heap H locs) (h1 : cells ≤ mc) (h2 : slots ≤ ms) (hdg : decode cc pc = .ok (.areturn, 1)) :
    W p l e Rm s m args below meth c H locs cells slots (MQ below (cQr g t n q) args s mc ms (gA g)) (F0 m pc ls [.ref (gZ g + q)]) :=
  W.widen h1 h2 (W.aret F.1 F.2.1 hr hrt (Or.inr ⟨gZ g + q, rfl⟩) (fun t1 ht hW => ⟨⟨(), gZ g + q, rfl, trivial, by show cH g t n t1.heap; rw [ht]; exact hH, rfl⟩, hS.F ht⟩) hS.2.2 hdg hlk)
theorem c_obj (F : gFix g p c cc nL s args Ts own m) (hls : ls.size = nL) {a : Nat} (h1 : Cond.methodLink own index objectInit ∈ Ts) (h2 : Cond.instanceMethod objectInit ∈ Ts) (h3 : Cond.code objectInit ⟨#[0xb1]⟩ 1 none ∈ Ts) (hdg : decode cc pc = .ok (.invokespecial index, 3)) (hf : 1 ≤ Rm.frames) (hl : (rest.map fun v => v.category).sum + 12 ≤ Rm.locals)
    (kk : W p l e Rm s m args below meth c H locs cells slots Q (F0 m (pc + 3) ls rest)) : W p l e Rm s m args below meth c H locs cells slots Q (F0 m pc ls (.ref a :: rest)) :=
  W.objInit F.1 F.2.1 F.2.2.2.1 (F.2.2.2.2.1 _ h1) (F.2.2.2.2.1 _ h2) (F.2.2.2.2.1 _ h3) (g := F0 m pc ls (.ref a :: rest)) rfl (hls.trans F.2.2.1.symm) rfl hdg hf (by show 2 * 0 + _ + 12 ≤ _; omega) kk
end Cons
theorem cStart {l : Launch} {g : gG} {t n mc ms : Nat} {y : MethodName} {ws ws' : List Cond} {rm : Room} {av : List Value} {Qc : Array Value → State → Outcome → State → Prop} {cc : ByteArray} {maxL : Nat} {ret : Option FieldType}
    (hy : plainName y.cls = true) (hw : ws = Cond.code y cc maxL ret :: ws') (hav : (lg_sl av).length ≤ maxL)
    (body : ∀ (p : Program) (e : Env) (s : State) (m : MethodId) (below : List Frame) (meth : Method) (c : Code) (ls : Array Slot) (H : Heap) (locs : List Loc), gFix g p c cc maxL s av.toArray ws y.cls m → meth.sig.returnType = ret → meth.locks = false → meth.name = y.name →
      cH g t n H → s.heap.size + 0 = gZ g + n → va_S (gA g) s.heap H locs → cNst s → lv_has ls maxL (lv_args 0 av) →
      W p l e rm s m av.toArray below meth c H locs 0 0 (MQ below Qc av.toArray s mc ms (gA g)) (F0 m 0 ls [])) : Met l y ws rm (cPre g t n av) Qc mc ms (gA g) := by
  refine Met.ofW (cc := cc) (maxL := maxL) (ret := ret) hy hw ?_
  intro p e s m args below meth c s₁ B hml hv
  obtain ⟨rfl, ⟨hH, hz⟩, hK, hG, hN⟩ := hv
  rw [lg_entry_eq]
  exact body p e s m below meth c _ s.heap [] ⟨B.exec, B.bytes, hml, findClass_of_methodNamed B.named, atoms_spec (ws := ws) B.pre, hK, hG⟩ B.returns B.notSynchronized (name_of_methodNamed B.named B.method).1 hH hz va_S.rf hN (lv_entry av hav)
theorem df0 : ∀ j, j < 15 → defaultValue (tyX0 j) = vp_V (dvs (gft 0)) j := by decide +kernel
theorem df1 : ∀ j, j < 4 → defaultValue (tyX1 j) = vp_V (dvs (gft 1)) j := by decide +kernel
theorem df2 : ∀ j, j < 3 → defaultValue (tyX2 j) = vp_V (dvs (gft 2)) j := by decide +kernel
theorem df3 : ∀ j, j < 3 → defaultValue (tyX3 j) = vp_V (dvs (gft 3)) j := by decide +kernel
theorem df4 : ∀ j, j < 4 → defaultValue (tyX4 j) = vp_V (dvs (gft 4)) j := by decide +kernel
theorem df5 : ∀ j, j < 5 → defaultValue (tyX5 j) = vp_V (dvs (gft 5)) j := by decide +kernel
theorem df6 : ∀ j, j < 18 → defaultValue (tyX6 j) = vp_V (dvs (gft 6)) j := by decide +kernel
theorem df7 : ∀ j, j < 32 → defaultValue (tyX7 j) = vp_V (dvs (gft 7)) j := by decide +kernel
theorem nc8 {cA : ClassId} {N : Nat} : vp_cell cA (N, gX 8 (fun _ => 0) (fun _ => 0) (fun _ => none)) = arrV cA N (fun _ => defaultValue .byte) := rfl
theorem nc9 {cA : ClassId} {N : Nat} : vp_cell cA (N, gX 9 (fun _ => 0) (fun _ => 0) (fun _ => none)) = arrV cA N (fun _ => defaultValue .int) := rfl
theorem nc10 {cA : ClassId} {N : Nat} : vp_cell cA (N, gX 10 (fun _ => 0) (fun _ => 0) (fun _ => none)) = arrV cA N (fun _ => defaultValue .long) := rfl
theorem cfr_of {t n : Nat} (h : (List.range t).all (fun j => decide ((ev j).2.1 < n)) = true) : cfr t n := fun j hj => of_decide_eq_true (List.all_eq_true.mp h j (List.mem_range.mpr hj))
theorem kK {g : gG} (hOK : gOK g) {o k : Nat} (ho : o < 223) (h : kT o = k) : gK g (gZ g + o) = k := (hOK o ho).1.trans h
theorem kN {g : gG} (hOK : gOK g) {o k : Nat} (ho : o < 223) (h : nT o = k) : gN g (gZ g + o) = k := (hOK o ho).2.trans h
theorem cH_eq {g : gG} {t t1 n n1 : Nat} {H : Heap} (et : t = t1) (en : n = n1) (h : cH g t n H) : cH g t1 n1 H := by subst et; subst en; exact h
end
