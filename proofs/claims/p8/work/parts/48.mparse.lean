/-! the reference's reading of a tape: what its steps leave in the row that is read -/
theorem z_eq {v x : Int} (hv : zr v) (hx : zr x) (h : iI v = iI x) : v = x := by have := congrArg Int32.toInt h; rwa [iI_val hv, iI_val hx] at this
theorem z_wrap (x : Int) : ∃ v, zr v ∧ iI x = iI v ∧ (zr x → v = x) := ⟨(iI x).toInt, zr_t _, (iI_self _).symm, fun h => iI_val h⟩
theorem mBit01 (x d : Int) : mBit x d = 0 ∨ mBit x d = 1 := by
  unfold mBit
  generalize (iI ((iI x >>> (iI d &&& 31)).toInt)) = y
  have h : y &&& iI 1 = 0 ∨ y &&& iI 1 = 1 := by
    have t : (y &&& iI 1).toBitVec = y.toBitVec &&& 1#32 := rfl
    rw [BitVec.and_one_eq_setWidth_ofBool_getLsbD] at t
    cases q : y.toBitVec.getLsbD 0
    · rw [q] at t; exact Or.inl (Int32.toBitVec_inj.mp t)
    · rw [q] at t; exact Or.inr (Int32.toBitVec_inj.mp t)
  rcases h with h | h <;> rw [h]
  · exact Or.inl rfl
  · exact Or.inr rfl
theorem tI_s {A : gI} {b : Nat} {z v : Int} (hv : zr v) : tI (gup2 A b z.toNat (iI v) b) z = v := by unfold tI; rw [gup2_s]; exact iI_val hv
theorem tI_k {A : gI} {b : Nat} {z y : Int} {v : Int32} (hz : 0 ≤ z) (hy : 0 ≤ y) (h : y ≠ z) : tI (gup2 A b z.toNat v b) y = tI (A b) y := by unfold tI; rw [gup2_k _ _ (by omega)]
def s1 (f f' : Nat → Int32) (x v : Int) : Prop := (∀ z : Int, 0 ≤ z → z ≠ x → tI f' z = tI f z) ∧ tI f' x = v
theorem s1_mk {A A' : gI} {b : Nat} {x v : Int} (hx : 0 ≤ x) (hv : zr v) (e : A' = gup2 A b x.toNat (iI v)) : s1 (A b) (A' b) x v := by
  subst e
  exact ⟨fun z hz hn => tI_k hx hz hn, tI_s hv⟩
def sP (f f' : Nat → Int32) (M k a b c d : Int) : Prop := (∀ z : Int, 0 ≤ z → (z < 40 * M + 6 + 4 * k ∨ 40 * M + 6 + 4 * k + 4 ≤ z) → tI f' z = tI f z) ∧ mP f' M k 0 = a ∧ mP f' M k 1 = b ∧ mP f' M k 2 = c ∧ mP f' M k 3 = d
theorem sP_mk {A A1 A2 A3 A4 : gI} {o : Nat} {z M k a b c d : Int} (hM : 0 ≤ M) (hk : 0 ≤ k) (ha : zr a) (hb : zr b) (hc : zr c) (hd : zr d) (hz : z = 40 * M + 6 + 4 * k)
    (e1 : A1 = gup2 A o z.toNat (iI a)) (e2 : A2 = gup2 A1 o (z + 1).toNat (iI b)) (e3 : A3 = gup2 A2 o (z + 2).toNat (iI c)) (e4 : A4 = gup2 A3 o (z + 3).toNat (iI d)) : sP (A o) (A4 o) M k a b c d := by
  subst e1 e2 e3 e4
  subst hz
  refine ⟨fun y hy hn => ?_, ?_, ?_, ?_, ?_⟩
  · rw [tI_k (by omega) hy (by omega), tI_k (by omega) hy (by omega), tI_k (by omega) hy (by omega), tI_k (by omega) hy (by omega)]
  · unfold mP; rw [Int.add_zero, tI_k (by omega) (by omega) (by omega), tI_k (by omega) (by omega) (by omega), tI_k (by omega) (by omega) (by omega)]; exact tI_s ha
  · unfold mP; rw [tI_k (by omega) (by omega) (by omega), tI_k (by omega) (by omega) (by omega)]; exact tI_s hb
  · unfold mP; rw [tI_k (by omega) (by omega) (by omega)]; exact tI_s hc
  · exact tI_s hd
def hP (f f' : Nat → Int32) (M kd cl one oth ps : Int) : Prop := (∀ z : Int, 0 ≤ z → (z < 40 * M ∨ 40 * M + 6 ≤ z) → tI f' z = tI f z) ∧ tI f' (40 * M) = kd ∧ tI f' (40 * M + 1) = cl ∧ tI f' (40 * M + 2) = one ∧ tI f' (40 * M + 3) = oth ∧ tI f' (40 * M + 4) = ps
theorem hP_mk {f f1 f2 f3 f4 f5 : Nat → Int32} {M a b c d e : Int} (hM : 0 ≤ M) (h1 : s1 f f1 (40 * M + 0) a) (h2 : s1 f1 f2 (40 * M + 1) b) (h3 : s1 f2 f3 (40 * M + 2) c) (h4 : s1 f3 f4 (40 * M + 3) d) (h5 : s1 f4 f5 (40 * M + 4) e) : hP f f5 M a b c d e := by
  refine ⟨fun z hz hn => ?_, ?_, ?_, ?_, ?_, h5.2⟩
  · rw [h5.1 z hz (by omega), h4.1 z hz (by omega), h3.1 z hz (by omega), h2.1 z hz (by omega), h1.1 z hz (by omega)]
  · rw [h5.1 _ (by omega) (by omega), h4.1 _ (by omega) (by omega), h3.1 _ (by omega) (by omega), h2.1 _ (by omega) (by omega)]; have := h1.2; rwa [Int.add_zero] at this
  · rw [h5.1 _ (by omega) (by omega), h4.1 _ (by omega) (by omega), h3.1 _ (by omega) (by omega)]; exact h2.2
  · rw [h5.1 _ (by omega) (by omega), h4.1 _ (by omega) (by omega)]; exact h3.2
  · rw [h5.1 _ (by omega) (by omega)]; exact h4.2
theorem hP_s5 {f f1 f2 : Nat → Int32} {M a b c d e v : Int} (hM : 0 ≤ M) (h : hP f f1 M a b c d e) (h5 : s1 f1 f2 (40 * M + 5) v) : hP f f2 M a b c d e ∧ tI f2 (40 * M + 5) = v := by
  obtain ⟨h0, ha, hb, hc, hd, he⟩ := h
  refine ⟨⟨fun z hz hn => ?_, ?_, ?_, ?_, ?_, ?_⟩, h5.2⟩
  · rw [h5.1 z hz (by omega), h0 z hz hn]
  · rw [h5.1 _ (by omega) (by omega)]; exact ha
  · rw [h5.1 _ (by omega) (by omega)]; exact hb
  · rw [h5.1 _ (by omega) (by omega)]; exact hc
  · rw [h5.1 _ (by omega) (by omega)]; exact hd
  · rw [h5.1 _ (by omega) (by omega)]; exact he
/-- parts of a selection, of a list of terms, of a join, of a group -/
def selP (f : Nat → Int32) (M n : Int) : Prop := ∀ k : Int, 0 ≤ k → k < n → 0 ≤ mP f M k 0 ∧ mP f M k 0 ≤ 3 ∧ (mP f M k 2 = 1 → 0 ≤ mP f M k 3 ∧ mP f M k 3 ≤ 3)
def termP (f : Nat → Int32) (M fm n : Int) : Prop := ∀ k : Int, 0 ≤ k → k < n → mP f M (fm + k) 0 ≤ 3
def joinP (f : Nat → Int32) (M n : Int) : Prop := ∀ k : Int, 0 ≤ k → k < n → 0 ≤ mP f M k 0 ∧ mP f M k 0 ≤ 3 ∧ 0 ≤ mP f M k 1 ∧ mP f M k 1 ≤ 3
def grpP (f : Nat → Int32) (M n : Int) : Prop := ∀ k : Int, 0 ≤ k → k < n → 0 ≤ mP f M k 0 ∧ mP f M k 0 ≤ 3
def trF (f f' : Nat → Int32) (M fm : Int) : Prop := ∀ z : Int, 0 ≤ z → (z < 40 * M + 6 + 4 * fm ∨ 40 * M + 6 + 4 * fm + 16 ≤ z) → tI f' z = tI f z
theorem sP_old {f f' : Nat → Int32} {M n a b c d k w : Int} (h : sP f f' M n a b c d) (hM : 0 ≤ M) (hk : 0 ≤ k) (hl : k < n) (hw : 0 ≤ w ∧ w ≤ 3) : mP f' M k w = mP f M k w := h.1 _ (by omega) (by omega)
theorem selP_step {f f' : Nat → Int32} {M n a b c d : Int} (hM : 0 ≤ M) (h : selP f M n) (hs : sP f f' M n a b c d) (ha : 0 ≤ a ∧ a ≤ 3) (hd : c = 1 → 0 ≤ d ∧ d ≤ 3) : selP f' M (n + 1) := by
  intro k hk hl
  by_cases q : k = n
  · subst q; rw [hs.2.1, hs.2.2.2.1, hs.2.2.2.2]; exact ⟨ha.1, ha.2, hd⟩
  · rw [sP_old hs hM hk (by omega) (by decide), sP_old hs hM hk (by omega) (by decide), sP_old hs hM hk (by omega) (by decide)]; exact h k hk (by omega)
theorem joinP_step {f f' : Nat → Int32} {M n a b c d : Int} (hM : 0 ≤ M) (h : joinP f M n) (hs : sP f f' M n a b c d) (ha : 0 ≤ a ∧ a ≤ 3) (hb : 0 ≤ b ∧ b ≤ 3) : joinP f' M (n + 1) := by
  intro k hk hl
  by_cases q : k = n
  · subst q; rw [hs.2.1, hs.2.2.1]; exact ⟨ha.1, ha.2, hb⟩
  · rw [sP_old hs hM hk (by omega) (by decide), sP_old hs hM hk (by omega) (by decide)]; exact h k hk (by omega)
theorem grpP_step {f f' : Nat → Int32} {M n a b c d : Int} (hM : 0 ≤ M) (h : grpP f M n) (hs : sP f f' M n a b c d) (ha : 0 ≤ a ∧ a ≤ 3) : grpP f' M (n + 1) := by
  intro k hk hl
  by_cases q : k = n
  · subst q; rw [hs.2.1]; exact ha
  · rw [sP_old hs hM hk (by omega) (by decide)]; exact h k hk (by omega)
theorem termP_step {f f' : Nat → Int32} {M fm n a b c d : Int} (hM : 0 ≤ M) (hfm : 0 ≤ fm) (h : termP f M fm n) (hs : sP f f' M (fm + n) a b c d) (ha : a ≤ 3) : termP f' M fm (n + 1) := by
  intro k hk hl
  by_cases q : k = n
  · subst q; rw [hs.2.1]; exact ha
  · rw [sP_old hs hM (by omega) (by omega) (by decide)]; exact h k hk (by omega)
theorem trF_step {f f' f'' : Nat → Int32} {M fm n a b c d : Int} (h : trF f f' M fm) (hn : 0 ≤ n ∧ n ≤ 3) (hs : sP f' f'' M (fm + n) a b c d) : trF f f'' M fm := fun z hz hl => (hs.1 z hz (by omega)).trans (h z hz hl)
theorem trF_r {f : Nat → Int32} {M fm : Int} : trF f f M fm := fun _ _ _ => rfl
theorem row_mk {f f' : Nat → Int32} {M kd cl one oth ps : Int} (hM : 0 ≤ M) (h : hP f f' M kd cl one oth ps) (hk : 0 ≤ kd ∧ kd ≤ 8) (hc : 1 ≤ cl ∧ cl ≤ 4) (h1 : kd ≠ 0 → 0 ≤ one ∧ one < M ∧ -1 ≤ oth ∧ oth < M) (hp : 0 ≤ ps ∧ ps ≤ 8)
    (h0 : kd = 0 → 0 < M → tI f (40 * (M - 1)) = 0) (c1 : kd = 1 → selP f M ps) (c2 : kd = 2 → ps ≤ 4 ∧ termP f M 0 ps)
    (c3 : kd = 3 → 0 ≤ oth ∧ ps ≤ 4 ∧ joinP f M ps ∧ tI f (40 * one + 1) + mCnt (tI f' (40 * M + 5)) (tI f (40 * oth + 1)).toNat ≤ 4)
    (c4 : kd = 4 ∨ kd = 5 → 0 ≤ oth) (c7 : kd = 7 → ps ≤ 3 ∧ grpP f M (ps + 1))
    (c8 : kd = 8 → 0 ≤ oth ∧ ps ≤ 4 ∧ 0 ≤ mP f M 0 0 ∧ mP f M 0 0 ≤ 3 ∧ 0 ≤ mP f M 0 1 ∧ mP f M 0 1 ≤ 3 ∧ termP f M 1 ps ∧ ps = tI f (40 * one + 1)) : rowOK f' M := by
  obtain ⟨hf, q0, q1, q2, q3, q4⟩ := h
  have ep : ∀ k w : Int, 0 ≤ k → 0 ≤ w → mP f' M k w = mP f M k w := fun k w _ _ => hf _ (by omega) (by omega)
  unfold rowOK
  rw [q0, q1, q2, q3, q4]
  refine ⟨⟨hk.1, hk.2, hc.1, hc.2⟩, h1, hp, fun a b => by rw [hf _ (by omega) (by omega)]; exact h0 a b, fun a k b c => ?_, fun a => ⟨(c2 a).1, fun k b c => ?_⟩, fun a => ?_, c4, fun a => ?_, fun a => ?_⟩
  · rw [ep k 0 b (by decide), ep k 2 b (by decide), ep k 3 b (by decide)]; exact c1 a k b c
  · rw [ep k 0 b (by decide)]; have := (c2 a).2 k b c; rwa [Int.zero_add] at this
  · obtain ⟨x1, x2, x3, x4⟩ := c3 a
    have y := h1 (by omega)
    refine ⟨x1, x2, fun k b c => ?_, ?_⟩
    · rw [ep k 0 b (by decide), ep k 1 b (by decide)]; exact x3 k b c
    · rw [hf (40 * one + 1) (by omega) (by omega), hf (40 * oth + 1) (by omega) (by omega)]; exact x4
  · obtain ⟨x1, x2⟩ := c7 a
    refine ⟨x1, fun k b c => ?_, ?_⟩
    · rw [ep k 0 b (by decide)]; exact x2 k b (by omega)
    · rw [ep ps 0 hp.1 (by decide)]; exact x2 ps hp.1 (by omega)
  · obtain ⟨x1, x2, x3, x4, x5, x6, x7, x8⟩ := c8 a
    have y := h1 (by omega)
    rw [ep 0 0 (by decide) (by decide), ep 0 1 (by decide) (by decide), hf (40 * one + 1) (by omega) (by omega)]
    exact ⟨x1, x2, x3, x4, x5, x6, fun k b c => by rw [ep (1 + k) 0 (by omega) (by decide)]; exact x7 k b c, x8⟩
theorem mCol {g : gG} {gh : gGh} {R : gR} {I AI : gI} {m : Nat} (hv : mInv g gh R I AI) (hm : gO g m 7) {z : Int} (h0 : 0 ≤ z) (h1 : z < (I m 5).toInt) : 1 ≤ tI (AI (gh 53 0)) (40 * z + 1) ∧ tI (AI (gh 53 0)) (40 * z + 1) ≤ 4 := by
  have h := (mRead hv hm h0 h1).1
  omega
theorem named_step {f : Nat → Int64} {k : Int} {w : Int64} (h : ∀ j : Int, 0 ≤ j → j < k → f j.toNat ≠ w) (hk : f k.toNat ≠ w) : ∀ j : Int, 0 ≤ j → j < k + 1 → f j.toNat ≠ w := fun j h0 h1 => by
  by_cases q : j = k
  · subst q; exact hk
  · exact h j h0 (by omega)
theorem mP5_0 {g : gG} {gh : gGh} {R : gR} {I AI : gI} {m : Nat} (hv : mInv g gh R I AI) (hm : gO g m 7) : mInv g gh R (gup2 I m 5 (iI 0)) AI := by
  refine ⟨hv.1, fun b hb => ?_, fun b c hb hc => (gup2_o hm hb hc).trans (hv.2.2.1 b c hb hc), hv.2.2.2⟩
  have e := mOne hv hm hb
  subst e
  obtain ⟨q, q1, q2, q3, q4⟩ := hv.2.1 b hb
  refine ⟨?_, q1, q2, ?_, ?_⟩
  · unfold mNum at q ⊢
    rw [gup2_k (j := 2) (k := 5) _ _ (by decide), gup2_k (j := 8) (k := 5) _ _ (by decide), gup2_k (j := 14) (k := 5) _ _ (by decide), gup2_k (j := 16) (k := 5) _ _ (by decide), gup2_k (j := 18) (k := 5) _ _ (by decide), gup2_k (j := 19) (k := 5) _ _ (by decide), gup2_k (j := 20) (k := 5) _ _ (by decide), gup2_k (j := 21) (k := 5) _ _ (by decide), gup2_k (j := 23) (k := 5) _ _ (by decide), gup2_k (j := 24) (k := 5) _ _ (by decide), gup2_k (j := 26) (k := 5) _ _ (by decide), gup2_s, iI_val ⟨by omega, by omega⟩]
    omega
  · rw [gup2_k (j := 2) (k := 5) _ _ (by decide)]; exact q3
  · intro r h0 h1
    rw [gup2_s, iI_val ⟨by omega, by omega⟩] at h1
    exact absurd h1 (by omega)
theorem mP5 {g : gG} {gh : gGh} {R : gR} {I AI : gI} {m : Nat} {z : Int} (hv : mInv g gh R I AI) (hm : gO g m 7) (hz : z = (I m 5).toInt + 1) (hl : z ≤ 16) (hr : rowOK (AI (gh 53 0)) (I m 5).toInt) : mInv g gh R (gup2 I m 5 (iI z)) AI := by
  refine ⟨hv.1, fun b hb => ?_, fun b c hb hc => (gup2_o hm hb hc).trans (hv.2.2.1 b c hb hc), hv.2.2.2⟩
  have e := mOne hv hm hb
  subst e
  obtain ⟨q, q1, q2, q3, q4⟩ := hv.2.1 b hb
  have q0 := q
  unfold mNum at q0
  refine ⟨?_, q1, q2, ?_, ?_⟩
  · unfold mNum
    rw [gup2_k (j := 2) (k := 5) _ _ (by decide), gup2_k (j := 8) (k := 5) _ _ (by decide), gup2_k (j := 14) (k := 5) _ _ (by decide), gup2_k (j := 16) (k := 5) _ _ (by decide), gup2_k (j := 18) (k := 5) _ _ (by decide), gup2_k (j := 19) (k := 5) _ _ (by decide), gup2_k (j := 20) (k := 5) _ _ (by decide), gup2_k (j := 21) (k := 5) _ _ (by decide), gup2_k (j := 23) (k := 5) _ _ (by decide), gup2_k (j := 24) (k := 5) _ _ (by decide), gup2_k (j := 26) (k := 5) _ _ (by decide), gup2_s, iI_val ⟨by omega, by omega⟩]
    omega
  · rw [gup2_k (j := 2) (k := 5) _ _ (by decide)]; exact q3
  · intro r h0 h1
    rw [gup2_s, iI_val ⟨by omega, by omega⟩] at h1
    by_cases e : r = (I b 5).toInt
    · rw [e]; exact hr
    · exact q4 r h0 (by omega)
/-- no relation told: told may be written -/
theorem mP2_0 {g : gG} {gh : gGh} {R : gR} {I AI : gI} {m : Nat} (hv : mInv g gh R I AI) (hm : gO g m 7) : mInv g gh R (gup2 I m 2 (iI 0)) AI := by
  refine ⟨hv.1, fun b hb => ?_, fun b c hb hc => (gup2_o hm hb hc).trans (hv.2.2.1 b c hb hc), hv.2.2.2⟩
  have e := mOne hv hm hb
  subst e
  obtain ⟨q, q1, q2, q3, q4⟩ := hv.2.1 b hb
  refine ⟨?_, q1, q2, ?_, ?_⟩
  · unfold mNum at q ⊢
    rw [gup2_k (j := 5) (k := 2) _ _ (by decide), gup2_k (j := 8) (k := 2) _ _ (by decide), gup2_k (j := 14) (k := 2) _ _ (by decide), gup2_k (j := 16) (k := 2) _ _ (by decide), gup2_k (j := 18) (k := 2) _ _ (by decide), gup2_k (j := 19) (k := 2) _ _ (by decide), gup2_k (j := 20) (k := 2) _ _ (by decide), gup2_k (j := 21) (k := 2) _ _ (by decide), gup2_k (j := 23) (k := 2) _ _ (by decide), gup2_k (j := 24) (k := 2) _ _ (by decide), gup2_k (j := 26) (k := 2) _ _ (by decide), gup2_s, iI_val ⟨by omega, by omega⟩]
    omega
  · intro r h0 h1
    rw [gup2_s, iI_val ⟨by omega, by omega⟩] at h1
    exact absurd h1 (by omega)
  · rw [gup2_k (j := 5) (k := 2) _ _ (by decide)]; exact q4
theorem mInv_told0 {g : gG} {gh : gGh} {R : gR} {I AI AI' : gI} {m z : Nat} {v : Int32} (hv : mInv g gh R I AI) (hm : gO g m 7) (h0 : (I m 2).toInt = 0) (e : AI' = gup2 AI (gh 50 0) z v) : mInv g gh R I AI' := by
  have hr := (hv.1 m hm).2.1 (0, 640) (by decide)
  have h10 : gh 10 (gh 50 0) = 0 := hr.2.2.2
  have e' : ∀ b, b ≠ gh 50 0 → AI' b = AI b := fun b hb => by rw [e]; exact funext fun j => gup2_a _ _ hb
  have s : ∀ p ∈ mTab, p.1 ≠ 0 → AI' (gh (50 + p.1) 0) = AI (gh (50 + p.1) 0) := fun p hp hne => e' _ (fun z => hne (by have := ((hv.1 m hm).2.1 p hp).2.2.2; rw [z, h10] at this; exact this.symm))
  refine ⟨hv.1, fun b hb => ⟨(hv.2.1 b hb).1, ?_⟩, hv.2.2.1, fun b hb => (e' b (fun z => hb (by rw [z]; exact hr.2.2.1 (by decide) (by decide) (by decide) (by decide)))).trans (hv.2.2.2 b hb)⟩
  have hbm := mOne hv hm hb
  subst hbm
  have q := (hv.2.1 b hb).2
  unfold mCon
  have s7 : AI' (gh 57 0) = AI (gh 57 0) := s (7, 176) (by decide) (by decide)
  have s11 : AI' (gh 61 0) = AI (gh 61 0) := s (11, 41) (by decide) (by decide)
  have s3 : AI' (gh 53 0) = AI (gh 53 0) := s (3, 640) (by decide) (by decide)
  rw [s7, s11, s3]
  exact ⟨q.1, q.2.1, fun r h1 h2 => absurd h2 (by omega), q.2.2.2⟩
theorem mPlan {g : gG} {gh : gGh} {R : gR} {I I' Iv AI : gI} {m : Nat} {M : Int} (hv : mInv g gh R Iv AI) (hm : gO g m 7) (hN : mNum (I m)) (eIv : Iv = gup2 I m 2 (iI 0)) (hM : M = (I m 5).toInt)
    (ef : I' = gup2 (gup2 (gup2 (gup2 (gup2 I m 2 (iI M)) m 8 (iI 0)) m 9 (iI 0)) m 10 (iI 0)) m 14 (iI 0)) (hr : ∀ r : Int, 0 ≤ r → r < M → rowOK (AI (gh 50 0)) r) : mInv g gh R I' AI ∧ (I' m 16).toInt = (I m 16).toInt := by
  have e : ∀ j, j ≠ 2 → j ≠ 8 → j ≠ 9 → j ≠ 10 → j ≠ 14 → I' m j = I m j := fun j a b c d q => by rw [ef, gup2_k _ _ q, gup2_k _ _ d, gup2_k _ _ c, gup2_k _ _ b, gup2_k _ _ a]
  have e14 : (I' m 14).toInt = 0 := by rw [ef, gup2_s]; exact iI_val ⟨by omega, by omega⟩
  have e8 : (I' m 8).toInt = 0 := by rw [ef, gup2_k (j := 8) (k := 14) _ _ (by decide), gup2_k (j := 8) (k := 10) _ _ (by decide), gup2_k (j := 8) (k := 9) _ _ (by decide), gup2_s]; exact iI_val ⟨by omega, by omega⟩
  have h0 := hN
  unfold mNum at h0
  have e2 : (I' m 2).toInt = M := by rw [ef, gup2_k (j := 2) (k := 14) _ _ (by decide), gup2_k (j := 2) (k := 10) _ _ (by decide), gup2_k (j := 2) (k := 9) _ _ (by decide), gup2_k (j := 2) (k := 8) _ _ (by decide), gup2_s]; exact iI_val ⟨by omega, by omega⟩
  refine ⟨⟨hv.1, fun b hb => ?_, fun b c hb hc => ?_, hv.2.2.2⟩, by rw [e 16 (by decide) (by decide) (by decide) (by decide) (by decide)]⟩
  · have q := mOne hv hm hb
    subst q
    obtain ⟨_, q1, q2, q3, q4⟩ := hv.2.1 b hb
    refine ⟨?_, q1, q2, ?_, ?_⟩
    · unfold mNum
      rw [e2, e8, e14, e 5 (by decide) (by decide) (by decide) (by decide) (by decide), e 16 (by decide) (by decide) (by decide) (by decide) (by decide), e 18 (by decide) (by decide) (by decide) (by decide) (by decide), e 19 (by decide) (by decide) (by decide) (by decide) (by decide), e 20 (by decide) (by decide) (by decide) (by decide) (by decide), e 21 (by decide) (by decide) (by decide) (by decide) (by decide), e 23 (by decide) (by decide) (by decide) (by decide) (by decide), e 24 (by decide) (by decide) (by decide) (by decide) (by decide), e 26 (by decide) (by decide) (by decide) (by decide) (by decide)]
      omega
    · rw [e2]; exact hr
    · rw [e 5 (by decide) (by decide) (by decide) (by decide) (by decide)]
      rw [eIv, gup2_k (j := 5) (k := 2) _ _ (by decide)] at q4
      exact q4
  · have q := hv.2.2.1 b c hb hc
    rw [eIv] at q
    have q' := (gup2_o (k := 2) (v := iI 0) (I := I) hm hb hc).symm.trans q
    rw [ef, gup2_o hm hb hc, gup2_o hm hb hc, gup2_o hm hb hc, gup2_o hm hb hc, gup2_o hm hb hc]
    exact q'
theorem mCnt_u {x : Int} {a : Nat} : mCnt x a ≤ a := by
  induction a with
  | zero => exact Int.le_refl _
  | succ n ih => rw [mCnt]; split <;> omega
