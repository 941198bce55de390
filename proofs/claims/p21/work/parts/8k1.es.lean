section
/-! the engine's state on both sides, as the law keeps it: a side is its relations and the rounds of its rings -/
abbrev SR8 : Type := Nat → (Nat × (Nat → Int32)) × Int32
def sF8 (s : SR8) : RF := fun r => (s r).1
def sM8 (s : SR8) : Nat → Int32 := fun r => (s r).2
def oS8 (F : RF) (r : Nat) : Tup → Int32 := fun t => bS (F r).2 (F r).1 t
def rG8 (tbs : Int) (cl : Nat → Int) (f : Nat → Int32) (i : Nat) : Prop := f (6 * i + 5) ≠ 0 ∧ zT (cl (f (6 * i)).toInt.toNat) (btu f i) ∧ 0 ≤ (f (6 * i)).toInt ∧ (f (6 * i)).toInt < tbs
/-- a batch -/
def bG8 (tbs : Int) (cl : Nat → Int) (f : Nat → Int32) (n : Nat) : Prop := srt 5 f (n : Int) ∧ ∀ i, i < n → rG8 tbs cl f i
/-- good relations: tables never below 0, views as reckoned -/
def gF8 (tbs : Int) (cc : Nat → LC) (cl : Nat → Int) (nr : Nat) (F : RF) : Prop := stA tbs cc (oS8 F) cl F nr ∧ ∀ r : Nat, (r : Int) < tbs → ∀ t, 0 ≤ (oS8 F r t).toInt
def gd8 (tbs : Int) (cc : Nat → LC) (cl : Nat → Int) (nr : Nat) (s : SR8) : Prop := gF8 tbs cc cl nr (sF8 s) ∧ rdA tbs cc (sF8 s) (sM8 s) nr
/-- a batch leads from one to the next -/
def st8 (tbs : Int) (cl : Nat → Int) (F F' : RF) (h : Nat × (Nat → Int32)) : Prop := bG8 tbs cl h.2 h.1 ∧ ∀ r : Nat, (r : Int) < tbs → ∀ t, oS8 F' r t = oS8 F r t + cS h.2 (r : Int) h.1 t
def nx8 (S : Int → SR8) (u k : Int) : SR8 := if k + 1 = u then S 0 else S (2 + k)
def eS8 (tbs : Int) (nr : Nat) (cc : Nat → LC) (cl : Nat → Int) (N H : RF) (S : Int → SR8) (e u : Int) : Prop :=
  ((0 ≤ e ∧ e < 8) ∧ 0 ≤ u ∧ u ≤ 8) ∧ (∀ r, r < nr → rfA N (sF8 (S 0)) r) ∧ gd8 tbs cc cl nr (S 0) ∧
  ∀ k : Int, 0 ≤ k → k < u → gd8 tbs cc cl nr (S (1 + k)) ∧ st8 tbs cl (sF8 (S (1 + k))) (sF8 (nx8 S u k)) (H ((e + 8 - u + k) % 8).toNat)
section ES8
variable {tbs sg : Int} {nr n nb q r : Nat} {cc : Nat → LC} {cl : Nat → Int} {F F' N N' H H' F0 F1 : RF} {S S' : Int → SR8} {s s' : SR8} {e u e' u' z z' : Int} {f f' : Nat → Int32} {T T' : Nat → Tup → Int32} {bl bl' : Prop} {h h' : Nat × (Nat → Int32)} {t : Tup}
/-! batches -/
theorem bG_o (h : bG8 tbs cl f n) : btO f n := ⟨h.1, fun i hi => (h.2 i hi).1⟩
theorem bG_z (h : bG8 tbs cl f n) : btZ cl f n := fun i hi => (h.2 i hi).2.1
theorem bG_t (h : bG8 tbs cl f n) : ∀ i, i < n → 0 ≤ (f (6 * i)).toInt ∧ (f (6 * i)).toInt < tbs := fun i hi => (h.2 i hi).2.2
theorem bG_0 : bG8 tbs cl f 0 := ⟨fun i j _ hj => absurd hj (by omega), fun i hi => absurd hi (Nat.not_lt_zero i)⟩
theorem rG_m {i i' : Nat} (h : rG8 tbs cl f i) (a : ∀ t, t < 6 → f' (6 * i' + t) = f (6 * i + t)) : rG8 tbs cl f' i' := by
  have e : btu f' i' = btu f i := by unfold btu; rw [a 1 (by omega), a 2 (by omega), a 3 (by omega), a 4 (by omega)]
  have e0 : f' (6 * i') = f (6 * i) := a 0 (by omega)
  unfold rG8
  rw [a 5 (by omega), e, e0]; exact h
theorem srt_c {K : Nat} (hK : K ≤ 6) (h : srt K f (n : Int)) (e : ∀ j, j < 6 * n → f' j = f j) : srt K f' (n : Int) := fun i j hij hj => by
  have a : ∀ i, i < n → ∀ t, t < K → ry6 f' i t = ry6 f i t := fun i hi t ht => by rw [ry6_e, ry6_e, e _ (by omega)]
  rw [kc_c (a i (by omega)) (a j (by omega))]
  exact h i j hij hj
theorem bG_c (h : bG8 tbs cl f n) (e : ∀ j, j < 6 * n → f' j = f j) : bG8 tbs cl f' n := ⟨srt_c (by decide) h.1 e, fun i hi => rG_m (h.2 i hi) (fun t ht => e _ (by omega))⟩
theorem ch_G {u : Nat → Int} {tb n z len len1 a b c d : Int} (hcl : ∀ r : Nat, (r : Int) < tbs → 1 ≤ cl r) (h0 : 0 ≤ len) (hG : ∀ i : Nat, (i : Int) < len → rG8 tbs cl f i) (eu : 0 ≤ tb → tb < tbs → u = cky tb a b c d (cl tb.toNat)) (q : chP tbs tb n z len len1 f f' u) : ∀ i : Nat, (i : Int) < len1 → rG8 tbs cl f' i := by
  rcases q with ⟨_, _, a3, a4⟩ | ⟨q1, zz, q2, _⟩
  · rw [a3, a4]; exact hG
  · have eu := eu q1.1 q1.2.1
    rcases q2 with ⟨p, c1, c2, c3⟩ | ⟨r, c1, c2, c3, c4⟩
    · rcases c3 with ⟨y1, _⟩ | ⟨_, _, _, y4, y5⟩ | ⟨y1, y2, y3, y4, y5⟩
      · exact absurd y1 (by omega)
      · rw [y4, y5]; exact hG
      · have hp : p ≤ len := by
          rcases c1 with ⟨x1, _⟩ | ⟨x1, x2, _⟩ <;> omega
        obtain ⟨i1, i2, i3, -, i5⟩ := y5
        intro i hi
        by_cases w : (i : Int) < p
        · exact rG_m (hG i (by omega)) (fun t ht => i1 _ (by omega))
        · by_cases v : (i : Int) = p
          · have e0 : (f' (6 * i)).toInt = tb := by
              have k := i2 0 (by omega)
              rw [eu, show (6 * p).toNat + 0 = 6 * i by omega] at k; exact k
            have ek : ∀ k, k < 4 → (tg (btu f' i) k).toInt = u (1 + k) := fun k hk => by
              have m := i2 (1 + k) (by omega)
              rw [btu_at hk, ← m, show (6 * p).toNat + (1 + k) = 6 * i + 1 + k by omega]
            refine ⟨?_, ?_, by omega, by omega⟩
            · rw [show 6 * i + 5 = (6 * p).toNat + 5 by omega, i3]
              intro k
              have k1 := congrArg Int32.toInt k
              rw [iI_val ⟨by omega, by omega⟩] at k1
              exact y1 k1
            · intro k h1 h2
              rw [e0] at h1
              have hc := hcl tb.toNat (by omega)
              apply Int32.toInt_inj.mp
              rw [ek k h2, eu]
              match k, h1, h2 with
              | 0, h1, _ => exact absurd h1 (by omega)
              | 1, h1, _ => show (if 1 < cl tb.toNat then b else 0) = 0; exact if_neg (by omega)
              | 2, h1, _ => show (if 2 < cl tb.toNat then c else 0) = 0; exact if_neg (by omega)
              | 3, h1, _ => show (if 3 < cl tb.toNat then d else 0) = 0; exact if_neg (by omega)
              | k + 4, _, h2 => exact absurd h2 (by omega)
          · obtain ⟨k, rfl⟩ : ∃ k, i = k + 1 := ⟨i - 1, by omega⟩
            exact rG_m (hG k (by omega)) (fun t ht => by rw [← i5 (6 * k + t) (by omega) (by omega), show 6 * (k + 1) + t = 6 * k + t + 6 by omega])
    · have hr : r < len := by
        rcases c1 with ⟨_, x, _⟩ | ⟨x, _⟩ <;> omega
      rcases c4 with ⟨_, y2, y3⟩ | ⟨y1, y2, y3⟩
      · rw [y2]
        intro i hi
        by_cases w : (i : Int) < r
        · exact rG_m (hG i (by omega)) (fun t ht => y3.1 _ (by omega))
        · exact rG_m (hG (i + 1) (by omega)) (fun t ht => by rw [y3.2 _ (by omega) (by omega), show 6 * i + t + 6 = 6 * (i + 1) + t by omega])
      · rw [y2]
        intro i hi
        by_cases w : (i : Int) = r
        · have g := hG i hi
          have e5 : f' (6 * i + 5) = iI ((f ((6 * r).toNat + 5)).toInt + n) := by rw [← y3.2, show 6 * i + 5 = (6 * r).toNat + 5 by omega]
          have eo : ∀ j, j ≠ 6 * i + 5 → f' j = f j := fun j hj => y3.1 j (by omega)
          have eb : btu f' i = btu f i := by unfold btu; rw [eo _ (by omega), eo _ (by omega), eo _ (by omega), eo _ (by omega)]
          refine ⟨by rw [e5]; exact y1, ?_⟩
          rw [eb, eo (6 * i) (by omega)]
          exact g.2
        · exact rG_m (hG i hi) (fun t ht => y3.1 _ (by omega))
/-! sums -/
theorem i1_m (x : Int32) : iI 1 * x = x := by rw [show (iI 1 : Int32) = 1 from rfl, Int32.one_mul]
theorem in_m (x : Int32) : iI (-1) * x = -x := by
  rw [show (iI (-1) : Int32) = -1 from by decide, Int32.neg_mul, Int32.one_mul]
theorem oS_c (h : rfA F F' r) : oS8 F r = oS8 F' r := funext fun t => by unfold oS8; rw [← h.1]; exact bS_c _ h.2
theorem tb_1 : tbS f n F 1 r = fun t => oS8 F r t + cS f (r : Int) n t := funext fun t => by
  show oS8 F r t + iI 1 * _ = _
  rw [i1_m]
theorem tb_m : tbS f n F (-1) r = fun t => oS8 F r t - cS f (r : Int) n t := funext fun t => by
  show oS8 F r t + iI (-1) * _ = _
  rw [in_m, Int32.sub_eq_add_neg]
theorem tb_c (h : rfA F F' r) : tbS f n F sg r = tbS f n F' sg r := funext fun t => by
  show oS8 F r t + _ = oS8 F' r t + _
  rw [oS_c h]
theorem bl_at {i : Nat} : blw f F sg i ↔ (oS8 F (f (6 * i)).toInt.toNat (btu f i) + iI sg * f (6 * i + 5)).toInt < 0 := Iff.rfl
theorem bl_c (hG : bG8 tbs cl f n) (ht : tbs ≤ (nr : Int)) (h : ∀ r, r < nr → rfA F F' r) : (∃ i, i < n ∧ blw f F sg i) ↔ ∃ i, i < n ∧ blw f F' sg i := by
  have k : ∀ i, i < n → (blw f F sg i ↔ blw f F' sg i) := fun i hi => by
    have w := (hG.2 i hi).2.2
    rw [bl_at, bl_at, oS_c (h _ (by omega))]
  exact ⟨fun ⟨i, a, b⟩ => ⟨i, a, (k i a).mp b⟩, fun ⟨i, a, b⟩ => ⟨i, a, (k i a).mpr b⟩⟩
theorem cS_i (hG : bG8 tbs cl f n) {i : Nat} (hi : i < n) : cS f (((f (6 * i)).toInt.toNat : Nat) : Int) n (btu f i) = f (6 * i + 5) := by
  have w := (hG.2 i hi).2.2
  exact cS_y hG.1 n (Nat.le_refl _) hi (by omega)
theorem bl_no (hG : bG8 tbs cl f n) (h : ¬ ∃ i, i < n ∧ blw f F 1 i) (h0 : 0 ≤ (oS8 F r t).toInt) : 0 ≤ (oS8 F r t + cS f (r : Int) n t).toInt := by
  by_cases w : ∃ i, i < n ∧ (f (6 * i)).toInt = (r : Int) ∧ btu f i = t
  · obtain ⟨i, a, b, c⟩ := w
    have k : ¬ blw f F 1 i := fun k => h ⟨i, a, k⟩
    have q := (hG.2 i a).2.2
    rw [bl_at, show (f (6 * i)).toInt.toNat = r by omega, c, i1_m] at k
    have y := cS_y hG.1 n (Nat.le_refl _) a b
    rw [c] at y
    rw [y]; omega
  · rw [cS_n n (fun j hj k => w ⟨j, hj, k⟩), Int32.add_zero]; exact h0
/-! congruence -/
theorem stP_T (e : (q : Int) < tbs → T' q = T q) (h : stP tbs cc T F q) : stP tbs cc T' F q := by
  unfold stP at h ⊢
  by_cases w : (q : Int) < tbs
  · rw [if_pos w] at h ⊢; rw [e w]; exact h
  · rw [if_neg w] at h ⊢; exact h
theorem stF_T (e : (q : Int) < tbs → T' q = T q) (h : stF tbs cc T F q z) : stF tbs cc T' F q z := by
  unfold stF at h ⊢
  by_cases w : (q : Int) < tbs
  · rw [if_pos w] at h ⊢; rw [e w]; exact h
  · rw [if_neg w] at h ⊢; exact h
theorem stA_T (e : ∀ q, q < nr → (q : Int) < tbs → T' q = T q) (h : stA tbs cc T cl F nr) : stA tbs cc T' cl F nr := fun q hq => ⟨stP_T (e q hq) (h q hq).1, (h q hq).2⟩
theorem rnP_T (hb : bl' ↔ bl) (e : ∀ q, q < nr → (q : Int) < tbs → T' q = T q) (h : rnP tbs nr cc bl T z F) : rnP tbs nr cc bl' T' z F := by
  rcases h with ⟨a, b⟩ | ⟨a, r, h1, h2, h3⟩
  · exact Or.inl ⟨hb.mpr a, b⟩
  · refine Or.inr ⟨fun k => a (hb.mp k), r, h1, fun q hq => stP_T (e q (by omega)) (h2 q hq), ?_⟩
    rcases h3 with h3 | ⟨a, b⟩
    · exact Or.inl h3
    · exact Or.inr ⟨a, stF_T (e r a) b⟩
theorem rn_all (h : rnP tbs nr cc bl T 0 F) : ¬ bl ∧ ∀ q, q < nr → stP tbs cc T F q := by
  rcases h with ⟨_, b⟩ | ⟨a, r, h1, h2, h3⟩
  · exact absurd b (by decide)
  · rcases h3 with ⟨rfl, _⟩ | ⟨h4, h5⟩
    · exact ⟨a, h2⟩
    · unfold stF at h5
      by_cases w : (r : Int) < tbs
      · rw [if_pos w] at h5; exact absurd h5.1 (by decide)
      · rw [if_neg w] at h5; exact absurd rfl h5.1
theorem rn_of (hb : ¬ bl) (h : ∀ q, q < nr → stP tbs cc T F q) : rnP tbs nr cc bl T 0 F := Or.inr ⟨hb, nr, Nat.le_refl _, h, Or.inl ⟨rfl, rfl⟩⟩
theorem st_tbS (h : stP tbs cc T F q) (hq : (q : Int) < tbs) : oS8 F q = T q := by
  unfold stP at h
  rw [if_pos hq] at h
  exact bS_B h.1
theorem oS_e (e : F' r = F r) : oS8 F' r = oS8 F r := by unfold oS8; rw [e]
theorem gF8_c (hl : cLt tbs nr cc) (ht : tbs ≤ (nr : Int)) (e : ∀ r, r < nr → F' r = F r) (h : gF8 tbs cc cl nr F) : gF8 tbs cc cl nr F' :=
  ⟨stA_T (fun q hq _ => oS_e (e q hq)) (st_up hl (Nat.le_refl _) e h.1), fun r hr t => by rw [oS_e (e r (by omega))]; exact h.2 r hr t⟩
theorem gd_c (hl : cLt tbs nr cc) (ht : tbs ≤ (nr : Int)) (h16 : nr ≤ 16) (e : ∀ r, r < 16 → s' r = s r) (h : gd8 tbs cc cl nr s) : gd8 tbs cc cl nr s' :=
  ⟨gF8_c hl ht (fun r hr => congrArg Prod.fst (e r (by omega))) h.1, rd_up hl (Nat.le_refl _) (fun q hq => congrArg Prod.fst (e q (by omega))) (fun q hq => congrArg Prod.snd (e q (by omega))) h.2⟩
theorem st_c (ht : tbs ≤ (nr : Int)) (h16 : nr ≤ 16) (e0 : ∀ r, r < 16 → F r = N r) (e1 : ∀ r, r < 16 → F' r = N' r) (eh : h'.1 = h.1 ∧ ∀ j, j < 6 * h.1 → h'.2 j = h.2 j) (k : st8 tbs cl N N' h) : st8 tbs cl F F' h' := by
  refine ⟨by rw [eh.1]; exact bG_c k.1 eh.2, fun r hr t => ?_⟩
  rw [oS_e (e0 r (by omega)), oS_e (e1 r (by omega)), eh.1, cS_c _ eh.2]
  exact k.2 r hr t
def sE8 (s' s : SR8) : Prop := ∀ r, r < 16 → s' r = s r
def hE8 (h' h : Nat × (Nat → Int32)) : Prop := h'.1 = h.1 ∧ ∀ j, j < 6 * h.1 → h'.2 j = h.2 j
theorem hE_r : hE8 h h := ⟨rfl, fun _ _ => rfl⟩
theorem sE_f (h : sE8 s' s) : ∀ r, r < 16 → sF8 s' r = sF8 s r := fun r hr => congrArg Prod.fst (h r hr)
/-- nothing of it has changed -/
theorem eS_c (hl : cLt tbs nr cc) (ht : tbs ≤ (nr : Int)) (h16 : nr ≤ 16) (h : eS8 tbs nr cc cl N H S e u) (eN : ∀ r, r < nr → N' r = N r) (eH : ∀ k, k < 8 → H' k = H k) (eS : ∀ sd : Int, 0 ≤ sd → sd ≤ 8 → sE8 (S' sd) (S sd)) (ee : e' = e) (eu : u' = u) : eS8 tbs nr cc cl N' H' S' e' u' := by
  subst ee eu
  obtain ⟨h1, h2, h3, h4⟩ := h
  have e0 := eS 0 (by decide) (by decide)
  refine ⟨h1, fun r hr => ?_, gd_c hl ht h16 e0 h3, fun k k0 k1 => ?_⟩
  · have w := h2 r hr
    unfold rfA at w ⊢
    rw [eN r hr, sE_f e0 r (by omega)]; exact w
  · have w := h4 k k0 k1
    refine ⟨gd_c hl ht h16 (eS _ (by omega) (by omega)) w.1, st_c ht h16 (sE_f (eS _ (by omega) (by omega))) ?_ (by rw [eH _ (by omega)]; exact hE_r) w.2⟩
    unfold nx8
    by_cases v : k + 1 = u'
    · rw [if_pos v, if_pos v]; exact sE_f e0
    · rw [if_neg v, if_neg v]; exact sE_f (eS _ (by omega) (by omega))
/-- what a batch makes of good relations is good -/
theorem cm_gd (hG : bG8 tbs cl f nb) (h0 : gF8 tbs cc cl nr F0) (a : rnP tbs nr cc (∃ i, i < nb ∧ blw f F0 1 i) (tbS f nb F0 1) 0 F1) (b : stA tbs cc (tbS f nb F0 1) cl F1 nr) (ht : tbs ≤ (nr : Int)) : gF8 tbs cc cl nr F1 ∧ ∀ r : Nat, (r : Int) < tbs → ∀ t, oS8 F1 r t = oS8 F0 r t + cS f (r : Int) nb t := by
  have w := rn_all a
  have e : ∀ r : Nat, (r : Int) < tbs → ∀ t, oS8 F1 r t = oS8 F0 r t + cS f (r : Int) nb t := fun r hr t => by
    rw [st_tbS (w.2 r (by omega)) hr, tb_1]
  refine ⟨⟨stA_T (fun q hq hq2 => ?_) b, fun r hr t => ?_⟩, e⟩
  · exact st_tbS (w.2 q hq) hq2
  · rw [e r hr t]; exact bl_no hG w.1 (h0.2 r hr t)
/-- both sides answer alike, and go on alike -/
theorem cm_u (hl : cLt tbs nr cc) (ht : tbs ≤ (nr : Int)) (hG : bG8 tbs cl f nb) (hN : ∀ r, r < nr → rfA N F0 r) (a : rnP tbs nr cc (∃ i, i < nb ∧ blw f N sg i) (tbS f nb N sg) z F) (b : rnP tbs nr cc (∃ i, i < nb ∧ blw f F0 sg i) (tbS f nb F0 sg) z' F') : z = z' ∧ (z = 0 → ∀ q, q < nr → rfA F F' q) :=
  rnP_u hl (rnP_T (bl_c hG ht hN).symm (fun q hq _ => (tb_c (hN q hq)).symm) a) b
/-- a commit that is taken -/
theorem eS_cm (hl : cLt tbs nr cc) (ht : tbs ≤ (nr : Int)) (h16 : nr ≤ 16) (h : eS8 tbs nr cc cl N H S e u) (hG : bG8 tbs cl f nb) {s1 : SR8} (a : rnP tbs nr cc (∃ i, i < nb ∧ blw f N 1 i) (tbS f nb N 1) 0 F) (b : rnP tbs nr cc (∃ i, i < nb ∧ blw f (sF8 (S 0)) 1 i) (tbS f nb (sF8 (S 0)) 1) 0 (sF8 s1)) (c : stA tbs cc (tbS f nb (sF8 (S 0)) 1) cl (sF8 s1) nr) (d : rdA tbs cc (sF8 s1) (sM8 s1) nr)
    (eN : ∀ r, r < nr → N' r = F r) (eH : ∀ k, k < 8 → k ≠ e.toNat → H' k = H k) (eH1 : (H' e.toNat).1 = nb ∧ ∀ j, j < 6 * nb → (H' e.toNat).2 j = f j) (e0 : sE8 (S' 0) s1) (ee : e' = (e + 1) % 8)
    (hb : (u < 8 ∧ u' = u + 1 ∧ (∀ j : Int, 0 ≤ j → j < u → sE8 (S' (1 + j)) (S (1 + j))) ∧ sE8 (S' (1 + u)) (S 0)) ∨ (u = 8 ∧ u' = 8 ∧ (∀ j : Int, 0 ≤ j → j < 7 → sE8 (S' (1 + j)) (S (2 + j))) ∧ sE8 (S' 8) (S 0))) : eS8 tbs nr cc cl N' H' S' e' u' := by
  obtain ⟨h1, h2, h3, h4⟩ := h
  have w := cm_u hl ht hG h2 a b
  have g := cm_gd hG h3.1 b c ht
  have g0 : gd8 tbs cc cl nr (S' 0) := gd_c hl ht h16 e0 ⟨g.1, d⟩
  have stp : st8 tbs cl (sF8 (S 0)) (sF8 (S' 0)) (H' e.toNat) := by
    refine st_c (N := sF8 (S 0)) (N' := sF8 s1) (h := (nb, f)) ht h16 (fun _ _ => rfl) (sE_f e0) eH1 ⟨hG, g.2⟩
  refine ⟨by omega, fun r hr => ?_, g0, fun k k0 k1 => ?_⟩
  · have v := w.2 rfl r hr
    unfold rfA at v ⊢
    rw [eN r hr, sE_f e0 r (by omega)]; exact v
  · rcases hb with ⟨u8, eu, b1, b2⟩ | ⟨u8, eu, b1, b2⟩
    · by_cases v : k < u
      · have p := h4 k k0 v
        refine ⟨gd_c hl ht h16 (b1 k k0 v) p.1, st_c ht h16 (sE_f (b1 k k0 v)) ?_ ?_ p.2⟩
        · unfold nx8
          rw [if_neg (by omega)]
          by_cases y : k + 1 = u
          · rw [if_pos y, show 2 + k = 1 + u by omega]; exact sE_f b2
          · rw [if_neg y, show 2 + k = 1 + (k + 1) by omega]; exact sE_f (b1 _ (by omega) (by omega))
        · rw [show (e' + 8 - u' + k) % 8 = (e + 8 - u + k) % 8 by omega, eH _ (by omega) (by omega)]; exact hE_r
      · have ek : k = u := by omega
        subst ek
        refine ⟨gd_c hl ht h16 b2 h3, ?_⟩
        have y : nx8 S' u' k = S' 0 := if_pos (by omega)
        rw [y, show (e' + 8 - u' + k) % 8 = e by omega]
        exact st_c ht h16 (sE_f b2) (fun _ _ => rfl) hE_r stp
    · by_cases v : k < 7
      · have p := h4 (k + 1) (by omega) (by omega)
        refine ⟨gd_c hl ht h16 (fun r hr => by rw [b1 k k0 v r hr, show 2 + k = 1 + (k + 1) by omega]) p.1, st_c ht h16 (sE_f (fun r hr => by rw [b1 k k0 v r hr, show 2 + k = 1 + (k + 1) by omega])) ?_ ?_ p.2⟩
        · unfold nx8
          rw [if_neg (show ¬ k + 1 = u' by omega)]
          by_cases y : k + 1 + 1 = u
          · rw [if_pos y, show 2 + k = 8 by omega]; exact sE_f b2
          · rw [if_neg y, show 2 + k = 1 + (k + 1) by omega]
            exact sE_f (fun r hr => by rw [b1 (k + 1) (by omega) (by omega) r hr])
        · rw [show (e' + 8 - u' + k) % 8 = (e + 8 - u + (k + 1)) % 8 by omega, eH _ (by omega) (by omega)]; exact hE_r
      · have ek : k = 7 := by omega
        subst ek
        refine ⟨gd_c hl ht h16 b2 h3, ?_⟩
        have y : nx8 S' u' 7 = S' 0 := if_pos (by omega)
        rw [y, show (e' + 8 - u' + 7) % 8 = e by omega]
        exact st_c ht h16 (sE_f b2) (fun _ _ => rfl) hE_r stp
/-- the last step can be taken back -/
theorem eS_un (ht : tbs ≤ (nr : Int)) (h16 : nr ≤ 16) (h : eS8 tbs nr cc cl N H S e u) (hu : 0 < u) (eh : h' = H ((e + 7) % 8).toNat) : bG8 tbs cl h'.2 h'.1 ∧ rnP tbs nr cc (∃ i, i < h'.1 ∧ blw h'.2 N (-1) i) (tbS h'.2 h'.1 N (-1)) 0 (sF8 (S u)) := by
  obtain ⟨h1, h2, h3, h4⟩ := h
  have p := h4 (u - 1) (by omega) (by omega)
  rw [show 1 + (u - 1) = u by omega, show (e + 8 - u + (u - 1)) % 8 = (e + 7) % 8 by omega, ← eh] at p
  have y : nx8 S u (u - 1) = S 0 := if_pos (by omega)
  rw [y] at p
  obtain ⟨⟨g1, g2⟩, g3, g4⟩ := p
  have k : ∀ r : Nat, (r : Int) < tbs → ∀ t, oS8 N r t - cS h'.2 (r : Int) h'.1 t = oS8 (sF8 (S u)) r t := fun r hr t => by
    rw [oS_c (h2 r (by omega)), g4 r hr t, Int32.add_sub_cancel]
  refine ⟨g3, rn_of (fun ⟨i, a, b⟩ => ?_) (fun q hq => stP_T (fun w => ?_) (g1.1 q hq).1)⟩
  · have w := (g3.2 i a).2.2
    have m := g1.2 (h'.2 (6 * i)).toInt.toNat (by omega) (btu h'.2 i)
    rw [bl_at, in_m, ← Int32.sub_eq_add_neg] at b
    have v := k (h'.2 (6 * i)).toInt.toNat (by omega) (btu h'.2 i)
    rw [cS_i g3 a] at v
    rw [v] at b
    omega
  · rw [tb_m]; exact funext fun t => k q w t
/-- it is taken back -/
theorem eS_ud (hl : cLt tbs nr cc) (ht : tbs ≤ (nr : Int)) (h16 : nr ≤ 16) (h : eS8 tbs nr cc cl N H S e u) (hu : 0 < u) (eh : h' = H ((e + 7) % 8).toNat) (a : rnP tbs nr cc (∃ i, i < h'.1 ∧ blw h'.2 N (-1) i) (tbS h'.2 h'.1 N (-1)) 0 F)
    (eN : ∀ r, r < nr → N' r = F r) (eH : ∀ k, k < 8 → H' k = H k) (e0 : sE8 (S' 0) (S u)) (eS : ∀ sd : Int, 1 ≤ sd → sd ≤ 8 → sE8 (S' sd) (S sd)) (ee : e' = (e + 7) % 8) (eu : u' = u - 1) : eS8 tbs nr cc cl N' H' S' e' u' := by
  have b := (eS_un ht h16 h hu eh).2
  have w := (rnP_u hl a b).2 rfl
  obtain ⟨h1, h2, h3, h4⟩ := h
  have p := h4 (u - 1) (by omega) (by omega)
  rw [show 1 + (u - 1) = u by omega] at p
  refine ⟨by omega, fun r hr => ?_, gd_c hl ht h16 e0 p.1, fun k k0 k1 => ?_⟩
  · have v := w r hr
    unfold rfA at v ⊢
    rw [eN r hr, sE_f e0 r (by omega)]; exact v
  · have p := h4 k k0 (by omega)
    refine ⟨gd_c hl ht h16 (eS _ (by omega) (by omega)) p.1, st_c ht h16 (sE_f (eS _ (by omega) (by omega))) ?_ ?_ p.2⟩
    · unfold nx8
      rw [if_neg (show ¬ k + 1 = u by omega)]
      by_cases y : k + 1 = u'
      · rw [if_pos y, show 2 + k = u by omega]; exact sE_f e0
      · rw [if_neg y]; exact sE_f (eS _ (by omega) (by omega))
    · rw [show (e' + 8 - u' + k) % 8 = (e + 8 - u + k) % 8 by omega, eH _ (by omega)]; exact hE_r
/-- nothing asked, nothing changes -/
theorem eS_df (ht : tbs ≤ (nr : Int)) (h : eS8 tbs nr cc cl N H S e u) : rnP tbs nr cc (∃ i, i < 0 ∧ blw f N 1 i) (tbS f 0 N 1) 0 (sF8 (S 0)) := by
  obtain ⟨h1, h2, h3, h4⟩ := h
  refine rn_of (fun ⟨i, a, _⟩ => absurd a (Nat.not_lt_zero i)) (fun q hq => stP_T (fun w => ?_) (h3.1.1 q hq).1)
  rw [tb_1, ← oS_c (h2 q hq)]
  exact funext fun t => Int32.add_zero (oS8 N q t)
/-! all empty -/
theorem is_0 {M : Tup → Int32} {S0 : Tup → Int32} (h : ∀ t, S0 t = 0) : isB f 0 S0 M := isW_0 (fun t k => k (h t))
theorem oS_0 (h : (F r).1 = 0) : oS8 F r t = 0 := by unfold oS8; rw [h]; rfl
theorem sJ_0 {c : LC} {x y : Nat → Int32} {m n : Nat} (h : n = 0) : sJ c x y m n = s0T := by rw [h]; rfl
theorem vw_0 {c : LC} (hc : cOK c r cl) (hF : ∀ q, q < r → (F q).1 = 0) : vwP c F 0 f 0 := by
  have e1 : (F (c.1 2).toNat).1 = 0 := hF _ (by have := hc.1; omega)
  have e2 : (F (c.1 3).toNat).1 = 0 := hF _ (by have := hc.1; omega)
  unfold vwP
  by_cases k8 : c.1 0 = 8
  · rw [if_pos k8]
    refine Or.inl ⟨rfl, 0, by decide, ?_, Or.inl rfl, by decide, fun _ => 0, ?_, ?_⟩
    · rintro t ⟨⟨s, ⟨i, hi, _⟩, _⟩, _⟩
      exact absurd hi (by omega)
    · exact isW_0 (by rintro t ⟨i, hi, _⟩; omega)
    · rintro q t hq ht
      have e : q = 0 := by omega
      subst e
      obtain ⟨i, hi, _⟩ := ht
      exact absurd hi (by omega)
  · rw [if_neg k8]
    refine Or.inl ⟨rfl, ?_, is_0 (fun t => ?_), by decide⟩
    · rintro ⟨_, a⟩
      rw [e1] at a
      exact absurd a (by show ¬ 1500 < 0; decide)
    · unfold vS
      rw [e1, e2]
      by_cases k3 : c.1 0 = 3
      · rw [if_pos k3]; rfl
      · rw [if_neg k3]
        by_cases k4 : c.1 0 = 4
        · rw [if_pos k4]; show (0 : Int32) + iI 1 * 0 = 0; decide
        · rw [if_neg k4]
          by_cases k5 : c.1 0 = 5
          · rw [if_pos k5]; show (0 : Int32) + iI (-1) * 0 = 0; decide
          · rw [if_neg k5]
            by_cases k7 : c.1 0 = 7
            · rw [if_pos k7]
              unfold sG
              exact pI_n (fun ⟨i, hi, _⟩ => Nat.not_lt_zero i hi)
            · rw [if_neg k7]; rfl
theorem rd_0 {c : LC} {x y g : Nat → Int32} {n m : Nat} (hn : n = 0) : rgY c x n y m 0 g 0 := by
  subst hn
  refine ⟨by decide, ?_, Or.inl rfl, by decide, fun _ => 0, isW_0 (by rintro t ⟨i, hi, _⟩; omega), ?_⟩
  · rintro t ⟨⟨s, ⟨i, hi, _⟩, _⟩, _⟩
    exact absurd hi (by omega)
  · rintro q t hq ht
    have e : q = 0 := by omega
    subst e
    obtain ⟨i, hi, _⟩ := ht
    exact absurd hi (by omega)
theorem gd_0 (hc : ∀ r : Nat, r < nr → tbs ≤ (r : Int) → cOK (cc r) r cl ∧ cZ (cc r) r cl) (ht : tbs ≤ (nr : Int)) (h : ∀ r, r < nr → (s r).1.1 = 0 ∧ (s r).2 = 0) : gd8 tbs cc cl nr s := by
  have e : ∀ r, r < nr → (sF8 s r).1 = 0 := fun r hr => (h r hr).1
  refine ⟨⟨fun q hq => ⟨?_, ?_⟩, fun r hr t => ?_⟩, fun q hq h1 h2 => ⟨0, ?_, ?_⟩⟩
  · unfold stP
    rw [e q hq]
    by_cases w : (q : Int) < tbs
    · rw [if_pos w]; exact ⟨is_0 (fun t => oS_0 (e q hq)), by decide⟩
    · rw [if_neg w]; exact vw_0 (hc q hq (by omega)).1 (fun p hp => e p (by omega))
  · unfold bgOK
    rw [e q hq]
    exact ⟨⟨fun i j _ hj => absurd hj (Nat.not_lt_zero j), fun i hi => absurd hi (Nat.not_lt_zero i)⟩, by decide, fun i hi => absurd hi (Nat.not_lt_zero i)⟩
  · rw [oS_0 (e r (by omega))]; decide
  · rw [e q hq]
    have k := (hc q hq h1).1.1
    exact rd_0 (e _ (by omega))
  · exact (h q hq).2
/-- behind a plan that is taken -/
theorem eS_0 (hc : ∀ r : Nat, r < nr → tbs ≤ (r : Int) → cOK (cc r) r cl ∧ cZ (cc r) r cl) (ht : tbs ≤ (nr : Int)) (he : 0 ≤ e ∧ e < 8) (hN : ∀ r, r < nr → (N r).1 = 0) (hS : ∀ r, r < nr → (S 0 r).1.1 = 0 ∧ (S 0 r).2 = 0) (hu : u = 0) : eS8 tbs nr cc cl N H S e u := by
  subst hu
  refine ⟨⟨he, by decide, by decide⟩, fun r hr => ⟨(hN r hr).trans (hS r hr).1.symm, ?_⟩, gd_0 hc ht hS, fun k k0 k1 => absurd k1 (by omega)⟩
  rw [hN r hr]
  exact fun i hi => absurd hi (Nat.not_lt_zero i)
/-! what the last change moved -/
def mv8 (s s9 : SR8) (r : Nat) : Tup → Int32 := mvS (sF8 s r).2 (sF8 s r).1 (sF8 s9 r).2 (sF8 s9 r).1
theorem mv_at {s9 : SR8} : mv8 s s9 r = fun t => oS8 (sF8 s) r t + iI (-1) * oS8 (sF8 s9) r t := rfl
theorem mv_e {s9 s9' : SR8} (h0 : sE8 s' s) (h9 : sE8 s9' s9) (hr : r < 16) : mv8 s' s9' r = mv8 s s9 r := by unfold mv8; rw [sE_f h0 r hr, sE_f h9 r hr]
theorem mv_c {s9 : SR8} (h0 : rfA F (sF8 s) r) (h9 : rfA N (sF8 s9) r) : (fun t => bS (F r).2 (F r).1 t + iI (-1) * bS (N r).2 (N r).1 t) = mv8 s s9 r := by
  have a := oS_c h0
  have b := oS_c h9
  rw [mv_at]
  exact funext fun t => by show oS8 F r t + iI (-1) * oS8 N r t = _; rw [a, b]
theorem mv_0 {s9 : SR8} (h0 : (s r).1.1 = 0) (h9 : (s9 r).1.1 = 0) : isB f 0 (mv8 s s9 r) zM := is_0 (fun t => by
  rw [mv_at]; show oS8 (sF8 s) r t + iI (-1) * oS8 (sF8 s9) r t = 0
  rw [oS_0 (F := sF8 s) h0, oS_0 (F := sF8 s9) h9]; decide)
/-- differs: nothing -/
theorem df_k {k : Nat} (h0 : rfA F F' r) (h1 : rfA N F' r) (h : isB f k (fun t => bS (F r).2 (F r).1 t + iI (-1) * bS (N r).2 (N r).1 t) zM) : k = 0 := by
  have a := oS_c h0
  have b := oS_c h1
  have e : ∀ t, bS (F r).2 (F r).1 t + iI (-1) * bS (N r).2 (N r).1 t = 0 := fun t => by
    show oS8 F r t + iI (-1) * oS8 N r t = 0
    rw [a, b, in_m, ← Int32.sub_eq_add_neg, Int32.sub_self]
  have q := isW_u h (is_0 (f := f) (M := zM) e) (fun _ _ => rfl) (fun _ _ => rfl)
  exact q.1
end ES8
end
section
/-! what the law keeps of the engine over both systems: the plans are alike (lP8), the bags, the history, the numbers (lQ8), the batch (lB8) -/
def lP8 (g : gG) (I : gI) (AR : gR) (AI : gI) (pA nr : Nat) (tbs : Int) (cc : Nat → LC) (cl : Nat → Int) : Prop :=
  (I pA 1).toInt = (nr : Int) ∧ (I pA 2).toInt = tbs ∧ (0 ≤ tbs ∧ tbs ≤ (nr : Int) ∧ nr ≤ 16) ∧
  (∀ r, r < nr → lnC (I (rob AR (hG (gZ g) 6 pA) r)) (AI (hG (gZ g) 3 (rob AR (hG (gZ g) 6 pA) r))) (cc r)) ∧
  ((I (gZ g + 205) 2).toInt = (nr : Int) ∧ plM9 (AI (gZ g + 206)) tbs nr cc cl) ∧
  ∀ r : Nat, r < nr → tI (AI (gZ g + 206)) (40 * (r : Int) + 1) = cl r ∧ (1 ≤ cl r ∧ cl r ≤ 4) ∧ (cc r).1 1 = cl r ∧ tI (AI (gZ g + 206)) (40 * (r : Int)) = (cc r).1 0
def lQ8 (g : gG) (I : gI) (AR : gR) (AI : gI) (bA nA nr : Nat) (tbs : Int) (cc : Nat → LC) (cl : Nat → Int) : Prop :=
  eS8 tbs nr cc cl (rfC (hG (gZ g)) AR I AI bA) (rfC (hG (gZ g)) AR I AI (hG (gZ g) 36 0)) (rsM (hGm (gZ g)) AI) (I (gZ g + 0) 14).toInt (I (gZ g + 0) 15).toInt ∧
  ((I (gZ g + 0) 15).toInt = (I (gZ g + 205) 8).toInt ∧ I (gZ g + 0) 16 = I (gZ g + 205) 9 ∧ I (gZ g + 0) 17 = I (gZ g + 205) 10) ∧
  (∀ r, r < nr → isB (rfC (hG (gZ g)) AR I AI (hG (gZ g) 35 0) r).2 (rfC (hG (gZ g)) AR I AI (hG (gZ g) 35 0) r).1 (mv8 (rsM (hGm (gZ g)) AI 0) (rsM (hGm (gZ g)) AI 9) r) zM ∧ bgOK (rfM (hGm (gZ g)) AI 9) cl r) ∧
  xD (hG (gZ g)) AR bA nA ∧ (I (hG (gZ g) 38 0) 3).toInt = 0
def lB8 (g : gG) (I AI : gI) (tbs : Int) (cl : Nat → Int) : Prop := bG8 tbs cl (AI (gZ g + 180)) (I (gZ g + 179) 3).toInt.toNat
def lE8 (g : gG) (I : gI) (AR : gR) (AI : gI) (pA bA nA : Nat) : Prop :=
  ∃ (nr : Nat) (tbs : Int) (cc : Nat → LC) (cl : Nat → Int), lP8 g I AR AI pA nr tbs cc cl ∧ lQ8 g I AR AI bA nA nr tbs cc cl ∧ lB8 g I AI tbs cl
section LE8
variable {g : gG} {M : gI × gI} {I AI I1 AI1 I2 AI2 I0 AI0 : gI} {R R1 R2 AR : gR} {pA bA nA nr nb q : Nat} {tbs : Int} {cc : Nat → LC} {cl : Nat → Int}
/-! the class does not touch the reference -/
theorem e_t5 (hv1 : gInv (gW g M) (ghF 0 (hG (gZ g))) R AR I1 AI1) {o : Nat} (ho : t9 o = 5) : AI1 (gZ g + o) = M.2 (gZ g + o) := hv1.2.2.2.2.2.2.2.2.2.1 _ (hG9.trans ho)
theorem e_mo (hOK : gOK g) (hv1 : gInv (gW g M) (ghF 0 (hG (gZ g))) R AR I1 AI1) : I1 (gZ g + 205) = M.1 (gZ g + 205) := hv1.2.2.2.2.2.2.2.2.1 _ (gO_i hOK (o := 205) (by decide) (by decide +kernel))
theorem e_rs (hv1 : gInv (gW g (I, AI)) (ghF 0 (hG (gZ g))) R AR I1 AI1) : rsM (hGm (gZ g)) AI1 = rsM (hGm (gZ g)) AI := funext fun sd => rsM_g (e_t5 hv1 (o := 210) (by decide +kernel)) (e_t5 hv1 (o := 211) (by decide +kernel)) (e_t5 hv1 (o := 219) (by decide +kernel))
theorem e_rf (hv1 : gInv (gW g (I, AI)) (ghF 0 (hG (gZ g))) R AR I1 AI1) : rfM (hGm (gZ g)) AI1 = rfM (hGm (gZ g)) AI := funext fun sd => rfM_g (e_t5 hv1 (o := 210) (by decide +kernel)) (e_t5 hv1 (o := 211) (by decide +kernel))
/-! the reference does not touch the class -/
theorem e_n1 (h : mInv (gW g (I1, AI1)) (hGm (gZ g)) R2 I2 AI2) : ∀ b c, gO (gW g (I2, AI2)) b c → c ≠ 7 → I2 b = I1 b := h.2.2.1
theorem e_n2 (h : mInv (gW g (I1, AI1)) (hGm (gZ g)) R2 I2 AI2) : ∀ b n, hG (gZ g) 9 b = n → n ≠ 5 → AI2 b = AI1 b := fun b n hb hn => h.2.2.2 b (hGm_ne hb hn)
theorem e_n2c (h : mInv (gW g (I1, AI1)) (hGc (gZ g)) R2 I2 AI2) : ∀ b n, hG (gZ g) 9 b = n → n ≠ 5 → AI2 b = AI1 b := fun b n hb hn => h.2.2.2 b (hGc_ne hb hn)
/-! rows of Rows -/
theorem e_35 (hv : gInv (gW g M) (ghF 0 (hG (gZ g))) R AR I0 AI0) (hx : gO (gW g M) (gZ g + 0) 6) : isRA (gW g M) (hG (gZ g)) AR (hG (gZ g) 35 0) 16 240 4 := (hv.2.2.2.2.1 _ hx).2.2.2.2.2.2.1.2
theorem e_36 (hv : gInv (gW g M) (ghF 0 (hG (gZ g))) R AR I0 AI0) (hx : gO (gW g M) (gZ g + 0) 6) : isRA (gW g M) (hG (gZ g)) AR (hG (gZ g) 36 0) 8 40 5 := (hv.2.2.2.2.1 _ hx).2.2.2.2.2.2.2.2.2.2.2.2.1.2
theorem e_14 (hv : gInv (gW g M) (ghF 0 (hG (gZ g))) R AR I0 AI0) (hx : gO (gW g M) (gZ g + 0) 6) : 0 ≤ (I0 (gZ g + 0) 14).toInt ∧ (I0 (gZ g + 0) 14).toInt ≤ 7 := ⟨(hv.2.2.2.2.1 _ hx).2.2.2.2.2.2.2.2.2.2.2.2.2.2.2.1, (hv.2.2.2.2.1 _ hx).2.2.2.2.2.2.2.2.2.2.2.2.2.2.2.2.1⟩
theorem e_len (hv : gInv (gW g M) (ghF 0 (hG (gZ g))) R AR I0 AI0) {o : Nat} (ho : gO (gW g M) o 4) : 0 ≤ (I0 o 3).toInt := (hv.1 o ho).2.1.2.2.1
theorem e_c1 (hv : gInv (gW g M) (ghF 0 (hG (gZ g))) R AR I0 AI0) {o : Nat} (ho : gO (gW g M) o 4) : hG (gZ g) 9 (hG (gZ g) 0 o) = 1 := (hv.1 o ho).1.2.2.1
theorem e_c2 (hv : gInv (gW g M) (ghF 0 (hG (gZ g))) R AR I0 AI0) {y : Nat} (hy : gO (gW g M) y 0) : hG (gZ g) 9 (hG (gZ g) 3 y) = 2 := ln_9 (gh := ghF 0 (hG (gZ g))) hv hy
theorem e_0i (hv : gInv (gW g M) (ghF 0 (hG (gZ g))) R AR I0 AI0) {o o' : Nat} (ho : gO (gW g M) o 4) (ho' : gO (gW g M) o' 4) (h : o ≠ o') : hG (gZ g) 0 o ≠ hG (gZ g) 0 o' := fun e => h (by
  have a : hG (gZ g) 7 (hG (gZ g) 0 o) = o := (hv.1 o ho).1.2.2.2
  have b : hG (gZ g) 7 (hG (gZ g) 0 o') = o' := (hv.1 o' ho').1.2.2.2
  rw [← a, e, b])
theorem e_38 (hv : gInv (gW g M) (ghF 0 (hG (gZ g))) R AR I0 AI0) (hx : gO (gW g M) (gZ g + 0) 6) : gO (gW g M) (hG (gZ g) 38 0) 4 ∧ hG (gZ g) 1 (hG (gZ g) 38 0) = 40 ∧ hG (gZ g) 2 (hG (gZ g) 38 0) = 5 := (hv.2.2.2.2.1 _ hx).2.2.2.2.2.2.2.2.1.2
theorem e_40 (hv : gInv (gW g M) (ghF 0 (hG (gZ g))) R AR I0 AI0) (hx : gO (gW g M) (gZ g + 0) 6) : gO (gW g M) (hG (gZ g) 40 0) 4 ∧ hG (gZ g) 1 (hG (gZ g) 40 0) = 240 ∧ hG (gZ g) 2 (hG (gZ g) 40 0) = 4 := (hv.2.2.2.2.1 _ hx).2.2.2.2.2.2.2.2.2.2.1.2
/-- all Rows stay but o -/
theorem cS_of (hv : gInv (gW g M) (ghF 0 (hG (gZ g))) R AR I0 AI0) (hx : xS (gW g M) (hG (gZ g)) R1 AR (gZ g + 0) pA bA nA) {o : Nat} (ho : gO (gW g M) o 4) (n1 : ∀ i, i < 16 → rob AR bA i ≠ o) (n2 : ∀ i, i < 16 → rob AR (hG (gZ g) 35 0) i ≠ o) (n3 : ∀ i, i < 8 → rob AR (hG (gZ g) 36 0) i ≠ o)
    (fi : ∀ b, gO (gW g M) b 4 → b ≠ o → I1 b = I b) (fa : ∀ b, hG (gZ g) 9 b = 1 → b ≠ hG (gZ g) 0 o → AI1 b = AI b) : cmS (hG (gZ g)) AR (gZ g + 0) bA I AI I1 AI1 := by
  have k : ∀ b, gO (gW g M) b 4 → b ≠ o → I1 b = I b ∧ AI1 (hG (gZ g) 0 b) = AI (hG (gZ g) 0 b) := fun b hb hn => ⟨fi b hb hn, fa _ (e_c1 hv hb) (e_0i hv hb ho hn)⟩
  refine ⟨fun r hr => ?_, fun r hr => ?_, fun r hr => ?_⟩
  · have w := k _ (isRA_o hx.2.2.2.2.1 hr).2.1 (n1 r hr)
    exact rfC_k w.1 w.2
  · have w := k _ (isRA_o (e_35 hv hx.1) hr).2.1 (n2 r hr)
    exact rfC_k w.1 w.2
  · have w := k _ (isRA_o (e_36 hv hx.1) hr).2.1 (n3 r hr)
    exact rfC_k w.1 w.2
theorem cS_37 (hv : gInv (gW g M) (ghF 0 (hG (gZ g))) R AR I0 AI0) (hx : xS (gW g M) (hG (gZ g)) R1 AR (gZ g + 0) pA bA nA) (ho : gO (gW g M) (gZ g + 179) 4) (fi : ∀ b, gO (gW g M) b 4 → b ≠ gZ g + 179 → I1 b = I b) (fa : ∀ b, hG (gZ g) 9 b = 1 → b ≠ gZ g + 180 → AI1 b = AI b) : cmS (hG (gZ g)) AR (gZ g + 0) bA I AI I1 AI1 :=
  cS_of hv hx ho (fun _ hi => isRA_37 hx.2.2.2.2.1 hi) (fun _ hi => isRA_37 (e_35 hv hx.1) hi) (fun _ hi => isRA_37 (e_36 hv hx.1) hi) fi fa
theorem cS_40 (hv : gInv (gW g M) (ghF 0 (hG (gZ g))) R AR I0 AI0) (hx : xS (gW g M) (hG (gZ g)) R1 AR (gZ g + 0) pA bA nA) (hD : xD (hG (gZ g)) AR bA nA) (fi : ∀ b, gO (gW g M) b 4 → b ≠ hG (gZ g) 40 0 → I1 b = I b) (fa : ∀ b, hG (gZ g) 9 b = 1 → b ≠ hG (gZ g) 0 (hG (gZ g) 40 0) → AI1 b = AI b) : cmS (hG (gZ g)) AR (gZ g + 0) bA I AI I1 AI1 := by
  have w := e_40 hv hx.1
  exact cS_of hv hx w.1 (fun _ hi => ra_ne1 hx.2.2.2.2.1 w.2.1 w.2.2 (Or.inl (by decide)) hi) hD.2.2.2.2.2.2.2 (fun _ hi => ra_ne1 (e_36 hv hx.1) w.2.1 w.2.2 (Or.inl (by decide)) hi) fi fa
theorem cS_r : cmS (hG (gZ g)) AR (gZ g + 0) bA I AI I AI := ⟨fun _ _ => rfl, fun _ _ => rfl, fun _ _ => rfl⟩
theorem cS_29 (hv : gInv (gW g M) (ghF 0 (hG (gZ g))) R AR I0 AI0) (hx : xS (gW g M) (hG (gZ g)) R1 AR (gZ g + 0) pA bA nA) (fa : ∀ b, hG (gZ g) 9 b = 1 → AI1 b = AI b) : cmS (hG (gZ g)) AR (gZ g + 0) bA I AI I AI1 :=
  ⟨fun _ hr => rfC_k rfl (fa _ (e_c1 hv (isRA_o hx.2.2.2.2.1 hr).2.1)), fun _ hr => rfC_k rfl (fa _ (e_c1 hv (isRA_o (e_35 hv hx.1) hr).2.1)), fun _ hr => rfC_k rfl (fa _ (e_c1 hv (isRA_o (e_36 hv hx.1) hr).2.1))⟩
/-- over the reference's call -/
theorem cS_m (hv : gInv (gW g M) (ghF 0 (hG (gZ g))) R AR I0 AI0) (hx : xS (gW g M) (hG (gZ g)) R1 AR (gZ g + 0) pA bA nA) (n1 : ∀ b c, gO (gW g (I2, AI2)) b c → c ≠ 7 → I2 b = I1 b) (n2 : ∀ b n, hG (gZ g) 9 b = n → n ≠ 5 → AI2 b = AI1 b) : cmS (hG (gZ g)) AR (gZ g + 0) bA I1 AI1 I2 AI2 := by
  have k : ∀ b, gO (gW g M) b 4 → I2 b = I1 b ∧ AI2 (hG (gZ g) 0 b) = AI1 (hG (gZ g) 0 b) := fun b hb => ⟨n1 b 4 hb (by decide), n2 _ 1 (e_c1 hv hb) (by decide)⟩
  refine ⟨fun r hr => ?_, fun r hr => ?_, fun r hr => ?_⟩
  · have w := k _ (isRA_o hx.2.2.2.2.1 hr).2.1
    exact rfC_k w.1 w.2
  · have w := k _ (isRA_o (e_35 hv hx.1) hr).2.1
    exact rfC_k w.1 w.2
  · have w := k _ (isRA_o (e_36 hv hx.1) hr).2.1
    exact rfC_k w.1 w.2
/-! what the calls want -/
theorem e_hcK (h : lP8 g I AR AI pA nr tbs cc cl) : ∀ r : Nat, r < nr → tbs ≤ (r : Int) → cOK (cc r) r cl ∧ cZ (cc r) r cl := fun r h1 h2 => (h.2.2.2.2.1.2.2.2 r h1 h2).2
theorem e_cLt (h : lP8 g I AR AI pA nr tbs cc cl) : cLt tbs nr cc := cLt_of (e_hcK h)
theorem e_gd (h : lQ8 g I AR AI bA nA nr tbs cc cl) : gd8 tbs cc cl nr (rsM (hGm (gZ g)) AI 0) := h.1.2.2.1
theorem e_bgC (h : lQ8 g I AR AI bA nA nr tbs cc cl) : ∀ r, r < nr → bgOK (rfC (hG (gZ g)) AR I AI bA) cl r := fun r hr => bgOK_f (h.1.2.1 r hr) ((e_gd h).1.1 r hr).2
theorem m_bg (hv1 : gInv (gW g (I, AI)) (ghF 0 (hG (gZ g))) R AR I1 AI1) (h : lQ8 g I AR AI bA nA nr tbs cc cl) : ∀ r, r < nr → bgOK (rfM (hGm (gZ g)) AI1 0) cl r := fun r hr => by
  rw [e_rf hv1]; exact ((e_gd h).1.1 r hr).2
theorem m_ps (hv1 : gInv (gW g (I, AI)) (ghF 0 (hG (gZ g))) R AR I1 AI1) (h : lQ8 g I AR AI bA nA nr tbs cc cl) : ∀ r : Nat, (r : Int) < tbs → ∀ t, 0 ≤ (bS (rfM (hGm (gZ g)) AI1 0 r).2 (rfM (hGm (gZ g)) AI1 0 r).1 t).toInt := fun r hr => by
  rw [e_rf hv1]; exact (e_gd h).1.2 r hr
theorem m_b9 (hv1 : gInv (gW g (I, AI)) (ghF 0 (hG (gZ g))) R AR I1 AI1) (h : lQ8 g I AR AI bA nA nr tbs cc cl) : ∀ r, r < nr → bgOK (rfM (hGm (gZ g)) AI1 9) cl r := fun r hr => by
  rw [e_rf hv1]; exact (h.2.2.1 r hr).2
theorem m_vw (hv1 : gInv (gW g (I, AI)) (ghF 0 (hG (gZ g))) R AR I1 AI1) (h : lQ8 g I AR AI bA nA nr tbs cc cl) : ∀ r : Nat, r < nr → tbs ≤ (r : Int) → vwP (cc r) (rfM (hGm (gZ g)) AI1 0) 0 (rfM (hGm (gZ g)) AI1 0 r).2 (rfM (hGm (gZ g)) AI1 0 r).1 := fun r hr ht => by
  rw [e_rf hv1]
  have w := ((e_gd h).1.1 r hr).1
  unfold stP at w
  rw [if_neg (by omega)] at w
  exact w
theorem m_pl (hv1 : gInv (gW g (I, AI)) (ghF 0 (hG (gZ g))) R AR I1 AI1) (h : lP8 g I AR AI pA nr tbs cc cl) : plM9 (AI1 (hGm (gZ g) 50 0)) tbs nr cc cl := by
  have e : AI1 (hGm (gZ g) 50 0) = AI (gZ g + 206) := e_t5 hv1 (o := 206) (by decide +kernel)
  rw [e]; exact h.2.2.2.2.1.2
theorem m_mr (hOK : gOK g) (hv1 : gInv (gW g (I, AI)) (ghF 0 (hG (gZ g))) R AR I1 AI1) (h : lP8 g I AR AI pA nr tbs cc cl) : (I1 (gZ g + 205) 2).toInt = (nr : Int) := by
  rw [e_mo hOK hv1]; exact h.2.2.2.2.1.1
theorem m_bt (hv1 : gInv (gW g (I, AI)) (ghF 0 (hG (gZ g))) R AR I1 AI1) (h : lB8 g I AI tbs cl) (h0 : 0 ≤ (I (gZ g + 179) 3).toInt) (hr : ∀ i : Nat, (i : Int) < (I (gZ g + 179) 3).toInt → rwE (AI (gZ g + 180)) (AI (gZ g + 212)) (AI (gZ g + 213)) (AI (gZ g + 214)) i) : btM9 (hGm (gZ g)) AI1 (AI (gZ g + 180)) (I (gZ g + 179) 3).toInt.toNat tbs cl := by
  have a : AI1 (hGm (gZ g) 61 0) = AI (gZ g + 212) := e_t5 hv1 (o := 212) (by decide +kernel)
  have b : AI1 (hGm (gZ g) 62 0) = AI (gZ g + 213) := e_t5 hv1 (o := 213) (by decide +kernel)
  have c : AI1 (hGm (gZ g) 63 0) = AI (gZ g + 214) := e_t5 hv1 (o := 214) (by decide +kernel)
  refine ⟨fun i hi => ?_, bG_o h, bG_z h, bG_t h⟩
  rw [a, b, c]
  have w := hr i (by omega)
  exact ⟨w.1.symm, fun k hk => (w.2.1 k hk).symm, w.2.2.symm⟩
/-! a call that leaves the engine as it was -/
theorem lP_k (hOK : gOK g) (hv0 : gInv (gW g (I, AI)) (ghF 0 (hG (gZ g))) R1 AR I1 AI1) (hp : gO (gW g (I, AI)) pA 2) (h : lP8 g I AR AI pA nr tbs cc cl) (fI : ∀ b c, gO (gW g (I, AI)) b c → c ≠ 4 → c ≠ 6 → I1 b = I b) (fA : ∀ y, gO (gW g (I, AI)) y 0 → AI1 (hG (gZ g) 3 y) = AI (hG (gZ g) 3 y))
    (n1 : ∀ b c, gO (gW g (I2, AI2)) b c → c ≠ 7 → I2 b = I1 b) (n2 : ∀ b n, hG (gZ g) 9 b = n → n ≠ 5 → AI2 b = AI1 b) (ht : AI2 (gZ g + 206) = AI1 (gZ g + 206)) (h2 : (I2 (gZ g + 205) 2).toInt = (I1 (gZ g + 205) 2).toInt) : lP8 g I2 AR AI2 pA nr tbs cc cl := by
  obtain ⟨a1, a2, a3, a4, a5, a6⟩ := h
  have ep : I2 pA = I pA := (n1 pA 2 hp (by decide)).trans (fI pA 2 hp (by decide) (by decide))
  have et : AI2 (gZ g + 206) = AI (gZ g + 206) := ht.trans (e_t5 hv0 (o := 206) (by decide +kernel))
  unfold lP8
  rw [ep, et, h2, e_mo hOK hv0]
  refine ⟨a1, a2, a3, fun r hr => ?_, a5, a6⟩
  have hy : gO (gW g (I, AI)) (rob AR (hG (gZ g) 6 pA) r) 0 := gl_o (gh := ghF 0 (hG (gZ g))) hv0 hp (by omega)
  rw [(n1 _ 0 hy (by decide)).trans (fI _ 0 hy (by decide) (by decide)), (n2 _ 2 (e_c2 hv0 hy) (by decide)).trans (fA _ hy)]
  exact a4 r hr
theorem lQ_k (hOK : gOK g) (hv0 : gInv (gW g (I, AI)) (ghF 0 (hG (gZ g))) R1 AR I1 AI1) (hx : xS (gW g (I, AI)) (hG (gZ g)) R1 AR (gZ g + 0) pA bA nA) (hP : lP8 g I AR AI pA nr tbs cc cl) (h : lQ8 g I AR AI bA nA nr tbs cc cl) (fS : cmS (hG (gZ g)) AR (gZ g + 0) bA I AI I1 AI1) (fx : I1 (gZ g + 0) 14 = I (gZ g + 0) 14 ∧ I1 (gZ g + 0) 15 = I (gZ g + 0) 15) (f38 : I1 (hG (gZ g) 38 0) 3 = I (hG (gZ g) 38 0) 3)
    (n1 : ∀ b c, gO (gW g (I2, AI2)) b c → c ≠ 7 → I2 b = I1 b) (n2 : ∀ b n, hG (gZ g) 9 b = n → n ≠ 5 → AI2 b = AI1 b) (hs : ∀ sd : Int, 0 ≤ sd → sd ≤ 9 → sE8 (rsM (hGm (gZ g)) AI2 sd) (rsM (hGm (gZ g)) AI1 sd)) (h8 : I2 (gZ g + 205) 8 = I1 (gZ g + 205) 8) (hn : I2 (gZ g + 0) 16 = I2 (gZ g + 205) 9 ∧ I2 (gZ g + 0) 17 = I2 (gZ g + 205) 10) : lQ8 g I2 AR AI2 bA nA nr tbs cc cl := by
  obtain ⟨b1, b2, b3, b4, b5⟩ := h
  have fM := cS_m hv0 hx n1 n2
  have ex : I2 (gZ g + 0) = I1 (gZ g + 0) := n1 _ 6 hx.1 (by decide)
  have hs' : ∀ sd : Int, 0 ≤ sd → sd ≤ 9 → sE8 (rsM (hGm (gZ g)) AI2 sd) (rsM (hGm (gZ g)) AI sd) := fun sd a b r hr => by
    have w := hs sd a b r hr
    rw [e_rs hv0] at w; exact w
  have h16 := hP.2.2.1.2.2
  refine ⟨eS_c (e_cLt hP) hP.2.2.1.2.1 h16 b1 (fun r hr => (fM.1 r (by omega)).trans (fS.1 r (by omega))) (fun k hk => (fM.2.2 k hk).trans (fS.2.2 k hk)) (fun sd a b => hs' sd a (by omega)) (by rw [ex, fx.1]) (by rw [ex, fx.2]), ⟨?_, hn⟩, fun r hr => ?_, b4, ?_⟩
  · rw [ex, fx.2, h8, e_mo hOK hv0]; exact b2.1
  · rw [(fM.2.1 r (by omega)).trans (fS.2.1 r (by omega)), mv_e (hs' 0 (by decide) (by decide)) (hs' 9 (by decide) (by decide)) (by omega)]
    refine ⟨(b3 r hr).1, ?_⟩
    have w := (b3 r hr).2
    unfold bgOK at w ⊢
    rw [show rfM (hGm (gZ g)) AI2 9 r = rfM (hGm (gZ g)) AI 9 r from sE_f (hs' 9 (by decide) (by decide)) r (by omega)]
    exact w
  · rw [n1 _ 4 (e_38 hv0 hx.1).1 (by decide), f38]; exact b5
theorem lE_k (hOK : gOK g) (hv0 : gInv (gW g (I, AI)) (ghF 0 (hG (gZ g))) R1 AR I1 AI1) (hx : xS (gW g (I, AI)) (hG (gZ g)) R1 AR (gZ g + 0) pA bA nA) (h : lE8 g I AR AI pA bA nA) (fI : ∀ b c, gO (gW g (I, AI)) b c → c ≠ 4 → c ≠ 6 → I1 b = I b) (fA : ∀ y, gO (gW g (I, AI)) y 0 → AI1 (hG (gZ g) 3 y) = AI (hG (gZ g) 3 y)) (fS : cmS (hG (gZ g)) AR (gZ g + 0) bA I AI I1 AI1) (fx : ∀ j, j ≠ 1 → I1 (gZ g + 0) j = I (gZ g + 0) j) (f38 : I1 (hG (gZ g) 38 0) 3 = I (hG (gZ g) 38 0) 3)
    (n1 : ∀ b c, gO (gW g (I2, AI2)) b c → c ≠ 7 → I2 b = I1 b) (n2 : ∀ b n, hG (gZ g) 9 b = n → n ≠ 5 → AI2 b = AI1 b) (ht : AI2 (gZ g + 206) = AI1 (gZ g + 206)) (h2 : (I2 (gZ g + 205) 2).toInt = (I1 (gZ g + 205) 2).toInt)
    (hs : ∀ sd : Int, 0 ≤ sd → sd ≤ 9 → sE8 (rsM (hGm (gZ g)) AI2 sd) (rsM (hGm (gZ g)) AI1 sd)) (h8 : I2 (gZ g + 205) 8 = I1 (gZ g + 205) 8 ∧ I2 (gZ g + 205) 9 = I1 (gZ g + 205) 9 ∧ I2 (gZ g + 205) 10 = I1 (gZ g + 205) 10) (hb : ∀ tbs cl, lB8 g I AI tbs cl → lB8 g I2 AI2 tbs cl) : lE8 g I2 AR AI2 pA bA nA := by
  obtain ⟨nr, tbs, cc, cl, hP, hQ, hB⟩ := h
  have ex : I2 (gZ g + 0) = I1 (gZ g + 0) := n1 _ 6 hx.1 (by decide)
  refine ⟨nr, tbs, cc, cl, lP_k hOK hv0 hx.2.2.1 hP fI fA n1 n2 ht h2, lQ_k hOK hv0 hx hP hQ fS ⟨fx 14 (by decide), fx 15 (by decide)⟩ f38 n1 n2 hs h8.1 ?_, hb _ _ hB⟩
  rw [ex, h8.2.1, h8.2.2, fx 16 (by decide), fx 17 (by decide), e_mo hOK hv0]
  exact hQ.2.1.2
/-! the sides over a call of the reference -/
theorem s_all {A B : gI} (h : A = B) : ∀ sd : Int, 0 ≤ sd → sd ≤ 9 → sE8 (rsM (hGm (gZ g)) A sd) (rsM (hGm (gZ g)) B sd) := fun _ _ _ _ _ => by rw [h]
theorem s_sdK (h : sdK (hGm (gZ g)) AI1 AI2) : ∀ sd : Int, 0 ≤ sd → sd ≤ 9 → sE8 (rsM (hGm (gZ g)) AI2 sd) (rsM (hGm (gZ g)) AI1 sd) := fun _ a b _ hr => rsM_k h ⟨a, b⟩ hr
theorem s_g (h : ∀ b, b ≠ gZ g + 212 → b ≠ gZ g + 213 → b ≠ gZ g + 214 → b ≠ gZ g + 217 → b ≠ gZ g + 221 → AI2 b = AI1 b) : ∀ sd : Int, 0 ≤ sd → sd ≤ 9 → sE8 (rsM (hGm (gZ g)) AI2 sd) (rsM (hGm (gZ g)) AI1 sd) := fun sd _ _ r _ =>
  congrFun (rsM_g (gh := hGm (gZ g)) (sd := sd) (h (gZ g + 210) (by omega) (by omega) (by omega) (by omega) (by omega)) (h (gZ g + 211) (by omega) (by omega) (by omega) (by omega) (by omega)) (h (gZ g + 219) (by omega) (by omega) (by omega) (by omega) (by omega))) r
/-! the batch -/
theorem lB_k (e1 : I2 (gZ g + 179) 3 = I (gZ g + 179) 3) (e2 : AI2 (gZ g + 180) = AI (gZ g + 180)) : ∀ tbs cl, lB8 g I AI tbs cl → lB8 g I2 AI2 tbs cl := fun tbs cl h => by
  unfold lB8 at h ⊢; rw [e1, e2]; exact h
theorem lB_0 (e : (I2 (gZ g + 179) 3).toInt = 0) : lB8 g I2 AI2 tbs cl := by unfold lB8; rw [e]; exact bG_0
theorem lB_ch {f f' : Nat → Int32} {u : Nat → Int} {tb n z len len1 a b c d : Int} {clp : Nat → Int} (hP : lP8 g I AR AI pA nr tbs cc cl) (h : bG8 tbs cl f len.toNat) (h0 : 0 ≤ len) (hc : ∀ r : Nat, r < nr → tI (AI (gZ g + 206)) (40 * (r : Int) + 1) = clp r) (eu : u = cky tb a b c d (clp tb.toNat)) (q : chP tbs tb n z len len1 f f' u) (hs : srt 5 f' len1) (h1 : 0 ≤ len1) : bG8 tbs cl f' len1.toNat := by
  have e1 : ((len1.toNat : Nat) : Int) = len1 := Int.toNat_of_nonneg h1
  refine ⟨by rw [e1]; exact hs, fun i hi => ch_G (a := a) (b := b) (c := c) (d := d) (fun r hr => (hP.2.2.2.2.2 r (by have := hP.2.2.1; omega)).2.1.1) h0 (fun j hj => h.2 j (by omega)) (fun t0 t1 => ?_) q i (by omega)⟩
  have r9 : tb.toNat < nr := by have := hP.2.2.1; omega
  rw [eu, ← hc _ r9, (hP.2.2.2.2.2 _ r9).1]
/-! commit -/
theorem lE_cm (hOK : gOK g) (hv : gInv (gW g (I, AI)) (ghF 0 (hG (gZ g))) R AR I AI) (hx : xS (gW g (I, AI)) (hG (gZ g)) R AR (gZ g + 0) pA bA nA) (hv0 : gInv (gW g (I, AI)) (ghF 0 (hG (gZ g))) R1 AR I1 AI1) (hP : lP8 g I AR AI pA nr tbs cc cl) (hQ : lQ8 g I AR AI bA nA nr tbs cc cl) (hB : lB8 g I AI tbs cl) {v1 v2 : Int}
    (f38 : I1 (hG (gZ g) 38 0) 3 = I (hG (gZ g) 38 0) 3)
    (c : ∃ (code : Int) (Fn : RF), rnP tbs nr cc (∃ i, i < (I (gZ g + 179) 3).toInt.toNat ∧ blw (AI (gZ g + 180)) (rfC (hG (gZ g)) AR I AI bA) 1 i) (tbS (AI (gZ g + 180)) (I (gZ g + 179) 3).toInt.toNat (rfC (hG (gZ g)) AR I AI bA) 1) code Fn ∧ (code = 0 → stA tbs cc (tbS (AI (gZ g + 180)) (I (gZ g + 179) 3).toInt.toNat (rfC (hG (gZ g)) AR I AI bA) 1) cl Fn nr) ∧
      ((code ≠ 0 ∧ v1 = code ∧ xS (gW g (I, AI)) (hG (gZ g)) R1 AR (gZ g + 0) pA bA nA ∧ cmS (hG (gZ g)) AR (gZ g + 0) bA I AI I1 AI1 ∧ I1 (gZ g + 0) 14 = I (gZ g + 0) 14 ∧ I1 (gZ g + 0) 15 = I (gZ g + 0) 15 ∧ I1 (gZ g + 0) 16 = I (gZ g + 0) 16 ∧ I1 (gZ g + 0) 17 = I (gZ g + 0) 17 + 1) ∨
        (code = 0 ∧ xS (gW g (I, AI)) (hG (gZ g)) R1 AR (gZ g + 0) pA nA bA ∧ cmY (hG (gZ g)) AR (gZ g + 0) bA nA nr tbs I AI (I (gZ g + 179) 3).toInt.toNat Fn v1 I1 AI1)))
    (n1 : ∀ b c, gO (gW g (I2, AI2)) b c → c ≠ 7 → I2 b = I1 b) (n2 : ∀ b n, hG (gZ g) 9 b = n → n ≠ 5 → AI2 b = AI1 b)
    (m : (v2 < 0 ∧ drP (hGm (gZ g)) AI1 tbs nr cc cl (AI (gZ g + 180)) (I (gZ g + 179) 3).toInt.toNat v2 AI2 ∧ I2 (gZ g + 205) 8 = I1 (gZ g + 205) 8 ∧ I2 (gZ g + 205) 9 = I1 (gZ g + 205) 9 ∧ I2 (gZ g + 205) 10 = I1 (gZ g + 205) 10 + 1) ∨
      (∃ A1 : gI, drP (hGm (gZ g)) AI1 tbs nr cc cl (AI (gZ g + 180)) (I (gZ g + 179) 3).toInt.toNat 0 A1 ∧ cmM (hGm (gZ g)) AI1 A1 AI2 (I1 (gZ g + 205) 8).toInt (I2 (gZ g + 205) 8).toInt ∧ I2 (gZ g + 205) 9 = I1 (gZ g + 205) 9 + 1 ∧ I2 (gZ g + 205) 10 = I1 (gZ g + 205) 10 ∧ noY (hGm (gZ g)) AI1 AI2 ∧ v2 = smL (fun r => ((bgN (mvF (hGm (gZ g)) AI2 r) : Nat) : Int)) tbs.toNat (nr - tbs.toNat))) :
    v1 = v2 ∧ ∃ b1 n1, xS (gW g (I, AI)) (hG (gZ g)) R1 AR (gZ g + 0) pA b1 n1 ∧ lQ8 g I2 AR AI2 b1 n1 nr tbs cc cl := by
  obtain ⟨code, Fn, c1, c2, c3⟩ := c
  have hl := e_cLt hP
  have ht := hP.2.2.1.2.1
  have h16 := hP.2.2.1.2.2
  have hN : ∀ r, r < nr → rfA (rfC (hG (gZ g)) AR I AI bA) (rfM (hGm (gZ g)) AI 0) r := hQ.1.2.1
  have ex : I2 (gZ g + 0) = I1 (gZ g + 0) := n1 _ 6 hx.1 (by decide)
  have emo : I1 (gZ g + 205) = I (gZ g + 205) := e_mo hOK hv0
  have erf := e_rf hv0
  have ers := e_rs hv0
  have m0 := hQ.2.1
  rcases m with ⟨y1, y2, y3, y4, y5⟩ | ⟨A1, y2, y3, y4, y5, y6, y7⟩
  · have d := y2.2.2.1
    rw [erf] at d
    have u := cm_u hl ht hB hN c1 d
    rcases c3 with ⟨x1, x2, x3, x4, x5, x6, x7, x8⟩ | ⟨x1, x2, x3⟩
    · refine ⟨by omega, bA, nA, x3, lQ_k hOK hv0 x3 hP hQ x4 ⟨x5, x6⟩ f38 n1 n2 (s_sdK y2.1) y3 ?_⟩
      rw [ex, x7, x8, y4, y5, emo, m0.2.1, m0.2.2]
      exact ⟨rfl, rfl⟩
    · exfalso; omega
  · have d := y2.2.2.1
    have d2 := y2.2.2.2.1 rfl
    rw [erf] at d d2
    have u := cm_u hl ht hB hN c1 d
    rcases c3 with ⟨x1, _⟩ | ⟨x1, x2, x3⟩
    · exfalso; omega
    · subst x1
      obtain ⟨z1, z2, z3, z4, z5, z6, z7, z8⟩ := x3
      obtain ⟨w1, w2, w3⟩ := y3
      have fM := cS_m hv0 x2 n1 n2
      have e0 : sE8 (rsM (hGm (gZ g)) AI2 0) (rsM (hGm (gZ g)) A1 10) := w1
      have e9 : sE8 (rsM (hGm (gZ g)) AI2 9) (rsM (hGm (gZ g)) AI 0) := by rw [← ers]; exact w2
      have rA := u.2 rfl
      have rd : rdA tbs cc (sF8 (rsM (hGm (gZ g)) A1 10)) (sM8 (rsM (hGm (gZ g)) A1 10)) nr := rd_up hl (Nat.le_refl _) (fun _ _ => rfl) (fun q _ => by
        show A1 (hGm (gZ g) 79 0) (16 * 10 + (q : Int)).toNat = _
        rw [show (16 * 10 + (q : Int)).toNat = 160 + q by omega]) d2.2
      have mvq : ∀ r, r < nr → isB (rfC (hG (gZ g)) AR I1 AI1 (hG (gZ g) 35 0) r).2 (rfC (hG (gZ g)) AR I1 AI1 (hG (gZ g) 35 0) r).1 (mv8 (rsM (hGm (gZ g)) AI2 0) (rsM (hGm (gZ g)) AI2 9) r) zM := fun r hr => by
        rw [mv_e e0 e9 (by omega), ← mv_c (s := rsM (hGm (gZ g)) A1 10) (s9 := rsM (hGm (gZ g)) AI 0) (rA r hr) (hN r hr)]
        exact z2 r hr
      have hb8 := w3
      unfold bkP at hb8
      rw [ers, emo] at hb8
      have e15 : (I1 (gZ g + 0) 15).toInt = (I2 (gZ g + 205) 8).toInt := by
        have a := m0.1
        have b := hQ.1.1.2
        rcases hb8 with ⟨k1, k2, _⟩ | ⟨k1, k2, _⟩ <;> omega
      refine ⟨?_, nA, bA, x2, ⟨?_, ⟨?_, ?_, ?_⟩, fun r hr => ⟨?_, ?_⟩, xD_s hQ.2.2.2.1, ?_⟩⟩
      · rw [z8, y7]
        refine smL_c _ (fun r h1 h2 => ?_)
        have hr : r < nr := by have := hP.2.2.1; omega
        have w : bgN (mvF (hGm (gZ g)) AI2 r) = _ := bgN_e (mvq r hr)
        have z : 0 ≤ (I1 (rob AR (hG (gZ g) 35 0) r) 3).toInt := e_len hv0 (isRA_o (e_35 hv0 hx.1) (by omega)).2.1
        show (I1 (rob AR (hG (gZ g) 35 0) r) 3).toInt = ((bgN (mvF (hGm (gZ g)) AI2 r) : Nat) : Int)
        rw [w]
        show _ = (((I1 (rob AR (hG (gZ g) 35 0) r) 3).toInt.toNat : Nat) : Int)
        omega
      · rw [ex]
        refine eS_cm (f := AI (gZ g + 180)) (nb := (I (gZ g + 179) 3).toInt.toNat) (s1 := rsM (hGm (gZ g)) A1 10) (u' := (I1 (gZ g + 0) 15).toInt) hl ht h16 hQ.1 hB c1 d d2.1 rd (fun r hr => (fM.1 r (by omega)).trans (z1 r hr)) (fun k hk hn => (fM.2.2 k hk).trans (z3 k hk hn)) ?_ e0 z5.1 ?_
        · rw [fM.2.2 _ (by have := hQ.1.1.1; omega)]
          refine ⟨z4.1, fun j hj => rwA_at z4.2 hj⟩
        · rw [e15, m0.1]
          exact hb8
      · rw [ex]; exact e15
      · rw [ex, z6, y4, emo, m0.2.1]
      · rw [ex, z7, y5, emo, m0.2.2]
      · rw [fM.2.1 r (by omega)]; exact mvq r hr
      · have w := ((e_gd hQ).1.1 r hr).2
        unfold bgOK at w ⊢
        rw [show rfM (hGm (gZ g)) AI2 9 r = rfM (hGm (gZ g)) AI 0 r from sE_f e9 r (by omega)]
        exact w
      · rw [n1 _ 4 (e_38 hv0 hx.1).1 (by decide), f38]; exact hQ.2.2.2.2
/-! undo -/
theorem lE_un (hOK : gOK g) (hv0 : gInv (gW g (I, AI)) (ghF 0 (hG (gZ g))) R1 AR I1 AI1) (hx : xS (gW g (I, AI)) (hG (gZ g)) R AR (gZ g + 0) pA bA nA) (hP : lP8 g I AR AI pA nr tbs cc cl) (hQ : lQ8 g I AR AI bA nA nr tbs cc cl) {Fn : RF} (hu : 0 < (I (gZ g + 0) 15).toInt) (x1 : xS (gW g (I, AI)) (hG (gZ g)) R1 AR (gZ g + 0) pA nA bA)
    (c1 : rnP tbs nr cc (∃ i, i < (rfC (hG (gZ g)) AR I AI (hG (gZ g) 36 0) (((I (gZ g + 0) 14).toInt + 7) % 8).toNat).1 ∧ blw (rfC (hG (gZ g)) AR I AI (hG (gZ g) 36 0) (((I (gZ g + 0) 14).toInt + 7) % 8).toNat).2 (rfC (hG (gZ g)) AR I AI bA) (-1) i) (tbS (rfC (hG (gZ g)) AR I AI (hG (gZ g) 36 0) (((I (gZ g + 0) 14).toInt + 7) % 8).toNat).2 (rfC (hG (gZ g)) AR I AI (hG (gZ g) 36 0) (((I (gZ g + 0) 14).toInt + 7) % 8).toNat).1 (rfC (hG (gZ g)) AR I AI bA) (-1)) 0 Fn)
    (c2 : cmU (hG (gZ g)) AR (gZ g + 0) bA nA nr I AI Fn I1 AI1) (n1 : ∀ b c, gO (gW g (I2, AI2)) b c → c ≠ 7 → I2 b = I1 b) (n2 : ∀ b n, hG (gZ g) 9 b = n → n ≠ 5 → AI2 b = AI1 b)
    (m : unM (hGm (gZ g)) AI1 AI2 ((I1 (gZ g + 205) 8).toInt - 1)) (m8 : (I2 (gZ g + 205) 8).toInt = (I1 (gZ g + 205) 8).toInt - 1) (m9 : I2 (gZ g + 205) 9 = I1 (gZ g + 205) 9 ∧ I2 (gZ g + 205) 10 = I1 (gZ g + 205) 10) : lQ8 g I2 AR AI2 nA bA nr tbs cc cl := by
  have hl := e_cLt hP
  have ht := hP.2.2.1.2.1
  have h16 := hP.2.2.1.2.2
  have ex : I2 (gZ g + 0) = I1 (gZ g + 0) := n1 _ 6 hx.1 (by decide)
  have emo : I1 (gZ g + 205) = I (gZ g + 205) := e_mo hOK hv0
  have ers := e_rs hv0
  have m0 := hQ.2.1
  obtain ⟨z1, z2, z3, z4, -, -, z7⟩ := c2
  obtain ⟨w1, w2, w3, -⟩ := m
  have fM := cS_m hv0 x1 n1 n2
  have e9 : sE8 (rsM (hGm (gZ g)) AI2 9) (rsM (hGm (gZ g)) AI 0) := by rw [← ers]; exact w2
  have e0 : sE8 (rsM (hGm (gZ g)) AI2 0) (rsM (hGm (gZ g)) AI (I (gZ g + 0) 15).toInt) := fun r hr => by
    rw [w1 r hr, ers, emo, ← m0.1, show 1 + ((I (gZ g + 0) 15).toInt - 1) = (I (gZ g + 0) 15).toInt by omega]
  have b := (eS_un ht h16 hQ.1 hu rfl).2
  have rA := (rnP_u hl c1 b).2 rfl
  have h14 : I2 (gZ g + 0) 15 = I1 (gZ g + 0) 15 := by rw [ex]
  refine ⟨?_, ⟨?_, ?_, ?_⟩, fun r hr => ⟨?_, ?_⟩, xD_s hQ.2.2.2.1, ?_⟩
  · rw [ex]
    exact eS_ud hl ht h16 hQ.1 hu rfl c1 (fun r hr => (fM.1 r (by omega)).trans (z1 r hr)) (fun k hk => (fM.2.2 k hk).trans (z3 k hk)) e0 (fun sd a b r hr => by rw [w3 sd a b r hr, ers]) z4.1 z4.2.1
  · rw [ex, z4.2.1, m8, emo, m0.1]
  · rw [ex, z4.2.2.1, m9.1, emo, m0.2.1]
  · rw [ex, z4.2.2.2, m9.2, emo, m0.2.2]
  · rw [fM.2.1 r (by omega), mv_e e0 e9 (by omega), ← mv_c (s := rsM (hGm (gZ g)) AI (I (gZ g + 0) 15).toInt) (s9 := rsM (hGm (gZ g)) AI 0) (rA r hr) (hQ.1.2.1 r hr)]
    exact z2 r hr
  · have w := ((e_gd hQ).1.1 r hr).2
    unfold bgOK at w ⊢
    rw [show rfM (hGm (gZ g)) AI2 9 r = rfM (hGm (gZ g)) AI 0 r from sE_f e9 r (by omega)]
    exact w
  · rw [n1 _ 4 (e_38 hv0 hx.1).1 (by decide), z7]; exact hQ.2.2.2.2
/-! would and differs: alike -/
theorem lE_wd (hv0 : gInv (gW g (I, AI)) (ghF 0 (hG (gZ g))) R1 AR I1 AI1) (hP : lP8 g I AR AI pA nr tbs cc cl) (hQ : lQ8 g I AR AI bA nA nr tbs cc cl) (hB : lB8 g I AI tbs cl) {rel z1 z2 : Int}
    (c : ((rel < 0 ∨ (nr : Int) ≤ rel) ∧ z1 = -1) ∨ ((0 ≤ rel ∧ rel < (nr : Int)) ∧ ∃ (code : Int) (Fn : RF), rnP tbs nr cc (∃ i, i < (I (gZ g + 179) 3).toInt.toNat ∧ blw (AI (gZ g + 180)) (rfC (hG (gZ g)) AR I AI bA) 1 i) (tbS (AI (gZ g + 180)) (I (gZ g + 179) 3).toInt.toNat (rfC (hG (gZ g)) AR I AI bA) 1) code Fn ∧ (code ≠ 0 → z1 = code) ∧ (code = 0 → z1 = (((Fn rel.toNat).1 : Nat) : Int))))
    (m : ((rel < 0 ∨ (nr : Int) ≤ rel) ∧ z2 = -1 ∧ AI2 = AI1) ∨ (0 ≤ rel ∧ rel < (nr : Int) ∧ ∃ code : Int, drP (hGm (gZ g)) AI1 tbs nr cc cl (AI (gZ g + 180)) (I (gZ g + 179) 3).toInt.toNat code AI2 ∧ ((code = 0 ∧ z2 = (((rfM (hGm (gZ g)) AI2 10 rel.toNat).1 : Nat) : Int)) ∨ (code ≠ 0 ∧ z2 = code)))) : z1 = z2 := by
  rcases c with ⟨a1, a2⟩ | ⟨a1, code, Fn, a2, a3, a4⟩
  · rcases m with ⟨b1, b2, _⟩ | ⟨b1, b2, _⟩
    · omega
    · exfalso; omega
  · rcases m with ⟨b1, _⟩ | ⟨b1, b2, code2, b3, b4⟩
    · exfalso; omega
    · have d := b3.2.2.1
      rw [e_rf hv0] at d
      have u := cm_u (e_cLt hP) hP.2.2.1.2.1 hB hQ.1.2.1 a2 d
      by_cases w : code = 0
      · have e := (u.2 w rel.toNat (by omega)).1
        rcases b4 with ⟨b4, b5⟩ | ⟨b4, b5⟩
        · rw [a4 w, b5, e]
        · exfalso; omega
      · rcases b4 with ⟨b4, b5⟩ | ⟨b4, b5⟩
        · exfalso; omega
        · rw [a3 w, b5, u.1]
/-! plan -/
theorem lE_pl (hOK : gOK g) (hv0 : gInv (gW g (I, AI)) (ghF 0 (hG (gZ g))) R1 AR I1 AI1) (hx : xS (gW g (I, AI)) (hG (gZ g)) R AR (gZ g + 0) pA bA nA) (hx1 : xS (gW g (I, AI)) (hG (gZ g)) R1 AR (gZ g + 0) q bA nA) (hD : xD (hG (gZ g)) AR bA nA) (h38 : (I (hG (gZ g) 38 0) 3).toInt = 0) {b : tTx} {n : Nat} {J1 : gJ}
    (p1 : pLn (hG (gZ g)) AR I1 J1 q b n (sPlF b n).1 (sPlF b n).2.1 (sPlF b n).2.2.1 ∧ (I1 q 2).toInt = (sPlF b n).2.2.2)
    (pc : rowsC (hG (gZ g)) AR I1 AI1 q b n (sPlF b n).1 (sPlF b n).2.1 (sPlF b n).2.2.1 ∧ (∀ r, r < 16 → (I1 (rob AR bA r) 3).toInt = 0 ∧ (I1 (rob AR (hG (gZ g) 35 0) r) 3).toInt = 0) ∧ (∀ o, gO (gW g (I, AI)) o 4 → (∀ r, r < 16 → rob AR bA r ≠ o) → (∀ r, r < 16 → rob AR (hG (gZ g) 35 0) r ≠ o) → o ≠ hG (gZ g) 37 0 → I1 o = I o) ∧ (∀ o, hG (gZ g) 9 o = 1 → AI1 o = AI o) ∧ (I1 (gZ g + 0) 15).toInt = 0 ∧ (I1 (gZ g + 0) 16).toInt = 0 ∧ (I1 (gZ g + 0) 17).toInt = 0)
    (n1 : ∀ b c, gO (gW g (I2, AI2)) b c → c ≠ 7 → I2 b = I1 b) (n2 : ∀ b n, hG (gZ g) 9 b = n → n ≠ 5 → AI2 b = AI1 b)
    (p2 : (I2 (gZ g + 205) 2).toInt = ((sPlF b n).1 : Int) ∧ (∀ r : Nat, r < (sPlF b n).1 → tI (AI2 (hGm (gZ g) 50 0)) (40 * (r : Int) + 1) = (sPlF b n).2.2.1 r ∧ tI (AI2 (hGm (gZ g) 50 0)) (40 * (r : Int)) = kdT b n ((sPlF b n).2.1 r)))
    (pn : (∀ j : Nat, j < 176 → AI2 (hGm (gZ g) 57 0) j = 0) ∧ (∀ j : Nat, j < 16 → AI2 (hGm (gZ g) 79 0) j = 0) ∧ (I2 (gZ g + 205) 8).toInt = 0 ∧ (I2 (gZ g + 205) 9).toInt = 0 ∧ (I2 (gZ g + 205) 10).toInt = 0 ∧ plR b n (AI2 (hGm (gZ g) 50 0))) (b0 : (I1 (gZ g + 179) 3).toInt = 0) (h179 : gO (gW g (I, AI)) (gZ g + 179) 4) : lE8 g I2 AR AI2 q bA nA := by
  obtain ⟨p3, p4⟩ := p1
  obtain ⟨c1, c2, c3, c4, c5, c6, c7⟩ := pc
  obtain ⟨d1, d2, d3, d4, d5, d6⟩ := pn
  have hq : gO (gW g (I, AI)) q 2 := hx1.2.2.1
  have k := sPlF_k b n
  have hcl := rowsC_cl c1
  have e206 : AI2 (hGm (gZ g) 50 0) = AI2 (gZ g + 206) := rfl
  have eq : I2 q = I1 q := n1 q 2 hq (by decide)
  have ex : I2 (gZ g + 0) = I1 (gZ g + 0) := n1 _ 6 hx.1 (by decide)
  have h16 : (sPlF b n).1 ≤ 16 := p3.2.1
  have hy : ∀ r, r < 16 → ∃ y, AR (hG (gZ g) 6 q) r = some y ∧ gO (gW g (I, AI)) y 0 ∧ rob AR (hG (gZ g) 6 q) r = y := fun r hr => by
    obtain ⟨y, a1, a2, _⟩ := (hv0.2.2.2.1 q hq).1.2.2.1 r hr
    have a1 : AR (hG (gZ g) 6 q) r = some y := a1
    exact ⟨y, a1, a2, rob_e a1⟩
  have hcK : ∀ r : Nat, r < (sPlF b n).1 → (sPlF b n).2.2.2 ≤ (r : Int) → cOK (lcT b n (sPlF b n).2.1 (sPlF b n).2.2.1 r) r (sPlF b n).2.2.1 ∧ cZ (lcT b n (sPlF b n).2.1 (sPlF b n).2.2.1 r) r (sPlF b n).2.2.1 := fun r hr ht =>
    lc_good (fun u hu => hcl u (by omega)) (hcl r hr).1 (c1 r hr).1 (fun e => by have := (k.2.2 r hr).mp e; omega)
  have z57 : ∀ sd : Int, 0 ≤ sd → sd ≤ 10 → ∀ r, r < 16 → (rfM (hGm (gZ g)) AI2 sd r).1 = 0 := fun sd h1 h2 r hr => by
    show (AI2 (hGm (gZ g) 57 0) (16 * sd + (r : Int)).toNat).toInt.toNat = 0
    rw [d1 _ (by omega)]; rfl
  refine ⟨(sPlF b n).1, (sPlF b n).2.2.2, lcT b n (sPlF b n).2.1 (sPlF b n).2.2.1, (sPlF b n).2.2.1, ⟨by rw [eq]; exact p3.1, by rw [eq]; exact p4, ⟨k.1, k.2.1, h16⟩, fun r hr => ?_, ⟨p2.1, ⟨k.1, k.2.1⟩, fun r h0 h1 => ?_, fun r hr ht => ⟨?_, hcK r hr ht⟩⟩, fun r hr => ⟨(p2.2 r hr).1, hcl r hr, rfl, (p2.2 r hr).2⟩⟩, ⟨?_, ⟨?_, ?_, ?_⟩, fun r hr => ⟨?_, ?_⟩, hD, ?_⟩, lB_0 ?_⟩
  · obtain ⟨y, a1, a2, a3⟩ := hy r (by omega)
    rw [a3, n1 y 0 a2 (by decide), n2 _ 2 (e_c2 hv0 a2) (by decide)]
    have w := (c1 r hr).2 y a1
    exact lnC_k w.1 (p3.2.2.1 r hr y a1).2 (c1 r hr).1.1 w.2
  · have hr : r.toNat < (sPlF b n).1 := by have := k.2.1; omega
    have w := (p2.2 r.toNat hr).2
    rw [show ((r.toNat : Nat) : Int) = r by omega] at w
    exact w.trans ((k.2.2 r.toNat hr).mpr (by omega))
  · have w := d6 r hr
    exact lnM_k (fun u hu => hcl u (by omega)) (hcl r hr).1 (fun u hu => (p2.2 u (by omega)).1) (p2.2 r hr).2 (p2.2 r hr).1 w.1 w.2 (fun e => by have := (k.2.2 r hr).mp e; omega)
  · have e14 := e_14 hv0 hx.1
    refine eS_0 hcK k.2.1 (by rw [ex]; omega) (fun r hr => ?_) (fun r hr => ⟨z57 0 (by decide) (by decide) r (by omega), ?_⟩) (by rw [ex]; exact c5)
    · have o := (isRA_o hx.2.2.2.2.1 (show r < 16 by omega)).2.1
      show (I2 (rob AR bA r) 3).toInt.toNat = 0
      rw [n1 _ 4 o (by decide), (c2 r (by omega)).1]; rfl
    · show AI2 (hGm (gZ g) 79 0) (16 * 0 + (r : Int)).toNat = 0
      exact d2 _ (by omega)
  · rw [ex, c5, d3]
  · rw [ex]; exact Int32.toInt_inj.mp (by rw [c6, d4])
  · rw [ex]; exact Int32.toInt_inj.mp (by rw [c7, d5])
  · have o := (isRA_o (e_35 hv0 hx.1) (show r < 16 by omega)).2.1
    have e : (rfC (hG (gZ g)) AR I2 AI2 (hG (gZ g) 35 0) r).1 = 0 := by
      show (I2 (rob AR (hG (gZ g) 35 0) r) 3).toInt.toNat = 0
      rw [n1 _ 4 o (by decide), (c2 r (by omega)).2]; rfl
    rw [e]
    exact mv_0 (z57 0 (by decide) (by decide) r (by omega)) (z57 9 (by decide) (by decide) r (by omega))
  · unfold bgOK
    rw [z57 9 (by decide) (by decide) r (by omega)]
    exact ⟨⟨fun i j _ hj => absurd hj (Nat.not_lt_zero j), fun i hi => absurd hi (Nat.not_lt_zero i)⟩, by decide, fun i hi => absurd hi (Nat.not_lt_zero i)⟩
  · have o := e_38 hv0 hx.1
    rw [n1 _ 4 o.1 (by decide), c3 _ o.1 (fun r hr => ra_ne1 hx.2.2.2.2.1 o.2.1 o.2.2 (Or.inl (by decide)) hr) (fun r hr => ra_ne1 (e_35 hv0 hx.1) o.2.1 o.2.2 (Or.inl (by decide)) hr) (fun e => hD.2.2.2.2.2.2.1 e.symm)]
    exact h38
  · rw [n1 _ 4 h179 (by decide)]; exact b0
/-- a plan that is refused -/
theorem lE_pn (hOK : gOK g) (hv0 : gInv (gW g (I, AI)) (ghF 0 (hG (gZ g))) R1 AR I1 AI1) (hx : xS (gW g (I, AI)) (hG (gZ g)) R1 AR (gZ g + 0) pA bA nA) (h : lE8 g I AR AI pA bA nA) (ep : I1 pA = I pA) (ey : ∀ y, gO (gW g (I, AI)) y 0 → hG (gZ g) 4 y = pA → I1 y = I y)
    (pc : (∀ o, gO (gW g (I, AI)) o 4 → I1 o = I o) ∧ (∀ o, hG (gZ g) 9 o = 1 → AI1 o = AI o) ∧ (∀ k, k ≠ 1 → I1 (gZ g + 0) k = I (gZ g + 0) k) ∧ ∀ y, gO (gW g (I, AI)) y 0 → hG (gZ g) 4 y = pA → AI1 (hG (gZ g) 3 y) = AI (hG (gZ g) 3 y))
    (n1 : ∀ b c, gO (gW g (I2, AI2)) b c → c ≠ 7 → I2 b = I1 b) (n2 : ∀ b n, hG (gZ g) 9 b = n → n ≠ 5 → AI2 b = AI1 b) (ht : AI2 (gZ g + 206) = AI1 (gZ g + 206)) (h2 : (I2 (gZ g + 205) 2).toInt = (I1 (gZ g + 205) 2).toInt)
    (pn : AI2 (hGm (gZ g) 57 0) = AI1 (hGm (gZ g) 57 0) ∧ AI2 (hGm (gZ g) 79 0) = AI1 (hGm (gZ g) 79 0) ∧ I2 (gZ g + 205) 8 = I1 (gZ g + 205) 8 ∧ I2 (gZ g + 205) 9 = I1 (gZ g + 205) 9 ∧ I2 (gZ g + 205) 10 = I1 (gZ g + 205) 10) (h56 : AI2 (hGm (gZ g) 56 0) = AI1 (hGm (gZ g) 56 0)) (h179 : gO (gW g (I, AI)) (gZ g + 179) 4) : lE8 g I2 AR AI2 pA bA nA := by
  obtain ⟨nr, tbs, cc, cl, hP, hQ, hB⟩ := h
  obtain ⟨c1, c2, c3, c4⟩ := pc
  have ex : I2 (gZ g + 0) = I1 (gZ g + 0) := n1 _ 6 hx.1 (by decide)
  have emo : I1 (gZ g + 205) = I (gZ g + 205) := e_mo hOK hv0
  have hp := hx.2.2.1
  have k : ∀ b, gO (gW g (I, AI)) b 4 → I1 b = I b ∧ AI1 (hG (gZ g) 0 b) = AI (hG (gZ g) 0 b) := fun b hb => ⟨c1 b hb, c2 _ (e_c1 hv0 hb)⟩
  have fS : cmS (hG (gZ g)) AR (gZ g + 0) bA I AI I1 AI1 := by
    refine ⟨fun r hr => ?_, fun r hr => ?_, fun r hr => ?_⟩
    · have w := k _ (isRA_o hx.2.2.2.2.1 hr).2.1
      exact rfC_k w.1 w.2
    · have w := k _ (isRA_o (e_35 hv0 hx.1) hr).2.1
      exact rfC_k w.1 w.2
    · have w := k _ (isRA_o (e_36 hv0 hx.1) hr).2.1
      exact rfC_k w.1 w.2
  refine ⟨nr, tbs, cc, cl, ?_, lQ_k hOK hv0 hx hP hQ fS ⟨c3 14 (by decide), c3 15 (by decide)⟩ (by rw [c1 _ (e_38 hv0 hx.1).1]) n1 n2 (fun sd _ _ r _ => congrFun (rsM_g (gh := hGm (gZ g)) (sd := sd) h56 pn.1 pn.2.1) r) pn.2.2.1 ?_, ?_⟩
  · obtain ⟨a1, a2, a3, a4, a5, a6⟩ := hP
    have ep : I2 pA = I pA := (n1 pA 2 hp (by decide)).trans ep
    have et : AI2 (gZ g + 206) = AI (gZ g + 206) := ht.trans (e_t5 hv0 (o := 206) (by decide +kernel))
    unfold lP8
    rw [ep, et, h2, emo]
    refine ⟨a1, a2, a3, fun r hr => ?_, a5, a6⟩
    obtain ⟨y, b1, b2, b3, _⟩ := (hv0.2.2.2.1 pA hp).1.2.2.1 r (by omega)
    have b1 : AR (hG (gZ g) 6 pA) r = some y := b1
    have er : rob AR (hG (gZ g) 6 pA) r = y := rob_e b1
    have w := a4 r hr
    rw [er] at w ⊢
    rw [(n1 y 0 b2 (by decide)).trans (ey y b2 b3), (n2 _ 2 (e_c2 hv0 b2) (by decide)).trans (c4 y b2 b3)]
    exact w
  · rw [ex, c3 16 (by decide), c3 17 (by decide), pn.2.2.2.1, pn.2.2.2.2, emo]; exact hQ.2.1.2
  · exact lB_k (by rw [n1 _ 4 h179 (by decide), c1 _ h179]) ((n2 _ 1 (e_c1 hv0 h179) (by decide)).trans (c2 _ (e_c1 hv0 h179))) _ _ hB
end LE8
end
section
/-! what a call of the class leaves of its engine -/
def kC8 (g : gG) (AR : gR) (bA : Nat) (I AI I1 AI1 : gI) : Prop :=
  (∀ y, gO (gW g (I, AI)) y 0 → AI1 (hG (gZ g) 3 y) = AI (hG (gZ g) 3 y)) ∧ cmS (hG (gZ g)) AR (gZ g + 0) bA I AI I1 AI1 ∧ (∀ j, j ≠ 1 → I1 (gZ g + 0) j = I (gZ g + 0) j) ∧ I1 (hG (gZ g) 38 0) 3 = I (hG (gZ g) 38 0) 3
section KC8
variable {g : gG} {I AI I1 AI1 I2 AI2 I0 AI0 : gI} {R R1 R2 AR : gR} {pA bA nA : Nat}
theorem kC_r : kC8 g AR bA I AI I AI := ⟨fun _ _ => rfl, cS_r, fun _ _ => rfl, rfl⟩
theorem c29_0 : hG (gZ g) 9 (gZ g + 187) = 0 := hG9.trans (by decide +kernel)
theorem kC_x (hv : gInv (gW g (I, AI)) (ghF 0 (hG (gZ g))) R AR I0 AI0) (hx : xS (gW g (I, AI)) (hG (gZ g)) R1 AR (gZ g + 0) pA bA nA) (f1 : ∀ b, b ≠ gZ g + 0 → I1 b = I b) (f2 : ∀ j, j ≠ 1 → I1 (gZ g + 0) j = I (gZ g + 0) j) : kC8 g AR bA I AI I1 AI := by
  have k : ∀ b, gO (gW g (I, AI)) b 4 → I1 b = I b := fun b hb => f1 b (gO_ne hb hx.1 (by decide))
  refine ⟨fun _ _ => rfl, ⟨fun r hr => ?_, fun r hr => ?_, fun r hr => ?_⟩, f2, by rw [k _ (e_38 hv hx.1).1]⟩
  · exact rfC_k (k _ (isRA_o hx.2.2.2.2.1 hr).2.1) rfl
  · exact rfC_k (k _ (isRA_o (e_35 hv hx.1) hr).2.1) rfl
  · exact rfC_k (k _ (isRA_o (e_36 hv hx.1) hr).2.1) rfl
theorem kC_29 (hv : gInv (gW g (I, AI)) (ghF 0 (hG (gZ g))) R AR I0 AI0) (hx : xS (gW g (I, AI)) (hG (gZ g)) R1 AR (gZ g + 0) pA bA nA) (f3 : ∀ b, b ≠ gZ g + 187 → AI1 b = AI b) : kC8 g AR bA I AI I AI1 :=
  ⟨fun y hy => f3 _ (ne_9 (e_c2 hv hy) c29_0 (by decide)), cS_29 hv hx (fun b hb => f3 b (ne_9 hb c29_0 (by decide))), fun _ _ => rfl, rfl⟩
theorem kC_37 (hv : gInv (gW g (I, AI)) (ghF 0 (hG (gZ g))) R AR I0 AI0) (hx : xS (gW g (I, AI)) (hG (gZ g)) R1 AR (gZ g + 0) pA bA nA) (hD : xD (hG (gZ g)) AR bA nA) (ho : gO (gW g (I, AI)) (gZ g + 179) 4) (f1 : ∀ b, b ≠ gZ g + 179 → I1 b = I b) (f3 : ∀ b, b ≠ gZ g + 187 → b ≠ gZ g + 180 → AI1 b = AI b) : kC8 g AR bA I AI I1 AI1 := by
  have c180 : hG (gZ g) 9 (gZ g + 180) = 1 := hG9.trans (by decide +kernel)
  refine ⟨fun y hy => f3 _ (ne_9 (e_c2 hv hy) c29_0 (by decide)) (ne_9 (e_c2 hv hy) c180 (by decide)), cS_37 hv hx ho (fun b _ hn => f1 b hn) (fun b hb hn => f3 b (ne_9 hb c29_0 (by decide)) hn), fun j _ => ?_, ?_⟩
  · rw [f1 _ (gO_ne hx.1 ho (by decide))]
  · rw [f1 _ (fun e => hD.2.2.2.2.2.2.1 e.symm)]
theorem kC_40 (hv : gInv (gW g (I, AI)) (ghF 0 (hG (gZ g))) R AR I0 AI0) (hx : xS (gW g (I, AI)) (hG (gZ g)) R1 AR (gZ g + 0) pA bA nA) (hD : xD (hG (gZ g)) AR bA nA) (f1 : ∀ b, b ≠ hG (gZ g) 40 0 → I1 b = I b) (f3 : ∀ b, b ≠ gZ g + 187 → b ≠ hG (gZ g) 0 (hG (gZ g) 40 0) → AI1 b = AI b) : kC8 g AR bA I AI I1 AI1 := by
  have o := e_40 hv hx.1
  have o8 := e_38 hv hx.1
  have c1 := e_c1 hv o.1
  refine ⟨fun y hy => f3 _ (ne_9 (e_c2 hv hy) c29_0 (by decide)) (ne_9 (e_c2 hv hy) c1 (by decide)), cS_40 hv hx hD (fun b _ hn => f1 b hn) (fun b hb hn => f3 b (ne_9 hb c29_0 (by decide)) hn), fun j _ => ?_, ?_⟩
  · rw [f1 _ (gO_ne hx.1 o.1 (by decide))]
  · rw [f1 _ (fun e => by have a := o8.2.2; rw [e, o.2.2] at a; exact absurd a (by decide))]
theorem kC_w (fA : ∀ y, gO (gW g (I, AI)) y 0 → AI1 (hG (gZ g) 3 y) = AI (hG (gZ g) 3 y)) (fS : cmS (hG (gZ g)) AR (gZ g + 0) bA I AI I1 AI1) (fx : I1 (gZ g + 0) = I (gZ g + 0)) (f38 : I1 (hG (gZ g) 38 0) = I (hG (gZ g) 38 0)) : kC8 g AR bA I AI I1 AI1 :=
  ⟨fA, fS, fun j _ => by rw [fx], by rw [f38]⟩
/-- the engine over a call of both that leaves it as it was -/
theorem lE_k8 (hOK : gOK g) (hv0 : gInv (gW g (I, AI)) (ghF 0 (hG (gZ g))) R1 AR I1 AI1) (hx : xS (gW g (I, AI)) (hG (gZ g)) R1 AR (gZ g + 0) pA bA nA) (h : lE8 g I AR AI pA bA nA) (fI : ∀ b c, gO (gW g (I, AI)) b c → c ≠ 4 → c ≠ 6 → I1 b = I b) (k : kC8 g AR bA I AI I1 AI1) (hmv2 : mInv (gW g (I1, AI1)) (hGm (gZ g)) R2 I2 AI2) (ht : AI2 (gZ g + 206) = AI1 (gZ g + 206)) (h2 : (I2 (gZ g + 205) 2).toInt = (I1 (gZ g + 205) 2).toInt)
    (hs : ∀ sd : Int, 0 ≤ sd → sd ≤ 9 → sE8 (rsM (hGm (gZ g)) AI2 sd) (rsM (hGm (gZ g)) AI1 sd)) (h8 : I2 (gZ g + 205) 8 = I1 (gZ g + 205) 8 ∧ I2 (gZ g + 205) 9 = I1 (gZ g + 205) 9 ∧ I2 (gZ g + 205) 10 = I1 (gZ g + 205) 10) (hb : ∀ tbs cl, lB8 g I AI tbs cl → lB8 g I2 AI2 tbs cl) : lE8 g I2 AR AI2 pA bA nA :=
  lE_k hOK hv0 hx h fI k.1 k.2.1 k.2.2.1 k.2.2.2 (e_n1 hmv2) (e_n2 hmv2) ht h2 hs h8 hb
/-- the batch over such a call -/
theorem lB_m (hOK : gOK g) (hv1 : gInv (gW g (I, AI)) (hG (gZ g)) R AR I1 AI1) (hmv2 : mInv (gW g (I1, AI1)) (hGm (gZ g)) R2 I2 AI2) : ∀ tbs cl, lB8 g I AI tbs cl → lB8 g I2 AI2 tbs cl := by
  have b := (hv1.2.2.2.2.2.2.2.2.2.2 rfl).2.2
  have b1 : I1 (gZ g + 179) 3 = I (gZ g + 179) 3 := b.1
  have b2 : AI1 (gZ g + 180) = AI (gZ g + 180) := b.2
  have o : gO (gW g (I2, AI2)) (gZ g + 179) 4 := gO_i hOK (o := 179) (by decide) (by decide +kernel)
  exact lB_k (by rw [e_n1 hmv2 _ 4 o (by decide)]; exact b1) ((e_n2 hmv2 _ 1 (hG9.trans (by decide +kernel)) (by decide)).trans b2)
theorem lB_m0 (hOK : gOK g) (hmv2 : mInv (gW g (I1, AI1)) (hGm (gZ g)) R2 I2 AI2) (b0 : (I1 (gZ g + 179) 3).toInt = 0) : ∀ tbs cl, lB8 g I AI tbs cl → lB8 g I2 AI2 tbs cl := fun _ _ _ => by
  have o : gO (gW g (I2, AI2)) (gZ g + 179) 4 := gO_i hOK (o := 179) (by decide) (by decide +kernel)
  exact lB_0 (by rw [e_n1 hmv2 _ 4 o (by decide)]; exact b0)
/-- both have been fed -/
theorem lE_fd (hOK : gOK g) (hv : gInv (gW g (I, AI)) (ghF 0 (hG (gZ g))) R AR I AI) (hx : xS (gW g (I, AI)) (hG (gZ g)) R AR (gZ g + 0) pA bA nA) (h : lE8 g I AR AI pA bA nA) (e1 : ∀ b, b ≠ gZ g + 0 → b ≠ gZ g + 205 → I2 b = I b) (e2 : ∀ j, j ≠ 1 → I2 (gZ g + 0) j = I (gZ g + 0) j) (e3 : ∀ j, j ≠ 16 → j ≠ 17 → I2 (gZ g + 205) j = I (gZ g + 205) j) (e4 : ∀ b, b ≠ gZ g + 1 → b ≠ gZ g + 215 → AI2 b = AI b) : lE8 g I2 AR AI2 pA bA nA := by
  obtain ⟨nr, tbs, cc, cl, hP, hQ, hB⟩ := h
  have o5 : gO (gW g (I, AI)) (gZ g + 205) 7 := gO_i hOK (o := 205) (by decide) (by decide +kernel)
  have o9 : gO (gW g (I, AI)) (gZ g + 179) 4 := gO_i hOK (o := 179) (by decide) (by decide +kernel)
  have k : ∀ b c, gO (gW g (I, AI)) b c → c ≠ 6 → c ≠ 7 → I2 b = I b := fun b c hb h6 h7 => e1 b (gO_ne hb hx.1 h6) (gO_ne hb o5 h7)
  have c5 : ∀ o, (o = 1 ∨ o = 215) → hG (gZ g) 9 (gZ g + o) = 5 := fun o ho => by rcases ho with rfl | rfl <;> exact hG9.trans (by decide +kernel)
  have ka : ∀ b n, hG (gZ g) 9 b = n → n ≠ 5 → AI2 b = AI b := fun b n hb hn => e4 b (ne_9 hb (c5 1 (by decide)) hn) (ne_9 hb (c5 215 (by decide)) hn)
  have kA : ∀ o, o ≠ 1 → o ≠ 215 → AI2 (gZ g + o) = AI (gZ g + o) := fun o h1 h2 => e4 _ (by omega) (by omega)
  have hp := hx.2.2.1
  have k4 : ∀ b, gO (gW g (I, AI)) b 4 → I2 b = I b ∧ AI2 (hG (gZ g) 0 b) = AI (hG (gZ g) 0 b) := fun b hb => ⟨k b 4 hb (by decide) (by decide), ka _ 1 (e_c1 hv hb) (by decide)⟩
  have er : rsM (hGm (gZ g)) AI2 = rsM (hGm (gZ g)) AI := funext fun sd => rsM_g (kA 210 (by decide) (by decide)) (kA 211 (by decide) (by decide)) (kA 219 (by decide) (by decide))
  have h16 := hP.2.2.1.2.2
  refine ⟨nr, tbs, cc, cl, ?_, ⟨?_, ?_, fun r hr => ?_, hQ.2.2.2.1, ?_⟩, ?_⟩
  · unfold lP8
    rw [k pA 2 hp (by decide) (by decide), kA 206 (by decide) (by decide), e3 2 (by decide) (by decide)]
    refine ⟨hP.1, hP.2.1, hP.2.2.1, fun r hr => ?_, hP.2.2.2.2.1, hP.2.2.2.2.2⟩
    have hy : gO (gW g (I, AI)) (rob AR (hG (gZ g) 6 pA) r) 0 := gl_o (gh := ghF 0 (hG (gZ g))) hv hp (by omega)
    rw [k _ 0 hy (by decide) (by decide), ka _ 2 (e_c2 hv hy) (by decide)]
    exact hP.2.2.2.1 r hr
  · rw [er]
    refine eS_c (e_cLt hP) hP.2.2.1.2.1 h16 hQ.1 (fun r hr => ?_) (fun q hq => ?_) (fun _ _ _ _ _ => rfl) (by rw [e2 14 (by decide)]) (by rw [e2 15 (by decide)])
    · have w := k4 _ (isRA_o hx.2.2.2.2.1 (show r < 16 by omega)).2.1
      exact rfC_k w.1 w.2
    · have w := k4 _ (isRA_o (e_36 hv hx.1) hq).2.1
      exact rfC_k w.1 w.2
  · rw [e2 15 (by decide), e2 16 (by decide), e2 17 (by decide), e3 8 (by decide) (by decide), e3 9 (by decide) (by decide), e3 10 (by decide) (by decide)]
    exact hQ.2.1
  · have w := k4 _ (isRA_o (e_35 hv hx.1) (show r < 16 by omega)).2.1
    rw [rfC_k w.1 w.2, er, show rfM (hGm (gZ g)) AI2 = rfM (hGm (gZ g)) AI from funext fun sd => rfM_g (kA 210 (by decide) (by decide)) (kA 211 (by decide) (by decide))]
    exact hQ.2.2.1 r hr
  · rw [(k4 _ (e_38 hv hx.1).1).1]; exact hQ.2.2.2.2
  · exact lB_k (by rw [(k4 _ o9).1]) (kA 180 (by decide) (by decide)) _ _ hB
end KC8
end
section
/-! the engine at the start -/
section St8
variable {g : gG}
theorem s_rob {b n j : Nat} (h : ∀ j, j < n → cA 341 b j = some (b + 1 + 2 * j) ∧ kT (b + 1 + 2 * j) = 4 ∧ b + 1 + 2 * j < 223) (hj : j < n) : rob (wA g 341) (gZ g + b) j = gZ g + (b + 1 + 2 * j) := rob_e (wA_at (h j hj).1)
theorem s_xD : xD (hG (gZ g)) (wA g 341) (gZ g + 80) (gZ g + 113) := by
  have e35 : hG (gZ g) 35 0 = gZ g + 146 := rfl
  have e36 : hG (gZ g) 36 0 = gZ g + 188 := rfl
  have e37 : hG (gZ g) 37 0 = gZ g + 179 := rfl
  have e38 : hG (gZ g) 38 0 = gZ g + 181 := rfl
  have e40 : hG (gZ g) 40 0 = gZ g + 185 := rfl
  unfold xD
  rw [e35, e36, e37, e38, e40]
  refine ⟨fun i j hi hj e => ?_, fun i j hi hj e => ?_, fun i j hi hj e => ?_, fun i j hi hj e => ?_, fun i j hi hj e => ?_, fun i hi e => ?_, by omega, fun i hi e => ?_⟩
  · rw [s_rob tB80 hi, s_rob tB80 hj] at e; omega
  · rw [s_rob tB113 hi, s_rob tB113 hj] at e; omega
  · rw [s_rob tB80 hi, s_rob tB113 hj] at e; omega
  · rw [s_rob tB146 hi, s_rob tB146 hj] at e; omega
  · rw [s_rob tB188 hi, s_rob tB188 hj] at e; omega
  · rw [s_rob tB188 hi] at e; omega
  · rw [s_rob tB146 hi] at e; omega
theorem s_E8 : lE8 g (wI g 341) (wA g 341) zA (gZ g + 42) (gZ g + 80) (gZ g + 113) := by
  have i0 : ∀ o k, cI 341 o k = 0 → (wI g 341 (gZ g + o) k).toInt = 0 := fun o k h => by rw [wI_0 h]; rfl
  have e38 : hG (gZ g) 38 0 = gZ g + 181 := rfl
  refine ⟨0, 0, fun _ => (fun _ => 0, fun _ _ => 0), fun _ => 0, ⟨i0 42 1 (by decide +kernel), i0 42 2 (by decide +kernel), ⟨Int.le_refl 0, Int.le_refl 0, by decide⟩, fun r hr => absurd hr (Nat.not_lt_zero r), ⟨i0 205 2 (by decide +kernel), ⟨Int.le_refl 0, Int.le_refl 0⟩, fun r h0 h1 => absurd h1 (by omega), fun r hr => absurd hr (Nat.not_lt_zero r)⟩, fun r hr => absurd hr (Nat.not_lt_zero r)⟩, ⟨?_, ⟨?_, ?_, ?_⟩, fun r hr => absurd hr (Nat.not_lt_zero r), s_xD, ?_⟩, lB_0 (i0 179 3 (by decide +kernel))⟩
  · exact eS_0 (fun r hr => absurd hr (Nat.not_lt_zero r)) (Int.le_refl 0) (by rw [i0 0 14 (by decide +kernel)]; decide) (fun r hr => absurd hr (Nat.not_lt_zero r)) (fun r hr => absurd hr (Nat.not_lt_zero r)) (i0 0 15 (by decide +kernel))
  · rw [i0 0 15 (by decide +kernel), i0 205 8 (by decide +kernel)]
  · rw [wI_0 (o := 0) (k := 16) (by decide +kernel), wI_0 (o := 205) (k := 9) (by decide +kernel)]
  · rw [wI_0 (o := 0) (k := 17) (by decide +kernel), wI_0 (o := 205) (k := 10) (by decide +kernel)]
  · rw [e38]; exact i0 181 3 (by decide +kernel)
end St8
end
