/-! the engine's state on both sides, as the law keeps it: a side is its relations and the rounds of its rings -/
abbrev SR8 : Type := Nat → (Nat × (Nat → Int32)) × Int32
def sF8 (s : SR8) : RF := fun r => (s r).1
def sM8 (s : SR8) : Nat → Int32 := fun r => (s r).2
def oS8 (F : RF) (r : Nat) : Tup → Int32 := fun t => bS (F r).2 (F r).1 t
def rG8 (tbs : Int) (cl : Nat → Int) (f : Nat → Int32) (i : Nat) : Prop := f (6 * i + 5) ≠ 0 ∧ zT (cl (f (6 * i)).toInt.toNat) (btu f i) ∧ 0 ≤ (f (6 * i)).toInt ∧ (f (6 * i)).toInt < tbs
/-- a batch -/
def bG8 (tbs : Int) (cl : Nat → Int) (f : Nat → Int32) (n : Nat) : Prop := srt 5 f (n : Int) ∧ ∀ i, i < n → rG8 tbs cl f i
/-- good relations: tables never below 0, views as reckoned -/
def gF8 (tbs : Int) (cc : Nat → LC) (cl : Nat → Int) (nr : Nat) (F : RF) : Prop := stA tbs cc (oS8 F) cl F nr ∧ ∀ r : Nat, (r : Int) < tbs → ∀ t, 0 ≤ (oS8 F r t).toInt
def gd8 (tbs : Int) (cc : Nat → LC) (cl : Nat → Int) (nr : Nat) (s : SR8) : Prop := gF8 tbs cc cl nr (sF8 s) ∧ rdA tbs cc (sF8 s) (sM8 s) nr
/-- a batch leads from one to the next -/
def st8 (tbs : Int) (cl : Nat → Int) (F F' : RF) (h : Nat × (Nat → Int32)) : Prop := bG8 tbs cl h.2 h.1 ∧ ∀ r : Nat, (r : Int) < tbs → ∀ t, oS8 F' r t = oS8 F r t + cS h.2 (r : Int) h.1 t
def nx8 (S : Int → SR8) (u k : Int) : SR8 := if k + 1 = u then S 0 else S (2 + k)
def eS8 (tbs : Int) (nr : Nat) (cc : Nat → LC) (cl : Nat → Int) (N H : RF) (S : Int → SR8) (e u : Int) : Prop :=
  ((0 ≤ e ∧ e < 8) ∧ 0 ≤ u ∧ u ≤ 8) ∧ (∀ r, r < nr → rfA N (sF8 (S 0)) r) ∧ gd8 tbs cc cl nr (S 0) ∧
  ∀ k : Int, 0 ≤ k → k < u → gd8 tbs cc cl nr (S (1 + k)) ∧ st8 tbs cl (sF8 (S (1 + k))) (sF8 (nx8 S u k)) (H ((e + 8 - u + k) % 8).toNat)
section ES8
variable {tbs sg : Int} {nr n nb q r : Nat} {cc : Nat → LC} {cl : Nat → Int} {F F' N N' H H' F0 F1 : RF} {S S' : Int → SR8} {s s' : SR8} {e u e' u' z z' : Int} {f f' : Nat → Int32} {T T' : Nat → Tup → Int32} {bl bl' : Prop} {h h' : Nat × (Nat → Int32)} {t : Tup}
/-! batches -/
theorem bG_o (h : bG8 tbs cl f n) : btO f n := ⟨h.1, fun i hi => (h.2 i hi).1⟩
theorem bG_z (h : bG8 tbs cl f n) : btZ cl f n := fun i hi => (h.2 i hi).2.1
theorem bG_t (h : bG8 tbs cl f n) : ∀ i, i < n → 0 ≤ (f (6 * i)).toInt ∧ (f (6 * i)).toInt < tbs := fun i hi => (h.2 i hi).2.2
theorem bG_0 : bG8 tbs cl f 0 := ⟨fun i j _ hj => absurd hj (by omega), fun i hi => absurd hi (Nat.not_lt_zero i)⟩
theorem rG_m {i i' : Nat} (h : rG8 tbs cl f i) (a : ∀ t, t < 6 → f' (6 * i' + t) = f (6 * i + t)) : rG8 tbs cl f' i' := by
  have e : btu f' i' = btu f i := by unfold btu; rw [a 1 (by omega), a 2 (by omega), a 3 (by omega), a 4 (by omega)]
  have e0 : f' (6 * i') = f (6 * i) := a 0 (by omega)
  unfold rG8
  rw [a 5 (by omega), e, e0]; exact h
theorem srt_c {K : Nat} (hK : K ≤ 6) (h : srt K f (n : Int)) (e : ∀ j, j < 6 * n → f' j = f j) : srt K f' (n : Int) := fun i j hij hj => by
  have a : ∀ i, i < n → ∀ t, t < K → ry6 f' i t = ry6 f i t := fun i hi t ht => by rw [ry6_e, ry6_e, e _ (by omega)]
  rw [kc_c (a i (by omega)) (a j (by omega))]
  exact h i j hij hj
theorem bG_c (h : bG8 tbs cl f n) (e : ∀ j, j < 6 * n → f' j = f j) : bG8 tbs cl f' n := ⟨srt_c (by decide) h.1 e, fun i hi => rG_m (h.2 i hi) (fun t ht => e _ (by omega))⟩
theorem ch_G {u : Nat → Int} {tb n z len len1 a b c d : Int} (hcl : ∀ r : Nat, (r : Int) < tbs → 1 ≤ cl r) (h0 : 0 ≤ len) (hG : ∀ i : Nat, (i : Int) < len → rG8 tbs cl f i) (eu : 0 ≤ tb → tb < tbs → u = cky tb a b c d (cl tb.toNat)) (q : chP tbs tb n z len len1 f f' u) : ∀ i : Nat, (i : Int) < len1 → rG8 tbs cl f' i := by
  rcases q with ⟨_, _, a3, a4⟩ | ⟨q1, zz, q2, _⟩
  · rw [a3, a4]; exact hG
  · have eu := eu q1.1 q1.2.1
    rcases q2 with ⟨p, c1, c2, c3⟩ | ⟨r, c1, c2, c3, c4⟩
    · rcases c3 with ⟨y1, _⟩ | ⟨_, _, _, y4, y5⟩ | ⟨y1, y2, y3, y4, y5⟩
      · exact absurd y1 (by omega)
      · rw [y4, y5]; exact hG
      · have hp : p ≤ len := by
          rcases c1 with ⟨x1, _⟩ | ⟨x1, x2, _⟩ <;> omega
        obtain ⟨i1, i2, i3, -, i5⟩ := y5
        intro i hi
        by_cases w : (i : Int) < p
        · exact rG_m (hG i (by omega)) (fun t ht => i1 _ (by omega))
        · by_cases v : (i : Int) = p
          · have e0 : (f' (6 * i)).toInt = tb := by
              have k := i2 0 (by omega)
              rw [eu, show (6 * p).toNat + 0 = 6 * i by omega] at k; exact k
            have ek : ∀ k, k < 4 → (tg (btu f' i) k).toInt = u (1 + k) := fun k hk => by
              have m := i2 (1 + k) (by omega)
              rw [btu_at hk, ← m, show (6 * p).toNat + (1 + k) = 6 * i + 1 + k by omega]
            refine ⟨?_, ?_, by omega, by omega⟩
            · rw [show 6 * i + 5 = (6 * p).toNat + 5 by omega, i3]
              intro k
              have k1 := congrArg Int32.toInt k
              rw [iI_val ⟨by omega, by omega⟩] at k1
              exact y1 k1
            · intro k h1 h2
              rw [e0] at h1
              have hc := hcl tb.toNat (by omega)
              apply Int32.toInt_inj.mp
              rw [ek k h2, eu]
              match k, h1, h2 with
              | 0, h1, _ => exact absurd h1 (by omega)
              | 1, h1, _ => show (if 1 < cl tb.toNat then b else 0) = 0; exact if_neg (by omega)
              | 2, h1, _ => show (if 2 < cl tb.toNat then c else 0) = 0; exact if_neg (by omega)
              | 3, h1, _ => show (if 3 < cl tb.toNat then d else 0) = 0; exact if_neg (by omega)
              | k + 4, _, h2 => exact absurd h2 (by omega)
          · obtain ⟨k, rfl⟩ : ∃ k, i = k + 1 := ⟨i - 1, by omega⟩
            exact rG_m (hG k (by omega)) (fun t ht => by rw [← i5 (6 * k + t) (by omega) (by omega), show 6 * (k + 1) + t = 6 * k + t + 6 by omega])
    · have hr : r < len := by
        rcases c1 with ⟨_, x, _⟩ | ⟨x, _⟩ <;> omega
      rcases c4 with ⟨_, y2, y3⟩ | ⟨y1, y2, y3⟩
      · rw [y2]
        intro i hi
        by_cases w : (i : Int) < r
        · exact rG_m (hG i (by omega)) (fun t ht => y3.1 _ (by omega))
        · exact rG_m (hG (i + 1) (by omega)) (fun t ht => by rw [y3.2 _ (by omega) (by omega), show 6 * i + t + 6 = 6 * (i + 1) + t by omega])
      · rw [y2]
        intro i hi
        by_cases w : (i : Int) = r
        · have g := hG i hi
          have e5 : f' (6 * i + 5) = iI ((f ((6 * r).toNat + 5)).toInt + n) := by rw [← y3.2, show 6 * i + 5 = (6 * r).toNat + 5 by omega]
          have eo : ∀ j, j ≠ 6 * i + 5 → f' j = f j := fun j hj => y3.1 j (by omega)
          have eb : btu f' i = btu f i := by unfold btu; rw [eo _ (by omega), eo _ (by omega), eo _ (by omega), eo _ (by omega)]
          refine ⟨by rw [e5]; exact y1, ?_⟩
          rw [eb, eo (6 * i) (by omega)]
          exact g.2
        · exact rG_m (hG i hi) (fun t ht => y3.1 _ (by omega))
/-! sums -/
theorem i1_m (x : Int32) : iI 1 * x = x := by rw [show (iI 1 : Int32) = 1 from rfl, Int32.one_mul]
theorem in_m (x : Int32) : iI (-1) * x = -x := by
  rw [show (iI (-1) : Int32) = -1 from by decide, Int32.neg_mul, Int32.one_mul]
theorem oS_c (h : rfA F F' r) : oS8 F r = oS8 F' r := funext fun t => by unfold oS8; rw [← h.1]; exact bS_c _ h.2
theorem tb_1 : tbS f n F 1 r = fun t => oS8 F r t + cS f (r : Int) n t := funext fun t => by
  show oS8 F r t + iI 1 * _ = _
  rw [i1_m]
theorem tb_m : tbS f n F (-1) r = fun t => oS8 F r t - cS f (r : Int) n t := funext fun t => by
  show oS8 F r t + iI (-1) * _ = _
  rw [in_m, Int32.sub_eq_add_neg]
theorem tb_c (h : rfA F F' r) : tbS f n F sg r = tbS f n F' sg r := funext fun t => by
  show oS8 F r t + _ = oS8 F' r t + _
  rw [oS_c h]
theorem bl_at {i : Nat} : blw f F sg i ↔ (oS8 F (f (6 * i)).toInt.toNat (btu f i) + iI sg * f (6 * i + 5)).toInt < 0 := Iff.rfl
theorem bl_c (hG : bG8 tbs cl f n) (ht : tbs ≤ (nr : Int)) (h : ∀ r, r < nr → rfA F F' r) : (∃ i, i < n ∧ blw f F sg i) ↔ ∃ i, i < n ∧ blw f F' sg i := by
  have k : ∀ i, i < n → (blw f F sg i ↔ blw f F' sg i) := fun i hi => by
    have w := (hG.2 i hi).2.2
    rw [bl_at, bl_at, oS_c (h _ (by omega))]
  exact ⟨fun ⟨i, a, b⟩ => ⟨i, a, (k i a).mp b⟩, fun ⟨i, a, b⟩ => ⟨i, a, (k i a).mpr b⟩⟩
theorem cS_i (hG : bG8 tbs cl f n) {i : Nat} (hi : i < n) : cS f (((f (6 * i)).toInt.toNat : Nat) : Int) n (btu f i) = f (6 * i + 5) := by
  have w := (hG.2 i hi).2.2
  exact cS_y hG.1 n (Nat.le_refl _) hi (by omega)
theorem bl_no (hG : bG8 tbs cl f n) (h : ¬ ∃ i, i < n ∧ blw f F 1 i) (h0 : 0 ≤ (oS8 F r t).toInt) : 0 ≤ (oS8 F r t + cS f (r : Int) n t).toInt := by
  by_cases w : ∃ i, i < n ∧ (f (6 * i)).toInt = (r : Int) ∧ btu f i = t
  · obtain ⟨i, a, b, c⟩ := w
    have k : ¬ blw f F 1 i := fun k => h ⟨i, a, k⟩
    have q := (hG.2 i a).2.2
    rw [bl_at, show (f (6 * i)).toInt.toNat = r by omega, c, i1_m] at k
    have y := cS_y hG.1 n (Nat.le_refl _) a b
    rw [c] at y
    rw [y]; omega
  · rw [cS_n n (fun j hj k => w ⟨j, hj, k⟩), Int32.add_zero]; exact h0
/-! congruence -/
theorem stP_T (e : (q : Int) < tbs → T' q = T q) (h : stP tbs cc T F q) : stP tbs cc T' F q := by
  unfold stP at h ⊢
  by_cases w : (q : Int) < tbs
  · rw [if_pos w] at h ⊢; rw [e w]; exact h
  · rw [if_neg w] at h ⊢; exact h
theorem stF_T (e : (q : Int) < tbs → T' q = T q) (h : stF tbs cc T F q z) : stF tbs cc T' F q z := by
  unfold stF at h ⊢
  by_cases w : (q : Int) < tbs
  · rw [if_pos w] at h ⊢; rw [e w]; exact h
  · rw [if_neg w] at h ⊢; exact h
theorem stA_T (e : ∀ q, q < nr → (q : Int) < tbs → T' q = T q) (h : stA tbs cc T cl F nr) : stA tbs cc T' cl F nr := fun q hq => ⟨stP_T (e q hq) (h q hq).1, (h q hq).2⟩
theorem rnP_T (hb : bl' ↔ bl) (e : ∀ q, q < nr → (q : Int) < tbs → T' q = T q) (h : rnP tbs nr cc bl T z F) : rnP tbs nr cc bl' T' z F := by
  rcases h with ⟨a, b⟩ | ⟨a, r, h1, h2, h3⟩
  · exact Or.inl ⟨hb.mpr a, b⟩
  · refine Or.inr ⟨fun k => a (hb.mp k), r, h1, fun q hq => stP_T (e q (by omega)) (h2 q hq), ?_⟩
    rcases h3 with h3 | ⟨a, b⟩
    · exact Or.inl h3
    · exact Or.inr ⟨a, stF_T (e r a) b⟩
theorem rn_all (h : rnP tbs nr cc bl T 0 F) : ¬ bl ∧ ∀ q, q < nr → stP tbs cc T F q := by
  rcases h with ⟨_, b⟩ | ⟨a, r, h1, h2, h3⟩
  · exact absurd b (by decide)
  · rcases h3 with ⟨rfl, _⟩ | ⟨h4, h5⟩
    · exact ⟨a, h2⟩
    · unfold stF at h5
      by_cases w : (r : Int) < tbs
      · rw [if_pos w] at h5; exact absurd h5.1 (by decide)
      · rw [if_neg w] at h5; exact absurd rfl h5.1
theorem rn_of (hb : ¬ bl) (h : ∀ q, q < nr → stP tbs cc T F q) : rnP tbs nr cc bl T 0 F := Or.inr ⟨hb, nr, Nat.le_refl _, h, Or.inl ⟨rfl, rfl⟩⟩
theorem st_tbS (h : stP tbs cc T F q) (hq : (q : Int) < tbs) : oS8 F q = T q := by
  unfold stP at h
  rw [if_pos hq] at h
  exact bS_B h.1
theorem oS_e (e : F' r = F r) : oS8 F' r = oS8 F r := by unfold oS8; rw [e]
theorem gF8_c (hl : cLt tbs nr cc) (ht : tbs ≤ (nr : Int)) (e : ∀ r, r < nr → F' r = F r) (h : gF8 tbs cc cl nr F) : gF8 tbs cc cl nr F' :=
  ⟨stA_T (fun q hq _ => oS_e (e q hq)) (st_up hl (Nat.le_refl _) e h.1), fun r hr t => by rw [oS_e (e r (by omega))]; exact h.2 r hr t⟩
theorem gd_c (hl : cLt tbs nr cc) (ht : tbs ≤ (nr : Int)) (h16 : nr ≤ 16) (e : ∀ r, r < 16 → s' r = s r) (h : gd8 tbs cc cl nr s) : gd8 tbs cc cl nr s' :=
  ⟨gF8_c hl ht (fun r hr => congrArg Prod.fst (e r (by omega))) h.1, rd_up hl (Nat.le_refl _) (fun q hq => congrArg Prod.fst (e q (by omega))) (fun q hq => congrArg Prod.snd (e q (by omega))) h.2⟩
theorem st_c (ht : tbs ≤ (nr : Int)) (h16 : nr ≤ 16) (e0 : ∀ r, r < 16 → F r = N r) (e1 : ∀ r, r < 16 → F' r = N' r) (eh : h'.1 = h.1 ∧ ∀ j, j < 6 * h.1 → h'.2 j = h.2 j) (k : st8 tbs cl N N' h) : st8 tbs cl F F' h' := by
  refine ⟨by rw [eh.1]; exact bG_c k.1 eh.2, fun r hr t => ?_⟩
  rw [oS_e (e0 r (by omega)), oS_e (e1 r (by omega)), eh.1, cS_c _ eh.2]
  exact k.2 r hr t
def sE8 (s' s : SR8) : Prop := ∀ r, r < 16 → s' r = s r
def hE8 (h' h : Nat × (Nat → Int32)) : Prop := h'.1 = h.1 ∧ ∀ j, j < 6 * h.1 → h'.2 j = h.2 j
theorem hE_r : hE8 h h := ⟨rfl, fun _ _ => rfl⟩
theorem sE_f (h : sE8 s' s) : ∀ r, r < 16 → sF8 s' r = sF8 s r := fun r hr => congrArg Prod.fst (h r hr)
/-- nothing of it has changed -/
theorem eS_c (hl : cLt tbs nr cc) (ht : tbs ≤ (nr : Int)) (h16 : nr ≤ 16) (h : eS8 tbs nr cc cl N H S e u) (eN : ∀ r, r < nr → N' r = N r) (eH : ∀ k, k < 8 → H' k = H k) (eS : ∀ sd : Int, 0 ≤ sd → sd ≤ 8 → sE8 (S' sd) (S sd)) (ee : e' = e) (eu : u' = u) : eS8 tbs nr cc cl N' H' S' e' u' := by
  subst ee eu
  obtain ⟨h1, h2, h3, h4⟩ := h
  have e0 := eS 0 (by decide) (by decide)
  refine ⟨h1, fun r hr => ?_, gd_c hl ht h16 e0 h3, fun k k0 k1 => ?_⟩
  · have w := h2 r hr
    unfold rfA at w ⊢
    rw [eN r hr, sE_f e0 r (by omega)]; exact w
  · have w := h4 k k0 k1
    refine ⟨gd_c hl ht h16 (eS _ (by omega) (by omega)) w.1, st_c ht h16 (sE_f (eS _ (by omega) (by omega))) ?_ (by rw [eH _ (by omega)]; exact hE_r) w.2⟩
    unfold nx8
    by_cases v : k + 1 = u'
    · rw [if_pos v, if_pos v]; exact sE_f e0
    · rw [if_neg v, if_neg v]; exact sE_f (eS _ (by omega) (by omega))
/-- what a batch makes of good relations is good -/
theorem cm_gd (hG : bG8 tbs cl f nb) (h0 : gF8 tbs cc cl nr F0) (a : rnP tbs nr cc (∃ i, i < nb ∧ blw f F0 1 i) (tbS f nb F0 1) 0 F1) (b : stA tbs cc (tbS f nb F0 1) cl F1 nr) (ht : tbs ≤ (nr : Int)) : gF8 tbs cc cl nr F1 ∧ ∀ r : Nat, (r : Int) < tbs → ∀ t, oS8 F1 r t = oS8 F0 r t + cS f (r : Int) nb t := by
  have w := rn_all a
  have e : ∀ r : Nat, (r : Int) < tbs → ∀ t, oS8 F1 r t = oS8 F0 r t + cS f (r : Int) nb t := fun r hr t => by
    rw [st_tbS (w.2 r (by omega)) hr, tb_1]
  refine ⟨⟨stA_T (fun q hq hq2 => ?_) b, fun r hr t => ?_⟩, e⟩
  · exact st_tbS (w.2 q hq) hq2
  · rw [e r hr t]; exact bl_no hG w.1 (h0.2 r hr t)
/-- both sides answer alike, and go on alike -/
theorem cm_u (hl : cLt tbs nr cc) (ht : tbs ≤ (nr : Int)) (hG : bG8 tbs cl f nb) (hN : ∀ r, r < nr → rfA N F0 r) (a : rnP tbs nr cc (∃ i, i < nb ∧ blw f N sg i) (tbS f nb N sg) z F) (b : rnP tbs nr cc (∃ i, i < nb ∧ blw f F0 sg i) (tbS f nb F0 sg) z' F') : z = z' ∧ (z = 0 → ∀ q, q < nr → rfA F F' q) :=
  rnP_u hl (rnP_T (bl_c hG ht hN).symm (fun q hq _ => (tb_c (hN q hq)).symm) a) b
/-- a commit that is taken -/
theorem eS_cm (hl : cLt tbs nr cc) (ht : tbs ≤ (nr : Int)) (h16 : nr ≤ 16) (h : eS8 tbs nr cc cl N H S e u) (hG : bG8 tbs cl f nb) {s1 : SR8} (a : rnP tbs nr cc (∃ i, i < nb ∧ blw f N 1 i) (tbS f nb N 1) 0 F) (b : rnP tbs nr cc (∃ i, i < nb ∧ blw f (sF8 (S 0)) 1 i) (tbS f nb (sF8 (S 0)) 1) 0 (sF8 s1)) (c : stA tbs cc (tbS f nb (sF8 (S 0)) 1) cl (sF8 s1) nr) (d : rdA tbs cc (sF8 s1) (sM8 s1) nr)
    (eN : ∀ r, r < nr → N' r = F r) (eH : ∀ k, k < 8 → k ≠ e.toNat → H' k = H k) (eH1 : (H' e.toNat).1 = nb ∧ ∀ j, j < 6 * nb → (H' e.toNat).2 j = f j) (e0 : sE8 (S' 0) s1) (ee : e' = (e + 1) % 8)
    (hb : (u < 8 ∧ u' = u + 1 ∧ (∀ j : Int, 0 ≤ j → j < u → sE8 (S' (1 + j)) (S (1 + j))) ∧ sE8 (S' (1 + u)) (S 0)) ∨ (u = 8 ∧ u' = 8 ∧ (∀ j : Int, 0 ≤ j → j < 7 → sE8 (S' (1 + j)) (S (2 + j))) ∧ sE8 (S' 8) (S 0))) : eS8 tbs nr cc cl N' H' S' e' u' := by
  obtain ⟨h1, h2, h3, h4⟩ := h
  have w := cm_u hl ht hG h2 a b
  have g := cm_gd hG h3.1 b c ht
  have g0 : gd8 tbs cc cl nr (S' 0) := gd_c hl ht h16 e0 ⟨g.1, d⟩
  have stp : st8 tbs cl (sF8 (S 0)) (sF8 (S' 0)) (H' e.toNat) := by
    refine st_c (N := sF8 (S 0)) (N' := sF8 s1) (h := (nb, f)) ht h16 (fun _ _ => rfl) (sE_f e0) eH1 ⟨hG, g.2⟩
  refine ⟨by omega, fun r hr => ?_, g0, fun k k0 k1 => ?_⟩
  · have v := w.2 rfl r hr
    unfold rfA at v ⊢
    rw [eN r hr, sE_f e0 r (by omega)]; exact v
  · rcases hb with ⟨u8, eu, b1, b2⟩ | ⟨u8, eu, b1, b2⟩
    · by_cases v : k < u
      · have p := h4 k k0 v
        refine ⟨gd_c hl ht h16 (b1 k k0 v) p.1, st_c ht h16 (sE_f (b1 k k0 v)) ?_ ?_ p.2⟩
        · unfold nx8
          rw [if_neg (by omega)]
          by_cases y : k + 1 = u
          · rw [if_pos y, show 2 + k = 1 + u by omega]; exact sE_f b2
          · rw [if_neg y, show 2 + k = 1 + (k + 1) by omega]; exact sE_f (b1 _ (by omega) (by omega))
        · rw [show (e' + 8 - u' + k) % 8 = (e + 8 - u + k) % 8 by omega, eH _ (by omega) (by omega)]; exact hE_r
      · have ek : k = u := by omega
        subst ek
        refine ⟨gd_c hl ht h16 b2 h3, ?_⟩
        have y : nx8 S' u' k = S' 0 := if_pos (by omega)
        rw [y, show (e' + 8 - u' + k) % 8 = e by omega]
        exact st_c ht h16 (sE_f b2) (fun _ _ => rfl) hE_r stp
    · by_cases v : k < 7
      · have p := h4 (k + 1) (by omega) (by omega)
        refine ⟨gd_c hl ht h16 (fun r hr => by rw [b1 k k0 v r hr, show 2 + k = 1 + (k + 1) by omega]) p.1, st_c ht h16 (sE_f (fun r hr => by rw [b1 k k0 v r hr, show 2 + k = 1 + (k + 1) by omega])) ?_ ?_ p.2⟩
        · unfold nx8
          rw [if_neg (show ¬ k + 1 = u' by omega)]
          by_cases y : k + 1 + 1 = u
          · rw [if_pos y, show 2 + k = 8 by omega]; exact sE_f b2
          · rw [if_neg y, show 2 + k = 1 + (k + 1) by omega]
            exact sE_f (fun r hr => by rw [b1 (k + 1) (by omega) (by omega) r hr])
        · rw [show (e' + 8 - u' + k) % 8 = (e + 8 - u + (k + 1)) % 8 by omega, eH _ (by omega) (by omega)]; exact hE_r
      · have ek : k = 7 := by omega
        subst ek
        refine ⟨gd_c hl ht h16 b2 h3, ?_⟩
        have y : nx8 S' u' 7 = S' 0 := if_pos (by omega)
        rw [y, show (e' + 8 - u' + 7) % 8 = e by omega]
        exact st_c ht h16 (sE_f b2) (fun _ _ => rfl) hE_r stp
/-- the last step can be taken back -/
theorem eS_un (ht : tbs ≤ (nr : Int)) (h16 : nr ≤ 16) (h : eS8 tbs nr cc cl N H S e u) (hu : 0 < u) (eh : h' = H ((e + 7) % 8).toNat) : bG8 tbs cl h'.2 h'.1 ∧ rnP tbs nr cc (∃ i, i < h'.1 ∧ blw h'.2 N (-1) i) (tbS h'.2 h'.1 N (-1)) 0 (sF8 (S u)) := by
  obtain ⟨h1, h2, h3, h4⟩ := h
  have p := h4 (u - 1) (by omega) (by omega)
  rw [show 1 + (u - 1) = u by omega, show (e + 8 - u + (u - 1)) % 8 = (e + 7) % 8 by omega, ← eh] at p
  have y : nx8 S u (u - 1) = S 0 := if_pos (by omega)
  rw [y] at p
  obtain ⟨⟨g1, g2⟩, g3, g4⟩ := p
  have k : ∀ r : Nat, (r : Int) < tbs → ∀ t, oS8 N r t - cS h'.2 (r : Int) h'.1 t = oS8 (sF8 (S u)) r t := fun r hr t => by
    rw [oS_c (h2 r (by omega)), g4 r hr t, Int32.add_sub_cancel]
  refine ⟨g3, rn_of (fun ⟨i, a, b⟩ => ?_) (fun q hq => stP_T (fun w => ?_) (g1.1 q hq).1)⟩
  · have w := (g3.2 i a).2.2
    have m := g1.2 (h'.2 (6 * i)).toInt.toNat (by omega) (btu h'.2 i)
    rw [bl_at, in_m, ← Int32.sub_eq_add_neg] at b
    have v := k (h'.2 (6 * i)).toInt.toNat (by omega) (btu h'.2 i)
    rw [cS_i g3 a] at v
    rw [v] at b
    omega
  · rw [tb_m]; exact funext fun t => k q w t
/-- it is taken back -/
theorem eS_ud (hl : cLt tbs nr cc) (ht : tbs ≤ (nr : Int)) (h16 : nr ≤ 16) (h : eS8 tbs nr cc cl N H S e u) (hu : 0 < u) (eh : h' = H ((e + 7) % 8).toNat) (a : rnP tbs nr cc (∃ i, i < h'.1 ∧ blw h'.2 N (-1) i) (tbS h'.2 h'.1 N (-1)) 0 F)
    (eN : ∀ r, r < nr → N' r = F r) (eH : ∀ k, k < 8 → H' k = H k) (e0 : sE8 (S' 0) (S u)) (eS : ∀ sd : Int, 1 ≤ sd → sd ≤ 8 → sE8 (S' sd) (S sd)) (ee : e' = (e + 7) % 8) (eu : u' = u - 1) : eS8 tbs nr cc cl N' H' S' e' u' := by
  have b := (eS_un ht h16 h hu eh).2
  have w := (rnP_u hl a b).2 rfl
  obtain ⟨h1, h2, h3, h4⟩ := h
  have p := h4 (u - 1) (by omega) (by omega)
  rw [show 1 + (u - 1) = u by omega] at p
  refine ⟨by omega, fun r hr => ?_, gd_c hl ht h16 e0 p.1, fun k k0 k1 => ?_⟩
  · have v := w r hr
    unfold rfA at v ⊢
    rw [eN r hr, sE_f e0 r (by omega)]; exact v
  · have p := h4 k k0 (by omega)
    refine ⟨gd_c hl ht h16 (eS _ (by omega) (by omega)) p.1, st_c ht h16 (sE_f (eS _ (by omega) (by omega))) ?_ ?_ p.2⟩
    · unfold nx8
      rw [if_neg (show ¬ k + 1 = u by omega)]
      by_cases y : k + 1 = u'
      · rw [if_pos y, show 2 + k = u by omega]; exact sE_f e0
      · rw [if_neg y]; exact sE_f (eS _ (by omega) (by omega))
    · rw [show (e' + 8 - u' + k) % 8 = (e + 8 - u + k) % 8 by omega, eH _ (by omega)]; exact hE_r
/-- nothing asked, nothing changes -/
theorem eS_df (ht : tbs ≤ (nr : Int)) (h : eS8 tbs nr cc cl N H S e u) : rnP tbs nr cc (∃ i, i < 0 ∧ blw f N 1 i) (tbS f 0 N 1) 0 (sF8 (S 0)) := by
  obtain ⟨h1, h2, h3, h4⟩ := h
  refine rn_of (fun ⟨i, a, _⟩ => absurd a (Nat.not_lt_zero i)) (fun q hq => stP_T (fun w => ?_) (h3.1.1 q hq).1)
  rw [tb_1, ← oS_c (h2 q hq)]
  exact funext fun t => Int32.add_zero (oS8 N q t)
/-! all empty -/
theorem is_0 {M : Tup → Int32} {S0 : Tup → Int32} (h : ∀ t, S0 t = 0) : isB f 0 S0 M := isW_0 (fun t k => k (h t))
theorem oS_0 (h : (F r).1 = 0) : oS8 F r t = 0 := by unfold oS8; rw [h]; rfl
theorem sJ_0 {c : LC} {x y : Nat → Int32} {m n : Nat} (h : n = 0) : sJ c x y m n = s0T := by rw [h]; rfl
theorem vw_0 {c : LC} (hc : cOK c r cl) (hF : ∀ q, q < r → (F q).1 = 0) : vwP c F 0 f 0 := by
  have e1 : (F (c.1 2).toNat).1 = 0 := hF _ (by have := hc.1; omega)
  have e2 : (F (c.1 3).toNat).1 = 0 := hF _ (by have := hc.1; omega)
  unfold vwP
  by_cases k8 : c.1 0 = 8
  · rw [if_pos k8]
    refine Or.inl ⟨rfl, 0, by decide, ?_, Or.inl rfl, by decide, fun _ => 0, ?_, ?_⟩
    · rintro t ⟨⟨s, ⟨i, hi, _⟩, _⟩, _⟩
      exact absurd hi (by omega)
    · exact isW_0 (by rintro t ⟨i, hi, _⟩; omega)
    · rintro q t hq ht
      have e : q = 0 := by omega
      subst e
      obtain ⟨i, hi, _⟩ := ht
      exact absurd hi (by omega)
  · rw [if_neg k8]
    refine Or.inl ⟨rfl, ?_, is_0 (fun t => ?_), by decide⟩
    · rintro ⟨_, a⟩
      rw [e1] at a
      exact absurd a (by show ¬ 1500 < 0; decide)
    · unfold vS
      rw [e1, e2]
      by_cases k3 : c.1 0 = 3
      · rw [if_pos k3]; rfl
      · rw [if_neg k3]
        by_cases k4 : c.1 0 = 4
        · rw [if_pos k4]; show (0 : Int32) + iI 1 * 0 = 0; decide
        · rw [if_neg k4]
          by_cases k5 : c.1 0 = 5
          · rw [if_pos k5]; show (0 : Int32) + iI (-1) * 0 = 0; decide
          · rw [if_neg k5]
            by_cases k7 : c.1 0 = 7
            · rw [if_pos k7]
              unfold sG
              exact pI_n (fun ⟨i, hi, _⟩ => Nat.not_lt_zero i hi)
            · rw [if_neg k7]; rfl
theorem rd_0 {c : LC} {x y g : Nat → Int32} {n m : Nat} (hn : n = 0) : rgY c x n y m 0 g 0 := by
  subst hn
  refine ⟨by decide, ?_, Or.inl rfl, by decide, fun _ => 0, isW_0 (by rintro t ⟨i, hi, _⟩; omega), ?_⟩
  · rintro t ⟨⟨s, ⟨i, hi, _⟩, _⟩, _⟩
    exact absurd hi (by omega)
  · rintro q t hq ht
    have e : q = 0 := by omega
    subst e
    obtain ⟨i, hi, _⟩ := ht
    exact absurd hi (by omega)
theorem gd_0 (hc : ∀ r : Nat, r < nr → tbs ≤ (r : Int) → cOK (cc r) r cl ∧ cZ (cc r) r cl) (ht : tbs ≤ (nr : Int)) (h : ∀ r, r < nr → (s r).1.1 = 0 ∧ (s r).2 = 0) : gd8 tbs cc cl nr s := by
  have e : ∀ r, r < nr → (sF8 s r).1 = 0 := fun r hr => (h r hr).1
  refine ⟨⟨fun q hq => ⟨?_, ?_⟩, fun r hr t => ?_⟩, fun q hq h1 h2 => ⟨0, ?_, ?_⟩⟩
  · unfold stP
    rw [e q hq]
    by_cases w : (q : Int) < tbs
    · rw [if_pos w]; exact ⟨is_0 (fun t => oS_0 (e q hq)), by decide⟩
    · rw [if_neg w]; exact vw_0 (hc q hq (by omega)).1 (fun p hp => e p (by omega))
  · unfold bgOK
    rw [e q hq]
    exact ⟨⟨fun i j _ hj => absurd hj (Nat.not_lt_zero j), fun i hi => absurd hi (Nat.not_lt_zero i)⟩, by decide, fun i hi => absurd hi (Nat.not_lt_zero i)⟩
  · rw [oS_0 (e r (by omega))]; decide
  · rw [e q hq]
    have k := (hc q hq h1).1.1
    exact rd_0 (e _ (by omega))
  · exact (h q hq).2
/-- behind a plan that is taken -/
theorem eS_0 (hc : ∀ r : Nat, r < nr → tbs ≤ (r : Int) → cOK (cc r) r cl ∧ cZ (cc r) r cl) (ht : tbs ≤ (nr : Int)) (he : 0 ≤ e ∧ e < 8) (hN : ∀ r, r < nr → (N r).1 = 0) (hS : ∀ r, r < nr → (S 0 r).1.1 = 0 ∧ (S 0 r).2 = 0) (hu : u = 0) : eS8 tbs nr cc cl N H S e u := by
  subst hu
  refine ⟨⟨he, by decide, by decide⟩, fun r hr => ⟨(hN r hr).trans (hS r hr).1.symm, ?_⟩, gd_0 hc ht hS, fun k k0 k1 => absurd k1 (by omega)⟩
  rw [hN r hr]
  exact fun i hi => absurd hi (Nat.not_lt_zero i)
/-! what the last change moved -/
def mv8 (s s9 : SR8) (r : Nat) : Tup → Int32 := mvS (sF8 s r).2 (sF8 s r).1 (sF8 s9 r).2 (sF8 s9 r).1
theorem mv_at {s9 : SR8} : mv8 s s9 r = fun t => oS8 (sF8 s) r t + iI (-1) * oS8 (sF8 s9) r t := rfl
theorem mv_e {s9 s9' : SR8} (h0 : sE8 s' s) (h9 : sE8 s9' s9) (hr : r < 16) : mv8 s' s9' r = mv8 s s9 r := by unfold mv8; rw [sE_f h0 r hr, sE_f h9 r hr]
theorem mv_c {s9 : SR8} (h0 : rfA F (sF8 s) r) (h9 : rfA N (sF8 s9) r) : (fun t => bS (F r).2 (F r).1 t + iI (-1) * bS (N r).2 (N r).1 t) = mv8 s s9 r := by
  have a := oS_c h0
  have b := oS_c h9
  rw [mv_at]
  exact funext fun t => by show oS8 F r t + iI (-1) * oS8 N r t = _; rw [a, b]
theorem mv_0 {s9 : SR8} (h0 : (s r).1.1 = 0) (h9 : (s9 r).1.1 = 0) : isB f 0 (mv8 s s9 r) zM := is_0 (fun t => by
  rw [mv_at]; show oS8 (sF8 s) r t + iI (-1) * oS8 (sF8 s9) r t = 0
  rw [oS_0 (F := sF8 s) h0, oS_0 (F := sF8 s9) h9]; decide)
/-- differs: nothing -/
theorem df_k {k : Nat} (h0 : rfA F F' r) (h1 : rfA N F' r) (h : isB f k (fun t => bS (F r).2 (F r).1 t + iI (-1) * bS (N r).2 (N r).1 t) zM) : k = 0 := by
  have a := oS_c h0
  have b := oS_c h1
  have e : ∀ t, bS (F r).2 (F r).1 t + iI (-1) * bS (N r).2 (N r).1 t = 0 := fun t => by
    show oS8 F r t + iI (-1) * oS8 N r t = 0
    rw [a, b, in_m, ← Int32.sub_eq_add_neg, Int32.sub_self]
  have q := isW_u h (is_0 (f := f) (M := zM) e) (fun _ _ => rfl) (fun _ _ => rfl)
  exact q.1
end ES8
