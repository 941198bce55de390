/-! the tables that a text tells: those of kind 0, ahead of all views -/
theorem sVk_r {b : tTx} {n h : Nat} (h0 : (sVk b n h).1 = 0) : 1 ≤ pV b n (h + 1) := by
  unfold sVk at h0
  by_cases k : (sTk b n 61 h).1 = 0
  · rw [thn_y (f := _) rfl k rfl] at h0
    have e : (sTk b n 61 h).2.1 = h + 1 := by
      unfold sTk at k ⊢
      by_cases w : pK b n h = 61
      · rw [if_pos w]
      · rw [if_neg w] at k; exact (pr_no k (by decide)).elim
    rw [e] at h0
    by_cases q : pK b n (h + 1) = 3 ∧ 1 ≤ pV b n (h + 1) ∧ pV b n (h + 1) ≤ 8
    · exact q.2.1
    · rw [if_neg q] at h0; exact (pr_no h0 (by decide)).elim
  · rw [thn_x rfl k] at h0; exact absurd h0 k
theorem sNam_t {b : tTx} {n nr h : Nat} {nt : Nat → Nat} (h0 : (sNam b n nr nt h).1 = 0) : (sNam b n nr nt h).2.1 = h + 1 := by
  unfold sNam at h0 ⊢
  by_cases k : pK b n h = 3 ∧ pV b n h = -1
  · rw [if_pos k] at h0 ⊢
    by_cases q : pFd b n nt nr h = -1
    · rw [if_pos q]
    · rw [if_neg q] at h0; exact (pr_no h0 (by decide)).elim
  · rw [if_neg k] at h0; exact (pr_no h0 (by decide)).elim
/-- a line that is read: a table, all ahead of it tables; or a view -/
theorem sLine_k {b : tTx} {n nr h : Nat} {nt : Nat → Nat} {cl : Nat → Int} {tb : Int} (h0 : (sLine b n nr nt cl tb h).1 = 0) : (pK b n h = 3 ∧ pV b n h = 0 ∧ ¬ tb < (nr : Int)) ∨ (¬ (pK b n h = 3 ∧ pV b n h = 0) ∧ pV b n h = 9 ∧ 1 ≤ pV b n (h + 3)) := by
  have hh : (sHd b n nr nt tb h).1 = 0 := by
    by_cases q : (sHd b n nr nt tb h).1 = 0
    · exact q
    · unfold sLine at h0; rw [thn_x rfl q] at h0; exact absurd h0 q
  unfold sHd at hh
  by_cases k : pK b n h = 3 ∧ pV b n h = 0
  · rw [if_pos k] at hh
    by_cases q : 16 ≤ nr
    · rw [if_pos q] at hh; exact (pr_no hh (by decide)).elim
    · rw [if_neg q] at hh
      by_cases m : tb < (nr : Int)
      · rw [if_pos m] at hh; exact (pr_no hh (by decide)).elim
      · exact Or.inl ⟨k.1, k.2, m⟩
  · rw [if_neg k] at hh
    by_cases k2 : pK b n h = 3 ∧ pV b n h = 9
    · rw [if_pos k2] at hh
      by_cases q : 16 ≤ nr
      · rw [if_pos q] at hh; exact (pr_no hh (by decide)).elim
      · rw [if_neg q] at hh
        by_cases m : (sNam b n nr nt (h + 1)).1 = 0
        · rw [thn_y (f := fun t _ => sVk b n t) rfl m rfl, sNam_t m] at hh
          exact Or.inr ⟨k, k2.2, sVk_r hh⟩
        · rw [thn_x rfl m] at hh; exact absurd hh m
    · rw [if_neg k2] at hh; exact (pr_no hh (by decide)).elim
def kdI (b : tTx) (n : Nat) (s : Nat × (Nat → Nat) × (Nat → Int) × Int) : Prop := 0 ≤ s.2.2.2 ∧ s.2.2.2 ≤ (s.1 : Int) ∧ ∀ r : Nat, r < s.1 → (kdT b n (s.2.1 r) = 0 ↔ (r : Int) < s.2.2.2)
theorem sParF_k {b : tTx} {n : Nat} : ∀ (f nr : Nat) (nt : Nat → Nat) (cl : Nat → Int) (tb : Int) (h : Nat), kdI b n (nr, nt, cl, tb) → kdI b n (sParF b n f nr nt cl tb h)
  | 0, nr, nt, cl, tb, h, k => k
  | f + 1, nr, nt, cl, tb, h, k => by
    rw [sParF]
    by_cases q : pK b n h = 0
    · rw [if_pos q]; exact k
    · rw [if_neg q]
      by_cases m : (sLine b n nr nt cl tb h).1 = 0
      · rw [if_pos m]
        refine sParF_k f _ _ _ _ _ ?_
        obtain ⟨k1, k2, k3⟩ := k
        have k1 : 0 ≤ tb := k1
        have k2 : tb ≤ (nr : Int) := k2
        have k3 : ∀ r : Nat, r < nr → (kdT b n (nt r) = 0 ↔ (r : Int) < tb) := k3
        rcases sLine_k m with ⟨a, c, d⟩ | ⟨a, c, d⟩
        · rw [if_pos ⟨a, c⟩]
          refine ⟨show 0 ≤ tb + 1 by omega, show tb + 1 ≤ ((nr + 1 : Nat) : Int) by omega, fun r hr => ?_⟩
          have hr : r < nr + 1 := hr
          show kdT b n (sUp nt nr (h + 1) r) = 0 ↔ (r : Int) < tb + 1
          by_cases e : r = nr
          · rw [e, sUp_s, kdT_t c]; exact ⟨fun _ => by omega, fun _ => rfl⟩
          · rw [sUp_k e, k3 r (by omega)]; omega
        · rw [if_neg a]
          refine ⟨k1, show tb ≤ ((nr + 1 : Nat) : Int) by omega, fun r hr => ?_⟩
          have hr : r < nr + 1 := hr
          show kdT b n (sUp nt nr (h + 1) r) = 0 ↔ (r : Int) < tb
          by_cases e : r = nr
          · rw [e, sUp_s, kdT_v (by omega)]; omega
          · rw [sUp_k e]; exact k3 r (by omega)
      · rw [if_neg m]; exact k
theorem sPlF_k (b : tTx) (n : Nat) : kdI b n (sPlF b n) := sParF_k 17 0 _ _ 0 0 ⟨Int.le_refl 0, Int.le_refl 0, fun r hr => absurd hr (Nat.not_lt_zero r)⟩
/-! both batches: rows alike -/
def rwE (f T V C : Nat → Int32) (i : Nat) : Prop := f (6 * i) = T i ∧ (∀ t, t < 4 → f (6 * i + 1 + t) = V (4 * i + t)) ∧ f (6 * i + 5) = C i
section RwE
variable {f T V C f' T' V' C' : Nat → Int32} {i j i' j' p : Nat} {u : Nat → Int} {len n : Int}
theorem rwE_k (h : rwE f T V C i) : ∀ t, t < 5 → ry6 f i t = rmk T V i t := fun t ht => by
  rw [ry6_e]
  match t, ht with
  | 0, _ => rw [show 6 * i + 0 = 6 * i by omega, h.1]; rfl
  | t + 1, ht => rw [show 6 * i + (t + 1) = 6 * i + 1 + t by omega, h.2.1 t (by omega)]; rfl
theorem rwE_c (h : rwE f T V C i) : kc 5 (ry6 f i) u = kc 5 (rmk T V i) u := kc_c (rwE_k h) (fun _ _ => rfl)
/-- a row moves on both sides -/
theorem rwE_m (h : rwE f T V C i) (a : ∀ t, t < 6 → f' (6 * i' + t) = f (6 * i + t)) (b : rEq T V C T' V' C' i i') : rwE f' T' V' C' i' := by
  refine ⟨?_, fun t ht => ?_, ?_⟩
  · have q := a 0 (by omega)
    rw [Nat.add_zero, Nat.add_zero] at q
    rw [q, h.1, b.1]
  · rw [show 6 * i' + 1 + t = 6 * i' + (1 + t) by omega, a (1 + t) (by omega), show 6 * i + (1 + t) = 6 * i + 1 + t by omega, h.2.1 t ht, b.2.2 t ht]
  · rw [a 5 (by omega), h.2.2, b.2.1]
theorem rw_ins (hr : ∀ i : Nat, (i : Int) < len → rwE f T V C i) (hp : (p : Int) ≤ len) (a : insP 5 f f' u (p : Int) len n) (b : insM T V C T' V' C' p len n u) : ∀ i : Nat, (i : Int) < len + 1 → rwE f' T' V' C' i := fun i hi => by
  obtain ⟨a1, a2, a3, -, a5⟩ := a
  obtain ⟨b1, b2, b3, b4, b5⟩ := b
  by_cases c : i < p
  · exact rwE_m (hr i (by omega)) (fun t ht => a1 _ (by omega)) (b1 i c)
  · by_cases d : i = p
    · subst d
      refine ⟨?_, fun t ht => ?_, ?_⟩
      · have q := a2 0 (by omega)
        apply Int32.toInt_inj.mp
        rw [b2, ← q, show (6 * (i : Int)).toNat + 0 = 6 * i by omega]
      · have q := a2 (1 + t) (by omega)
        apply Int32.toInt_inj.mp
        rw [b3 t ht, show t + 1 = 1 + t by omega, ← q, show (6 * (i : Int)).toNat + (1 + t) = 6 * i + 1 + t by omega]
      · rw [b4, ← a3, show (6 * (i : Int)).toNat + 5 = 6 * i + 5 by omega]
    · obtain ⟨k, rfl⟩ : ∃ k, i = k + 1 := ⟨i - 1, by omega⟩
      exact rwE_m (hr k (by omega)) (fun t ht => by rw [← a5 (6 * k + t) (by omega) (by omega), show 6 * (k + 1) + t = 6 * k + t + 6 by omega]) (b5 k (by omega) (by omega))
theorem rw_rem (hr : ∀ i : Nat, (i : Int) < len → rwE f T V C i) (a : remP f f' (p : Int) len) (b : remM T V C T' V' C' p len) : ∀ i : Nat, (i : Int) < len - 1 → rwE f' T' V' C' i := fun i hi => by
  by_cases c : i < p
  · exact rwE_m (hr i (by omega)) (fun t ht => a.1 _ (by omega)) (b.1 i c)
  · exact rwE_m (hr (i + 1) (by omega)) (fun t ht => by rw [a.2 _ (by omega) (by omega), show 6 * (i + 1) + t = 6 * i + t + 6 by omega]) (b.2 i (by omega) hi)
theorem rw_set {w : Int} (hr : ∀ i : Nat, (i : Int) < len → rwE f T V C i) (a : setP 5 f f' (p : Int) w) (b : (∀ j : Nat, j ≠ p → C' j = C j) ∧ C' p = iI w) : ∀ i : Nat, (i : Int) < len → rwE f' T V C' i := fun i hi => by
  have h := hr i hi
  refine ⟨by rw [a.1 _ (by omega)]; exact h.1, fun t ht => by rw [a.1 _ (by omega)]; exact h.2.1 t ht, ?_⟩
  by_cases c : i = p
  · subst c; rw [b.2, ← a.2, show (6 * (i : Int)).toNat + 5 = 6 * i + 5 by omega]
  · rw [a.1 _ (by omega), b.1 i c]; exact h.2.2
end RwE
/-- a change of both batches: one answer, rows stay alike and in order -/
theorem ch_eq {f T V C f' T' V' C' : Nat → Int32} {u : Nat → Int} {len len1 len2 tbs many kd tb n z z2 : Int} (h0 : 0 ≤ len ∧ len ≤ 40) (hr : ∀ i : Nat, (i : Int) < len → rwE f T V C i) (hs : srt 5 f len) (hk : 0 ≤ tb → (tb < tbs ↔ tb < many ∧ kd = 0))
    (a : chP tbs tb n z len len1 f f' u) (b : chR many kd tb n z2 len len2 T V C T' V' C' u) : z = z2 ∧ len1 = len2 ∧ (0 ≤ len1 ∧ len1 ≤ 40) ∧ (∀ i : Nat, (i : Int) < len1 → rwE f' T' V' C' i) ∧ srt 5 f' len1 := by
  rcases a with ⟨a1, a2, a3, a4⟩ | ⟨a1, zz, a2, a3⟩
  · rcases b with ⟨b1, b2, b3, b4, b5, b6⟩ | ⟨b1, -⟩
    · subst a4 b4 b5 b6
      rw [a3]
      exact ⟨by omega, by omega, h0, hr, hs⟩
    · exfalso
      have q := hk (by omega)
      omega
  · rcases b with ⟨b1, -⟩ | ⟨b1, p, p1, p2, b2⟩
    · exfalso
      have q := hk (by omega)
      omega
    · have ek : ∀ i : Nat, (i : Int) < len → kc 5 (ry6 f i) u = kc 5 (rmk T V i) u := fun i hi => rwE_c (hr i hi)
      -- at the reference's place no row is less
      have ge : (p : Int) < len → kc 5 (rmk T V p) u ≠ -1 := fun hp e => by
        rcases b2 with ⟨_, w, _⟩ | ⟨_, w, _⟩ | ⟨w, _⟩ | ⟨w, _⟩
        · rw [w] at e; exact absurd e (by decide)
        · rw [w] at e; exact absurd e (by decide)
        · rw [w hp] at e; exact absurd e (by decide)
        · rw [w hp] at e; exact absurd e (by decide)
      rcases a2 with ⟨pc, c1, c2, c3⟩ | ⟨r, c1, c2, c3, c4⟩
      · -- the class finds none
        rcases c1 with ⟨x1, _⟩ | ⟨x1, x2, x3, x4⟩
        · exfalso; omega
        · obtain ⟨pn, epn⟩ : ∃ pn : Nat, (pn : Int) = pc := ⟨pc.toNat, by omega⟩
          have lo := srt_lo (u := u) (p := pn) hs (fun w => by have q := x3 (by omega); rw [show (-1 - (-1 - pc) - 1).toNat = pn - 1 by omega] at q; exact q) (by omega)
          have hi := srt_hi (u := u) (p := pn) hs (fun w => by have q := x4 (by omega); rw [show (-1 - (-1 - pc)).toNat = pn by omega] at q; exact q)
          have ep : p = pn := by
            rcases Nat.lt_trichotomy p pn with w | w | w
            · exact absurd ((ek p (by omega)).symm.trans (lo p w)) (ge (by omega))
            · exact w
            · have q1 := p2 pn w
              have q2 := hi pn (Nat.le_refl _) (by omega)
              rw [ek pn (by omega), q1] at q2
              exact absurd q2 (by decide)
          have n0 : ¬ ((p : Int) < len ∧ kc 5 (rmk T V p) u = 0) := fun w => by
            have q := hi p (by omega) w.1
            rw [ek p w.1, w.2] at q
            exact absurd q (by decide)
          rcases b2 with ⟨w1, w2, _⟩ | ⟨w1, w2, _⟩ | ⟨w1, w2, w3, w4, w5, w6, w7⟩ | ⟨w1, w2, w3, w4, w5⟩
          · exact absurd ⟨w1, w2⟩ n0
          · exact absurd ⟨w1, w2⟩ n0
          · subst w5 w6 w7
            rcases c3 with ⟨y1, _⟩ | ⟨y1, y2, y3, y4, y5⟩ | ⟨y1, y2, _⟩
            · exfalso; omega
            · subst y5
              rw [y4]
              exact ⟨by omega, by omega, h0, hr, hs⟩
            · exfalso; omega
          · rcases c3 with ⟨y1, _⟩ | ⟨y1, y2, _⟩ | ⟨y1, y2, y3, y4, y5⟩
            · exfalso; omega
            · exfalso; omega
            · rw [← epn] at y5
              rw [ep] at w5
              rw [y4]
              exact ⟨by omega, by omega, ⟨by omega, by omega⟩, rw_ins hr (by omega) y5 w5, srt_ins (by decide) hs (by omega) y5 lo hi⟩
      · -- the class finds the row r
        rcases c1 with ⟨x1, x2, x3⟩ | ⟨x1, _⟩
        · obtain ⟨rn, ern⟩ : ∃ rn : Nat, (rn : Int) = r := ⟨r.toNat, by omega⟩
          rw [show r.toNat = rn by omega] at x3
          have ep : p = rn := by
            rcases Nat.lt_trichotomy p rn with w | w | w
            · have q := kc_t (u := ry6 f p) (v := ry6 f rn) (w := u) (m := 5) (by rw [hs p rn w (by omega)]; decide) (by rw [x3]; decide) (Or.inl (by rw [hs p rn w (by omega)]; decide))
              exact absurd ((ek p (by omega)).symm.trans q) (ge (by omega))
            · exact w
            · have q := p2 rn w
              rw [← ek rn (by omega), x3] at q
              exact absurd q (by decide)
          have eC : (f ((6 * r).toNat + 5)) = C p := by rw [show (6 * r).toNat + 5 = 6 * p + 5 by omega]; exact (hr p (by omega)).2.2
          rw [eC] at c4
          rcases b2 with ⟨w1, w2, w3, w4, w5, w6, w7, w8, w9⟩ | ⟨w1, w2, w3, w4, w5, w6⟩ | ⟨w1, _⟩ | ⟨w1, _⟩
          · rcases c4 with ⟨y1, _⟩ | ⟨y1, y2, y3⟩
            · exact absurd y1 w3
            · subst w6 w7
              rw [← ern, ← ep] at y3
              rw [y2]
              exact ⟨by omega, by omega, h0, rw_set hr y3 ⟨w8, w9⟩, srt_set (by decide) hs y3⟩
          · rcases c4 with ⟨y1, y2, y3⟩ | ⟨y1, _⟩
            · rw [← ern, ← ep] at y3
              rw [y2]
              exact ⟨by omega, by omega, ⟨by omega, by omega⟩, rw_rem hr y3 w6, srt_rem (by decide) hs y3⟩
            · exact absurd w3 y1
          · exfalso
            have q := w1 (by omega)
            rw [← ek p (by omega), ep, x3] at q
            exact absurd q (by decide)
          · exfalso
            have q := w1 (by omega)
            rw [← ek p (by omega), ep, x3] at q
            exact absurd q (by decide)
        · exfalso; omega
