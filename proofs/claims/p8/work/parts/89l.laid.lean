/-! the reference: what is laid is a bag -/
section Laid
variable {f g g' : Nat → Int32} {b n : Nat} {P : Tup → Prop} {S M : Tup → Int32}
theorem wC_ex : ∀ (n q : Nat), (q : Int) < wCnt f n → ∃ r : Nat, r < n ∧ f (6 * r + 4) ≠ 0 ∧ wCnt f r = (q : Int)
  | 0, q, h => by rw [wCnt] at h; omega
  | n + 1, q, h => by
    by_cases w : (q : Int) < wCnt f n
    · obtain ⟨r, h1, h2, h3⟩ := wC_ex n q w
      exact ⟨r, by omega, h2, h3⟩
    · rw [wCnt] at h
      by_cases z : tI f (6 * (n : Int) + 4) = 0
      · rw [if_pos z] at h; omega
      · rw [if_neg z] at h
        refine ⟨n, by omega, fun e => z ?_, by omega⟩
        unfold tI; rw [show (6 * (n : Int) + 4).toNat = 6 * n + 4 by omega, e]; rfl
theorem layP_B (hw : isW f n P S M) (h : layP f g g' b (n : Int) 0) (h0 : ∀ t, S t ≠ 0 → P t) : isB (fun q => g' (b + q)) (wCnt f n).toNat S M := by
  have row : ∀ q : Nat, q < (wCnt f n).toNat → ∃ r : Nat, r < n ∧ f (6 * r + 4) ≠ 0 ∧ wCnt f r = (q : Int) ∧ rwS (fun q => g' (b + q)) q f r := fun q hq => by
    obtain ⟨r, h1, h2, h3⟩ := wC_ex (f := f) n q (by omega)
    refine ⟨r, h1, h2, h3, fun j hj => ?_⟩
    have e := h.1 r (by omega) h2 j hj
    rw [h3, show ((q : Nat) : Int).toNat = q by omega] at e
    show g' (b + (6 * q + j)) = _
    rw [← Nat.add_assoc]; exact e
  refine ⟨fun i j hij hj => ?_, fun i hi => ?_, fun t ht => ?_⟩
  · obtain ⟨r1, a1, _, a3, a4⟩ := row i (by omega)
    obtain ⟨r2, c1, _, c3, c4⟩ := row j hj
    have lt : r1 < r2 := by
      refine Nat.lt_of_not_le fun q => ?_
      have := wCnt_le (f := f) q
      omega
    rw [rwS_t a4, rwS_t c4]; exact hw.1 r1 r2 lt c1
  · obtain ⟨r, a1, a2, _, a4⟩ := row i hi
    have q := hw.2.1 r a1
    rw [rwS_t a4]
    refine ⟨fun e => a2 (by rw [q.2.1]; exact e), ?_, ?_⟩
    · rw [← q.2.1]; exact a4 4 (by omega)
    · rw [← q.2.2]; exact a4 5 (by omega)
  · obtain ⟨r, hr, e⟩ := hw.2.2 t (h0 t ht)
    have q := (hw.2.1 r hr).2.1
    have nz : f (6 * r + 4) ≠ 0 := by rw [q, e]; exact ht
    have lt := wC_lt (f := f) hr nz
    have p := wCnt_0 (f := f) (a := r)
    refine ⟨(wCnt f r).toNat, by omega, ?_⟩
    rw [← e]
    refine tg_x fun k hk => ?_
    rw [tg_up k hk, tg_up k hk]
    show g' (b + (6 * (wCnt f r).toNat + k)) = _
    rw [← Nat.add_assoc]; exact h.1 r (by omega) nz k (by omega)
end Laid
