/-! the reference: groups -/
section Grp
variable {c : LC} {f W W' : Nat → Int32} {t u : Tup} {T : Nat → Int32} {r hs su v z k' : Int} {n i m k : Nat}
def gfM (T : Nat → Int32) (r : Int) (c : LC) : Prop := gpM T r c ∧ (mP T r (c.1 4) 1 = c.1 9 ∧ mP T r (c.1 4) 0 = c.1 10) ∧ 0 ≤ c.1 9 ∧ c.1 9 ≤ 3 ∧ 0 ≤ c.1 10 ∧ c.1 10 ≤ 3 ∧ 0 ≤ c.1 4 ∧ c.1 4 ≤ 3
def gfI (c : LC) (f : Nat → Int32) (u : Tup) (i : Nat) (hs su : Int) : Prop := gF c f u i = (iI hs, iI su) ∧ (hs = 0 ∨ hs = 1)
theorem gfI_0 (h : ∀ j : Nat, (j : Int) < (i : Int) → gk c (tup f j) ≠ u) : gfI c f u i 0 0 := ⟨gF_0 i (fun k hk => h k (by omega)), Or.inl rfl⟩
theorem gfI_n (h : gfI c f u i hs su) (w : gk c (tup f i) ≠ u) : gfI c f u (i + 1) hs su := ⟨by rw [gF_n w]; exact h.1, h.2⟩
theorem gfI_c {su' : Int} (h : gfI c f u i hs su) (w : gk c (tup f i) = u) (h9 : c.1 9 = 0) (e : iI su' = iI su + f (6 * i + 4)) : gfI c f u (i + 1) hs su' := ⟨by
  rw [gF_y w, h.1]; unfold fS; rw [if_pos h9, e], h.2⟩
theorem gfI_s {su' : Int} (h : gfI c f u i hs su) (w : gk c (tup f i) = u) (h9 : c.1 9 = 1) (e : iI su' = iI su + f (6 * i + 4) * tg (tup f i) (c.1 10).toNat) : gfI c f u (i + 1) hs su' := ⟨by
  rw [gF_y w, h.1]; unfold fS; rw [if_neg (by omega), if_pos h9, e], h.2⟩
theorem gfI_z (h : gfI c f u i hs su) (w : gk c (tup f i) = u) (h0 : 2 ≤ c.1 9) (ha : (f (6 * i + 4)).toInt ≤ 0) : gfI c f u (i + 1) hs su := ⟨by
  rw [gF_y w, h.1]; unfold fS; rw [if_neg (by omega), if_neg (by omega), if_neg (by omega)], h.2⟩
theorem gfI_cd (hb : hs = 0 ∨ hs = 1) (zs : zr su) (zv : zr v) : ((iI hs : Int32) = 0 ∨ (c.1 9 = 2 ∧ (iI v).toInt < (iI su).toInt) ∨ (c.1 9 ≠ 2 ∧ (iI su).toInt < (iI v).toInt)) ↔ (hs = 0 ∨ (c.1 9 = 2 ∧ v < su) ∨ (c.1 9 ≠ 2 ∧ su < v)) := by
  rw [iI_val zs, iI_val zv]
  have e : (iI hs : Int32) = 0 ↔ hs = 0 := by
    rcases hb with h | h
    · rw [h]; exact ⟨fun _ => rfl, fun _ => rfl⟩
    · rw [h]; exact ⟨fun q => absurd q (by decide), fun q => absurd q (by decide)⟩
  rw [e]
theorem gfI_t (h : gfI c f u i hs su) (w : gk c (tup f i) = u) (h0 : 2 ≤ c.1 9) (ha : 0 < (f (6 * i + 4)).toInt) (zs : zr su) (zv : zr v) (e : iI v = tg (tup f i) (c.1 10).toNat) (hc : hs = 0 ∨ (c.1 9 = 2 ∧ v < su) ∨ (c.1 9 ≠ 2 ∧ su < v)) : gfI c f u (i + 1) 1 v := ⟨by
  rw [gF_y w, h.1]; unfold fS
  rw [if_neg (by omega), if_neg (by omega), if_pos ha, ← e]
  dsimp only
  rw [if_pos ((gfI_cd h.2 zs zv).mpr hc)]; rfl, Or.inr rfl⟩
theorem gfI_k (h : gfI c f u i hs su) (w : gk c (tup f i) = u) (h0 : 2 ≤ c.1 9) (ha : 0 < (f (6 * i + 4)).toInt) (zs : zr su) (zv : zr v) (e : iI v = tg (tup f i) (c.1 10).toNat) (hc : ¬ (hs = 0 ∨ (c.1 9 = 2 ∧ v < su) ∨ (c.1 9 ≠ 2 ∧ su < v))) : gfI c f u (i + 1) 1 su := ⟨by
  rw [gF_y w, h.1]; unfold fS
  rw [if_neg (by omega), if_neg (by omega), if_pos ha, ← e]
  dsimp only
  rw [if_neg (fun q => hc ((gfI_cd h.2 zs zv).mp q))]; rfl, Or.inr rfl⟩
theorem gTp_l (hk : (k : Int) < c.1 4) (h4 : k < 4) : tg (gTp c f n (gk c t)) k = tg t (c.2 k 0).toNat := by
  unfold gTp; rw [tg_ts h4, if_neg (by omega)]; unfold gk; rw [tg_mk k h4, if_pos hk]
theorem gTp_m (hk : (k : Int) = c.1 4) (h4 : k < 4) : tg (gTp c f n u) k = (gF c f u n).2 := by
  unfold gTp; rw [tg_ts h4, if_pos (by omega)]
theorem gTp_r (hk : c.1 4 < (k : Int)) (h0 : 0 ≤ c.1 4) (h4 : k < 4) : tg (gTp c f n (gk c t)) k = 0 := by
  unfold gTp; rw [tg_ts h4, if_neg (by omega)]; exact gk_z (by omega) h4
theorem gTp_i (h0 : 0 ≤ c.1 4) (e : gTp c f n (gk c t) = gTp c f n (gk c u)) : gk c t = gk c u := tg_x fun k hk => by
  by_cases w : k = (c.1 4).toNat
  · rw [gk_z (by omega) hk, gk_z (by omega) hk]
  · have q : tg (gTp c f n (gk c t)) k = tg (gTp c f n (gk c u)) k := by rw [e]
    unfold gTp at q
    rw [tg_ts hk, tg_ts hk, if_neg w, if_neg w] at q; exact q
def gPM (c : LC) (f : Nat → Int32) (n i : Nat) : Tup → Prop := fun t => ∃ k, k < i ∧ gTp c f n (gk c (tup f k)) = t
def grM (c : LC) (f : Nat → Int32) (n i : Nat) (W : Nat → Int32) (m : Nat) : Prop := isW W m (gPM c f n i) (fun _ => 1) zM
theorem grM_0 : grM c f n 0 W 0 := isW_0 (fun t ⟨k, hk, _⟩ => Nat.not_lt_zero k hk)
theorem grM_k (h : grM c f n i W m) (hn : ¬ ∀ j : Nat, (j : Int) < (i : Int) → gk c (tup f j) ≠ gk c (tup f i)) : grM c f n (i + 1) W m := by
  refine isW_q h (fun t => ⟨fun ⟨k, hk, e⟩ => ?_, fun ⟨k, hk, e⟩ => ⟨k, by omega, e⟩⟩) (fun _ _ => rfl) (fun _ _ => rfl)
  by_cases w : k = i
  · have q : ∃ j : Nat, j < i ∧ gk c (tup f j) = gk c (tup f i) := Classical.byContradiction fun q => hn fun j hj e9 => q ⟨j, by omega, e9⟩
    obtain ⟨j, hj, e9⟩ := q
    exact ⟨j, hj, by rw [e9, ← w]; exact e⟩
  · exact ⟨k, by omega, e⟩
theorem grM_s (h0 : 0 ≤ c.1 4) (hn : ∀ j : Nat, (j : Int) < (i : Int) → gk c (tup f j) ≠ gk c (tup f i))
    (h : (z = 0 ∧ gPM c f n i (gTp c f n (gk c (tup f i))) ∧ k' = (m : Int) ∧ isW W' m (gPM c f n i) (sAdd (fun _ => 1) (gTp c f n (gk c (tup f i))) (iI 1)) zM) ∨
      (z = 1 ∧ ¬ gPM c f n i (gTp c f n (gk c (tup f i))) ∧ k' = (m : Int) + 1 ∧ isW W' (m + 1) (pAdd (gPM c f n i) (gTp c f n (gk c (tup f i)))) (tUp (fun _ => 1) (gTp c f n (gk c (tup f i))) (iI 1)) (tUp zM (gTp c f n (gk c (tup f i))) (iI 0)))) : grM c f n (i + 1) W' k'.toNat := by
  rcases h with ⟨_, ⟨k, hk, e⟩, _⟩ | ⟨_, _, h3, h4⟩
  · exact absurd (gTp_i h0 e) (hn k (by omega))
  · rw [show k'.toNat = m + 1 by omega]
    refine isW_q h4 (fun t => ⟨fun ⟨k, hk, e⟩ => ?_, fun h => ?_⟩) (fun s _ => ?_) (fun s _ => ?_)
    · by_cases w : k = i
      · exact Or.inl (by rw [← e, w])
      · exact Or.inr ⟨k, by omega, e⟩
    · rcases h with h | ⟨k, hk, e⟩
      · exact ⟨i, by omega, h.symm⟩
      · exact ⟨k, by omega, e⟩
    · unfold tUp
      by_cases w : s = gTp c f n (gk c (tup f i))
      · rw [if_pos w]; rfl
      · rw [if_neg w]
    · unfold tUp
      by_cases w : s = gTp c f n (gk c (tup f i))
      · rw [if_pos w]; rfl
      · rw [if_neg w]
theorem grM_e (h : grM c f n n W m) : gaR W m (sG c f n) := by
  refine ⟨gPM c f n n, isW_q h (fun _ => Iff.rfl) (fun t ht => ?_) (fun _ _ => rfl), fun t ht => ?_⟩
  · unfold sG; exact pI_y ht
  · exact pI_ne (p := gPM c f n n t) (a := 1) ht
end Grp
