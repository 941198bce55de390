/-! the reference: a side's bags, a view reckoned -/
def rfM (gh : gGh) (AI : gI) (sd : Int) : RF := fun r => ((AI (gh 57 0) (16 * sd + (r : Int)).toNat).toInt.toNat, fun q => if q < 720 then AI (gh 56 0) ((11520 * sd + 720 * (r : Int)).toNat + q) else 0)
def lnM (T : Nat → Int32) (r : Int) (c : LC) : Prop := (tI T (40 * r) = c.1 0 ∧ tI T (40 * r + 1) = c.1 1 ∧ tI T (40 * r + 2) = c.1 2 ∧ tI T (40 * r + 3) = c.1 3) ∧ (c.1 0 = 1 → tsM T r c) ∧ (c.1 0 = 2 → tmM T r 0 c ∧ tI T (40 * r + 4) = c.1 4) ∧ (c.1 0 = 3 → jnM T r c) ∧ (c.1 0 = 7 → gfM T r c) ∧ (c.1 0 = 8 → rgM T r c)
def rkM (gh : gGh) (sd rr : Int) (AI AI' : gI) : Prop :=
  (∀ b, b ≠ gh 56 0 → b ≠ gh 57 0 → b ≠ gh 75 0 → b ≠ gh 77 0 → b ≠ gh 78 0 → b ≠ gh 79 0 → b ≠ gh 80 0 → AI' b = AI b) ∧
  (∀ q : Nat, q < (11520 * sd + 720 * rr).toNat ∨ (11520 * sd + 720 * rr).toNat + 720 ≤ q → AI' (gh 56 0) q = AI (gh 56 0) q) ∧
  (∀ j : Nat, j ≠ (16 * sd + rr).toNat → AI' (gh 57 0) j = AI (gh 57 0) j) ∧ ∀ j : Nat, j ≠ (16 * sd + rr).toNat → AI' (gh 79 0) j = AI (gh 79 0) j
def visP (c : LC) (t : Tup) (a : Int32) : Prop := (c.1 0 = 1 → hldP c t) ∧ (c.1 0 = 6 → 0 < a.toInt)
def sgU (c : LC) : Int := if c.1 0 = 4 then 1 else -1
section Rkm
variable {g : gG} {gh : gGh} {R : gR} {I I2 AI AI' AI1 AI2 : gI} {mo : Nat} {sd rr k z a : Int} {c : LC} {F : RF} {x y f f' : Nat → Int32} {n m R0 k1 k2 : Nat} {t : Tup} {am : Int32}
theorem rfM_s (e : rfM gh AI sd a.toNat = (n, f)) (h0 : 0 ≤ a) (hs : 0 ≤ tI (AI (gh 57 0)) (16 * sd + a)) : tI (AI (gh 57 0)) (16 * sd + a) = (n : Int) ∧ ∀ q : Nat, q < 720 → AI (gh 56 0) ((11520 * sd + 720 * a).toNat + q) = f q := by
  unfold rfM at e
  rw [Int.toNat_of_nonneg h0] at e
  have e1 := congrArg Prod.fst e
  have e2 := congrArg Prod.snd e
  dsimp only at e1 e2
  unfold tI at hs ⊢
  refine ⟨by omega, fun q hq => ?_⟩
  rw [← e2]
  show _ = if q < 720 then _ else _
  rw [if_pos hq]
theorem rfM_1 (h0 : 0 ≤ rr) : (rfM gh AI sd rr.toNat).1 = (AI (gh 57 0) (16 * sd + rr).toNat).toInt.toNat := by
  unfold rfM; rw [Int.toNat_of_nonneg h0]
theorem rfM_2 (h0 : 0 ≤ rr) {q : Nat} (hq : q < 720) : (rfM gh AI sd rr.toNat).2 q = AI (gh 56 0) ((11520 * sd + 720 * rr).toNat + q) := by
  unfold rfM; rw [Int.toNat_of_nonneg h0]
  show (if q < 720 then _ else _) = _
  rw [if_pos hq]
theorem rfM_w (h0 : 0 ≤ rr) {k9 : Nat} (hk : k9 ≤ 120) : rwA (rfM gh AI sd rr.toNat).2 (fun q => AI (gh 56 0) ((11520 * sd + 720 * rr).toNat + q)) k9 := rwA_of (fun j hj => rfM_2 h0 (by omega))
theorem vis_1 (hk : c.1 0 = 1) : visP c t am ↔ hldP c t := ⟨fun h => h.1 hk, fun h => ⟨fun _ => h, fun q => absurd q (by omega)⟩⟩
theorem vA_0 (h : ¬ visP c t am) : vA c t am = 0 := by
  by_cases w : c.1 0 = 1
  · exact vA1_n w (fun q => h ((vis_1 w).mpr q))
  · by_cases v : c.1 0 = 6
    · exact vA6_n v (fun q => h ⟨fun p => absurd p w, fun _ => q⟩)
    · exact absurd ⟨fun p => absurd p w, fun p => absurd p v⟩ h
theorem vA_6 (h : visP c t am) (hk : c.1 0 = 6) : vA c t am = 1 := vA6_y hk (h.2 hk)
theorem vA_y (h : visP c t am) (hk : c.1 0 ≠ 6) : vA c t am = am := by
  by_cases w : c.1 0 = 1
  · exact vA1_y w (h.1 w)
  · exact vA_id w hk
theorem vS_1 (hk : c.1 0 = 1 ∨ c.1 0 = 2 ∨ c.1 0 = 6) (h1 : F (c.1 2).toNat = (n, x)) : vS c F = sR (vK c) (vA c) x n s0T := by
  unfold vS
  rw [if_neg (by omega), if_neg (by omega), if_neg (by omega), if_neg (by omega), h1]
theorem vS_7 (hk : c.1 0 = 7) (h1 : F (c.1 2).toNat = (n, x)) : vS c F = sG c x n := by
  unfold vS
  rw [if_neg (by omega), if_neg (by omega), if_neg (by omega), if_pos hk, h1]
theorem vS_3 (hk : c.1 0 = 3) (h1 : F (c.1 2).toNat = (n, x)) (h2 : F (c.1 3).toNat = (m, y)) : vS c F = sJ c x y m n := by
  unfold vS; rw [if_pos hk, h1, h2]
theorem vM_3 (hk : c.1 0 = 3) (h1 : F (c.1 2).toNat = (n, x)) (h2 : F (c.1 3).toNat = (m, y)) : vMany c F ↔ 1500 < pJ c x y m n := by
  unfold vMany; rw [h1, h2]; exact ⟨fun q => q.2, fun q => ⟨hk, q⟩⟩
theorem vM_n (hk : c.1 0 ≠ 3) : ¬ vMany c F := fun q => hk q.1
theorem vS_45 (hk : c.1 0 = 4 ∨ c.1 0 = 5) (h1 : F (c.1 2).toNat = (n, x)) (h2 : F (c.1 3).toNat = (m, y)) (hA : okB x n) (hB : okB y m) : sR id (fun _ a => iI (sgU c) * a) y m (sR (vK c) (vA c) x n s0T) = vS c F := by
  have eK : vK c = id := funext fun t => vK_id (by omega)
  have eA : vA c = fun _ a => a := funext fun t => funext fun a => vA_id (by omega) (by omega)
  rw [eK, eA, sR_all hB (fun _ => Int32.mul_zero), sR_all hA (fun _ => rfl)]
  rcases hk with hk | hk
  · have e : sgU c = 1 := if_pos hk
    rw [e]; unfold vS
    rw [if_neg (by omega), if_pos hk, h1, h2]
    funext t
    show (s0T t + bS x n t) + iI 1 * bS y m t = bS x n t + iI 1 * bS y m t
    rw [show s0T t = 0 from rfl, Int32.zero_add]
  · have e : sgU c = -1 := if_neg (by omega)
    rw [e]; unfold vS
    rw [if_neg (by omega), if_neg (by omega), if_pos hk, h1, h2]
    funext t
    show (s0T t + bS x n t) + iI (-1) * bS y m t = bS x n t + iI (-1) * bS y m t
    rw [show s0T t = 0 from rfl, Int32.zero_add]
theorem rgP_z (h : rgP c x n y m z f k1) (hz : z ≠ 0) : rgP c x n y m z f' k2 := by
  rcases h with h | h
  · exact absurd h.1 hz
  · exact Or.inr h
theorem lay_v0 (hk8 : c.1 0 ≠ 8) (hm : ¬ vMany c F) (hn : 0 ≤ k) (h : gaR (AI (gh 75 0)) k.toNat (vS c F)) (hl : lyP gh sd rr k AI AI' z) : vwP c F z (fun q => AI' (gh 56 0) ((11520 * sd + 720 * rr).toNat + q)) (AI' (gh 57 0) (16 * sd + rr).toNat).toInt.toNat := by
  unfold vwP; rw [if_neg hk8]
  rcases hl with ⟨a, b, _, d, e⟩ | ⟨a, b, _⟩
  · have w0 := wCnt_0 (f := AI (gh 75 0)) (a := k.toNat)
    rw [d, iI_val ⟨by omega, by omega⟩]
    exact Or.inl ⟨a, hm, gaR_lay h (by rw [Int.toNat_of_nonneg hn]; exact b), by omega⟩
  · exact Or.inr ⟨a, Or.inr (gaR_big h b)⟩
theorem lay_80 (hn : 0 ≤ k) (h : rgY c x n y m R0 (AI (gh 75 0)) k.toNat) (hl : lyP gh sd rr k AI AI' z) : z = 0 ∧ rgY c x n y m R0 (fun q => AI' (gh 56 0) ((11520 * sd + 720 * rr).toNat + q)) (AI' (gh 57 0) (16 * sd + rr).toNat).toInt.toNat := by
  have w0 := wCnt_0 (f := AI (gh 75 0)) (a := k.toNat)
  have wu := wCnt_u (f := AI (gh 75 0)) (a := k.toNat)
  have h120 := h.2.2.2.1
  rcases hl with ⟨a, b, _, d, e⟩ | ⟨a, b, _⟩
  · rw [d, iI_val ⟨by omega, by omega⟩]
    exact ⟨a, rgY_lay h (by rw [Int.toNat_of_nonneg hn]; exact b)⟩
  · omega
theorem lay_v (h0 : 0 ≤ rr) (h1 : tI (AI' (gh 57 0)) (16 * sd + rr) ≤ 120) (hk8 : c.1 0 ≠ 8) (hm : ¬ vMany c F) (hn : 0 ≤ k) (h : gaR (AI (gh 75 0)) k.toNat (vS c F)) (hl : lyP gh sd rr k AI AI' z) : vwP c F z (rfM gh AI' sd rr.toNat).2 (rfM gh AI' sd rr.toNat).1 := by
  rw [rfM_1 h0]; unfold tI at h1
  exact vwP_f (rfM_w h0 (by omega)) (lay_v0 hk8 hm hn h hl)
theorem rgY_f {f2 : Nat → Int32} (e : rwA f2 f k1) (h : rgY c x n y m R0 f k1) : rgY c x n y m R0 f2 k1 := by
  obtain ⟨h1, h2, h3, h4, M, h5, h6⟩ := h
  exact ⟨h1, h2, h3, h4, M, isW_c h5 e, h6⟩
theorem lay_8 (h0 : 0 ≤ rr) (h1 : tI (AI' (gh 57 0)) (16 * sd + rr) ≤ 120) (hn : 0 ≤ k) (h : rgY c x n y m R0 (AI (gh 75 0)) k.toNat) (hl : lyP gh sd rr k AI AI' z) : z = 0 ∧ rgY c x n y m R0 (rfM gh AI' sd rr.toNat).2 (rfM gh AI' sd rr.toNat).1 := by
  have q := lay_80 hn h hl
  rw [rfM_1 h0]; unfold tI at h1
  exact ⟨q.1, rgY_f (rfM_w h0 (by omega)) q.2⟩
theorem rk_F (h : rkM gh sd rr AI AI') {sd' : Int} {r' : Nat} (h0 : 0 ≤ sd ∧ 0 ≤ rr ∧ rr ≤ 15) (h1 : 0 ≤ sd' ∧ r' < 16) (hne : sd' ≠ sd ∨ (r' : Int) ≠ rr) : rfM gh AI' sd' r' = rfM gh AI sd' r' := by
  unfold rfM
  refine Prod.ext ?_ (funext fun q => ?_)
  · show (AI' (gh 57 0) _).toInt.toNat = _
    rw [h.2.2.1 _ (by omega)]
  · show (if q < 720 then _ else _) = if q < 720 then _ else _
    by_cases w : q < 720
    · rw [if_pos w, if_pos w, h.2.1 _ (by omega)]
    · rw [if_neg w, if_neg w]
theorem rk_1 (hv : mInv g gh R I AI) (hm : gO g mo 7) (f : ∀ b, b ≠ gh 75 0 → b ≠ gh 77 0 → b ≠ gh 78 0 → b ≠ gh 79 0 → b ≠ gh 80 0 → AI1 b = AI b) (h79 : ∀ j : Nat, j ≠ (16 * sd + rr).toNat → AI1 (gh 79 0) j = AI (gh 79 0) j) : rkM gh sd rr AI AI1 := by
  refine ⟨fun b _ _ h1 h2 h3 h4 h5 => f b h1 h2 h3 h4 h5, fun q _ => ?_, fun j _ => ?_, h79⟩
  · rw [f (gh 56 0) (mNe hv hm (p := (6, 126720)) (q := (25, 9600)) (by decide) (by decide) (by decide)) (mNe hv hm (p := (6, 126720)) (q := (27, 4)) (by decide) (by decide) (by decide)) (mNe hv hm (p := (6, 126720)) (q := (28, 8)) (by decide) (by decide) (by decide)) (mNe hv hm (p := (6, 126720)) (q := (29, 176)) (by decide) (by decide) (by decide)) (mNe hv hm (p := (6, 126720)) (q := (30, 600)) (by decide) (by decide) (by decide))]
  · rw [f (gh 57 0) (mNe hv hm (p := (7, 176)) (q := (25, 9600)) (by decide) (by decide) (by decide)) (mNe hv hm (p := (7, 176)) (q := (27, 4)) (by decide) (by decide) (by decide)) (mNe hv hm (p := (7, 176)) (q := (28, 8)) (by decide) (by decide) (by decide)) (mNe hv hm (p := (7, 176)) (q := (29, 176)) (by decide) (by decide) (by decide)) (mNe hv hm (p := (7, 176)) (q := (30, 600)) (by decide) (by decide) (by decide))]
theorem rk_2 (hv : mInv g gh R I AI) (hm : gO g mo 7) (h : rkM gh sd rr AI AI1) (hf : ∀ b, b ≠ gh 56 0 → b ≠ gh 57 0 → AI2 b = AI1 b) (hl : lyP gh sd rr k AI1 AI2 z) : rkM gh sd rr AI AI2 := by
  obtain ⟨f1, f2, f3, f4⟩ := h
  refine ⟨fun b h1 h2 h3 h4 h5 h6 h7 => (hf b h1 h2).trans (f1 b h1 h2 h3 h4 h5 h6 h7), fun q hq => ?_, fun j hj => ?_, fun j hj => ?_⟩
  · rcases hl with ⟨_, b, _, _, e⟩ | ⟨_, _, b, _⟩
    · have w0 := wCnt_0 (f := AI1 (gh 75 0)) (a := k.toNat)
      rw [b.2.2 q (by omega)]; exact f2 q hq
    · rw [b]; exact f2 q hq
  · rcases hl with ⟨_, _, b, _⟩ | ⟨_, _, _, b⟩
    · rw [b j hj]; exact f3 j hj
    · rw [b]; exact f3 j hj
  · rw [hf (gh 79 0) (mNe hv hm (p := (29, 176)) (q := (6, 126720)) (by decide) (by decide) (by decide)) (mNe hv hm (p := (29, 176)) (q := (7, 176)) (by decide) (by decide) (by decide))]; exact f4 j hj
end Rkm
