/-! names and words: what the class packs and what the reference packs tell the same letters -/
def uB (x : Int64) : Nat := x.toBitVec.toNat
theorem uB_inj {x y : Int64} (h : uB x = uB y) : x = y := Int64.toBitVec_inj.mp (BitVec.eq_of_toNat_eq h)
theorem uB_i {z : Int} (h0 : 0 ≤ z) (h1 : z ≤ 255) : uB (iI z).toInt64 = z.toNat := by
  have h : ∀ k : Nat, k < 256 → uB (iI (k : Int)).toInt64 = k := by decide +kernel
  have := h z.toNat (by omega)
  rwa [show ((z.toNat : Nat) : Int) = z by omega] at this
theorem uB_s {x y : Int64} (hx : uB x < 2 ^ 40) (hy : uB y < 32) : uB ((x <<< ((iI 5).toInt64 &&& 63)) ||| y) = 32 * uB x + uB y := by
  have e : ((iI 5).toInt64 &&& 63) = (5 : Int64) := by decide +kernel
  rw [e]
  unfold uB at *
  rw [Int64.toBitVec_or, Int64.toBitVec_shiftLeft, BitVec.toNat_or]
  have e5 : (Int64.toBitVec 5).smod 64 = 5#64 := by decide +kernel
  rw [e5]
  have e6 : (x.toBitVec <<< 5#64) = x.toBitVec <<< (5 : Nat) := rfl
  rw [e6, BitVec.toNat_shiftLeft, Nat.mod_eq_of_lt (by rw [Nat.shiftLeft_eq]; omega), ← Nat.shiftLeft_add_eq_or_of_lt (by omega), Nat.shiftLeft_eq]
  omega
theorem uB_m {x y : Int64} (h : 256 * uB x + uB y < 2 ^ 64) : uB (256 * x + y) = 256 * uB x + uB y := by
  unfold uB at *
  rw [Int64.toBitVec_add, Int64.toBitVec_mul, BitVec.toNat_add, BitVec.toNat_mul]
  have e : (Int64.toBitVec 256).toNat = 256 := by decide +kernel
  rw [e]
  omega
theorem uB_0 : uB 0 = 0 := by decide +kernel
theorem tNm_e {b : tTx} {k m : Nat} : tNm b k (m + 1) = ((tNm b k m <<< ((iI 5).toInt64 &&& 63)) ||| (iI (b (k + m) - 97 + 1)).toInt64) := rfl
theorem tMw_e {b : tTx} {k m : Nat} : tMw b k (m + 1) = if m < 8 then 256 * tMw b k m + (iI (b (k + m) % 256)).toInt64 else tMw b k m := rfl
abbrev tLt (b : tTx) (k m : Nat) : Prop := ∀ j, j < m → 97 ≤ b (k + j) ∧ b (k + j) ≤ 122
theorem tNm_u {b : tTx} {k : Nat} : ∀ {m}, tLt b k (m + 1) → m + 1 ≤ 8 → uB (tNm b k (m + 1)) = 32 * uB (tNm b k m) + (b (k + m) - 96).toNat ∧ uB (tNm b k m) < 32 ^ m := by
  intro m
  induction m with
  | zero =>
    intro h _
    have h0 := h 0 (by omega)
    have z : uB (tNm b k 0) = 0 := uB_0
    refine ⟨?_, by rw [z]; decide⟩
    rw [tNm_e, uB_s (by rw [z]; decide) (by rw [uB_i (by omega) (by omega)]; omega), uB_i (by omega) (by omega)]
    omega
  | succ m ih =>
    intro h hm
    have q := ih (fun j hj => h j (by omega)) (by omega)
    have h0 := h (m + 1) (by omega)
    have h1 := h m (by omega)
    have lt : uB (tNm b k (m + 1)) < 32 ^ (m + 1) := by rw [q.1, Nat.pow_succ]; omega
    have p : 32 ^ (m + 1) ≤ 2 ^ 40 := by
      have : 32 ^ (m + 1) ≤ 32 ^ 8 := Nat.pow_le_pow_right (by decide) (by omega)
      exact Nat.le_trans this (by decide)
    refine ⟨?_, lt⟩
    rw [tNm_e, uB_s (by omega) (by rw [uB_i (by omega) (by omega)]; omega), uB_i (by omega) (by omega)]
    omega
theorem tMw_u {b : tTx} {k : Nat} : ∀ {m}, tLt b k (m + 1) → m + 1 ≤ 8 → uB (tMw b k (m + 1)) = 256 * uB (tMw b k m) + (b (k + m)).toNat ∧ uB (tMw b k m) < 256 ^ m := by
  intro m
  induction m with
  | zero =>
    intro h _
    have h0 := h 0 (by omega)
    have z : uB (tMw b k 0) = 0 := uB_0
    refine ⟨?_, by rw [z]; decide⟩
    rw [tMw_e, if_pos (by omega), uB_m (by rw [z, uB_i (by omega) (by omega)]; omega), uB_i (by omega) (by omega)]
    omega
  | succ m ih =>
    intro h hm
    have q := ih (fun j hj => h j (by omega)) (by omega)
    have h0 := h (m + 1) (by omega)
    have h1 := h m (by omega)
    have lt : uB (tMw b k (m + 1)) < 256 ^ (m + 1) := by rw [q.1, Nat.pow_succ]; omega
    have p : 256 ^ (m + 1) ≤ 256 ^ 7 := Nat.pow_le_pow_right (by decide) (by omega)
    have p7 : (256 : Nat) ^ 7 = 72057594037927936 := by decide
    refine ⟨?_, lt⟩
    rw [tMw_e, if_pos (by omega), uB_m (by rw [uB_i (by omega) (by omega)]; omega), uB_i (by omega) (by omega)]
    omega
theorem tNm_i {b b' : tTx} {k k' : Nat} : ∀ {m m'}, tLt b k m → tLt b' k' m' → m ≤ 8 → m' ≤ 8 → tNm b k m = tNm b' k' m' → m = m' ∧ ∀ j, j < m → b (k + j) = b' (k' + j)
  | 0, 0, _, _, _, _, _ => ⟨rfl, fun j hj => absurd hj (by omega)⟩
  | 0, m' + 1, _, h', _, hm', e => by
    have q := (tNm_u h' hm').1
    have w := h' m' (by omega)
    have z : uB (tNm b k 0) = 0 := uB_0
    rw [← e, z] at q; omega
  | m + 1, 0, h, _, hm, _, e => by
    have q := (tNm_u h hm).1
    have w := h m (by omega)
    have z : uB (tNm b' k' 0) = 0 := uB_0
    rw [e, z] at q; omega
  | m + 1, m' + 1, h, h', hm, hm', e => by
    have q := (tNm_u h hm).1
    have q' := (tNm_u h' hm').1
    have w := h m (by omega)
    have w' := h' m' (by omega)
    rw [e] at q
    have r := tNm_i (fun j hj => h j (by omega)) (fun j hj => h' j (by omega)) (by omega) (by omega) (uB_inj (x := tNm b k m) (y := tNm b' k' m') (by omega))
    refine ⟨by omega, fun j hj => ?_⟩
    by_cases c : j = m
    · rw [c, r.1]; rw [r.1] at w q; omega
    · exact r.2 j (by omega)
theorem tMw_i {b b' : tTx} {k k' : Nat} : ∀ {m m'}, tLt b k m → tLt b' k' m' → m ≤ 8 → m' ≤ 8 → tMw b k m = tMw b' k' m' → m = m' ∧ ∀ j, j < m → b (k + j) = b' (k' + j)
  | 0, 0, _, _, _, _, _ => ⟨rfl, fun j hj => absurd hj (by omega)⟩
  | 0, m' + 1, _, h', _, hm', e => by
    have q := (tMw_u h' hm').1
    have w := h' m' (by omega)
    have z : uB (tMw b k 0) = 0 := uB_0
    rw [← e, z] at q; omega
  | m + 1, 0, h, _, hm, _, e => by
    have q := (tMw_u h hm).1
    have w := h m (by omega)
    have z : uB (tMw b' k' 0) = 0 := uB_0
    rw [e, z] at q; omega
  | m + 1, m' + 1, h, h', hm, hm', e => by
    have q := (tMw_u h hm).1
    have q' := (tMw_u h' hm').1
    have w := h m (by omega)
    have w' := h' m' (by omega)
    rw [e] at q
    have r := tMw_i (fun j hj => h j (by omega)) (fun j hj => h' j (by omega)) (by omega) (by omega) (uB_inj (x := tMw b k m) (y := tMw b' k' m') (by omega))
    refine ⟨by omega, fun j hj => ?_⟩
    by_cases c : j = m
    · rw [c, r.1]; rw [r.1] at w q; omega
    · exact r.2 j (by omega)
theorem tNm_c {b b' : tTx} {k k' : Nat} : ∀ {m}, (∀ j, j < m → b (k + j) = b' (k' + j)) → tNm b k m = tNm b' k' m
  | 0, _ => rfl
  | m + 1, h => by rw [tNm, tNm, tNm_c (fun j hj => h j (by omega)), h m (by omega)]
theorem tMw_c {b b' : tTx} {k k' : Nat} : ∀ {m}, (∀ j, j < m → b (k + j) = b' (k' + j)) → tMw b k m = tMw b' k' m
  | 0, _ => rfl
  | m + 1, h => by rw [tMw, tMw, tMw_c (fun j hj => h j (by omega)), h m (by omega)]
/-- two names are one just where both sides say so -/
theorem nm_mw {b b' : tTx} {k k' m m' : Nat} (h : tLt b k m) (h' : tLt b' k' m') (hm : m ≤ 8) (hm' : m' ≤ 8) : tNm b k m = tNm b' k' m' ↔ tMw b k m = tMw b' k' m' :=
  ⟨fun e => by obtain ⟨r, s⟩ := tNm_i h h' hm hm' e; subst r; exact tMw_c s, fun e => by obtain ⟨r, s⟩ := tMw_i h h' hm hm' e; subst r; exact tNm_c s⟩
theorem wOne : ∀ w, w < 20 → ∀ v, v < 20 → wLn w = wLn v → (∀ j, j < wLn w → wCh (wSt w + j) = wCh (wSt v + j)) → w = v := by decide +kernel
theorem wLet : ∀ w, w < 20 → wLn w ≤ 8 ∧ ∀ j, j < wLn w → 97 ≤ wCh (wSt w + j) ∧ wCh (wSt w + j) ≤ 122 := by decide +kernel
theorem tWn_i {b : tTx} {k m w : Nat} (hw : w < 20) : tWn b k m = (w : Int) ↔ tWa b k m w := by
  constructor
  · intro e
    by_cases q : ∃ u, u < 20 ∧ tWa b k m u
    · obtain ⟨u, hu, ha⟩ := q
      have : tWn b k m = (u : Int) := tWn_at hu ha (fun v hv hb => by
        have := wOne v (by omega) u hu (by rw [hb.1, ha.1]) (fun j hj => (hb.2 j (by rw [← hb.1]; exact hj)).trans (ha.2 j (by rw [← hb.1]; exact hj)).symm)
        omega)
      rw [this] at e
      have : u = w := by omega
      rw [← this]; exact ha
    · rw [tWn_no (fun u hu ha => q ⟨u, hu, ha⟩)] at e; omega
  · intro ha
    exact tWn_at hw ha (fun v hv hb => by
      have := wOne v (by omega) w hw (by rw [hb.1, ha.1]) (fun j hj => (hb.2 j (by rw [← hb.1]; exact hj)).trans (ha.2 j (by rw [← hb.1]; exact hj)).symm)
      omega)
theorem tWa_mw {b : tTx} {k m w : Nat} (hw : w < 20) (h : tLt b k m) (hm : m ≤ 8) : tWa b k m w ↔ tMw b k m = tMw wCh (wSt w) (wLn w) := by
  have l := wLet w hw
  constructor
  · intro ha
    rw [ha.1]
    exact tMw_c (fun j hj => (ha.2 j hj).symm)
  · intro e
    obtain ⟨r, s⟩ := tMw_i h l.2 hm l.1 e
    exact ⟨r.symm, fun j hj => (s j hj).symm⟩
theorem tWf_r {b : tTx} {k m : Nat} : ∀ f w, -1 ≤ tWf b k m f w ∧ tWf b k m f w < (w : Int) + (f : Int) ∨ tWf b k m f w = -1
  | 0, w => Or.inr rfl
  | f + 1, w => by
    rw [tWf]
    by_cases q : tWa b k m w
    · rw [if_pos q]; omega
    · rw [if_neg q]
      have := tWf_r (b := b) (k := k) (m := m) f (w + 1)
      omega
theorem tWn_r {b : tTx} {k m : Nat} : -1 ≤ tWn b k m ∧ tWn b k m ≤ 19 := by
  have := tWf_r (b := b) (k := k) (m := m) 20 0
  unfold tWn
  omega
/-- a word: letters alone, at most eight of them -/
theorem pK_3 {b : tTx} {n h : Nat} (e : pK b n h = 3) : tPs b n h < n ∧ tLt b (tPs b n h) (tRn b n (tPs b n h) - tPs b n h) ∧ tRn b n (tPs b n h) - tPs b n h ≤ 8 ∧ pV b n h = tWn b (tPs b n h) (tRn b n (tPs b n h) - tPs b n h) ∧ pN b n h = tNm b (tPs b n h) (tRn b n (tPs b n h) - tPs b n h) := by
  unfold pK at e
  unfold pV pN
  generalize tPs b n h = k at e
  unfold tKd at e
  by_cases a : n ≤ k
  · rw [if_pos a] at e; exact absurd e (by decide)
  · rw [if_neg a] at e
    by_cases r : tRu (b k)
    · rw [if_pos r] at e
      have l := tRn_le (b := b) (n := n) (k := k) (by omega)
      have e2 := e
      unfold tKr at e
      by_cases c : tDc b k (tRn b n k - k) = 0 ∧ tRn b n k - k ≤ 8
      · refine ⟨by omega, fun j hj => ?_, c.2, ?_, ?_⟩
        · have d := tDc_none c.1 j hj
          have u := l.2.2.1 (k + j) (by omega) (by omega)
          omega
        · unfold tVl tVr; rw [if_neg a, if_pos r, e2, if_pos rfl]
        · unfold tNa; rw [if_neg a, if_pos r, e2, if_pos rfl]
      · rw [if_neg c] at e
        by_cases d : tDc b k (tRn b n k - k) = tRn b n k - k ∧ tRn b n k - k ≤ 4
        · rw [if_pos d] at e; exact absurd e (by decide)
        · rw [if_neg d] at e
          by_cases f : tRn b n k - k = 2 ∧ b k = 99 ∧ 48 ≤ b (k + 1) ∧ b (k + 1) ≤ 51
          · rw [if_pos f] at e; exact absurd e (by decide)
          · rw [if_neg f] at e; exact absurd e (by decide)
    · rw [if_neg r] at e
      by_cases s : tSg (b k)
      · rw [if_pos s] at e; omega
      · rw [if_neg s] at e; exact absurd e (by decide)
/-- the reference's word of the h-th token -/
def pMw (b : tTx) (n h : Nat) : Int64 := tMw b (tPs b n h) (tRn b n (tPs b n h) - tPs b n h)
theorem pMw_N {b : tTx} {n h h' : Nat} (e : pK b n h = 3) (e' : pK b n h' = 3) : pMw b n h = pMw b n h' ↔ pN b n h = pN b n h' := by
  have w := pK_3 e
  have w' := pK_3 e'
  rw [w.2.2.2.2, w'.2.2.2.2]
  exact (nm_mw w.2.1 w'.2.1 w.2.2.1 w'.2.2.1).symm
theorem pMw_w {b : tTx} {n h w : Nat} (e : pK b n h = 3) (hw : w < 20) : pMw b n h = tMw wCh (wSt w) (wLn w) ↔ pV b n h = (w : Int) := by
  have q := pK_3 e
  rw [q.2.2.2.1, tWn_i hw]
  exact (tWa_mw hw q.2.1 q.2.2.1).symm
theorem pV_r {b : tTx} {n h : Nat} (e : pK b n h = 3) : -1 ≤ pV b n h ∧ pV b n h ≤ 19 := by rw [(pK_3 e).2.2.2.1]; exact tWn_r
/-- which kinds there are -/
theorem pK_r {b : tTx} {n h : Nat} : 0 ≤ pK b n h ∧ (pK b n h ≤ 4 ∨ tSg (pK b n h)) := by
  unfold pK
  generalize tPs b n h = k
  unfold tKd
  by_cases a : n ≤ k
  · rw [if_pos a]; decide
  · rw [if_neg a]
    by_cases r : tRu (b k)
    · rw [if_pos r]
      unfold tKr
      by_cases c : tDc b k (tRn b n k - k) = 0 ∧ tRn b n k - k ≤ 8
      · rw [if_pos c]; decide
      · rw [if_neg c]
        by_cases d : tDc b k (tRn b n k - k) = tRn b n k - k ∧ tRn b n k - k ≤ 4
        · rw [if_pos d]; decide
        · rw [if_neg d]
          by_cases f : tRn b n k - k = 2 ∧ b k = 99 ∧ 48 ≤ b (k + 1) ∧ b (k + 1) ≤ 51
          · rw [if_pos f]; decide
          · rw [if_neg f]; decide
    · rw [if_neg r]
      by_cases s : tSg (b k)
      · rw [if_pos s]; exact ⟨by omega, Or.inr s⟩
      · rw [if_neg s]; decide
