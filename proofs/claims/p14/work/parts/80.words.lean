section
/-! names and words: what the class packs and what the reference packs tell the same letters -/
def uB (x : Int64) : Nat := x.toBitVec.toNat
theorem uB_inj {x y : Int64} (h : uB x = uB y) : x = y := Int64.toBitVec_inj.mp (BitVec.eq_of_toNat_eq h)
theorem uB_i {z : Int} (h0 : 0 ≤ z) (h1 : z ≤ 255) : uB (iI z).toInt64 = z.toNat := by
  have h : ∀ k : Nat, k < 256 → uB (iI (k : Int)).toInt64 = k := by decide +kernel
  have := h z.toNat (by omega)
  rwa [show ((z.toNat : Nat) : Int) = z by omega] at this
theorem uB_s {x y : Int64} (hx : uB x < 2 ^ 40) (hy : uB y < 32) : uB ((x <<< ((iI 5).toInt64 &&& 63)) ||| y) = 32 * uB x + uB y := by
  have e : ((iI 5).toInt64 &&& 63) = (5 : Int64) := by decide +kernel
  rw [e]
  unfold uB at *
  rw [Int64.toBitVec_or, Int64.toBitVec_shiftLeft, BitVec.toNat_or]
  have e5 : (Int64.toBitVec 5).smod 64 = 5#64 := by decide +kernel
  rw [e5]
  have e6 : (x.toBitVec <<< 5#64) = x.toBitVec <<< (5 : Nat) := rfl
  rw [e6, BitVec.toNat_shiftLeft, Nat.mod_eq_of_lt (by rw [Nat.shiftLeft_eq]; omega), ← Nat.shiftLeft_add_eq_or_of_lt (by omega), Nat.shiftLeft_eq]
  omega
theorem uB_m {x y : Int64} (h : 256 * uB x + uB y < 2 ^ 64) : uB (256 * x + y) = 256 * uB x + uB y := by
  unfold uB at *
  rw [Int64.toBitVec_add, Int64.toBitVec_mul, BitVec.toNat_add, BitVec.toNat_mul]
  have e : (Int64.toBitVec 256).toNat = 256 := by decide +kernel
  rw [e]
  omega
theorem uB_0 : uB 0 = 0 := by decide +kernel
theorem tNm_e {b : tTx} {k m : Nat} : tNm b k (m + 1) = ((tNm b k m <<< ((iI 5).toInt64 &&& 63)) ||| (iI (b (k + m) - 97 + 1)).toInt64) := rfl
theorem tMw_e {b : tTx} {k m : Nat} : tMw b k (m + 1) = if m < 8 then 256 * tMw b k m + (iI (b (k + m) % 256)).toInt64 else tMw b k m := rfl
abbrev tLt (b : tTx) (k m : Nat) : Prop := ∀ j, j < m → 97 ≤ b (k + j) ∧ b (k + j) ≤ 122
theorem tNm_u {b : tTx} {k : Nat} : ∀ {m}, tLt b k (m + 1) → m + 1 ≤ 8 → uB (tNm b k (m + 1)) = 32 * uB (tNm b k m) + (b (k + m) - 96).toNat ∧ uB (tNm b k m) < 32 ^ m := by
  intro m
  induction m with
  | zero =>
    intro h _
    have h0 := h 0 (by omega)
    have z : uB (tNm b k 0) = 0 := uB_0
    refine ⟨?_, by rw [z]; decide⟩
    rw [tNm_e, uB_s (by rw [z]; decide) (by rw [uB_i (by omega) (by omega)]; omega), uB_i (by omega) (by omega)]
    omega
  | succ m ih =>
    intro h hm
    have q := ih (fun j hj => h j (by omega)) (by omega)
    have h0 := h (m + 1) (by omega)
    have h1 := h m (by omega)
    have lt : uB (tNm b k (m + 1)) < 32 ^ (m + 1) := by rw [q.1, Nat.pow_succ]; omega
    have p : 32 ^ (m + 1) ≤ 2 ^ 40 := by
      have : 32 ^ (m + 1) ≤ 32 ^ 8 := Nat.pow_le_pow_right (by decide) (by omega)
      exact Nat.le_trans this (by decide)
    refine ⟨?_, lt⟩
    rw [tNm_e, uB_s (by omega) (by rw [uB_i (by omega) (by omega)]; omega), uB_i (by omega) (by omega)]
    omega
theorem tMw_u {b : tTx} {k : Nat} : ∀ {m}, tLt b k (m + 1) → m + 1 ≤ 8 → uB (tMw b k (m + 1)) = 256 * uB (tMw b k m) + (b (k + m)).toNat ∧ uB (tMw b k m) < 256 ^ m := by
  intro m
  induction m with
  | zero =>
    intro h _
    have h0 := h 0 (by omega)
    have z : uB (tMw b k 0) = 0 := uB_0
    refine ⟨?_, by rw [z]; decide⟩
    rw [tMw_e, if_pos (by omega), uB_m (by rw [z, uB_i (by omega) (by omega)]; omega), uB_i (by omega) (by omega)]
    omega
  | succ m ih =>
    intro h hm
    have q := ih (fun j hj => h j (by omega)) (by omega)
    have h0 := h (m + 1) (by omega)
    have h1 := h m (by omega)
    have lt : uB (tMw b k (m + 1)) < 256 ^ (m + 1) := by rw [q.1, Nat.pow_succ]; omega
    have p : 256 ^ (m + 1) ≤ 256 ^ 7 := Nat.pow_le_pow_right (by decide) (by omega)
    have p7 : (256 : Nat) ^ 7 = 72057594037927936 := by decide
    refine ⟨?_, lt⟩
    rw [tMw_e, if_pos (by omega), uB_m (by rw [uB_i (by omega) (by omega)]; omega), uB_i (by omega) (by omega)]
    omega
theorem tNm_i {b b' : tTx} {k k' : Nat} : ∀ {m m'}, tLt b k m → tLt b' k' m' → m ≤ 8 → m' ≤ 8 → tNm b k m = tNm b' k' m' → m = m' ∧ ∀ j, j < m → b (k + j) = b' (k' + j)
  | 0, 0, _, _, _, _, _ => ⟨rfl, fun j hj => absurd hj (by omega)⟩
  | 0, m' + 1, _, h', _, hm', e => by
    have q := (tNm_u h' hm').1
    have w := h' m' (by omega)
    have z : uB (tNm b k 0) = 0 := uB_0
    rw [← e, z] at q; omega
  | m + 1, 0, h, _, hm, _, e => by
    have q := (tNm_u h hm).1
    have w := h m (by omega)
    have z : uB (tNm b' k' 0) = 0 := uB_0
    rw [e, z] at q; omega
  | m + 1, m' + 1, h, h', hm, hm', e => by
    have q := (tNm_u h hm).1
    have q' := (tNm_u h' hm').1
    have w := h m (by omega)
    have w' := h' m' (by omega)
    rw [e] at q
    have r := tNm_i (fun j hj => h j (by omega)) (fun j hj => h' j (by omega)) (by omega) (by omega) (uB_inj (x := tNm b k m) (y := tNm b' k' m') (by omega))
    refine ⟨by omega, fun j hj => ?_⟩
    by_cases c : j = m
    · rw [c, r.1]; rw [r.1] at w q; omega
    · exact r.2 j (by omega)
theorem tMw_i {b b' : tTx} {k k' : Nat} : ∀ {m m'}, tLt b k m → tLt b' k' m' → m ≤ 8 → m' ≤ 8 → tMw b k m = tMw b' k' m' → m = m' ∧ ∀ j, j < m → b (k + j) = b' (k' + j)
  | 0, 0, _, _, _, _, _ => ⟨rfl, fun j hj => absurd hj (by omega)⟩
  | 0, m' + 1, _, h', _, hm', e => by
    have q := (tMw_u h' hm').1
    have w := h' m' (by omega)
    have z : uB (tMw b k 0) = 0 := uB_0
    rw [← e, z] at q; omega
  | m + 1, 0, h, _, hm, _, e => by
    have q := (tMw_u h hm).1
    have w := h m (by omega)
    have z : uB (tMw b' k' 0) = 0 := uB_0
    rw [e, z] at q; omega
  | m + 1, m' + 1, h, h', hm, hm', e => by
    have q := (tMw_u h hm).1
    have q' := (tMw_u h' hm').1
    have w := h m (by omega)
    have w' := h' m' (by omega)
    rw [e] at q
    have r := tMw_i (fun j hj => h j (by omega)) (fun j hj => h' j (by omega)) (by omega) (by omega) (uB_inj (x := tMw b k m) (y := tMw b' k' m') (by omega))
    refine ⟨by omega, fun j hj => ?_⟩
    by_cases c : j = m
    · rw [c, r.1]; rw [r.1] at w q; omega
    · exact r.2 j (by omega)
theorem tNm_c {b b' : tTx} {k k' : Nat} : ∀ {m}, (∀ j, j < m → b (k + j) = b' (k' + j)) → tNm b k m = tNm b' k' m
  | 0, _ => rfl
  | m + 1, h => by rw [tNm, tNm, tNm_c (fun j hj => h j (by omega)), h m (by omega)]
theorem tMw_c {b b' : tTx} {k k' : Nat} : ∀ {m}, (∀ j, j < m → b (k + j) = b' (k' + j)) → tMw b k m = tMw b' k' m
  | 0, _ => rfl
  | m + 1, h => by rw [tMw, tMw, tMw_c (fun j hj => h j (by omega)), h m (by omega)]
/-- two names are one just where both sides say so -/
theorem nm_mw {b b' : tTx} {k k' m m' : Nat} (h : tLt b k m) (h' : tLt b' k' m') (hm : m ≤ 8) (hm' : m' ≤ 8) : tNm b k m = tNm b' k' m' ↔ tMw b k m = tMw b' k' m' :=
  ⟨fun e => by obtain ⟨r, s⟩ := tNm_i h h' hm hm' e; subst r; exact tMw_c s, fun e => by obtain ⟨r, s⟩ := tMw_i h h' hm hm' e; subst r; exact tNm_c s⟩
theorem wOne : ∀ w, w < 20 → ∀ v, v < 20 → wLn w = wLn v → (∀ j, j < wLn w → wCh (wSt w + j) = wCh (wSt v + j)) → w = v := by decide +kernel
theorem wLet : ∀ w, w < 20 → wLn w ≤ 8 ∧ ∀ j, j < wLn w → 97 ≤ wCh (wSt w + j) ∧ wCh (wSt w + j) ≤ 122 := by decide +kernel
theorem tWn_i {b : tTx} {k m w : Nat} (hw : w < 20) : tWn b k m = (w : Int) ↔ tWa b k m w := by
  constructor
  · intro e
    by_cases q : ∃ u, u < 20 ∧ tWa b k m u
    · obtain ⟨u, hu, ha⟩ := q
      have : tWn b k m = (u : Int) := tWn_at hu ha (fun v hv hb => by
        have := wOne v (by omega) u hu (by rw [hb.1, ha.1]) (fun j hj => (hb.2 j (by rw [← hb.1]; exact hj)).trans (ha.2 j (by rw [← hb.1]; exact hj)).symm)
        omega)
      rw [this] at e
      have : u = w := by omega
      rw [← this]; exact ha
    · rw [tWn_no (fun u hu ha => q ⟨u, hu, ha⟩)] at e; omega
  · intro ha
    exact tWn_at hw ha (fun v hv hb => by
      have := wOne v (by omega) w hw (by rw [hb.1, ha.1]) (fun j hj => (hb.2 j (by rw [← hb.1]; exact hj)).trans (ha.2 j (by rw [← hb.1]; exact hj)).symm)
      omega)
theorem tWa_mw {b : tTx} {k m w : Nat} (hw : w < 20) (h : tLt b k m) (hm : m ≤ 8) : tWa b k m w ↔ tMw b k m = tMw wCh (wSt w) (wLn w) := by
  have l := wLet w hw
  constructor
  · intro ha
    rw [ha.1]
    exact tMw_c (fun j hj => (ha.2 j hj).symm)
  · intro e
    obtain ⟨r, s⟩ := tMw_i h l.2 hm l.1 e
    exact ⟨r.symm, fun j hj => (s j hj).symm⟩
theorem tWf_r {b : tTx} {k m : Nat} : ∀ f w, -1 ≤ tWf b k m f w ∧ tWf b k m f w < (w : Int) + (f : Int) ∨ tWf b k m f w = -1
  | 0, w => Or.inr rfl
  | f + 1, w => by
    rw [tWf]
    by_cases q : tWa b k m w
    · rw [if_pos q]; omega
    · rw [if_neg q]
      have := tWf_r (b := b) (k := k) (m := m) f (w + 1)
      omega
theorem tWn_r {b : tTx} {k m : Nat} : -1 ≤ tWn b k m ∧ tWn b k m ≤ 19 := by
  have := tWf_r (b := b) (k := k) (m := m) 20 0
  unfold tWn
  omega
/-- a word: letters alone, at most eight of them -/
theorem pK_3 {b : tTx} {n h : Nat} (e : pK b n h = 3) : tPs b n h < n ∧ tLt b (tPs b n h) (tRn b n (tPs b n h) - tPs b n h) ∧ tRn b n (tPs b n h) - tPs b n h ≤ 8 ∧ pV b n h = tWn b (tPs b n h) (tRn b n (tPs b n h) - tPs b n h) ∧ pN b n h = tNm b (tPs b n h) (tRn b n (tPs b n h) - tPs b n h) := by
  unfold pK at e
  unfold pV pN
  generalize tPs b n h = k at e
  unfold tKd at e
  by_cases a : n ≤ k
  · rw [if_pos a] at e; exact absurd e (by decide)
  · rw [if_neg a] at e
    by_cases r : tRu (b k)
    · rw [if_pos r] at e
      have l := tRn_le (b := b) (n := n) (k := k) (by omega)
      have e2 := e
      unfold tKr at e
      by_cases c : tDc b k (tRn b n k - k) = 0 ∧ tRn b n k - k ≤ 8
      · refine ⟨by omega, fun j hj => ?_, c.2, ?_, ?_⟩
        · have d := tDc_none c.1 j hj
          have u := l.2.2.1 (k + j) (by omega) (by omega)
          omega
        · unfold tVl tVr; rw [if_neg a, if_pos r, e2, if_pos rfl]
        · unfold tNa; rw [if_neg a, if_pos r, e2, if_pos rfl]
      · rw [if_neg c] at e
        by_cases d : tDc b k (tRn b n k - k) = tRn b n k - k ∧ tRn b n k - k ≤ 4
        · rw [if_pos d] at e; exact absurd e (by decide)
        · rw [if_neg d] at e
          by_cases f : tRn b n k - k = 2 ∧ b k = 99 ∧ 48 ≤ b (k + 1) ∧ b (k + 1) ≤ 51
          · rw [if_pos f] at e; exact absurd e (by decide)
          · rw [if_neg f] at e; exact absurd e (by decide)
    · rw [if_neg r] at e
      by_cases s : tSg (b k)
      · rw [if_pos s] at e; omega
      · rw [if_neg s] at e; exact absurd e (by decide)
/-- the reference's word of the h-th token -/
def pMw (b : tTx) (n h : Nat) : Int64 := tMw b (tPs b n h) (tRn b n (tPs b n h) - tPs b n h)
theorem pMw_N {b : tTx} {n h h' : Nat} (e : pK b n h = 3) (e' : pK b n h' = 3) : pMw b n h = pMw b n h' ↔ pN b n h = pN b n h' := by
  have w := pK_3 e
  have w' := pK_3 e'
  rw [w.2.2.2.2, w'.2.2.2.2]
  exact (nm_mw w.2.1 w'.2.1 w.2.2.1 w'.2.2.1).symm
theorem pMw_w {b : tTx} {n h w : Nat} (e : pK b n h = 3) (hw : w < 20) : pMw b n h = tMw wCh (wSt w) (wLn w) ↔ pV b n h = (w : Int) := by
  have q := pK_3 e
  rw [q.2.2.2.1, tWn_i hw]
  exact (tWa_mw hw q.2.1 q.2.2.1).symm
theorem pV_r {b : tTx} {n h : Nat} (e : pK b n h = 3) : -1 ≤ pV b n h ∧ pV b n h ≤ 19 := by rw [(pK_3 e).2.2.2.1]; exact tWn_r
/-- which kinds there are -/
theorem pK_r {b : tTx} {n h : Nat} : 0 ≤ pK b n h ∧ (pK b n h ≤ 4 ∨ tSg (pK b n h)) := by
  unfold pK
  generalize tPs b n h = k
  unfold tKd
  by_cases a : n ≤ k
  · rw [if_pos a]; decide
  · rw [if_neg a]
    by_cases r : tRu (b k)
    · rw [if_pos r]
      unfold tKr
      by_cases c : tDc b k (tRn b n k - k) = 0 ∧ tRn b n k - k ≤ 8
      · rw [if_pos c]; decide
      · rw [if_neg c]
        by_cases d : tDc b k (tRn b n k - k) = tRn b n k - k ∧ tRn b n k - k ≤ 4
        · rw [if_pos d]; decide
        · rw [if_neg d]
          by_cases f : tRn b n k - k = 2 ∧ b k = 99 ∧ 48 ≤ b (k + 1) ∧ b (k + 1) ≤ 51
          · rw [if_pos f]; decide
          · rw [if_neg f]; decide
    · rw [if_neg r]
      by_cases s : tSg (b k)
      · rw [if_pos s]; exact ⟨by omega, Or.inr s⟩
      · rw [if_neg s]; decide
end
section
/-! where the reference's reading stands: a fault f, or the h-th token and the lines so far -/
/-- the kind of the relation whose name is the t-th token -/
def kdT (b : tTx) (n t : Nat) : Int := if pV b n (t - 1) = 0 then 0 else pV b n (t + 2)
/-- what a call of plan leaves of the reference -/
def plM (gh : gGh) (T : Nat → Int32) (I I' AI' : gI) (mo : Nat) (b : tTx) (n : Nat) (z : Int) : Prop := (z < 0 ∧ AI' (gh 50 0) = T ∧ (I' mo 2).toInt = (I mo 2).toInt ∧ (I' mo 14).toInt = (I mo 14).toInt) ∨ (0 ≤ z ∧ (I' mo 2).toInt = ((sPlF b n).1 : Int) ∧ (∀ r : Nat, r < (sPlF b n).1 → tI (AI' (gh 50 0)) (40 * (r : Int) + 1) = (sPlF b n).2.2.1 r ∧ tI (AI' (gh 50 0)) (40 * (r : Int)) = kdT b n ((sPlF b n).2.1 r)) ∧ (I' mo 14).toInt = 0)
def mE (gh : gGh) (AI : gI) (AJ : gJ) (b : tTx) (n nr : Nat) (nt : Nat → Nat) (cl : Nat → Int) : Prop := nr ≤ 16 ∧ (∀ r : Nat, r < nr → pK b n (nt r) = 3 ∧ AJ (gh 54 0) r = pMw b n (nt r) ∧ tI (AI (gh 53 0)) (40 * (r : Int) + 1) = cl r ∧ 1 ≤ cl r ∧ cl r ≤ 4) ∧ pUn b n nt nr ∧ ∀ r : Nat, r < nr → tI (AI (gh 53 0)) (40 * (r : Int)) = kdT b n (nt r)
def mQ (gh : gGh) (I : gI) (J : gJ) (AI : gI) (AJ : gJ) (mo : Nat) (b : tTx) (n nr : Nat) (nt : Nat → Nat) (cl : Nat → Int) (f : Int) (h : Nat) : Prop :=
  (f = 0 ∧ (I mo 24).toInt = 0 ∧ tMk b n (tPs b n h) (I mo) (J mo 22) ∧ mE gh AI AJ b n nr nt cl) ∨ (0 < f ∧ (I mo 24).toInt = 8 * (tPs b n h : Int) + f)
theorem thn_k {f : Int} {h : Nat} {F : Nat → Int → pR} (e : f = 0) : thn (f, h, 0) F = F h 0 := by subst e; rfl
theorem thn_b {f : Int} {h : Nat} {F : Nat → Int → pR} (e : f ≠ 0) : thn (f, h, 0) F = (f, h, 0) := if_neg e
/-- one answer, as far as the reading goes on -/
def pQ (r s : pR) : Prop := r.1 = s.1 ∧ r.2.1 = s.2.1
theorem pQ_r {r : pR} : pQ r r := ⟨rfl, rfl⟩
theorem pQ_e {r s : pR} (e : r = s) : pQ r s := e ▸ pQ_r
theorem pQ_t {r s t : pR} (h : pQ r s) (k : pQ s t) : pQ r t := ⟨h.1.trans k.1, h.2.trans k.2⟩
theorem pQ_1 {f : Int} {h : Nat} {F : Nat → pR} {K : Nat → Int → pR} {r : pR} (e : r = thn (f, h, 0) (fun t _ => F t)) : pQ (thn (f, h, 0) (fun t _ => thn (F t) K)) (thn r K) := pQ_e (by rw [e, thn_a])
theorem pQ_2 {r s : pR} {F : Int → Nat → pR} {K : Int → Nat → Int → pR} {v : Int} (e : s = thn (r.1, r.2.1, 0) (fun t _ => F v t)) (hv : r.1 = 0 → v = r.2.2) : pQ (thn r (fun t c => thn (F c t) (K c))) (thn s (K v)) := by
  by_cases q : r.1 = 0
  · rw [thn_y (f := fun t c => thn (F c t) (K c)) rfl q rfl, e, thn_k q, hv q]; exact pQ_r
  · rw [thn_x (f := fun t c => thn (F c t) (K c)) rfl q, e, thn_b q, thn_b q]; exact ⟨rfl, rfl⟩
/-- the value is read behind the step -/
theorem pQ_v {r s : pR} {F : Nat → pR} {K : Int → Nat → Int → pR} {v : Int} (e : s = thn (r.1, r.2.1, 0) (fun t _ => F t)) (hv : s.1 = 0 → v = r.2.2) : pQ (thn r (fun t c => thn (F t) (K c))) (thn s (K v)) := by
  by_cases q : r.1 = 0
  · rw [thn_y (f := fun t c => thn (F t) (K c)) rfl q rfl]
    rw [thn_k q] at e
    rw [← e]
    by_cases w : s.1 = 0
    · rw [hv w]; exact pQ_r
    · rw [thn_x (f := K r.2.2) rfl w, thn_x (f := K v) rfl w]; exact pQ_r
  · rw [thn_x (f := fun t c => thn (F t) (K c)) rfl q, e, thn_b q, thn_b q]; exact ⟨rfl, rfl⟩
theorem pQ_n {r s : pR} {F : Nat → pR} {K : Nat → Int → pR} (e : s = thn (r.1, r.2.1, 0) (fun t _ => F t)) : pQ (thn r (fun t _ => thn (F t) K)) (thn s K) := pQ_v (K := fun _ => K) (v := r.2.2) e (fun _ => rfl)
theorem pQ_3 {r s : pR} {F : Int → Nat → pR} {v : Int} (e : s = thn (r.1, r.2.1, 0) (fun t _ => F v t)) (hv : r.1 = 0 → v = r.2.2) : pQ (thn r (fun t c => F c t)) s := by
  by_cases q : r.1 = 0
  · rw [thn_y (f := fun t c => F c t) rfl q rfl, e, thn_k q, hv q]; exact pQ_r
  · rw [thn_x (f := fun t c => F c t) rfl q, e, thn_b q]; exact ⟨rfl, rfl⟩
theorem thn_0 {f : Int} {h : Nat} {F : Nat → Int → pR} {r : pR} (e : r = thn (f, h, 0) F) (q : r.1 = 0) : f = 0 ∧ r = F h 0 := by
  by_cases w : f = 0
  · exact ⟨w, by rw [e, thn_k w]⟩
  · rw [e, thn_b w] at q; exact absurd q w
section MQ
variable {g : gG} {gh : gGh} {R : gR} {I I' : gI} {J J' : gJ} {AI AI' : gI} {AJ AJ' : gJ} {mo : Nat} {b : tTx} {n nr : Nat} {nt : Nat → Nat} {cl : Nat → Int} {f : Int} {h : Nat}
theorem mQ_z (w : mQ gh I J AI AJ mo b n nr nt cl f h) (e : (I mo 24).toInt = 0) : f = 0 := by
  rcases w with w | w
  · exact w.1
  · have := w.2; omega
theorem mQ_nz (w : mQ gh I J AI AJ mo b n nr nt cl f h) (e : (I mo 24).toInt ≠ 0) : f ≠ 0 := by
  rcases w with w | w
  · exact absurd w.2.1 e
  · omega
theorem mQ_f (w : mQ gh I J AI AJ mo b n nr nt cl f h) (e : f ≠ 0) : (I mo 24).toInt = 8 * (tPs b n h : Int) + f := by
  rcases w with w | w
  · exact absurd w.1 e
  · exact w.2
theorem mQ_0 (w : mQ gh I J AI AJ mo b n nr nt cl f h) (e : f = 0) : (I mo 24).toInt = 0 := by
  rcases w with w | w
  · exact w.2.1
  · omega
theorem mQ_p (w : mQ gh I J AI AJ mo b n nr nt cl f h) : 0 ≤ f := by
  rcases w with w | w <;> omega
theorem mQ_t (w : mQ gh I J AI AJ mo b n nr nt cl f h) (e : f = 0) : tMk b n (tPs b n h) (I mo) (J mo 22) := by
  rcases w with w | w
  · exact w.2.2.1
  · omega
theorem mQ_e (w : mQ gh I J AI AJ mo b n nr nt cl f h) (e : f = 0) : mE gh AI AJ b n nr nt cl := by
  rcases w with w | w
  · exact w.2.2.2
  · omega
theorem mQ_ok (w : mQ gh I J AI AJ mo b n nr nt cl f h) (e : f = 0) : mQ gh I J AI AJ mo b n nr nt cl 0 h := by rw [e] at w; exact w
/-- the kind of the token -/
theorem mQ_k (w : mQ gh I J AI AJ mo b n nr nt cl f h) (e : f = 0) : (I mo 21).toInt = tkM (pK b n h) := (mQ_t w e).2.2.1
theorem mQ_kn (w : mQ gh I J AI AJ mo b n nr nt cl f h) (e : f = 0) {K c : Int} (hK : tkM K = c) (q : (I mo 21).toInt ≠ c) : pK b n h ≠ K := fun k => q ((mQ_k w e).trans (by rw [k]; exact hK))
theorem tkM_1 {K : Int} (h : tkM K = 1) : K = 2 := by unfold tkM at h; by_cases a : K = 0; (· rw [if_pos a] at h; omega); by_cases c : K = 1; (· rw [if_neg a, if_pos c] at h; omega); by_cases d : K = 2; (· exact d); by_cases e : K = 3; (· rw [if_neg a, if_neg c, if_neg d, if_pos e] at h; omega); by_cases f : K = 4; (· rw [if_neg a, if_neg c, if_neg d, if_neg e, if_pos f] at h; omega); rw [if_neg a, if_neg c, if_neg d, if_neg e, if_neg f] at h; omega
theorem tkM_2 {K : Int} (h : tkM K = 2) : K = 3 := by unfold tkM at h; by_cases a : K = 0; (· rw [if_pos a] at h; omega); by_cases c : K = 1; (· rw [if_neg a, if_pos c] at h; omega); by_cases d : K = 2; (· rw [if_neg a, if_neg c, if_pos d] at h; omega); by_cases e : K = 3; (· exact e); by_cases f : K = 4; (· rw [if_neg a, if_neg c, if_neg d, if_neg e, if_pos f] at h; omega); rw [if_neg a, if_neg c, if_neg d, if_neg e, if_neg f] at h; omega
theorem tkM_3 {K : Int} (h : tkM K = 3) : K = 4 := by unfold tkM at h; by_cases a : K = 0; (· rw [if_pos a] at h; omega); by_cases c : K = 1; (· rw [if_neg a, if_pos c] at h; omega); by_cases d : K = 2; (· rw [if_neg a, if_neg c, if_pos d] at h; omega); by_cases e : K = 3; (· rw [if_neg a, if_neg c, if_neg d, if_pos e] at h; omega); by_cases f : K = 4; (· exact f); rw [if_neg a, if_neg c, if_neg d, if_neg e, if_neg f] at h; omega
theorem tkM_0 {K : Int} (h : tkM K = 0) : K = 0 := by unfold tkM at h; by_cases a : K = 0; (· exact a); by_cases c : K = 1; (· rw [if_neg a, if_pos c] at h; omega); by_cases d : K = 2; (· rw [if_neg a, if_neg c, if_pos d] at h; omega); by_cases e : K = 3; (· rw [if_neg a, if_neg c, if_neg d, if_pos e] at h; omega); by_cases f : K = 4; (· rw [if_neg a, if_neg c, if_neg d, if_neg e, if_pos f] at h; omega); rw [if_neg a, if_neg c, if_neg d, if_neg e, if_neg f] at h; omega
theorem tkM_4 {K : Int} (h : 5 ≤ K) : tkM K = 4 := by unfold tkM; rw [if_neg (by omega), if_neg (by omega), if_neg (by omega), if_neg (by omega), if_neg (by omega)]
/-- what the token's kind is: a column, a word, a number, the end -/
theorem mQ_kd (w : mQ gh I J AI AJ mo b n nr nt cl f h) (e : f = 0) : (((I mo 21).toInt = 1 ∧ pK b n h = 2) ∨ ((I mo 21).toInt ≠ 1 ∧ pK b n h ≠ 2)) ∧ (((I mo 21).toInt = 2 ∧ pK b n h = 3) ∨ ((I mo 21).toInt ≠ 2 ∧ pK b n h ≠ 3)) ∧ (((I mo 21).toInt = 3 ∧ pK b n h = 4) ∨ ((I mo 21).toInt ≠ 3 ∧ pK b n h ≠ 4)) ∧ (((I mo 21).toInt = 0 ∧ pK b n h = 0) ∨ ((I mo 21).toInt ≠ 0 ∧ pK b n h ≠ 0)) := by
  have k := mQ_k w e
  refine ⟨?_, ?_, ?_, ?_⟩
  · by_cases q : pK b n h = 2
    · exact Or.inl ⟨by rw [k, q]; rfl, q⟩
    · exact Or.inr ⟨fun z => q (tkM_1 (k.symm.trans z)), q⟩
  · by_cases q : pK b n h = 3
    · exact Or.inl ⟨by rw [k, q]; rfl, q⟩
    · exact Or.inr ⟨fun z => q (tkM_2 (k.symm.trans z)), q⟩
  · by_cases q : pK b n h = 4
    · exact Or.inl ⟨by rw [k, q]; rfl, q⟩
    · exact Or.inr ⟨fun z => q (tkM_3 (k.symm.trans z)), q⟩
  · by_cases q : pK b n h = 0
    · exact Or.inl ⟨by rw [k, q]; rfl, q⟩
    · exact Or.inr ⟨fun z => q (tkM_0 (k.symm.trans z)), q⟩
theorem mQ_v (w : mQ gh I J AI AJ mo b n nr nt cl f h) (e : f = 0) (k : pK b n h = 2 ∨ pK b n h = 4) : (I mo 23).toInt = pV b n h := (mQ_t w e).2.2.2.2.1 k
theorem mQ_w (w : mQ gh I J AI AJ mo b n nr nt cl f h) (e : f = 0) (k : pK b n h = 3) : J mo 22 = pMw b n h := (mQ_t w e).2.2.2.2.2 k
theorem mQ_s (w : mQ gh I J AI AJ mo b n nr nt cl f h) (e : f = 0) {c : Int} (hc : 5 ≤ c) : ((I mo 21).toInt = 4 ∧ (I mo 23).toInt = c) ↔ pK b n h = c := by
  have t := mQ_t w e
  have k := mQ_k w e
  constructor
  · intro ⟨a, d⟩
    rw [← d]
    exact (t.2.2.2.1 (k.symm.trans a)).symm
  · intro q
    have k4 : (I mo 21).toInt = 4 := by rw [k, q]; exact tkM_4 hc
    exact ⟨k4, by rw [t.2.2.2.1 (k.symm.trans k4)]; exact q⟩
/-- a fault is told -/
theorem mQ_wr (w : mQ gh I J AI AJ mo b n nr nt cl f h) (e : f = 0) {kd : Int} (h1 : 1 ≤ kd) (e4 : (I' mo 24).toInt = 8 * (I mo 19).toInt + kd) : mQ gh I' J AI AJ mo b n nr nt cl kd h := by
  have t := (mQ_t w e).1
  exact Or.inr ⟨by omega, by rw [e4, t]⟩
theorem mQ_bad (w : mQ gh I J AI AJ mo b n nr nt cl f h) (e : f ≠ 0) (e4 : (I' mo 24).toInt = (I mo 24).toInt) : mQ gh I' J' AI' AJ' mo b n nr nt cl f h := by
  rcases w with w | w
  · exact absurd w.1 e
  · exact Or.inr ⟨w.1, e4.trans w.2⟩
theorem mQ_e0 (w : mQ gh I J AI AJ mo b n nr nt cl f h) : (I mo 24).toInt = 0 → (I mo 20).toInt = ((tNd b n (tPs b n h) : Nat) : Int) := fun e => (mQ_t w (mQ_z w e)).2.1
/-- the next token -/
theorem mQ_nx (w : mQ gh I J AI AJ mo b n nr nt cl f h) (e4 : (I' mo 24).toInt = (I mo 24).toInt) (q : (I mo 24).toInt = 0 → tMk b n (tSk b n (tNd b n (tPs b n h))) (I' mo) (J' mo 22)) : mQ gh I' J' AI AJ mo b n nr nt cl (thn (f, h, 0) (fun t _ => (0, t + 1, 0))).1 (thn (f, h, 0) (fun t _ => (0, t + 1, 0))).2.1 := by
  by_cases e : f = 0
  · rw [thn_k e]
    have z := mQ_0 w e
    exact Or.inl ⟨rfl, e4.trans z, q z, mQ_e w e⟩
  · rw [thn_b e]
    exact mQ_bad w e e4
/-- the row of the line that is read has changed -/
theorem mQ_a (w : mQ gh I J AI AJ mo b n nr nt cl f h) (q : (I mo 24).toInt = 0 → ∀ z : Int, 0 ≤ z → z < 40 * (nr : Int) → tI (AI' (gh 53 0)) z = tI (AI (gh 53 0)) z) : mQ gh I J AI' AJ mo b n nr nt cl f h := by
  rcases w with w | w
  · refine Or.inl ⟨w.1, w.2.1, w.2.2.1, w.2.2.2.1, fun r hr => ?_, w.2.2.2.2.2.1, fun r hr => by rw [q w.2.1 _ (by omega) (by omega)]; exact w.2.2.2.2.2.2 r hr⟩
    have k := w.2.2.2.2.1 r hr
    rw [q w.2.1 _ (by omega) (by omega)]
    exact k
  · exact Or.inr w
theorem mTp (hv : mInv g gh R I AI) (h65 : gh 9 (gh 65 0) ≠ 5) (hb : ∀ k : Nat, k < n → ((gM g).2 (gh 65 0) k).toInt = b k % 256) : ∀ k : Nat, k < n → (AI (gh 65 0) k).toInt = b k % 256 := fun k hk => by
  rw [hv.2.2.2 _ h65]; exact hb k hk
/-- the reference's search -/
theorem mQ_fd (w : mQ gh I J AI AJ mo b n nr nt cl f h) (e : f = 0) (k : pK b n h = 3) (e5 : (I mo 5).toInt = (nr : Int)) {z : Int} {lw : Int64} (el : lw = J mo 22) (hz : -1 ≤ z ∧ z < (I mo 5).toInt) (q : (0 ≤ z → AJ (gh 54 0) z.toNat = lw) ∧ (z < 0 → ∀ j : Int, 0 ≤ j → j < (I mo 5).toInt → AJ (gh 54 0) j.toNat ≠ lw)) : z = pFd b n nt nr h := by
  have ew := el.trans (mQ_w w e k)
  obtain ⟨l1, l2, l3, -⟩ := mQ_e w e
  by_cases c : z < 0
  · rw [pFd_no]
    · omega
    · intro u hu en
      have m := l2 u hu
      refine q.2 c (u : Int) (by omega) (by omega) ?_
      rw [show ((u : Int)).toNat = u by omega, m.2.1, ew]
      exact (pMw_N m.1 k).mpr en
  · have m := l2 z.toNat (by omega)
    rw [pFd_at (v := z.toNat) l3 (by omega) ((pMw_N m.1 k).mp (by rw [← m.2.1, ← ew]; exact q.1 (by omega)))]
    omega
theorem mQ_c (w : mQ gh I J AI AJ mo b n nr nt cl f h) (e : f = 0) {z : Int} (h0 : 0 ≤ z) (h1 : z < (nr : Int)) : tI (AI (gh 53 0)) (40 * z + 1) = cl z.toNat := by
  have m := (mQ_e w e).2.1 z.toNat (by omega)
  rw [show ((z.toNat : Nat) : Int) = z by omega] at m
  exact m.2.2.1
theorem mQ_cb (w : mQ gh I J AI AJ mo b n nr nt cl f h) (e : f = 0) {z : Int} (h0 : 0 ≤ z) (h1 : z < (nr : Int)) : 1 ≤ cl z.toNat ∧ cl z.toNat ≤ 4 := ((mQ_e w e).2.1 z.toNat (by omega)).2.2.2
end MQ
/-! the answers of the small steps, by cases -/
def sNum (b : tTx) (n h : Nat) : pR := if pK b n h = 4 then (0, h + 1, pV b n h) else (1, h, 0)
section Cases
variable {b : tTx} {n nr : Nat} {nt : Nat → Nat} {cl : Nat → Int} {h : Nat} {r : pR}
theorem sTk_c {c : Int} (e : r = sTk b n c h) : (r = (0, h + 1, 0) ∧ pK b n h = c) ∨ (r = (1, h, 0) ∧ pK b n h ≠ c) := by
  unfold sTk at e
  by_cases q : pK b n h = c
  · rw [if_pos q] at e; exact Or.inl ⟨e, q⟩
  · rw [if_neg q] at e; exact Or.inr ⟨e, q⟩
theorem sTw_c {c : Int} (e : r = sTw b n c h) : (r = (0, h + 1, 0) ∧ pK b n h = 3 ∧ pV b n h = c) ∨ (r = (1, h, 0) ∧ ¬ (pK b n h = 3 ∧ pV b n h = c)) := by
  unfold sTw at e
  by_cases q : pK b n h = 3 ∧ pV b n h = c
  · rw [if_pos q] at e; exact Or.inl ⟨e, q⟩
  · rw [if_neg q] at e; exact Or.inr ⟨e, q⟩
theorem sCol_c {c : Int} (e : r = sCol b n c h) : (r = (0, h + 1, pV b n h) ∧ pCf b n c h = 0 ∧ pK b n h = 2 ∧ pV b n h < c) ∨ (r = (pCf b n c h, h, 0) ∧ pCf b n c h ≠ 0 ∧ 0 ≤ pCf b n c h ∧ pCf b n c h ≤ 2) := by
  unfold sCol at e
  by_cases q : pCf b n c h = 0
  · rw [if_pos q] at e; exact Or.inl ⟨e, q, pCf_0 q⟩
  · rw [if_neg q] at e; exact Or.inr ⟨e, q, pCf_r⟩
theorem sNum_c (e : r = sNum b n h) : (r = (0, h + 1, pV b n h) ∧ pK b n h = 4) ∨ (r = (1, h, 0) ∧ pK b n h ≠ 4) := by
  unfold sNum at e
  by_cases q : pK b n h = 4
  · rw [if_pos q] at e; exact Or.inl ⟨e, q⟩
  · rw [if_neg q] at e; exact Or.inr ⟨e, q⟩
theorem pRf_r : 0 ≤ pRf b n nt nr h ∧ pRf b n nt nr h ≤ 3 := by
  unfold pRf
  by_cases q : pK b n h = 3 ∧ pV b n h = -1
  · rw [if_pos q]
    by_cases w : pFd b n nt nr h < 0
    · rw [if_pos w]; decide
    · rw [if_neg w]; decide
  · rw [if_neg q]; decide
theorem sRl_c (e : r = sRl b n nr nt cl h) : (r = (0, h + 1, cF b n nr nt cl h) ∧ pRf b n nt nr h = 0 ∧ pK b n h = 3 ∧ pV b n h = -1 ∧ 0 ≤ pFd b n nt nr h) ∨ (r = (pRf b n nt nr h, h, 0) ∧ pRf b n nt nr h ≠ 0 ∧ 0 ≤ pRf b n nt nr h ∧ pRf b n nt nr h ≤ 3) := by
  unfold sRl at e
  by_cases q : pRf b n nt nr h = 0
  · rw [if_pos q] at e
    have w := pRf_i q
    exact Or.inl ⟨e, q, w.1.1, w.1.2, w.2⟩
  · rw [if_neg q] at e; exact Or.inr ⟨e, q, pRf_r⟩
theorem sNam_c (e : r = sNam b n nr nt h) : (r = (0, h + 1, 0) ∧ pK b n h = 3 ∧ pV b n h = -1 ∧ pFd b n nt nr h = -1) ∨ (∃ kd : Int, r = (kd, h, 0) ∧ 1 ≤ kd ∧ kd ≤ 3) := by
  unfold sNam at e
  by_cases q : pK b n h = 3 ∧ pV b n h = -1
  · rw [if_pos q] at e
    by_cases w : pFd b n nt nr h = -1
    · rw [if_pos w] at e; exact Or.inl ⟨e, q.1, q.2, w⟩
    · rw [if_neg w] at e; exact Or.inr ⟨3, e, by decide, by decide⟩
  · rw [if_neg q] at e; exact Or.inr ⟨1, e, by decide, by decide⟩
end Cases
section IW
variable {gh : gGh} {I : gI} {J : gJ} {AI : gI} {AJ : gJ} {mo : Nat} {b : tTx} {n nr : Nat} {nt : Nat → Nat} {cl : Nat → Int} {f : Int} {h w : Nat} {x : Int64}
theorem mIw_t (q : mQ gh I J AI AJ mo b n nr nt cl f h) (hw : w < 20 ∧ x = tMw wCh (wSt w) (wLn w)) (e : (I mo 24).toInt = 0) (e1 : (I mo 21).toInt = 2) (ew : J mo 22 = x) : f = 0 ∧ pK b n h = 3 ∧ pV b n h = (w : Int) := by
  have f0 := mQ_z q e
  have k : pK b n h = 3 := tkM_2 ((mQ_k q f0).symm.trans e1)
  exact ⟨f0, k, (pMw_w k hw.1).mp (by rw [← mQ_w q f0 k, ew]; exact hw.2)⟩
theorem mIw_f (q : mQ gh I J AI AJ mo b n nr nt cl f h) (hw : w < 20 ∧ x = tMw wCh (wSt w) (wLn w)) (e1 : (I mo 21).toInt = 2) (ew : J mo 22 = x → False) : ¬ (f = 0 ∧ pK b n h = 3 ∧ pV b n h = (w : Int)) := fun ⟨f0, k, v⟩ =>
  ew (by rw [mQ_w q f0 k, hw.2]; exact (pMw_w k hw.1).mpr v)
theorem mIw_x (q : mQ gh I J AI AJ mo b n nr nt cl f h) (e : (I mo 24).toInt ≠ 0 ∨ (I mo 21).toInt ≠ 2) : ¬ (f = 0 ∧ pK b n h = 3 ∧ pV b n h = (w : Int)) := fun ⟨f0, k, v⟩ => by
  have e1 := mQ_k q f0
  rw [k] at e1
  have e0 := mQ_0 q f0
  have e2 : tkM 3 = 2 := rfl
  omega
theorem mIs_t (q : mQ gh I J AI AJ mo b n nr nt cl f h) (e : (I mo 24).toInt = 0) {c : Int} (hc : 5 ≤ c) (k : (I mo 21).toInt = 4 ∧ (I mo 23).toInt = c) : f = 0 ∧ pK b n h = c := ⟨mQ_z q e, (mQ_s q (mQ_z q e) hc).mp k⟩
theorem mIs_f (q : mQ gh I J AI AJ mo b n nr nt cl f h) {c : Int} (hc : 5 ≤ c) (k : (I mo 24).toInt ≠ 0 ∨ (I mo 21).toInt ≠ 4 ∨ (I mo 23).toInt ≠ c) : ¬ (f = 0 ∧ pK b n h = c) := fun ⟨f0, e⟩ => by
  have m := (mQ_s q f0 hc).mpr e
  have e0 := mQ_0 q f0
  omega
theorem mRs {L : List Int} {v : Int} (hn : ∀ w ∈ L, ¬ (f = 0 ∧ pK b n h = 3 ∧ pV b n h = w)) (k : ¬ (f = 0 ∧ pK b n h = 3 ∧ pV b n h = v)) : ∀ w ∈ v :: L, ¬ (f = 0 ∧ pK b n h = 3 ∧ pV b n h = w) := fun w hw => by
  rcases List.mem_cons.mp hw with e | e
  · rw [e]; exact k
  · exact hn w e
theorem mRs_y {v : Int} (k : f = 0 ∧ pK b n h = 3 ∧ pV b n h = v) (h0 : 0 ≤ v) : f = 0 ∧ pK b n h = 3 ∧ 0 ≤ pV b n h := ⟨k.1, k.2.1, by rw [k.2.2]; exact h0⟩
theorem mRs_n {L : List Int} (hn : ∀ w ∈ L, ¬ (f = 0 ∧ pK b n h = 3 ∧ pV b n h = w)) (all : ∀ k : Nat, k < 20 → (k : Int) ∈ L) : ¬ (f = 0 ∧ pK b n h = 3 ∧ 0 ≤ pV b n h) := fun ⟨f0, k, v⟩ => by
  have r := pV_r k
  have m := all (pV b n h).toNat (by omega)
  rw [show (((pV b n h).toNat : Nat) : Int) = pV b n h by omega] at m
  exact hn _ m ⟨f0, k, rfl⟩
end IW
def pRv (z : Int) (nr : Nat) (cl : Nat → Int) (r : pR) : Prop := r.1 = 0 → 0 ≤ z ∧ z < (nr : Int) ∧ cl z.toNat = r.2.2
theorem pRv_n {z x : Int} {nr h : Nat} {cl : Nat → Int} {k : Int} (e : k ≠ 0) : pRv z nr cl (k, h, x) := fun q => absurd q e
theorem pRv_y {z x : Int} {nr h : Nat} {cl : Nat → Int} {k : Int} (h0 : 0 ≤ z) (h1 : z < (nr : Int)) (e : cl z.toNat = x) : pRv z nr cl (k, h, x) := fun _ => ⟨h0, h1, e⟩
theorem mQ_aj {gh : gGh} {I : gI} {J : gJ} {AI : gI} {AJ AJ' : gJ} {mo : Nat} {b : tTx} {n nr : Nat} {nt : Nat → Nat} {cl : Nat → Int} {f : Int} {h : Nat} (w : mQ gh I J AI AJ mo b n nr nt cl f h) (q : ∀ r : Nat, r < nr → AJ' (gh 54 0) r = AJ (gh 54 0) r) : mQ gh I J AI AJ' mo b n nr nt cl f h := by
  rcases w with w | w
  · refine Or.inl ⟨w.1, w.2.1, w.2.2.1, w.2.2.2.1, fun r hr => ?_, w.2.2.2.2.2⟩
    have k := w.2.2.2.2.1 r hr
    rw [q r hr]
    exact k
  · exact Or.inr w
/-! the bits that tell columns -/
def mGn (x : Int) (L : List Int) : Prop := ∀ d : Int, 0 ≤ d → d ≤ 3 → (mBit x d = 1 ↔ d ∈ L)
theorem mBit_b {x : Int} {d : Nat} (hd : d < 4) : mBit x (d : Int) = 1 ↔ (iI x).toBitVec.getLsbD d = true := by
  have e : ∀ Y : Int32, ((Y &&& iI 1).toInt = 1) ↔ Y.toBitVec.getLsbD 0 = true := by
    intro Y
    have t : (Y &&& iI 1).toBitVec = Y.toBitVec &&& 1#32 := rfl
    rw [BitVec.and_one_eq_setWidth_ofBool_getLsbD] at t
    cases q : Y.toBitVec.getLsbD 0
    · rw [q] at t
      have w : Y &&& iI 1 = 0 := Int32.toBitVec_inj.mp t
      rw [w]; decide
    · rw [q] at t
      have w : Y &&& iI 1 = 1 := Int32.toBitVec_inj.mp t
      rw [w]; decide
  unfold mBit
  rw [e, iI_self]
  have s : (iI x >>> (iI (d : Int) &&& 31)).toBitVec = (iI x).toBitVec.sshiftRight' ((iI (d : Int) &&& 31).toBitVec.smod 32) := Int32.toBitVec_shiftRight ..
  rw [s, BitVec.getLsbD_sshiftRight']
  have k : ∀ d : Nat, d < 4 → ((iI (d : Int) &&& 31).toBitVec.smod 32).toNat = d := by decide +kernel
  rw [k d hd, if_pos (by omega)]; simp
theorem mGn_s {x y v d : Int} {L : List Int} (h : mGn x L) (h0 : 0 ≤ d ∧ d ≤ 3) (ey : y = (iI 1 <<< (iI d &&& 31)).toInt) (ev : v = (iI x ||| iI y).toInt) : mGn v (d :: L) := by
  intro e h1 h2
  have a := mBit_b (x := v) (d := e.toNat) (by omega)
  have c := mBit_b (x := x) (d := e.toNat) (by omega)
  rw [show ((e.toNat : Nat) : Int) = e by omega] at a c
  have k : ∀ d : Nat, d < 4 → ∀ e : Nat, e < 4 → (iI 1 <<< (iI (d : Int) &&& 31)).toBitVec.getLsbD e = decide (e = d) := by decide +kernel
  have kk := k d.toNat (by omega) e.toNat (by omega)
  rw [show ((d.toNat : Nat) : Int) = d by omega] at kk
  have o : (iI v).toBitVec.getLsbD e.toNat = ((iI x).toBitVec.getLsbD e.toNat || decide (e.toNat = d.toNat)) := by
    rw [ev, iI_self, Int32.toBitVec_or, BitVec.getLsbD_or, ey, iI_self, kk]
  rw [a, o, List.mem_cons, ← h e h1 h2, c, Bool.or_eq_true, decide_eq_true_iff]
  constructor
  · rintro (q | q)
    · exact Or.inr q
    · exact Or.inl (by omega)
  · rintro (q | q)
    · exact Or.inr (by omega)
    · exact Or.inl q
theorem mGn_0 : mGn 0 [] := fun d h0 h1 => by
  have k : ∀ d : Nat, d < 4 → mBit 0 (d : Int) ≠ 1 := by decide +kernel
  have kk := k d.toNat (by omega)
  rw [show ((d.toNat : Nat) : Int) = d by omega] at kk
  exact ⟨fun e => absurd e kk, fun e => absurd e List.not_mem_nil⟩
theorem mGn_c {x : Int} {L : List Int} (h : mGn x L) : ∀ m : Nat, m ≤ 4 → mCnt x m = jC L m
  | 0, _ => rfl
  | m + 1, hm => by
    rw [mCnt, jC, mGn_c h m (by omega)]
    by_cases q : (m : Int) ∈ L
    · rw [if_pos q, if_pos ((h m (by omega) (by omega)).mpr q)]
    · rw [if_neg q, if_neg (fun e => q ((h m (by omega) (by omega)).mp e))]
/-- what is told at the end of a line -/
def sEnd (b : tTx) (n : Nat) (x : Int) (t : Nat) : pR := if pK b n t = 59 ∧ 4 < x then (5, t, 0) else (0, t, x)
def pIc (z k x y : Int) : Prop := z = 0 → k = 59 → x = y
theorem pIc_n {z k x y : Int} (h : z ≠ 0) : pIc z k x y := fun e => absurd e h
theorem pIc_y {z k x y : Int} (h : x = y) : pIc z k x y := fun _ _ => h
theorem pIc_k {z k x y : Int} (h : k ≠ 59) : pIc z k x y := fun _ e => absurd e h
section SM
variable (b : tTx) (n nr : Nat) (nt : Nat → Nat) (cl : Nat → Int)
def sJoiM (t : Nat) : pR := thn (sJoi b n nr nt cl t) (fun t x => sEnd b n x t)
def sRngM (t : Nat) : pR := thn (sRng b n nr nt cl t) (fun t x => sEnd b n x t)
def sBodyM (kd : Int) (t : Nat) : pR := if kd = 3 then sJoiM b n nr nt cl t else if kd = 8 then sRngM b n nr nt cl t else sBody b n nr nt cl kd t
def sTbM (bh : Int) (t : Nat) : pR := if 16 ≤ nr then (4, t, 0) else if bh = 0 then thn (sNam b n nr nt (t + 1)) (fun t _ => sTc b n t) else (6, t, 0)
def sVwM (t : Nat) : pR := if 16 ≤ nr then (4, t, 0) else thn (sNam b n nr nt (t + 1)) (fun t _ => thn (sVk b n t) (fun t kd => sBodyM b n nr nt cl kd t))
end SM
theorem pV_c {b : tTx} {n h : Nat} (e : pK b n h = 2) : 0 ≤ pV b n h ∧ pV b n h ≤ 3 := by
  unfold pK at e
  unfold pV
  generalize tPs b n h = k at e
  unfold tKd at e
  unfold tVl
  by_cases a : n ≤ k
  · rw [if_pos a] at e; exact absurd e (by decide)
  · rw [if_neg a] at e ⊢
    by_cases r : tRu (b k)
    · rw [if_pos r] at e ⊢
      unfold tVr
      rw [e, if_neg (by decide), if_neg (by decide), if_pos rfl]
      unfold tKr at e
      by_cases c : tDc b k (tRn b n k - k) = 0 ∧ tRn b n k - k ≤ 8
      · rw [if_pos c] at e; exact absurd e (by decide)
      · rw [if_neg c] at e
        by_cases d : tDc b k (tRn b n k - k) = tRn b n k - k ∧ tRn b n k - k ≤ 4
        · rw [if_pos d] at e; exact absurd e (by decide)
        · rw [if_neg d] at e
          by_cases f : tRn b n k - k = 2 ∧ b k = 99 ∧ 48 ≤ b (k + 1) ∧ b (k + 1) ≤ 51
          · omega
          · rw [if_neg f] at e; exact absurd e (by decide)
    · rw [if_neg r] at e
      by_cases s : tSg (b k)
      · rw [if_pos s] at e; omega
      · rw [if_neg s] at e; exact absurd e (by decide)
theorem rX_e {c d k : Int} (h : c + d ≤ 4 ∧ k = c) : rX c d k = c := if_pos h
theorem rX_n {c d k : Int} (h : c + d ≤ 4 ∧ k = c) (h4 : c ≤ 4) : ¬ 4 < rX c d k := by rw [rX_e h]; omega
theorem rX_y {c d k : Int} (h : ¬ (c + d ≤ 4 ∧ k = c)) : 4 < rX c d k := by unfold rX; rw [if_neg h]; decide
end
section
/-! the steps of the lists, outcome by outcome -/
def Hid (P : Prop) : Prop := P
def pSg (z : Int) (P : Prop) : Prop := (z = -1 ∧ ¬ P) ∨ (0 ≤ z ∧ P)
theorem pSg_y {z : Int} {P : Prop} (h : pSg z P) (k : 0 ≤ z) : P := by rcases h with h | h; (· exact absurd h.1 (by omega)); (· exact h.2)
theorem pSg_n {z : Int} {P : Prop} (h : pSg z P) (k : z < 0) : ¬ P := by rcases h with h | h; (· exact h.2); (· exact absurd h.1 (by omega))
theorem pSg_t {z : Int} {P : Prop} (k : 0 ≤ z) (p : P) : pSg z P := Or.inr ⟨k, p⟩
theorem pSg_f {z : Int} {P : Prop} (k : z = -1) (p : ¬ P) : pSg z P := Or.inl ⟨k, p⟩
theorem tIz_n {z : Int} {P : Prop} (h : tIz z (0 = (0 : Int) ∧ P)) (hz : z = 0) : ¬ P := fun p => tIz_0 h hz ⟨rfl, p⟩
theorem tIz_y {z f : Int} {P : Prop} (h : tIz z (f = (0 : Int) ∧ P)) (hz : z ≠ 0) : P := (tIz_1 h hz).2
section Steps
variable {b : tTx} {n : Nat} {c d k lim : Int} {h : Nat} {L : List Int}
abbrev pSi (b : tTx) (n h : Nat) : Prop := pK b n h = 61 ∨ pK b n h = 60 ∨ pK b n h = 62
theorem sTest_ok (a : pCf b n c h = 0) (e : k < 8) (s : pSi b n (h + 1)) (v : Hid (pK b n (h + 2) = 4 ∨ pCf b n c (h + 2) = 0)) : sTest b n c k h = (0, h + 3, 0) := by
  unfold sTest
  rw [if_pos a, if_neg (by omega), if_pos s]
  rcases v with v | v
  · rw [if_pos v]
  · by_cases w : pK b n (h + 2) = 4
    · rw [if_pos w]
    · rw [if_neg w, if_pos v]
theorem sTest_4 (a : pCf b n c h = 0) (e : 8 ≤ k) : sTest b n c k h = (4, h, 0) := by unfold sTest; rw [if_pos a, if_pos e]
theorem sTest_c (a : pCf b n c h ≠ 0) : sTest b n c k h = (pCf b n c h, h, 0) := by unfold sTest; rw [if_neg a]
theorem sTest_s (a : pCf b n c h = 0) (e : k < 8) (s : ¬ pSi b n (h + 1)) : sTest b n c k h = (1, h + 1, 0) := by unfold sTest; rw [if_pos a, if_neg (by omega), if_neg s]
theorem sTest_v (a : pCf b n c h = 0) (e : k < 8) (s : pSi b n (h + 1)) (w : pK b n (h + 2) ≠ 4) (v : pCf b n c (h + 2) ≠ 0) : sTest b n c k h = (pCf b n c (h + 2), h + 2, 0) := by
  unfold sTest; rw [if_pos a, if_neg (by omega), if_pos s, if_neg w, if_neg v]
theorem sTerm_n (a : pK b n h = 4) (e : k < 4) : sTerm b n c k h = (0, h + 1, 0) := by unfold sTerm; rw [if_pos a, if_neg (by omega)]
theorem sTerm_n4 (a : pK b n h = 4) (e : 4 ≤ k) : sTerm b n c k h = (4, h, 0) := by unfold sTerm; rw [if_pos a, if_pos e]
theorem sTerm_c4 (a : pCf b n c h = 0) (e : 4 ≤ k) : sTerm b n c k h = (4, h, 0) := by
  have w := pCf_0 a
  unfold sTerm; rw [if_neg (by omega), if_pos a, if_pos e]
theorem sTerm_x (w : pK b n h ≠ 4) (a : pCf b n c h ≠ 0) : sTerm b n c k h = (pCf b n c h, h, 0) := by unfold sTerm; rw [if_neg w, if_neg a]
theorem sTerm_c (a : pCf b n c h = 0) (e : k < 4) (s : ¬ (pK b n (h + 1) = 43 ∨ pK b n (h + 1) = 45)) : sTerm b n c k h = (0, h + 1, 0) := by
  have w := pCf_0 a
  unfold sTerm; rw [if_neg (by omega), if_pos a, if_neg (by omega), if_neg s]
theorem sTerm_s (a : pCf b n c h = 0) (e : k < 4) (s : pK b n (h + 1) = 43 ∨ pK b n (h + 1) = 45) (v : pK b n (h + 2) = 4) : sTerm b n c k h = (0, h + 3, 0) := by
  have w := pCf_0 a
  unfold sTerm; rw [if_neg (by omega), if_pos a, if_neg (by omega), if_pos s, if_pos v]
theorem sTerm_s1 (a : pCf b n c h = 0) (e : k < 4) (s : pK b n (h + 1) = 43 ∨ pK b n (h + 1) = 45) (v : pK b n (h + 2) ≠ 4) : sTerm b n c k h = (1, h + 2, 0) := by
  have w := pCf_0 a
  unfold sTerm; rw [if_neg (by omega), if_pos a, if_neg (by omega), if_pos s, if_neg v]
theorem sPair_x (a : pCf b n c h ≠ 0) : sPair b n c d k lim h = (pCf b n c h, h, 0) := by unfold sPair; rw [if_neg a]
theorem sPair_4 (a : pCf b n c h = 0) (e : lim ≤ k) : sPair b n c d k lim h = (4, h, 0) := by unfold sPair; rw [if_pos a, if_pos e]
theorem sPair_1 (a : pCf b n c h = 0) (e : k < lim) (s : pK b n (h + 1) ≠ 61) : sPair b n c d k lim h = (1, h + 1, 0) := by
  unfold sPair; rw [if_pos a, if_neg (by omega)]
  have t : sTk b n 61 (h + 1) = (1, h + 1, 0) := if_neg s
  exact thn_x t.symm (by show (1 : Int) ≠ 0; decide)
theorem sPair_v (a : pCf b n c h = 0) (e : k < lim) (s : pK b n (h + 1) = 61) (v : pCf b n d (h + 2) ≠ 0) : sPair b n c d k lim h = (pCf b n d (h + 2), h + 2, 0) := by
  unfold sPair; rw [if_pos a, if_neg (by omega)]
  have t : sTk b n 61 (h + 1) = (0, h + 2, 0) := if_pos s
  exact thn_y t.symm rfl (if_neg v)
theorem sPair_ok (a : pCf b n c h = 0) (e : k < lim) (s : pK b n (h + 1) = 61) (v : pCf b n d (h + 2) = 0) : sPair b n c d k lim h = (0, h + 3, pV b n (h + 2)) := by
  unfold sPair; rw [if_pos a, if_neg (by omega)]
  have t : sTk b n 61 (h + 1) = (0, h + 2, 0) := if_pos s
  exact thn_y t.symm rfl (if_pos v)
theorem sBy_x (a : pCf b n c h ≠ 0) : sBy b n c k L h = (pCf b n c h, h, 0) := by unfold sBy; rw [if_neg a]
theorem sBy_2 (a : pCf b n c h = 0) (m : pV b n h ∈ L) : sBy b n c k L h = (2, h, 0) := by unfold sBy; rw [if_pos a, if_pos m]
theorem sBy_4 (a : pCf b n c h = 0) (m : ¬ pV b n h ∈ L) (e : 3 ≤ k) : sBy b n c k L h = (4, h, 0) := by unfold sBy; rw [if_pos a, if_neg m, if_pos e]
theorem sBy_ok (a : pCf b n c h = 0) (m : ¬ pV b n h ∈ L) (e : k < 3) : sBy b n c k L h = (0, h + 1, pV b n h) := by unfold sBy; rw [if_pos a, if_neg m, if_neg (by omega)]
end Steps
theorem pCf_n1 {b : tTx} {n h : Nat} {c : Int} (w : pK b n h ≠ 2) : pCf b n c h ≠ 0 := by rw [pCf_no w]; decide
theorem pCf_n2 {b : tTx} {n h : Nat} {c : Int} (w : pK b n h = 2) (v : c ≤ pV b n h) : pCf b n c h ≠ 0 := by rw [pCf_big w v]; decide
theorem pE1 {b : tTx} {n h t : Nat} {c : Int} {r : pR} (e : r = (pCf b n c h, t, 0)) (w : pK b n h ≠ 2) : r = (1, t, 0) := by rw [e, pCf_no w]
theorem pE2 {b : tTx} {n h t : Nat} {c : Int} {r : pR} (e : r = (pCf b n c h, t, 0)) (w : pK b n h = 2) (v : c ≤ pV b n h) : r = (2, t, 0) := by rw [e, pCf_big w v]
theorem hid {P : Prop} (h : P) : Hid P := h
end
