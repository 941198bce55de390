theorem tNm_s {b : tTx} {k m : Nat} {nm j1 j2 j3 : Int64} {v : Int} (hn : nm = tNm b k m) (e1 : j1 = nm <<< ((iI 5).toInt64 &&& 63)) (ev : v = b (k + m)) (e2 : j2 = (iI (v - 97 + 1)).toInt64) (e3 : j3 = j1 ||| j2) : j3 = tNm b k (m + 1) := by
  rw [e3, e1, e2, ev, hn]; rfl
theorem tNb_4 {b : tTx} {k m : Nat} (h : ∀ j, j < m → tDg (b (k + j))) (hm : m ≤ 4) : 0 ≤ tNb b k m ∧ tNb b k m ≤ 9999 := by
  have g := tNb_le h
  refine ⟨g.1, Int.le_trans g.2 ?_⟩
  rcases (show m = 0 ∨ m = 1 ∨ m = 2 ∨ m = 3 ∨ m = 4 by omega) with rfl | rfl | rfl | rfl | rfl <;> decide
abbrev wHi (nb sa i : Int) : Prop := 0 ≤ i ∧ i ≤ 110 ∧ 0 ≤ nb ∧ nb ≤ 20 ∧ sa = (wSt nb.toNat : Int) ∧ sa ≤ i ∧ (nb ≤ 19 → i ≤ (wSt nb.toNat : Int) + (wLn nb.toNat : Int) ∧ i ≤ 109) ∧ (nb = 20 → i = 110)
theorem wSpt : ∀ w, w < 20 → ∀ i, i < 110 → wSt w ≤ i → i ≤ wSt w + wLn w → (wCh i = 32 ↔ i = wSt w + wLn w) := by decide +kernel
theorem wNxt : ∀ w, w < 20 → wSt (w + 1) = wSt w + wLn w + 1 ∧ wSt w + wLn w ≤ 109 ∧ (w + 1 < 20 → wSt w + wLn w < 109) ∧ (w = 19 → wSt w + wLn w = 109) := by decide +kernel
theorem w_0 : wHi 0 0 0 := by decide
theorem w_sp {nb sa i : Int} {z : Int} (h : wHi nb sa i) (h20 : nb ≤ 19) (hz : z = wCh i.toNat ∧ z = 32) : i = (wSt nb.toNat : Int) + (wLn nb.toNat : Int) := by
  have g := h.2.2.2.2.2.2.1 h20
  have q := (wSpt nb.toNat (by omega) i.toNat (by omega) (by omega) (by omega)).mp (by omega)
  omega
theorem w_nx {nb sa i z r : Int} (h : wHi nb sa i) (hr : r = 110) (hi : i < r ∧ i = (wSt nb.toNat : Int) + (wLn nb.toNat : Int)) (hz : z = wCh i.toNat) : wHi (nb + 1) (i + 1) (i + 1) := by
  have h20 : nb ≤ 19 := by have := h.2.2.2.2.2.2.2; omega
  have w := wNxt nb.toNat (by omega)
  have e : (nb + 1).toNat = nb.toNat + 1 := by omega
  refine ⟨by omega, by omega, by omega, by omega, by rw [e]; omega, by omega, fun q => ?_, fun q => by have := w.2.2.2 (by omega); omega⟩
  rw [e]
  have := w.2.2.1 (by omega)
  have w2 := wNxt (nb.toNat + 1) (by omega)
  omega
theorem w_in {nb sa i z r : Int} (h : wHi nb sa i) (hr : r = 110) (hi : i < r ∧ z ≠ 32) (hz : z = wCh i.toNat) : wHi nb sa (i + 1) := by
  have h20 : nb ≤ 19 := by have := h.2.2.2.2.2.2.2; omega
  have g := h.2.2.2.2.2.2.1 h20
  have w := wNxt nb.toNat (by omega)
  have q : i ≠ (wSt nb.toNat : Int) + (wLn nb.toNat : Int) := fun q => hi.2 (hz.trans ((wSpt nb.toNat (by omega) i.toNat (by omega) (by omega) (by omega)).mpr (by omega)))
  exact ⟨by omega, by omega, by omega, by omega, h.2.2.2.2.1, by omega, fun _ => by omega, fun q => by omega⟩
theorem w_hit {b : tTx} {nb sa i fr to_ : Int} (h : wHi nb sa i) (hs : i = (wSt nb.toNat : Int) + (wLn nb.toNat : Int)) (h20 : nb ≤ 19) (hf : ∀ u : Nat, (u : Int) < nb → ¬ tWa b fr.toNat (to_ - fr).toNat u) (hl : i - sa = to_ - fr) (ha : ∀ j : Nat, (j : Int) < i - sa → wCh (sa.toNat + j) = b (fr.toNat + j)) : nb = tWn b fr.toNat (to_ - fr).toNat := by
  have e := h.2.2.2.2.1
  have q : tWa b fr.toNat (to_ - fr).toNat nb.toNat := ⟨by omega, fun j hj => by have := ha j (by omega); rw [show sa.toNat = wSt nb.toNat by omega] at this; exact this⟩
  rw [tWn_at (v := nb.toNat) (by omega) q (fun u hu => hf u (by omega))]
  omega
theorem w_miss {b : tTx} {nb sa i fr to_ : Int} (h : wHi nb sa i) (hs : i = (wSt nb.toNat : Int) + (wLn nb.toNat : Int)) (hl : i - sa = to_ - fr) (ha : ¬ ∀ j : Nat, (j : Int) < i - sa → wCh (sa.toNat + j) = b (fr.toNat + j)) : ¬ tWa b fr.toNat (to_ - fr).toNat nb.toNat := by
  have e := h.2.2.2.2.1
  intro q
  exact ha (fun j hj => by have := q.2 j (by omega); rw [show sa.toNat = wSt nb.toNat by omega]; exact this)
theorem w_len {b : tTx} {nb sa i fr to_ : Int} (hs : i = (wSt nb.toNat : Int) + (wLn nb.toNat : Int)) (hl : i - sa ≠ to_ - fr ∧ sa = (wSt nb.toNat : Int) ∧ fr ≤ to_) : ¬ tWa b fr.toNat (to_ - fr).toNat nb.toNat := fun q => by have := q.1; omega
theorem w_out {b : tTx} {nb sa i fr to_ : Int} (h : wHi nb sa i) (hf : ∀ u : Nat, (u : Int) < nb → ¬ tWa b fr.toNat (to_ - fr).toNat u) (hi : i = 110) : -1 = tWn b fr.toNat (to_ - fr).toNat := by
  have : nb = 20 := by have := h.2.2.2.2.2.2.1; have := h.2.2.2.1; omega
  exact (tWn_no (fun u hu => hf u (by omega))).symm
theorem tDc_0 {b : tTx} {k : Nat} {i : Int} (h : (i : Int) = 0) : (0 : Int) = (tDc b k i.toNat : Int) := by rw [h]; rfl
theorem tDc_1 {b : tTx} {fr i dg : Int} (hd : dg = (tDc b fr.toNat (i - fr).toNat : Int)) (h0 : 0 ≤ i - fr) (hq : tDg (b (fr.toNat + (i - fr).toNat))) : dg + 1 = (tDc b fr.toNat (i + 1 - fr).toNat : Int) := by
  rw [show (i + 1 - fr).toNat = (i - fr).toNat + 1 by omega, tDc, if_pos hq, hd]; omega
theorem tDc_2 {b : tTx} {fr i dg : Int} (hd : dg = (tDc b fr.toNat (i - fr).toNat : Int)) (h0 : 0 ≤ i - fr) (hq : ¬ tDg (b (fr.toNat + (i - fr).toNat))) : dg + 0 = (tDc b fr.toNat (i + 1 - fr).toNat : Int) := by
  rw [show (i + 1 - fr).toNat = (i - fr).toNat + 1 by omega, tDc, if_neg hq, hd]; omega
theorem tk_ne {g : gG} {gh : gGh} {R AR : gR} {I AI : gI} {a : Nat} (hv : gInv g gh R AR I AI) (h : gO g a 5) : gh 24 0 ≠ gh 25 0 ∧ gh 25 0 ≠ gh 24 0 ∧ gh 24 0 ≠ gh 26 0 ∧ gh 26 0 ≠ gh 24 0 ∧ gh 25 0 ≠ gh 26 0 ∧ gh 26 0 ≠ gh 25 0 := by
  have q := hv.2.2.2.2.2.2.1 a h
  have e3 := q.1.2.2.2
  have e0 := q.2.1.2.2
  have e4 := q.2.2.1.2.2
  refine ⟨fun e => ?_, fun e => ?_, fun e => ?_, fun e => ?_, fun e => ?_, fun e => ?_⟩
  · rw [e, e0] at e3; exact absurd e3 (by decide)
  · rw [e, e3] at e0; exact absurd e0 (by decide)
  · rw [e, e4] at e3; exact absurd e3 (by decide)
  · rw [e, e3] at e4; exact absurd e4 (by decide)
  · rw [e, e4] at e0; exact absurd e0 (by decide)
  · rw [e, e0] at e4; exact absurd e4 (by decide)
section TR
variable {gh : gGh} {AI : gI} {AJ : gJ} {L k m : Nat} {fr : Int} {b : tTx}
theorem tR_3 (q : tAt gh AI AJ L 3 fr (tWn b k m) (tNm b k m)) (h1 : tDc b k m = 0) (h2 : m ≤ 8) : tAt gh AI AJ L (tKr b k m) fr (tVr b k m) (if tKr b k m = 3 then tNm b k m else 0) := by
  have e : tKr b k m = 3 := by unfold tKr; rw [if_pos ⟨h1, h2⟩]
  unfold tVr
  rw [e, if_pos rfl, if_pos rfl]; exact q
theorem tR_4 (q : tAt gh AI AJ L 4 fr (tNb b k m) 0) (h1 : tDc b k m = m) (h2 : m ≤ 4) (h3 : 0 < m) : tAt gh AI AJ L (tKr b k m) fr (tVr b k m) (if tKr b k m = 3 then tNm b k m else 0) := by
  have e : tKr b k m = 4 := by unfold tKr; rw [if_neg (by omega), if_pos ⟨h1, h2⟩]
  unfold tVr
  rw [e, if_neg (by decide), if_pos rfl, if_neg (by decide)]; exact q
theorem tR_2 {dg : Int} (q : tAt gh AI AJ L 2 fr (b (k + 1) - 48) 0) (hd : dg = (tDc b k m : Int)) (h1 : ¬ (dg = 0 ∧ m ≤ 8)) (h2 : ¬ (dg = (m : Int) ∧ m ≤ 4)) (h3 : m = 2) (h4 : b k = 99) (h5 : 48 ≤ b (k + 1) ∧ b (k + 1) ≤ 51) : tAt gh AI AJ L (tKr b k m) fr (tVr b k m) (if tKr b k m = 3 then tNm b k m else 0) := by
  have e : tKr b k m = 2 := by unfold tKr; rw [if_neg (by omega), if_neg (by omega), if_pos ⟨h3, h4, h5⟩]
  unfold tVr
  rw [e, if_neg (by decide), if_neg (by decide), if_pos rfl, if_neg (by decide)]; exact q
theorem tR_1 (q : tAt gh AI AJ L 1 fr 0 0) (h : ¬ (tDc b k m = 0 ∧ m ≤ 8) ∧ ¬ (tDc b k m = m ∧ m ≤ 4) ∧ ¬ (m = 2 ∧ b k = 99 ∧ 48 ≤ b (k + 1) ∧ b (k + 1) ≤ 51)) : tAt gh AI AJ L (tKr b k m) fr (tVr b k m) (if tKr b k m = 3 then tNm b k m else 0) := by
  have e : tKr b k m = 1 := by unfold tKr; rw [if_neg h.1, if_neg h.2.1, if_neg h.2.2]
  unfold tVr
  rw [e, if_neg (by decide), if_neg (by decide), if_neg (by decide), if_neg (by decide)]; exact q
end TR
theorem z_i2cA {b c : Int} (e2 : c = (((iI b).toUInt32 % 65536).toInt32).toInt) (h0 : 0 ≤ b) (h1 : b ≤ 127) : c = b := by
  have h : ∀ k : Nat, k < 128 → ((((iI (k : Int)).toUInt32 % 65536).toInt32).toInt) = (k : Int) := by decide +kernel
  have := h b.toNat (by omega)
  rw [show ((b.toNat : Nat) : Int) = b by omega] at this
  rw [e2, this]
theorem tk_t {g : gG} {gh : gGh} {R AR : gR} {I AI : gI} {a t : Nat} (hv : gInv g gh R AR I AI) (h : gO g a 5) (ht : gAr g t 8 936) : t ≠ gh 24 0 ∧ t ≠ gh 25 0 ∧ t ≠ gh 26 0 := by
  have q := hv.2.2.2.2.2.2.1 a h
  have k3 := q.1.2.2.1.2.1
  have k0 := q.2.1.2.1.2.1
  have k4 := q.2.2.1.2.1.2.1
  have kt := ht.2.1
  exact ⟨fun e => by rw [e, k3] at kt; exact absurd kt (by decide), fun e => by rw [e, k0] at kt; exact absurd kt (by decide), fun e => by rw [e, k4] at kt; exact absurd kt (by decide)⟩
section RD
variable {b : tTx} {gh : gGh} {AI AI' : gI} {AJ AJ' : gJ} {n i i2 L L' : Int}
theorem tPs_00 (h : L = 0) : tSk b n.toNat (0 : Int).toNat = tPs b n.toNat L.toNat := by rw [h]; rfl
theorem tPs_bl (hj : tSk b n.toNat i.toNat = tPs b n.toNat L.toNat) (h0 : 0 ≤ i ∧ i < n) (hb : tBl (b i.toNat)) : tSk b n.toNat (i + 1).toNat = tPs b n.toNat L.toNat := by
  rw [← hj, tSk_b (by omega) hb, show (i + 1).toNat = i.toNat + 1 by omega]
theorem ru_0 (h : tRu (b i.toNat)) (h0 : 0 ≤ i) : ∀ j : Nat, i.toNat ≤ j → (j : Int) < i + 1 → tRu (b j) := fun j h1 h2 => by rw [show j = i.toNat by omega]; exact h
theorem ru_1 (hru : ∀ j : Nat, i.toNat ≤ j → (j : Int) < i2 → tRu (b j)) (h : tRu (b i2.toNat)) (h0 : 0 ≤ i2) : ∀ j : Nat, i.toNat ≤ j → (j : Int) < i2 + 1 → tRu (b j) := fun j h1 h2 => by
  by_cases q : (j : Int) = i2
  · rw [show j = i2.toNat by omega]; exact h
  · exact hru j h1 (by omega)
theorem rd_end (hru : ∀ j : Nat, i.toNat ≤ j → (j : Int) < i2 → tRu (b j)) (h0 : 0 ≤ i ∧ i < i2) (h1 : i2 ≤ n) (h2 : i2 = n ∨ ¬ tRu (b i2.toNat)) : tRn b n.toNat i.toNat = i2.toNat :=
  tRn_at (by omega) (by omega) (fun j hj hl => hru j hj (by omega)) (fun q => by rcases h2 with h2 | h2; (· omega); (· exact h2))
theorem rd_ps (hj : tSk b n.toNat i.toNat = tPs b n.toNat L.toNat) (h0 : 0 ≤ i ∧ i < n) (hb : ¬ tBl (b i.toNat)) : tPs b n.toNat L.toNat = i.toNat := by
  rw [← hj]; exact tSk_s (by omega) hb
theorem rd_fo {A0 A1 A2 : gI} (h : ∀ q, q ≠ gh 24 0 → q ≠ gh 25 0 → q ≠ gh 26 0 → A1 q = A0 q) (h' : ∀ q, q ≠ gh 24 0 → q ≠ gh 25 0 → q ≠ gh 26 0 → A2 q = A1 q) : ∀ q, q ≠ gh 24 0 → q ≠ gh 25 0 → q ≠ gh 26 0 → A2 q = A0 q := fun q a c d => (h' q a c d).trans (h q a c d)
theorem rd_j (hps : tPs b n.toNat L.toNat = i.toNat) (he : tRn b n.toNat i.toNat = i2.toNat) (hL : L' = L + 1) (h0 : 0 ≤ L) (h1 : 0 ≤ i ∧ i < n) (hr : tRu (b i.toNat)) : tSk b n.toNat i2.toNat = tPs b n.toNat L'.toNat := by
  rw [show L'.toNat = L.toNat + 1 by omega, tPs, hps, tNd, if_neg (by omega), if_pos hr, he]
theorem rd_j1 (hps : tPs b n.toNat L.toNat = i.toNat) (hL : L' = L + 1) (h0 : 0 ≤ L) (h1 : 0 ≤ i ∧ i < n) (hr : ¬ tRu (b i.toNat)) : tSk b n.toNat (i + 1).toNat = tPs b n.toNat L'.toNat := by
  rw [show L'.toNat = L.toNat + 1 by omega, tPs, hps, tNd, if_neg (by omega), if_neg hr, show (i + 1).toNat = i.toNat + 1 by omega]
theorem tAt_c {j : Nat} {kd pl vl : Int} {nm : Int64} (h : AI' (gh 24 0) j = AI (gh 24 0) j ∧ AI' (gh 25 0) j = AI (gh 25 0) j ∧ AI' (gh 26 0) j = AI (gh 26 0) j ∧ AJ' (gh 27 0) j = AJ (gh 27 0) j) (q : tAt gh AI AJ j kd pl vl nm) : tAt gh AI' AJ' j kd pl vl nm := by
  unfold tAt; rw [h.1, h.2.1, h.2.2.1, h.2.2.2]; exact q
abbrev tOt (gh : gGh) (AI AI' : gI) (AJ AJ' : gJ) (L : Int) : Prop := ∀ j : Nat, j ≠ L.toNat → AI' (gh 24 0) j = AI (gh 24 0) j ∧ AI' (gh 25 0) j = AI (gh 25 0) j ∧ AI' (gh 26 0) j = AI (gh 26 0) j ∧ AJ' (gh 27 0) j = AJ (gh 27 0) j
theorem rd_tk {p : Nat} (htk : ∀ j : Nat, (j : Int) < L → tOk gh AI AJ b n.toNat j ∧ tPs b n.toNat j < n.toNat) (ot : tOt gh AI AI' AJ AJ' L) (hL : L' = L + 1) (hps : tPs b n.toNat L.toNat = p) (hp : p < n.toNat) (hn : tOk gh AI' AJ' b n.toNat L.toNat) : ∀ j : Nat, (j : Int) < L' → tOk gh AI' AJ' b n.toNat j ∧ tPs b n.toNat j < n.toNat := fun j hj => by
  by_cases q : j = L.toNat
  · rw [q]; exact ⟨hn, by omega⟩
  · have g := htk j (by omega)
    exact ⟨tAt_c (ot j q) g.1, g.2⟩
theorem rd_tke (htk : ∀ j : Nat, (j : Int) < L → tOk gh AI AJ b n.toNat j ∧ tPs b n.toNat j < n.toNat) (ot : tOt gh AI AI' AJ AJ' L) (hL : L' = L + 1) (hps : tPs b n.toNat L.toNat = n.toNat) (hn : tOk gh AI' AJ' b n.toNat L.toNat) : (∀ j : Nat, (j : Int) < L' → tOk gh AI' AJ' b n.toNat j) ∧ tPs b n.toNat (L' - 1).toNat = n.toNat ∧ ∀ j : Nat, (j : Int) < L' - 1 → tPs b n.toNat j < n.toNat := by
  refine ⟨fun j hj => ?_, by rw [show L' - 1 = L by omega]; exact hps, fun j hj => (htk j (by omega)).2⟩
  by_cases q : j = L.toNat
  · rw [q]; exact hn
  · exact tAt_c (ot j q) (htk j (by omega)).1
theorem rd_run (q : tAt gh AI' AJ' L.toNat (tKr b i.toNat (i2 - i).toNat) i (tVr b i.toNat (i2 - i).toNat) (if tKr b i.toNat (i2 - i).toNat = 3 then tNm b i.toNat (i2 - i).toNat else 0)) (hps : tPs b n.toNat L.toNat = i.toNat) (he : tRn b n.toNat i.toNat = i2.toNat) (h0 : 0 ≤ i ∧ i < n) (h1 : i < i2) (hr : tRu (b i.toNat)) : tOk gh AI' AJ' b n.toNat L.toNat := by
  unfold tOk tKd tVl tNa
  have hlt : ¬ n.toNat ≤ i.toNat := by omega
  rw [hps, if_neg hlt, if_neg hlt, if_neg hlt, if_pos hr, if_pos hr, if_pos hr, he, show i2.toNat - i.toNat = (i2 - i).toNat by omega, show ((i.toNat : Nat) : Int) = i by omega]
  exact q
theorem rd_sg {kd : Int} (q : tAt gh AI' AJ' L.toNat kd i 0 0) (hps : tPs b n.toNat L.toNat = i.toNat) (h0 : 0 ≤ i ∧ i < n) (hr : ¬ tRu (b i.toNat)) (hk : (tSg (b i.toNat) ∧ kd = b i.toNat) ∨ (¬ tSg (b i.toNat) ∧ kd = 1)) : tOk gh AI' AJ' b n.toNat L.toNat := by
  unfold tOk tKd tVl tNa
  have hlt : ¬ n.toNat ≤ i.toNat := by omega
  rw [hps, if_neg hlt, if_neg hlt, if_neg hlt, if_neg hr, if_neg hr, if_neg hr, show ((i.toNat : Nat) : Int) = i by omega]
  rcases hk with ⟨h, e⟩ | ⟨h, e⟩
  · rw [if_pos h, ← e]; exact q
  · rw [if_neg h, ← e]; exact q
theorem rd_en (q : tAt gh AI' AJ' L.toNat 0 n 0 0) (hps : tPs b n.toNat L.toNat = n.toNat) (h0 : 0 ≤ n) : tOk gh AI' AJ' b n.toNat L.toNat := by
  unfold tOk tKd tVl tNa
  rw [hps, if_pos (Nat.le_refl _), if_pos (Nat.le_refl _), if_pos (Nat.le_refl _), show ((n.toNat : Nat) : Int) = n by omega]
  exact q
end RD
/-- the signs by their place -/
theorem sg_ix {z ch : Int} (h : (z = -1 ∧ ∀ j : Nat, (j : Int) < ((7 : Nat) : Int) → (([61, 60, 62, 43, 45, 44, 59] : List Int32).getD j 0).toInt ≠ ch) ∨ (0 ≤ z ∧ z < ((7 : Nat) : Int) ∧ (([61, 60, 62, 43, 45, 44, 59] : List Int32).getD z.toNat 0).toInt = ch)) : (0 ≤ z ∧ tSg ch) ∨ (z < 0 ∧ ¬ tSg ch) := by
  rcases h with ⟨h1, h2⟩ | ⟨h1, h2, h3⟩
  · refine Or.inr ⟨by omega, fun q => ?_⟩
    have a0 : (61 : Int) ≠ ch := h2 0 (by omega)
    have a1 : (60 : Int) ≠ ch := h2 1 (by omega)
    have a2 : (62 : Int) ≠ ch := h2 2 (by omega)
    have a3 : (43 : Int) ≠ ch := h2 3 (by omega)
    have a4 : (45 : Int) ≠ ch := h2 4 (by omega)
    have a5 : (44 : Int) ≠ ch := h2 5 (by omega)
    have a6 : (59 : Int) ≠ ch := h2 6 (by omega)
    omega
  · refine Or.inl ⟨h1, ?_⟩
    rcases (show z = 0 ∨ z = 1 ∨ z = 2 ∨ z = 3 ∨ z = 4 ∨ z = 5 ∨ z = 6 by omega) with rfl | rfl | rfl | rfl | rfl | rfl | rfl
    · have e : (61 : Int) = ch := h3; omega
    · have e : (60 : Int) = ch := h3; omega
    · have e : (62 : Int) = ch := h3; omega
    · have e : (43 : Int) = ch := h3; omega
    · have e : (45 : Int) = ch := h3; omega
    · have e : (44 : Int) = ch := h3; omega
    · have e : (59 : Int) = ch := h3; omega
def rmX5_isDigitf : Room := { frames := 0, cells := 0, slots := 0, locals := 0 }
set_option maxHeartbeats 4000000 in
set_option maxRecDepth 100000 in
/-- a digit -/
theorem c_X5_isDigitf (l : Launch) (g : gG)  (I : gI) (R : gR) (J : gJ) (AI : gI) (AJ : gJ) (AR : gR) (ch : Int) (zch : zr ch) : gMet l g yX5_isDigit wsX5_isDigit rmX5_isDigitf [.int (iI ch)] (I, R, J, AI, AJ, AR) (gQi g (fun (z : Int) (w : gS) => I = w.1 ∧ R = w.2.1 ∧ J = w.2.2.1 ∧ AI = w.2.2.2.1 ∧ AJ = w.2.2.2.2.1 ∧ AR = w.2.2.2.2.2 ∧ ((z = 0 ∨ z = 1) ∧ (z = 1 ↔ tDg ch)))) := by
  refine gStart (cc := cX5_isDigit) (maxL := 1) (ret := (some (.boolean))) (by decide) rfl (Nat.le_of_ble_eq_true rfl) ?_
  intro p e s m below meth c ls F hr hlk hH hz hS hl
  have hl : lv_has ls 1 [(0, .int (iI ch))] := hl
  have hS : va_S (gA g) s.heap s.heap [] := hS
  obtain ⟨H, hHe⟩ : ∃ H : Heap, H = s.heap := ⟨_, rfl⟩
  obtain ⟨locs, hlo⟩ : ∃ k : List Loc, k = [] := ⟨_, rfl⟩
  have hH : gH g I R J AI AJ AR H := by rw [hHe]; exact hH
  have hS : va_S (gA g) s.heap H locs := by rw [hHe, hlo]; exact hS
  suffices hw : W p l e rmX5_isDigitf s m ([.int (iI ch)] : List Value).toArray below meth c H locs 0 0 (MQ below (gQi g (fun (z : Int) (w : gS) => I = w.1 ∧ R = w.2.1 ∧ J = w.2.2.1 ∧ AI = w.2.2.2.1 ∧ AJ = w.2.2.2.2.1 ∧ AR = w.2.2.2.2.2 ∧ ((z = 0 ∨ z = 1) ∧ (z = 1 ↔ tDg ch)))) ([.int (iI ch)] : List Value).toArray s 0 0 (gA g)) (F0 m 0 ls []) by
    rw [hHe, hlo] at hw; exact hw
  clear hHe hlo
  refine lv_iload_n F.1 F.2.1 dX5_isDigit_0 rfl (lv_at hl 0 rfl) ?_
  refine z_bipush F dX5_isDigit_1 (by decide) ?_
  refine z_icmp_lt (tgt := 16) F dX5_isDigit_3 (by decide) zch ⟨by decide, by decide⟩ (fun c_1 => ?_) (fun c_1 => ?_)
  · refine z_iconst F dX5_isDigit_16 ?_
    exact g_zret F hr hlk hH hS hz (by omega) ⟨rfl, rfl, rfl, rfl, rfl, rfl, ⟨by omega, by omega⟩⟩ dX5_isDigit_17
  · refine lv_iload_n F.1 F.2.1 dX5_isDigit_6 rfl (lv_at hl 0 rfl) ?_
    refine z_bipush F dX5_isDigit_7 (by decide) ?_
    refine z_icmp_gt (tgt := 16) F dX5_isDigit_9 (by decide) zch ⟨by decide, by decide⟩ (fun c_2 => ?_) (fun c_2 => ?_)
    · refine z_iconst F dX5_isDigit_16 ?_
      exact g_zret F hr hlk hH hS hz (by omega) ⟨rfl, rfl, rfl, rfl, rfl, rfl, ⟨by omega, by omega⟩⟩ dX5_isDigit_17
    · refine z_iconst F dX5_isDigit_12 ?_
      refine z_goto (tgt := 17) F dX5_isDigit_13 (by decide) ?_
      exact g_zret F hr hlk hH hS hz (by omega) ⟨rfl, rfl, rfl, rfl, rfl, rfl, ⟨by omega, by omega⟩⟩ dX5_isDigit_17

def rmX5_isRunSignf : Room := { frames := 1, cells := 0, slots := 0, locals := 20 }
set_option maxHeartbeats 4000000 in
set_option maxRecDepth 100000 in
/-- a sign of a run -/
theorem c_X5_isRunSignf (l : Launch) (g : gG)  (I : gI) (R : gR) (J : gJ) (AI : gI) (AJ : gJ) (AR : gR) (ch : Int) (zch : zr ch) : gMet l g yX5_isRunSign wsX5_isRunSign rmX5_isRunSignf [.int (iI ch)] (I, R, J, AI, AJ, AR) (gQi g (fun (z : Int) (w : gS) => I = w.1 ∧ R = w.2.1 ∧ J = w.2.2.1 ∧ AI = w.2.2.2.1 ∧ AJ = w.2.2.2.2.1 ∧ AR = w.2.2.2.2.2 ∧ ((z = 0 ∨ z = 1) ∧ (z = 1 ↔ tRu ch)))) := by
  refine gStart (cc := cX5_isRunSign) (maxL := 1) (ret := (some (.boolean))) (by decide) rfl (Nat.le_of_ble_eq_true rfl) ?_
  intro p e s m below meth c ls F hr hlk hH hz hS hl
  have hl : lv_has ls 1 [(0, .int (iI ch))] := hl
  have hS : va_S (gA g) s.heap s.heap [] := hS
  obtain ⟨H, hHe⟩ : ∃ H : Heap, H = s.heap := ⟨_, rfl⟩
  obtain ⟨locs, hlo⟩ : ∃ k : List Loc, k = [] := ⟨_, rfl⟩
  have hH : gH g I R J AI AJ AR H := by rw [hHe]; exact hH
  have hS : va_S (gA g) s.heap H locs := by rw [hHe, hlo]; exact hS
  suffices hw : W p l e rmX5_isRunSignf s m ([.int (iI ch)] : List Value).toArray below meth c H locs 0 0 (MQ below (gQi g (fun (z : Int) (w : gS) => I = w.1 ∧ R = w.2.1 ∧ J = w.2.2.1 ∧ AI = w.2.2.2.1 ∧ AJ = w.2.2.2.2.1 ∧ AR = w.2.2.2.2.2 ∧ ((z = 0 ∨ z = 1) ∧ (z = 1 ↔ tRu ch)))) ([.int (iI ch)] : List Value).toArray s 0 0 (gA g)) (F0 m 0 ls []) by
    rw [hHe, hlo] at hw; exact hw
  clear hHe hlo
  refine lv_iload_n F.1 F.2.1 dX5_isRunSign_0 rfl (lv_at hl 0 rfl) ?_
  refine g_calli (g_runS (As := [.int (iI ch)]) (rest := []) F hl.1 hH hS hz (c_X5_isDigitf l g  I R J AI AJ AR ch zch) (va_cwS 1 F.2.2.2.2.1 gX5_isRunSign_X5_isDigit rfl rfl rfl hdX5_isDigit.2 ⟨Nat.le_of_ble_eq_true rfl, Nat.le_of_ble_eq_true rfl⟩) rfl rfl (Nat.le_of_ble_eq_true rfl) dX5_isRunSign_1 ⟨Nat.zero_le _, Nat.zero_le _⟩) hS (fun v_7 I_1 R_2 J_3 AI_4 AJ_5 AR_6 H locs zv_7 hp_8 hH hS => ?_)
  dsimp only at hp_8
  obtain ⟨rfl, rfl, rfl, rfl, rfl, rfl, q1⟩ := hp_8
  obtain ⟨q1a, q1b⟩ := q1
  refine z_if_ne (tgt := 19) F dX5_isRunSign_4 (by decide) zv_7 (fun c_9 => ?_) (fun c_9 => ?_)
  · refine z_iconst F dX5_isRunSign_19 ?_
    refine z_goto (tgt := 24) F dX5_isRunSign_20 (by decide) ?_
    exact g_zret F hr hlk hH hS hz (by omega) ⟨rfl, rfl, rfl, rfl, rfl, rfl, ⟨by omega, by omega⟩⟩ dX5_isRunSign_24
  · refine lv_iload_n F.1 F.2.1 dX5_isRunSign_7 rfl (lv_at hl 0 rfl) ?_
    refine z_bipush F dX5_isRunSign_8 (by decide) ?_
    refine z_icmp_lt (tgt := 23) F dX5_isRunSign_10 (by decide) zch ⟨by decide, by decide⟩ (fun c_10 => ?_) (fun c_10 => ?_)
    · refine z_iconst F dX5_isRunSign_23 ?_
      exact g_zret F hr hlk hH hS hz (by omega) ⟨rfl, rfl, rfl, rfl, rfl, rfl, ⟨by omega, by omega⟩⟩ dX5_isRunSign_24
    · refine lv_iload_n F.1 F.2.1 dX5_isRunSign_13 rfl (lv_at hl 0 rfl) ?_
      refine z_bipush F dX5_isRunSign_14 (by decide) ?_
      refine z_icmp_gt (tgt := 23) F dX5_isRunSign_16 (by decide) zch ⟨by decide, by decide⟩ (fun c_11 => ?_) (fun c_11 => ?_)
      · refine z_iconst F dX5_isRunSign_23 ?_
        exact g_zret F hr hlk hH hS hz (by omega) ⟨rfl, rfl, rfl, rfl, rfl, rfl, ⟨by omega, by omega⟩⟩ dX5_isRunSign_24
      · refine z_iconst F dX5_isRunSign_19 ?_
        refine z_goto (tgt := 24) F dX5_isRunSign_20 (by decide) ?_
        exact g_zret F hr hlk hH hS hz (by omega) ⟨rfl, rfl, rfl, rfl, rfl, rfl, ⟨by omega, by omega⟩⟩ dX5_isRunSign_24

def rmX5_nameOff : Room := { frames := 0, cells := 0, slots := 0, locals := 0 }
set_option maxHeartbeats 4000000 in
set_option maxRecDepth 100000 in
/-- the letters of a word -/
theorem c_X5_nameOff (l : Launch) (g : gG) (b : tTx) (I : gI) (R : gR) (J : gJ) (AI : gI) (AJ : gJ) (AR : gR) (t : Nat) (fr : Int) (to_ : Int) (zfr : zr fr) (zto_ : zr to_) (ht : gAr g t 8 936) (hb : ∀ k : Nat, (AI t k).toInt = b k) (h0 : 0 ≤ fr) (h1 : fr ≤ to_) (h2 : to_ ≤ 936) : gMet l g yX5_nameOf wsX5_nameOf rmX5_nameOff [.ref t, .int (iI fr), .int (iI to_)] (I, R, J, AI, AJ, AR) (gQl g (fun (z : Int64) (w : gS) => I = w.1 ∧ R = w.2.1 ∧ J = w.2.2.1 ∧ AI = w.2.2.2.1 ∧ AJ = w.2.2.2.2.1 ∧ AR = w.2.2.2.2.2 ∧ (z = tNm b fr.toNat (to_ - fr).toNat))) := by
  refine gStart (cc := cX5_nameOf) (maxL := 6) (ret := (some (.long))) (by decide) rfl (Nat.le_of_ble_eq_true rfl) ?_
  intro p e s m below meth c ls F hr hlk hH hz hS hl
  have hl : lv_has ls 6 [(0, .ref t), (1, .int (iI fr)), (2, .int (iI to_))] := hl
  have hS : va_S (gA g) s.heap s.heap [] := hS
  obtain ⟨H, hHe⟩ : ∃ H : Heap, H = s.heap := ⟨_, rfl⟩
  obtain ⟨locs, hlo⟩ : ∃ k : List Loc, k = [] := ⟨_, rfl⟩
  have hH : gH g I R J AI AJ AR H := by rw [hHe]; exact hH
  have hS : va_S (gA g) s.heap H locs := by rw [hHe, hlo]; exact hS
  suffices hw : W p l e rmX5_nameOff s m ([.ref t, .int (iI fr), .int (iI to_)] : List Value).toArray below meth c H locs 0 0 (MQ below (gQl g (fun (z : Int64) (w : gS) => I = w.1 ∧ R = w.2.1 ∧ J = w.2.2.1 ∧ AI = w.2.2.2.1 ∧ AJ = w.2.2.2.2.1 ∧ AR = w.2.2.2.2.2 ∧ (z = tNm b fr.toNat (to_ - fr).toNat))) ([.ref t, .int (iI fr), .int (iI to_)] : List Value).toArray s 0 0 (gA g)) (F0 m 0 ls []) by
    rw [hHe, hlo] at hw; exact hw
  clear hHe hlo
  refine lv_lconst (v := 0) F.1 F.2.1 dX5_nameOf_0 (by decide) ?_
  refine lv_lstore_n (lv' := [(3, .long 0), (0, .ref t), (1, .int (iI fr)), (2, .int (iI to_))]) F.1 F.2.1 dX5_nameOf_1 rfl hl (by decide) rfl (fun ls hl => ?_)
  refine lv_iload_n F.1 F.2.1 dX5_nameOf_2 rfl (lv_at hl 2 rfl) ?_
  refine lv_istore (lv' := [(5, .int (iI fr)), (3, .long 0), (0, .ref t), (1, .int (iI fr)), (2, .int (iI to_))]) F.1 F.2.1 dX5_nameOf_3 hl (by decide) rfl (fun ls hl => ?_)
  have cut_5_1 : ∀ (NN : Nat) (i : Int) (nm : Int64) (H : Heap) (locs : List Loc) (ls : Array Slot), zr i → (fr ≤ i ∧ i ≤ to_) → (nm = tNm b fr.toNat (i - fr).toNat) → (to_ - i) < ((NN : Nat) : Int) → gH g I R J AI AJ AR H → va_S (gA g) s.heap H locs → lv_has ls 6 [(5, .int (iI i)), (3, .long nm), (0, .ref t), (1, .int (iI fr)), (2, .int (iI to_))] → W p l e rmX5_nameOff s m ([.ref t, .int (iI fr), .int (iI to_)] : List Value).toArray below meth c H locs 0 0 (MQ below (gQl g (fun (z : Int64) (w : gS) => I = w.1 ∧ R = w.2.1 ∧ J = w.2.2.1 ∧ AI = w.2.2.2.1 ∧ AJ = w.2.2.2.2.1 ∧ AR = w.2.2.2.2.2 ∧ (z = tNm b fr.toNat (to_ - fr).toNat))) ([.ref t, .int (iI fr), .int (iI to_)] : List Value).toArray s 0 0 (gA g)) (F0 m 5 ls []) := by
    intro NN5
    induction NN5 with
    | zero =>
      intro i nm H locs ls zi hi hn hm5 hH hS hl
      exact absurd hm5 (by omega)
    | succ NN5 ih5 =>
      intro i nm H locs ls zi hi hn hm5 hH hS hl
      refine lv_iload F.1 F.2.1 dX5_nameOf_5 (lv_at hl 0 rfl) ?_
      refine lv_iload_n F.1 F.2.1 dX5_nameOf_7 rfl (lv_at hl 4 rfl) ?_
      refine z_icmp_ge (tgt := 32) F dX5_nameOf_8 (by decide) zi zto_ (fun c_3 => ?_) (fun c_3 => ?_)
      · refine lv_lload_n F.1 F.2.1 dX5_nameOf_32 rfl (lv_at hl 1 rfl) ?_
        exact g_lret F hr hlk hH hS hz ⟨rfl, rfl, rfl, rfl, rfl, rfl, by rw [hn, show i = to_ by omega]⟩ dX5_nameOf_33
      · refine lv_lload_n F.1 F.2.1 dX5_nameOf_11 rfl (lv_at hl 1 rfl) ?_
        refine z_iconst F dX5_nameOf_12 ?_
        refine lv_lshl F.1 F.2.1 dX5_nameOf_13 rfl ?_
        refine lv_topl (fun j_4 ej_4 => ?_)
        refine lv_aload_n F.1 F.2.1 dX5_nameOf_14 rfl (lv_at hl 2 rfl) ?_
        refine lv_iload F.1 F.2.1 dX5_nameOf_15 (lv_at hl 0 rfl) ?_
        have hx17 : 0 ≤ i ∧ i < ((936 : Nat) : Int) ∧ i ≤ 2147483647 := ⟨by omega, by omega, by omega⟩
        refine g_bald F hH ht hx17.1 hx17.2.1 hx17.2.2 dX5_nameOf_17 ?_
        refine z_name (fun v_5 ev_5 => ?_)
        have zv_5 : zr v_5 := by rw [ev_5]; exact zr_t _
        refine z_bipush F dX5_nameOf_18 (by decide) ?_
        refine z_isub F dX5_nameOf_20 ?_
        refine z_iconst F dX5_nameOf_21 ?_
        refine z_iadd F dX5_nameOf_22 ?_
        refine lv_i2l F.1 F.2.1 dX5_nameOf_23 rfl ?_
        refine lv_topl (fun j_6 ej_6 => ?_)
        refine lv_lor F.1 F.2.1 dX5_nameOf_24 ?_
        refine lv_topl (fun j_7 ej_7 => ?_)
        have hn2 : j_7 = tNm b fr.toNat (i + 1 - fr).toNat := by rw [show (i + 1 - fr).toNat = (i - fr).toNat + 1 by omega]; exact tNm_s hn ej_4 (by rw [ev_5, show fr.toNat + (i - fr).toNat = i.toNat by omega]; exact hb _) ej_6 ej_7
        refine lv_lstore_n (lv' := [(3, .long j_7), (5, .int (iI i)), (0, .ref t), (1, .int (iI fr)), (2, .int (iI to_))]) F.1 F.2.1 dX5_nameOf_25 rfl hl (by decide) rfl (fun ls hl => ?_)
        refine z_iinc (lv' := [(5, .int (iI (i + 1))), (3, .long j_7), (0, .ref t), (1, .int (iI fr)), (2, .int (iI to_))]) F dX5_nameOf_26 hl (k := 1) rfl (by decide) rfl (fun ls hl => ?_)
        refine z_goto (tgt := 5) F dX5_nameOf_29 (by decide) ?_
        exact ih5 (i + 1) j_7 H locs ls ⟨by omega, by omega⟩ (by omega) (by first | exact hn2 | (rw [show (fr - fr).toNat = 0 by omega]; rfl)) (by omega) hH hS (lv_sub hl [0, 1, 2, 3, 4] rfl)
  exact cut_5_1 (((to_ - fr) + 1 : Int).toNat) fr 0 H locs ls zfr (by omega) (by first | exact hn2 | (rw [show (fr - fr).toNat = 0 by omega]; rfl)) (by omega) hH hS (lv_sub hl [0, 1, 2, 3, 4] rfl)

def rmX5_numberOff : Room := { frames := 0, cells := 0, slots := 0, locals := 0 }
set_option maxHeartbeats 4000000 in
set_option maxRecDepth 100000 in
/-- a number -/
theorem c_X5_numberOff (l : Launch) (g : gG) (b : tTx) (I : gI) (R : gR) (J : gJ) (AI : gI) (AJ : gJ) (AR : gR) (t : Nat) (fr : Int) (to_ : Int) (zfr : zr fr) (zto_ : zr to_) (ht : gAr g t 8 936) (hb : ∀ k : Nat, (AI t k).toInt = b k) (h0 : 0 ≤ fr) (h1 : fr ≤ to_) (h2 : to_ ≤ 936) (hm : to_ - fr ≤ 4) (hd : ∀ j : Nat, (j : Int) < to_ - fr → tDg (b (fr.toNat + j))) : gMet l g yX5_numberOf wsX5_numberOf rmX5_numberOff [.ref t, .int (iI fr), .int (iI to_)] (I, R, J, AI, AJ, AR) (gQi g (fun (z : Int) (w : gS) => I = w.1 ∧ R = w.2.1 ∧ J = w.2.2.1 ∧ AI = w.2.2.2.1 ∧ AJ = w.2.2.2.2.1 ∧ AR = w.2.2.2.2.2 ∧ (z = tNb b fr.toNat (to_ - fr).toNat) ∧ (0 ≤ z ∧ z ≤ 9999))) := by
  refine gStart (cc := cX5_numberOf) (maxL := 5) (ret := (some (.int))) (by decide) rfl (Nat.le_of_ble_eq_true rfl) ?_
  intro p e s m below meth c ls F hr hlk hH hz hS hl
  have hl : lv_has ls 5 [(0, .ref t), (1, .int (iI fr)), (2, .int (iI to_))] := hl
  have hS : va_S (gA g) s.heap s.heap [] := hS
  obtain ⟨H, hHe⟩ : ∃ H : Heap, H = s.heap := ⟨_, rfl⟩
  obtain ⟨locs, hlo⟩ : ∃ k : List Loc, k = [] := ⟨_, rfl⟩
  have hH : gH g I R J AI AJ AR H := by rw [hHe]; exact hH
  have hS : va_S (gA g) s.heap H locs := by rw [hHe, hlo]; exact hS
  suffices hw : W p l e rmX5_numberOff s m ([.ref t, .int (iI fr), .int (iI to_)] : List Value).toArray below meth c H locs 0 0 (MQ below (gQi g (fun (z : Int) (w : gS) => I = w.1 ∧ R = w.2.1 ∧ J = w.2.2.1 ∧ AI = w.2.2.2.1 ∧ AJ = w.2.2.2.2.1 ∧ AR = w.2.2.2.2.2 ∧ (z = tNb b fr.toNat (to_ - fr).toNat) ∧ (0 ≤ z ∧ z ≤ 9999))) ([.ref t, .int (iI fr), .int (iI to_)] : List Value).toArray s 0 0 (gA g)) (F0 m 0 ls []) by
    rw [hHe, hlo] at hw; exact hw
  clear hHe hlo
  refine z_iconst F dX5_numberOf_0 ?_
  refine lv_istore_n (lv' := [(3, .int (iI 0)), (0, .ref t), (1, .int (iI fr)), (2, .int (iI to_))]) F.1 F.2.1 dX5_numberOf_1 rfl hl (by decide) rfl (fun ls hl => ?_)
  refine lv_iload_n F.1 F.2.1 dX5_numberOf_2 rfl (lv_at hl 2 rfl) ?_
  refine lv_istore (lv' := [(4, .int (iI fr)), (3, .int (iI 0)), (0, .ref t), (1, .int (iI fr)), (2, .int (iI to_))]) F.1 F.2.1 dX5_numberOf_3 hl (by decide) rfl (fun ls hl => ?_)
  have cut_5_0 : ∀ (NN : Nat) (nb i : Int) (H : Heap) (locs : List Loc) (ls : Array Slot), zr nb → zr i → (fr ≤ i ∧ i ≤ to_ ∧ 0 ≤ nb ∧ nb ≤ 9999) → (nb = tNb b fr.toNat (i - fr).toNat) → (to_ - i) < ((NN : Nat) : Int) → gH g I R J AI AJ AR H → va_S (gA g) s.heap H locs → lv_has ls 5 [(4, .int (iI i)), (3, .int (iI nb)), (0, .ref t), (1, .int (iI fr)), (2, .int (iI to_))] → W p l e rmX5_numberOff s m ([.ref t, .int (iI fr), .int (iI to_)] : List Value).toArray below meth c H locs 0 0 (MQ below (gQi g (fun (z : Int) (w : gS) => I = w.1 ∧ R = w.2.1 ∧ J = w.2.2.1 ∧ AI = w.2.2.2.1 ∧ AJ = w.2.2.2.2.1 ∧ AR = w.2.2.2.2.2 ∧ (z = tNb b fr.toNat (to_ - fr).toNat) ∧ (0 ≤ z ∧ z ≤ 9999))) ([.ref t, .int (iI fr), .int (iI to_)] : List Value).toArray s 0 0 (gA g)) (F0 m 5 ls []) := by
    intro NN5
    induction NN5 with
    | zero =>
      intro nb i H locs ls znb zi hi hn hm5 hH hS hl
      exact absurd hm5 (by omega)
    | succ NN5 ih5 =>
      intro nb i H locs ls znb zi hi hn hm5 hH hS hl
      refine lv_iload F.1 F.2.1 dX5_numberOf_5 (lv_at hl 0 rfl) ?_
      refine lv_iload_n F.1 F.2.1 dX5_numberOf_7 rfl (lv_at hl 4 rfl) ?_
      refine z_icmp_ge (tgt := 30) F dX5_numberOf_8 (by decide) zi zto_ (fun c_2 => ?_) (fun c_2 => ?_)
      · refine lv_iload_n F.1 F.2.1 dX5_numberOf_30 rfl (lv_at hl 1 rfl) ?_
        exact g_iret F hr hlk hH hS hz znb ⟨rfl, rfl, rfl, rfl, rfl, rfl, by rw [hn, show i = to_ by omega], by first | omega | rfl | (dsimp only; omega)⟩ dX5_numberOf_31
      · refine z_bipush F dX5_numberOf_11 (by decide) ?_
        refine lv_iload_n F.1 F.2.1 dX5_numberOf_13 rfl (lv_at hl 1 rfl) ?_
        refine z_imul F dX5_numberOf_14 ?_
        refine lv_aload_n F.1 F.2.1 dX5_numberOf_15 rfl (lv_at hl 2 rfl) ?_
        refine lv_iload F.1 F.2.1 dX5_numberOf_16 (lv_at hl 0 rfl) ?_
        have hx18 : 0 ≤ i ∧ i < ((936 : Nat) : Int) ∧ i ≤ 2147483647 := ⟨by omega, by omega, by omega⟩
        refine g_bald F hH ht hx18.1 hx18.2.1 hx18.2.2 dX5_numberOf_18 ?_
        refine z_name (fun v_3 ev_3 => ?_)
        have zv_3 : zr v_3 := by rw [ev_3]; exact zr_t _
        have d18 := hd (i - fr).toNat (by omega)
        rw [show fr.toNat + (i - fr).toNat = i.toNat by omega, ← hb, ← ev_3] at d18
        have hn2 : 10 * nb + v_3 - 48 = tNb b fr.toNat (i + 1 - fr).toNat := by rw [show (i + 1 - fr).toNat = (i - fr).toNat + 1 by omega, tNb, ← hn, show fr.toNat + (i - fr).toNat = i.toNat by omega, ← hb, ← ev_3]
        have hn3 := tNb_4 (b := b) (k := fr.toNat) (m := (i + 1 - fr).toNat) (fun j hj => hd j (by omega)) (by omega)
        refine z_iadd F dX5_numberOf_19 ?_
        refine z_bipush F dX5_numberOf_20 (by decide) ?_
        refine z_isub F dX5_numberOf_22 ?_
        refine lv_istore_n (lv' := [(3, .int (iI (((10 * nb) + v_3) - 48))), (4, .int (iI i)), (0, .ref t), (1, .int (iI fr)), (2, .int (iI to_))]) F.1 F.2.1 dX5_numberOf_23 rfl hl (by decide) rfl (fun ls hl => ?_)
        refine z_iinc (lv' := [(4, .int (iI (i + 1))), (3, .int (iI (((10 * nb) + v_3) - 48))), (0, .ref t), (1, .int (iI fr)), (2, .int (iI to_))]) F dX5_numberOf_24 hl (k := 1) rfl (by decide) rfl (fun ls hl => ?_)
        refine z_goto (tgt := 5) F dX5_numberOf_27 (by decide) ?_
        exact ih5 (((10 * nb) + v_3) - 48) (i + 1) H locs ls ⟨by omega, by omega⟩ ⟨by omega, by omega⟩ (by omega) (by first | exact hn2 | (rw [show (fr - fr).toNat = 0 by omega]; rfl)) (by omega) hH hS (lv_sub hl [0, 1, 2, 3, 4] rfl)
  exact cut_5_0 (((to_ - fr) + 1 : Int).toNat) 0 fr H locs ls ⟨by decide, by decide⟩ zfr (by omega) (by first | exact hn2 | (rw [show (fr - fr).toNat = 0 by omega]; rfl)) (by omega) hH hS (lv_sub hl [0, 1, 2, 3, 4] rfl)

def rmX5_wordsAgreef : Room := { frames := 4, cells := 0, slots := 0, locals := 85 }
set_option maxHeartbeats 4000000 in
set_option maxRecDepth 100000 in
/-- two words agree -/
theorem c_X5_wordsAgreef (l : Launch) (g : gG) (b : tTx) (I : gI) (R : gR) (J : gJ) (AI : gI) (AJ : gJ) (AR : gR) (sa : Int) (so : Int) (t : Nat) (fr : Int) (zsa : zr sa) (zso : zr so) (zfr : zr fr) (ht : gAr g t 8 936) (hb : ∀ k : Nat, (AI t k).toInt = b k) (h0 : 0 ≤ sa) (h1 : sa ≤ so) (h2 : so ≤ 110) (h3 : 0 ≤ fr) (h4 : fr + (so - sa) ≤ 936) : gMet l g yX5_wordsAgree wsX5_wordsAgree rmX5_wordsAgreef [.int (iI sa), .int (iI so), .ref t, .int (iI fr)] (I, R, J, AI, AJ, AR) (gQi g (fun (z : Int) (w : gS) => I = w.1 ∧ R = w.2.1 ∧ J = w.2.2.1 ∧ AI = w.2.2.2.1 ∧ AJ = w.2.2.2.2.1 ∧ AR = w.2.2.2.2.2 ∧ ((z = 0 ∨ z = 1) ∧ (z = 1 ↔ ∀ j : Nat, (j : Int) < so - sa → wCh (sa.toNat + j) = b (fr.toNat + j))))) := by
  refine gStart (cc := cX5_wordsAgree) (maxL := 5) (ret := (some (.boolean))) (by decide) rfl (Nat.le_of_ble_eq_true rfl) ?_
  intro p e s m below meth c ls F hr hlk hH hz hS hl
  have hl : lv_has ls 5 [(0, .int (iI sa)), (1, .int (iI so)), (2, .ref t), (3, .int (iI fr))] := hl
  have hS : va_S (gA g) s.heap s.heap [] := hS
  obtain ⟨H, hHe⟩ : ∃ H : Heap, H = s.heap := ⟨_, rfl⟩
  obtain ⟨locs, hlo⟩ : ∃ k : List Loc, k = [] := ⟨_, rfl⟩
  have hH : gH g I R J AI AJ AR H := by rw [hHe]; exact hH
  have hS : va_S (gA g) s.heap H locs := by rw [hHe, hlo]; exact hS
  suffices hw : W p l e rmX5_wordsAgreef s m ([.int (iI sa), .int (iI so), .ref t, .int (iI fr)] : List Value).toArray below meth c H locs 0 0 (MQ below (gQi g (fun (z : Int) (w : gS) => I = w.1 ∧ R = w.2.1 ∧ J = w.2.2.1 ∧ AI = w.2.2.2.1 ∧ AJ = w.2.2.2.2.1 ∧ AR = w.2.2.2.2.2 ∧ ((z = 0 ∨ z = 1) ∧ (z = 1 ↔ ∀ j : Nat, (j : Int) < so - sa → wCh (sa.toNat + j) = b (fr.toNat + j))))) ([.int (iI sa), .int (iI so), .ref t, .int (iI fr)] : List Value).toArray s 0 0 (gA g)) (F0 m 0 ls []) by
    rw [hHe, hlo] at hw; exact hw
  clear hHe hlo
  refine z_iconst F dX5_wordsAgree_0 ?_
  refine lv_istore (lv' := [(4, .int (iI 0)), (0, .int (iI sa)), (1, .int (iI so)), (2, .ref t), (3, .int (iI fr))]) F.1 F.2.1 dX5_wordsAgree_1 hl (by decide) rfl (fun ls hl => ?_)
  have cut_3_0 : ∀ (NN : Nat) (k : Int) (H : Heap) (locs : List Loc) (ls : Array Slot), zr k → (0 ≤ k ∧ k ≤ so - sa) → (∀ j : Nat, (j : Int) < k → wCh (sa.toNat + j) = b (fr.toNat + j)) → (so - sa - k) < ((NN : Nat) : Int) → gH g I R J AI AJ AR H → va_S (gA g) s.heap H locs → lv_has ls 5 [(4, .int (iI k)), (0, .int (iI sa)), (1, .int (iI so)), (2, .ref t), (3, .int (iI fr))] → W p l e rmX5_wordsAgreef s m ([.int (iI sa), .int (iI so), .ref t, .int (iI fr)] : List Value).toArray below meth c H locs 0 0 (MQ below (gQi g (fun (z : Int) (w : gS) => I = w.1 ∧ R = w.2.1 ∧ J = w.2.2.1 ∧ AI = w.2.2.2.1 ∧ AJ = w.2.2.2.2.1 ∧ AR = w.2.2.2.2.2 ∧ ((z = 0 ∨ z = 1) ∧ (z = 1 ↔ ∀ j : Nat, (j : Int) < so - sa → wCh (sa.toNat + j) = b (fr.toNat + j))))) ([.int (iI sa), .int (iI so), .ref t, .int (iI fr)] : List Value).toArray s 0 0 (gA g)) (F0 m 3 ls []) := by
    intro NN3
    induction NN3 with
    | zero =>
      intro k H locs ls zk hk hf hm3 hH hS hl
      exact absurd hm3 (by omega)
    | succ NN3 ih3 =>
      intro k H locs ls zk hk hf hm3 hH hS hl
      refine lv_iload F.1 F.2.1 dX5_wordsAgree_3 (lv_at hl 0 rfl) ?_
      refine lv_iload_n F.1 F.2.1 dX5_wordsAgree_5 rfl (lv_at hl 2 rfl) ?_
      refine lv_iload_n F.1 F.2.1 dX5_wordsAgree_6 rfl (lv_at hl 1 rfl) ?_
      refine z_isub F dX5_wordsAgree_7 ?_
      refine z_icmp_ge (tgt := 37) F dX5_wordsAgree_8 (by decide) zk ⟨by omega, by omega⟩ (fun c_2 => ?_) (fun c_2 => ?_)
      · refine z_iconst F dX5_wordsAgree_37 ?_
        exact g_zret F hr hlk hH hS hz (by omega) ⟨rfl, rfl, rfl, rfl, rfl, rfl, ⟨Or.inr rfl, ⟨fun _ j hj => hf j (by omega), fun _ => rfl⟩⟩⟩ dX5_wordsAgree_38
      · refine va_ldcS F.1 F.2.1 F.2.2.2.1 (F.2.2.2.2.2.2.1 0 _ rfl).1 dX5_wordsAgree_11 ?_
        refine lv_iload_n F.1 F.2.1 dX5_wordsAgree_13 rfl (lv_at hl 1 rfl) ?_
        refine lv_iload F.1 F.2.1 dX5_wordsAgree_14 (lv_at hl 0 rfl) ?_
        refine z_iadd F dX5_wordsAgree_16 ?_
        refine g_calli (g_runVS (As := [.int (iI (sa + k))]) (rest := []) F hl.1 hH hS hz (rfl : sTab[0]? = some _) (c_J0_charAt_5068ef l g 0 _ I R J AI AJ AR (sa + k) ⟨by omega, by omega⟩ (rfl : sTab[0]? = some _) (by omega) (by show _ < ((110 : Nat) : Int); omega)) (cwV 1 F.2.2.2.2.1 gX5_wordsAgree_J0_charAt_5068e rfl rfl rfl hdJ0_charAt_5068e ⟨Nat.le_of_ble_eq_true rfl, Nat.le_of_ble_eq_true rfl⟩) rfl rfl (Nat.le_of_ble_eq_true rfl) dX5_wordsAgree_17 ⟨Nat.zero_le _, Nat.zero_le _⟩) hS (fun v_9 I_3 R_4 J_5 AI_6 AJ_7 AR_8 H locs zv_9 hp_10 hH hS => ?_)
        dsimp only at hp_10
        obtain ⟨rfl, rfl, rfl, rfl, rfl, rfl, q17⟩ := hp_10
        have w17 : v_9 = wCh (sa.toNat + k.toNat) := q17.trans (by rw [show (sa + k).toNat = sa.toNat + k.toNat by omega]; rfl)
        refine lv_aload_n F.1 F.2.1 dX5_wordsAgree_20 rfl (lv_at hl 3 rfl) ?_
        refine lv_iload_n F.1 F.2.1 dX5_wordsAgree_21 rfl (lv_at hl 4 rfl) ?_
        refine lv_iload F.1 F.2.1 dX5_wordsAgree_22 (lv_at hl 0 rfl) ?_
        refine z_iadd F dX5_wordsAgree_24 ?_
        have hx25 : 0 ≤ (fr + k) ∧ (fr + k) < ((936 : Nat) : Int) ∧ (fr + k) ≤ 2147483647 := ⟨by omega, by omega, by omega⟩
        refine g_bald F hH ht hx25.1 hx25.2.1 hx25.2.2 dX5_wordsAgree_25 ?_
        refine z_name (fun v_11 ev_11 => ?_)
        have zv_11 : zr v_11 := by rw [ev_11]; exact zr_t _
        have t25 : v_11 = b (fr.toNat + k.toNat) := by rw [ev_11, show (fr + k).toNat = fr.toNat + k.toNat by omega]; exact hb _
        refine z_icmp_eq (tgt := 31) F dX5_wordsAgree_26 (by decide) zv_9 zv_11 (fun c_12 => ?_) (fun c_12 => ?_)
        · refine z_iinc (lv' := [(4, .int (iI (k + 1))), (0, .int (iI sa)), (1, .int (iI so)), (2, .ref t), (3, .int (iI fr))]) F dX5_wordsAgree_31 hl (k := 0) rfl (by decide) rfl (fun ls hl => ?_)
          refine z_goto (tgt := 3) F dX5_wordsAgree_34 (by decide) ?_
          exact ih3 (k + 1) H locs ls ⟨by omega, by omega⟩ (by omega) (by first | exact (fun k hk => absurd hk (by omega)) | exact ix_step hf (by omega) (by omega)) (by omega) hH hS (lv_sub hl [0, 1, 2, 3, 4] rfl)
        · refine z_iconst F dX5_wordsAgree_29 ?_
          exact g_zret F hr hlk hH hS hz (by omega) ⟨rfl, rfl, rfl, rfl, rfl, rfl, ⟨Or.inl rfl, ⟨fun h => absurd h (by decide), fun h => absurd (h k.toNat (by omega)) (by omega)⟩⟩⟩ dX5_wordsAgree_30
  exact cut_3_0 (((so - sa - 0) + 1 : Int).toNat) 0 H locs ls ⟨by decide, by decide⟩ (by omega) (by first | exact (fun k hk => absurd hk (by omega)) | exact ix_step hf (by omega) (by omega)) (by omega) hH hS (lv_sub hl [0, 1, 2, 3, 4] rfl)

def rmX5_wordNumberf : Room := { frames := 5, cells := 0, slots := 0, locals := 109 }
set_option maxHeartbeats 4000000 in
set_option maxRecDepth 100000 in
/-- the number of a word -/
theorem c_X5_wordNumberf (l : Launch) (g : gG) (b : tTx) (I : gI) (R : gR) (J : gJ) (AI : gI) (AJ : gJ) (AR : gR) (t : Nat) (fr : Int) (to_ : Int) (zfr : zr fr) (zto_ : zr to_) (ht : gAr g t 8 936) (hb : ∀ k : Nat, (AI t k).toInt = b k) (h0 : 0 ≤ fr) (h1 : fr ≤ to_) (h2 : to_ ≤ 936) : gMet l g yX5_wordNumber wsX5_wordNumber rmX5_wordNumberf [.ref t, .int (iI fr), .int (iI to_)] (I, R, J, AI, AJ, AR) (gQi g (fun (z : Int) (w : gS) => I = w.1 ∧ R = w.2.1 ∧ J = w.2.2.1 ∧ AI = w.2.2.2.1 ∧ AJ = w.2.2.2.2.1 ∧ AR = w.2.2.2.2.2 ∧ (z = tWn b fr.toNat (to_ - fr).toNat))) := by
  refine gStart (cc := cX5_wordNumber) (maxL := 6) (ret := (some (.int))) (by decide) rfl (Nat.le_of_ble_eq_true rfl) ?_
  intro p e s m below meth c ls F hr hlk hH hz hS hl
  have hl : lv_has ls 6 [(0, .ref t), (1, .int (iI fr)), (2, .int (iI to_))] := hl
  have hS : va_S (gA g) s.heap s.heap [] := hS
  obtain ⟨H, hHe⟩ : ∃ H : Heap, H = s.heap := ⟨_, rfl⟩
  obtain ⟨locs, hlo⟩ : ∃ k : List Loc, k = [] := ⟨_, rfl⟩
  have hH : gH g I R J AI AJ AR H := by rw [hHe]; exact hH
  have hS : va_S (gA g) s.heap H locs := by rw [hHe, hlo]; exact hS
  suffices hw : W p l e rmX5_wordNumberf s m ([.ref t, .int (iI fr), .int (iI to_)] : List Value).toArray below meth c H locs 0 0 (MQ below (gQi g (fun (z : Int) (w : gS) => I = w.1 ∧ R = w.2.1 ∧ J = w.2.2.1 ∧ AI = w.2.2.2.1 ∧ AJ = w.2.2.2.2.1 ∧ AR = w.2.2.2.2.2 ∧ (z = tWn b fr.toNat (to_ - fr).toNat))) ([.ref t, .int (iI fr), .int (iI to_)] : List Value).toArray s 0 0 (gA g)) (F0 m 0 ls []) by
    rw [hHe, hlo] at hw; exact hw
  clear hHe hlo
  refine z_iconst F dX5_wordNumber_0 ?_
  refine lv_istore_n (lv' := [(3, .int (iI 0)), (0, .ref t), (1, .int (iI fr)), (2, .int (iI to_))]) F.1 F.2.1 dX5_wordNumber_1 rfl hl (by decide) rfl (fun ls hl => ?_)
  refine z_iconst F dX5_wordNumber_2 ?_
  refine lv_istore (lv' := [(4, .int (iI 0)), (3, .int (iI 0)), (0, .ref t), (1, .int (iI fr)), (2, .int (iI to_))]) F.1 F.2.1 dX5_wordNumber_3 hl (by decide) rfl (fun ls hl => ?_)
  refine z_iconst F dX5_wordNumber_5 ?_
  refine lv_istore (lv' := [(5, .int (iI 0)), (4, .int (iI 0)), (3, .int (iI 0)), (0, .ref t), (1, .int (iI fr)), (2, .int (iI to_))]) F.1 F.2.1 dX5_wordNumber_6 hl (by decide) rfl (fun ls hl => ?_)
  have cut_8_0 : ∀ (NN : Nat) (nb sa i : Int) (H : Heap) (locs : List Loc) (ls : Array Slot), zr nb → zr sa → zr i → (0 ≤ i ∧ i ≤ 110 ∧ 0 ≤ nb ∧ nb ≤ 20 ∧ sa = (wSt nb.toNat : Int) ∧ sa ≤ i ∧ (nb ≤ 19 → i ≤ (wSt nb.toNat : Int) + (wLn nb.toNat : Int) ∧ i ≤ 109) ∧ (nb = 20 → i = 110)) → (∀ u : Nat, (u : Int) < nb → ¬ tWa b fr.toNat (to_ - fr).toNat u) → (110 - i) < ((NN : Nat) : Int) → gH g I R J AI AJ AR H → va_S (gA g) s.heap H locs → lv_has ls 6 [(5, .int (iI i)), (4, .int (iI sa)), (3, .int (iI nb)), (0, .ref t), (1, .int (iI fr)), (2, .int (iI to_))] → W p l e rmX5_wordNumberf s m ([.ref t, .int (iI fr), .int (iI to_)] : List Value).toArray below meth c H locs 0 0 (MQ below (gQi g (fun (z : Int) (w : gS) => I = w.1 ∧ R = w.2.1 ∧ J = w.2.2.1 ∧ AI = w.2.2.2.1 ∧ AJ = w.2.2.2.2.1 ∧ AR = w.2.2.2.2.2 ∧ (z = tWn b fr.toNat (to_ - fr).toNat))) ([.ref t, .int (iI fr), .int (iI to_)] : List Value).toArray s 0 0 (gA g)) (F0 m 8 ls []) := by
    intro NN8
    induction NN8 with
    | zero =>
      intro nb sa i H locs ls znb zsa zi hi hf hm8 hH hS hl
      exact absurd hm8 (by omega)
    | succ NN8 ih8 =>
      intro nb sa i H locs ls znb zsa zi hi hf hm8 hH hS hl
      refine lv_iload F.1 F.2.1 dX5_wordNumber_8 (lv_at hl 0 rfl) ?_
      refine va_ldcS F.1 F.2.1 F.2.2.2.1 (F.2.2.2.2.2.2.1 0 _ rfl).1 dX5_wordNumber_10 ?_
      refine g_calli (g_runVS (As := []) (rest := [.int (iI i)]) F hl.1 hH hS hz (rfl : sTab[0]? = some _) (c_J0_length_8abf5 l g 0 _ I R J AI AJ AR  (rfl : sTab[0]? = some _)) (cwV 0 F.2.2.2.2.1 gX5_wordNumber_J0_length_8abf5 rfl rfl rfl hdJ0_length_8abf5 ⟨Nat.le_of_ble_eq_true rfl, Nat.le_of_ble_eq_true rfl⟩) rfl rfl (Nat.le_of_ble_eq_true rfl) dX5_wordNumber_12 ⟨Nat.zero_le _, Nat.zero_le _⟩) hS (fun v_8 I_2 R_3 J_4 AI_5 AJ_6 AR_7 H locs zv_8 hp_9 hH hS => ?_)
      dsimp only at hp_9
      obtain ⟨rfl, rfl, rfl, rfl, rfl, rfl, q12⟩ := hp_9
      have hwl : v_8 = 110 := q12
      refine z_icmp_ge (tgt := 70) F dX5_wordNumber_15 (by decide) zi zv_8 (fun c_10 => ?_) (fun c_10 => ?_)
      · refine z_iconst F dX5_wordNumber_70 ?_
        exact g_iret F hr hlk hH hS hz ⟨by decide, by decide⟩ ⟨rfl, rfl, rfl, rfl, rfl, rfl, w_out hi hf (by omega)⟩ dX5_wordNumber_71
      · refine va_ldcS F.1 F.2.1 F.2.2.2.1 (F.2.2.2.2.2.2.1 0 _ rfl).1 dX5_wordNumber_18 ?_
        refine lv_iload F.1 F.2.1 dX5_wordNumber_20 (lv_at hl 0 rfl) ?_
        refine g_calli (g_runVS (As := [.int (iI i)]) (rest := []) F hl.1 hH hS hz (rfl : sTab[0]? = some _) (c_J0_charAt_5068ef l g 0 _ I R J AI AJ AR i zi (rfl : sTab[0]? = some _) (by omega) (by show _ < ((110 : Nat) : Int); omega)) (cwV 1 F.2.2.2.2.1 gX5_wordNumber_J0_charAt_5068e rfl rfl rfl hdJ0_charAt_5068e ⟨Nat.le_of_ble_eq_true rfl, Nat.le_of_ble_eq_true rfl⟩) rfl rfl (Nat.le_of_ble_eq_true rfl) dX5_wordNumber_22 ⟨Nat.zero_le _, Nat.zero_le _⟩) hS (fun v_17 I_11 R_12 J_13 AI_14 AJ_15 AR_16 H locs zv_17 hp_18 hH hS => ?_)
        dsimp only at hp_18
        obtain ⟨rfl, rfl, rfl, rfl, rfl, rfl, q22⟩ := hp_18
        have w22 : v_17 = wCh i.toNat := q22
        refine z_bipush F dX5_wordNumber_25 (by decide) ?_
        refine z_icmp_ne (tgt := 64) F dX5_wordNumber_27 (by decide) zv_17 ⟨by decide, by decide⟩ (fun c_19 => ?_) (fun c_19 => ?_)
        · refine z_iinc (lv' := [(5, .int (iI (i + 1))), (4, .int (iI sa)), (3, .int (iI nb)), (0, .ref t), (1, .int (iI fr)), (2, .int (iI to_))]) F dX5_wordNumber_64 hl (k := 0) rfl (by decide) rfl (fun ls hl => ?_)
          refine z_goto (tgt := 8) F dX5_wordNumber_67 (by decide) ?_
          exact ih8 nb sa (i + 1) H locs ls znb zsa ⟨by omega, by omega⟩ (by first | exact w_0 | exact w_nx hi hwl (by omega) w22 | exact w_in hi hwl (by omega) w22) (by first | exact (fun k hk => absurd hk (by omega)) | exact hf | exact ix_step hf (by omega) hno) (by omega) hH hS (lv_sub hl [0, 1, 2, 3, 4, 5] rfl)
        · have h20 : nb ≤ 19 := by have := hi.2.2.2.2.2.2.2; omega
          have hsp := w_sp hi h20 ⟨w22, by omega⟩
          refine lv_iload F.1 F.2.1 dX5_wordNumber_30 (lv_at hl 0 rfl) ?_
          refine lv_iload F.1 F.2.1 dX5_wordNumber_32 (lv_at hl 1 rfl) ?_
          refine z_isub F dX5_wordNumber_34 ?_
          refine lv_iload_n F.1 F.2.1 dX5_wordNumber_35 rfl (lv_at hl 5 rfl) ?_
          refine lv_iload_n F.1 F.2.1 dX5_wordNumber_36 rfl (lv_at hl 4 rfl) ?_
          refine z_isub F dX5_wordNumber_37 ?_
          refine z_icmp_ne (tgt := 55) F dX5_wordNumber_38 (by decide) ⟨by omega, by omega⟩ ⟨by omega, by omega⟩ (fun c_20 => ?_) (fun c_20 => ?_)
          · have hno : ¬ tWa b fr.toNat (to_ - fr).toNat nb.toNat := by first | exact w_miss hi hsp (by omega) (fun h => absurd (q47.2.mpr h) (by omega)) | exact w_len (sa := sa) hsp (by omega)
            refine z_iinc (lv' := [(3, .int (iI (nb + 1))), (5, .int (iI i)), (4, .int (iI sa)), (0, .ref t), (1, .int (iI fr)), (2, .int (iI to_))]) F dX5_wordNumber_55 hl (k := 2) rfl (by decide) rfl (fun ls hl => ?_)
            refine lv_iload F.1 F.2.1 dX5_wordNumber_58 (lv_at hl 1 rfl) ?_
            refine z_iconst F dX5_wordNumber_60 ?_
            refine z_iadd F dX5_wordNumber_61 ?_
            refine lv_istore (lv' := [(4, .int (iI (i + 1))), (3, .int (iI (nb + 1))), (5, .int (iI i)), (0, .ref t), (1, .int (iI fr)), (2, .int (iI to_))]) F.1 F.2.1 dX5_wordNumber_62 hl (by decide) rfl (fun ls hl => ?_)
            refine z_iinc (lv' := [(5, .int (iI (i + 1))), (4, .int (iI (i + 1))), (3, .int (iI (nb + 1))), (0, .ref t), (1, .int (iI fr)), (2, .int (iI to_))]) F dX5_wordNumber_64 hl (k := 2) rfl (by decide) rfl (fun ls hl => ?_)
            refine z_goto (tgt := 8) F dX5_wordNumber_67 (by decide) ?_
            exact ih8 (nb + 1) (i + 1) (i + 1) H locs ls ⟨by omega, by omega⟩ ⟨by omega, by omega⟩ ⟨by omega, by omega⟩ (by first | exact w_0 | exact w_nx hi hwl (by omega) w22 | exact w_in hi hwl (by omega) w22) (by first | exact (fun k hk => absurd hk (by omega)) | exact hf | exact ix_step hf (by omega) hno) (by omega) hH hS (lv_sub hl [0, 1, 2, 3, 4, 5] rfl)
          · refine lv_iload F.1 F.2.1 dX5_wordNumber_41 (lv_at hl 1 rfl) ?_
            refine lv_iload F.1 F.2.1 dX5_wordNumber_43 (lv_at hl 0 rfl) ?_
            refine lv_aload_n F.1 F.2.1 dX5_wordNumber_45 rfl (lv_at hl 3 rfl) ?_
            refine lv_iload_n F.1 F.2.1 dX5_wordNumber_46 rfl (lv_at hl 4 rfl) ?_
            refine g_calli (g_runS (As := [.int (iI sa), .int (iI i), .ref t, .int (iI fr)]) (rest := []) F hl.1 hH hS hz (c_X5_wordsAgreef l g b I R J AI AJ AR sa i t fr zsa zi zfr ht hb (by omega) (by omega) (by omega) (by omega) (by omega)) (va_cwS 4 F.2.2.2.2.1 gX5_wordNumber_X5_wordsAgree rfl rfl rfl hdX5_wordsAgree.2 ⟨Nat.le_of_ble_eq_true rfl, Nat.le_of_ble_eq_true rfl⟩) rfl rfl (Nat.le_of_ble_eq_true rfl) dX5_wordNumber_47 ⟨Nat.zero_le _, Nat.zero_le _⟩) hS (fun v_27 I_21 R_22 J_23 AI_24 AJ_25 AR_26 H locs zv_27 hp_28 hH hS => ?_)
            dsimp only at hp_28
            obtain ⟨rfl, rfl, rfl, rfl, rfl, rfl, q47⟩ := hp_28
            refine z_if_eq (tgt := 55) F dX5_wordNumber_50 (by decide) zv_27 (fun c_29 => ?_) (fun c_29 => ?_)
            · have hno : ¬ tWa b fr.toNat (to_ - fr).toNat nb.toNat := by first | exact w_miss hi hsp (by omega) (fun h => absurd (q47.2.mpr h) (by omega)) | exact w_len (sa := sa) hsp (by omega)
              refine z_iinc (lv' := [(3, .int (iI (nb + 1))), (5, .int (iI i)), (4, .int (iI sa)), (0, .ref t), (1, .int (iI fr)), (2, .int (iI to_))]) F dX5_wordNumber_55 hl (k := 2) rfl (by decide) rfl (fun ls hl => ?_)
              refine lv_iload F.1 F.2.1 dX5_wordNumber_58 (lv_at hl 1 rfl) ?_
              refine z_iconst F dX5_wordNumber_60 ?_
              refine z_iadd F dX5_wordNumber_61 ?_
              refine lv_istore (lv' := [(4, .int (iI (i + 1))), (3, .int (iI (nb + 1))), (5, .int (iI i)), (0, .ref t), (1, .int (iI fr)), (2, .int (iI to_))]) F.1 F.2.1 dX5_wordNumber_62 hl (by decide) rfl (fun ls hl => ?_)
              refine z_iinc (lv' := [(5, .int (iI (i + 1))), (4, .int (iI (i + 1))), (3, .int (iI (nb + 1))), (0, .ref t), (1, .int (iI fr)), (2, .int (iI to_))]) F dX5_wordNumber_64 hl (k := 2) rfl (by decide) rfl (fun ls hl => ?_)
              refine z_goto (tgt := 8) F dX5_wordNumber_67 (by decide) ?_
              exact ih8 (nb + 1) (i + 1) (i + 1) H locs ls ⟨by omega, by omega⟩ ⟨by omega, by omega⟩ ⟨by omega, by omega⟩ (by first | exact w_0 | exact w_nx hi hwl (by omega) w22 | exact w_in hi hwl (by omega) w22) (by first | exact (fun k hk => absurd hk (by omega)) | exact hf | exact ix_step hf (by omega) hno) (by omega) hH hS (lv_sub hl [0, 1, 2, 3, 4, 5] rfl)
            · refine lv_iload_n F.1 F.2.1 dX5_wordNumber_53 rfl (lv_at hl 2 rfl) ?_
              exact g_iret F hr hlk hH hS hz znb ⟨rfl, rfl, rfl, rfl, rfl, rfl, w_hit hi hsp h20 hf (by omega) (q47.2.mp (by omega))⟩ dX5_wordNumber_54
  exact cut_8_0 (((110 - 0) + 1 : Int).toNat) 0 0 0 H locs ls ⟨by decide, by decide⟩ ⟨by decide, by decide⟩ ⟨by decide, by decide⟩ (by first | exact w_0 | exact w_nx hi hwl (by omega) w22 | exact w_in hi hwl (by omega) w22) (by first | exact (fun k hk => absurd hk (by omega)) | exact hf | exact ix_step hf (by omega) hno) (by omega) hH hS (lv_sub hl [0, 1, 2, 3, 4, 5] rfl)

def rmX5_addTokenf : Room := { frames := 0, cells := 0, slots := 0, locals := 0 }
set_option maxHeartbeats 4000000 in
set_option maxRecDepth 100000 in
/-- one token more -/
theorem c_X5_addTokenf (l : Launch) (g : gG) (gh : gGh) (I : gI) (R : gR) (J : gJ) (AI : gI) (AJ : gJ) (AR : gR) (a : Nat) (kd : Int) (pl : Int) (val : Int) (nm : Int64) (zkd : zr kd) (zpl : zr pl) (zval : zr val) (hv : gInv g gh R AR I AI) (h5 : gO g a 5) (h0 : (I a 4).toInt ≤ 900) (hc : kd = 2 → 0 ≤ val ∧ val ≤ 3) : gMet l g yX5_addToken wsX5_addToken rmX5_addTokenf [.ref a, .int (iI kd), .int (iI pl), .int (iI val), .long nm] (I, R, J, AI, AJ, AR) (gQv g (fun w : gS => R = w.2.1 ∧ J = w.2.2.1 ∧ AR = w.2.2.2.2.2 ∧ (gInv g gh R AR (w.1) (w.2.2.2.1)) ∧ (∀ b, b ≠ a → (w.1) b = I b) ∧ (((w.1) a 4).toInt = (I a 4).toInt + 1) ∧ (∀ q, q ≠ gh 24 0 → q ≠ gh 25 0 → q ≠ gh 26 0 → (w.2.2.2.1) q = AI q) ∧ (∀ j : Nat, j ≠ (I a 4).toInt.toNat → (w.2.2.2.1) (gh 24 0) j = AI (gh 24 0) j ∧ (w.2.2.2.1) (gh 25 0) j = AI (gh 25 0) j ∧ (w.2.2.2.1) (gh 26 0) j = AI (gh 26 0) j ∧ (w.2.2.2.2.1) (gh 27 0) j = AJ (gh 27 0) j) ∧ (tAt gh (w.2.2.2.1) (w.2.2.2.2.1) (I a 4).toInt.toNat kd pl val nm))) := by
  refine gStart (cc := cX5_addToken) (maxL := 6) (ret := none) (by decide) rfl (Nat.le_of_ble_eq_true rfl) ?_
  intro p e s m below meth c ls F hr hlk hH hz hS hl
  have hl : lv_has ls 6 [(0, .ref a), (1, .int (iI kd)), (2, .int (iI pl)), (3, .int (iI val)), (4, .long nm)] := hl
  have hS : va_S (gA g) s.heap s.heap [] := hS
  obtain ⟨H, hHe⟩ : ∃ H : Heap, H = s.heap := ⟨_, rfl⟩
  obtain ⟨locs, hlo⟩ : ∃ k : List Loc, k = [] := ⟨_, rfl⟩
  have hH : gH g I R J AI AJ AR H := by rw [hHe]; exact hH
  have hS : va_S (gA g) s.heap H locs := by rw [hHe, hlo]; exact hS
  suffices hw : W p l e rmX5_addTokenf s m ([.ref a, .int (iI kd), .int (iI pl), .int (iI val), .long nm] : List Value).toArray below meth c H locs 0 0 (MQ below (gQv g (fun w : gS => R = w.2.1 ∧ J = w.2.2.1 ∧ AR = w.2.2.2.2.2 ∧ (gInv g gh R AR (w.1) (w.2.2.2.1)) ∧ (∀ b, b ≠ a → (w.1) b = I b) ∧ (((w.1) a 4).toInt = (I a 4).toInt + 1) ∧ (∀ q, q ≠ gh 24 0 → q ≠ gh 25 0 → q ≠ gh 26 0 → (w.2.2.2.1) q = AI q) ∧ (∀ j : Nat, j ≠ (I a 4).toInt.toNat → (w.2.2.2.1) (gh 24 0) j = AI (gh 24 0) j ∧ (w.2.2.2.1) (gh 25 0) j = AI (gh 25 0) j ∧ (w.2.2.2.1) (gh 26 0) j = AI (gh 26 0) j ∧ (w.2.2.2.2.1) (gh 27 0) j = AJ (gh 27 0) j) ∧ (tAt gh (w.2.2.2.1) (w.2.2.2.2.1) (I a 4).toInt.toNat kd pl val nm))) ([.ref a, .int (iI kd), .int (iI pl), .int (iI val), .long nm] : List Value).toArray s 0 0 (gA g)) (F0 m 0 ls []) by
    rw [hHe, hlo] at hw; exact hw
  clear hHe hlo
  have iX5 : ∀ w ∈ u_ws RX5 TX5 5, w ∈ wsX5_addToken := (by decide +kernel)
  have k9 : Cond.fieldLink RX5 9 (TX5 0).1 (TX5 0).2.1 (TX5 0).2.2.1 ∈ wsX5_addToken := List.mem_of_getElem? (i := 1) rfl
  have k25 : Cond.fieldLink RX5 25 (TX5 4).1 (TX5 4).2.1 (TX5 4).2.2.1 ∈ wsX5_addToken := List.mem_of_getElem? (i := 2) rfl
  have k15 : Cond.fieldLink RX5 15 (TX5 1).1 (TX5 1).2.1 (TX5 1).2.2.1 ∈ wsX5_addToken := List.mem_of_getElem? (i := 3) rfl
  have k18 : Cond.fieldLink RX5 18 (TX5 2).1 (TX5 2).2.1 (TX5 2).2.2.1 ∈ wsX5_addToken := List.mem_of_getElem? (i := 4) rfl
  have k21 : Cond.fieldLink RX5 21 (TX5 3).1 (TX5 3).2.1 (TX5 3).2.2.1 ∈ wsX5_addToken := List.mem_of_getElem? (i := 5) rfl
  refine lv_aload_n F.1 F.2.1 dX5_addToken_0 rfl (lv_at hl 0 rfl) ?_
  obtain ⟨r_1a, r_1b⟩ := gR_tk0 hv h5
  refine g_getR (ci := 5) (k := 0) F hH rfl (by decide) iX5 h5 (by decide) rfl (b := gh 24 0) r_1a k9 dX5_addToken_1 ?_
  refine lv_aload_n F.1 F.2.1 dX5_addToken_4 rfl (lv_at hl 0 rfl) ?_
  refine g_getI (ci := 5) (k := 4) F hH rfl (by decide) iX5 h5 (by decide) rfl k25 dX5_addToken_5 ?_
  have b_2 := gI_tk hv h5
  refine lv_iload_n F.1 F.2.1 dX5_addToken_8 rfl (lv_at hl 1 rfl) ?_
  have hx9 : 0 ≤ ((I a 4).toInt) ∧ ((I a 4).toInt) < ((901 : Nat) : Int) ∧ ((I a 4).toInt) ≤ 2147483647 := ⟨by omega, by omega, by omega⟩
  refine g_iast F hH hS r_1b hx9.1 hx9.2.1 hx9.2.2 dX5_addToken_9 (fun H locs hH hS => ?_)
  obtain ⟨AI_3, eAI_3⟩ : ∃ qQ, qQ = gup2 AI (gh 24 0) (((I a 4).toInt)).toNat (iI (kd)) := ⟨_, rfl⟩
  rw [← eAI_3] at hH
  have kAI_3 : ∀ b, b ≠ (gh 24 0) → AI_3 b = AI b := fun b hb => by rw [eAI_3]; exact funext fun j => gup2_a _ _ hb
  have hv : gInv g gh R AR I AI_3 := gInv_tokW hv h5 (Or.inl ⟨(hv.2.2.2.2.2.2.1 a h5).1.2.2.2, rfl⟩) kAI_3 rfl (fun j hj => by rw [eAI_3]; exact gup2_k _ _ hj)
  have fk : (AI_3 (gh 24 0) (I a 4).toInt.toNat).toInt = kd := by rw [eAI_3, gup2_e _ _ rfl]; exact iI_val zkd
  have f24 : (AI_3 (gh 24 0) (I a 4).toInt.toNat).toInt = kd := by rw [eAI_3, gup2_e _ _ rfl]; exact iI_val zkd
  have f24k : ∀ j : Nat, j ≠ (I a 4).toInt.toNat → AI_3 (gh 24 0) j = AI (gh 24 0) j := fun j hj => by rw [eAI_3, gup2_k _ _ hj]
  have f25o : AI_3 (gh 25 0) = AI (gh 25 0) := kAI_3 _ (tk_ne hv h5).2.1
  have f26o : AI_3 (gh 26 0) = AI (gh 26 0) := kAI_3 _ (tk_ne hv h5).2.2.2.1
  have fo : ∀ q, q ≠ gh 24 0 → q ≠ gh 25 0 → q ≠ gh 26 0 → AI_3 q = AI q := fun q h1 h2 h3 => kAI_3 q h1
  refine lv_aload_n F.1 F.2.1 dX5_addToken_10 rfl (lv_at hl 0 rfl) ?_
  obtain ⟨r_5a, r_5b⟩ := gR_tk1 hv h5
  refine g_getR (ci := 5) (k := 1) F hH rfl (by decide) iX5 h5 (by decide) rfl (b := gh 25 0) r_5a k15 dX5_addToken_11 ?_
  refine lv_aload_n F.1 F.2.1 dX5_addToken_14 rfl (lv_at hl 0 rfl) ?_
  refine g_getI (ci := 5) (k := 4) F hH rfl (by decide) iX5 h5 (by decide) rfl k25 dX5_addToken_15 ?_
  refine lv_iload_n F.1 F.2.1 dX5_addToken_18 rfl (lv_at hl 2 rfl) ?_
  have hx19 : 0 ≤ ((I a 4).toInt) ∧ ((I a 4).toInt) < ((901 : Nat) : Int) ∧ ((I a 4).toInt) ≤ 2147483647 := ⟨by omega, by omega, by omega⟩
  refine g_iast F hH hS r_5b hx19.1 hx19.2.1 hx19.2.2 dX5_addToken_19 (fun H locs hH hS => ?_)
  obtain ⟨AI_6, eAI_6⟩ : ∃ qQ, qQ = gup2 AI_3 (gh 25 0) (((I a 4).toInt)).toNat (iI (pl)) := ⟨_, rfl⟩
  rw [← eAI_6] at hH
  have kAI_6 : ∀ b, b ≠ (gh 25 0) → AI_6 b = AI_3 b := fun b hb => by rw [eAI_6]; exact funext fun j => gup2_a _ _ hb
  have hv : gInv g gh R AR I AI_6 := gInv_plain hv (hv.2.2.2.2.2.2.1 a h5).2.1.2.2 kAI_6
  have fk : (AI_6 (gh 24 0) (I a 4).toInt.toNat).toInt = kd := by rw [kAI_6 _ (fun q => by have h3 := (hv.2.2.2.2.2.2.1 a h5).1.2.2.2; rw [q, (hv.2.2.2.2.2.2.1 a h5).2.1.2.2] at h3; exact absurd h3 (by decide))]; exact fk
  have f25 : (AI_6 (gh 25 0) (I a 4).toInt.toNat).toInt = pl := by rw [eAI_6, gup2_e _ _ rfl]; exact iI_val zpl
  have f25k : ∀ j : Nat, j ≠ (I a 4).toInt.toNat → AI_6 (gh 25 0) j = AI (gh 25 0) j := fun j hj => by rw [eAI_6, gup2_k _ _ hj]; exact congrFun f25o j
  have f24 : (AI_6 (gh 24 0) (I a 4).toInt.toNat).toInt = kd := by rw [kAI_6 _ (tk_ne hv h5).1]; exact f24
  have f24k : ∀ j : Nat, j ≠ (I a 4).toInt.toNat → AI_6 (gh 24 0) j = AI (gh 24 0) j := fun j hj => by rw [kAI_6 _ (tk_ne hv h5).1]; exact f24k j hj
  have f26o : AI_6 (gh 26 0) = AI (gh 26 0) := (kAI_6 _ (tk_ne hv h5).2.2.2.2.2).trans f26o
  have fo : ∀ q, q ≠ gh 24 0 → q ≠ gh 25 0 → q ≠ gh 26 0 → AI_6 q = AI q := fun q h1 h2 h3 => (kAI_6 q h2).trans (fo q h1 h2 h3)
  refine lv_aload_n F.1 F.2.1 dX5_addToken_20 rfl (lv_at hl 0 rfl) ?_
  obtain ⟨r_8a, r_8b⟩ := gR_tk2 hv h5
  refine g_getR (ci := 5) (k := 2) F hH rfl (by decide) iX5 h5 (by decide) rfl (b := gh 26 0) r_8a k18 dX5_addToken_21 ?_
  refine lv_aload_n F.1 F.2.1 dX5_addToken_24 rfl (lv_at hl 0 rfl) ?_
  refine g_getI (ci := 5) (k := 4) F hH rfl (by decide) iX5 h5 (by decide) rfl k25 dX5_addToken_25 ?_
  refine lv_iload_n F.1 F.2.1 dX5_addToken_28 rfl (lv_at hl 3 rfl) ?_
  have hx29 : 0 ≤ ((I a 4).toInt) ∧ ((I a 4).toInt) < ((901 : Nat) : Int) ∧ ((I a 4).toInt) ≤ 2147483647 := ⟨by omega, by omega, by omega⟩
  refine g_iast F hH hS r_8b hx29.1 hx29.2.1 hx29.2.2 dX5_addToken_29 (fun H locs hH hS => ?_)
  obtain ⟨AI_9, eAI_9⟩ : ∃ qQ, qQ = gup2 AI_6 (gh 26 0) (((I a 4).toInt)).toNat (iI (val)) := ⟨_, rfl⟩
  rw [← eAI_9] at hH
  have kAI_9 : ∀ b, b ≠ (gh 26 0) → AI_9 b = AI_6 b := fun b hb => by rw [eAI_9]; exact funext fun j => gup2_a _ _ hb
  have hv : gInv g gh R AR I AI_9 := gInv_tokW hv h5 (Or.inr ⟨(hv.2.2.2.2.2.2.1 a h5).2.2.1.2.2, rfl⟩) kAI_9 rfl (fun j hj => by rw [eAI_9]; exact gup2_k _ _ hj)
  have fk : (AI_9 (gh 24 0) (I a 4).toInt.toNat).toInt = kd := by rw [kAI_9 _ (fun q => by have h3 := (hv.2.2.2.2.2.2.1 a h5).1.2.2.2; rw [q, (hv.2.2.2.2.2.2.1 a h5).2.2.1.2.2] at h3; exact absurd h3 (by decide))]; exact fk
  have fv : (AI_9 (gh 26 0) (I a 4).toInt.toNat).toInt = val := by rw [eAI_9, gup2_e _ _ rfl]; exact iI_val zval
  have f26 : (AI_9 (gh 26 0) (I a 4).toInt.toNat).toInt = val := by rw [eAI_9, gup2_e _ _ rfl]; exact iI_val zval
  have f26k : ∀ j : Nat, j ≠ (I a 4).toInt.toNat → AI_9 (gh 26 0) j = AI (gh 26 0) j := fun j hj => by rw [eAI_9, gup2_k _ _ hj]; exact congrFun f26o j
  have f24 : (AI_9 (gh 24 0) (I a 4).toInt.toNat).toInt = kd := by rw [kAI_9 _ (tk_ne hv h5).2.2.1]; exact f24
  have f24k : ∀ j : Nat, j ≠ (I a 4).toInt.toNat → AI_9 (gh 24 0) j = AI (gh 24 0) j := fun j hj => by rw [kAI_9 _ (tk_ne hv h5).2.2.1]; exact f24k j hj
  have f25 : (AI_9 (gh 25 0) (I a 4).toInt.toNat).toInt = pl := by rw [kAI_9 _ (tk_ne hv h5).2.2.2.2.1]; exact f25
  have f25k : ∀ j : Nat, j ≠ (I a 4).toInt.toNat → AI_9 (gh 25 0) j = AI (gh 25 0) j := fun j hj => by rw [kAI_9 _ (tk_ne hv h5).2.2.2.2.1]; exact f25k j hj
  have fo : ∀ q, q ≠ gh 24 0 → q ≠ gh 25 0 → q ≠ gh 26 0 → AI_9 q = AI q := fun q h1 h2 h3 => (kAI_9 q h3).trans (fo q h1 h2 h3)
  refine lv_aload_n F.1 F.2.1 dX5_addToken_30 rfl (lv_at hl 0 rfl) ?_
  obtain ⟨r_11a, r_11b⟩ := gR_tk3 hv h5
  refine g_getR (ci := 5) (k := 3) F hH rfl (by decide) iX5 h5 (by decide) rfl (b := gh 27 0) r_11a k21 dX5_addToken_31 ?_
  refine lv_aload_n F.1 F.2.1 dX5_addToken_34 rfl (lv_at hl 0 rfl) ?_
  refine g_getI (ci := 5) (k := 4) F hH rfl (by decide) iX5 h5 (by decide) rfl k25 dX5_addToken_35 ?_
  refine lv_lload F.1 F.2.1 dX5_addToken_38 (lv_at hl 4 rfl) ?_
  have hx40 : 0 ≤ ((I a 4).toInt) ∧ ((I a 4).toInt) < ((901 : Nat) : Int) ∧ ((I a 4).toInt) ≤ 2147483647 := ⟨by omega, by omega, by omega⟩
  refine g_last F hH hS r_11b hx40.1 hx40.2.1 hx40.2.2 dX5_addToken_40 (fun H locs hH hS => ?_)
  obtain ⟨AJ_12, eAJ_12⟩ : ∃ qQ, qQ = gup2 AJ (gh 27 0) (((I a 4).toInt)).toNat (nm) := ⟨_, rfl⟩
  rw [← eAJ_12] at hH
  have kAJ_12 : ∀ b, b ≠ (gh 27 0) → AJ_12 b = AJ b := fun b hb => by rw [eAJ_12]; exact funext fun j => gup2_a _ _ hb
  have f27 : AJ_12 (gh 27 0) (I a 4).toInt.toNat = nm := by rw [eAJ_12, gup2_e _ _ rfl]
  have f27k : ∀ j : Nat, j ≠ (I a 4).toInt.toNat → AJ_12 (gh 27 0) j = AJ (gh 27 0) j := fun j hj => by rw [eAJ_12, gup2_k _ _ hj]
  refine lv_aload_n F.1 F.2.1 dX5_addToken_41 rfl (lv_at hl 0 rfl) ?_
  refine lv_dup F.1 F.2.1 dX5_addToken_42 rfl ?_
  refine g_getI (ci := 5) (k := 4) F hH rfl (by decide) iX5 h5 (by decide) rfl k25 dX5_addToken_43 ?_
  refine z_iconst F dX5_addToken_46 ?_
  refine z_iadd F dX5_addToken_47 ?_
  refine g_putI (ci := 5) (k := 4) F hH hS rfl (by decide) iX5 h5 (by decide) tyX5 tyX5_ok nmX5 rfl rfl rfl k25 dX5_addToken_48 (fun H locs hH hS => ?_)
  obtain ⟨I_13, eI_13⟩ : ∃ qQ, qQ = gup2 I a 4 (iI (((I a 4).toInt) + 1)) := ⟨_, rfl⟩
  rw [← eI_13] at hH
  have kI_13 : ∀ b, b ≠ a → I_13 b = I b := fun b hb => by rw [eI_13]; exact funext fun j => gup2_a _ _ hb
  have e4 : (I_13 a 4).toInt = (I a 4).toInt + 1 := by rw [eI_13, gup2_s]; exact iI_val ⟨by omega, by omega⟩
  have hv : gInv g gh R AR I_13 AI_9 := by
    rw [eI_13]
    refine gInv_tokLen hv h5 (by omega) (by omega) (fun j hj hk => ?_)
    by_cases hq : (j : Int) < (I a 4).toInt
    · exact (hv.2.2.2.2.2.2.1 a h5).2.2.2.2.2 j hq hk
    · have ej : j = (I a 4).toInt.toNat := by omega
      rw [ej] at hk ⊢; rw [fk] at hk; rw [fv]; exact hc hk
  exact g_vret F hr hlk hH hS hz ⟨rfl, rfl, rfl, hv, fun b hb => kI_13 b hb, e4, fo, fun j hj => ⟨f24k j hj, f25k j hj, f26k j hj, f27k j hj⟩, ⟨f24, f25, f26, f27⟩⟩ dX5_addToken_51

def rmX5_readRunf : Room := { frames := 6, cells := 0, slots := 0, locals := 134 }
set_option maxHeartbeats 4000000 in
set_option maxRecDepth 100000 in
/-- a run of letters and digits -/
theorem c_X5_readRunf (l : Launch) (g : gG) (gh : gGh) (b : tTx) (I : gI) (R : gR) (J : gJ) (AI : gI) (AJ : gJ) (AR : gR) (a : Nat) (t : Nat) (fr : Int) (to_ : Int) (zfr : zr fr) (zto_ : zr to_) (hv : gInv g gh R AR I AI) (h5 : gO g a 5) (hl9 : (I a 4).toInt ≤ 900) (ht : gAr g t 8 936) (hb : ∀ k : Nat, (AI t k).toInt = b k) (h0 : 0 ≤ fr) (h1 : fr ≤ to_) (h2 : to_ ≤ 936) (h6 : fr < to_) : gMet l g yX5_readRun wsX5_readRun rmX5_readRunf [.ref a, .ref t, .int (iI fr), .int (iI to_)] (I, R, J, AI, AJ, AR) (gQv g (fun w : gS => R = w.2.1 ∧ J = w.2.2.1 ∧ AR = w.2.2.2.2.2 ∧ (gInv g gh R AR (w.1) (w.2.2.2.1)) ∧ (∀ b, b ≠ a → (w.1) b = I b) ∧ (((w.1) a 4).toInt = (I a 4).toInt + 1) ∧ (∀ q, q ≠ gh 24 0 → q ≠ gh 25 0 → q ≠ gh 26 0 → (w.2.2.2.1) q = AI q) ∧ (∀ j : Nat, j ≠ (I a 4).toInt.toNat → (w.2.2.2.1) (gh 24 0) j = AI (gh 24 0) j ∧ (w.2.2.2.1) (gh 25 0) j = AI (gh 25 0) j ∧ (w.2.2.2.1) (gh 26 0) j = AI (gh 26 0) j ∧ (w.2.2.2.2.1) (gh 27 0) j = AJ (gh 27 0) j) ∧ (tAt gh (w.2.2.2.1) (w.2.2.2.2.1) (I a 4).toInt.toNat (tKr b fr.toNat (to_ - fr).toNat) fr (tVr b fr.toNat (to_ - fr).toNat) (if tKr b fr.toNat (to_ - fr).toNat = 3 then tNm b fr.toNat (to_ - fr).toNat else 0)))) := by
  refine gStart (cc := cX5_readRun) (maxL := 6) (ret := none) (by decide) rfl (Nat.le_of_ble_eq_true rfl) ?_
  intro p e s m below meth c ls F hr hlk hH hz hS hl
  have hl : lv_has ls 6 [(0, .ref a), (1, .ref t), (2, .int (iI fr)), (3, .int (iI to_))] := hl
  have hS : va_S (gA g) s.heap s.heap [] := hS
  obtain ⟨H, hHe⟩ : ∃ H : Heap, H = s.heap := ⟨_, rfl⟩
  obtain ⟨locs, hlo⟩ : ∃ k : List Loc, k = [] := ⟨_, rfl⟩
  have hH : gH g I R J AI AJ AR H := by rw [hHe]; exact hH
  have hS : va_S (gA g) s.heap H locs := by rw [hHe, hlo]; exact hS
  suffices hw : W p l e rmX5_readRunf s m ([.ref a, .ref t, .int (iI fr), .int (iI to_)] : List Value).toArray below meth c H locs 0 0 (MQ below (gQv g (fun w : gS => R = w.2.1 ∧ J = w.2.2.1 ∧ AR = w.2.2.2.2.2 ∧ (gInv g gh R AR (w.1) (w.2.2.2.1)) ∧ (∀ b, b ≠ a → (w.1) b = I b) ∧ (((w.1) a 4).toInt = (I a 4).toInt + 1) ∧ (∀ q, q ≠ gh 24 0 → q ≠ gh 25 0 → q ≠ gh 26 0 → (w.2.2.2.1) q = AI q) ∧ (∀ j : Nat, j ≠ (I a 4).toInt.toNat → (w.2.2.2.1) (gh 24 0) j = AI (gh 24 0) j ∧ (w.2.2.2.1) (gh 25 0) j = AI (gh 25 0) j ∧ (w.2.2.2.1) (gh 26 0) j = AI (gh 26 0) j ∧ (w.2.2.2.2.1) (gh 27 0) j = AJ (gh 27 0) j) ∧ (tAt gh (w.2.2.2.1) (w.2.2.2.2.1) (I a 4).toInt.toNat (tKr b fr.toNat (to_ - fr).toNat) fr (tVr b fr.toNat (to_ - fr).toNat) (if tKr b fr.toNat (to_ - fr).toNat = 3 then tNm b fr.toNat (to_ - fr).toNat else 0)))) ([.ref a, .ref t, .int (iI fr), .int (iI to_)] : List Value).toArray s 0 0 (gA g)) (F0 m 0 ls []) by
    rw [hHe, hlo] at hw; exact hw
  clear hHe hlo
  refine z_iconst F dX5_readRun_0 ?_
  refine lv_istore (lv' := [(4, .int (iI 0)), (0, .ref a), (1, .ref t), (2, .int (iI fr)), (3, .int (iI to_))]) F.1 F.2.1 dX5_readRun_1 hl (by decide) rfl (fun ls hl => ?_)
  refine lv_iload_n F.1 F.2.1 dX5_readRun_3 rfl (lv_at hl 3 rfl) ?_
  refine lv_istore (lv' := [(5, .int (iI fr)), (4, .int (iI 0)), (0, .ref a), (1, .ref t), (2, .int (iI fr)), (3, .int (iI to_))]) F.1 F.2.1 dX5_readRun_4 hl (by decide) rfl (fun ls hl => ?_)
  have cut_6_0 : ∀ (NN : Nat) (dg i : Int) (H : Heap) (locs : List Loc) (ls : Array Slot), zr dg → zr i → (fr ≤ i ∧ i ≤ to_ ∧ 0 ≤ dg ∧ dg ≤ i - fr) → (dg = (tDc b fr.toNat (i - fr).toNat : Int)) → (to_ - i) < ((NN : Nat) : Int) → gH g I R J AI AJ AR H → va_S (gA g) s.heap H locs → lv_has ls 6 [(5, .int (iI i)), (4, .int (iI dg)), (0, .ref a), (1, .ref t), (2, .int (iI fr)), (3, .int (iI to_))] → W p l e rmX5_readRunf s m ([.ref a, .ref t, .int (iI fr), .int (iI to_)] : List Value).toArray below meth c H locs 0 0 (MQ below (gQv g (fun w : gS => R = w.2.1 ∧ J = w.2.2.1 ∧ AR = w.2.2.2.2.2 ∧ (gInv g gh R AR (w.1) (w.2.2.2.1)) ∧ (∀ b, b ≠ a → (w.1) b = I b) ∧ (((w.1) a 4).toInt = (I a 4).toInt + 1) ∧ (∀ q, q ≠ gh 24 0 → q ≠ gh 25 0 → q ≠ gh 26 0 → (w.2.2.2.1) q = AI q) ∧ (∀ j : Nat, j ≠ (I a 4).toInt.toNat → (w.2.2.2.1) (gh 24 0) j = AI (gh 24 0) j ∧ (w.2.2.2.1) (gh 25 0) j = AI (gh 25 0) j ∧ (w.2.2.2.1) (gh 26 0) j = AI (gh 26 0) j ∧ (w.2.2.2.2.1) (gh 27 0) j = AJ (gh 27 0) j) ∧ (tAt gh (w.2.2.2.1) (w.2.2.2.2.1) (I a 4).toInt.toNat (tKr b fr.toNat (to_ - fr).toNat) fr (tVr b fr.toNat (to_ - fr).toNat) (if tKr b fr.toNat (to_ - fr).toNat = 3 then tNm b fr.toNat (to_ - fr).toNat else 0)))) ([.ref a, .ref t, .int (iI fr), .int (iI to_)] : List Value).toArray s 0 0 (gA g)) (F0 m 6 ls []) := by
    intro NN6
    induction NN6 with
    | zero =>
      intro dg i H locs ls zdg zi hi hd hm6 hH hS hl
      exact absurd hm6 (by omega)
    | succ NN6 ih6 =>
      intro dg i H locs ls zdg zi hi hd hm6 hH hS hl
      refine lv_iload F.1 F.2.1 dX5_readRun_6 (lv_at hl 0 rfl) ?_
      refine lv_iload_n F.1 F.2.1 dX5_readRun_8 rfl (lv_at hl 5 rfl) ?_
      refine z_icmp_ge (tgt := 38) F dX5_readRun_9 (by decide) zi zto_ (fun c_2 => ?_) (fun c_2 => ?_)
      · have hdt : dg = (tDc b fr.toNat (to_ - fr).toNat : Int) := by rw [hd, show i = to_ by omega]
        refine lv_iload_n F.1 F.2.1 dX5_readRun_38 rfl (lv_at hl 5 rfl) ?_
        refine lv_iload_n F.1 F.2.1 dX5_readRun_39 rfl (lv_at hl 4 rfl) ?_
        refine z_isub F dX5_readRun_40 ?_
        refine lv_istore (lv' := [(5, .int (iI (to_ - fr))), (4, .int (iI dg)), (0, .ref a), (1, .ref t), (2, .int (iI fr)), (3, .int (iI to_))]) F.1 F.2.1 dX5_readRun_41 hl (by decide) rfl (fun ls hl => ?_)
        refine lv_iload F.1 F.2.1 dX5_readRun_43 (lv_at hl 1 rfl) ?_
        refine z_if_ne (tgt := 76) F dX5_readRun_45 (by decide) zdg (fun c_3 => ?_) (fun c_3 => ?_)
        · refine lv_iload F.1 F.2.1 dX5_readRun_76 (lv_at hl 1 rfl) ?_
          refine lv_iload F.1 F.2.1 dX5_readRun_78 (lv_at hl 0 rfl) ?_
          refine z_icmp_ne (tgt := 105) F dX5_readRun_80 (by decide) zdg ⟨by omega, by omega⟩ (fun c_4 => ?_) (fun c_4 => ?_)
          · refine lv_iload F.1 F.2.1 dX5_readRun_105 (lv_at hl 0 rfl) ?_
            refine z_iconst F dX5_readRun_107 ?_
            refine z_icmp_ne (tgt := 157) F dX5_readRun_108 (by decide) ⟨by omega, by omega⟩ ⟨by decide, by decide⟩ (fun c_5 => ?_) (fun c_5 => ?_)
            · refine lv_aload_n F.1 F.2.1 dX5_readRun_157 rfl (lv_at hl 2 rfl) ?_
              refine z_iconst F dX5_readRun_158 ?_
              refine lv_iload_n F.1 F.2.1 dX5_readRun_159 rfl (lv_at hl 4 rfl) ?_
              refine z_iconst F dX5_readRun_160 ?_
              refine lv_lconst (v := 0) F.1 F.2.1 dX5_readRun_161 (by decide) ?_
              have b_7 := gI_tk hv h5
              refine g_callv (g_runV (As := [.int (iI 1), .int (iI fr), .int (iI 0), .long 0]) (rest := []) (ci := 5) F hl.1 hH hS hz (c_X5_addTokenf l g gh I R J AI AJ AR a 1 fr 0 0 ⟨by decide, by decide⟩ zfr ⟨by decide, by decide⟩ hv h5 (by omega) (by omega)) (cwV 4 F.2.2.2.2.1 gX5_readRun_X5_addToken rfl rfl rfl hdX5_addToken ⟨Nat.le_of_ble_eq_true rfl, Nat.le_of_ble_eq_true rfl⟩) h5 (by decide) rfl rfl rfl (Nat.le_of_ble_eq_true rfl) dX5_readRun_162 ⟨Nat.zero_le _, Nat.zero_le _⟩) hS (fun I_8 R_9 J_10 AI_11 AJ_12 AR_13 H locs hp_14 hH hS => ?_)
              dsimp only at hp_14
              obtain ⟨rfl, rfl, rfl, hv, q_15, q_16, qfo, qot, qat⟩ := hp_14
              have qat2 := tR_1 (b := b) (k := fr.toNat) (m := (to_ - fr).toNat) qat (by omega)
              exact g_vret F hr hlk hH hS hz ⟨rfl, rfl, rfl, hv, fun b hb => q_15 b hb, by first | omega | rfl | (dsimp only; omega), qfo, qot, qat2⟩ dX5_readRun_165
            · refine lv_aload_n F.1 F.2.1 dX5_readRun_111 rfl (lv_at hl 3 rfl) ?_
              refine lv_iload_n F.1 F.2.1 dX5_readRun_112 rfl (lv_at hl 4 rfl) ?_
              have hx113 : 0 ≤ fr ∧ fr < ((936 : Nat) : Int) ∧ fr ≤ 2147483647 := ⟨by omega, by omega, by omega⟩
              refine g_bald F hH ht hx113.1 hx113.2.1 hx113.2.2 dX5_readRun_113 ?_
              refine z_name (fun v_17 ev_17 => ?_)
              have zv_17 : zr v_17 := by rw [ev_17]; exact zr_t _
              have t113 : v_17 = b fr.toNat := by rw [ev_17]; exact hb _
              refine z_bipush F dX5_readRun_114 (by decide) ?_
              refine z_icmp_ne (tgt := 157) F dX5_readRun_116 (by decide) zv_17 ⟨by decide, by decide⟩ (fun c_18 => ?_) (fun c_18 => ?_)
              · refine lv_aload_n F.1 F.2.1 dX5_readRun_157 rfl (lv_at hl 2 rfl) ?_
                refine z_iconst F dX5_readRun_158 ?_
                refine lv_iload_n F.1 F.2.1 dX5_readRun_159 rfl (lv_at hl 4 rfl) ?_
                refine z_iconst F dX5_readRun_160 ?_
                refine lv_lconst (v := 0) F.1 F.2.1 dX5_readRun_161 (by decide) ?_
                have b_20 := gI_tk hv h5
                refine g_callv (g_runV (As := [.int (iI 1), .int (iI fr), .int (iI 0), .long 0]) (rest := []) (ci := 5) F hl.1 hH hS hz (c_X5_addTokenf l g gh I R J AI AJ AR a 1 fr 0 0 ⟨by decide, by decide⟩ zfr ⟨by decide, by decide⟩ hv h5 (by omega) (by omega)) (cwV 4 F.2.2.2.2.1 gX5_readRun_X5_addToken rfl rfl rfl hdX5_addToken ⟨Nat.le_of_ble_eq_true rfl, Nat.le_of_ble_eq_true rfl⟩) h5 (by decide) rfl rfl rfl (Nat.le_of_ble_eq_true rfl) dX5_readRun_162 ⟨Nat.zero_le _, Nat.zero_le _⟩) hS (fun I_21 R_22 J_23 AI_24 AJ_25 AR_26 H locs hp_27 hH hS => ?_)
                dsimp only at hp_27
                obtain ⟨rfl, rfl, rfl, hv, q_28, q_29, qfo, qot, qat⟩ := hp_27
                have qat2 := tR_1 (b := b) (k := fr.toNat) (m := (to_ - fr).toNat) qat (by omega)
                exact g_vret F hr hlk hH hS hz ⟨rfl, rfl, rfl, hv, fun b hb => q_28 b hb, by first | omega | rfl | (dsimp only; omega), qfo, qot, qat2⟩ dX5_readRun_165
              · refine lv_aload_n F.1 F.2.1 dX5_readRun_119 rfl (lv_at hl 3 rfl) ?_
                refine lv_iload_n F.1 F.2.1 dX5_readRun_120 rfl (lv_at hl 4 rfl) ?_
                refine z_iconst F dX5_readRun_121 ?_
                refine z_iadd F dX5_readRun_122 ?_
                have hx123 : 0 ≤ (fr + 1) ∧ (fr + 1) < ((936 : Nat) : Int) ∧ (fr + 1) ≤ 2147483647 := ⟨by omega, by omega, by omega⟩
                refine g_bald F hH ht hx123.1 hx123.2.1 hx123.2.2 dX5_readRun_123 ?_
                refine z_name (fun v_30 ev_30 => ?_)
                have zv_30 : zr v_30 := by rw [ev_30]; exact zr_t _
                have t123 : v_30 = b (fr.toNat + 1) := by rw [ev_30, show (fr + 1).toNat = fr.toNat + 1 by omega]; exact hb _
                refine z_bipush F dX5_readRun_124 (by decide) ?_
                refine z_icmp_lt (tgt := 157) F dX5_readRun_126 (by decide) zv_30 ⟨by decide, by decide⟩ (fun c_31 => ?_) (fun c_31 => ?_)
                · refine lv_aload_n F.1 F.2.1 dX5_readRun_157 rfl (lv_at hl 2 rfl) ?_
                  refine z_iconst F dX5_readRun_158 ?_
                  refine lv_iload_n F.1 F.2.1 dX5_readRun_159 rfl (lv_at hl 4 rfl) ?_
                  refine z_iconst F dX5_readRun_160 ?_
                  refine lv_lconst (v := 0) F.1 F.2.1 dX5_readRun_161 (by decide) ?_
                  have b_33 := gI_tk hv h5
                  refine g_callv (g_runV (As := [.int (iI 1), .int (iI fr), .int (iI 0), .long 0]) (rest := []) (ci := 5) F hl.1 hH hS hz (c_X5_addTokenf l g gh I R J AI AJ AR a 1 fr 0 0 ⟨by decide, by decide⟩ zfr ⟨by decide, by decide⟩ hv h5 (by omega) (by omega)) (cwV 4 F.2.2.2.2.1 gX5_readRun_X5_addToken rfl rfl rfl hdX5_addToken ⟨Nat.le_of_ble_eq_true rfl, Nat.le_of_ble_eq_true rfl⟩) h5 (by decide) rfl rfl rfl (Nat.le_of_ble_eq_true rfl) dX5_readRun_162 ⟨Nat.zero_le _, Nat.zero_le _⟩) hS (fun I_34 R_35 J_36 AI_37 AJ_38 AR_39 H locs hp_40 hH hS => ?_)
                  dsimp only at hp_40
                  obtain ⟨rfl, rfl, rfl, hv, q_41, q_42, qfo, qot, qat⟩ := hp_40
                  have qat2 := tR_1 (b := b) (k := fr.toNat) (m := (to_ - fr).toNat) qat (by omega)
                  exact g_vret F hr hlk hH hS hz ⟨rfl, rfl, rfl, hv, fun b hb => q_41 b hb, by first | omega | rfl | (dsimp only; omega), qfo, qot, qat2⟩ dX5_readRun_165
                · refine lv_aload_n F.1 F.2.1 dX5_readRun_129 rfl (lv_at hl 3 rfl) ?_
                  refine lv_iload_n F.1 F.2.1 dX5_readRun_130 rfl (lv_at hl 4 rfl) ?_
                  refine z_iconst F dX5_readRun_131 ?_
                  refine z_iadd F dX5_readRun_132 ?_
                  have hx133 : 0 ≤ (fr + 1) ∧ (fr + 1) < ((936 : Nat) : Int) ∧ (fr + 1) ≤ 2147483647 := ⟨by omega, by omega, by omega⟩
                  refine g_bald F hH ht hx133.1 hx133.2.1 hx133.2.2 dX5_readRun_133 ?_
                  refine z_name (fun v_43 ev_43 => ?_)
                  have zv_43 : zr v_43 := by rw [ev_43]; exact zr_t _
                  have t133 : v_43 = b (fr.toNat + 1) := by rw [ev_43, show (fr + 1).toNat = fr.toNat + 1 by omega]; exact hb _
                  refine z_bipush F dX5_readRun_134 (by decide) ?_
                  refine z_icmp_gt (tgt := 157) F dX5_readRun_136 (by decide) zv_43 ⟨by decide, by decide⟩ (fun c_44 => ?_) (fun c_44 => ?_)
                  · refine lv_aload_n F.1 F.2.1 dX5_readRun_157 rfl (lv_at hl 2 rfl) ?_
                    refine z_iconst F dX5_readRun_158 ?_
                    refine lv_iload_n F.1 F.2.1 dX5_readRun_159 rfl (lv_at hl 4 rfl) ?_
                    refine z_iconst F dX5_readRun_160 ?_
                    refine lv_lconst (v := 0) F.1 F.2.1 dX5_readRun_161 (by decide) ?_
                    have b_46 := gI_tk hv h5
                    refine g_callv (g_runV (As := [.int (iI 1), .int (iI fr), .int (iI 0), .long 0]) (rest := []) (ci := 5) F hl.1 hH hS hz (c_X5_addTokenf l g gh I R J AI AJ AR a 1 fr 0 0 ⟨by decide, by decide⟩ zfr ⟨by decide, by decide⟩ hv h5 (by omega) (by omega)) (cwV 4 F.2.2.2.2.1 gX5_readRun_X5_addToken rfl rfl rfl hdX5_addToken ⟨Nat.le_of_ble_eq_true rfl, Nat.le_of_ble_eq_true rfl⟩) h5 (by decide) rfl rfl rfl (Nat.le_of_ble_eq_true rfl) dX5_readRun_162 ⟨Nat.zero_le _, Nat.zero_le _⟩) hS (fun I_47 R_48 J_49 AI_50 AJ_51 AR_52 H locs hp_53 hH hS => ?_)
                    dsimp only at hp_53
                    obtain ⟨rfl, rfl, rfl, hv, q_54, q_55, qfo, qot, qat⟩ := hp_53
                    have qat2 := tR_1 (b := b) (k := fr.toNat) (m := (to_ - fr).toNat) qat (by omega)
                    exact g_vret F hr hlk hH hS hz ⟨rfl, rfl, rfl, hv, fun b hb => q_54 b hb, by first | omega | rfl | (dsimp only; omega), qfo, qot, qat2⟩ dX5_readRun_165
                  · refine lv_aload_n F.1 F.2.1 dX5_readRun_139 rfl (lv_at hl 2 rfl) ?_
                    refine z_iconst F dX5_readRun_140 ?_
                    refine lv_iload_n F.1 F.2.1 dX5_readRun_141 rfl (lv_at hl 4 rfl) ?_
                    refine lv_aload_n F.1 F.2.1 dX5_readRun_142 rfl (lv_at hl 3 rfl) ?_
                    refine lv_iload_n F.1 F.2.1 dX5_readRun_143 rfl (lv_at hl 4 rfl) ?_
                    refine z_iconst F dX5_readRun_144 ?_
                    refine z_iadd F dX5_readRun_145 ?_
                    have hx146 : 0 ≤ (fr + 1) ∧ (fr + 1) < ((936 : Nat) : Int) ∧ (fr + 1) ≤ 2147483647 := ⟨by omega, by omega, by omega⟩
                    refine g_bald F hH ht hx146.1 hx146.2.1 hx146.2.2 dX5_readRun_146 ?_
                    refine z_name (fun v_56 ev_56 => ?_)
                    have zv_56 : zr v_56 := by rw [ev_56]; exact zr_t _
                    have t146 : v_56 = b (fr.toNat + 1) := by rw [ev_56, show (fr + 1).toNat = fr.toNat + 1 by omega]; exact hb _
                    refine z_bipush F dX5_readRun_147 (by decide) ?_
                    refine z_isub F dX5_readRun_149 ?_
                    refine lv_lconst (v := 0) F.1 F.2.1 dX5_readRun_150 (by decide) ?_
                    have b_58 := gI_tk hv h5
                    refine g_callv (g_runV (As := [.int (iI 2), .int (iI fr), .int (iI (v_56 - 48)), .long 0]) (rest := []) (ci := 5) F hl.1 hH hS hz (c_X5_addTokenf l g gh I R J AI AJ AR a 2 fr (v_56 - 48) 0 ⟨by decide, by decide⟩ zfr ⟨by omega, by omega⟩ hv h5 (by omega) (by omega)) (cwV 4 F.2.2.2.2.1 gX5_readRun_X5_addToken rfl rfl rfl hdX5_addToken ⟨Nat.le_of_ble_eq_true rfl, Nat.le_of_ble_eq_true rfl⟩) h5 (by decide) rfl rfl rfl (Nat.le_of_ble_eq_true rfl) dX5_readRun_151 ⟨Nat.zero_le _, Nat.zero_le _⟩) hS (fun I_59 R_60 J_61 AI_62 AJ_63 AR_64 H locs hp_65 hH hS => ?_)
                    dsimp only at hp_65
                    obtain ⟨rfl, rfl, rfl, hv, q_66, q_67, qfo, qot, qat⟩ := hp_65
                    have qat2 := tR_2 (by rw [t146] at qat; exact qat) hdt (by omega) (by omega) (by omega) (by omega) (by omega)
                    refine z_goto (tgt := 165) F dX5_readRun_154 (by decide) ?_
                    exact g_vret F hr hlk hH hS hz ⟨rfl, rfl, rfl, hv, fun b hb => q_66 b hb, by first | omega | rfl | (dsimp only; omega), qfo, qot, qat2⟩ dX5_readRun_165
          · refine lv_iload F.1 F.2.1 dX5_readRun_83 (lv_at hl 0 rfl) ?_
            refine z_iconst F dX5_readRun_85 ?_
            refine z_icmp_gt (tgt := 105) F dX5_readRun_86 (by decide) ⟨by omega, by omega⟩ ⟨by decide, by decide⟩ (fun c_68 => ?_) (fun c_68 => ?_)
            · refine lv_iload F.1 F.2.1 dX5_readRun_105 (lv_at hl 0 rfl) ?_
              refine z_iconst F dX5_readRun_107 ?_
              refine z_icmp_ne (tgt := 157) F dX5_readRun_108 (by decide) ⟨by omega, by omega⟩ ⟨by decide, by decide⟩ (fun c_69 => ?_) (fun c_69 => ?_)
              · refine lv_aload_n F.1 F.2.1 dX5_readRun_157 rfl (lv_at hl 2 rfl) ?_
                refine z_iconst F dX5_readRun_158 ?_
                refine lv_iload_n F.1 F.2.1 dX5_readRun_159 rfl (lv_at hl 4 rfl) ?_
                refine z_iconst F dX5_readRun_160 ?_
                refine lv_lconst (v := 0) F.1 F.2.1 dX5_readRun_161 (by decide) ?_
                have b_71 := gI_tk hv h5
                refine g_callv (g_runV (As := [.int (iI 1), .int (iI fr), .int (iI 0), .long 0]) (rest := []) (ci := 5) F hl.1 hH hS hz (c_X5_addTokenf l g gh I R J AI AJ AR a 1 fr 0 0 ⟨by decide, by decide⟩ zfr ⟨by decide, by decide⟩ hv h5 (by omega) (by omega)) (cwV 4 F.2.2.2.2.1 gX5_readRun_X5_addToken rfl rfl rfl hdX5_addToken ⟨Nat.le_of_ble_eq_true rfl, Nat.le_of_ble_eq_true rfl⟩) h5 (by decide) rfl rfl rfl (Nat.le_of_ble_eq_true rfl) dX5_readRun_162 ⟨Nat.zero_le _, Nat.zero_le _⟩) hS (fun I_72 R_73 J_74 AI_75 AJ_76 AR_77 H locs hp_78 hH hS => ?_)
                dsimp only at hp_78
                obtain ⟨rfl, rfl, rfl, hv, q_79, q_80, qfo, qot, qat⟩ := hp_78
                have qat2 := tR_1 (b := b) (k := fr.toNat) (m := (to_ - fr).toNat) qat (by omega)
                exact g_vret F hr hlk hH hS hz ⟨rfl, rfl, rfl, hv, fun b hb => q_79 b hb, by first | omega | rfl | (dsimp only; omega), qfo, qot, qat2⟩ dX5_readRun_165
              · refine lv_aload_n F.1 F.2.1 dX5_readRun_111 rfl (lv_at hl 3 rfl) ?_
                refine lv_iload_n F.1 F.2.1 dX5_readRun_112 rfl (lv_at hl 4 rfl) ?_
                have hx113 : 0 ≤ fr ∧ fr < ((936 : Nat) : Int) ∧ fr ≤ 2147483647 := ⟨by omega, by omega, by omega⟩
                refine g_bald F hH ht hx113.1 hx113.2.1 hx113.2.2 dX5_readRun_113 ?_
                refine z_name (fun v_81 ev_81 => ?_)
                have zv_81 : zr v_81 := by rw [ev_81]; exact zr_t _
                have t113 : v_81 = b fr.toNat := by rw [ev_81]; exact hb _
                refine z_bipush F dX5_readRun_114 (by decide) ?_
                refine z_icmp_ne (tgt := 157) F dX5_readRun_116 (by decide) zv_81 ⟨by decide, by decide⟩ (fun c_82 => ?_) (fun c_82 => ?_)
                · refine lv_aload_n F.1 F.2.1 dX5_readRun_157 rfl (lv_at hl 2 rfl) ?_
                  refine z_iconst F dX5_readRun_158 ?_
                  refine lv_iload_n F.1 F.2.1 dX5_readRun_159 rfl (lv_at hl 4 rfl) ?_
                  refine z_iconst F dX5_readRun_160 ?_
                  refine lv_lconst (v := 0) F.1 F.2.1 dX5_readRun_161 (by decide) ?_
                  have b_84 := gI_tk hv h5
                  refine g_callv (g_runV (As := [.int (iI 1), .int (iI fr), .int (iI 0), .long 0]) (rest := []) (ci := 5) F hl.1 hH hS hz (c_X5_addTokenf l g gh I R J AI AJ AR a 1 fr 0 0 ⟨by decide, by decide⟩ zfr ⟨by decide, by decide⟩ hv h5 (by omega) (by omega)) (cwV 4 F.2.2.2.2.1 gX5_readRun_X5_addToken rfl rfl rfl hdX5_addToken ⟨Nat.le_of_ble_eq_true rfl, Nat.le_of_ble_eq_true rfl⟩) h5 (by decide) rfl rfl rfl (Nat.le_of_ble_eq_true rfl) dX5_readRun_162 ⟨Nat.zero_le _, Nat.zero_le _⟩) hS (fun I_85 R_86 J_87 AI_88 AJ_89 AR_90 H locs hp_91 hH hS => ?_)
                  dsimp only at hp_91
                  obtain ⟨rfl, rfl, rfl, hv, q_92, q_93, qfo, qot, qat⟩ := hp_91
                  have qat2 := tR_1 (b := b) (k := fr.toNat) (m := (to_ - fr).toNat) qat (by omega)
                  exact g_vret F hr hlk hH hS hz ⟨rfl, rfl, rfl, hv, fun b hb => q_92 b hb, by first | omega | rfl | (dsimp only; omega), qfo, qot, qat2⟩ dX5_readRun_165
                · refine lv_aload_n F.1 F.2.1 dX5_readRun_119 rfl (lv_at hl 3 rfl) ?_
                  refine lv_iload_n F.1 F.2.1 dX5_readRun_120 rfl (lv_at hl 4 rfl) ?_
                  refine z_iconst F dX5_readRun_121 ?_
                  refine z_iadd F dX5_readRun_122 ?_
                  have hx123 : 0 ≤ (fr + 1) ∧ (fr + 1) < ((936 : Nat) : Int) ∧ (fr + 1) ≤ 2147483647 := ⟨by omega, by omega, by omega⟩
                  refine g_bald F hH ht hx123.1 hx123.2.1 hx123.2.2 dX5_readRun_123 ?_
                  refine z_name (fun v_94 ev_94 => ?_)
                  have zv_94 : zr v_94 := by rw [ev_94]; exact zr_t _
                  have t123 : v_94 = b (fr.toNat + 1) := by rw [ev_94, show (fr + 1).toNat = fr.toNat + 1 by omega]; exact hb _
                  refine z_bipush F dX5_readRun_124 (by decide) ?_
                  refine z_icmp_lt (tgt := 157) F dX5_readRun_126 (by decide) zv_94 ⟨by decide, by decide⟩ (fun c_95 => ?_) (fun c_95 => ?_)
                  · refine lv_aload_n F.1 F.2.1 dX5_readRun_157 rfl (lv_at hl 2 rfl) ?_
                    refine z_iconst F dX5_readRun_158 ?_
                    refine lv_iload_n F.1 F.2.1 dX5_readRun_159 rfl (lv_at hl 4 rfl) ?_
                    refine z_iconst F dX5_readRun_160 ?_
                    refine lv_lconst (v := 0) F.1 F.2.1 dX5_readRun_161 (by decide) ?_
                    have b_97 := gI_tk hv h5
                    refine g_callv (g_runV (As := [.int (iI 1), .int (iI fr), .int (iI 0), .long 0]) (rest := []) (ci := 5) F hl.1 hH hS hz (c_X5_addTokenf l g gh I R J AI AJ AR a 1 fr 0 0 ⟨by decide, by decide⟩ zfr ⟨by decide, by decide⟩ hv h5 (by omega) (by omega)) (cwV 4 F.2.2.2.2.1 gX5_readRun_X5_addToken rfl rfl rfl hdX5_addToken ⟨Nat.le_of_ble_eq_true rfl, Nat.le_of_ble_eq_true rfl⟩) h5 (by decide) rfl rfl rfl (Nat.le_of_ble_eq_true rfl) dX5_readRun_162 ⟨Nat.zero_le _, Nat.zero_le _⟩) hS (fun I_98 R_99 J_100 AI_101 AJ_102 AR_103 H locs hp_104 hH hS => ?_)
                    dsimp only at hp_104
                    obtain ⟨rfl, rfl, rfl, hv, q_105, q_106, qfo, qot, qat⟩ := hp_104
                    have qat2 := tR_1 (b := b) (k := fr.toNat) (m := (to_ - fr).toNat) qat (by omega)
                    exact g_vret F hr hlk hH hS hz ⟨rfl, rfl, rfl, hv, fun b hb => q_105 b hb, by first | omega | rfl | (dsimp only; omega), qfo, qot, qat2⟩ dX5_readRun_165
                  · refine lv_aload_n F.1 F.2.1 dX5_readRun_129 rfl (lv_at hl 3 rfl) ?_
                    refine lv_iload_n F.1 F.2.1 dX5_readRun_130 rfl (lv_at hl 4 rfl) ?_
                    refine z_iconst F dX5_readRun_131 ?_
                    refine z_iadd F dX5_readRun_132 ?_
                    have hx133 : 0 ≤ (fr + 1) ∧ (fr + 1) < ((936 : Nat) : Int) ∧ (fr + 1) ≤ 2147483647 := ⟨by omega, by omega, by omega⟩
                    refine g_bald F hH ht hx133.1 hx133.2.1 hx133.2.2 dX5_readRun_133 ?_
                    refine z_name (fun v_107 ev_107 => ?_)
                    have zv_107 : zr v_107 := by rw [ev_107]; exact zr_t _
                    have t133 : v_107 = b (fr.toNat + 1) := by rw [ev_107, show (fr + 1).toNat = fr.toNat + 1 by omega]; exact hb _
                    refine z_bipush F dX5_readRun_134 (by decide) ?_
                    refine z_icmp_gt (tgt := 157) F dX5_readRun_136 (by decide) zv_107 ⟨by decide, by decide⟩ (fun c_108 => ?_) (fun c_108 => ?_)
                    · refine lv_aload_n F.1 F.2.1 dX5_readRun_157 rfl (lv_at hl 2 rfl) ?_
                      refine z_iconst F dX5_readRun_158 ?_
                      refine lv_iload_n F.1 F.2.1 dX5_readRun_159 rfl (lv_at hl 4 rfl) ?_
                      refine z_iconst F dX5_readRun_160 ?_
                      refine lv_lconst (v := 0) F.1 F.2.1 dX5_readRun_161 (by decide) ?_
                      have b_110 := gI_tk hv h5
                      refine g_callv (g_runV (As := [.int (iI 1), .int (iI fr), .int (iI 0), .long 0]) (rest := []) (ci := 5) F hl.1 hH hS hz (c_X5_addTokenf l g gh I R J AI AJ AR a 1 fr 0 0 ⟨by decide, by decide⟩ zfr ⟨by decide, by decide⟩ hv h5 (by omega) (by omega)) (cwV 4 F.2.2.2.2.1 gX5_readRun_X5_addToken rfl rfl rfl hdX5_addToken ⟨Nat.le_of_ble_eq_true rfl, Nat.le_of_ble_eq_true rfl⟩) h5 (by decide) rfl rfl rfl (Nat.le_of_ble_eq_true rfl) dX5_readRun_162 ⟨Nat.zero_le _, Nat.zero_le _⟩) hS (fun I_111 R_112 J_113 AI_114 AJ_115 AR_116 H locs hp_117 hH hS => ?_)
                      dsimp only at hp_117
                      obtain ⟨rfl, rfl, rfl, hv, q_118, q_119, qfo, qot, qat⟩ := hp_117
                      have qat2 := tR_1 (b := b) (k := fr.toNat) (m := (to_ - fr).toNat) qat (by omega)
                      exact g_vret F hr hlk hH hS hz ⟨rfl, rfl, rfl, hv, fun b hb => q_118 b hb, by first | omega | rfl | (dsimp only; omega), qfo, qot, qat2⟩ dX5_readRun_165
                    · refine lv_aload_n F.1 F.2.1 dX5_readRun_139 rfl (lv_at hl 2 rfl) ?_
                      refine z_iconst F dX5_readRun_140 ?_
                      refine lv_iload_n F.1 F.2.1 dX5_readRun_141 rfl (lv_at hl 4 rfl) ?_
                      refine lv_aload_n F.1 F.2.1 dX5_readRun_142 rfl (lv_at hl 3 rfl) ?_
                      refine lv_iload_n F.1 F.2.1 dX5_readRun_143 rfl (lv_at hl 4 rfl) ?_
                      refine z_iconst F dX5_readRun_144 ?_
                      refine z_iadd F dX5_readRun_145 ?_
                      have hx146 : 0 ≤ (fr + 1) ∧ (fr + 1) < ((936 : Nat) : Int) ∧ (fr + 1) ≤ 2147483647 := ⟨by omega, by omega, by omega⟩
                      refine g_bald F hH ht hx146.1 hx146.2.1 hx146.2.2 dX5_readRun_146 ?_
                      refine z_name (fun v_120 ev_120 => ?_)
                      have zv_120 : zr v_120 := by rw [ev_120]; exact zr_t _
                      have t146 : v_120 = b (fr.toNat + 1) := by rw [ev_120, show (fr + 1).toNat = fr.toNat + 1 by omega]; exact hb _
                      refine z_bipush F dX5_readRun_147 (by decide) ?_
                      refine z_isub F dX5_readRun_149 ?_
                      refine lv_lconst (v := 0) F.1 F.2.1 dX5_readRun_150 (by decide) ?_
                      have b_122 := gI_tk hv h5
                      refine g_callv (g_runV (As := [.int (iI 2), .int (iI fr), .int (iI (v_120 - 48)), .long 0]) (rest := []) (ci := 5) F hl.1 hH hS hz (c_X5_addTokenf l g gh I R J AI AJ AR a 2 fr (v_120 - 48) 0 ⟨by decide, by decide⟩ zfr ⟨by omega, by omega⟩ hv h5 (by omega) (by omega)) (cwV 4 F.2.2.2.2.1 gX5_readRun_X5_addToken rfl rfl rfl hdX5_addToken ⟨Nat.le_of_ble_eq_true rfl, Nat.le_of_ble_eq_true rfl⟩) h5 (by decide) rfl rfl rfl (Nat.le_of_ble_eq_true rfl) dX5_readRun_151 ⟨Nat.zero_le _, Nat.zero_le _⟩) hS (fun I_123 R_124 J_125 AI_126 AJ_127 AR_128 H locs hp_129 hH hS => ?_)
                      dsimp only at hp_129
                      obtain ⟨rfl, rfl, rfl, hv, q_130, q_131, qfo, qot, qat⟩ := hp_129
                      have qat2 := tR_2 (by rw [t146] at qat; exact qat) hdt (by omega) (by omega) (by omega) (by omega) (by omega)
                      refine z_goto (tgt := 165) F dX5_readRun_154 (by decide) ?_
                      exact g_vret F hr hlk hH hS hz ⟨rfl, rfl, rfl, hv, fun b hb => q_130 b hb, by first | omega | rfl | (dsimp only; omega), qfo, qot, qat2⟩ dX5_readRun_165
            · refine lv_aload_n F.1 F.2.1 dX5_readRun_89 rfl (lv_at hl 2 rfl) ?_
              refine z_iconst F dX5_readRun_90 ?_
              refine lv_iload_n F.1 F.2.1 dX5_readRun_91 rfl (lv_at hl 4 rfl) ?_
              refine lv_aload_n F.1 F.2.1 dX5_readRun_92 rfl (lv_at hl 3 rfl) ?_
              refine lv_iload_n F.1 F.2.1 dX5_readRun_93 rfl (lv_at hl 4 rfl) ?_
              refine lv_iload_n F.1 F.2.1 dX5_readRun_94 rfl (lv_at hl 5 rfl) ?_
              refine g_calli (g_runS (As := [.ref t, .int (iI fr), .int (iI to_)]) (rest := [.int (iI fr), .int (iI 4), .ref a]) F hl.1 hH hS hz (c_X5_numberOff l g b I R J AI AJ AR t fr to_ zfr zto_ ht hb (by omega) (by omega) (by omega) (by omega) (fun j hj => tDc_all (m := (to_ - fr).toNat) (by omega) j (by omega))) (va_cwS 3 F.2.2.2.2.1 gX5_readRun_X5_numberOf rfl rfl rfl hdX5_numberOf.2 ⟨Nat.le_of_ble_eq_true rfl, Nat.le_of_ble_eq_true rfl⟩) rfl rfl (Nat.le_of_ble_eq_true rfl) dX5_readRun_95 ⟨Nat.zero_le _, Nat.zero_le _⟩) hS (fun v_138 I_132 R_133 J_134 AI_135 AJ_136 AR_137 H locs zv_138 hp_139 hH hS => ?_)
              dsimp only at hp_139
              obtain ⟨rfl, rfl, rfl, rfl, rfl, rfl, q95, q95b⟩ := hp_139
              refine lv_lconst (v := 0) F.1 F.2.1 dX5_readRun_98 (by decide) ?_
              have b_141 := gI_tk hv h5
              refine g_callv (g_runV (As := [.int (iI 4), .int (iI fr), .int (iI v_138), .long 0]) (rest := []) (ci := 5) F hl.1 hH hS hz (c_X5_addTokenf l g gh I R J AI AJ AR a 4 fr v_138 0 ⟨by decide, by decide⟩ zfr zv_138 hv h5 (by omega) (by omega)) (cwV 4 F.2.2.2.2.1 gX5_readRun_X5_addToken rfl rfl rfl hdX5_addToken ⟨Nat.le_of_ble_eq_true rfl, Nat.le_of_ble_eq_true rfl⟩) h5 (by decide) rfl rfl rfl (Nat.le_of_ble_eq_true rfl) dX5_readRun_99 ⟨Nat.zero_le _, Nat.zero_le _⟩) hS (fun I_142 R_143 J_144 AI_145 AJ_146 AR_147 H locs hp_148 hH hS => ?_)
              dsimp only at hp_148
              obtain ⟨rfl, rfl, rfl, hv, q_149, q_150, qfo, qot, qat⟩ := hp_148
              have qat2 := tR_4 (by rw [q95] at qat; exact qat) (by omega) (by omega) (by omega)
              refine z_goto (tgt := 165) F dX5_readRun_102 (by decide) ?_
              exact g_vret F hr hlk hH hS hz ⟨rfl, rfl, rfl, hv, fun b hb => q_149 b hb, by first | omega | rfl | (dsimp only; omega), qfo, qot, qat2⟩ dX5_readRun_165
        · refine lv_iload F.1 F.2.1 dX5_readRun_48 (lv_at hl 0 rfl) ?_
          refine z_bipush F dX5_readRun_50 (by decide) ?_
          refine z_icmp_gt (tgt := 76) F dX5_readRun_52 (by decide) ⟨by omega, by omega⟩ ⟨by decide, by decide⟩ (fun c_151 => ?_) (fun c_151 => ?_)
          · refine lv_iload F.1 F.2.1 dX5_readRun_76 (lv_at hl 1 rfl) ?_
            refine lv_iload F.1 F.2.1 dX5_readRun_78 (lv_at hl 0 rfl) ?_
            refine z_icmp_ne (tgt := 105) F dX5_readRun_80 (by decide) zdg ⟨by omega, by omega⟩ (fun c_152 => ?_) (fun c_152 => ?_)
            · refine lv_iload F.1 F.2.1 dX5_readRun_105 (lv_at hl 0 rfl) ?_
              refine z_iconst F dX5_readRun_107 ?_
              refine z_icmp_ne (tgt := 157) F dX5_readRun_108 (by decide) ⟨by omega, by omega⟩ ⟨by decide, by decide⟩ (fun c_153 => ?_) (fun c_153 => ?_)
              · refine lv_aload_n F.1 F.2.1 dX5_readRun_157 rfl (lv_at hl 2 rfl) ?_
                refine z_iconst F dX5_readRun_158 ?_
                refine lv_iload_n F.1 F.2.1 dX5_readRun_159 rfl (lv_at hl 4 rfl) ?_
                refine z_iconst F dX5_readRun_160 ?_
                refine lv_lconst (v := 0) F.1 F.2.1 dX5_readRun_161 (by decide) ?_
                have b_155 := gI_tk hv h5
                refine g_callv (g_runV (As := [.int (iI 1), .int (iI fr), .int (iI 0), .long 0]) (rest := []) (ci := 5) F hl.1 hH hS hz (c_X5_addTokenf l g gh I R J AI AJ AR a 1 fr 0 0 ⟨by decide, by decide⟩ zfr ⟨by decide, by decide⟩ hv h5 (by omega) (by omega)) (cwV 4 F.2.2.2.2.1 gX5_readRun_X5_addToken rfl rfl rfl hdX5_addToken ⟨Nat.le_of_ble_eq_true rfl, Nat.le_of_ble_eq_true rfl⟩) h5 (by decide) rfl rfl rfl (Nat.le_of_ble_eq_true rfl) dX5_readRun_162 ⟨Nat.zero_le _, Nat.zero_le _⟩) hS (fun I_156 R_157 J_158 AI_159 AJ_160 AR_161 H locs hp_162 hH hS => ?_)
                dsimp only at hp_162
                obtain ⟨rfl, rfl, rfl, hv, q_163, q_164, qfo, qot, qat⟩ := hp_162
                have qat2 := tR_1 (b := b) (k := fr.toNat) (m := (to_ - fr).toNat) qat (by omega)
                exact g_vret F hr hlk hH hS hz ⟨rfl, rfl, rfl, hv, fun b hb => q_163 b hb, by first | omega | rfl | (dsimp only; omega), qfo, qot, qat2⟩ dX5_readRun_165
              · refine lv_aload_n F.1 F.2.1 dX5_readRun_111 rfl (lv_at hl 3 rfl) ?_
                refine lv_iload_n F.1 F.2.1 dX5_readRun_112 rfl (lv_at hl 4 rfl) ?_
                have hx113 : 0 ≤ fr ∧ fr < ((936 : Nat) : Int) ∧ fr ≤ 2147483647 := ⟨by omega, by omega, by omega⟩
                refine g_bald F hH ht hx113.1 hx113.2.1 hx113.2.2 dX5_readRun_113 ?_
                refine z_name (fun v_165 ev_165 => ?_)
                have zv_165 : zr v_165 := by rw [ev_165]; exact zr_t _
                have t113 : v_165 = b fr.toNat := by rw [ev_165]; exact hb _
                refine z_bipush F dX5_readRun_114 (by decide) ?_
                refine z_icmp_ne (tgt := 157) F dX5_readRun_116 (by decide) zv_165 ⟨by decide, by decide⟩ (fun c_166 => ?_) (fun c_166 => ?_)
                · refine lv_aload_n F.1 F.2.1 dX5_readRun_157 rfl (lv_at hl 2 rfl) ?_
                  refine z_iconst F dX5_readRun_158 ?_
                  refine lv_iload_n F.1 F.2.1 dX5_readRun_159 rfl (lv_at hl 4 rfl) ?_
                  refine z_iconst F dX5_readRun_160 ?_
                  refine lv_lconst (v := 0) F.1 F.2.1 dX5_readRun_161 (by decide) ?_
                  have b_168 := gI_tk hv h5
                  refine g_callv (g_runV (As := [.int (iI 1), .int (iI fr), .int (iI 0), .long 0]) (rest := []) (ci := 5) F hl.1 hH hS hz (c_X5_addTokenf l g gh I R J AI AJ AR a 1 fr 0 0 ⟨by decide, by decide⟩ zfr ⟨by decide, by decide⟩ hv h5 (by omega) (by omega)) (cwV 4 F.2.2.2.2.1 gX5_readRun_X5_addToken rfl rfl rfl hdX5_addToken ⟨Nat.le_of_ble_eq_true rfl, Nat.le_of_ble_eq_true rfl⟩) h5 (by decide) rfl rfl rfl (Nat.le_of_ble_eq_true rfl) dX5_readRun_162 ⟨Nat.zero_le _, Nat.zero_le _⟩) hS (fun I_169 R_170 J_171 AI_172 AJ_173 AR_174 H locs hp_175 hH hS => ?_)
                  dsimp only at hp_175
                  obtain ⟨rfl, rfl, rfl, hv, q_176, q_177, qfo, qot, qat⟩ := hp_175
                  have qat2 := tR_1 (b := b) (k := fr.toNat) (m := (to_ - fr).toNat) qat (by omega)
                  exact g_vret F hr hlk hH hS hz ⟨rfl, rfl, rfl, hv, fun b hb => q_176 b hb, by first | omega | rfl | (dsimp only; omega), qfo, qot, qat2⟩ dX5_readRun_165
                · refine lv_aload_n F.1 F.2.1 dX5_readRun_119 rfl (lv_at hl 3 rfl) ?_
                  refine lv_iload_n F.1 F.2.1 dX5_readRun_120 rfl (lv_at hl 4 rfl) ?_
                  refine z_iconst F dX5_readRun_121 ?_
                  refine z_iadd F dX5_readRun_122 ?_
                  have hx123 : 0 ≤ (fr + 1) ∧ (fr + 1) < ((936 : Nat) : Int) ∧ (fr + 1) ≤ 2147483647 := ⟨by omega, by omega, by omega⟩
                  refine g_bald F hH ht hx123.1 hx123.2.1 hx123.2.2 dX5_readRun_123 ?_
                  refine z_name (fun v_178 ev_178 => ?_)
                  have zv_178 : zr v_178 := by rw [ev_178]; exact zr_t _
                  have t123 : v_178 = b (fr.toNat + 1) := by rw [ev_178, show (fr + 1).toNat = fr.toNat + 1 by omega]; exact hb _
                  refine z_bipush F dX5_readRun_124 (by decide) ?_
                  refine z_icmp_lt (tgt := 157) F dX5_readRun_126 (by decide) zv_178 ⟨by decide, by decide⟩ (fun c_179 => ?_) (fun c_179 => ?_)
                  · refine lv_aload_n F.1 F.2.1 dX5_readRun_157 rfl (lv_at hl 2 rfl) ?_
                    refine z_iconst F dX5_readRun_158 ?_
                    refine lv_iload_n F.1 F.2.1 dX5_readRun_159 rfl (lv_at hl 4 rfl) ?_
                    refine z_iconst F dX5_readRun_160 ?_
                    refine lv_lconst (v := 0) F.1 F.2.1 dX5_readRun_161 (by decide) ?_
                    have b_181 := gI_tk hv h5
                    refine g_callv (g_runV (As := [.int (iI 1), .int (iI fr), .int (iI 0), .long 0]) (rest := []) (ci := 5) F hl.1 hH hS hz (c_X5_addTokenf l g gh I R J AI AJ AR a 1 fr 0 0 ⟨by decide, by decide⟩ zfr ⟨by decide, by decide⟩ hv h5 (by omega) (by omega)) (cwV 4 F.2.2.2.2.1 gX5_readRun_X5_addToken rfl rfl rfl hdX5_addToken ⟨Nat.le_of_ble_eq_true rfl, Nat.le_of_ble_eq_true rfl⟩) h5 (by decide) rfl rfl rfl (Nat.le_of_ble_eq_true rfl) dX5_readRun_162 ⟨Nat.zero_le _, Nat.zero_le _⟩) hS (fun I_182 R_183 J_184 AI_185 AJ_186 AR_187 H locs hp_188 hH hS => ?_)
                    dsimp only at hp_188
                    obtain ⟨rfl, rfl, rfl, hv, q_189, q_190, qfo, qot, qat⟩ := hp_188
                    have qat2 := tR_1 (b := b) (k := fr.toNat) (m := (to_ - fr).toNat) qat (by omega)
                    exact g_vret F hr hlk hH hS hz ⟨rfl, rfl, rfl, hv, fun b hb => q_189 b hb, by first | omega | rfl | (dsimp only; omega), qfo, qot, qat2⟩ dX5_readRun_165
                  · refine lv_aload_n F.1 F.2.1 dX5_readRun_129 rfl (lv_at hl 3 rfl) ?_
                    refine lv_iload_n F.1 F.2.1 dX5_readRun_130 rfl (lv_at hl 4 rfl) ?_
                    refine z_iconst F dX5_readRun_131 ?_
                    refine z_iadd F dX5_readRun_132 ?_
                    have hx133 : 0 ≤ (fr + 1) ∧ (fr + 1) < ((936 : Nat) : Int) ∧ (fr + 1) ≤ 2147483647 := ⟨by omega, by omega, by omega⟩
                    refine g_bald F hH ht hx133.1 hx133.2.1 hx133.2.2 dX5_readRun_133 ?_
                    refine z_name (fun v_191 ev_191 => ?_)
                    have zv_191 : zr v_191 := by rw [ev_191]; exact zr_t _
                    have t133 : v_191 = b (fr.toNat + 1) := by rw [ev_191, show (fr + 1).toNat = fr.toNat + 1 by omega]; exact hb _
                    refine z_bipush F dX5_readRun_134 (by decide) ?_
                    refine z_icmp_gt (tgt := 157) F dX5_readRun_136 (by decide) zv_191 ⟨by decide, by decide⟩ (fun c_192 => ?_) (fun c_192 => ?_)
                    · refine lv_aload_n F.1 F.2.1 dX5_readRun_157 rfl (lv_at hl 2 rfl) ?_
                      refine z_iconst F dX5_readRun_158 ?_
                      refine lv_iload_n F.1 F.2.1 dX5_readRun_159 rfl (lv_at hl 4 rfl) ?_
                      refine z_iconst F dX5_readRun_160 ?_
                      refine lv_lconst (v := 0) F.1 F.2.1 dX5_readRun_161 (by decide) ?_
                      have b_194 := gI_tk hv h5
                      refine g_callv (g_runV (As := [.int (iI 1), .int (iI fr), .int (iI 0), .long 0]) (rest := []) (ci := 5) F hl.1 hH hS hz (c_X5_addTokenf l g gh I R J AI AJ AR a 1 fr 0 0 ⟨by decide, by decide⟩ zfr ⟨by decide, by decide⟩ hv h5 (by omega) (by omega)) (cwV 4 F.2.2.2.2.1 gX5_readRun_X5_addToken rfl rfl rfl hdX5_addToken ⟨Nat.le_of_ble_eq_true rfl, Nat.le_of_ble_eq_true rfl⟩) h5 (by decide) rfl rfl rfl (Nat.le_of_ble_eq_true rfl) dX5_readRun_162 ⟨Nat.zero_le _, Nat.zero_le _⟩) hS (fun I_195 R_196 J_197 AI_198 AJ_199 AR_200 H locs hp_201 hH hS => ?_)
                      dsimp only at hp_201
                      obtain ⟨rfl, rfl, rfl, hv, q_202, q_203, qfo, qot, qat⟩ := hp_201
                      have qat2 := tR_1 (b := b) (k := fr.toNat) (m := (to_ - fr).toNat) qat (by omega)
                      exact g_vret F hr hlk hH hS hz ⟨rfl, rfl, rfl, hv, fun b hb => q_202 b hb, by first | omega | rfl | (dsimp only; omega), qfo, qot, qat2⟩ dX5_readRun_165
                    · refine lv_aload_n F.1 F.2.1 dX5_readRun_139 rfl (lv_at hl 2 rfl) ?_
                      refine z_iconst F dX5_readRun_140 ?_
                      refine lv_iload_n F.1 F.2.1 dX5_readRun_141 rfl (lv_at hl 4 rfl) ?_
                      refine lv_aload_n F.1 F.2.1 dX5_readRun_142 rfl (lv_at hl 3 rfl) ?_
                      refine lv_iload_n F.1 F.2.1 dX5_readRun_143 rfl (lv_at hl 4 rfl) ?_
                      refine z_iconst F dX5_readRun_144 ?_
                      refine z_iadd F dX5_readRun_145 ?_
                      have hx146 : 0 ≤ (fr + 1) ∧ (fr + 1) < ((936 : Nat) : Int) ∧ (fr + 1) ≤ 2147483647 := ⟨by omega, by omega, by omega⟩
                      refine g_bald F hH ht hx146.1 hx146.2.1 hx146.2.2 dX5_readRun_146 ?_
                      refine z_name (fun v_204 ev_204 => ?_)
                      have zv_204 : zr v_204 := by rw [ev_204]; exact zr_t _
                      have t146 : v_204 = b (fr.toNat + 1) := by rw [ev_204, show (fr + 1).toNat = fr.toNat + 1 by omega]; exact hb _
                      refine z_bipush F dX5_readRun_147 (by decide) ?_
                      refine z_isub F dX5_readRun_149 ?_
                      refine lv_lconst (v := 0) F.1 F.2.1 dX5_readRun_150 (by decide) ?_
                      have b_206 := gI_tk hv h5
                      refine g_callv (g_runV (As := [.int (iI 2), .int (iI fr), .int (iI (v_204 - 48)), .long 0]) (rest := []) (ci := 5) F hl.1 hH hS hz (c_X5_addTokenf l g gh I R J AI AJ AR a 2 fr (v_204 - 48) 0 ⟨by decide, by decide⟩ zfr ⟨by omega, by omega⟩ hv h5 (by omega) (by omega)) (cwV 4 F.2.2.2.2.1 gX5_readRun_X5_addToken rfl rfl rfl hdX5_addToken ⟨Nat.le_of_ble_eq_true rfl, Nat.le_of_ble_eq_true rfl⟩) h5 (by decide) rfl rfl rfl (Nat.le_of_ble_eq_true rfl) dX5_readRun_151 ⟨Nat.zero_le _, Nat.zero_le _⟩) hS (fun I_207 R_208 J_209 AI_210 AJ_211 AR_212 H locs hp_213 hH hS => ?_)
                      dsimp only at hp_213
                      obtain ⟨rfl, rfl, rfl, hv, q_214, q_215, qfo, qot, qat⟩ := hp_213
                      have qat2 := tR_2 (by rw [t146] at qat; exact qat) hdt (by omega) (by omega) (by omega) (by omega) (by omega)
                      refine z_goto (tgt := 165) F dX5_readRun_154 (by decide) ?_
                      exact g_vret F hr hlk hH hS hz ⟨rfl, rfl, rfl, hv, fun b hb => q_214 b hb, by first | omega | rfl | (dsimp only; omega), qfo, qot, qat2⟩ dX5_readRun_165
            · refine lv_iload F.1 F.2.1 dX5_readRun_83 (lv_at hl 0 rfl) ?_
              refine z_iconst F dX5_readRun_85 ?_
              refine z_icmp_gt (tgt := 105) F dX5_readRun_86 (by decide) ⟨by omega, by omega⟩ ⟨by decide, by decide⟩ (fun c_216 => ?_) (fun c_216 => ?_)
              · refine lv_iload F.1 F.2.1 dX5_readRun_105 (lv_at hl 0 rfl) ?_
                refine z_iconst F dX5_readRun_107 ?_
                refine z_icmp_ne (tgt := 157) F dX5_readRun_108 (by decide) ⟨by omega, by omega⟩ ⟨by decide, by decide⟩ (fun c_217 => ?_) (fun c_217 => ?_)
                · refine lv_aload_n F.1 F.2.1 dX5_readRun_157 rfl (lv_at hl 2 rfl) ?_
                  refine z_iconst F dX5_readRun_158 ?_
                  refine lv_iload_n F.1 F.2.1 dX5_readRun_159 rfl (lv_at hl 4 rfl) ?_
                  refine z_iconst F dX5_readRun_160 ?_
                  refine lv_lconst (v := 0) F.1 F.2.1 dX5_readRun_161 (by decide) ?_
                  have b_219 := gI_tk hv h5
                  refine g_callv (g_runV (As := [.int (iI 1), .int (iI fr), .int (iI 0), .long 0]) (rest := []) (ci := 5) F hl.1 hH hS hz (c_X5_addTokenf l g gh I R J AI AJ AR a 1 fr 0 0 ⟨by decide, by decide⟩ zfr ⟨by decide, by decide⟩ hv h5 (by omega) (by omega)) (cwV 4 F.2.2.2.2.1 gX5_readRun_X5_addToken rfl rfl rfl hdX5_addToken ⟨Nat.le_of_ble_eq_true rfl, Nat.le_of_ble_eq_true rfl⟩) h5 (by decide) rfl rfl rfl (Nat.le_of_ble_eq_true rfl) dX5_readRun_162 ⟨Nat.zero_le _, Nat.zero_le _⟩) hS (fun I_220 R_221 J_222 AI_223 AJ_224 AR_225 H locs hp_226 hH hS => ?_)
                  dsimp only at hp_226
                  obtain ⟨rfl, rfl, rfl, hv, q_227, q_228, qfo, qot, qat⟩ := hp_226
                  have qat2 := tR_1 (b := b) (k := fr.toNat) (m := (to_ - fr).toNat) qat (by omega)
                  exact g_vret F hr hlk hH hS hz ⟨rfl, rfl, rfl, hv, fun b hb => q_227 b hb, by first | omega | rfl | (dsimp only; omega), qfo, qot, qat2⟩ dX5_readRun_165
                · refine lv_aload_n F.1 F.2.1 dX5_readRun_111 rfl (lv_at hl 3 rfl) ?_
                  refine lv_iload_n F.1 F.2.1 dX5_readRun_112 rfl (lv_at hl 4 rfl) ?_
                  have hx113 : 0 ≤ fr ∧ fr < ((936 : Nat) : Int) ∧ fr ≤ 2147483647 := ⟨by omega, by omega, by omega⟩
                  refine g_bald F hH ht hx113.1 hx113.2.1 hx113.2.2 dX5_readRun_113 ?_
                  refine z_name (fun v_229 ev_229 => ?_)
                  have zv_229 : zr v_229 := by rw [ev_229]; exact zr_t _
                  have t113 : v_229 = b fr.toNat := by rw [ev_229]; exact hb _
                  refine z_bipush F dX5_readRun_114 (by decide) ?_
                  refine z_icmp_ne (tgt := 157) F dX5_readRun_116 (by decide) zv_229 ⟨by decide, by decide⟩ (fun c_230 => ?_) (fun c_230 => ?_)
                  · refine lv_aload_n F.1 F.2.1 dX5_readRun_157 rfl (lv_at hl 2 rfl) ?_
                    refine z_iconst F dX5_readRun_158 ?_
                    refine lv_iload_n F.1 F.2.1 dX5_readRun_159 rfl (lv_at hl 4 rfl) ?_
                    refine z_iconst F dX5_readRun_160 ?_
                    refine lv_lconst (v := 0) F.1 F.2.1 dX5_readRun_161 (by decide) ?_
                    have b_232 := gI_tk hv h5
                    refine g_callv (g_runV (As := [.int (iI 1), .int (iI fr), .int (iI 0), .long 0]) (rest := []) (ci := 5) F hl.1 hH hS hz (c_X5_addTokenf l g gh I R J AI AJ AR a 1 fr 0 0 ⟨by decide, by decide⟩ zfr ⟨by decide, by decide⟩ hv h5 (by omega) (by omega)) (cwV 4 F.2.2.2.2.1 gX5_readRun_X5_addToken rfl rfl rfl hdX5_addToken ⟨Nat.le_of_ble_eq_true rfl, Nat.le_of_ble_eq_true rfl⟩) h5 (by decide) rfl rfl rfl (Nat.le_of_ble_eq_true rfl) dX5_readRun_162 ⟨Nat.zero_le _, Nat.zero_le _⟩) hS (fun I_233 R_234 J_235 AI_236 AJ_237 AR_238 H locs hp_239 hH hS => ?_)
                    dsimp only at hp_239
                    obtain ⟨rfl, rfl, rfl, hv, q_240, q_241, qfo, qot, qat⟩ := hp_239
                    have qat2 := tR_1 (b := b) (k := fr.toNat) (m := (to_ - fr).toNat) qat (by omega)
                    exact g_vret F hr hlk hH hS hz ⟨rfl, rfl, rfl, hv, fun b hb => q_240 b hb, by first | omega | rfl | (dsimp only; omega), qfo, qot, qat2⟩ dX5_readRun_165
                  · refine lv_aload_n F.1 F.2.1 dX5_readRun_119 rfl (lv_at hl 3 rfl) ?_
                    refine lv_iload_n F.1 F.2.1 dX5_readRun_120 rfl (lv_at hl 4 rfl) ?_
                    refine z_iconst F dX5_readRun_121 ?_
                    refine z_iadd F dX5_readRun_122 ?_
                    have hx123 : 0 ≤ (fr + 1) ∧ (fr + 1) < ((936 : Nat) : Int) ∧ (fr + 1) ≤ 2147483647 := ⟨by omega, by omega, by omega⟩
                    refine g_bald F hH ht hx123.1 hx123.2.1 hx123.2.2 dX5_readRun_123 ?_
                    refine z_name (fun v_242 ev_242 => ?_)
                    have zv_242 : zr v_242 := by rw [ev_242]; exact zr_t _
                    have t123 : v_242 = b (fr.toNat + 1) := by rw [ev_242, show (fr + 1).toNat = fr.toNat + 1 by omega]; exact hb _
                    refine z_bipush F dX5_readRun_124 (by decide) ?_
                    refine z_icmp_lt (tgt := 157) F dX5_readRun_126 (by decide) zv_242 ⟨by decide, by decide⟩ (fun c_243 => ?_) (fun c_243 => ?_)
                    · refine lv_aload_n F.1 F.2.1 dX5_readRun_157 rfl (lv_at hl 2 rfl) ?_
                      refine z_iconst F dX5_readRun_158 ?_
                      refine lv_iload_n F.1 F.2.1 dX5_readRun_159 rfl (lv_at hl 4 rfl) ?_
                      refine z_iconst F dX5_readRun_160 ?_
                      refine lv_lconst (v := 0) F.1 F.2.1 dX5_readRun_161 (by decide) ?_
                      have b_245 := gI_tk hv h5
                      refine g_callv (g_runV (As := [.int (iI 1), .int (iI fr), .int (iI 0), .long 0]) (rest := []) (ci := 5) F hl.1 hH hS hz (c_X5_addTokenf l g gh I R J AI AJ AR a 1 fr 0 0 ⟨by decide, by decide⟩ zfr ⟨by decide, by decide⟩ hv h5 (by omega) (by omega)) (cwV 4 F.2.2.2.2.1 gX5_readRun_X5_addToken rfl rfl rfl hdX5_addToken ⟨Nat.le_of_ble_eq_true rfl, Nat.le_of_ble_eq_true rfl⟩) h5 (by decide) rfl rfl rfl (Nat.le_of_ble_eq_true rfl) dX5_readRun_162 ⟨Nat.zero_le _, Nat.zero_le _⟩) hS (fun I_246 R_247 J_248 AI_249 AJ_250 AR_251 H locs hp_252 hH hS => ?_)
                      dsimp only at hp_252
                      obtain ⟨rfl, rfl, rfl, hv, q_253, q_254, qfo, qot, qat⟩ := hp_252
                      have qat2 := tR_1 (b := b) (k := fr.toNat) (m := (to_ - fr).toNat) qat (by omega)
                      exact g_vret F hr hlk hH hS hz ⟨rfl, rfl, rfl, hv, fun b hb => q_253 b hb, by first | omega | rfl | (dsimp only; omega), qfo, qot, qat2⟩ dX5_readRun_165
                    · refine lv_aload_n F.1 F.2.1 dX5_readRun_129 rfl (lv_at hl 3 rfl) ?_
                      refine lv_iload_n F.1 F.2.1 dX5_readRun_130 rfl (lv_at hl 4 rfl) ?_
                      refine z_iconst F dX5_readRun_131 ?_
                      refine z_iadd F dX5_readRun_132 ?_
                      have hx133 : 0 ≤ (fr + 1) ∧ (fr + 1) < ((936 : Nat) : Int) ∧ (fr + 1) ≤ 2147483647 := ⟨by omega, by omega, by omega⟩
                      refine g_bald F hH ht hx133.1 hx133.2.1 hx133.2.2 dX5_readRun_133 ?_
                      refine z_name (fun v_255 ev_255 => ?_)
                      have zv_255 : zr v_255 := by rw [ev_255]; exact zr_t _
                      have t133 : v_255 = b (fr.toNat + 1) := by rw [ev_255, show (fr + 1).toNat = fr.toNat + 1 by omega]; exact hb _
                      refine z_bipush F dX5_readRun_134 (by decide) ?_
                      refine z_icmp_gt (tgt := 157) F dX5_readRun_136 (by decide) zv_255 ⟨by decide, by decide⟩ (fun c_256 => ?_) (fun c_256 => ?_)
                      · refine lv_aload_n F.1 F.2.1 dX5_readRun_157 rfl (lv_at hl 2 rfl) ?_
                        refine z_iconst F dX5_readRun_158 ?_
                        refine lv_iload_n F.1 F.2.1 dX5_readRun_159 rfl (lv_at hl 4 rfl) ?_
                        refine z_iconst F dX5_readRun_160 ?_
                        refine lv_lconst (v := 0) F.1 F.2.1 dX5_readRun_161 (by decide) ?_
                        have b_258 := gI_tk hv h5
                        refine g_callv (g_runV (As := [.int (iI 1), .int (iI fr), .int (iI 0), .long 0]) (rest := []) (ci := 5) F hl.1 hH hS hz (c_X5_addTokenf l g gh I R J AI AJ AR a 1 fr 0 0 ⟨by decide, by decide⟩ zfr ⟨by decide, by decide⟩ hv h5 (by omega) (by omega)) (cwV 4 F.2.2.2.2.1 gX5_readRun_X5_addToken rfl rfl rfl hdX5_addToken ⟨Nat.le_of_ble_eq_true rfl, Nat.le_of_ble_eq_true rfl⟩) h5 (by decide) rfl rfl rfl (Nat.le_of_ble_eq_true rfl) dX5_readRun_162 ⟨Nat.zero_le _, Nat.zero_le _⟩) hS (fun I_259 R_260 J_261 AI_262 AJ_263 AR_264 H locs hp_265 hH hS => ?_)
                        dsimp only at hp_265
                        obtain ⟨rfl, rfl, rfl, hv, q_266, q_267, qfo, qot, qat⟩ := hp_265
                        have qat2 := tR_1 (b := b) (k := fr.toNat) (m := (to_ - fr).toNat) qat (by omega)
                        exact g_vret F hr hlk hH hS hz ⟨rfl, rfl, rfl, hv, fun b hb => q_266 b hb, by first | omega | rfl | (dsimp only; omega), qfo, qot, qat2⟩ dX5_readRun_165
                      · refine lv_aload_n F.1 F.2.1 dX5_readRun_139 rfl (lv_at hl 2 rfl) ?_
                        refine z_iconst F dX5_readRun_140 ?_
                        refine lv_iload_n F.1 F.2.1 dX5_readRun_141 rfl (lv_at hl 4 rfl) ?_
                        refine lv_aload_n F.1 F.2.1 dX5_readRun_142 rfl (lv_at hl 3 rfl) ?_
                        refine lv_iload_n F.1 F.2.1 dX5_readRun_143 rfl (lv_at hl 4 rfl) ?_
                        refine z_iconst F dX5_readRun_144 ?_
                        refine z_iadd F dX5_readRun_145 ?_
                        have hx146 : 0 ≤ (fr + 1) ∧ (fr + 1) < ((936 : Nat) : Int) ∧ (fr + 1) ≤ 2147483647 := ⟨by omega, by omega, by omega⟩
                        refine g_bald F hH ht hx146.1 hx146.2.1 hx146.2.2 dX5_readRun_146 ?_
                        refine z_name (fun v_268 ev_268 => ?_)
                        have zv_268 : zr v_268 := by rw [ev_268]; exact zr_t _
                        have t146 : v_268 = b (fr.toNat + 1) := by rw [ev_268, show (fr + 1).toNat = fr.toNat + 1 by omega]; exact hb _
                        refine z_bipush F dX5_readRun_147 (by decide) ?_
                        refine z_isub F dX5_readRun_149 ?_
                        refine lv_lconst (v := 0) F.1 F.2.1 dX5_readRun_150 (by decide) ?_
                        have b_270 := gI_tk hv h5
                        refine g_callv (g_runV (As := [.int (iI 2), .int (iI fr), .int (iI (v_268 - 48)), .long 0]) (rest := []) (ci := 5) F hl.1 hH hS hz (c_X5_addTokenf l g gh I R J AI AJ AR a 2 fr (v_268 - 48) 0 ⟨by decide, by decide⟩ zfr ⟨by omega, by omega⟩ hv h5 (by omega) (by omega)) (cwV 4 F.2.2.2.2.1 gX5_readRun_X5_addToken rfl rfl rfl hdX5_addToken ⟨Nat.le_of_ble_eq_true rfl, Nat.le_of_ble_eq_true rfl⟩) h5 (by decide) rfl rfl rfl (Nat.le_of_ble_eq_true rfl) dX5_readRun_151 ⟨Nat.zero_le _, Nat.zero_le _⟩) hS (fun I_271 R_272 J_273 AI_274 AJ_275 AR_276 H locs hp_277 hH hS => ?_)
                        dsimp only at hp_277
                        obtain ⟨rfl, rfl, rfl, hv, q_278, q_279, qfo, qot, qat⟩ := hp_277
                        have qat2 := tR_2 (by rw [t146] at qat; exact qat) hdt (by omega) (by omega) (by omega) (by omega) (by omega)
                        refine z_goto (tgt := 165) F dX5_readRun_154 (by decide) ?_
                        exact g_vret F hr hlk hH hS hz ⟨rfl, rfl, rfl, hv, fun b hb => q_278 b hb, by first | omega | rfl | (dsimp only; omega), qfo, qot, qat2⟩ dX5_readRun_165
              · refine lv_aload_n F.1 F.2.1 dX5_readRun_89 rfl (lv_at hl 2 rfl) ?_
                refine z_iconst F dX5_readRun_90 ?_
                refine lv_iload_n F.1 F.2.1 dX5_readRun_91 rfl (lv_at hl 4 rfl) ?_
                refine lv_aload_n F.1 F.2.1 dX5_readRun_92 rfl (lv_at hl 3 rfl) ?_
                refine lv_iload_n F.1 F.2.1 dX5_readRun_93 rfl (lv_at hl 4 rfl) ?_
                refine lv_iload_n F.1 F.2.1 dX5_readRun_94 rfl (lv_at hl 5 rfl) ?_
                refine g_calli (g_runS (As := [.ref t, .int (iI fr), .int (iI to_)]) (rest := [.int (iI fr), .int (iI 4), .ref a]) F hl.1 hH hS hz (c_X5_numberOff l g b I R J AI AJ AR t fr to_ zfr zto_ ht hb (by omega) (by omega) (by omega) (by omega) (fun j hj => tDc_all (m := (to_ - fr).toNat) (by omega) j (by omega))) (va_cwS 3 F.2.2.2.2.1 gX5_readRun_X5_numberOf rfl rfl rfl hdX5_numberOf.2 ⟨Nat.le_of_ble_eq_true rfl, Nat.le_of_ble_eq_true rfl⟩) rfl rfl (Nat.le_of_ble_eq_true rfl) dX5_readRun_95 ⟨Nat.zero_le _, Nat.zero_le _⟩) hS (fun v_286 I_280 R_281 J_282 AI_283 AJ_284 AR_285 H locs zv_286 hp_287 hH hS => ?_)
                dsimp only at hp_287
                obtain ⟨rfl, rfl, rfl, rfl, rfl, rfl, q95, q95b⟩ := hp_287
                refine lv_lconst (v := 0) F.1 F.2.1 dX5_readRun_98 (by decide) ?_
                have b_289 := gI_tk hv h5
                refine g_callv (g_runV (As := [.int (iI 4), .int (iI fr), .int (iI v_286), .long 0]) (rest := []) (ci := 5) F hl.1 hH hS hz (c_X5_addTokenf l g gh I R J AI AJ AR a 4 fr v_286 0 ⟨by decide, by decide⟩ zfr zv_286 hv h5 (by omega) (by omega)) (cwV 4 F.2.2.2.2.1 gX5_readRun_X5_addToken rfl rfl rfl hdX5_addToken ⟨Nat.le_of_ble_eq_true rfl, Nat.le_of_ble_eq_true rfl⟩) h5 (by decide) rfl rfl rfl (Nat.le_of_ble_eq_true rfl) dX5_readRun_99 ⟨Nat.zero_le _, Nat.zero_le _⟩) hS (fun I_290 R_291 J_292 AI_293 AJ_294 AR_295 H locs hp_296 hH hS => ?_)
                dsimp only at hp_296
                obtain ⟨rfl, rfl, rfl, hv, q_297, q_298, qfo, qot, qat⟩ := hp_296
                have qat2 := tR_4 (by rw [q95] at qat; exact qat) (by omega) (by omega) (by omega)
                refine z_goto (tgt := 165) F dX5_readRun_102 (by decide) ?_
                exact g_vret F hr hlk hH hS hz ⟨rfl, rfl, rfl, hv, fun b hb => q_297 b hb, by first | omega | rfl | (dsimp only; omega), qfo, qot, qat2⟩ dX5_readRun_165
          · refine lv_aload_n F.1 F.2.1 dX5_readRun_55 rfl (lv_at hl 2 rfl) ?_
            refine z_iconst F dX5_readRun_56 ?_
            refine lv_iload_n F.1 F.2.1 dX5_readRun_57 rfl (lv_at hl 4 rfl) ?_
            refine lv_aload_n F.1 F.2.1 dX5_readRun_58 rfl (lv_at hl 3 rfl) ?_
            refine lv_iload_n F.1 F.2.1 dX5_readRun_59 rfl (lv_at hl 4 rfl) ?_
            refine lv_iload_n F.1 F.2.1 dX5_readRun_60 rfl (lv_at hl 5 rfl) ?_
            refine g_calli (g_runS (As := [.ref t, .int (iI fr), .int (iI to_)]) (rest := [.int (iI fr), .int (iI 3), .ref a]) F hl.1 hH hS hz (c_X5_wordNumberf l g b I R J AI AJ AR t fr to_ zfr zto_ ht hb (by omega) (by omega) (by omega)) (va_cwS 3 F.2.2.2.2.1 gX5_readRun_X5_wordNumber rfl rfl rfl hdX5_wordNumber.2 ⟨Nat.le_of_ble_eq_true rfl, Nat.le_of_ble_eq_true rfl⟩) rfl rfl (Nat.le_of_ble_eq_true rfl) dX5_readRun_61 ⟨Nat.zero_le _, Nat.zero_le _⟩) hS (fun v_305 I_299 R_300 J_301 AI_302 AJ_303 AR_304 H locs zv_305 hp_306 hH hS => ?_)
            dsimp only at hp_306
            obtain ⟨rfl, rfl, rfl, rfl, rfl, rfl, q61⟩ := hp_306
            refine lv_aload_n F.1 F.2.1 dX5_readRun_64 rfl (lv_at hl 3 rfl) ?_
            refine lv_iload_n F.1 F.2.1 dX5_readRun_65 rfl (lv_at hl 4 rfl) ?_
            refine lv_iload_n F.1 F.2.1 dX5_readRun_66 rfl (lv_at hl 5 rfl) ?_
            refine g_calll (g_runS (As := [.ref t, .int (iI fr), .int (iI to_)]) (rest := [.int (iI v_305), .int (iI fr), .int (iI 3), .ref a]) F hl.1 hH hS hz (c_X5_nameOff l g b I R J AI AJ AR t fr to_ zfr zto_ ht hb (by omega) (by omega) (by omega)) (va_cwS 3 F.2.2.2.2.1 gX5_readRun_X5_nameOf rfl rfl rfl hdX5_nameOf.2 ⟨Nat.le_of_ble_eq_true rfl, Nat.le_of_ble_eq_true rfl⟩) rfl rfl (Nat.le_of_ble_eq_true rfl) dX5_readRun_67 ⟨Nat.zero_le _, Nat.zero_le _⟩) hS (fun v_313 I_307 R_308 J_309 AI_310 AJ_311 AR_312 H locs hp_314 hH hS => ?_)
            dsimp only at hp_314
            obtain ⟨rfl, rfl, rfl, rfl, rfl, rfl, q67⟩ := hp_314
            have b_315 := gI_tk hv h5
            refine g_callv (g_runV (As := [.int (iI 3), .int (iI fr), .int (iI v_305), .long v_313]) (rest := []) (ci := 5) F hl.1 hH hS hz (c_X5_addTokenf l g gh I R J AI AJ AR a 3 fr v_305 v_313 ⟨by decide, by decide⟩ zfr zv_305 hv h5 (by omega) (by omega)) (cwV 4 F.2.2.2.2.1 gX5_readRun_X5_addToken rfl rfl rfl hdX5_addToken ⟨Nat.le_of_ble_eq_true rfl, Nat.le_of_ble_eq_true rfl⟩) h5 (by decide) rfl rfl rfl (Nat.le_of_ble_eq_true rfl) dX5_readRun_70 ⟨Nat.zero_le _, Nat.zero_le _⟩) hS (fun I_316 R_317 J_318 AI_319 AJ_320 AR_321 H locs hp_322 hH hS => ?_)
            dsimp only at hp_322
            obtain ⟨rfl, rfl, rfl, hv, q_323, q_324, qfo, qot, qat⟩ := hp_322
            have qat2 := tR_3 (by rw [q61, q67] at qat; exact qat) (by omega) (by omega)
            refine z_goto (tgt := 165) F dX5_readRun_73 (by decide) ?_
            exact g_vret F hr hlk hH hS hz ⟨rfl, rfl, rfl, hv, fun b hb => q_323 b hb, by first | omega | rfl | (dsimp only; omega), qfo, qot, qat2⟩ dX5_readRun_165
      · refine lv_iload F.1 F.2.1 dX5_readRun_12 (lv_at hl 1 rfl) ?_
        refine lv_aload_n F.1 F.2.1 dX5_readRun_14 rfl (lv_at hl 3 rfl) ?_
        refine lv_iload F.1 F.2.1 dX5_readRun_15 (lv_at hl 0 rfl) ?_
        have hx17 : 0 ≤ i ∧ i < ((936 : Nat) : Int) ∧ i ≤ 2147483647 := ⟨by omega, by omega, by omega⟩
        refine g_bald F hH ht hx17.1 hx17.2.1 hx17.2.2 dX5_readRun_17 ?_
        refine z_name (fun v_325 ev_325 => ?_)
        have zv_325 : zr v_325 := by rw [ev_325]; exact zr_t _
        have t17 : v_325 = b (fr.toNat + (i - fr).toNat) := by rw [ev_325, show fr.toNat + (i - fr).toNat = i.toNat by omega]; exact hb _
        refine g_calli (g_runS (As := [.int (iI v_325)]) (rest := [.int (iI dg)]) F hl.1 hH hS hz (c_X5_isDigitf l g  I R J AI AJ AR v_325 zv_325) (va_cwS 1 F.2.2.2.2.1 gX5_readRun_X5_isDigit rfl rfl rfl hdX5_isDigit.2 ⟨Nat.le_of_ble_eq_true rfl, Nat.le_of_ble_eq_true rfl⟩) rfl rfl (Nat.le_of_ble_eq_true rfl) dX5_readRun_18 ⟨Nat.zero_le _, Nat.zero_le _⟩) hS (fun v_332 I_326 R_327 J_328 AI_329 AJ_330 AR_331 H locs zv_332 hp_333 hH hS => ?_)
        dsimp only at hp_333
        obtain ⟨rfl, rfl, rfl, rfl, rfl, rfl, q18⟩ := hp_333
        obtain ⟨q18a, q18b⟩ := q18
        rw [t17] at q18b
        refine z_if_eq (tgt := 28) F dX5_readRun_21 (by decide) zv_332 (fun c_334 => ?_) (fun c_334 => ?_)
        · refine z_iconst F dX5_readRun_28 ?_
          refine z_iadd F dX5_readRun_29 ?_
          refine lv_istore (lv' := [(4, .int (iI (dg + 0))), (5, .int (iI i)), (0, .ref a), (1, .ref t), (2, .int (iI fr)), (3, .int (iI to_))]) F.1 F.2.1 dX5_readRun_30 hl (by decide) rfl (fun ls hl => ?_)
          refine z_iinc (lv' := [(5, .int (iI (i + 1))), (4, .int (iI (dg + 0))), (0, .ref a), (1, .ref t), (2, .int (iI fr)), (3, .int (iI to_))]) F dX5_readRun_32 hl (k := 1) rfl (by decide) rfl (fun ls hl => ?_)
          refine z_goto (tgt := 6) F dX5_readRun_35 (by decide) ?_
          exact ih6 (dg + 0) (i + 1) H locs ls ⟨by omega, by omega⟩ ⟨by omega, by omega⟩ (by omega) (by first | exact tDc_0 (by omega) | exact tDc_1 hd (by omega) (by omega) | exact tDc_2 hd (by omega) (by omega)) (by omega) hH hS (lv_sub hl [0, 1, 2, 3, 4, 5] rfl)
        · refine z_iconst F dX5_readRun_24 ?_
          refine z_goto (tgt := 29) F dX5_readRun_25 (by decide) ?_
          refine z_iadd F dX5_readRun_29 ?_
          refine lv_istore (lv' := [(4, .int (iI (dg + 1))), (5, .int (iI i)), (0, .ref a), (1, .ref t), (2, .int (iI fr)), (3, .int (iI to_))]) F.1 F.2.1 dX5_readRun_30 hl (by decide) rfl (fun ls hl => ?_)
          refine z_iinc (lv' := [(5, .int (iI (i + 1))), (4, .int (iI (dg + 1))), (0, .ref a), (1, .ref t), (2, .int (iI fr)), (3, .int (iI to_))]) F dX5_readRun_32 hl (k := 1) rfl (by decide) rfl (fun ls hl => ?_)
          refine z_goto (tgt := 6) F dX5_readRun_35 (by decide) ?_
          exact ih6 (dg + 1) (i + 1) H locs ls ⟨by omega, by omega⟩ ⟨by omega, by omega⟩ (by omega) (by first | exact tDc_0 (by omega) | exact tDc_1 hd (by omega) (by omega) | exact tDc_2 hd (by omega) (by omega)) (by omega) hH hS (lv_sub hl [0, 1, 2, 3, 4, 5] rfl)
  exact cut_6_0 (((to_ - fr) + 1 : Int).toNat) 0 fr H locs ls ⟨by decide, by decide⟩ zfr (by omega) (by first | exact tDc_0 (by omega) | exact tDc_1 hd (by omega) (by omega) | exact tDc_2 hd (by omega) (by omega)) (by omega) hH hS (lv_sub hl [0, 1, 2, 3, 4, 5] rfl)

def rmX5_readf : Room := { frames := 7, cells := 0, slots := 0, locals := 159 }
set_option maxHeartbeats 4000000 in
set_option maxRecDepth 100000 in
/-- the tokens of a text -/
theorem c_X5_readf (l : Launch) (g : gG) (gh : gGh) (b : tTx) (I : gI) (R : gR) (J : gJ) (AI : gI) (AJ : gJ) (AR : gR) (a : Nat) (t : Nat) (n : Int) (zn : zr n) (hv : gInv g gh R AR I AI) (h5 : gO g a 5) (ht : gAr g t 8 936) (hb : ∀ k : Nat, (AI t k).toInt = b k) (hr7 : ∀ k : Nat, -128 ≤ b k ∧ b k ≤ 127) (hn : 0 ≤ n ∧ n ≤ 900) : gMet l g yX5_read wsX5_read rmX5_readf [.ref a, .ref t, .int (iI n)] (I, R, J, AI, AJ, AR) (gQv g (fun w : gS => R = w.2.1 ∧ J = w.2.2.1 ∧ AR = w.2.2.2.2.2 ∧ (gInv g gh R AR (w.1) (w.2.2.2.1)) ∧ (∀ b, b ≠ a → (w.1) b = I b) ∧ (1 ≤ ((w.1) a 4).toInt ∧ ((w.1) a 4).toInt ≤ n + 1) ∧ (∀ q, q ≠ gh 24 0 → q ≠ gh 25 0 → q ≠ gh 26 0 → (w.2.2.2.1) q = AI q) ∧ ((∀ j : Nat, (j : Int) < ((w.1) a 4).toInt → tOk gh (w.2.2.2.1) (w.2.2.2.2.1) b n.toNat j) ∧ tPs b n.toNat (((w.1) a 4).toInt - 1).toNat = n.toNat ∧ ∀ j : Nat, (j : Int) < ((w.1) a 4).toInt - 1 → tPs b n.toNat j < n.toNat))) := by
  refine gStart (cc := cX5_read) (maxL := 6) (ret := none) (by decide) rfl (Nat.le_of_ble_eq_true rfl) ?_
  intro p e s m below meth c ls F hr hlk hH hz hS hl
  have hl : lv_has ls 6 [(0, .ref a), (1, .ref t), (2, .int (iI n))] := hl
  have hS : va_S (gA g) s.heap s.heap [] := hS
  obtain ⟨H, hHe⟩ : ∃ H : Heap, H = s.heap := ⟨_, rfl⟩
  obtain ⟨locs, hlo⟩ : ∃ k : List Loc, k = [] := ⟨_, rfl⟩
  have hH : gH g I R J AI AJ AR H := by rw [hHe]; exact hH
  have hS : va_S (gA g) s.heap H locs := by rw [hHe, hlo]; exact hS
  suffices hw : W p l e rmX5_readf s m ([.ref a, .ref t, .int (iI n)] : List Value).toArray below meth c H locs 0 0 (MQ below (gQv g (fun w : gS => R = w.2.1 ∧ J = w.2.2.1 ∧ AR = w.2.2.2.2.2 ∧ (gInv g gh R AR (w.1) (w.2.2.2.1)) ∧ (∀ b, b ≠ a → (w.1) b = I b) ∧ (1 ≤ ((w.1) a 4).toInt ∧ ((w.1) a 4).toInt ≤ n + 1) ∧ (∀ q, q ≠ gh 24 0 → q ≠ gh 25 0 → q ≠ gh 26 0 → (w.2.2.2.1) q = AI q) ∧ ((∀ j : Nat, (j : Int) < ((w.1) a 4).toInt → tOk gh (w.2.2.2.1) (w.2.2.2.2.1) b n.toNat j) ∧ tPs b n.toNat (((w.1) a 4).toInt - 1).toNat = n.toNat ∧ ∀ j : Nat, (j : Int) < ((w.1) a 4).toInt - 1 → tPs b n.toNat j < n.toNat))) ([.ref a, .ref t, .int (iI n)] : List Value).toArray s 0 0 (gA g)) (F0 m 0 ls []) by
    rw [hHe, hlo] at hw; exact hw
  clear hHe hlo
  have iX5 : ∀ w ∈ u_ws RX5 TX5 5, w ∈ wsX5_read := (by decide +kernel)
  have k25 : Cond.fieldLink RX5 25 (TX5 4).1 (TX5 4).2.1 (TX5 4).2.2.1 ∈ wsX5_read := List.mem_of_getElem? (i := 1) rfl
  refine lv_aload_n F.1 F.2.1 dX5_read_0 rfl (lv_at hl 0 rfl) ?_
  refine z_iconst F dX5_read_1 ?_
  refine g_putI (ci := 5) (k := 4) F hH hS rfl (by decide) iX5 h5 (by decide) tyX5 tyX5_ok nmX5 rfl rfl rfl k25 dX5_read_2 (fun H locs hH hS => ?_)
  obtain ⟨I_1, eI_1⟩ : ∃ qQ, qQ = gup2 I a 4 (iI (0)) := ⟨_, rfl⟩
  rw [← eI_1] at hH
  have kI_1 : ∀ b, b ≠ a → I_1 b = I b := fun b hb => by rw [eI_1]; exact funext fun j => gup2_a _ _ hb
  have e4 : (I_1 a 4).toInt = 0 := by rw [eI_1, gup2_s]; exact iI_val ⟨by decide, by decide⟩
  have hv : gInv g gh R AR I_1 AI := by rw [eI_1]; exact gInv_tokLen hv h5 (by decide) (by decide) (fun j hj => absurd hj (by omega))
  refine z_iconst F dX5_read_5 ?_
  refine lv_istore_n (lv' := [(3, .int (iI 0)), (0, .ref a), (1, .ref t), (2, .int (iI n))]) F.1 F.2.1 dX5_read_6 rfl hl (by decide) rfl (fun ls hl => ?_)
  have cut_7_4 : ∀ (NN : Nat) (i : Int) (I_2 : gI) (AI_3 : gI) (AJ_4 : gJ) (H : Heap) (locs : List Loc) (ls : Array Slot), zr i → (gInv g gh R AR I_2 AI_3) → (∀ b, b ≠ a → I_2 b = I b) → (0 ≤ i ∧ i ≤ n ∧ 0 ≤ (I_2 a 4).toInt ∧ (I_2 a 4).toInt ≤ i) → (∀ q, q ≠ gh 24 0 → q ≠ gh 25 0 → q ≠ gh 26 0 → AI_3 q = AI q) → (tSk b n.toNat i.toNat = tPs b n.toNat (I_2 a 4).toInt.toNat) → (∀ j : Nat, (j : Int) < (I_2 a 4).toInt → tOk gh AI_3 AJ_4 b n.toNat j ∧ tPs b n.toNat j < n.toNat) → (n - i) < ((NN : Nat) : Int) → gH g I_2 R J AI_3 AJ_4 AR H → va_S (gA g) s.heap H locs → lv_has ls 6 [(3, .int (iI i)), (0, .ref a), (1, .ref t), (2, .int (iI n))] → W p l e rmX5_readf s m ([.ref a, .ref t, .int (iI n)] : List Value).toArray below meth c H locs 0 0 (MQ below (gQv g (fun w : gS => R = w.2.1 ∧ J = w.2.2.1 ∧ AR = w.2.2.2.2.2 ∧ (gInv g gh R AR (w.1) (w.2.2.2.1)) ∧ (∀ b, b ≠ a → (w.1) b = I b) ∧ (1 ≤ ((w.1) a 4).toInt ∧ ((w.1) a 4).toInt ≤ n + 1) ∧ (∀ q, q ≠ gh 24 0 → q ≠ gh 25 0 → q ≠ gh 26 0 → (w.2.2.2.1) q = AI q) ∧ ((∀ j : Nat, (j : Int) < ((w.1) a 4).toInt → tOk gh (w.2.2.2.1) (w.2.2.2.2.1) b n.toNat j) ∧ tPs b n.toNat (((w.1) a 4).toInt - 1).toNat = n.toNat ∧ ∀ j : Nat, (j : Int) < ((w.1) a 4).toInt - 1 → tPs b n.toNat j < n.toNat))) ([.ref a, .ref t, .int (iI n)] : List Value).toArray s 0 0 (gA g)) (F0 m 7 ls []) := by
    intro NN7
    induction NN7 with
    | zero =>
      intro i I_2 AI_3 AJ_4 H locs ls zi hv fI hi fo hj htk hm7 hH hS hl
      exact absurd hm7 (by omega)
    | succ NN7 ih7 =>
      intro i I_2 AI_3 AJ_4 H locs ls zi hv fI hi fo hj htk hm7 hH hS hl
      have hbt : ∀ k : Nat, (AI_3 t k).toInt = b k := fun k => by rw [fo t (tk_t hv h5 ht).1 (tk_t hv h5 ht).2.1 (tk_t hv h5 ht).2.2]; exact hb k
      refine lv_iload_n F.1 F.2.1 dX5_read_7 rfl (lv_at hl 0 rfl) ?_
      refine lv_iload_n F.1 F.2.1 dX5_read_8 rfl (lv_at hl 3 rfl) ?_
      refine z_icmp_ge (tgt := 128) F dX5_read_9 (by decide) zi zn (fun c_6 => ?_) (fun c_6 => ?_)
      · refine lv_aload_n F.1 F.2.1 dX5_read_128 rfl (lv_at hl 1 rfl) ?_
        refine z_iconst F dX5_read_129 ?_
        refine lv_iload_n F.1 F.2.1 dX5_read_130 rfl (lv_at hl 3 rfl) ?_
        refine z_iconst F dX5_read_131 ?_
        refine lv_lconst (v := 0) F.1 F.2.1 dX5_read_132 (by decide) ?_
        have b_8 := gI_tk hv h5
        refine g_callv (g_runV (As := [.int (iI 0), .int (iI n), .int (iI 0), .long 0]) (rest := []) (ci := 5) F hl.1 hH hS hz (c_X5_addTokenf l g gh I_2 R J AI_3 AJ_4 AR a 0 n 0 0 ⟨by decide, by decide⟩ zn ⟨by decide, by decide⟩ hv h5 (by omega) (by omega)) (cwV 4 F.2.2.2.2.1 gX5_read_X5_addToken rfl rfl rfl hdX5_addToken ⟨Nat.le_of_ble_eq_true rfl, Nat.le_of_ble_eq_true rfl⟩) h5 (by decide) rfl rfl rfl (Nat.le_of_ble_eq_true rfl) dX5_read_133 ⟨Nat.zero_le _, Nat.zero_le _⟩) hS (fun I_9 R_10 J_11 AI_12 AJ_13 AR_14 H locs hp_15 hH hS => ?_)
        dsimp only at hp_15
        obtain ⟨rfl, rfl, rfl, hv, fq, e4q, foq, otq, atq⟩ := hp_15
        have hps : tPs b n.toNat (I_2 a 4).toInt.toNat = n.toNat := by rw [← hj, show i = n by omega]; exact tSk_n (Nat.le_refl _)
        have fo := rd_fo fo foq
        have htk2 := rd_tke htk otq e4q hps (rd_en atq hps (by omega))
        exact g_vret F hr hlk hH hS hz ⟨rfl, rfl, rfl, hv, fun b hb => (fq b hb).trans (fI b hb), by first | omega | rfl | (dsimp only; omega), fo, htk2⟩ dX5_read_136
      · refine lv_iload_n F.1 F.2.1 dX5_read_12 rfl (lv_at hl 0 rfl) ?_
        refine lv_istore (lv' := [(4, .int (iI i)), (3, .int (iI i)), (0, .ref a), (1, .ref t), (2, .int (iI n))]) F.1 F.2.1 dX5_read_13 hl (by decide) rfl (fun ls hl => ?_)
        refine z_iinc (lv' := [(3, .int (iI (i + 1))), (4, .int (iI i)), (0, .ref a), (1, .ref t), (2, .int (iI n))]) F dX5_read_15 hl (k := 1) rfl (by decide) rfl (fun ls hl => ?_)
        refine lv_aload_n F.1 F.2.1 dX5_read_18 rfl (lv_at hl 3 rfl) ?_
        refine lv_iload F.1 F.2.1 dX5_read_19 (lv_at hl 1 rfl) ?_
        have hx21 : 0 ≤ i ∧ i < ((936 : Nat) : Int) ∧ i ≤ 2147483647 := ⟨by omega, by omega, by omega⟩
        refine g_bald F hH ht hx21.1 hx21.2.1 hx21.2.2 dX5_read_21 ?_
        refine z_name (fun v_16 ev_16 => ?_)
        have zv_16 : zr v_16 := by rw [ev_16]; exact zr_t _
        have t21 : v_16 = b i.toNat := by rw [ev_16]; exact hbt _
        have ri := hr7 i.toNat
        refine g_calli (g_runS (As := [.int (iI v_16)]) (rest := []) F hl.1 hH hS hz (c_X5_isRunSignf l g  I_2 R J AI_3 AJ_4 AR v_16 zv_16) (va_cwS 1 F.2.2.2.2.1 gX5_read_X5_isRunSign rfl rfl rfl hdX5_isRunSign.2 ⟨Nat.le_of_ble_eq_true rfl, Nat.le_of_ble_eq_true rfl⟩) rfl rfl (Nat.le_of_ble_eq_true rfl) dX5_read_22 ⟨Nat.zero_le _, Nat.zero_le _⟩) hS (fun v_23 I_17 R_18 J_19 AI_20 AJ_21 AR_22 H locs zv_23 hp_24 hH hS => ?_)
        dsimp only at hp_24
        obtain ⟨rfl, rfl, rfl, rfl, rfl, rfl, q22⟩ := hp_24
        obtain ⟨q22a, q22b⟩ := q22
        rw [t21] at q22b
        refine z_if_eq (tgt := 59) F dX5_read_25 (by decide) zv_23 (fun c_25 => ?_) (fun c_25 => ?_)
        · refine lv_aload_n F.1 F.2.1 dX5_read_59 rfl (lv_at hl 3 rfl) ?_
          refine lv_iload F.1 F.2.1 dX5_read_60 (lv_at hl 1 rfl) ?_
          have hx62 : 0 ≤ i ∧ i < ((936 : Nat) : Int) ∧ i ≤ 2147483647 := ⟨by omega, by omega, by omega⟩
          refine g_bald F hH ht hx62.1 hx62.2.1 hx62.2.2 dX5_read_62 ?_
          refine z_name (fun v_26 ev_26 => ?_)
          have zv_26 : zr v_26 := by rw [ev_26]; exact zr_t _
          have t62 : v_26 = b i.toNat := by rw [ev_26]; exact hbt _
          refine z_bipush F dX5_read_63 (by decide) ?_
          refine z_icmp_eq (tgt := 125) F dX5_read_65 (by decide) zv_26 ⟨by decide, by decide⟩ (fun c_27 => ?_) (fun c_27 => ?_)
          · refine z_goto (tgt := 7) F dX5_read_125 (by decide) ?_
            exact ih7 (i + 1) I_2 AI_3 AJ_4 H locs ls ⟨by omega, by omega⟩ hv (fun b hb => fI b hb) (by omega) (by first | exact fo | exact (fun _ _ _ _ => rfl)) (by first | exact hj2 | exact tPs_00 (by omega) | exact tPs_bl hj (by omega) (by omega)) (by first | exact htk2 | exact (fun j hj => absurd hj (by omega)) | exact htk) (by omega) hH hS (lv_sub hl [0, 2, 3, 4] rfl)
          · refine lv_aload_n F.1 F.2.1 dX5_read_68 rfl (lv_at hl 3 rfl) ?_
            refine lv_iload F.1 F.2.1 dX5_read_69 (lv_at hl 1 rfl) ?_
            have hx71 : 0 ≤ i ∧ i < ((936 : Nat) : Int) ∧ i ≤ 2147483647 := ⟨by omega, by omega, by omega⟩
            refine g_bald F hH ht hx71.1 hx71.2.1 hx71.2.2 dX5_read_71 ?_
            refine z_name (fun v_28 ev_28 => ?_)
            have zv_28 : zr v_28 := by rw [ev_28]; exact zr_t _
            have t71 : v_28 = b i.toNat := by rw [ev_28]; exact hbt _
            refine z_bipush F dX5_read_72 (by decide) ?_
            refine z_icmp_eq (tgt := 125) F dX5_read_74 (by decide) zv_28 ⟨by decide, by decide⟩ (fun c_29 => ?_) (fun c_29 => ?_)
            · refine z_goto (tgt := 7) F dX5_read_125 (by decide) ?_
              exact ih7 (i + 1) I_2 AI_3 AJ_4 H locs ls ⟨by omega, by omega⟩ hv (fun b hb => fI b hb) (by omega) (by first | exact fo | exact (fun _ _ _ _ => rfl)) (by first | exact hj2 | exact tPs_00 (by omega) | exact tPs_bl hj (by omega) (by omega)) (by first | exact htk2 | exact (fun j hj => absurd hj (by omega)) | exact htk) (by omega) hH hS (lv_sub hl [0, 2, 3, 4] rfl)
            · refine lv_aload_n F.1 F.2.1 dX5_read_77 rfl (lv_at hl 3 rfl) ?_
              refine lv_iload F.1 F.2.1 dX5_read_78 (lv_at hl 1 rfl) ?_
              have hx80 : 0 ≤ i ∧ i < ((936 : Nat) : Int) ∧ i ≤ 2147483647 := ⟨by omega, by omega, by omega⟩
              refine g_bald F hH ht hx80.1 hx80.2.1 hx80.2.2 dX5_read_80 ?_
              refine z_name (fun v_30 ev_30 => ?_)
              have zv_30 : zr v_30 := by rw [ev_30]; exact zr_t _
              have t80 : v_30 = b i.toNat := by rw [ev_30]; exact hbt _
              refine z_if_le (tgt := 101) F dX5_read_81 (by decide) zv_30 (fun c_31 => ?_) (fun c_31 => ?_)
              · refine z_iconst F dX5_read_101 ?_
                refine lv_istore (lv' := [(5, .int (iI 0)), (3, .int (iI (i + 1))), (4, .int (iI i)), (0, .ref a), (1, .ref t), (2, .int (iI n))]) F.1 F.2.1 dX5_read_102 hl (by decide) rfl (fun ls hl => ?_)
                refine lv_aload_n F.1 F.2.1 dX5_read_104 rfl (lv_at hl 3 rfl) ?_
                refine lv_iload F.1 F.2.1 dX5_read_105 (lv_at hl 0 rfl) ?_
                refine z_if_eq (tgt := 117) F dX5_read_107 (by decide) ⟨by decide, by decide⟩ (fun c_32 => ?_) (fun c_32 => ?_)
                · refine z_iconst F dX5_read_117 ?_
                  refine lv_iload F.1 F.2.1 dX5_read_118 (lv_at hl 2 rfl) ?_
                  refine z_iconst F dX5_read_120 ?_
                  refine lv_lconst (v := 0) F.1 F.2.1 dX5_read_121 (by decide) ?_
                  have b_34 := gI_tk hv h5
                  refine g_callv (g_runV (As := [.int (iI 1), .int (iI i), .int (iI 0), .long 0]) (rest := []) (ci := 5) F hl.1 hH hS hz (c_X5_addTokenf l g gh I_2 R J AI_3 AJ_4 AR a 1 i 0 0 ⟨by decide, by decide⟩ zi ⟨by decide, by decide⟩ hv h5 (by omega) (by omega)) (cwV 4 F.2.2.2.2.1 gX5_read_X5_addToken rfl rfl rfl hdX5_addToken ⟨Nat.le_of_ble_eq_true rfl, Nat.le_of_ble_eq_true rfl⟩) h5 (by decide) rfl rfl rfl (Nat.le_of_ble_eq_true rfl) dX5_read_122 ⟨Nat.zero_le _, Nat.zero_le _⟩) hS (fun I_35 R_36 J_37 AI_38 AJ_39 AR_40 H locs hp_41 hH hS => ?_)
                  dsimp only at hp_41
                  obtain ⟨rfl, rfl, rfl, hv, fq, e4q, foq, otq, atq⟩ := hp_41
                  have hps : tPs b n.toNat (I_2 a 4).toInt.toNat = i.toNat := rd_ps hj (by omega) (by omega)
                  have fo := rd_fo fo foq
                  have hj2 := rd_j1 hps e4q (by omega) (by omega) (by omega)
                  have htk2 := rd_tk htk otq e4q hps (by omega) (rd_sg atq hps (by omega) (by omega) (by omega))
                  refine z_goto (tgt := 7) F dX5_read_125 (by decide) ?_
                  exact ih7 (i + 1) I_35 AI_38 AJ_39 H locs ls ⟨by omega, by omega⟩ hv (fun b hb => (fq b hb).trans (fI b hb)) (by omega) (by first | exact fo | exact (fun _ _ _ _ => rfl)) (by first | exact hj2 | exact tPs_00 (by omega) | exact tPs_bl hj (by omega) (by omega)) (by first | exact htk2 | exact (fun j hj => absurd hj (by omega)) | exact htk) (by omega) hH hS (lv_sub hl [1, 3, 4, 5] rfl)
                · exact absurd trivial (by omega)
              · refine va_ldcS F.1 F.2.1 F.2.2.2.1 (F.2.2.2.2.2.2.1 1 _ rfl).1 dX5_read_84 ?_
                refine lv_aload_n F.1 F.2.1 dX5_read_86 rfl (lv_at hl 3 rfl) ?_
                refine lv_iload F.1 F.2.1 dX5_read_87 (lv_at hl 1 rfl) ?_
                have hx89 : 0 ≤ i ∧ i < ((936 : Nat) : Int) ∧ i ≤ 2147483647 := ⟨by omega, by omega, by omega⟩
                refine g_bald F hH ht hx89.1 hx89.2.1 hx89.2.2 dX5_read_89 ?_
                refine z_name (fun v_42 ev_42 => ?_)
                have zv_42 : zr v_42 := by rw [ev_42]; exact zr_t _
                have t89 : v_42 = b i.toNat := by rw [ev_42]; exact hbt _
                refine lv_i2c F.1 F.2.1 dX5_read_90 rfl ?_
                refine z_top (fun v_43 zv_43 ev_43 => ?_)
                have e90 := z_i2cA ev_43 (by omega) (by omega)
                refine g_calli (g_runVS (As := [.int (iI v_43)]) (rest := []) F hl.1 hH hS hz (rfl : sTab[1]? = some _) (c_J0_indexOf_0f7a4f l g 1 _ I_2 R J AI_3 AJ_4 AR v_43 zv_43 (rfl : sTab[1]? = some _) (by omega)) (cwV 1 F.2.2.2.2.1 gX5_read_J0_indexOf_0f7a4 rfl rfl rfl hdJ0_indexOf_0f7a4 ⟨Nat.le_of_ble_eq_true rfl, Nat.le_of_ble_eq_true rfl⟩) rfl rfl (Nat.le_of_ble_eq_true rfl) dX5_read_91 ⟨Nat.zero_le _, Nat.zero_le _⟩) hS (fun v_50 I_44 R_45 J_46 AI_47 AJ_48 AR_49 H locs zv_50 hp_51 hH hS => ?_)
                dsimp only at hp_51
                obtain ⟨rfl, rfl, rfl, rfl, rfl, rfl, q91⟩ := hp_51
                have hsg := sg_ix q91
                refine z_if_lt (tgt := 101) F dX5_read_94 (by decide) zv_50 (fun c_52 => ?_) (fun c_52 => ?_)
                · refine z_iconst F dX5_read_101 ?_
                  refine lv_istore (lv' := [(5, .int (iI 0)), (3, .int (iI (i + 1))), (4, .int (iI i)), (0, .ref a), (1, .ref t), (2, .int (iI n))]) F.1 F.2.1 dX5_read_102 hl (by decide) rfl (fun ls hl => ?_)
                  refine lv_aload_n F.1 F.2.1 dX5_read_104 rfl (lv_at hl 3 rfl) ?_
                  refine lv_iload F.1 F.2.1 dX5_read_105 (lv_at hl 0 rfl) ?_
                  refine z_if_eq (tgt := 117) F dX5_read_107 (by decide) ⟨by decide, by decide⟩ (fun c_53 => ?_) (fun c_53 => ?_)
                  · refine z_iconst F dX5_read_117 ?_
                    refine lv_iload F.1 F.2.1 dX5_read_118 (lv_at hl 2 rfl) ?_
                    refine z_iconst F dX5_read_120 ?_
                    refine lv_lconst (v := 0) F.1 F.2.1 dX5_read_121 (by decide) ?_
                    have b_55 := gI_tk hv h5
                    refine g_callv (g_runV (As := [.int (iI 1), .int (iI i), .int (iI 0), .long 0]) (rest := []) (ci := 5) F hl.1 hH hS hz (c_X5_addTokenf l g gh I_2 R J AI_3 AJ_4 AR a 1 i 0 0 ⟨by decide, by decide⟩ zi ⟨by decide, by decide⟩ hv h5 (by omega) (by omega)) (cwV 4 F.2.2.2.2.1 gX5_read_X5_addToken rfl rfl rfl hdX5_addToken ⟨Nat.le_of_ble_eq_true rfl, Nat.le_of_ble_eq_true rfl⟩) h5 (by decide) rfl rfl rfl (Nat.le_of_ble_eq_true rfl) dX5_read_122 ⟨Nat.zero_le _, Nat.zero_le _⟩) hS (fun I_56 R_57 J_58 AI_59 AJ_60 AR_61 H locs hp_62 hH hS => ?_)
                    dsimp only at hp_62
                    obtain ⟨rfl, rfl, rfl, hv, fq, e4q, foq, otq, atq⟩ := hp_62
                    have hps : tPs b n.toNat (I_2 a 4).toInt.toNat = i.toNat := rd_ps hj (by omega) (by omega)
                    have fo := rd_fo fo foq
                    have hj2 := rd_j1 hps e4q (by omega) (by omega) (by omega)
                    have htk2 := rd_tk htk otq e4q hps (by omega) (rd_sg atq hps (by omega) (by omega) (by omega))
                    refine z_goto (tgt := 7) F dX5_read_125 (by decide) ?_
                    exact ih7 (i + 1) I_56 AI_59 AJ_60 H locs ls ⟨by omega, by omega⟩ hv (fun b hb => (fq b hb).trans (fI b hb)) (by omega) (by first | exact fo | exact (fun _ _ _ _ => rfl)) (by first | exact hj2 | exact tPs_00 (by omega) | exact tPs_bl hj (by omega) (by omega)) (by first | exact htk2 | exact (fun j hj => absurd hj (by omega)) | exact htk) (by omega) hH hS (lv_sub hl [1, 3, 4, 5] rfl)
                  · exact absurd trivial (by omega)
                · refine z_iconst F dX5_read_97 ?_
                  refine z_goto (tgt := 102) F dX5_read_98 (by decide) ?_
                  refine lv_istore (lv' := [(5, .int (iI 1)), (3, .int (iI (i + 1))), (4, .int (iI i)), (0, .ref a), (1, .ref t), (2, .int (iI n))]) F.1 F.2.1 dX5_read_102 hl (by decide) rfl (fun ls hl => ?_)
                  refine lv_aload_n F.1 F.2.1 dX5_read_104 rfl (lv_at hl 3 rfl) ?_
                  refine lv_iload F.1 F.2.1 dX5_read_105 (lv_at hl 0 rfl) ?_
                  refine z_if_eq (tgt := 117) F dX5_read_107 (by decide) ⟨by decide, by decide⟩ (fun c_63 => ?_) (fun c_63 => ?_)
                  · exact absurd trivial (by omega)
                  · refine lv_aload_n F.1 F.2.1 dX5_read_110 rfl (lv_at hl 4 rfl) ?_
                    refine lv_iload F.1 F.2.1 dX5_read_111 (lv_at hl 2 rfl) ?_
                    have hx113 : 0 ≤ i ∧ i < ((936 : Nat) : Int) ∧ i ≤ 2147483647 := ⟨by omega, by omega, by omega⟩
                    refine g_bald F hH ht hx113.1 hx113.2.1 hx113.2.2 dX5_read_113 ?_
                    refine z_name (fun v_64 ev_64 => ?_)
                    have zv_64 : zr v_64 := by rw [ev_64]; exact zr_t _
                    have t113 : v_64 = b i.toNat := by rw [ev_64]; exact hbt _
                    refine z_goto (tgt := 118) F dX5_read_114 (by decide) ?_
                    refine lv_iload F.1 F.2.1 dX5_read_118 (lv_at hl 2 rfl) ?_
                    refine z_iconst F dX5_read_120 ?_
                    refine lv_lconst (v := 0) F.1 F.2.1 dX5_read_121 (by decide) ?_
                    have b_66 := gI_tk hv h5
                    refine g_callv (g_runV (As := [.int (iI v_64), .int (iI i), .int (iI 0), .long 0]) (rest := []) (ci := 5) F hl.1 hH hS hz (c_X5_addTokenf l g gh I_2 R J AI_3 AJ_4 AR a v_64 i 0 0 zv_64 zi ⟨by decide, by decide⟩ hv h5 (by omega) (by omega)) (cwV 4 F.2.2.2.2.1 gX5_read_X5_addToken rfl rfl rfl hdX5_addToken ⟨Nat.le_of_ble_eq_true rfl, Nat.le_of_ble_eq_true rfl⟩) h5 (by decide) rfl rfl rfl (Nat.le_of_ble_eq_true rfl) dX5_read_122 ⟨Nat.zero_le _, Nat.zero_le _⟩) hS (fun I_67 R_68 J_69 AI_70 AJ_71 AR_72 H locs hp_73 hH hS => ?_)
                    dsimp only at hp_73
                    obtain ⟨rfl, rfl, rfl, hv, fq, e4q, foq, otq, atq⟩ := hp_73
                    have hps : tPs b n.toNat (I_2 a 4).toInt.toNat = i.toNat := rd_ps hj (by omega) (by omega)
                    have fo := rd_fo fo foq
                    have hj2 := rd_j1 hps e4q (by omega) (by omega) (by omega)
                    have htk2 := rd_tk htk otq e4q hps (by omega) (rd_sg atq hps (by omega) (by omega) (by omega))
                    refine z_goto (tgt := 7) F dX5_read_125 (by decide) ?_
                    exact ih7 (i + 1) I_67 AI_70 AJ_71 H locs ls ⟨by omega, by omega⟩ hv (fun b hb => (fq b hb).trans (fI b hb)) (by omega) (by first | exact fo | exact (fun _ _ _ _ => rfl)) (by first | exact hj2 | exact tPs_00 (by omega) | exact tPs_bl hj (by omega) (by omega)) (by first | exact htk2 | exact (fun j hj => absurd hj (by omega)) | exact htk) (by omega) hH hS (lv_sub hl [1, 3, 4, 5] rfl)
        · have cut_28_73 : ∀ (NN : Nat) (i2 : Int) (H : Heap) (locs : List Loc) (ls : Array Slot), zr i2 → (i < i2 ∧ i2 ≤ n) → (∀ j : Nat, i.toNat ≤ j → (j : Int) < i2 → tRu (b j)) → (n - i2) < ((NN : Nat) : Int) → gH g I_2 R J AI_3 AJ_4 AR H → va_S (gA g) s.heap H locs → lv_has ls 6 [(3, .int (iI i2)), (4, .int (iI i)), (0, .ref a), (1, .ref t), (2, .int (iI n))] → W p l e rmX5_readf s m ([.ref a, .ref t, .int (iI n)] : List Value).toArray below meth c H locs 0 0 (MQ below (gQv g (fun w : gS => R = w.2.1 ∧ J = w.2.2.1 ∧ AR = w.2.2.2.2.2 ∧ (gInv g gh R AR (w.1) (w.2.2.2.1)) ∧ (∀ b, b ≠ a → (w.1) b = I b) ∧ (1 ≤ ((w.1) a 4).toInt ∧ ((w.1) a 4).toInt ≤ n + 1) ∧ (∀ q, q ≠ gh 24 0 → q ≠ gh 25 0 → q ≠ gh 26 0 → (w.2.2.2.1) q = AI q) ∧ ((∀ j : Nat, (j : Int) < ((w.1) a 4).toInt → tOk gh (w.2.2.2.1) (w.2.2.2.2.1) b n.toNat j) ∧ tPs b n.toNat (((w.1) a 4).toInt - 1).toNat = n.toNat ∧ ∀ j : Nat, (j : Int) < ((w.1) a 4).toInt - 1 → tPs b n.toNat j < n.toNat))) ([.ref a, .ref t, .int (iI n)] : List Value).toArray s 0 0 (gA g)) (F0 m 28 ls []) := by
            intro NN28
            induction NN28 with
            | zero =>
              intro i2 H locs ls zi2 hi2 hru hm28 hH hS hl
              exact absurd hm28 (by omega)
            | succ NN28 ih28 =>
              intro i2 H locs ls zi2 hi2 hru hm28 hH hS hl
              refine lv_iload_n F.1 F.2.1 dX5_read_28 rfl (lv_at hl 0 rfl) ?_
              refine lv_iload_n F.1 F.2.1 dX5_read_29 rfl (lv_at hl 4 rfl) ?_
              refine z_icmp_ge (tgt := 48) F dX5_read_30 (by decide) zi2 zn (fun c_75 => ?_) (fun c_75 => ?_)
              · refine lv_aload_n F.1 F.2.1 dX5_read_48 rfl (lv_at hl 2 rfl) ?_
                refine lv_aload_n F.1 F.2.1 dX5_read_49 rfl (lv_at hl 3 rfl) ?_
                refine lv_iload F.1 F.2.1 dX5_read_50 (lv_at hl 1 rfl) ?_
                refine lv_iload_n F.1 F.2.1 dX5_read_52 rfl (lv_at hl 0 rfl) ?_
                have b_76 := gI_tk hv h5
                refine g_callv (g_runV (As := [.ref t, .int (iI i), .int (iI i2)]) (rest := []) (ci := 5) F hl.1 hH hS hz (c_X5_readRunf l g gh b I_2 R J AI_3 AJ_4 AR a t i i2 zi zi2 hv h5 (by omega) ht hbt (by omega) (by omega) (by omega) (by omega)) (cwV 3 F.2.2.2.2.1 gX5_read_X5_readRun rfl rfl rfl hdX5_readRun ⟨Nat.le_of_ble_eq_true rfl, Nat.le_of_ble_eq_true rfl⟩) h5 (by decide) rfl rfl rfl (Nat.le_of_ble_eq_true rfl) dX5_read_53 ⟨Nat.zero_le _, Nat.zero_le _⟩) hS (fun I_77 R_78 J_79 AI_80 AJ_81 AR_82 H locs hp_83 hH hS => ?_)
                dsimp only at hp_83
                obtain ⟨rfl, rfl, rfl, hv, fq, e4q, foq, otq, atq⟩ := hp_83
                have hend : tRn b n.toNat i.toNat = i2.toNat := rd_end hru (by omega) (by omega) (by omega)
                have hps : tPs b n.toNat (I_2 a 4).toInt.toNat = i.toNat := rd_ps hj (by omega) (by omega)
                have fo := rd_fo fo foq
                have hj2 := rd_j hps hend e4q (by omega) (by omega) (by omega)
                have htk2 := rd_tk htk otq e4q hps (by omega) (rd_run atq hps hend (by omega) (by omega) (by omega))
                refine z_goto (tgt := 125) F dX5_read_56 (by decide) ?_
                refine z_goto (tgt := 7) F dX5_read_125 (by decide) ?_
                exact ih7 i2 I_77 AI_80 AJ_81 H locs ls zi2 hv (fun b hb => (fq b hb).trans (fI b hb)) (by omega) (by first | exact fo | exact (fun _ _ _ _ => rfl)) (by first | exact hj2 | exact tPs_00 (by omega) | exact tPs_bl hj (by omega) (by omega)) (by first | exact htk2 | exact (fun j hj => absurd hj (by omega)) | exact htk) (by omega) hH hS (lv_sub hl [0, 2, 3, 4] rfl)
              · refine lv_aload_n F.1 F.2.1 dX5_read_33 rfl (lv_at hl 3 rfl) ?_
                refine lv_iload_n F.1 F.2.1 dX5_read_34 rfl (lv_at hl 0 rfl) ?_
                have hx35 : 0 ≤ i2 ∧ i2 < ((936 : Nat) : Int) ∧ i2 ≤ 2147483647 := ⟨by omega, by omega, by omega⟩
                refine g_bald F hH ht hx35.1 hx35.2.1 hx35.2.2 dX5_read_35 ?_
                refine z_name (fun v_84 ev_84 => ?_)
                have zv_84 : zr v_84 := by rw [ev_84]; exact zr_t _
                have t35 : v_84 = b i2.toNat := by rw [ev_84]; exact hbt _
                refine g_calli (g_runS (As := [.int (iI v_84)]) (rest := []) F hl.1 hH hS hz (c_X5_isRunSignf l g  I_2 R J AI_3 AJ_4 AR v_84 zv_84) (va_cwS 1 F.2.2.2.2.1 gX5_read_X5_isRunSign rfl rfl rfl hdX5_isRunSign.2 ⟨Nat.le_of_ble_eq_true rfl, Nat.le_of_ble_eq_true rfl⟩) rfl rfl (Nat.le_of_ble_eq_true rfl) dX5_read_36 ⟨Nat.zero_le _, Nat.zero_le _⟩) hS (fun v_91 I_85 R_86 J_87 AI_88 AJ_89 AR_90 H locs zv_91 hp_92 hH hS => ?_)
                dsimp only at hp_92
                obtain ⟨rfl, rfl, rfl, rfl, rfl, rfl, q36⟩ := hp_92
                obtain ⟨q36a, q36b⟩ := q36
                rw [t35] at q36b
                refine z_if_eq (tgt := 48) F dX5_read_39 (by decide) zv_91 (fun c_93 => ?_) (fun c_93 => ?_)
                · refine lv_aload_n F.1 F.2.1 dX5_read_48 rfl (lv_at hl 2 rfl) ?_
                  refine lv_aload_n F.1 F.2.1 dX5_read_49 rfl (lv_at hl 3 rfl) ?_
                  refine lv_iload F.1 F.2.1 dX5_read_50 (lv_at hl 1 rfl) ?_
                  refine lv_iload_n F.1 F.2.1 dX5_read_52 rfl (lv_at hl 0 rfl) ?_
                  have b_94 := gI_tk hv h5
                  refine g_callv (g_runV (As := [.ref t, .int (iI i), .int (iI i2)]) (rest := []) (ci := 5) F hl.1 hH hS hz (c_X5_readRunf l g gh b I_2 R J AI_3 AJ_4 AR a t i i2 zi zi2 hv h5 (by omega) ht hbt (by omega) (by omega) (by omega) (by omega)) (cwV 3 F.2.2.2.2.1 gX5_read_X5_readRun rfl rfl rfl hdX5_readRun ⟨Nat.le_of_ble_eq_true rfl, Nat.le_of_ble_eq_true rfl⟩) h5 (by decide) rfl rfl rfl (Nat.le_of_ble_eq_true rfl) dX5_read_53 ⟨Nat.zero_le _, Nat.zero_le _⟩) hS (fun I_95 R_96 J_97 AI_98 AJ_99 AR_100 H locs hp_101 hH hS => ?_)
                  dsimp only at hp_101
                  obtain ⟨rfl, rfl, rfl, hv, fq, e4q, foq, otq, atq⟩ := hp_101
                  have hend : tRn b n.toNat i.toNat = i2.toNat := rd_end hru (by omega) (by omega) (by omega)
                  have hps : tPs b n.toNat (I_2 a 4).toInt.toNat = i.toNat := rd_ps hj (by omega) (by omega)
                  have fo := rd_fo fo foq
                  have hj2 := rd_j hps hend e4q (by omega) (by omega) (by omega)
                  have htk2 := rd_tk htk otq e4q hps (by omega) (rd_run atq hps hend (by omega) (by omega) (by omega))
                  refine z_goto (tgt := 125) F dX5_read_56 (by decide) ?_
                  refine z_goto (tgt := 7) F dX5_read_125 (by decide) ?_
                  exact ih7 i2 I_95 AI_98 AJ_99 H locs ls zi2 hv (fun b hb => (fq b hb).trans (fI b hb)) (by omega) (by first | exact fo | exact (fun _ _ _ _ => rfl)) (by first | exact hj2 | exact tPs_00 (by omega) | exact tPs_bl hj (by omega) (by omega)) (by first | exact htk2 | exact (fun j hj => absurd hj (by omega)) | exact htk) (by omega) hH hS (lv_sub hl [0, 2, 3, 4] rfl)
                · refine z_iinc (lv' := [(3, .int (iI (i2 + 1))), (4, .int (iI i)), (0, .ref a), (1, .ref t), (2, .int (iI n))]) F dX5_read_42 hl (k := 0) rfl (by decide) rfl (fun ls hl => ?_)
                  refine z_goto (tgt := 28) F dX5_read_45 (by decide) ?_
                  exact ih28 (i2 + 1) H locs ls ⟨by omega, by omega⟩ (by omega) (by first | exact ru_0 (by omega) (by omega) | exact ru_1 hru (by omega) (by omega)) (by omega) hH hS (lv_sub hl [0, 1, 2, 3, 4] rfl)
          exact cut_28_73 (((n - (i + 1)) + 1 : Int).toNat) (i + 1) H locs ls ⟨by omega, by omega⟩ (by omega) (by first | exact ru_0 (by omega) (by omega) | exact ru_1 hru (by omega) (by omega)) (by omega) hH hS (lv_sub hl [0, 1, 2, 3, 4] rfl)
  exact cut_7_4 (((n - 0) + 1 : Int).toNat) 0 I_1 AI AJ H locs ls ⟨by decide, by decide⟩ hv (fun b hb => kI_1 b hb) (by omega) (by first | exact fo | exact (fun _ _ _ _ => rfl)) (by first | exact hj2 | exact tPs_00 (by omega) | exact tPs_bl hj (by omega) (by omega)) (by first | exact htk2 | exact (fun j hj => absurd hj (by omega)) | exact htk) (by omega) hH hS (lv_sub hl [0, 1, 2, 3] rfl)
