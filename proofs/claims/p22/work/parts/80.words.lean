section
/-! names and words: what the class packs and what the reference packs tell the same letters -/
def uB (x : Int64) : Nat := x.toBitVec.toNat
theorem uB_inj {x y : Int64} (h : uB x = uB y) : x = y := sorry
theorem uB_i {z : Int} (h0 : 0 ≤ z) (h1 : z ≤ 255) : uB (iI z).toInt64 = z.toNat := sorry
theorem uB_s {x y : Int64} (hx : uB x < 2 ^ 40) (hy : uB y < 32) : uB ((x <<< ((iI 5).toInt64 &&& 63)) ||| y) = 32 * uB x + uB y := sorry
theorem uB_m {x y : Int64} (h : 256 * uB x + uB y < 2 ^ 64) : uB (256 * x + y) = 256 * uB x + uB y := sorry
theorem uB_0 : uB 0 = 0 := sorry
theorem tNm_e {b : tTx} {k m : Nat} : tNm b k (m + 1) = ((tNm b k m <<< ((iI 5).toInt64 &&& 63)) ||| (iI (b (k + m) - 97 + 1)).toInt64) := sorry
theorem tMw_e {b : tTx} {k m : Nat} : tMw b k (m + 1) = if m < 8 then 256 * tMw b k m + (iI (b (k + m) % 256)).toInt64 else tMw b k m := sorry
abbrev tLt (b : tTx) (k m : Nat) : Prop := ∀ j, j < m → 97 ≤ b (k + j) ∧ b (k + j) ≤ 122
theorem tNm_u {b : tTx} {k : Nat} : ∀ {m}, tLt b k (m + 1) → m + 1 ≤ 8 → uB (tNm b k (m + 1)) = 32 * uB (tNm b k m) + (b (k + m) - 96).toNat ∧ uB (tNm b k m) < 32 ^ m := sorry
theorem tMw_u {b : tTx} {k : Nat} : ∀ {m}, tLt b k (m + 1) → m + 1 ≤ 8 → uB (tMw b k (m + 1)) = 256 * uB (tMw b k m) + (b (k + m)).toNat ∧ uB (tMw b k m) < 256 ^ m := sorry
theorem tNm_i {b b' : tTx} {k k' : Nat} : ∀ {m m'}, tLt b k m → tLt b' k' m' → m ≤ 8 → m' ≤ 8 → tNm b k m = tNm b' k' m' → m = m' ∧ ∀ j, j < m → b (k + j) = b' (k' + j) := sorry
theorem tMw_i {b b' : tTx} {k k' : Nat} : ∀ {m m'}, tLt b k m → tLt b' k' m' → m ≤ 8 → m' ≤ 8 → tMw b k m = tMw b' k' m' → m = m' ∧ ∀ j, j < m → b (k + j) = b' (k' + j) := sorry
theorem tNm_c {b b' : tTx} {k k' : Nat} : ∀ {m}, (∀ j, j < m → b (k + j) = b' (k' + j)) → tNm b k m = tNm b' k' m := sorry
theorem tMw_c {b b' : tTx} {k k' : Nat} : ∀ {m}, (∀ j, j < m → b (k + j) = b' (k' + j)) → tMw b k m = tMw b' k' m := sorry
/-- two names are one just where both sides say so -/
theorem nm_mw {b b' : tTx} {k k' m m' : Nat} (h : tLt b k m) (h' : tLt b' k' m') (hm : m ≤ 8) (hm' : m' ≤ 8) : tNm b k m = tNm b' k' m' ↔ tMw b k m = tMw b' k' m' := sorry
theorem wOne : ∀ w, w < 20 → ∀ v, v < 20 → wLn w = wLn v → (∀ j, j < wLn w → wCh (wSt w + j) = wCh (wSt v + j)) → w = v := sorry
theorem wLet : ∀ w, w < 20 → wLn w ≤ 8 ∧ ∀ j, j < wLn w → 97 ≤ wCh (wSt w + j) ∧ wCh (wSt w + j) ≤ 122 := sorry
theorem tWn_i {b : tTx} {k m w : Nat} (hw : w < 20) : tWn b k m = (w : Int) ↔ tWa b k m w := sorry
theorem tWa_mw {b : tTx} {k m w : Nat} (hw : w < 20) (h : tLt b k m) (hm : m ≤ 8) : tWa b k m w ↔ tMw b k m = tMw wCh (wSt w) (wLn w) := sorry
theorem tWf_r {b : tTx} {k m : Nat} : ∀ f w, -1 ≤ tWf b k m f w ∧ tWf b k m f w < (w : Int) + (f : Int) ∨ tWf b k m f w = -1 := sorry
theorem tWn_r {b : tTx} {k m : Nat} : -1 ≤ tWn b k m ∧ tWn b k m ≤ 19 := sorry
/-- a word: letters alone, at most eight of them -/
theorem pK_3 {b : tTx} {n h : Nat} (e : pK b n h = 3) : tPs b n h < n ∧ tLt b (tPs b n h) (tRn b n (tPs b n h) - tPs b n h) ∧ tRn b n (tPs b n h) - tPs b n h ≤ 8 ∧ pV b n h = tWn b (tPs b n h) (tRn b n (tPs b n h) - tPs b n h) ∧ pN b n h = tNm b (tPs b n h) (tRn b n (tPs b n h) - tPs b n h) := sorry
/-- the reference's word of the h-th token -/
def pMw (b : tTx) (n h : Nat) : Int64 := tMw b (tPs b n h) (tRn b n (tPs b n h) - tPs b n h)
theorem pMw_N {b : tTx} {n h h' : Nat} (e : pK b n h = 3) (e' : pK b n h' = 3) : pMw b n h = pMw b n h' ↔ pN b n h = pN b n h' := sorry
theorem pMw_w {b : tTx} {n h w : Nat} (e : pK b n h = 3) (hw : w < 20) : pMw b n h = tMw wCh (wSt w) (wLn w) ↔ pV b n h = (w : Int) := sorry
theorem pV_r {b : tTx} {n h : Nat} (e : pK b n h = 3) : -1 ≤ pV b n h ∧ pV b n h ≤ 19 := sorry
/-- which kinds there are -/
theorem pK_r {b : tTx} {n h : Nat} : 0 ≤ pK b n h ∧ (pK b n h ≤ 4 ∨ tSg (pK b n h)) := sorry

end

section
/-! where the reference's reading stands: a fault f, or the h-th token and the lines so far -/
/-- the kind of the relation whose name is the t-th token -/
def kdT (b : tTx) (n t : Nat) : Int := if pV b n (t - 1) = 0 then 0 else pV b n (t + 2)
/-- what a call of plan leaves of the reference -/
def plM (gh : gGh) (T : Nat → Int32) (I I' AI' : gI) (mo : Nat) (b : tTx) (n : Nat) (z : Int) : Prop := (z < 0 ∧ AI' (gh 50 0) = T ∧ (I' mo 2).toInt = (I mo 2).toInt ∧ (I' mo 14).toInt = (I mo 14).toInt) ∨ (0 ≤ z ∧ (I' mo 2).toInt = ((sPlF b n).1 : Int) ∧ (∀ r : Nat, r < (sPlF b n).1 → tI (AI' (gh 50 0)) (40 * (r : Int) + 1) = (sPlF b n).2.2.1 r ∧ tI (AI' (gh 50 0)) (40 * (r : Int)) = kdT b n ((sPlF b n).2.1 r)) ∧ (I' mo 14).toInt = 0)
def mE (gh : gGh) (AI : gI) (AJ : gJ) (b : tTx) (n nr : Nat) (nt : Nat → Nat) (cl : Nat → Int) : Prop := nr ≤ 16 ∧ (∀ r : Nat, r < nr → pK b n (nt r) = 3 ∧ AJ (gh 54 0) r = pMw b n (nt r) ∧ tI (AI (gh 53 0)) (40 * (r : Int) + 1) = cl r ∧ 1 ≤ cl r ∧ cl r ≤ 4) ∧ pUn b n nt nr ∧ ∀ r : Nat, r < nr → tI (AI (gh 53 0)) (40 * (r : Int)) = kdT b n (nt r)
def mQ (gh : gGh) (I : gI) (J : gJ) (AI : gI) (AJ : gJ) (mo : Nat) (b : tTx) (n nr : Nat) (nt : Nat → Nat) (cl : Nat → Int) (f : Int) (h : Nat) : Prop :=
  (f = 0 ∧ (I mo 24).toInt = 0 ∧ tMk b n (tPs b n h) (I mo) (J mo 22) ∧ mE gh AI AJ b n nr nt cl) ∨ (0 < f ∧ (I mo 24).toInt = 8 * (tPs b n h : Int) + f)
theorem thn_k {f : Int} {h : Nat} {F : Nat → Int → pR} (e : f = 0) : thn (f, h, 0) F = F h 0 := sorry
theorem thn_b {f : Int} {h : Nat} {F : Nat → Int → pR} (e : f ≠ 0) : thn (f, h, 0) F = (f, h, 0) := sorry
/-- one answer, as far as the reading goes on -/
def pQ (r s : pR) : Prop := r.1 = s.1 ∧ r.2.1 = s.2.1
theorem pQ_r {r : pR} : pQ r r := sorry
theorem pQ_e {r s : pR} (e : r = s) : pQ r s := sorry
theorem pQ_t {r s t : pR} (h : pQ r s) (k : pQ s t) : pQ r t := sorry
theorem pQ_1 {f : Int} {h : Nat} {F : Nat → pR} {K : Nat → Int → pR} {r : pR} (e : r = thn (f, h, 0) (fun t _ => F t)) : pQ (thn (f, h, 0) (fun t _ => thn (F t) K)) (thn r K) := sorry
theorem pQ_2 {r s : pR} {F : Int → Nat → pR} {K : Int → Nat → Int → pR} {v : Int} (e : s = thn (r.1, r.2.1, 0) (fun t _ => F v t)) (hv : r.1 = 0 → v = r.2.2) : pQ (thn r (fun t c => thn (F c t) (K c))) (thn s (K v)) := sorry
/-- the value is read behind the step -/
theorem pQ_v {r s : pR} {F : Nat → pR} {K : Int → Nat → Int → pR} {v : Int} (e : s = thn (r.1, r.2.1, 0) (fun t _ => F t)) (hv : s.1 = 0 → v = r.2.2) : pQ (thn r (fun t c => thn (F t) (K c))) (thn s (K v)) := sorry
theorem pQ_n {r s : pR} {F : Nat → pR} {K : Nat → Int → pR} (e : s = thn (r.1, r.2.1, 0) (fun t _ => F t)) : pQ (thn r (fun t _ => thn (F t) K)) (thn s K) := sorry
theorem pQ_3 {r s : pR} {F : Int → Nat → pR} {v : Int} (e : s = thn (r.1, r.2.1, 0) (fun t _ => F v t)) (hv : r.1 = 0 → v = r.2.2) : pQ (thn r (fun t c => F c t)) s := sorry
theorem thn_0 {f : Int} {h : Nat} {F : Nat → Int → pR} {r : pR} (e : r = thn (f, h, 0) F) (q : r.1 = 0) : f = 0 ∧ r = F h 0 := sorry
section MQ
variable {g : gG} {gh : gGh} {R : gR} {I I' : gI} {J J' : gJ} {AI AI' : gI} {AJ AJ' : gJ} {mo : Nat} {b : tTx} {n nr : Nat} {nt : Nat → Nat} {cl : Nat → Int} {f : Int} {h : Nat}
theorem mQ_z (w : mQ gh I J AI AJ mo b n nr nt cl f h) (e : (I mo 24).toInt = 0) : f = 0 := sorry
theorem mQ_nz (w : mQ gh I J AI AJ mo b n nr nt cl f h) (e : (I mo 24).toInt ≠ 0) : f ≠ 0 := sorry
theorem mQ_f (w : mQ gh I J AI AJ mo b n nr nt cl f h) (e : f ≠ 0) : (I mo 24).toInt = 8 * (tPs b n h : Int) + f := sorry
theorem mQ_0 (w : mQ gh I J AI AJ mo b n nr nt cl f h) (e : f = 0) : (I mo 24).toInt = 0 := sorry
theorem mQ_p (w : mQ gh I J AI AJ mo b n nr nt cl f h) : 0 ≤ f := sorry
theorem mQ_t (w : mQ gh I J AI AJ mo b n nr nt cl f h) (e : f = 0) : tMk b n (tPs b n h) (I mo) (J mo 22) := sorry
theorem mQ_e (w : mQ gh I J AI AJ mo b n nr nt cl f h) (e : f = 0) : mE gh AI AJ b n nr nt cl := sorry
theorem mQ_ok (w : mQ gh I J AI AJ mo b n nr nt cl f h) (e : f = 0) : mQ gh I J AI AJ mo b n nr nt cl 0 h := sorry
/-- the kind of the token -/
theorem mQ_k (w : mQ gh I J AI AJ mo b n nr nt cl f h) (e : f = 0) : (I mo 21).toInt = tkM (pK b n h) := sorry
theorem mQ_kn (w : mQ gh I J AI AJ mo b n nr nt cl f h) (e : f = 0) {K c : Int} (hK : tkM K = c) (q : (I mo 21).toInt ≠ c) : pK b n h ≠ K := sorry
theorem tkM_1 {K : Int} (h : tkM K = 1) : K = 2 := sorry
theorem tkM_2 {K : Int} (h : tkM K = 2) : K = 3 := sorry
theorem tkM_3 {K : Int} (h : tkM K = 3) : K = 4 := sorry
theorem tkM_0 {K : Int} (h : tkM K = 0) : K = 0 := sorry
theorem tkM_4 {K : Int} (h : 5 ≤ K) : tkM K = 4 := sorry
/-- what the token's kind is: a column, a word, a number, the end -/
theorem mQ_kd (w : mQ gh I J AI AJ mo b n nr nt cl f h) (e : f = 0) : (((I mo 21).toInt = 1 ∧ pK b n h = 2) ∨ ((I mo 21).toInt ≠ 1 ∧ pK b n h ≠ 2)) ∧ (((I mo 21).toInt = 2 ∧ pK b n h = 3) ∨ ((I mo 21).toInt ≠ 2 ∧ pK b n h ≠ 3)) ∧ (((I mo 21).toInt = 3 ∧ pK b n h = 4) ∨ ((I mo 21).toInt ≠ 3 ∧ pK b n h ≠ 4)) ∧ (((I mo 21).toInt = 0 ∧ pK b n h = 0) ∨ ((I mo 21).toInt ≠ 0 ∧ pK b n h ≠ 0)) := sorry
theorem mQ_v (w : mQ gh I J AI AJ mo b n nr nt cl f h) (e : f = 0) (k : pK b n h = 2 ∨ pK b n h = 4) : (I mo 23).toInt = pV b n h := sorry
theorem mQ_w (w : mQ gh I J AI AJ mo b n nr nt cl f h) (e : f = 0) (k : pK b n h = 3) : J mo 22 = pMw b n h := sorry
theorem mQ_s (w : mQ gh I J AI AJ mo b n nr nt cl f h) (e : f = 0) {c : Int} (hc : 5 ≤ c) : ((I mo 21).toInt = 4 ∧ (I mo 23).toInt = c) ↔ pK b n h = c := sorry
/-- a fault is told -/
theorem mQ_wr (w : mQ gh I J AI AJ mo b n nr nt cl f h) (e : f = 0) {kd : Int} (h1 : 1 ≤ kd) (e4 : (I' mo 24).toInt = 8 * (I mo 19).toInt + kd) : mQ gh I' J AI AJ mo b n nr nt cl kd h := sorry
theorem mQ_bad (w : mQ gh I J AI AJ mo b n nr nt cl f h) (e : f ≠ 0) (e4 : (I' mo 24).toInt = (I mo 24).toInt) : mQ gh I' J' AI' AJ' mo b n nr nt cl f h := sorry
theorem mQ_e0 (w : mQ gh I J AI AJ mo b n nr nt cl f h) : (I mo 24).toInt = 0 → (I mo 20).toInt = ((tNd b n (tPs b n h) : Nat) : Int) := sorry
/-- the next token -/
theorem mQ_nx (w : mQ gh I J AI AJ mo b n nr nt cl f h) (e4 : (I' mo 24).toInt = (I mo 24).toInt) (q : (I mo 24).toInt = 0 → tMk b n (tSk b n (tNd b n (tPs b n h))) (I' mo) (J' mo 22)) : mQ gh I' J' AI AJ mo b n nr nt cl (thn (f, h, 0) (fun t _ => (0, t + 1, 0))).1 (thn (f, h, 0) (fun t _ => (0, t + 1, 0))).2.1 := sorry
/-- the row of the line that is read has changed -/
theorem mQ_a (w : mQ gh I J AI AJ mo b n nr nt cl f h) (q : (I mo 24).toInt = 0 → ∀ z : Int, 0 ≤ z → z < 40 * (nr : Int) → tI (AI' (gh 53 0)) z = tI (AI (gh 53 0)) z) : mQ gh I J AI' AJ mo b n nr nt cl f h := sorry
theorem mTp (hv : mInv g gh R I AI) (h65 : gh 9 (gh 65 0) ≠ 5) (hb : ∀ k : Nat, k < n → ((gM g).2 (gh 65 0) k).toInt = b k % 256) : ∀ k : Nat, k < n → (AI (gh 65 0) k).toInt = b k % 256 := sorry
/-- the reference's search -/
theorem mQ_fd (w : mQ gh I J AI AJ mo b n nr nt cl f h) (e : f = 0) (k : pK b n h = 3) (e5 : (I mo 5).toInt = (nr : Int)) {z : Int} {lw : Int64} (el : lw = J mo 22) (hz : -1 ≤ z ∧ z < (I mo 5).toInt) (q : (0 ≤ z → AJ (gh 54 0) z.toNat = lw) ∧ (z < 0 → ∀ j : Int, 0 ≤ j → j < (I mo 5).toInt → AJ (gh 54 0) j.toNat ≠ lw)) : z = pFd b n nt nr h := sorry
theorem mQ_c (w : mQ gh I J AI AJ mo b n nr nt cl f h) (e : f = 0) {z : Int} (h0 : 0 ≤ z) (h1 : z < (nr : Int)) : tI (AI (gh 53 0)) (40 * z + 1) = cl z.toNat := sorry
theorem mQ_cb (w : mQ gh I J AI AJ mo b n nr nt cl f h) (e : f = 0) {z : Int} (h0 : 0 ≤ z) (h1 : z < (nr : Int)) : 1 ≤ cl z.toNat ∧ cl z.toNat ≤ 4 := sorry
end MQ
/-! the answers of the small steps, by cases -/
def sNum (b : tTx) (n h : Nat) : pR := if pK b n h = 4 then (0, h + 1, pV b n h) else (1, h, 0)
section Cases
variable {b : tTx} {n nr : Nat} {nt : Nat → Nat} {cl : Nat → Int} {h : Nat} {r : pR}
theorem sTk_c {c : Int} (e : r = sTk b n c h) : (r = (0, h + 1, 0) ∧ pK b n h = c) ∨ (r = (1, h, 0) ∧ pK b n h ≠ c) := sorry
theorem sTw_c {c : Int} (e : r = sTw b n c h) : (r = (0, h + 1, 0) ∧ pK b n h = 3 ∧ pV b n h = c) ∨ (r = (1, h, 0) ∧ ¬ (pK b n h = 3 ∧ pV b n h = c)) := sorry
theorem sCol_c {c : Int} (e : r = sCol b n c h) : (r = (0, h + 1, pV b n h) ∧ pCf b n c h = 0 ∧ pK b n h = 2 ∧ pV b n h < c) ∨ (r = (pCf b n c h, h, 0) ∧ pCf b n c h ≠ 0 ∧ 0 ≤ pCf b n c h ∧ pCf b n c h ≤ 2) := sorry
theorem sNum_c (e : r = sNum b n h) : (r = (0, h + 1, pV b n h) ∧ pK b n h = 4) ∨ (r = (1, h, 0) ∧ pK b n h ≠ 4) := sorry
theorem pRf_r : 0 ≤ pRf b n nt nr h ∧ pRf b n nt nr h ≤ 3 := sorry
theorem sRl_c (e : r = sRl b n nr nt cl h) : (r = (0, h + 1, cF b n nr nt cl h) ∧ pRf b n nt nr h = 0 ∧ pK b n h = 3 ∧ pV b n h = -1 ∧ 0 ≤ pFd b n nt nr h) ∨ (r = (pRf b n nt nr h, h, 0) ∧ pRf b n nt nr h ≠ 0 ∧ 0 ≤ pRf b n nt nr h ∧ pRf b n nt nr h ≤ 3) := sorry
theorem sNam_c (e : r = sNam b n nr nt h) : (r = (0, h + 1, 0) ∧ pK b n h = 3 ∧ pV b n h = -1 ∧ pFd b n nt nr h = -1) ∨ (∃ kd : Int, r = (kd, h, 0) ∧ 1 ≤ kd ∧ kd ≤ 3) := sorry
end Cases
section IW
variable {gh : gGh} {I : gI} {J : gJ} {AI : gI} {AJ : gJ} {mo : Nat} {b : tTx} {n nr : Nat} {nt : Nat → Nat} {cl : Nat → Int} {f : Int} {h w : Nat} {x : Int64}
theorem mIw_t (q : mQ gh I J AI AJ mo b n nr nt cl f h) (hw : w < 20 ∧ x = tMw wCh (wSt w) (wLn w)) (e : (I mo 24).toInt = 0) (e1 : (I mo 21).toInt = 2) (ew : J mo 22 = x) : f = 0 ∧ pK b n h = 3 ∧ pV b n h = (w : Int) := sorry
theorem mIw_f (q : mQ gh I J AI AJ mo b n nr nt cl f h) (hw : w < 20 ∧ x = tMw wCh (wSt w) (wLn w)) (e1 : (I mo 21).toInt = 2) (ew : J mo 22 = x → False) : ¬ (f = 0 ∧ pK b n h = 3 ∧ pV b n h = (w : Int)) := sorry
theorem mIw_x (q : mQ gh I J AI AJ mo b n nr nt cl f h) (e : (I mo 24).toInt ≠ 0 ∨ (I mo 21).toInt ≠ 2) : ¬ (f = 0 ∧ pK b n h = 3 ∧ pV b n h = (w : Int)) := sorry
theorem mIs_t (q : mQ gh I J AI AJ mo b n nr nt cl f h) (e : (I mo 24).toInt = 0) {c : Int} (hc : 5 ≤ c) (k : (I mo 21).toInt = 4 ∧ (I mo 23).toInt = c) : f = 0 ∧ pK b n h = c := sorry
theorem mIs_f (q : mQ gh I J AI AJ mo b n nr nt cl f h) {c : Int} (hc : 5 ≤ c) (k : (I mo 24).toInt ≠ 0 ∨ (I mo 21).toInt ≠ 4 ∨ (I mo 23).toInt ≠ c) : ¬ (f = 0 ∧ pK b n h = c) := sorry
theorem mRs {L : List Int} {v : Int} (hn : ∀ w ∈ L, ¬ (f = 0 ∧ pK b n h = 3 ∧ pV b n h = w)) (k : ¬ (f = 0 ∧ pK b n h = 3 ∧ pV b n h = v)) : ∀ w ∈ v :: L, ¬ (f = 0 ∧ pK b n h = 3 ∧ pV b n h = w) := sorry
theorem mRs_y {v : Int} (k : f = 0 ∧ pK b n h = 3 ∧ pV b n h = v) (h0 : 0 ≤ v) : f = 0 ∧ pK b n h = 3 ∧ 0 ≤ pV b n h := sorry
theorem mRs_n {L : List Int} (hn : ∀ w ∈ L, ¬ (f = 0 ∧ pK b n h = 3 ∧ pV b n h = w)) (all : ∀ k : Nat, k < 20 → (k : Int) ∈ L) : ¬ (f = 0 ∧ pK b n h = 3 ∧ 0 ≤ pV b n h) := sorry
end IW
def pRv (z : Int) (nr : Nat) (cl : Nat → Int) (r : pR) : Prop := r.1 = 0 → 0 ≤ z ∧ z < (nr : Int) ∧ cl z.toNat = r.2.2
theorem pRv_n {z x : Int} {nr h : Nat} {cl : Nat → Int} {k : Int} (e : k ≠ 0) : pRv z nr cl (k, h, x) := sorry
theorem pRv_y {z x : Int} {nr h : Nat} {cl : Nat → Int} {k : Int} (h0 : 0 ≤ z) (h1 : z < (nr : Int)) (e : cl z.toNat = x) : pRv z nr cl (k, h, x) := sorry
theorem mQ_aj {gh : gGh} {I : gI} {J : gJ} {AI : gI} {AJ AJ' : gJ} {mo : Nat} {b : tTx} {n nr : Nat} {nt : Nat → Nat} {cl : Nat → Int} {f : Int} {h : Nat} (w : mQ gh I J AI AJ mo b n nr nt cl f h) (q : ∀ r : Nat, r < nr → AJ' (gh 54 0) r = AJ (gh 54 0) r) : mQ gh I J AI AJ' mo b n nr nt cl f h := sorry
/-! the bits that tell columns -/
def mGn (x : Int) (L : List Int) : Prop := ∀ d : Int, 0 ≤ d → d ≤ 3 → (mBit x d = 1 ↔ d ∈ L)
theorem mBit_b {x : Int} {d : Nat} (hd : d < 4) : mBit x (d : Int) = 1 ↔ (iI x).toBitVec.getLsbD d = true := sorry
theorem mGn_s {x y v d : Int} {L : List Int} (h : mGn x L) (h0 : 0 ≤ d ∧ d ≤ 3) (ey : y = (iI 1 <<< (iI d &&& 31)).toInt) (ev : v = (iI x ||| iI y).toInt) : mGn v (d :: L) := sorry
theorem mGn_0 : mGn 0 [] := sorry
theorem mGn_c {x : Int} {L : List Int} (h : mGn x L) : ∀ m : Nat, m ≤ 4 → mCnt x m = jC L m := sorry
/-- what is told at the end of a line -/
def sEnd (b : tTx) (n : Nat) (x : Int) (t : Nat) : pR := if pK b n t = 59 ∧ 4 < x then (5, t, 0) else (0, t, x)
def pIc (z k x y : Int) : Prop := z = 0 → k = 59 → x = y
theorem pIc_n {z k x y : Int} (h : z ≠ 0) : pIc z k x y := sorry
theorem pIc_y {z k x y : Int} (h : x = y) : pIc z k x y := sorry
theorem pIc_k {z k x y : Int} (h : k ≠ 59) : pIc z k x y := sorry
section SM
variable (b : tTx) (n nr : Nat) (nt : Nat → Nat) (cl : Nat → Int)
def sJoiM (t : Nat) : pR := thn (sJoi b n nr nt cl t) (fun t x => sEnd b n x t)
def sRngM (t : Nat) : pR := thn (sRng b n nr nt cl t) (fun t x => sEnd b n x t)
def sBodyM (kd : Int) (t : Nat) : pR := if kd = 3 then sJoiM b n nr nt cl t else if kd = 8 then sRngM b n nr nt cl t else sBody b n nr nt cl kd t
def sTbM (bh : Int) (t : Nat) : pR := if 16 ≤ nr then (4, t, 0) else if bh = 0 then thn (sNam b n nr nt (t + 1)) (fun t _ => sTc b n t) else (6, t, 0)
def sVwM (t : Nat) : pR := if 16 ≤ nr then (4, t, 0) else thn (sNam b n nr nt (t + 1)) (fun t _ => thn (sVk b n t) (fun t kd => sBodyM b n nr nt cl kd t))
end SM
theorem pV_c {b : tTx} {n h : Nat} (e : pK b n h = 2) : 0 ≤ pV b n h ∧ pV b n h ≤ 3 := sorry
theorem rX_e {c d k : Int} (h : c + d ≤ 4 ∧ k = c) : rX c d k = c := sorry
theorem rX_n {c d k : Int} (h : c + d ≤ 4 ∧ k = c) (h4 : c ≤ 4) : ¬ 4 < rX c d k := sorry
theorem rX_y {c d k : Int} (h : ¬ (c + d ≤ 4 ∧ k = c)) : 4 < rX c d k := sorry

end

section
/-! the steps of the lists, outcome by outcome -/
def Hid (P : Prop) : Prop := P
def pSg (z : Int) (P : Prop) : Prop := (z = -1 ∧ ¬ P) ∨ (0 ≤ z ∧ P)
theorem pSg_y {z : Int} {P : Prop} (h : pSg z P) (k : 0 ≤ z) : P := sorry
theorem pSg_n {z : Int} {P : Prop} (h : pSg z P) (k : z < 0) : ¬ P := sorry
theorem pSg_t {z : Int} {P : Prop} (k : 0 ≤ z) (p : P) : pSg z P := sorry
theorem pSg_f {z : Int} {P : Prop} (k : z = -1) (p : ¬ P) : pSg z P := sorry
theorem tIz_n {z : Int} {P : Prop} (h : tIz z (0 = (0 : Int) ∧ P)) (hz : z = 0) : ¬ P := sorry
theorem tIz_y {z f : Int} {P : Prop} (h : tIz z (f = (0 : Int) ∧ P)) (hz : z ≠ 0) : P := sorry
section Steps
variable {b : tTx} {n : Nat} {c d k lim : Int} {h : Nat} {L : List Int}
abbrev pSi (b : tTx) (n h : Nat) : Prop := pK b n h = 61 ∨ pK b n h = 60 ∨ pK b n h = 62
theorem sTest_ok (a : pCf b n c h = 0) (e : k < 8) (s : pSi b n (h + 1)) (v : Hid (pK b n (h + 2) = 4 ∨ pCf b n c (h + 2) = 0)) : sTest b n c k h = (0, h + 3, 0) := sorry
theorem sTest_4 (a : pCf b n c h = 0) (e : 8 ≤ k) : sTest b n c k h = (4, h, 0) := sorry
theorem sTest_c (a : pCf b n c h ≠ 0) : sTest b n c k h = (pCf b n c h, h, 0) := sorry
theorem sTest_s (a : pCf b n c h = 0) (e : k < 8) (s : ¬ pSi b n (h + 1)) : sTest b n c k h = (1, h + 1, 0) := sorry
theorem sTest_v (a : pCf b n c h = 0) (e : k < 8) (s : pSi b n (h + 1)) (w : pK b n (h + 2) ≠ 4) (v : pCf b n c (h + 2) ≠ 0) : sTest b n c k h = (pCf b n c (h + 2), h + 2, 0) := sorry
theorem sTerm_n (a : pK b n h = 4) (e : k < 4) : sTerm b n c k h = (0, h + 1, 0) := sorry
theorem sTerm_n4 (a : pK b n h = 4) (e : 4 ≤ k) : sTerm b n c k h = (4, h, 0) := sorry
theorem sTerm_c4 (a : pCf b n c h = 0) (e : 4 ≤ k) : sTerm b n c k h = (4, h, 0) := sorry
theorem sTerm_x (w : pK b n h ≠ 4) (a : pCf b n c h ≠ 0) : sTerm b n c k h = (pCf b n c h, h, 0) := sorry
theorem sTerm_c (a : pCf b n c h = 0) (e : k < 4) (s : ¬ (pK b n (h + 1) = 43 ∨ pK b n (h + 1) = 45)) : sTerm b n c k h = (0, h + 1, 0) := sorry
theorem sTerm_s (a : pCf b n c h = 0) (e : k < 4) (s : pK b n (h + 1) = 43 ∨ pK b n (h + 1) = 45) (v : pK b n (h + 2) = 4) : sTerm b n c k h = (0, h + 3, 0) := sorry
theorem sTerm_s1 (a : pCf b n c h = 0) (e : k < 4) (s : pK b n (h + 1) = 43 ∨ pK b n (h + 1) = 45) (v : pK b n (h + 2) ≠ 4) : sTerm b n c k h = (1, h + 2, 0) := sorry
theorem sPair_x (a : pCf b n c h ≠ 0) : sPair b n c d k lim h = (pCf b n c h, h, 0) := sorry
theorem sPair_4 (a : pCf b n c h = 0) (e : lim ≤ k) : sPair b n c d k lim h = (4, h, 0) := sorry
theorem sPair_1 (a : pCf b n c h = 0) (e : k < lim) (s : pK b n (h + 1) ≠ 61) : sPair b n c d k lim h = (1, h + 1, 0) := sorry
theorem sPair_v (a : pCf b n c h = 0) (e : k < lim) (s : pK b n (h + 1) = 61) (v : pCf b n d (h + 2) ≠ 0) : sPair b n c d k lim h = (pCf b n d (h + 2), h + 2, 0) := sorry
theorem sPair_ok (a : pCf b n c h = 0) (e : k < lim) (s : pK b n (h + 1) = 61) (v : pCf b n d (h + 2) = 0) : sPair b n c d k lim h = (0, h + 3, pV b n (h + 2)) := sorry
theorem sBy_x (a : pCf b n c h ≠ 0) : sBy b n c k L h = (pCf b n c h, h, 0) := sorry
theorem sBy_2 (a : pCf b n c h = 0) (m : pV b n h ∈ L) : sBy b n c k L h = (2, h, 0) := sorry
theorem sBy_4 (a : pCf b n c h = 0) (m : ¬ pV b n h ∈ L) (e : 3 ≤ k) : sBy b n c k L h = (4, h, 0) := sorry
theorem sBy_ok (a : pCf b n c h = 0) (m : ¬ pV b n h ∈ L) (e : k < 3) : sBy b n c k L h = (0, h + 1, pV b n h) := sorry
end Steps
theorem pCf_n1 {b : tTx} {n h : Nat} {c : Int} (w : pK b n h ≠ 2) : pCf b n c h ≠ 0 := sorry
theorem pCf_n2 {b : tTx} {n h : Nat} {c : Int} (w : pK b n h = 2) (v : c ≤ pV b n h) : pCf b n c h ≠ 0 := sorry
theorem pE1 {b : tTx} {n h t : Nat} {c : Int} {r : pR} (e : r = (pCf b n c h, t, 0)) (w : pK b n h ≠ 2) : r = (1, t, 0) := sorry
theorem pE2 {b : tTx} {n h t : Nat} {c : Int} {r : pR} (e : r = (pCf b n c h, t, 0)) (w : pK b n h = 2) (v : c ≤ pV b n h) : r = (2, t, 0) := sorry
theorem hid {P : Prop} (h : P) : Hid P := sorry

end

section
def rmX7_wrongf : Room := { frames := 0, cells := 0, slots := 0, locals := 0 }
set_option maxHeartbeats 4000000 in
set_option maxRecDepth 100000 in
/-- a fault -/
theorem c_X7_wrongf (l : Launch) (g : gG) (gh : gGh) (T : Nat → Int32) (b : tTx) (nn nr : Nat) (nt : Nat → Nat) (cc : Nat → Int) (f : Int) (h : Nat) (I : gI) (R : gR) (J : gJ) (AI : gI) (AJ : gJ) (AR : gR) (mo : Nat) (kd : Int) (zkd : zr kd) (hv : mInv g gh R I AI) (hm : gO g mo 7) (hT : AI (gh 50 0) = T) (hk : 1 ≤ kd ∧ kd ≤ 8) (h65 : gh 9 (gh 65 0) ≠ 5) (hbM : ∀ k : Nat, k < nn → ((gM g).2 (gh 65 0) k).toInt = b k % 256) (hr7 : ∀ k : Nat, -128 ≤ b k ∧ b k ≤ 127) (hsz : (I mo 18).toInt = (nn : Int)) (hn9 : nn ≤ 900) (hm5 : (I mo 5).toInt = (nr : Int)) (hQ : mQ gh I J AI AJ mo b nn nr nt cc f h) : gMet l g yX7_wrong tsX7_wrong rmX7_wrongf [.ref mo, .int (iI kd)] (I, R, J, AI, AJ, AR) (gQv g (fun w : gS => R = w.2.1 ∧ J = w.2.2.1 ∧ AI = w.2.2.2.1 ∧ AJ = w.2.2.2.2.1 ∧ AR = w.2.2.2.2.2 ∧ (mInv g gh R (w.1) AI) ∧ (qF mo I (w.1)) ∧ (0 < ((w.1) mo 24).toInt ∧ (I mo 24).toInt ≤ ((w.1) mo 24).toInt ∧ ((w.1) mo 20).toInt = (I mo 20).toInt) ∧ (mQ gh (w.1) J AI AJ mo b nn nr nt cc (thn (f, h, 0) (fun t _ => (kd, t, 0))).1 (thn (f, h, 0) (fun t _ => (kd, t, 0))).2.1))) := sorry
def rmX7_packedf : Room := { frames := 4, cells := 0, slots := 0, locals := 85 }
set_option maxHeartbeats 4000000 in
set_option maxRecDepth 100000 in
/-- letters packed -/
theorem c_X7_packedf (l : Launch) (g : gG) (i : Nat) (q : String × Nat × String × List Int32) (I : gI) (R : gR) (J : gJ) (AI : gI) (AJ : gJ) (AR : gR)  (hq : sTab[i]? = some q) (hl8 : q.2.2.2.length ≤ 8) : gMet l g yX7_packed tsX7_packed rmX7_packedf [.ref (gSK g i)] (I, R, J, AI, AJ, AR) (gQl g (fun (z : Int64) (w : gS) => I = w.1 ∧ R = w.2.1 ∧ J = w.2.2.1 ∧ AI = w.2.2.2.1 ∧ AJ = w.2.2.2.2.1 ∧ AR = w.2.2.2.2.2 ∧ (z = tMw (fun k9 : Nat => (q.2.2.2.getD k9 0).toInt) 0 q.2.2.2.length))) := sorry
def rmX7_isWordf : Room := { frames := 5, cells := 0, slots := 0, locals := 108 }
set_option maxHeartbeats 4000000 in
set_option maxRecDepth 100000 in
/-- is it the word -/
theorem c_X7_isWordf (l : Launch) (g : gG) (gh : gGh) (T : Nat → Int32) (i : Nat) (q : String × Nat × String × List Int32) (w7 : Nat) (b : tTx) (nn nr : Nat) (nt : Nat → Nat) (cc : Nat → Int) (f : Int) (h : Nat) (I : gI) (R : gR) (J : gJ) (AI : gI) (AJ : gJ) (AR : gR) (mo : Nat) (hv : mInv g gh R I AI) (hm : gO g mo 7) (hT : AI (gh 50 0) = T) (hq : sTab[i]? = some q) (hl8 : q.2.2.2.length ≤ 8) (hw7 : w7 < 20 ∧ tMw (fun k9 : Nat => (q.2.2.2.getD k9 0).toInt) 0 q.2.2.2.length = tMw wCh (wSt w7) (wLn w7)) (h65 : gh 9 (gh 65 0) ≠ 5) (hbM : ∀ k : Nat, k < nn → ((gM g).2 (gh 65 0) k).toInt = b k % 256) (hr7 : ∀ k : Nat, -128 ≤ b k ∧ b k ≤ 127) (hsz : (I mo 18).toInt = (nn : Int)) (hn9 : nn ≤ 900) (hm5 : (I mo 5).toInt = (nr : Int)) (hQ : mQ gh I J AI AJ mo b nn nr nt cc f h) : gMet l g yX7_isWord tsX7_isWord rmX7_isWordf [.ref mo, .ref (gSK g i)] (I, R, J, AI, AJ, AR) (gQi g (fun (z : Int) (w : gS) => I = w.1 ∧ R = w.2.1 ∧ J = w.2.2.1 ∧ AI = w.2.2.2.1 ∧ AJ = w.2.2.2.2.1 ∧ AR = w.2.2.2.2.2 ∧ (z = 0 ∨ z = 1) ∧ (tIz z (f = 0 ∧ pK b nn h = 3 ∧ pV b nn h = (w7 : Int))))) := sorry
def rmX7_isSignf : Room := { frames := 0, cells := 0, slots := 0, locals := 0 }
set_option maxHeartbeats 4000000 in
set_option maxRecDepth 100000 in
/-- is it the sign -/
theorem c_X7_isSignf (l : Launch) (g : gG) (gh : gGh) (T : Nat → Int32) (b : tTx) (nn nr : Nat) (nt : Nat → Nat) (cc : Nat → Int) (f : Int) (h : Nat) (I : gI) (R : gR) (J : gJ) (AI : gI) (AJ : gJ) (AR : gR) (mo : Nat) (ch : Int) (zch : zr ch) (hv : mInv g gh R I AI) (hm : gO g mo 7) (hT : AI (gh 50 0) = T) (h65 : gh 9 (gh 65 0) ≠ 5) (hbM : ∀ k : Nat, k < nn → ((gM g).2 (gh 65 0) k).toInt = b k % 256) (hr7 : ∀ k : Nat, -128 ≤ b k ∧ b k ≤ 127) (hsz : (I mo 18).toInt = (nn : Int)) (hn9 : nn ≤ 900) (hm5 : (I mo 5).toInt = (nr : Int)) (hc5 : 5 ≤ ch) (hQ : mQ gh I J AI AJ mo b nn nr nt cc f h) : gMet l g yX7_isSign tsX7_isSign rmX7_isSignf [.ref mo, .int (iI ch)] (I, R, J, AI, AJ, AR) (gQi g (fun (z : Int) (w : gS) => I = w.1 ∧ R = w.2.1 ∧ J = w.2.2.1 ∧ AI = w.2.2.2.1 ∧ AJ = w.2.2.2.2.1 ∧ AR = w.2.2.2.2.2 ∧ ((z = 0 ∨ z = 1) ∧ (z = 1 → (I mo 24).toInt = 0 ∧ (I mo 21).toInt = 4 ∧ (I mo 23).toInt = ch) ∧ (z = 0 → (I mo 24).toInt = 0 → (I mo 21).toInt = 4 → (I mo 23).toInt ≠ ch)) ∧ (tIz z (f = 0 ∧ pK b nn h = ch)))) := sorry
def rmX7_mustSignf : Room := { frames := 3, cells := 0, slots := 0, locals := 67 }
set_option maxHeartbeats 4000000 in
set_option maxRecDepth 100000 in
/-- must be the sign -/
theorem c_X7_mustSignf (l : Launch) (g : gG) (gh : gGh) (T : Nat → Int32) (b : tTx) (nn nr : Nat) (nt : Nat → Nat) (cc : Nat → Int) (f : Int) (h : Nat) (I : gI) (R : gR) (J : gJ) (AI : gI) (AJ : gJ) (AR : gR) (mo : Nat) (ch : Int) (zch : zr ch) (hv : mInv g gh R I AI) (hm : gO g mo 7) (hT : AI (gh 50 0) = T) (hE : (I mo 20).toInt ≤ 936) (h65 : gh 9 (gh 65 0) ≠ 5) (hbM : ∀ k : Nat, k < nn → ((gM g).2 (gh 65 0) k).toInt = b k % 256) (hr7 : ∀ k : Nat, -128 ≤ b k ∧ b k ≤ 127) (hsz : (I mo 18).toInt = (nn : Int)) (hn9 : nn ≤ 900) (hm5 : (I mo 5).toInt = (nr : Int)) (hc5 : 5 ≤ ch) (hQ : mQ gh I J AI AJ mo b nn nr nt cc f h) : gMet l g yX7_mustSign tsX7_mustSign rmX7_mustSignf [.ref mo, .int (iI ch)] (I, R, J, AI, AJ, AR) (gQv g (fun w : gS => R = w.2.1 ∧ AI = w.2.2.2.1 ∧ AJ = w.2.2.2.2.1 ∧ AR = w.2.2.2.2.2 ∧ (mInv g gh R (w.1) AI) ∧ (qF mo I (w.1)) ∧ (((w.1) mo 20).toInt ≤ 936 ∧ (I mo 24).toInt ≤ ((w.1) mo 24).toInt) ∧ (((w.1) mo 24).toInt = 0 → (I mo 21).toInt = 4 ∧ (I mo 23).toInt = ch) ∧ (mQ gh (w.1) (w.2.2.1) AI AJ mo b nn nr nt cc (thn (f, h, 0) (fun t _ => sTk b nn ch t)).1 (thn (f, h, 0) (fun t _ => sTk b nn ch t)).2.1))) := sorry
def rmX7_mustWordf : Room := { frames := 6, cells := 0, slots := 0, locals := 129 }
set_option maxHeartbeats 4000000 in
set_option maxRecDepth 100000 in
/-- must be the word -/
theorem c_X7_mustWordf (l : Launch) (g : gG) (gh : gGh) (T : Nat → Int32) (i : Nat) (q : String × Nat × String × List Int32) (w7 : Nat) (b : tTx) (nn nr : Nat) (nt : Nat → Nat) (cc : Nat → Int) (f : Int) (h : Nat) (I : gI) (R : gR) (J : gJ) (AI : gI) (AJ : gJ) (AR : gR) (mo : Nat) (hv : mInv g gh R I AI) (hm : gO g mo 7) (hT : AI (gh 50 0) = T) (hE : (I mo 20).toInt ≤ 936) (hq : sTab[i]? = some q) (h65 : gh 9 (gh 65 0) ≠ 5) (hbM : ∀ k : Nat, k < nn → ((gM g).2 (gh 65 0) k).toInt = b k % 256) (hr7 : ∀ k : Nat, -128 ≤ b k ∧ b k ≤ 127) (hsz : (I mo 18).toInt = (nn : Int)) (hn9 : nn ≤ 900) (hm5 : (I mo 5).toInt = (nr : Int)) (hl8 : q.2.2.2.length ≤ 8) (hw7 : w7 < 20 ∧ tMw (fun k9 : Nat => (q.2.2.2.getD k9 0).toInt) 0 q.2.2.2.length = tMw wCh (wSt w7) (wLn w7)) (hQ : mQ gh I J AI AJ mo b nn nr nt cc f h) : gMet l g yX7_mustWord tsX7_mustWord rmX7_mustWordf [.ref mo, .ref (gSK g i)] (I, R, J, AI, AJ, AR) (gQv g (fun w : gS => R = w.2.1 ∧ AI = w.2.2.2.1 ∧ AJ = w.2.2.2.2.1 ∧ AR = w.2.2.2.2.2 ∧ (mInv g gh R (w.1) AI) ∧ (qF mo I (w.1)) ∧ (((w.1) mo 20).toInt ≤ 936 ∧ (I mo 24).toInt ≤ ((w.1) mo 24).toInt) ∧ (mQ gh (w.1) (w.2.2.1) AI AJ mo b nn nr nt cc (thn (f, h, 0) (fun t _ => sTw b nn ((w7 : Nat) : Int) t)).1 (thn (f, h, 0) (fun t _ => sTw b nn ((w7 : Nat) : Int) t)).2.1))) := sorry
def rmX7_isReservedf : Room := { frames := 6, cells := 0, slots := 0, locals := 129 }
set_option maxHeartbeats 4000000 in
set_option maxRecDepth 100000 in
/-- reserved -/
theorem c_X7_isReservedf (l : Launch) (g : gG) (gh : gGh) (T : Nat → Int32) (b : tTx) (nn nr : Nat) (nt : Nat → Nat) (cc : Nat → Int) (f : Int) (h : Nat) (I : gI) (R : gR) (J : gJ) (AI : gI) (AJ : gJ) (AR : gR) (mo : Nat) (hv : mInv g gh R I AI) (hm : gO g mo 7) (hT : AI (gh 50 0) = T) (h65 : gh 9 (gh 65 0) ≠ 5) (hbM : ∀ k : Nat, k < nn → ((gM g).2 (gh 65 0) k).toInt = b k % 256) (hr7 : ∀ k : Nat, -128 ≤ b k ∧ b k ≤ 127) (hsz : (I mo 18).toInt = (nn : Int)) (hn9 : nn ≤ 900) (hm5 : (I mo 5).toInt = (nr : Int)) (hQ : mQ gh I J AI AJ mo b nn nr nt cc f h) : gMet l g yX7_isReserved tsX7_isReserved rmX7_isReservedf [.ref mo] (I, R, J, AI, AJ, AR) (gQi g (fun (z : Int) (w : gS) => I = w.1 ∧ R = w.2.1 ∧ J = w.2.2.1 ∧ AI = w.2.2.2.1 ∧ AJ = w.2.2.2.2.1 ∧ AR = w.2.2.2.2.2 ∧ (z = 0 ∨ z = 1) ∧ (tIz z (f = 0 ∧ pK b nn h = 3 ∧ 0 ≤ pV b nn h)))) := sorry
def rmX7_columnf : Room := { frames := 3, cells := 0, slots := 0, locals := 67 }
set_option maxHeartbeats 4000000 in
set_option maxRecDepth 100000 in
/-- a column -/
theorem c_X7_columnf (l : Launch) (g : gG) (gh : gGh) (T : Nat → Int32) (b : tTx) (nn nr : Nat) (nt : Nat → Nat) (cc : Nat → Int) (f : Int) (h : Nat) (I : gI) (R : gR) (J : gJ) (AI : gI) (AJ : gJ) (AR : gR) (mo : Nat) (bl : Int) (zbl : zr bl) (hv : mInv g gh R I AI) (hm : gO g mo 7) (hT : AI (gh 50 0) = T) (hE : (I mo 20).toInt ≤ 936) (h65 : gh 9 (gh 65 0) ≠ 5) (hbM : ∀ k : Nat, k < nn → ((gM g).2 (gh 65 0) k).toInt = b k % 256) (hr7 : ∀ k : Nat, -128 ≤ b k ∧ b k ≤ 127) (hsz : (I mo 18).toInt = (nn : Int)) (hn9 : nn ≤ 900) (hm5 : (I mo 5).toInt = (nr : Int)) (hQ : mQ gh I J AI AJ mo b nn nr nt cc f h) : gMet l g yX7_column tsX7_column rmX7_columnf [.ref mo, .int (iI bl)] (I, R, J, AI, AJ, AR) (gQi g (fun (z : Int) (w : gS) => R = w.2.1 ∧ AI = w.2.2.2.1 ∧ AJ = w.2.2.2.2.1 ∧ AR = w.2.2.2.2.2 ∧ (mInv g gh R (w.1) AI) ∧ (qF mo I (w.1)) ∧ (((w.1) mo 20).toInt ≤ 936 ∧ (I mo 24).toInt ≤ ((w.1) mo 24).toInt) ∧ (((w.1) mo 24).toInt = 0 → 0 ≤ z ∧ z ≤ 3 ∧ z < bl) ∧ (mQ gh (w.1) (w.2.2.1) AI AJ mo b nn nr nt cc (thn (f, h, 0) (fun t _ => sCol b nn bl t)).1 (thn (f, h, 0) (fun t _ => sCol b nn bl t)).2.1) ∧ (pIm (thn (f, h, 0) (fun t _ => sCol b nn bl t)).1 z (thn (f, h, 0) (fun t _ => sCol b nn bl t)).2.2))) := sorry
def rmX7_numberToldf : Room := { frames := 3, cells := 0, slots := 0, locals := 67 }
set_option maxHeartbeats 4000000 in
set_option maxRecDepth 100000 in
/-- a number -/
theorem c_X7_numberToldf (l : Launch) (g : gG) (gh : gGh) (T : Nat → Int32) (b : tTx) (nn nr : Nat) (nt : Nat → Nat) (cc : Nat → Int) (f : Int) (h : Nat) (I : gI) (R : gR) (J : gJ) (AI : gI) (AJ : gJ) (AR : gR) (mo : Nat) (hv : mInv g gh R I AI) (hm : gO g mo 7) (hT : AI (gh 50 0) = T) (hE : (I mo 20).toInt ≤ 936) (h65 : gh 9 (gh 65 0) ≠ 5) (hbM : ∀ k : Nat, k < nn → ((gM g).2 (gh 65 0) k).toInt = b k % 256) (hr7 : ∀ k : Nat, -128 ≤ b k ∧ b k ≤ 127) (hsz : (I mo 18).toInt = (nn : Int)) (hn9 : nn ≤ 900) (hm5 : (I mo 5).toInt = (nr : Int)) (hQ : mQ gh I J AI AJ mo b nn nr nt cc f h) : gMet l g yX7_numberTold tsX7_numberTold rmX7_numberToldf [.ref mo] (I, R, J, AI, AJ, AR) (gQi g (fun (z : Int) (w : gS) => R = w.2.1 ∧ AI = w.2.2.2.1 ∧ AJ = w.2.2.2.2.1 ∧ AR = w.2.2.2.2.2 ∧ (mInv g gh R (w.1) AI) ∧ (qF mo I (w.1)) ∧ (((w.1) mo 20).toInt ≤ 936 ∧ (I mo 24).toInt ≤ ((w.1) mo 24).toInt) ∧ (((w.1) mo 24).toInt = 0 → (I mo 21).toInt = 3 ∧ z = (I mo 23).toInt) ∧ (mQ gh (w.1) (w.2.2.1) AI AJ mo b nn nr nt cc (thn (f, h, 0) (fun t _ => sNum b nn t)).1 (thn (f, h, 0) (fun t _ => sNum b nn t)).2.1) ∧ (pIm (thn (f, h, 0) (fun t _ => sNum b nn t)).1 z (thn (f, h, 0) (fun t _ => sNum b nn t)).2.2))) := sorry
def rmX7_newNamef : Room := { frames := 7, cells := 0, slots := 0, locals := 149 }
set_option maxHeartbeats 4000000 in
set_option maxRecDepth 100000 in
/-- a new name -/
theorem c_X7_newNamef (l : Launch) (g : gG) (gh : gGh) (T : Nat → Int32) (b : tTx) (nn nr : Nat) (nt : Nat → Nat) (cc : Nat → Int) (f : Int) (h : Nat) (I : gI) (R : gR) (J : gJ) (AI : gI) (AJ : gJ) (AR : gR) (mo : Nat) (hv : mInv g gh R I AI) (hm : gO g mo 7) (hT : AI (gh 50 0) = T) (hE : (I mo 20).toInt ≤ 936) (hM : (I mo 24).toInt = 0 → (I mo 5).toInt ≤ 15) (h65 : gh 9 (gh 65 0) ≠ 5) (hbM : ∀ k : Nat, k < nn → ((gM g).2 (gh 65 0) k).toInt = b k % 256) (hr7 : ∀ k : Nat, -128 ≤ b k ∧ b k ≤ 127) (hsz : (I mo 18).toInt = (nn : Int)) (hn9 : nn ≤ 900) (hm5 : (I mo 5).toInt = (nr : Int)) (hQ : mQ gh I J AI AJ mo b nn nr nt cc f h) : gMet l g yX7_newName tsX7_newName rmX7_newNamef [.ref mo] (I, R, J, AI, AJ, AR) (gQv g (fun w : gS => R = w.2.1 ∧ AI = w.2.2.2.1 ∧ AR = w.2.2.2.2.2 ∧ (mInv g gh R (w.1) AI) ∧ (qF mo I (w.1)) ∧ (((w.1) mo 20).toInt ≤ 936 ∧ (I mo 24).toInt ≤ ((w.1) mo 24).toInt) ∧ (mQ gh (w.1) (w.2.2.1) AI (w.2.2.2.2.1) mo b nn nr nt cc (thn (f, h, 0) (fun t _ => sNam b nn nr nt t)).1 (thn (f, h, 0) (fun t _ => sNam b nn nr nt t)).2.1) ∧ (pJm (thn (f, h, 0) (fun t _ => sNam b nn nr nt t)).1 ((w.2.2.2.2.1) (gh 54 0) nr) (pMw b nn h)))) := sorry

end

section
theorem thn_t {k v : Int} {h : Nat} {s y : pR} {f : Nat → Int → pR} (e : s = (k, h, v)) (hk : k = 0) (K : f h v = y) : thn s f = y := sorry

end

section
section SBM
variable {b : tTx} {n nr : Nat} {nt : Nat → Nat} {cl : Nat → Int} {kd : Int} {t : Nat}
theorem sBM_1 (e : kd = 1) : sBodyM b n nr nt cl kd t = sSel b n nr nt cl t := sorry
theorem sBM_2 (e : kd = 2) : sBodyM b n nr nt cl kd t = sPrj b n nr nt cl t := sorry
theorem sBM_3 (e : kd = 3) : sBodyM b n nr nt cl kd t = sJoiM b n nr nt cl t := sorry
theorem sBM_4 (e : kd = 4) : sBodyM b n nr nt cl kd t = sTwo b n nr nt cl t := sorry
theorem sBM_5 (e : kd = 5) : sBodyM b n nr nt cl kd t = sTwo b n nr nt cl t := sorry
theorem sBM_6 (e : kd = 6) : sBodyM b n nr nt cl kd t = sRl b n nr nt cl t := sorry
theorem sBM_7 (e : kd = 7) : sBodyM b n nr nt cl kd t = sGrp b n nr nt cl t := sorry
theorem sBM_8 (e : kd = 8) : sBodyM b n nr nt cl kd t = sRngM b n nr nt cl t := sorry
end SBM


end

section
def pFo (z K V : Int) : Prop := (z = -1 ∧ ¬ (K = 3 ∧ 16 ≤ V ∧ V ≤ 19)) ∨ (0 ≤ z ∧ K = 3 ∧ V = 16 + z ∧ z ≤ 3)
theorem pFo_y {z K V : Int} (h : pFo z K V) (k : 0 ≤ z) : K = 3 ∧ V = 16 + z ∧ z ≤ 3 := sorry
theorem pFo_n {z K V : Int} (h : pFo z K V) (k : z < 0) : ¬ (K = 3 ∧ 16 ≤ V ∧ V ≤ 19) := sorry
section Fo
variable {b : tTx} {n : Nat} {c x : Int} {h : Nat}
theorem sFo_0 (a : pK b n h = 3) (v : pV b n h = 16) : sFo b n c x h = (0, h + 1, x) := sorry
theorem sFo_c (a : pK b n h = 3) (v : 17 ≤ pV b n h ∧ pV b n h ≤ 19) (w : pCf b n c (h + 1) = 0) : sFo b n c x h = (0, h + 2, x) := sorry
theorem sFo_v (a : pK b n h = 3) (v : 17 ≤ pV b n h ∧ pV b n h ≤ 19) (w : pCf b n c (h + 1) ≠ 0) : sFo b n c x h = (pCf b n c (h + 1), h + 1, 0) := sorry
theorem sFo_n (a : ¬ (pK b n h = 3 ∧ 16 ≤ pV b n h ∧ pV b n h ≤ 19)) : sFo b n c x h = (1, h, 0) := sorry
end Fo


end

section
/-! a line, as the reference reads it, is a line as the class reads it -/
def sTx (b : tTx) (n : Nat) (x : Int) (t : Nat) : pR := if pK b n t = 59 then (0, t + 1, x) else (1, t, 0)
section ML
variable {b : tTx} {n nr : Nat} {nt : Nat → Nat} {cl : Nat → Int} {kd tb bh : Int} {t : Nat}
theorem sClo_e {x : Int} : thn (sEnd b n x t) (fun t x => sTx b n x t) = sClo b n x t := sorry
theorem sClo_4 {x : Int} (h : x ≤ 4) : sTx b n x t = sClo b n x t := sorry
theorem thn_cg {r : pR} {f k : Nat → Int → pR} (h : r.1 = 0 → f r.2.1 r.2.2 = k r.2.1 r.2.2) : thn r f = thn r k := sorry
theorem cF_4 (hc : ∀ r, r < nr → cl r ≤ 4) (e : pRf b n nt nr t = 0) : cF b n nr nt cl t ≤ 4 := sorry
theorem sRl_4 (hc : ∀ r, r < nr → cl r ≤ 4) (e : (sRl b n nr nt cl t).1 = 0) : (sRl b n nr nt cl t).2.2 ≤ 4 := sorry
theorem sTests_4 {c : Int} (hc : c ≤ 4) : ∀ f k t, (sTests b n c f k t).1 = 0 → (sTests b n c f k t).2.2 ≤ 4 := sorry
theorem sTerm_k {c k : Int} (e : (sTerm b n c k t).1 = 0) : k < 4 := sorry
theorem sTerms_4 {c : Int} : ∀ f k t, (sTerms b n c f k t).1 = 0 → (sTerms b n c f k t).2.2 ≤ 4 := sorry
theorem sBy_k {c k : Int} {L : List Int} (e : (sBy b n c k L t).1 = 0) : k < 3 := sorry
theorem sBys_3 {c : Int} : ∀ f k L t, (sBys b n c f k L t).1 = 0 → (sBys b n c f k L t).2.2 ≤ 3 := sorry
theorem thn_le {r : pR} {f : Nat → Int → pR} {m : Int} (h : r.1 = 0 → (f r.2.1 r.2.2).1 = 0 → (f r.2.1 r.2.2).2.2 ≤ m) (e : (thn r f).1 = 0) : (thn r f).2.2 ≤ m := sorry
theorem sFo_x {c x : Int} (e : (sFo b n c x t).1 = 0) : (sFo b n c x t).2.2 = x := sorry
theorem sTc_4 (e : (sTc b n t).1 = 0) : (sTc b n t).2.2 ≤ 4 := sorry
theorem sBody_4 (hc : ∀ r, r < nr → cl r ≤ 4) (h3 : kd ≠ 3) (h8 : kd ≠ 8) (e : (sBody b n nr nt cl kd t).1 = 0) : (sBody b n nr nt cl kd t).2.2 ≤ 4 := sorry
/-- a body and the end of its line -/
theorem sBody_M (hc : ∀ r, r < nr → cl r ≤ 4) : thn (sBodyM b n nr nt cl kd t) (fun t x => sTx b n x t) = thn (sBody b n nr nt cl kd t) (fun t x => sClo b n x t) := sorry
theorem sLn_t (hk : pK b n t = 3 ∧ pV b n t = 0) (hb : bh = 0 ↔ ¬ tb < (nr : Int)) : sLine b n nr nt cl tb t = thn (sTbM b n nr nt bh t) (fun t x => sTx b n x t) := sorry
theorem sLn_v (hc : ∀ r, r < nr → cl r ≤ 4) (hk : pK b n t = 3 ∧ pV b n t = 9) : sLine b n nr nt cl tb t = thn (sVwM b n nr nt cl t) (fun t x => sTx b n x t) := sorry
theorem sLn_n (h0 : ¬ (pK b n t = 3 ∧ pV b n t = 0)) (h9 : ¬ (pK b n t = 3 ∧ pV b n t = 9)) : sLine b n nr nt cl tb t = (1, t, 0) := sorry
end ML
section MK
variable {g : gG} {gh : gGh} {R : gR} {I I' : gI} {J J' : gJ} {AI : gI} {AJ : gJ} {mo : Nat} {b : tTx} {n nr : Nat} {nt : Nat → Nat} {cl : Nat → Int} {f : Int} {h h0 : Nat} {x : Int}
/-- at the start -/
theorem mQ_i (e4 : (I' mo 24).toInt = 0) (q : tMk b n (tSk b n 0) (I' mo) (J' mo 22)) : mQ gh I' J' AI AJ mo b n 0 nt cl 0 0 := sorry
/-- one line more -/
theorem mQ_keep (w : mQ gh I J AI AJ mo b n nr nt cl 0 h) (h15 : nr ≤ 15) (f' : ∀ j, j ≠ 5 → I' mo j = I mo j) (hK : pK b n h0 = 3) (hN : AJ (gh 54 0) nr = pMw b n h0) (hX : tI (AI (gh 53 0)) (40 * (nr : Int) + 1) = x) (hx : 1 ≤ x ∧ x ≤ 4) (hno : pFd b n nt nr h0 = -1) (hKd : tI (AI (gh 53 0)) (40 * (nr : Int)) = kdT b n h0) : mQ gh I' J AI AJ mo b n (nr + 1) (sUp nt nr h0) (sUp cl nr x) 0 h := sorry
theorem kdT_t {b : tTx} {n h : Nat} (k : pV b n h = 0) : kdT b n (h + 1) = 0 := sorry
theorem kdT_v {b : tTx} {n h : Nat} (k : pV b n h ≠ 0) : kdT b n (h + 1) = pV b n (h + 3) := sorry
theorem mE_4 (w : mE gh AI AJ b n nr nt cl) : ∀ r, r < nr → cl r ≤ 4 := sorry
end MK
/-- whether a view has been told -/
def pBt (bh tb : Int) (nr : Nat) : Prop := (bh = 0 ∧ tb = (nr : Int)) ∨ (bh = 1 ∧ tb < (nr : Int))
theorem pBt_i {bh tb : Int} {nr : Nat} (h : pBt bh tb nr) : bh = 0 ↔ ¬ tb < (nr : Int) := sorry
theorem pBt_t {bh tb : Int} {nr : Nat} (h : pBt bh tb nr) (e : bh = 0) : pBt bh (tb + 1) (nr + 1) := sorry
theorem pBt_v {bh tb : Int} {nr : Nat} (h : pBt bh tb nr) : pBt 1 tb (nr + 1) := sorry
/-- a line that is read has a new name -/
theorem sLn_nm {b : tTx} {n nr : Nat} {nt : Nat → Nat} {cl : Nat → Int} {tb : Int} {t : Nat} {r : pR} (e : r = sLine b n nr nt cl tb t) (_ : pK b n t ≠ 0) (h0 : r.1 = 0) : pK b n (t + 1) = 3 ∧ pFd b n nt nr (t + 1) = -1 := sorry

end

section
def pKd (z K V : Int) : Prop := (z = -1 ∧ ¬ (K = 3 ∧ 1 ≤ V ∧ V ≤ 8)) ∨ (1 ≤ z ∧ z ≤ 8 ∧ K = 3 ∧ V = z)
theorem pKd_y {z K V : Int} (h : pKd z K V) (k : 0 ≤ z) : 1 ≤ z ∧ z ≤ 8 ∧ K = 3 ∧ V = z := sorry
theorem pKd_n {z K V : Int} (h : pKd z K V) (k : z < 0) : ¬ (K = 3 ∧ 1 ≤ V ∧ V ≤ 8) := sorry
theorem pKd_m {K V : Int} (a : Hid (¬ (K = 3 ∧ V = ((1 : Nat) : Int)))) (b : Hid (¬ (K = 3 ∧ V = ((2 : Nat) : Int)))) (c : Hid (¬ (K = 3 ∧ V = ((3 : Nat) : Int)))) (d : Hid (¬ (K = 3 ∧ V = ((4 : Nat) : Int)))) (e : Hid (¬ (K = 3 ∧ V = ((5 : Nat) : Int)))) (f : Hid (¬ (K = 3 ∧ V = ((6 : Nat) : Int)))) (g : Hid (¬ (K = 3 ∧ V = ((7 : Nat) : Int)))) (h : Hid (¬ (K = 3 ∧ V = ((8 : Nat) : Int)))) : ¬ (K = 3 ∧ 1 ≤ V ∧ V ≤ 8) := sorry

end

section
/-! rows in order: their keys, compared one by one -/
def kcF (u v : Nat → Int) : Nat → Nat → Int
  | 0, _ => 0
  | m + 1, s => if u s = v s then kcF u v m (s + 1) else if u s < v s then -1 else 1
def kc (m : Nat) (u v : Nat → Int) : Int := kcF u v m 0
/-- the numbers of a list from a place on -/
def rk (f : Nat → Int32) (i : Int) : Nat → Int := fun t => (f (i.toNat + t)).toInt
section KC
variable {u v w u' v' : Nat → Int} {m s : Nat}
theorem kcF_e (h : u s = v s) : kcF u v (m + 1) s = kcF u v m (s + 1) := sorry
theorem kcF_l (h : u s < v s) : kcF u v (m + 1) s = -1 := sorry
theorem kcF_g (h : v s < u s) : kcF u v (m + 1) s = 1 := sorry
theorem kcF_r : ∀ (m s : Nat), kcF u v m s = -1 ∨ kcF u v m s = 0 ∨ kcF u v m s = 1 := sorry
theorem kc_r : kc m u v = -1 ∨ kc m u v = 0 ∨ kc m u v = 1 := sorry
theorem kcF_c : ∀ (m s : Nat), (∀ t, s ≤ t → t < s + m → u t = u' t) → (∀ t, s ≤ t → t < s + m → v t = v' t) → kcF u v m s = kcF u' v' m s := sorry
theorem kc_c (h : ∀ t, t < m → u t = u' t) (k : ∀ t, t < m → v t = v' t) : kc m u v = kc m u' v' := sorry
theorem kcF_s : ∀ (m s : Nat), kcF v u m s = - kcF u v m s := sorry
theorem kc_s : kc m v u = - kc m u v := sorry
theorem kcF_0 : ∀ (m s : Nat), kcF u v m s = 0 ↔ ∀ t, s ≤ t → t < s + m → u t = v t := sorry
theorem kc_0 : kc m u v = 0 ↔ ∀ t, t < m → u t = v t := sorry
theorem kcF_t : ∀ (m s : Nat), kcF u v m s ≤ 0 → kcF v w m s ≤ 0 → (kcF u v m s < 0 ∨ kcF v w m s < 0 → kcF u w m s = -1) ∧ (kcF u v m s = 0 → kcF v w m s = 0 → kcF u w m s = 0) := sorry
theorem kc_t (a : kc m u v ≤ 0) (b : kc m v w ≤ 0) (c : kc m u v < 0 ∨ kc m v w < 0) : kc m u w = -1 := sorry
end KC
/-- the rows of a list of six ints each: their keys -/
def ry6 (f : Nat → Int32) (i : Nat) : Nat → Int := rk f (6 * (i : Int))
theorem ry6_e {f : Nat → Int32} {i t : Nat} : ry6 f i t = (f (6 * i + t)).toInt := sorry
/-- what a search answers: the row, or -1 less the place -/
def fdK (K : Nat) (f : Nat → Int32) (n : Int) (u : Nat → Int) (z : Int) : Prop :=
  (0 ≤ z ∧ z < n ∧ kc K (ry6 f z.toNat) u = 0) ∨ (z < 0 ∧ -1 - n ≤ z ∧ (0 < -1 - z → kc K (ry6 f (-1 - z - 1).toNat) u = -1) ∧ (-1 - z < n → kc K (ry6 f (-1 - z).toNat) u = 1))
/-- rows in order -/
def srt (K : Nat) (f : Nat → Int32) (n : Int) : Prop := ∀ i j : Nat, i < j → (j : Int) < n → kc K (ry6 f i) (ry6 f j) = -1
/-- a row comes in at r: its key, n behind it -/
def insP (K : Nat) (f f' : Nat → Int32) (u : Nat → Int) (r len n : Int) : Prop :=
  (∀ j : Nat, (j : Int) < 6 * r → f' j = f j) ∧ (∀ t : Nat, t < K → (f' ((6 * r).toNat + t)).toInt = u t) ∧ f' ((6 * r).toNat + K) = iI n ∧ (K = 4 → f' ((6 * r).toNat + 5) = 0) ∧ (∀ j : Nat, 6 * r ≤ (j : Int) → (j : Int) < 6 * len → f' (j + 6) = f j)
/-- a row goes out -/
def remP (f f' : Nat → Int32) (r len : Int) : Prop := (∀ j : Nat, (j : Int) < 6 * r → f' j = f j) ∧ (∀ j : Nat, 6 * r ≤ (j : Int) → (j : Int) < 6 * (len - 1) → f' j = f (j + 6))
/-- a row's amount alone becomes another -/
def setP (K : Nat) (f f' : Nat → Int32) (r v : Int) : Prop := (∀ j : Nat, j ≠ (6 * r).toNat + K → f' j = f j) ∧ f' ((6 * r).toNat + K) = iI v
/-- the amount of a key is more by n -/
def addP (K : Nat) (lim : Int) (f f' : Nat → Int32) (len len' : Int) (u : Nat → Int) (n z : Int) : Prop :=
  (∃ p : Int, fdK K f len u (-1 - p) ∧ 0 ≤ p ∧ ((n = 0 ∧ z = 1 ∧ len' = len ∧ f' = f) ∨ (n ≠ 0 ∧ lim ≤ len ∧ z = 0 ∧ len' = len ∧ f' = f) ∨ (n ≠ 0 ∧ len < lim ∧ z = 1 ∧ len' = len + 1 ∧ insP K f f' u p len n))) ∨
  (∃ r : Int, fdK K f len u r ∧ 0 ≤ r ∧ z = 1 ∧ ((iI ((f ((6 * r).toNat + K)).toInt + n) = 0 ∧ len' = len - 1 ∧ remP f f' r len) ∨ (iI ((f ((6 * r).toNat + K)).toInt + n) ≠ 0 ∧ len' = len ∧ setP K f f' r ((f ((6 * r).toNat + K)).toInt + n))))
theorem ins_p {K : Nat} {f f1 f2 f3 f4 ky : Nat → Int32} {r len n : Int} (hK : K = 4 ∨ K = 5) (h0 : 0 ≤ r) (h1 : r ≤ len) (e1 : f1 = va_cpy f f (r * 6).toNat (r * 6 + 6).toNat ((len - r) * 6).toNat) (e2 : f2 = va_cpy ky f1 (0 : Int).toNat (r * 6).toNat (K : Int).toNat) (e3 : ∀ j : Nat, j ≠ (r * 6 + 5).toNat → f3 j = f2 j) (e3' : f3 (r * 6 + 5).toNat = 0) (e4 : ∀ j : Nat, j ≠ (r * 6 + (K : Int)).toNat → f4 j = f3 j) (e4' : f4 (r * 6 + (K : Int)).toNat = iI n) : insP K f f4 (rk ky 0) r len n := sorry
theorem rem_p {f f' : Nat → Int32} {r len : Int} (h0 : 0 ≤ r) (h1 : r < len) (e : f' = va_cpy f f (r * 6 + 6).toNat (r * 6).toNat ((len - 1 - r) * 6).toNat) : remP f f' r len := sorry
/-! the place is the same wherever it is looked for -/
theorem srt_lo {K : Nat} {f : Nat → Int32} {n : Int} {u : Nat → Int} {p : Nat} (hs : srt K f n) (h : 0 < p → kc K (ry6 f (p - 1)) u = -1) (hp : (p : Int) ≤ n) : ∀ i : Nat, i < p → kc K (ry6 f i) u = -1 := sorry
theorem srt_hi {K : Nat} {f : Nat → Int32} {n : Int} {u : Nat → Int} {p : Nat} (hs : srt K f n) (h : (p : Int) < n → kc K (ry6 f p) u = 1) : ∀ i : Nat, p ≤ i → (i : Int) < n → kc K (ry6 f i) u = 1 := sorry
/-- order behind the coming in of a row -/
theorem srt_ins {K : Nat} {f f' : Nat → Int32} {u : Nat → Int} {len n : Int} {p : Nat} (hK : K ≤ 5) (hs : srt K f len) (hp : (p : Int) ≤ len) (hi : insP K f f' u (p : Int) len n) (lo : ∀ i : Nat, i < p → kc K (ry6 f i) u = -1) (hh : ∀ i : Nat, p ≤ i → (i : Int) < len → kc K (ry6 f i) u = 1) : srt K f' (len + 1) := sorry
theorem srt_rem {K : Nat} {f f' : Nat → Int32} {len : Int} {p : Nat} (hK : K ≤ 5) (hs : srt K f len) (hr : remP f f' (p : Int) len) : srt K f' (len - 1) := sorry
theorem srt_set {K : Nat} {f f' : Nat → Int32} {len v : Int} {p : Nat} (hK : K ≤ 5) (hs : srt K f len) (h : setP K f f' (p : Int) v) : srt K f' len := sorry
theorem kcF_n {u v : Nat → Int} {K : Nat} {k : Int} (h0 : 0 ≤ k) (hk : k < (K : Int)) (e : u k.toNat = v k.toNat) : kcF u v (K - k.toNat) k.toNat = kcF u v (K - (k + 1).toNat) (k + 1).toNat := sorry
theorem kcF_ln {u v : Nat → Int} {K : Nat} {k : Int} (h0 : 0 ≤ k) (hk : k < (K : Int)) (e : u k.toNat < v k.toNat) : kcF u v (K - k.toNat) k.toNat = -1 := sorry
theorem kcF_gn {u v : Nat → Int} {K : Nat} {k : Int} (h0 : 0 ≤ k) (hk : k < (K : Int)) (e : v k.toNat < u k.toNat) : kcF u v (K - k.toNat) k.toNat = 1 := sorry
theorem rk_at {f : Nat → Int32} {i k : Int} (h0 : 0 ≤ i) (h1 : 0 ≤ k) : rk f i k.toNat = (f (i + k).toNat).toInt := sorry
theorem ry6_m {f : Nat → Int32} {m : Int} (h : 0 ≤ m) : rk f (m * 6) = ry6 f m.toNat := sorry
theorem fdK_n {K : Nat} {f : Nat → Int32} {n lo : Int} {u : Nat → Int} (h0 : 0 ≤ lo) (h1 : lo ≤ n) (a : 0 < lo → kc K (ry6 f (lo - 1).toNat) u = -1) (b : lo < n → kc K (ry6 f lo.toNat) u = 1) : fdK K f n u (-1 - lo) := sorry
section AddP
variable {K : Nat} {lim len len' n v : Int} {f f' : Nat → Int32} {u : Nat → Int}
theorem add_no (qf : fdK K f len u v) (hv : v < 0) (hn : n = 0) : addP K lim f f len len u n 1 := sorry
theorem add_f (qf : fdK K f len u v) (hv : v < 0) (hn : n ≠ 0) (hl : lim ≤ len) : addP K lim f f len len u n 0 := sorry
theorem add_i (qf : fdK K f len u v) (hv : v < 0) (hn : n ≠ 0) (hl : len < lim) (e : len' = len + 1) (qi : insP K f f' u (-1 - v) len n) : addP K lim f f' len len' u n 1 := sorry
theorem add_r (qf : fdK K f len u v) (hv : 0 ≤ v) (e0 : iI ((f ((6 * v).toNat + K)).toInt + n) = 0) (e : len' = len - 1) (q : remP f f' v len) : addP K lim f f' len len' u n 1 := sorry
theorem add_s (qf : fdK K f len u v) (hv : 0 ≤ v) (e0 : iI ((f ((6 * v).toNat + K)).toInt + n) ≠ 0) (q : setP K f f' v ((f ((6 * v).toNat + K)).toInt + n)) : addP K lim f f' len len u n 1 := sorry
end AddP
theorem set_p {K c ix : Nat} {F F' : gI} {r w v : Int} (e : F' = gup2 F c ix (iI w)) (hix : ix = (6 * r).toNat + K) (hw : iI w = iI v) : setP K (F c) (F' c) r v := sorry
/-- the key of a change -/
def cky (tb a b c d cl : Int) : Nat → Int
  | 0 => tb
  | 1 => a
  | 2 => if 1 < cl then b else 0
  | 3 => if 2 < cl then c else 0
  | 4 => if 3 < cl then d else 0
  | _ => 0
theorem cky_of {f : Nat → Int32} {tb a b c d cl : Int} (h0 : (f 0).toInt = tb) (h1 : (f 1).toInt = a) (h2 : (f 2).toInt = if 1 < cl then b else 0) (h3 : (f 3).toInt = if 2 < cl then c else 0) (h4 : (f 4).toInt = if 3 < cl then d else 0) : ∀ t, t < 5 → rk f 0 t = cky tb a b c d cl t := sorry
section AddC
variable {K : Nat} {lim len len' n z r : Int} {f f' : Nat → Int32} {u u' : Nat → Int}
theorem fdK_c (h : ∀ t, t < K → u t = u' t) (q : fdK K f len u z) : fdK K f len u' z := sorry
theorem insP_c (h : ∀ t, t < K → u t = u' t) (q : insP K f f' u r len n) : insP K f f' u' r len n := sorry
theorem addP_c (h : ∀ t, t < K → u t = u' t) (q : addP K lim f f' len len' u n z) : addP K lim f f' len len' u' n z := sorry
end AddC
/-- what a change of the batch answers and does: tbs tables, u its key -/
def chP (tbs tb n z len len' : Int) (f f' : Nat → Int32) (u : Nat → Int) : Prop :=
  ((tb < 0 ∨ tbs ≤ tb ∨ n < -9 ∨ 9 < n ∨ n = 0) ∧ z = -1 ∧ len' = len ∧ f' = f) ∨ ((0 ≤ tb ∧ tb < tbs ∧ -9 ≤ n ∧ n ≤ 9 ∧ n ≠ 0) ∧ ∃ zz : Int, addP 5 40 f f' len len' u n zz ∧ ((zz = 0 ∧ z = -1) ∨ (zz = 1 ∧ z = len')))
/-! the reference's changes: tables, values, counts in three lists -/
def rmk (T V : Nat → Int32) (i : Nat) : Nat → Int
  | 0 => (T i).toInt
  | t + 1 => (V (4 * i + t)).toInt
theorem kcF_sh {u v u' v' : Nat → Int} : ∀ (m s s' : Nat), (∀ t, t < m → u (s + t) = u' (s' + t)) → (∀ t, t < m → v (s + t) = v' (s' + t)) → kcF u v m s = kcF u' v' m s' := sorry
section Rmk
variable {T V tu : Nat → Int32} {u : Nat → Int} {k : Int}
theorem kc5_l (h : (T k.toNat).toInt < u 0) : kc 5 (rmk T V k.toNat) u = -1 := sorry
theorem kc5_g (h : u 0 < (T k.toNat).toInt) : kc 5 (rmk T V k.toNat) u = 1 := sorry
theorem kc5_e (h0 : 0 ≤ k) (h : (T k.toNat).toInt = u 0) (hu : ∀ t, t < 4 → (tu t).toInt = u (t + 1)) : kc 5 (rmk T V k.toNat) u = kc 4 (rk V (4 * k)) (rk tu 0) := sorry
end Rmk
/-- a row is as another one was -/
def rEq (T V C T' V' C' : Nat → Int32) (i i' : Nat) : Prop := T' i' = T i ∧ C' i' = C i ∧ ∀ t, t < 4 → V' (4 * i' + t) = V (4 * i + t)
def mvP (T V C T' V' C' : Nat → Int32) (fm to : Int) : Prop := (∀ j : Nat, j ≠ to.toNat → T' j = T j ∧ C' j = C j) ∧ T' to.toNat = T fm.toNat ∧ C' to.toNat = C fm.toNat ∧ (∀ j : Nat, (j : Int) < 4 * to ∨ 4 * to + 4 ≤ (j : Int) → V' j = V j) ∧ ∀ t : Nat, t < 4 → V' ((4 * to).toNat + t) = V ((4 * fm).toNat + t)
def shU (T V C T' V' C' : Nat → Int32) (len i : Int) : Prop := (∀ j : Nat, (j : Int) < i → rEq T V C T' V' C' j j) ∧ (∀ j : Nat, i ≤ (j : Int) → (j : Int) < len → rEq T V C T' V' C' j (j + 1))
def shD (T V C T' V' C' : Nat → Int32) (k i : Int) : Prop := (∀ j : Nat, (j : Int) < k → rEq T V C T' V' C' j j) ∧ (∀ j : Nat, k ≤ (j : Int) → (j : Int) < i → rEq T V C T' V' C' (j + 1) j) ∧ (∀ j : Nat, i ≤ (j : Int) → rEq T V C T' V' C' j j)
def insM (T V C T' V' C' : Nat → Int32) (p : Nat) (len n : Int) (u : Nat → Int) : Prop := (∀ i : Nat, i < p → rEq T V C T' V' C' i i) ∧ (T' p).toInt = u 0 ∧ (∀ t, t < 4 → (V' (4 * p + t)).toInt = u (t + 1)) ∧ C' p = iI n ∧ (∀ i : Nat, p ≤ i → (i : Int) < len → rEq T V C T' V' C' i (i + 1))
def remM (T V C T' V' C' : Nat → Int32) (p : Nat) (len : Int) : Prop := (∀ i : Nat, i < p → rEq T V C T' V' C' i i) ∧ (∀ i : Nat, p ≤ i → (i : Int) < len - 1 → rEq T V C T' V' C' (i + 1) i)
section REq
variable {T V C T1 V1 C1 T2 V2 C2 : Nat → Int32} {i j q : Nat} {fm to len k n : Int} {u : Nat → Int}
theorem rEq_r : rEq T V C T V C i i := sorry
theorem rEq_t (a : rEq T V C T1 V1 C1 i j) (b : rEq T1 V1 C1 T2 V2 C2 j q) : rEq T V C T2 V2 C2 i q := sorry
theorem mv_o (h : mvP T V C T1 V1 C1 fm to) (h0 : 0 ≤ to) (hj : j ≠ to.toNat) : rEq T V C T1 V1 C1 j j := sorry
theorem mv_t (h : mvP T V C T1 V1 C1 fm to) (h0 : 0 ≤ to) (h1 : 0 ≤ fm) (ei : i = fm.toNat) (ej : j = to.toNat) : rEq T V C T1 V1 C1 i j := sorry
theorem shU_0 : shU T V C T V C len len := sorry
theorem shU_s {x : Int} (h : shU T V C T1 V1 C1 len x) (m : mvP T1 V1 C1 T2 V2 C2 (x - 1) x) (h0 : 0 < x) (hx : x ≤ len) : shU T V C T2 V2 C2 len (x - 1) := sorry
theorem shD_0 : shD T V C T V C k k := sorry
theorem shD_s {x : Int} (h : shD T V C T1 V1 C1 k x) (m : mvP T1 V1 C1 T2 V2 C2 (x + 1) x) (h0 : 0 ≤ k) (hx : k ≤ x) : shD T V C T2 V2 C2 k (x + 1) := sorry
theorem ins_m {tb : Int} (h : shU T V C T1 V1 C1 len k) (h0 : 0 ≤ k) (eT : ∀ j : Nat, j ≠ k.toNat → T2 j = T1 j) (eT' : T2 k.toNat = iI tb) (ztb : zr tb) (eV : ∀ j : Nat, (j : Int) < 4 * k ∨ 4 * k + 4 ≤ (j : Int) → V2 j = V1 j) (eV' : ∀ t : Nat, t < 4 → (V2 ((4 * k).toNat + t)).toInt = u (t + 1)) (eC : ∀ j : Nat, j ≠ k.toNat → C2 j = C1 j) (eC' : C2 k.toNat = iI n) (hu : u 0 = tb) : insM T V C T2 V2 C2 k.toNat len n u := sorry
theorem rem_m (h : shD T V C1 T2 V2 C2 k (len - 1)) (h0 : 0 ≤ k) (eC : ∀ j : Nat, j ≠ k.toNat → C1 j = C j) : remM T V C T2 V2 C2 k.toNat len := sorry
end REq
/-- what the reference's change does, once it is one: p its place -/
def chM (len len' z n : Int) (T V C T' V' C' : Nat → Int32) (u : Nat → Int) : Prop := ∃ p : Nat, (p : Int) ≤ len ∧ (∀ i : Nat, i < p → kc 5 (rmk T V i) u = -1) ∧
  (((p : Int) < len ∧ kc 5 (rmk T V p) u = 0 ∧ iI ((C p).toInt + n) ≠ 0 ∧ len' = len ∧ z = len ∧ T' = T ∧ V' = V ∧ (∀ j : Nat, j ≠ p → C' j = C j) ∧ C' p = iI ((C p).toInt + n)) ∨
   ((p : Int) < len ∧ kc 5 (rmk T V p) u = 0 ∧ iI ((C p).toInt + n) = 0 ∧ len' = len - 1 ∧ z = len - 1 ∧ remM T V C T' V' C' p len) ∨
   (((p : Int) < len → kc 5 (rmk T V p) u = 1) ∧ len = 40 ∧ z = -1 ∧ len' = len ∧ T' = T ∧ V' = V ∧ C' = C) ∨
   (((p : Int) < len → kc 5 (rmk T V p) u = 1) ∧ len ≠ 40 ∧ len' = len + 1 ∧ z = len + 1 ∧ insM T V C T' V' C' p len n u))
def chR (many kd tb n z len len' : Int) (T V C T' V' C' : Nat → Int32) (u : Nat → Int) : Prop :=
  ((tb < 0 ∨ many ≤ tb ∨ kd ≠ 0 ∨ n < -9 ∨ 9 < n ∨ n = 0) ∧ z = -1 ∧ len' = len ∧ T' = T ∧ V' = V ∧ C' = C) ∨ ((0 ≤ tb ∧ tb < many ∧ kd = 0 ∧ -9 ≤ n ∧ n ≤ 9 ∧ n ≠ 0) ∧ chM len len' z n T V C T' V' C' u)
theorem tku {f : Nat → Int32} {tb a b c d cl : Int} (h0 : (f 0).toInt = a) (h1 : (f 1).toInt = if 1 < cl then b else 0) (h2 : (f 2).toInt = if 2 < cl then c else 0) (h3 : (f 3).toInt = if 3 < cl then d else 0) : ∀ t, t < 4 → (f t).toInt = cky tb a b c d cl (t + 1) := sorry
theorem ix_st {P : Nat → Prop} {k : Int} (h : ∀ i : Nat, (i : Int) < k → P i) (h0 : 0 ≤ k) (hk : P k.toNat) : ∀ i : Nat, (i : Int) < k + 1 → P i := sorry
theorem mNe {g : gG} {gh : gGh} {R : gR} {I AI : gI} {m : Nat} (hv : mInv g gh R I AI) (hm : gO g m 7) {p q : Nat × Nat} (hp : p ∈ mTab) (hq : q ∈ mTab) (hne : p.1 ≠ q.1) : gh (50 + p.1) 0 ≠ gh (50 + q.1) 0 := sorry

end

section
def rmX4_compareRowf : Room := { frames := 0, cells := 0, slots := 0, locals := 0 }
set_option maxHeartbeats 4000000 in
set_option maxRecDepth 100000 in
/-- compares a row with a key -/
theorem c_X4_compareRowf (l : Launch) (g : gG) (gh : gGh) (n : Nat) (I : gI) (R : gR) (J : gJ) (AI : gI) (AJ : gJ) (AR : gR) (a : Nat) (row : Int) (o : Nat) (from_ : Int) (zrow : zr row) (zfrom_ : zr from_) (hv : gInv g gh R AR I AI) (ha : gO g a 4) (h0 : 0 ≤ row) (h1 : row < (gh 1 a : Int)) (ho : gAr g o 9 n) (hn : n ≤ 1440) (h2 : 0 ≤ from_) (h3 : from_ + (gh 2 a : Int) ≤ (n : Int)) : gMet l g yX4_compareRow wsX4_compareRow rmX4_compareRowf [.ref a, .int (iI row), .ref o, .int (iI from_)] (I, R, J, AI, AJ, AR) (gQi g (fun (z : Int) (w : gS) => I = w.1 ∧ R = w.2.1 ∧ J = w.2.2.1 ∧ AI = w.2.2.2.1 ∧ AJ = w.2.2.2.2.1 ∧ AR = w.2.2.2.2.2 ∧ (-1 ≤ z ∧ z ≤ 1) ∧ (z = kc (gh 2 a) (rk (AI (gh 0 a)) (row * 6)) (rk (AI o) from_)))) := sorry
def rmX4_findf : Room := { frames := 1, cells := 0, slots := 0, locals := 27 }
set_option maxHeartbeats 4000000 in
set_option maxRecDepth 100000 in
/-- the row of a key, or -1 less the place where it would come -/
theorem c_X4_findf (l : Launch) (g : gG) (gh : gGh) (I : gI) (R : gR) (J : gJ) (AI : gI) (AJ : gJ) (AR : gR) (a : Nat) (k : Nat) (hv : gInv g gh R AR I AI) (ha : gO g a 4) (hk : gAr g k 9 5) : gMet l g yX4_find wsX4_find rmX4_findf [.ref a, .ref k] (I, R, J, AI, AJ, AR) (gQi g (fun (z : Int) (w : gS) => I = w.1 ∧ R = w.2.1 ∧ J = w.2.2.1 ∧ AI = w.2.2.2.1 ∧ AJ = w.2.2.2.2.1 ∧ AR = w.2.2.2.2.2 ∧ (-1 - (I a 3).toInt ≤ z ∧ z < (I a 3).toInt) ∧ (fdK (gh 2 a) (AI (gh 0 a)) (I a 3).toInt (rk (AI k) 0) z))) := sorry
def rmX4_insertf : Room := { frames := 1, cells := 0, slots := 0, locals := 60 }
set_option maxHeartbeats 4000000 in
set_option maxRecDepth 100000 in
/-- a row comes in, if there is room -/
theorem c_X4_insertf (l : Launch) (g : gG) (gh : gGh) (I : gI) (R : gR) (J : gJ) (AI : gI) (AJ : gJ) (AR : gR) (a : Nat) (row : Int) (k : Nat) (n : Int) (zrow : zr row) (zn : zr n) (hv : gInv g gh R AR I AI) (ha : gO g a 4) (hk : gAr g k 9 5) (hk0 : gh 9 k = 0) (hk5 : gh 2 a = 5 → 0 ≤ (AI k 0).toInt ∧ (AI k 0).toInt ≤ 15) (hfz : gh 2 a = 5 → gh 42 0 = 1 → a ≠ gh 37 0) : gMet l g yX4_insert wsX4_insert rmX4_insertf [.ref a, .int (iI row), .ref k, .int (iI n)] (I, R, J, AI, AJ, AR) (gQi g (fun (z : Int) (w : gS) => R = w.2.1 ∧ J = w.2.2.1 ∧ AJ = w.2.2.2.2.1 ∧ AR = w.2.2.2.2.2 ∧ (gInv g gh R AR (w.1) (w.2.2.2.1)) ∧ (∀ b, b ≠ a → (w.1) b = I b) ∧ (∀ b, b ≠ gh 0 a → (w.2.2.2.1) b = AI b) ∧ (z = 0 → (w.1) = I) ∧ (z = 0 ∨ (z = 1 ∧ (I a 3).toInt < (gh 1 a : Int) ∧ 0 ≤ row ∧ row ≤ (I a 3).toInt ∧ ((w.1) a 3).toInt = (I a 3).toInt + 1)) ∧ ((z = 0 ∧ (w.2.2.2.1) = AI ∧ ((gh 1 a : Int) ≤ (I a 3).toInt ∨ row < 0 ∨ (I a 3).toInt < row)) ∨ (z = 1 ∧ insP (gh 2 a) (AI (gh 0 a)) ((w.2.2.2.1) (gh 0 a)) (rk (AI k) 0) row (I a 3).toInt n)))) := sorry
def rmX4_removeRowf : Room := { frames := 1, cells := 0, slots := 0, locals := 60 }
set_option maxHeartbeats 4000000 in
set_option maxRecDepth 100000 in
/-- a row goes out -/
theorem c_X4_removeRowf (l : Launch) (g : gG) (gh : gGh) (I : gI) (R : gR) (J : gJ) (AI : gI) (AJ : gJ) (AR : gR) (a : Nat) (row : Int) (zrow : zr row) (hv : gInv g gh R AR I AI) (ha : gO g a 4) (h0 : 0 ≤ row) (h1 : row < (I a 3).toInt) (hfz : gh 2 a = 5 → gh 42 0 = 1 → a ≠ gh 37 0) : gMet l g yX4_removeRow wsX4_removeRow rmX4_removeRowf [.ref a, .int (iI row)] (I, R, J, AI, AJ, AR) (gQv g (fun w : gS => R = w.2.1 ∧ J = w.2.2.1 ∧ AJ = w.2.2.2.2.1 ∧ AR = w.2.2.2.2.2 ∧ (gInv g gh R AR (w.1) (w.2.2.2.1)) ∧ (∀ b, b ≠ a → (w.1) b = I b) ∧ (∀ b, b ≠ gh 0 a → (w.2.2.2.1) b = AI b) ∧ (((w.1) a 3).toInt = (I a 3).toInt - 1) ∧ (remP (AI (gh 0 a)) ((w.2.2.2.1) (gh 0 a)) row (I a 3).toInt))) := sorry
def rmX4_addAmountf : Room := { frames := 2, cells := 0, slots := 0, locals := 84 }
set_option maxHeartbeats 4000000 in
set_option maxRecDepth 100000 in
/-- the amount of a key is more by n -/
theorem c_X4_addAmountf (l : Launch) (g : gG) (gh : gGh) (I : gI) (R : gR) (J : gJ) (AI : gI) (AJ : gJ) (AR : gR) (a : Nat) (k : Nat) (n : Int) (zn : zr n) (hv : gInv g gh R AR I AI) (ha : gO g a 4) (hk : gAr g k 9 5) (hk0 : gh 9 k = 0) (hk5 : gh 2 a = 5 → 0 ≤ (AI k 0).toInt ∧ (AI k 0).toInt ≤ 15) (hfz : gh 2 a = 5 → gh 42 0 = 1 → a ≠ gh 37 0) : gMet l g yX4_addAmount wsX4_addAmount rmX4_addAmountf [.ref a, .ref k, .int (iI n)] (I, R, J, AI, AJ, AR) (gQi g (fun (z : Int) (w : gS) => R = w.2.1 ∧ J = w.2.2.1 ∧ AJ = w.2.2.2.2.1 ∧ AR = w.2.2.2.2.2 ∧ (gInv g gh R AR (w.1) (w.2.2.2.1)) ∧ (∀ b, b ≠ a → (w.1) b = I b) ∧ (∀ b, b ≠ gh 0 a → (w.2.2.2.1) b = AI b) ∧ (addP (gh 2 a) (gh 1 a : Int) (AI (gh 0 a)) ((w.2.2.2.1) (gh 0 a)) (I a 3).toInt ((w.1) a 3).toInt (rk (AI k) 0) n z))) := sorry

end

section
def rmX6_changef : Room := { frames := 3, cells := 0, slots := 0, locals := 108 }
set_option maxHeartbeats 4000000 in
set_option maxRecDepth 100000 in
/-- a change -/
theorem c_X6_changef (l : Launch) (g : gG) (gh : gGh) (pA bA nA : Nat) (cl : Int) (I : gI) (R : gR) (J : gJ) (AI : gI) (AJ : gJ) (AR : gR) (x : Nat) (tb : Int) (ca : Int) (cb : Int) (c3 : Int) (c4 : Int) (n : Int) (ztb : zr tb) (zca : zr ca) (zcb : zr cb) (zc3 : zr c3) (zc4 : zr c4) (zn : zr n) (hv : gInv g gh R AR I AI) (hx : xS g gh R AR x pA bA nA) (h37 : gh 42 0 ≠ 1) (hcl : 0 ≤ tb → tb < (I pA 2).toInt → ∀ y, AR (gh 6 pA) tb.toNat = some y → (I y 2).toInt = cl) : gMet l g yX6_change wsX6_change rmX6_changef [.ref x, .int (iI tb), .int (iI ca), .int (iI cb), .int (iI c3), .int (iI c4), .int (iI n)] (I, R, J, AI, AJ, AR) (gQi g (fun (z : Int) (w : gS) => R = w.2.1 ∧ J = w.2.2.1 ∧ AJ = w.2.2.2.2.1 ∧ AR = w.2.2.2.2.2 ∧ (gInv g gh R AR (w.1) (w.2.2.2.1)) ∧ (rF g I (w.1)) ∧ (∀ b, b ≠ gh 37 0 → (w.1) b = I b) ∧ (∀ b, b ≠ gh 29 0 → b ≠ gh 0 (gh 37 0) → (w.2.2.2.1) b = AI b) ∧ (chP (I pA 2).toInt tb n z (I (gh 37 0) 3).toInt ((w.1) (gh 37 0) 3).toInt (AI (gh 0 (gh 37 0))) ((w.2.2.2.1) (gh 0 (gh 37 0))) (cky tb ca cb c3 c4 cl)))) := sorry

end

section
def rmX7_isRelationf : Room := { frames := 1, cells := 0, slots := 0, locals := 22 }
set_option maxHeartbeats 4000000 in
set_option maxRecDepth 100000 in
/-- a relation -/
theorem c_X7_isRelationf (l : Launch) (g : gG) (gh : gGh) (T : Nat → Int32) (I : gI) (R : gR) (J : gJ) (AI : gI) (AJ : gJ) (AR : gR) (mo : Nat) (rr : Int) (zrr : zr rr) (hv : mInv g gh R I AI) (hm : gO g mo 7) (hT : AI (gh 50 0) = T) : gMet l g yX7_isRelation tsX7_isRelation rmX7_isRelationf [.ref mo, .int (iI rr)] (I, R, J, AI, AJ, AR) (gQi g (fun (z : Int) (w : gS) => I = w.1 ∧ R = w.2.1 ∧ J = w.2.2.1 ∧ AI = w.2.2.2.1 ∧ AJ = w.2.2.2.2.1 ∧ AR = w.2.2.2.2.2 ∧ ((z = 0 ∨ z = 1) ∧ (z = 1 → 0 ≤ rr ∧ rr < (I mo 2).toInt ∧ rr ≤ 15)) ∧ (z = 0 → rr < 0 ∨ (I mo 2).toInt ≤ rr))) := sorry
def rmX7_comparef : Room := { frames := 0, cells := 0, slots := 0, locals := 0 }
set_option maxHeartbeats 4000000 in
set_option maxRecDepth 100000 in
/-- compares -/
theorem c_X7_comparef (l : Launch) (g : gG) (n n2 : Nat) (I : gI) (R : gR) (J : gJ) (AI : gI) (AJ : gJ) (AR : gR) (o : Nat) (fr : Int) (o2 : Nat) (fr2 : Int) (zfr : zr fr) (zfr2 : zr fr2) (ho : gAr g o 9 n) (ho2 : gAr g o2 9 n2) (h0 : 0 ≤ fr ∧ fr + 4 ≤ (n : Int)) (h1 : 0 ≤ fr2 ∧ fr2 + 4 ≤ (n2 : Int)) (hn : n ≤ 126720) (hn2 : n2 ≤ 126720) : gMet l g yX7_compare tsX7_compare rmX7_comparef [.ref o, .int (iI fr), .ref o2, .int (iI fr2)] (I, R, J, AI, AJ, AR) (gQi g (fun (z : Int) (w : gS) => I = w.1 ∧ R = w.2.1 ∧ J = w.2.2.1 ∧ AI = w.2.2.2.1 ∧ AJ = w.2.2.2.2.1 ∧ AR = w.2.2.2.2.2 ∧ (-1 ≤ z ∧ z ≤ 1) ∧ (z = kc 4 (rk (AI o) fr) (rk (AI o2) fr2)))) := sorry
def rmX7_movesf : Room := { frames := 0, cells := 0, slots := 0, locals := 0 }
set_option maxHeartbeats 4000000 in
set_option maxRecDepth 100000 in
/-- moves -/
theorem c_X7_movesf (l : Launch) (g : gG) (gh : gGh) (T : Nat → Int32) (I : gI) (R : gR) (J : gJ) (AI : gI) (AJ : gJ) (AR : gR) (mo : Nat) (fm : Int) (to : Int) (zfm : zr fm) (zto : zr to) (hv : mInv g gh R I AI) (hm : gO g mo 7) (hT : AI (gh 50 0) = T) (h0 : 0 ≤ fm ∧ fm ≤ 40 ∧ 0 ≤ to ∧ to ≤ 40) (h61 : gh 9 (gh 61 0) = 5) (h62 : gh 9 (gh 62 0) = 5) (h63 : gh 9 (gh 63 0) = 5) : gMet l g yX7_moves tsX7_moves rmX7_movesf [.ref mo, .int (iI fm), .int (iI to)] (I, R, J, AI, AJ, AR) (gQv g (fun w : gS => I = w.1 ∧ R = w.2.1 ∧ J = w.2.2.1 ∧ AJ = w.2.2.2.2.1 ∧ AR = w.2.2.2.2.2 ∧ (mInv g gh R I (w.2.2.2.1)) ∧ ((w.2.2.2.1) (gh 50 0) = T) ∧ (mvP (AI (gh 61 0)) (AI (gh 62 0)) (AI (gh 63 0)) ((w.2.2.2.1) (gh 61 0)) ((w.2.2.2.1) (gh 62 0)) ((w.2.2.2.1) (gh 63 0)) fm to) ∧ (∀ b, b ≠ gh 61 0 → b ≠ gh 62 0 → b ≠ gh 63 0 → (w.2.2.2.1) b = AI b))) := sorry

end

section
/-! the tables that a text tells: those of kind 0, ahead of all views -/
theorem sVk_r {b : tTx} {n h : Nat} (h0 : (sVk b n h).1 = 0) : 1 ≤ pV b n (h + 1) := sorry
theorem sNam_t {b : tTx} {n nr h : Nat} {nt : Nat → Nat} (h0 : (sNam b n nr nt h).1 = 0) : (sNam b n nr nt h).2.1 = h + 1 := sorry
/-- a line that is read: a table, all ahead of it tables; or a view -/
theorem sLine_k {b : tTx} {n nr h : Nat} {nt : Nat → Nat} {cl : Nat → Int} {tb : Int} (h0 : (sLine b n nr nt cl tb h).1 = 0) : (pK b n h = 3 ∧ pV b n h = 0 ∧ ¬ tb < (nr : Int)) ∨ (¬ (pK b n h = 3 ∧ pV b n h = 0) ∧ pV b n h = 9 ∧ 1 ≤ pV b n (h + 3)) := sorry
def kdI (b : tTx) (n : Nat) (s : Nat × (Nat → Nat) × (Nat → Int) × Int) : Prop := 0 ≤ s.2.2.2 ∧ s.2.2.2 ≤ (s.1 : Int) ∧ ∀ r : Nat, r < s.1 → (kdT b n (s.2.1 r) = 0 ↔ (r : Int) < s.2.2.2)
theorem sParF_k {b : tTx} {n : Nat} : ∀ (f nr : Nat) (nt : Nat → Nat) (cl : Nat → Int) (tb : Int) (h : Nat), kdI b n (nr, nt, cl, tb) → kdI b n (sParF b n f nr nt cl tb h) := sorry
theorem sPlF_k (b : tTx) (n : Nat) : kdI b n (sPlF b n) := sorry
/-! both batches: rows alike -/
def rwE (f T V C : Nat → Int32) (i : Nat) : Prop := f (6 * i) = T i ∧ (∀ t, t < 4 → f (6 * i + 1 + t) = V (4 * i + t)) ∧ f (6 * i + 5) = C i
section RwE
variable {f T V C f' T' V' C' : Nat → Int32} {i j i' j' p : Nat} {u : Nat → Int} {len n : Int}
theorem rwE_k (h : rwE f T V C i) : ∀ t, t < 5 → ry6 f i t = rmk T V i t := sorry
theorem rwE_c (h : rwE f T V C i) : kc 5 (ry6 f i) u = kc 5 (rmk T V i) u := sorry
/-- a row moves on both sides -/
theorem rwE_m (h : rwE f T V C i) (a : ∀ t, t < 6 → f' (6 * i' + t) = f (6 * i + t)) (b : rEq T V C T' V' C' i i') : rwE f' T' V' C' i' := sorry
theorem rw_ins (hr : ∀ i : Nat, (i : Int) < len → rwE f T V C i) (hp : (p : Int) ≤ len) (a : insP 5 f f' u (p : Int) len n) (b : insM T V C T' V' C' p len n u) : ∀ i : Nat, (i : Int) < len + 1 → rwE f' T' V' C' i := sorry
theorem rw_rem (hr : ∀ i : Nat, (i : Int) < len → rwE f T V C i) (a : remP f f' (p : Int) len) (b : remM T V C T' V' C' p len) : ∀ i : Nat, (i : Int) < len - 1 → rwE f' T' V' C' i := sorry
theorem rw_set {w : Int} (hr : ∀ i : Nat, (i : Int) < len → rwE f T V C i) (a : setP 5 f f' (p : Int) w) (b : (∀ j : Nat, j ≠ p → C' j = C j) ∧ C' p = iI w) : ∀ i : Nat, (i : Int) < len → rwE f' T V C' i := sorry
end RwE
/-- a change of both batches: one answer, rows stay alike and in order -/
theorem ch_eq {f T V C f' T' V' C' : Nat → Int32} {u : Nat → Int} {len len1 len2 tbs many kd tb n z z2 : Int} (h0 : 0 ≤ len ∧ len ≤ 40) (hr : ∀ i : Nat, (i : Int) < len → rwE f T V C i) (hs : srt 5 f len) (hk : 0 ≤ tb → (tb < tbs ↔ tb < many ∧ kd = 0))
    (a : chP tbs tb n z len len1 f f' u) (b : chR many kd tb n z2 len len2 T V C T' V' C' u) : z = z2 ∧ len1 = len2 ∧ (0 ≤ len1 ∧ len1 ≤ 40) ∧ (∀ i : Nat, (i : Int) < len1 → rwE f' T' V' C' i) ∧ srt 5 f' len1 := sorry

end
