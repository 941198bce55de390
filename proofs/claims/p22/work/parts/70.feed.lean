section
/-! the tape's bytes: what the class puts, what the reference puts -/
def cBs (v : Int64) (sh : Int) : Int32 := vp_nar .byte (iI ((iI (((v.toUInt64 >>> ((iI sh).toInt64.toUInt64 &&& Int64.toUInt64 63)).toInt64.toInt32).toInt)).toInt8.toInt32.toInt))
def mBs (v : Int64) (sh : Int) : Int32 := iI ((iI (((v >>> ((iI sh).toInt64 &&& 63)).toInt32).toInt) &&& iI 255).toInt)
theorem fd3 {A0 A1 A2 A3 : Nat → Int32} {c1 c2 c3 : Nat → Int32} {L L1 L2 : Int} (h1 : ∀ k : Nat, (k : Int) < L ∨ L + 8 ≤ (k : Int) → A1 k = A0 k) (k1 : ∀ i : Nat, i < 8 → A1 (L.toNat + i) = c1 i) (h2 : ∀ k : Nat, (k : Int) < L1 ∨ L1 + 8 ≤ (k : Int) → A2 k = A1 k) (k2 : ∀ i : Nat, i < 8 → A2 (L1.toNat + i) = c2 i) (h3 : ∀ k : Nat, (k : Int) < L2 ∨ L2 + 8 ≤ (k : Int) → A3 k = A2 k) (k3 : ∀ i : Nat, i < 8 → A3 (L2.toNat + i) = c3 i)
    (h0 : 0 ≤ L) (e1 : L1 = L + 8) (e2 : L2 = L + 16) : (∀ k : Nat, (k : Int) < L ∨ L + 24 ≤ (k : Int) → A3 k = A0 k) ∧ (∀ i : Nat, i < 8 → A3 (L.toNat + 0 + i) = c1 i) ∧ (∀ i : Nat, i < 8 → A3 (L.toNat + 8 + i) = c2 i) ∧ ∀ i : Nat, i < 8 → A3 (L.toNat + 16 + i) = c3 i := sorry
def rmX6_putBytesf : Room := { frames := 0, cells := 0, slots := 0, locals := 0 }
set_option maxHeartbeats 4000000 in
set_option maxRecDepth 100000 in
/-- eight bytes -/
theorem c_X6_putBytesf (l : Launch) (g : gG) (gh : gGh) (I : gI) (R : gR) (J : gJ) (AI : gI) (AJ : gJ) (AR : gR) (x : Nat) (v8 : Int64) (hR : R x 0 = some (gh 28 0) ∧ gAr g (gh 28 0) 8 936) (hx1 : gO g x 6) (h0 : (I x 1).toInt ≤ 928) (h1 : 0 ≤ (I x 1).toInt) : gMet l g yX6_putBytes wsX6_putBytes rmX6_putBytesf [.ref x, .long v8] (I, R, J, AI, AJ, AR) (gQv g (fun w : gS => R = w.2.1 ∧ J = w.2.2.1 ∧ AJ = w.2.2.2.2.1 ∧ AR = w.2.2.2.2.2 ∧ (∀ b, b ≠ x → (w.1) b = I b) ∧ (∀ j, j ≠ 1 → (w.1) x j = I x j) ∧ (∀ b, b ≠ gh 28 0 → (w.2.2.2.1) b = AI b) ∧ (((w.1) x 1).toInt = (I x 1).toInt + 8) ∧ (∀ k : Nat, (k : Int) < (I x 1).toInt ∨ (I x 1).toInt + 8 ≤ (k : Int) → (w.2.2.2.1) (gh 28 0) k = AI (gh 28 0) k) ∧ (∀ i : Nat, i < 8 → (w.2.2.2.1) (gh 28 0) ((I x 1).toInt.toNat + i) = cBs v8 (56 - 8 * (i : Int))))) := sorry
def rmX6_feedf : Room := { frames := 1, cells := 0, slots := 0, locals := 23 }
set_option maxHeartbeats 4000000 in
set_option maxRecDepth 100000 in
/-- 24 bytes -/
theorem c_X6_feedf (l : Launch) (g : gG) (gh : gGh) (pA bA nA : Nat) (I : gI) (R : gR) (J : gJ) (AI : gI) (AJ : gJ) (AR : gR) (x : Nat) (b1 : Int64) (b2 : Int64) (b3 : Int64) (hv : gInv g gh R AR I AI) (hx : xS g gh R AR x pA bA nA) : gMet l g yX6_feed wsX6_feed rmX6_feedf [.ref x, .long b1, .long b2, .long b3] (I, R, J, AI, AJ, AR) (gQi g (fun (z : Int) (w : gS) => R = w.2.1 ∧ J = w.2.2.1 ∧ AJ = w.2.2.2.2.1 ∧ AR = w.2.2.2.2.2 ∧ (∀ b, b ≠ x → (w.1) b = I b) ∧ (∀ j, j ≠ 1 → (w.1) x j = I x j) ∧ (∀ b, b ≠ gh 28 0 → (w.2.2.2.1) b = AI b) ∧ ((936 < (I x 1).toInt + 24 ∧ z = -1 ∧ ((w.1) x 1).toInt = (I x 1).toInt ∧ (w.2.2.2.1) (gh 28 0) = AI (gh 28 0)) ∨ ((I x 1).toInt + 24 ≤ 936 ∧ z = (I x 1).toInt + 24 ∧ ((w.1) x 1).toInt = (I x 1).toInt + 24 ∧ (∀ k : Nat, (k : Int) < (I x 1).toInt ∨ (I x 1).toInt + 24 ≤ (k : Int) → (w.2.2.2.1) (gh 28 0) k = AI (gh 28 0) k) ∧ (∀ i : Nat, i < 8 → (w.2.2.2.1) (gh 28 0) ((I x 1).toInt.toNat + 0 + i) = cBs b1 (56 - 8 * (i : Int))) ∧ (∀ i : Nat, i < 8 → (w.2.2.2.1) (gh 28 0) ((I x 1).toInt.toNat + 8 + i) = cBs b2 (56 - 8 * (i : Int))) ∧ (∀ i : Nat, i < 8 → (w.2.2.2.1) (gh 28 0) ((I x 1).toInt.toNat + 16 + i) = cBs b3 (56 - 8 * (i : Int))))))) := sorry
def rmX7_eightf : Room := { frames := 0, cells := 0, slots := 0, locals := 0 }
set_option maxHeartbeats 4000000 in
set_option maxRecDepth 100000 in
/-- eight bytes -/
theorem c_X7_eightf (l : Launch) (g : gG) (gh : gGh) (I : gI) (R : gR) (J : gJ) (AI : gI) (AJ : gJ) (AR : gR) (mo : Nat) (v8 : Int64) (hR : R mo 15 = some (gh 65 0) ∧ gAr g (gh 65 0) 9 936) (hm : gO g mo 7) (h0 : (I mo 16).toInt ≤ 928) (h1 : 0 ≤ (I mo 16).toInt) : gMet l g yX7_eight tsX7_eight rmX7_eightf [.ref mo, .long v8] (I, R, J, AI, AJ, AR) (gQv g (fun w : gS => R = w.2.1 ∧ J = w.2.2.1 ∧ AJ = w.2.2.2.2.1 ∧ AR = w.2.2.2.2.2 ∧ (∀ b, b ≠ mo → (w.1) b = I b) ∧ (∀ j, j ≠ 16 → (w.1) mo j = I mo j) ∧ (∀ b, b ≠ gh 65 0 → (w.2.2.2.1) b = AI b) ∧ (((w.1) mo 16).toInt = (I mo 16).toInt + 8) ∧ (∀ k : Nat, (k : Int) < (I mo 16).toInt ∨ (I mo 16).toInt + 8 ≤ (k : Int) → (w.2.2.2.1) (gh 65 0) k = AI (gh 65 0) k) ∧ (∀ i : Nat, i < 8 → (w.2.2.2.1) (gh 65 0) ((I mo 16).toInt.toNat + i) = mBs v8 (56 - 8 * (i : Int))))) := sorry
def rmX7_feedf : Room := { frames := 1, cells := 0, slots := 0, locals := 23 }
set_option maxHeartbeats 4000000 in
set_option maxRecDepth 100000 in
/-- 24 bytes -/
theorem c_X7_feedf (l : Launch) (g : gG) (gh : gGh) (I : gI) (R : gR) (J : gJ) (AI : gI) (AJ : gJ) (AR : gR) (mo : Nat) (b1 : Int64) (b2 : Int64) (b3 : Int64) (hv : mInv g gh R I AI) (hm : gO g mo 7) : gMet l g yX7_feed tsX7_feed rmX7_feedf [.ref mo, .long b1, .long b2, .long b3] (I, R, J, AI, AJ, AR) (gQi g (fun (z : Int) (w : gS) => R = w.2.1 ∧ J = w.2.2.1 ∧ AJ = w.2.2.2.2.1 ∧ AR = w.2.2.2.2.2 ∧ (∀ b, b ≠ mo → (w.1) b = I b) ∧ (∀ j, j ≠ 16 → j ≠ 17 → (w.1) mo j = I mo j) ∧ (∀ b, b ≠ gh 65 0 → (w.2.2.2.1) b = AI b) ∧ ((936 < (I mo 16).toInt + 24 ∧ z = -1 ∧ ((w.1) mo 16).toInt = (I mo 16).toInt ∧ (w.2.2.2.1) (gh 65 0) = AI (gh 65 0)) ∨ ((I mo 16).toInt + 24 ≤ 936 ∧ z = (I mo 16).toInt + 24 ∧ ((w.1) mo 16).toInt = (I mo 16).toInt + 24 ∧ (∀ k : Nat, (k : Int) < (I mo 16).toInt ∨ (I mo 16).toInt + 24 ≤ (k : Int) → (w.2.2.2.1) (gh 65 0) k = AI (gh 65 0) k) ∧ (∀ i : Nat, i < 8 → (w.2.2.2.1) (gh 65 0) ((I mo 16).toInt.toNat + 0 + i) = mBs b1 (56 - 8 * (i : Int))) ∧ (∀ i : Nat, i < 8 → (w.2.2.2.1) (gh 65 0) ((I mo 16).toInt.toNat + 8 + i) = mBs b2 (56 - 8 * (i : Int))) ∧ (∀ i : Nat, i < 8 → (w.2.2.2.1) (gh 65 0) ((I mo 16).toInt.toNat + 16 + i) = mBs b3 (56 - 8 * (i : Int))))))) := sorry

end

section
/-! String's methods with what they answer -/
theorem sTab_by {i : Nat} {q : String × Nat × String × List Int32} (h : sTab[i]? = some q) : ∀ k : Nat, 0 ≤ (q.2.2.2.getD k 0).toInt ∧ (q.2.2.2.getD k 0).toInt ≤ 127 := sorry
theorem iI_and {z : Int} (h0 : 0 ≤ z) (h1 : z ≤ 127) : (iI z &&& iI 255).toInt = z := sorry
theorem z_i2b {z v : Int} (e : v = ((iI z).toInt8.toInt32).toInt) (h0 : 0 ≤ z) (h1 : z ≤ 127) : v = z := sorry
theorem z_i2cB {a b c : Int} (e1 : b = (iI a &&& iI 255).toInt) (e2 : c = (((iI b).toUInt32 % 65536).toInt32).toInt) (h0 : 0 ≤ a) (h1 : a ≤ 127) : c = a := sorry
theorem ix_mx {f : Nat → Int} {z ch m m' : Int} (h : (z = -1 ∧ ∀ j : Nat, (j : Int) < m → f j ≠ ch) ∨ (0 ≤ z ∧ z < m ∧ f z.toNat = ch)) (e : m = m') : (z = -1 ∧ ∀ j : Nat, (j : Int) < m' → f j ≠ ch) ∨ (0 ≤ z ∧ z < m' ∧ f z.toNat = ch) := sorry
theorem ix_step {P : Nat → Prop} {j : Int} (h : ∀ k : Nat, (k : Int) < j → P k) (h0 : 0 ≤ j) (hj : P j.toNat) : ∀ k : Nat, (k : Int) < j + 1 → P k := sorry
def rmJ1_charAt_3b067f : Room := { frames := 2, cells := 0, slots := 0, locals := 43 }
set_option maxHeartbeats 4000000 in
set_option maxRecDepth 100000 in
theorem c_J1_charAt_3b067f (l : Launch) (g : gG) (i : Nat) (q : String × Nat × String × List Int32) (I : gI) (R : gR) (J : gJ) (AI : gI) (AJ : gJ) (AR : gR) (k : Int) (zk : zr k) (hq : sTab[i]? = some q) (h0 : 0 ≤ k) (h1 : k < ((q.2.2.2.length : Nat) : Int)) : gMet l g yJ1_charAt_3b067 wsJ1_charAt_3b067 rmJ1_charAt_3b067f [.ref (gSV g i), .int (iI k)] (I, R, J, AI, AJ, AR) (gQi g (fun (z : Int) (w : gS) => I = w.1 ∧ R = w.2.1 ∧ J = w.2.2.1 ∧ AI = w.2.2.2.1 ∧ AJ = w.2.2.2.2.1 ∧ AR = w.2.2.2.2.2 ∧ (z = (q.2.2.2.getD k.toNat 0).toInt))) := sorry
def rmJ0_charAt_5068ef : Room := { frames := 3, cells := 0, slots := 0, locals := 64 }
set_option maxHeartbeats 4000000 in
set_option maxRecDepth 100000 in
theorem c_J0_charAt_5068ef (l : Launch) (g : gG) (i : Nat) (q : String × Nat × String × List Int32) (I : gI) (R : gR) (J : gJ) (AI : gI) (AJ : gJ) (AR : gR) (k : Int) (zk : zr k) (hq : sTab[i]? = some q) (h0 : 0 ≤ k) (h1 : k < ((q.2.2.2.length : Nat) : Int)) : gMet l g yJ0_charAt_5068e wsJ0_charAt_5068e rmJ0_charAt_5068ef [.ref (gSK g i), .int (iI k)] (I, R, J, AI, AJ, AR) (gQi g (fun (z : Int) (w : gS) => I = w.1 ∧ R = w.2.1 ∧ J = w.2.2.1 ∧ AI = w.2.2.2.1 ∧ AJ = w.2.2.2.2.1 ∧ AR = w.2.2.2.2.2 ∧ (z = (q.2.2.2.getD k.toNat 0).toInt))) := sorry
def rmJ1_canEncode_9a6adf : Room := { frames := 0, cells := 0, slots := 0, locals := 0 }
set_option maxHeartbeats 4000000 in
set_option maxRecDepth 100000 in
theorem c_J1_canEncode_9a6adf (l : Launch) (g : gG)  (I : gI) (R : gR) (J : gJ) (AI : gI) (AJ : gJ) (AR : gR) (k : Int) (zk : zr k) : gMet l g yJ1_canEncode_9a6ad wsJ1_canEncode_9a6ad rmJ1_canEncode_9a6adf [.int (iI k)] (I, R, J, AI, AJ, AR) (gQi g (fun (z : Int) (w : gS) => I = w.1 ∧ R = w.2.1 ∧ J = w.2.2.1 ∧ AI = w.2.2.2.1 ∧ AJ = w.2.2.2.2.1 ∧ AR = w.2.2.2.2.2 ∧ ((z = 0 ∨ z = 1) ∧ (0 ≤ k → k ≤ 255 → z = 1)))) := sorry
def rmJ1_indexOfChar_4cfeff : Room := { frames := 0, cells := 0, slots := 0, locals := 0 }
set_option maxHeartbeats 4000000 in
set_option maxRecDepth 100000 in
theorem c_J1_indexOfChar_4cfeff (l : Launch) (g : gG) (i : Nat) (q : String × Nat × String × List Int32) (I : gI) (R : gR) (J : gJ) (AI : gI) (AJ : gJ) (AR : gR) (ch : Int) (fr : Int) (mx : Int) (zch : zr ch) (zfr : zr fr) (zmx : zr mx) (hq : sTab[i]? = some q) (hc : 0 ≤ ch ∧ ch ≤ 127) (h0 : fr = 0) (h1 : mx = ((q.2.2.2.length : Nat) : Int)) : gMet l g yJ1_indexOfChar_4cfef wsJ1_indexOfChar_4cfef rmJ1_indexOfChar_4cfeff [.ref (gSV g i), .int (iI ch), .int (iI fr), .int (iI mx)] (I, R, J, AI, AJ, AR) (gQi g (fun (z : Int) (w : gS) => I = w.1 ∧ R = w.2.1 ∧ J = w.2.2.1 ∧ AI = w.2.2.2.1 ∧ AJ = w.2.2.2.2.1 ∧ AR = w.2.2.2.2.2 ∧ ((z = -1 ∧ ∀ j : Nat, (j : Int) < mx → (q.2.2.2.getD j 0).toInt ≠ ch) ∨ (0 ≤ z ∧ z < mx ∧ (q.2.2.2.getD z.toNat 0).toInt = ch)))) := sorry
def rmJ1_indexOf_4cfeff : Room := { frames := 1, cells := 0, slots := 0, locals := 40 }
set_option maxHeartbeats 4000000 in
set_option maxRecDepth 100000 in
theorem c_J1_indexOf_4cfeff (l : Launch) (g : gG) (i : Nat) (q : String × Nat × String × List Int32) (I : gI) (R : gR) (J : gJ) (AI : gI) (AJ : gJ) (AR : gR) (ch : Int) (fr : Int) (mx : Int) (zch : zr ch) (zfr : zr fr) (zmx : zr mx) (hq : sTab[i]? = some q) (hc : 0 ≤ ch ∧ ch ≤ 127) (h0 : fr = 0) (h1 : mx = ((q.2.2.2.length : Nat) : Int)) : gMet l g yJ1_indexOf_4cfef wsJ1_indexOf_4cfef rmJ1_indexOf_4cfeff [.ref (gSV g i), .int (iI ch), .int (iI fr), .int (iI mx)] (I, R, J, AI, AJ, AR) (gQi g (fun (z : Int) (w : gS) => I = w.1 ∧ R = w.2.1 ∧ J = w.2.2.1 ∧ AI = w.2.2.2.1 ∧ AJ = w.2.2.2.2.1 ∧ AR = w.2.2.2.2.2 ∧ ((z = -1 ∧ ∀ j : Nat, (j : Int) < mx → (q.2.2.2.getD j 0).toInt ≠ ch) ∨ (0 ≤ z ∧ z < mx ∧ (q.2.2.2.getD z.toNat 0).toInt = ch)))) := sorry
def rmJ0_indexOf_7cf53f : Room := { frames := 2, cells := 0, slots := 0, locals := 63 }
set_option maxHeartbeats 4000000 in
set_option maxRecDepth 100000 in
theorem c_J0_indexOf_7cf53f (l : Launch) (g : gG) (i : Nat) (q : String × Nat × String × List Int32) (I : gI) (R : gR) (J : gJ) (AI : gI) (AJ : gJ) (AR : gR) (ch : Int) (fr : Int) (zch : zr ch) (zfr : zr fr) (hq : sTab[i]? = some q) (hc : 0 ≤ ch ∧ ch ≤ 127) (h0 : fr = 0) : gMet l g yJ0_indexOf_7cf53 wsJ0_indexOf_7cf53 rmJ0_indexOf_7cf53f [.ref (gSK g i), .int (iI ch), .int (iI fr)] (I, R, J, AI, AJ, AR) (gQi g (fun (z : Int) (w : gS) => I = w.1 ∧ R = w.2.1 ∧ J = w.2.2.1 ∧ AI = w.2.2.2.1 ∧ AJ = w.2.2.2.2.1 ∧ AR = w.2.2.2.2.2 ∧ ((z = -1 ∧ ∀ j : Nat, (j : Int) < ((q.2.2.2.length : Nat) : Int) → (q.2.2.2.getD j 0).toInt ≠ ch) ∨ (0 ≤ z ∧ z < ((q.2.2.2.length : Nat) : Int) ∧ (q.2.2.2.getD z.toNat 0).toInt = ch)))) := sorry
def rmJ0_indexOf_0f7a4f : Room := { frames := 3, cells := 0, slots := 0, locals := 85 }
set_option maxHeartbeats 4000000 in
set_option maxRecDepth 100000 in
theorem c_J0_indexOf_0f7a4f (l : Launch) (g : gG) (i : Nat) (q : String × Nat × String × List Int32) (I : gI) (R : gR) (J : gJ) (AI : gI) (AJ : gJ) (AR : gR) (ch : Int) (zch : zr ch) (hq : sTab[i]? = some q) (hc : 0 ≤ ch ∧ ch ≤ 127) : gMet l g yJ0_indexOf_0f7a4 wsJ0_indexOf_0f7a4 rmJ0_indexOf_0f7a4f [.ref (gSK g i), .int (iI ch)] (I, R, J, AI, AJ, AR) (gQi g (fun (z : Int) (w : gS) => I = w.1 ∧ R = w.2.1 ∧ J = w.2.2.1 ∧ AI = w.2.2.2.1 ∧ AJ = w.2.2.2.2.1 ∧ AR = w.2.2.2.2.2 ∧ ((z = -1 ∧ ∀ j : Nat, (j : Int) < ((q.2.2.2.length : Nat) : Int) → (q.2.2.2.getD j 0).toInt ≠ ch) ∨ (0 ≤ z ∧ z < ((q.2.2.2.length : Nat) : Int) ∧ (q.2.2.2.getD z.toNat 0).toInt = ch)))) := sorry

end

section
/-! the tokens of a text, as both sides read them: b its bytes (from -128 to 127), n its length -/
abbrev tTx : Type := Nat → Int
abbrev tDg (c : Int) : Prop := 48 ≤ c ∧ c ≤ 57
abbrev tRu (c : Int) : Prop := (48 ≤ c ∧ c ≤ 57) ∨ (97 ≤ c ∧ c ≤ 122)
abbrev tBl (c : Int) : Prop := c = 32 ∨ c = 10
abbrev tSg (c : Int) : Prop := c = 61 ∨ c = 60 ∨ c = 62 ∨ c = 43 ∨ c = 45 ∨ c = 44 ∨ c = 59
def tSkF (b : tTx) : Nat → Nat → Nat
  | 0, k => k
  | f + 1, k => if tBl (b k) then tSkF b f (k + 1) else k
/-- the first place from k on that is no blank -/
def tSk (b : tTx) (n k : Nat) : Nat := tSkF b (n - k) k
def tRnF (b : tTx) : Nat → Nat → Nat
  | 0, k => k
  | f + 1, k => if tRu (b k) then tRnF b f (k + 1) else k
/-- the end of a run -/
def tRn (b : tTx) (n k : Nat) : Nat := tRnF b (n - k) k
theorem tSk_n {b : tTx} {n k : Nat} (h : n ≤ k) : tSk b n k = k := sorry
theorem tSk_b {b : tTx} {n k : Nat} (h : k < n) (hb : tBl (b k)) : tSk b n k = tSk b n (k + 1) := sorry
theorem tSk_s {b : tTx} {n k : Nat} (h : k < n) (hb : ¬ tBl (b k)) : tSk b n k = k := sorry
theorem tRn_n {b : tTx} {n k : Nat} (h : n ≤ k) : tRn b n k = k := sorry
theorem tRn_b {b : tTx} {n k : Nat} (h : k < n) (hb : tRu (b k)) : tRn b n k = tRn b n (k + 1) := sorry
theorem tRn_s {b : tTx} {n k : Nat} (h : k < n) (hb : ¬ tRu (b k)) : tRn b n k = k := sorry
theorem tRnF_le {b : tTx} : ∀ (f k : Nat), k ≤ tRnF b f k ∧ tRnF b f k ≤ k + f ∧ (∀ j, k ≤ j → j < tRnF b f k → tRu (b j)) ∧ (tRnF b f k < k + f → ¬ tRu (b (tRnF b f k))) := sorry
theorem tRn_le {b : tTx} {n k : Nat} (h : k ≤ n) : k ≤ tRn b n k ∧ tRn b n k ≤ n ∧ (∀ j, k ≤ j → j < tRn b n k → tRu (b j)) ∧ (tRn b n k < n → ¬ tRu (b (tRn b n k))) := sorry
/-- where all to e are of the run, and e is none or the end -/
theorem tRn_at {b : tTx} {n : Nat} : ∀ {k e : Nat}, k ≤ e → e ≤ n → (∀ j, k ≤ j → j < e → tRu (b j)) → (e < n → ¬ tRu (b e)) → tRn b n k = e := sorry
theorem tSkF_le {b : tTx} : ∀ (f k : Nat), k ≤ tSkF b f k ∧ tSkF b f k ≤ k + f ∧ (tSkF b f k < k + f → ¬ tBl (b (tSkF b f k))) := sorry
theorem tSk_le {b : tTx} {n k : Nat} (h : k ≤ n) : k ≤ tSk b n k ∧ tSk b n k ≤ n ∧ (tSk b n k < n → ¬ tBl (b (tSk b n k))) := sorry
/-- the end of the token at k -/
def tNd (b : tTx) (n k : Nat) : Nat := if n ≤ k then n else if tRu (b k) then tRn b n k else k + 1
/-- where the tokens stand; behind the last one the end again and again -/
def tPs (b : tTx) (n : Nat) : Nat → Nat
  | 0 => tSk b n 0
  | j + 1 => tSk b n (tNd b n (tPs b n j))
theorem tNd_le {b : tTx} {n k : Nat} : tNd b n k ≤ n ∧ (k < n → k < tNd b n k) := sorry
theorem tPs_le {b : tTx} {n : Nat} : ∀ j, tPs b n j ≤ n := sorry
/-- digits among the first m from k on; their number; the letters of a name as the class packs them, as the reference does -/
def tDc (b : tTx) (k : Nat) : Nat → Nat
  | 0 => 0
  | m + 1 => tDc b k m + (if tDg (b (k + m)) then 1 else 0)
def tNb (b : tTx) (k : Nat) : Nat → Int
  | 0 => 0
  | m + 1 => 10 * tNb b k m + b (k + m) - 48
def tNm (b : tTx) (k : Nat) : Nat → Int64
  | 0 => 0
  | m + 1 => (tNm b k m <<< ((iI 5).toInt64 &&& 63)) ||| (iI (b (k + m) - 97 + 1)).toInt64
theorem tDc_le {b : tTx} {k : Nat} : ∀ m, tDc b k m ≤ m := sorry
theorem tDc_all {b : tTx} {k : Nat} : ∀ {m}, tDc b k m = m → ∀ j, j < m → tDg (b (k + j)) := sorry
theorem tDc_none {b : tTx} {k : Nat} : ∀ {m}, tDc b k m = 0 → ∀ j, j < m → ¬ tDg (b (k + j)) := sorry
theorem tNb_le {b : tTx} {k : Nat} : ∀ {m}, (∀ j, j < m → tDg (b (k + j))) → 0 ≤ tNb b k m ∧ tNb b k m ≤ 10 ^ m - 1 := sorry
/-- the words of the language: their lengths and letters; the number of the word that stands at k, m letters long -/
def wTab : List (Nat × Nat) := [(0, 5), (6, 6), (13, 7), (21, 4), (26, 5), (32, 5), (38, 8), (47, 5), (53, 4), (58, 4), (63, 5), (69, 3), (73, 2), (76, 2), (79, 4), (84, 4), (89, 5), (95, 3), (99, 5), (105, 4)]
def wBy : List Int32 := [116, 97, 98, 108, 101, 32, 115, 101, 108, 101, 99, 116, 32, 112, 114, 111, 106, 101, 99, 116, 32, 106, 111, 105, 110, 32, 117, 110, 105, 111, 110, 32, 109, 105, 110, 117, 115, 32, 100, 105, 115, 116, 105, 110, 99, 116, 32, 103, 114, 111, 117, 112, 32, 114, 105, 110, 103, 32, 118, 105, 101, 119, 32, 119, 104, 101, 114, 101, 32, 97, 110, 100, 32, 111, 110, 32, 98, 121, 32, 119, 105, 116, 104, 32, 107, 101, 101, 112, 32, 99, 111, 117, 110, 116, 32, 115, 117, 109, 32, 108, 101, 97, 115, 116, 32, 109, 111, 115, 116, 32]
def wSt (w : Nat) : Nat := (wTab.getD w (110, 0)).1
def wLn (w : Nat) : Nat := (wTab.getD w (110, 0)).2
def wCh (j : Nat) : Int := (wBy.getD j 0).toInt
abbrev tWa (b : tTx) (k m w : Nat) : Prop := wLn w = m ∧ ∀ j, j < m → wCh (wSt w + j) = b (k + j)
def tWf (b : tTx) (k m : Nat) : Nat → Nat → Int
  | 0, _ => -1
  | f + 1, w => if tWa b k m w then (w : Int) else tWf b k m f (w + 1)
def tWn (b : tTx) (k m : Nat) : Int := tWf b k m 20 0
theorem tWf_at {b : tTx} {k m : Nat} : ∀ (f w v : Nat), w ≤ v → v < w + f → tWa b k m v → (∀ u, w ≤ u → u < v → ¬ tWa b k m u) → tWf b k m f w = (v : Int) := sorry
theorem tWf_no {b : tTx} {k m : Nat} : ∀ (f w : Nat), (∀ u, w ≤ u → u < w + f → ¬ tWa b k m u) → tWf b k m f w = -1 := sorry
theorem tWn_at {b : tTx} {k m v : Nat} (hv : v < 20) (h : tWa b k m v) (hn : ∀ u, u < v → ¬ tWa b k m u) : tWn b k m = (v : Int) := sorry
theorem tWn_no {b : tTx} {k m : Nat} (hn : ∀ u, u < 20 → ¬ tWa b k m u) : tWn b k m = -1 := sorry
/-- kind (0 the end, 1 bad, 2 a column, 3 a word, 4 a number, else the sign), value and name of the token at k -/
def tKr (b : tTx) (k m : Nat) : Int := if tDc b k m = 0 ∧ m ≤ 8 then 3 else if tDc b k m = m ∧ m ≤ 4 then 4 else if m = 2 ∧ b k = 99 ∧ 48 ≤ b (k + 1) ∧ b (k + 1) ≤ 51 then 2 else 1
def tKd (b : tTx) (n k : Nat) : Int := if n ≤ k then 0 else if tRu (b k) then tKr b k (tRn b n k - k) else if tSg (b k) then b k else 1
def tVr (b : tTx) (k m : Nat) : Int := if tKr b k m = 3 then tWn b k m else if tKr b k m = 4 then tNb b k m else if tKr b k m = 2 then b (k + 1) - 48 else 0
def tVl (b : tTx) (n k : Nat) : Int := if n ≤ k then 0 else if tRu (b k) then tVr b k (tRn b n k - k) else 0
def tNa (b : tTx) (n k : Nat) : Int64 := if n ≤ k then 0 else if tRu (b k) then (if tKr b k (tRn b n k - k) = 3 then tNm b k (tRn b n k - k) else 0) else 0
/-- the class's rows of tokens hold the token at place k as the j-th -/
def tAt (gh : gGh) (AI : gI) (AJ : gJ) (j : Nat) (kd pl vl : Int) (nm : Int64) : Prop := (AI (gh 24 0) j).toInt = kd ∧ (AI (gh 25 0) j).toInt = pl ∧ (AI (gh 26 0) j).toInt = vl ∧ AJ (gh 27 0) j = nm
def tOk (gh : gGh) (AI : gI) (AJ : gJ) (b : tTx) (n j : Nat) : Prop := tAt gh AI AJ j (tKd b n (tPs b n j)) (tPs b n j : Int) (tVl b n (tPs b n j)) (tNa b n (tPs b n j))


end

section
theorem tNm_s {b : tTx} {k m : Nat} {nm j1 j2 j3 : Int64} {v : Int} (hn : nm = tNm b k m) (e1 : j1 = nm <<< ((iI 5).toInt64 &&& 63)) (ev : v = b (k + m)) (e2 : j2 = (iI (v - 97 + 1)).toInt64) (e3 : j3 = j1 ||| j2) : j3 = tNm b k (m + 1) := sorry
theorem tNb_4 {b : tTx} {k m : Nat} (h : ∀ j, j < m → tDg (b (k + j))) (hm : m ≤ 4) : 0 ≤ tNb b k m ∧ tNb b k m ≤ 9999 := sorry
abbrev wHi (nb sa i : Int) : Prop := 0 ≤ i ∧ i ≤ 110 ∧ 0 ≤ nb ∧ nb ≤ 20 ∧ sa = (wSt nb.toNat : Int) ∧ sa ≤ i ∧ (nb ≤ 19 → i ≤ (wSt nb.toNat : Int) + (wLn nb.toNat : Int) ∧ i ≤ 109) ∧ (nb = 20 → i = 110)
theorem wSpt : ∀ w, w < 20 → ∀ i, i < 110 → wSt w ≤ i → i ≤ wSt w + wLn w → (wCh i = 32 ↔ i = wSt w + wLn w) := sorry
theorem wNxt : ∀ w, w < 20 → wSt (w + 1) = wSt w + wLn w + 1 ∧ wSt w + wLn w ≤ 109 ∧ (w + 1 < 20 → wSt w + wLn w < 109) ∧ (w = 19 → wSt w + wLn w = 109) := sorry
theorem w_0 : wHi 0 0 0 := sorry
theorem w_sp {nb sa i : Int} {z : Int} (h : wHi nb sa i) (h20 : nb ≤ 19) (hz : z = wCh i.toNat ∧ z = 32) : i = (wSt nb.toNat : Int) + (wLn nb.toNat : Int) := sorry
theorem w_nx {nb sa i z r : Int} (h : wHi nb sa i) (hr : r = 110) (hi : i < r ∧ i = (wSt nb.toNat : Int) + (wLn nb.toNat : Int)) (hz : z = wCh i.toNat) : wHi (nb + 1) (i + 1) (i + 1) := sorry
theorem w_in {nb sa i z r : Int} (h : wHi nb sa i) (hr : r = 110) (hi : i < r ∧ z ≠ 32) (hz : z = wCh i.toNat) : wHi nb sa (i + 1) := sorry
theorem w_hit {b : tTx} {nb sa i fr to_ : Int} (h : wHi nb sa i) (hs : i = (wSt nb.toNat : Int) + (wLn nb.toNat : Int)) (h20 : nb ≤ 19) (hf : ∀ u : Nat, (u : Int) < nb → ¬ tWa b fr.toNat (to_ - fr).toNat u) (hl : i - sa = to_ - fr) (ha : ∀ j : Nat, (j : Int) < i - sa → wCh (sa.toNat + j) = b (fr.toNat + j)) : nb = tWn b fr.toNat (to_ - fr).toNat := sorry
theorem w_miss {b : tTx} {nb sa i fr to_ : Int} (h : wHi nb sa i) (hs : i = (wSt nb.toNat : Int) + (wLn nb.toNat : Int)) (hl : i - sa = to_ - fr) (ha : ¬ ∀ j : Nat, (j : Int) < i - sa → wCh (sa.toNat + j) = b (fr.toNat + j)) : ¬ tWa b fr.toNat (to_ - fr).toNat nb.toNat := sorry
theorem w_len {b : tTx} {nb sa i fr to_ : Int} (hs : i = (wSt nb.toNat : Int) + (wLn nb.toNat : Int)) (hl : i - sa ≠ to_ - fr ∧ sa = (wSt nb.toNat : Int) ∧ fr ≤ to_) : ¬ tWa b fr.toNat (to_ - fr).toNat nb.toNat := sorry
theorem w_out {b : tTx} {nb sa i fr to_ : Int} (h : wHi nb sa i) (hf : ∀ u : Nat, (u : Int) < nb → ¬ tWa b fr.toNat (to_ - fr).toNat u) (hi : i = 110) : -1 = tWn b fr.toNat (to_ - fr).toNat := sorry
theorem tDc_0 {b : tTx} {k : Nat} {i : Int} (h : (i : Int) = 0) : (0 : Int) = (tDc b k i.toNat : Int) := sorry
theorem tDc_1 {b : tTx} {fr i dg : Int} (hd : dg = (tDc b fr.toNat (i - fr).toNat : Int)) (h0 : 0 ≤ i - fr) (hq : tDg (b (fr.toNat + (i - fr).toNat))) : dg + 1 = (tDc b fr.toNat (i + 1 - fr).toNat : Int) := sorry
theorem tDc_2 {b : tTx} {fr i dg : Int} (hd : dg = (tDc b fr.toNat (i - fr).toNat : Int)) (h0 : 0 ≤ i - fr) (hq : ¬ tDg (b (fr.toNat + (i - fr).toNat))) : dg + 0 = (tDc b fr.toNat (i + 1 - fr).toNat : Int) := sorry
theorem tk_ne {g : gG} {gh : gGh} {R AR : gR} {I AI : gI} {a : Nat} (hv : gInv g gh R AR I AI) (h : gO g a 5) : gh 24 0 ≠ gh 25 0 ∧ gh 25 0 ≠ gh 24 0 ∧ gh 24 0 ≠ gh 26 0 ∧ gh 26 0 ≠ gh 24 0 ∧ gh 25 0 ≠ gh 26 0 ∧ gh 26 0 ≠ gh 25 0 := sorry
section TR
variable {gh : gGh} {AI : gI} {AJ : gJ} {L k m : Nat} {fr : Int} {b : tTx}
theorem tR_3 (q : tAt gh AI AJ L 3 fr (tWn b k m) (tNm b k m)) (h1 : tDc b k m = 0) (h2 : m ≤ 8) : tAt gh AI AJ L (tKr b k m) fr (tVr b k m) (if tKr b k m = 3 then tNm b k m else 0) := sorry
theorem tR_4 (q : tAt gh AI AJ L 4 fr (tNb b k m) 0) (h1 : tDc b k m = m) (h2 : m ≤ 4) (h3 : 0 < m) : tAt gh AI AJ L (tKr b k m) fr (tVr b k m) (if tKr b k m = 3 then tNm b k m else 0) := sorry
theorem tR_2 {dg : Int} (q : tAt gh AI AJ L 2 fr (b (k + 1) - 48) 0) (hd : dg = (tDc b k m : Int)) (h1 : ¬ (dg = 0 ∧ m ≤ 8)) (h2 : ¬ (dg = (m : Int) ∧ m ≤ 4)) (h3 : m = 2) (h4 : b k = 99) (h5 : 48 ≤ b (k + 1) ∧ b (k + 1) ≤ 51) : tAt gh AI AJ L (tKr b k m) fr (tVr b k m) (if tKr b k m = 3 then tNm b k m else 0) := sorry
theorem tR_1 (q : tAt gh AI AJ L 1 fr 0 0) (h : ¬ (tDc b k m = 0 ∧ m ≤ 8) ∧ ¬ (tDc b k m = m ∧ m ≤ 4) ∧ ¬ (m = 2 ∧ b k = 99 ∧ 48 ≤ b (k + 1) ∧ b (k + 1) ≤ 51)) : tAt gh AI AJ L (tKr b k m) fr (tVr b k m) (if tKr b k m = 3 then tNm b k m else 0) := sorry
end TR
theorem z_i2cA {b c : Int} (e2 : c = (((iI b).toUInt32 % 65536).toInt32).toInt) (h0 : 0 ≤ b) (h1 : b ≤ 127) : c = b := sorry
theorem tk_t {g : gG} {gh : gGh} {R AR : gR} {I AI : gI} {a t : Nat} (hv : gInv g gh R AR I AI) (h : gO g a 5) (ht : gAr g t 8 936) : t ≠ gh 24 0 ∧ t ≠ gh 25 0 ∧ t ≠ gh 26 0 := sorry
section RD
variable {b : tTx} {gh : gGh} {AI AI' : gI} {AJ AJ' : gJ} {n i i2 L L' : Int}
theorem tPs_00 (h : L = 0) : tSk b n.toNat (0 : Int).toNat = tPs b n.toNat L.toNat := sorry
theorem tPs_bl (hj : tSk b n.toNat i.toNat = tPs b n.toNat L.toNat) (h0 : 0 ≤ i ∧ i < n) (hb : tBl (b i.toNat)) : tSk b n.toNat (i + 1).toNat = tPs b n.toNat L.toNat := sorry
theorem ru_0 (h : tRu (b i.toNat)) (h0 : 0 ≤ i) : ∀ j : Nat, i.toNat ≤ j → (j : Int) < i + 1 → tRu (b j) := sorry
theorem ru_1 (hru : ∀ j : Nat, i.toNat ≤ j → (j : Int) < i2 → tRu (b j)) (h : tRu (b i2.toNat)) (h0 : 0 ≤ i2) : ∀ j : Nat, i.toNat ≤ j → (j : Int) < i2 + 1 → tRu (b j) := sorry
theorem rd_end (hru : ∀ j : Nat, i.toNat ≤ j → (j : Int) < i2 → tRu (b j)) (h0 : 0 ≤ i ∧ i < i2) (h1 : i2 ≤ n) (h2 : i2 = n ∨ ¬ tRu (b i2.toNat)) : tRn b n.toNat i.toNat = i2.toNat := sorry
theorem rd_ps (hj : tSk b n.toNat i.toNat = tPs b n.toNat L.toNat) (h0 : 0 ≤ i ∧ i < n) (hb : ¬ tBl (b i.toNat)) : tPs b n.toNat L.toNat = i.toNat := sorry
theorem rd_fo {A0 A1 A2 : gI} (h : ∀ q, q ≠ gh 24 0 → q ≠ gh 25 0 → q ≠ gh 26 0 → A1 q = A0 q) (h' : ∀ q, q ≠ gh 24 0 → q ≠ gh 25 0 → q ≠ gh 26 0 → A2 q = A1 q) : ∀ q, q ≠ gh 24 0 → q ≠ gh 25 0 → q ≠ gh 26 0 → A2 q = A0 q := sorry
theorem rd_j (hps : tPs b n.toNat L.toNat = i.toNat) (he : tRn b n.toNat i.toNat = i2.toNat) (hL : L' = L + 1) (h0 : 0 ≤ L) (h1 : 0 ≤ i ∧ i < n) (hr : tRu (b i.toNat)) : tSk b n.toNat i2.toNat = tPs b n.toNat L'.toNat := sorry
theorem rd_j1 (hps : tPs b n.toNat L.toNat = i.toNat) (hL : L' = L + 1) (h0 : 0 ≤ L) (h1 : 0 ≤ i ∧ i < n) (hr : ¬ tRu (b i.toNat)) : tSk b n.toNat (i + 1).toNat = tPs b n.toNat L'.toNat := sorry
theorem tAt_c {j : Nat} {kd pl vl : Int} {nm : Int64} (h : AI' (gh 24 0) j = AI (gh 24 0) j ∧ AI' (gh 25 0) j = AI (gh 25 0) j ∧ AI' (gh 26 0) j = AI (gh 26 0) j ∧ AJ' (gh 27 0) j = AJ (gh 27 0) j) (q : tAt gh AI AJ j kd pl vl nm) : tAt gh AI' AJ' j kd pl vl nm := sorry
abbrev tOt (gh : gGh) (AI AI' : gI) (AJ AJ' : gJ) (L : Int) : Prop := ∀ j : Nat, j ≠ L.toNat → AI' (gh 24 0) j = AI (gh 24 0) j ∧ AI' (gh 25 0) j = AI (gh 25 0) j ∧ AI' (gh 26 0) j = AI (gh 26 0) j ∧ AJ' (gh 27 0) j = AJ (gh 27 0) j
theorem rd_tk {p : Nat} (htk : ∀ j : Nat, (j : Int) < L → tOk gh AI AJ b n.toNat j ∧ tPs b n.toNat j < n.toNat) (ot : tOt gh AI AI' AJ AJ' L) (hL : L' = L + 1) (hps : tPs b n.toNat L.toNat = p) (hp : p < n.toNat) (hn : tOk gh AI' AJ' b n.toNat L.toNat) : ∀ j : Nat, (j : Int) < L' → tOk gh AI' AJ' b n.toNat j ∧ tPs b n.toNat j < n.toNat := sorry
theorem rd_tke (htk : ∀ j : Nat, (j : Int) < L → tOk gh AI AJ b n.toNat j ∧ tPs b n.toNat j < n.toNat) (ot : tOt gh AI AI' AJ AJ' L) (hL : L' = L + 1) (hps : tPs b n.toNat L.toNat = n.toNat) (hn : tOk gh AI' AJ' b n.toNat L.toNat) : (∀ j : Nat, (j : Int) < L' → tOk gh AI' AJ' b n.toNat j) ∧ tPs b n.toNat (L' - 1).toNat = n.toNat ∧ ∀ j : Nat, (j : Int) < L' - 1 → tPs b n.toNat j < n.toNat := sorry
theorem rd_run (q : tAt gh AI' AJ' L.toNat (tKr b i.toNat (i2 - i).toNat) i (tVr b i.toNat (i2 - i).toNat) (if tKr b i.toNat (i2 - i).toNat = 3 then tNm b i.toNat (i2 - i).toNat else 0)) (hps : tPs b n.toNat L.toNat = i.toNat) (he : tRn b n.toNat i.toNat = i2.toNat) (h0 : 0 ≤ i ∧ i < n) (h1 : i < i2) (hr : tRu (b i.toNat)) : tOk gh AI' AJ' b n.toNat L.toNat := sorry
theorem rd_sg {kd : Int} (q : tAt gh AI' AJ' L.toNat kd i 0 0) (hps : tPs b n.toNat L.toNat = i.toNat) (h0 : 0 ≤ i ∧ i < n) (hr : ¬ tRu (b i.toNat)) (hk : (tSg (b i.toNat) ∧ kd = b i.toNat) ∨ (¬ tSg (b i.toNat) ∧ kd = 1)) : tOk gh AI' AJ' b n.toNat L.toNat := sorry
theorem rd_en (q : tAt gh AI' AJ' L.toNat 0 n 0 0) (hps : tPs b n.toNat L.toNat = n.toNat) (h0 : 0 ≤ n) : tOk gh AI' AJ' b n.toNat L.toNat := sorry
end RD
/-- the signs by their place -/
theorem sg_ix {z ch : Int} (h : (z = -1 ∧ ∀ j : Nat, (j : Int) < ((7 : Nat) : Int) → (([61, 60, 62, 43, 45, 44, 59] : List Int32).getD j 0).toInt ≠ ch) ∨ (0 ≤ z ∧ z < ((7 : Nat) : Int) ∧ (([61, 60, 62, 43, 45, 44, 59] : List Int32).getD z.toNat 0).toInt = ch)) : (0 ≤ z ∧ tSg ch) ∨ (z < 0 ∧ ¬ tSg ch) := sorry
def rmX5_isDigitf : Room := { frames := 0, cells := 0, slots := 0, locals := 0 }
set_option maxHeartbeats 4000000 in
set_option maxRecDepth 100000 in
/-- a digit -/
theorem c_X5_isDigitf (l : Launch) (g : gG)  (I : gI) (R : gR) (J : gJ) (AI : gI) (AJ : gJ) (AR : gR) (ch : Int) (zch : zr ch) : gMet l g yX5_isDigit wsX5_isDigit rmX5_isDigitf [.int (iI ch)] (I, R, J, AI, AJ, AR) (gQi g (fun (z : Int) (w : gS) => I = w.1 ∧ R = w.2.1 ∧ J = w.2.2.1 ∧ AI = w.2.2.2.1 ∧ AJ = w.2.2.2.2.1 ∧ AR = w.2.2.2.2.2 ∧ ((z = 0 ∨ z = 1) ∧ (z = 1 ↔ tDg ch)))) := sorry
def rmX5_isRunSignf : Room := { frames := 1, cells := 0, slots := 0, locals := 20 }
set_option maxHeartbeats 4000000 in
set_option maxRecDepth 100000 in
/-- a sign of a run -/
theorem c_X5_isRunSignf (l : Launch) (g : gG)  (I : gI) (R : gR) (J : gJ) (AI : gI) (AJ : gJ) (AR : gR) (ch : Int) (zch : zr ch) : gMet l g yX5_isRunSign wsX5_isRunSign rmX5_isRunSignf [.int (iI ch)] (I, R, J, AI, AJ, AR) (gQi g (fun (z : Int) (w : gS) => I = w.1 ∧ R = w.2.1 ∧ J = w.2.2.1 ∧ AI = w.2.2.2.1 ∧ AJ = w.2.2.2.2.1 ∧ AR = w.2.2.2.2.2 ∧ ((z = 0 ∨ z = 1) ∧ (z = 1 ↔ tRu ch)))) := sorry
def rmX5_nameOff : Room := { frames := 0, cells := 0, slots := 0, locals := 0 }
set_option maxHeartbeats 4000000 in
set_option maxRecDepth 100000 in
/-- the letters of a word -/
theorem c_X5_nameOff (l : Launch) (g : gG) (b : tTx) (I : gI) (R : gR) (J : gJ) (AI : gI) (AJ : gJ) (AR : gR) (t : Nat) (fr : Int) (to_ : Int) (zfr : zr fr) (zto_ : zr to_) (ht : gAr g t 8 936) (hb : ∀ k : Nat, (AI t k).toInt = b k) (h0 : 0 ≤ fr) (h1 : fr ≤ to_) (h2 : to_ ≤ 936) : gMet l g yX5_nameOf wsX5_nameOf rmX5_nameOff [.ref t, .int (iI fr), .int (iI to_)] (I, R, J, AI, AJ, AR) (gQl g (fun (z : Int64) (w : gS) => I = w.1 ∧ R = w.2.1 ∧ J = w.2.2.1 ∧ AI = w.2.2.2.1 ∧ AJ = w.2.2.2.2.1 ∧ AR = w.2.2.2.2.2 ∧ (z = tNm b fr.toNat (to_ - fr).toNat))) := sorry
def rmX5_numberOff : Room := { frames := 0, cells := 0, slots := 0, locals := 0 }
set_option maxHeartbeats 4000000 in
set_option maxRecDepth 100000 in
/-- a number -/
theorem c_X5_numberOff (l : Launch) (g : gG) (b : tTx) (I : gI) (R : gR) (J : gJ) (AI : gI) (AJ : gJ) (AR : gR) (t : Nat) (fr : Int) (to_ : Int) (zfr : zr fr) (zto_ : zr to_) (ht : gAr g t 8 936) (hb : ∀ k : Nat, (AI t k).toInt = b k) (h0 : 0 ≤ fr) (h1 : fr ≤ to_) (h2 : to_ ≤ 936) (hm : to_ - fr ≤ 4) (hd : ∀ j : Nat, (j : Int) < to_ - fr → tDg (b (fr.toNat + j))) : gMet l g yX5_numberOf wsX5_numberOf rmX5_numberOff [.ref t, .int (iI fr), .int (iI to_)] (I, R, J, AI, AJ, AR) (gQi g (fun (z : Int) (w : gS) => I = w.1 ∧ R = w.2.1 ∧ J = w.2.2.1 ∧ AI = w.2.2.2.1 ∧ AJ = w.2.2.2.2.1 ∧ AR = w.2.2.2.2.2 ∧ (z = tNb b fr.toNat (to_ - fr).toNat) ∧ (0 ≤ z ∧ z ≤ 9999))) := sorry
def rmX5_wordsAgreef : Room := { frames := 4, cells := 0, slots := 0, locals := 85 }
set_option maxHeartbeats 4000000 in
set_option maxRecDepth 100000 in
/-- two words agree -/
theorem c_X5_wordsAgreef (l : Launch) (g : gG) (b : tTx) (I : gI) (R : gR) (J : gJ) (AI : gI) (AJ : gJ) (AR : gR) (sa : Int) (so : Int) (t : Nat) (fr : Int) (zsa : zr sa) (zso : zr so) (zfr : zr fr) (ht : gAr g t 8 936) (hb : ∀ k : Nat, (AI t k).toInt = b k) (h0 : 0 ≤ sa) (h1 : sa ≤ so) (h2 : so ≤ 110) (h3 : 0 ≤ fr) (h4 : fr + (so - sa) ≤ 936) : gMet l g yX5_wordsAgree wsX5_wordsAgree rmX5_wordsAgreef [.int (iI sa), .int (iI so), .ref t, .int (iI fr)] (I, R, J, AI, AJ, AR) (gQi g (fun (z : Int) (w : gS) => I = w.1 ∧ R = w.2.1 ∧ J = w.2.2.1 ∧ AI = w.2.2.2.1 ∧ AJ = w.2.2.2.2.1 ∧ AR = w.2.2.2.2.2 ∧ ((z = 0 ∨ z = 1) ∧ (z = 1 ↔ ∀ j : Nat, (j : Int) < so - sa → wCh (sa.toNat + j) = b (fr.toNat + j))))) := sorry
def rmX5_wordNumberf : Room := { frames := 5, cells := 0, slots := 0, locals := 109 }
set_option maxHeartbeats 4000000 in
set_option maxRecDepth 100000 in
/-- the number of a word -/
theorem c_X5_wordNumberf (l : Launch) (g : gG) (b : tTx) (I : gI) (R : gR) (J : gJ) (AI : gI) (AJ : gJ) (AR : gR) (t : Nat) (fr : Int) (to_ : Int) (zfr : zr fr) (zto_ : zr to_) (ht : gAr g t 8 936) (hb : ∀ k : Nat, (AI t k).toInt = b k) (h0 : 0 ≤ fr) (h1 : fr ≤ to_) (h2 : to_ ≤ 936) : gMet l g yX5_wordNumber wsX5_wordNumber rmX5_wordNumberf [.ref t, .int (iI fr), .int (iI to_)] (I, R, J, AI, AJ, AR) (gQi g (fun (z : Int) (w : gS) => I = w.1 ∧ R = w.2.1 ∧ J = w.2.2.1 ∧ AI = w.2.2.2.1 ∧ AJ = w.2.2.2.2.1 ∧ AR = w.2.2.2.2.2 ∧ (z = tWn b fr.toNat (to_ - fr).toNat))) := sorry
def rmX5_addTokenf : Room := { frames := 0, cells := 0, slots := 0, locals := 0 }
set_option maxHeartbeats 4000000 in
set_option maxRecDepth 100000 in
/-- one token more -/
theorem c_X5_addTokenf (l : Launch) (g : gG) (gh : gGh) (I : gI) (R : gR) (J : gJ) (AI : gI) (AJ : gJ) (AR : gR) (a : Nat) (kd : Int) (pl : Int) (val : Int) (nm : Int64) (zkd : zr kd) (zpl : zr pl) (zval : zr val) (hv : gInv g gh R AR I AI) (h5 : gO g a 5) (h0 : (I a 4).toInt ≤ 900) (hc : kd = 2 → 0 ≤ val ∧ val ≤ 3) : gMet l g yX5_addToken wsX5_addToken rmX5_addTokenf [.ref a, .int (iI kd), .int (iI pl), .int (iI val), .long nm] (I, R, J, AI, AJ, AR) (gQv g (fun w : gS => R = w.2.1 ∧ J = w.2.2.1 ∧ AR = w.2.2.2.2.2 ∧ (gInv g gh R AR (w.1) (w.2.2.2.1)) ∧ (∀ b, b ≠ a → (w.1) b = I b) ∧ (((w.1) a 4).toInt = (I a 4).toInt + 1) ∧ (∀ q, q ≠ gh 24 0 → q ≠ gh 25 0 → q ≠ gh 26 0 → (w.2.2.2.1) q = AI q) ∧ (∀ j : Nat, j ≠ (I a 4).toInt.toNat → (w.2.2.2.1) (gh 24 0) j = AI (gh 24 0) j ∧ (w.2.2.2.1) (gh 25 0) j = AI (gh 25 0) j ∧ (w.2.2.2.1) (gh 26 0) j = AI (gh 26 0) j ∧ (w.2.2.2.2.1) (gh 27 0) j = AJ (gh 27 0) j) ∧ (tAt gh (w.2.2.2.1) (w.2.2.2.2.1) (I a 4).toInt.toNat kd pl val nm))) := sorry
def rmX5_readRunf : Room := { frames := 6, cells := 0, slots := 0, locals := 134 }
set_option maxHeartbeats 4000000 in
set_option maxRecDepth 100000 in
/-- a run of letters and digits -/
theorem c_X5_readRunf (l : Launch) (g : gG) (gh : gGh) (b : tTx) (I : gI) (R : gR) (J : gJ) (AI : gI) (AJ : gJ) (AR : gR) (a : Nat) (t : Nat) (fr : Int) (to_ : Int) (zfr : zr fr) (zto_ : zr to_) (hv : gInv g gh R AR I AI) (h5 : gO g a 5) (hl9 : (I a 4).toInt ≤ 900) (ht : gAr g t 8 936) (hb : ∀ k : Nat, (AI t k).toInt = b k) (h0 : 0 ≤ fr) (h1 : fr ≤ to_) (h2 : to_ ≤ 936) (h6 : fr < to_) : gMet l g yX5_readRun wsX5_readRun rmX5_readRunf [.ref a, .ref t, .int (iI fr), .int (iI to_)] (I, R, J, AI, AJ, AR) (gQv g (fun w : gS => R = w.2.1 ∧ J = w.2.2.1 ∧ AR = w.2.2.2.2.2 ∧ (gInv g gh R AR (w.1) (w.2.2.2.1)) ∧ (∀ b, b ≠ a → (w.1) b = I b) ∧ (((w.1) a 4).toInt = (I a 4).toInt + 1) ∧ (∀ q, q ≠ gh 24 0 → q ≠ gh 25 0 → q ≠ gh 26 0 → (w.2.2.2.1) q = AI q) ∧ (∀ j : Nat, j ≠ (I a 4).toInt.toNat → (w.2.2.2.1) (gh 24 0) j = AI (gh 24 0) j ∧ (w.2.2.2.1) (gh 25 0) j = AI (gh 25 0) j ∧ (w.2.2.2.1) (gh 26 0) j = AI (gh 26 0) j ∧ (w.2.2.2.2.1) (gh 27 0) j = AJ (gh 27 0) j) ∧ (tAt gh (w.2.2.2.1) (w.2.2.2.2.1) (I a 4).toInt.toNat (tKr b fr.toNat (to_ - fr).toNat) fr (tVr b fr.toNat (to_ - fr).toNat) (if tKr b fr.toNat (to_ - fr).toNat = 3 then tNm b fr.toNat (to_ - fr).toNat else 0)))) := sorry
def rmX5_readf : Room := { frames := 7, cells := 0, slots := 0, locals := 159 }
set_option maxHeartbeats 4000000 in
set_option maxRecDepth 100000 in
/-- the tokens of a text -/
theorem c_X5_readf (l : Launch) (g : gG) (gh : gGh) (b : tTx) (I : gI) (R : gR) (J : gJ) (AI : gI) (AJ : gJ) (AR : gR) (a : Nat) (t : Nat) (n : Int) (zn : zr n) (hv : gInv g gh R AR I AI) (h5 : gO g a 5) (ht : gAr g t 8 936) (hb : ∀ k : Nat, (AI t k).toInt = b k) (hr7 : ∀ k : Nat, -128 ≤ b k ∧ b k ≤ 127) (hn : 0 ≤ n ∧ n ≤ 900) : gMet l g yX5_read wsX5_read rmX5_readf [.ref a, .ref t, .int (iI n)] (I, R, J, AI, AJ, AR) (gQv g (fun w : gS => R = w.2.1 ∧ J = w.2.2.1 ∧ AR = w.2.2.2.2.2 ∧ (gInv g gh R AR (w.1) (w.2.2.2.1)) ∧ (∀ b, b ≠ a → (w.1) b = I b) ∧ (1 ≤ ((w.1) a 4).toInt ∧ ((w.1) a 4).toInt ≤ n + 1) ∧ (∀ q, q ≠ gh 24 0 → q ≠ gh 25 0 → q ≠ gh 26 0 → (w.2.2.2.1) q = AI q) ∧ ((∀ j : Nat, (j : Int) < ((w.1) a 4).toInt → tOk gh (w.2.2.2.1) (w.2.2.2.2.1) b n.toNat j) ∧ tPs b n.toNat (((w.1) a 4).toInt - 1).toNat = n.toNat ∧ ∀ j : Nat, (j : Int) < ((w.1) a 4).toInt - 1 → tPs b n.toNat j < n.toNat))) := sorry

end

section
/-! a byte of a long: the class's and the reference's are one, but for the sign -/
theorem by_u : ∀ n : Nat, n < 57 → (((iI (n : Int)).toInt64.toUInt64 &&& Int64.toUInt64 63).toBitVec % 64).toNat = n := sorry
theorem by_s : ∀ n : Nat, n < 57 → (((iI (n : Int)).toInt64 &&& 63).toBitVec.smod 64).toNat = n := sorry
theorem by_ub (v : Int64) {n i : Nat} (hn : n < 57) (hi : i < 8) : ((v.toUInt64 >>> ((iI (n : Int)).toInt64.toUInt64 &&& Int64.toUInt64 63)).toInt64.toInt32).toBitVec.getLsbD i = v.toBitVec.getLsbD (n + i) := sorry
theorem by_sb (v : Int64) {n i : Nat} (hn : n < 57) (hi : i < 8) : ((v >>> ((iI (n : Int)).toInt64 &&& 63)).toInt32).toBitVec.getLsbD i = v.toBitVec.getLsbD (n + i) := sorry
theorem by_m : ∀ i < 32, 8 ≤ i → (255 : Int32).toBitVec.getLsbD i = false := sorry
theorem by_b (x : Int32) : x.toInt8.toInt32 &&& 255 = x &&& 255 := sorry
theorem by_c (v : Int64) (sh : Int) : cBs v sh = ((((v.toUInt64 >>> ((iI sh).toInt64.toUInt64 &&& Int64.toUInt64 63)).toInt64.toInt32).toInt8.toInt32).toInt8.toInt32) := sorry
theorem by_eq (v : Int64) {n : Nat} (hn : n < 57) : cBs v (n : Int) &&& 255 = mBs v (n : Int) := sorry
theorem by_r (v : Int64) (sh : Int) : -128 ≤ (cBs v sh).toInt ∧ (cBs v sh).toInt ≤ 127 := sorry
/-- the reference's number of a byte -/
theorem by_n (x : Int32) (h : -128 ≤ x.toInt ∧ x.toInt ≤ 127) : (x &&& 255).toInt = x.toInt % 256 := sorry

end

section
/-! the same tokens, as the reference keeps them -/
def tMw (b : tTx) (k : Nat) : Nat → Int64
  | 0 => 0
  | m + 1 => if m < 8 then 256 * tMw b k m + (iI (b (k + m) % 256)).toInt64 else tMw b k m
def tNq (b : tTx) (k : Nat) : Nat → Int
  | 0 => 0
  | m + 1 => if m < 4 ∧ tDg (b (k + m)) then 10 * tNq b k m + b (k + m) - 48 else tNq b k m
/-- the reference's number of a kind -/
def tkM (K : Int) : Int := if K = 0 then 0 else if K = 1 then 5 else if K = 2 then 1 else if K = 3 then 2 else if K = 4 then 3 else 4
theorem tNq_le {b : tTx} {k : Nat} : ∀ m, 0 ≤ tNq b k m ∧ tNq b k m ≤ 10 ^ (min m 4) - 1 := sorry
theorem tNq_9 {b : tTx} {k m : Nat} : 0 ≤ tNq b k m ∧ tNq b k m ≤ 9999 := sorry
/-- all digits: the number itself -/
theorem tNq_nb {b : tTx} {k : Nat} : ∀ {m}, m ≤ 4 → (∀ j, j < m → tDg (b (k + j))) → tNq b k m = tNb b k m := sorry
theorem tNq_2 {b : tTx} {k : Nat} (h0 : ¬ tDg (b k)) (h1 : tDg (b (k + 1))) : tNq b k 2 = b (k + 1) - 48 := sorry
/-- the reference at the token that stands at k: place, end, kind, number, word -/
def tMk (b : tTx) (n k : Nat) (f : Nat → Int32) (w : Int64) : Prop :=
  (f 19).toInt = (k : Int) ∧ (f 20).toInt = (tNd b n k : Int) ∧ (f 21).toInt = tkM (tKd b n k) ∧
  (tkM (tKd b n k) = 4 → (f 23).toInt = tKd b n k) ∧ (tKd b n k = 2 ∨ tKd b n k = 4 → (f 23).toInt = tVl b n k) ∧ (tKd b n k = 3 → w = tMw b k (tRn b n k - k))
/-- what a run is: its end, kind and number -/
theorem tMk_run {b : tTx} {n k : Nat} {f : Nat → Int32} {w : Int64} (hk : k < n) (hr : tRu (b k)) (h19 : (f 19).toInt = (k : Int)) (h20 : (f 20).toInt = (tRn b n k : Int)) (h21 : (f 21).toInt = tkM (tKr b k (tRn b n k - k))) (h23 : (f 23).toInt = tNq b k (tRn b n k - k)) (hw : w = tMw b k (tRn b n k - k)) : tMk b n k f w := sorry
theorem tMk_end {b : tTx} {n k : Nat} {f : Nat → Int32} {w : Int64} (hk : n ≤ k) (hn : k ≤ n) (h19 : (f 19).toInt = (k : Int)) (h20 : (f 20).toInt = (k : Int)) (h21 : (f 21).toInt = 0) : tMk b n k f w := sorry
theorem tMk_sg {b : tTx} {n k : Nat} {f : Nat → Int32} {w : Int64} (hk : k < n) (hr : ¬ tRu (b k)) (h19 : (f 19).toInt = (k : Int)) (h20 : (f 20).toInt = (k : Int) + 1) (h : (tSg (b k) ∧ (f 21).toInt = 4 ∧ (f 23).toInt = b k) ∨ (¬ tSg (b k) ∧ (f 21).toInt = 5)) : tMk b n k f w := sorry

end

section
theorem nx_0 {b : tTx} {n e0 : Nat} {k : Int} (h : k = (e0 : Int)) (h1 : e0 ≤ n) : tSk b n e0 = tSk b n k.toNat ∧ k ≤ (n : Int) ∧ (e0 : Int) ≤ k := sorry
theorem nx_bl {b : tTx} {n e0 : Nat} {k : Int} (h : tSk b n e0 = tSk b n k.toNat ∧ k ≤ (n : Int) ∧ (e0 : Int) ≤ k) (h0 : k < (n : Int)) (hb : tBl (b k.toNat)) : tSk b n e0 = tSk b n (k + 1).toNat ∧ k + 1 ≤ (n : Int) ∧ (e0 : Int) ≤ k + 1 := sorry
theorem nx_sk {b : tTx} {n e0 : Nat} {k : Int} (h : tSk b n e0 = tSk b n k.toNat ∧ k ≤ (n : Int) ∧ (e0 : Int) ≤ k) (h0 : 0 ≤ k) (hb : (n : Int) ≤ k ∨ ¬ tBl (b k.toNat)) : tSk b n e0 = k.toNat := sorry
theorem tDc_one {b : tTx} {k : Nat} (h : ¬ tDg (b k)) : tDc b k 2 = if tDg (b (k + 1)) then 1 else 0 := sorry
theorem tKm {b : tTx} {k m : Nat} {lt nu tok : Int} (hm : 1 ≤ m) (hl : lt = (m : Int) - (tDc b k m : Int)) (hn : nu = tNq b k m) (hr : -128 ≤ b k ∧ b k ≤ 127)
    (h : (lt = (m : Int) ∧ (m : Int) ≤ 8 ∧ tok = 2 ∧ ¬ ((m : Int) = 2 ∧ b k % 256 = 99 ∧ lt = 1 ∧ nu < 4)) ∨ (lt = 0 ∧ (m : Int) ≤ 4 ∧ tok = 3) ∨ ((m : Int) = 2 ∧ b k % 256 = 99 ∧ lt = 1 ∧ nu < 4 ∧ tok = 1) ∨ (¬ (lt = (m : Int) ∧ (m : Int) ≤ 8) ∧ ¬ (lt = 0 ∧ (m : Int) ≤ 4) ∧ ¬ ((m : Int) = 2 ∧ b k % 256 = 99 ∧ lt = 1 ∧ nu < 4) ∧ tok = 5)) : tok = tkM (tKr b k m) := sorry
/-- hidden from the arithmetic: an answer of yes or no, a run's sign, a byte or -1 -/
def tIz (z : Int) (P : Prop) : Prop := (z = 1 ∧ P) ∨ (z = 0 ∧ ¬ P)
theorem tIz_1 {z : Int} {P : Prop} (h : tIz z P) (hz : z ≠ 0) : P := sorry
theorem tIz_0 {z : Int} {P : Prop} (h : tIz z P) (hz : z = 0) : ¬ P := sorry
def tRx (b : tTx) (k : Nat) : Prop := tRu (b k)
def tSx (b : tTx) (k : Nat) : Prop := tSg (b k)
def tBa (b : tTx) (n : Nat) (k : Int) : Int := if k < (n : Int) then b k.toNat % 256 else -1
def rTk (lt m tok : Int) : Prop := (lt = m ∧ m ≤ 8 ∧ tok = 2) ∨ (lt = 0 ∧ m ≤ 4 ∧ tok = 3) ∨ (¬ (lt = m ∧ m ≤ 8) ∧ ¬ (lt = 0 ∧ m ≤ 4) ∧ tok = 5)
section TBA
variable {b : tTx} {n : Nat} {k z z2 c : Int}
theorem tBa_lt (h : k < (n : Int)) : tBa b n k = b k.toNat % 256 := sorry
theorem tBa_ge (h : (n : Int) ≤ k) : tBa b n k = -1 := sorry
theorem tBa_run (e : z = tBa b n k) (hr : -128 ≤ b k.toNat ∧ b k.toNat ≤ 127) (h : (97 ≤ z ∧ z ≤ 122) ∨ (48 ≤ z ∧ z ≤ 57)) : k < (n : Int) ∧ tRx b k.toNat := sorry
theorem tBa_no (e : z = tBa b n k) (hr : -128 ≤ b k.toNat ∧ b k.toNat ≤ 127) (h1 : ¬ (97 ≤ z ∧ z ≤ 122)) (h2 : ¬ (48 ≤ z ∧ z ≤ 57)) : (n : Int) ≤ k ∨ ¬ tRu (b k.toNat) := sorry
theorem nx_b1 (e : z = tBa b n k) (h : z = 32 ∨ z = 10) : k < (n : Int) := sorry
theorem nx_b2 (e : z = tBa b n k) (hr : -128 ≤ b k.toNat ∧ b k.toNat ≤ 127) (h : z = 32 ∨ z = 10) : tBl (b k.toNat) := sorry
theorem nx_nb (e : z = tBa b n k) (e2 : z2 = tBa b n k) (hr : -128 ≤ b k.toNat ∧ b k.toNat ≤ 127) (h : z ≠ 32) (h2 : z2 ≠ 10) : (n : Int) ≤ k ∨ ¬ tBl (b k.toNat) := sorry
theorem nx_k (e : z = tBa b n k) (h : 0 ≤ k ∧ z ≠ -1) : k.toNat < n := sorry
theorem nx_e (e : z = tBa b n k) (hr : -128 ≤ b k.toNat ∧ b k.toNat ≤ 127) (h : z = -1 ∧ 0 ≤ k) : n ≤ k.toNat := sorry
theorem nx_s (e : z = tBa b n k) (hr : -128 ≤ b k.toNat ∧ b k.toNat ≤ 127) (h : tSg z) : tSx b k.toNat ∧ z = b k.toNat := sorry
theorem nx_sr {j : Nat} (h : tSx b j) : ¬ tRu (b j) := sorry
theorem nx_ns (e : z = tBa b n k) (hr : -128 ≤ b k.toNat ∧ b k.toNat ≤ 127) (hk : k.toNat < n) (h : 0 ≤ k ∧ ¬ tSg z) : ¬ tSg (b k.toNat) := sorry
theorem nx_nr (e : z = tBa b n k) (hr : -128 ≤ b k.toNat ∧ b k.toNat ≤ 127) (hk : k.toNat < n) (h1 : ¬ (97 ≤ z ∧ z ≤ 122)) (h2 : ¬ (48 ≤ z ∧ z ≤ 57)) : ¬ tRu (b k.toNat) := sorry
theorem rx_1 {i i2 : Int} (hru : ∀ j : Nat, i.toNat ≤ j → (j : Int) < i2 → tRx b j) (h : tRx b i2.toNat) (h0 : 0 ≤ i2) : ∀ j : Nat, i.toNat ≤ j → (j : Int) < i2 + 1 → tRx b j := sorry
theorem rl_0 {kp : Int} (h : 0 ≤ kp) (h1 : kp ≤ (n : Int)) : (0 : Int) = kp - kp - (tDc b kp.toNat (kp - kp).toNat : Int) ∧ kp ≤ (n : Int) := sorry
theorem tDg_n {e1 : Int} (t : c = b e1.toNat % 256) (hr : -128 ≤ b e1.toNat ∧ b e1.toNat ≤ 127) (h : ¬ (48 ≤ c ∧ c ≤ 57)) : ¬ tDg (b e1.toNat) := sorry
theorem rg_1 {kp e1 : Int} (h : kp < (n : Int)) (hk : tRx b kp.toNat) (hru : ∀ j : Nat, kp.toNat ≤ j → (j : Int) < e1 → tRx b j) (e : z = tBa b n e1) (e2 : z2 = tBa b n e1) (hr : -128 ≤ b e1.toNat ∧ b e1.toNat ≤ 127) (h1 : ¬ (97 ≤ z ∧ z ≤ 122)) (h2 : ¬ (48 ≤ z2 ∧ z2 ≤ 57)) (h0 : 0 ≤ kp ∧ kp ≤ e1) : 1 ≤ e1 - kp := sorry
theorem tDc_La {lt e1 kp : Int} (h : lt = e1 - kp - (tDc b kp.toNat (e1 - kp).toNat : Int) ∧ e1 ≤ (n : Int)) (t : c = b e1.toNat % 256) (hr : -128 ≤ b e1.toNat ∧ b e1.toNat ≤ 127) (hs : 97 ≤ c ∧ c ≤ 122) (h0 : 0 ≤ kp ∧ kp ≤ e1) (h1 : e1 < (n : Int)) : lt + 1 = e1 + 1 - kp - (tDc b kp.toNat (e1 + 1 - kp).toNat : Int) ∧ e1 + 1 ≤ (n : Int) := sorry
theorem tDc_Lb {lt e1 kp : Int} (h : lt = e1 - kp - (tDc b kp.toNat (e1 - kp).toNat : Int) ∧ e1 ≤ (n : Int)) (t : c = b e1.toNat % 256) (hr : -128 ≤ b e1.toNat ∧ b e1.toNat ≤ 127) (hx : tRx b e1.toNat) (hs : ¬ (97 ≤ c ∧ c ≤ 122)) (h0 : 0 ≤ kp ∧ kp ≤ e1) (h1 : e1 < (n : Int)) : lt = e1 + 1 - kp - (tDc b kp.toNat (e1 + 1 - kp).toNat : Int) ∧ e1 + 1 ≤ (n : Int) := sorry
theorem tKm1 {k m : Nat} {lt nu tok : Int} (hm : 1 ≤ m) (hl : lt = (m : Int) - (tDc b k m : Int)) (hn : nu = tNq b k m) (hr : -128 ≤ b k ∧ b k ≤ 127) (h : rTk lt (m : Int) tok) (hc : ¬ ((m : Int) = 2 ∧ b k % 256 = 99 ∧ lt = 1 ∧ nu < 4)) : tok = tkM (tKr b k m) := sorry
theorem tKm2 {k m : Nat} {lt nu tok : Int} (hm : 1 ≤ m) (hl : lt = (m : Int) - (tDc b k m : Int)) (hn : nu = tNq b k m) (hr : -128 ≤ b k ∧ b k ≤ 127) (hc : (m : Int) = 2 ∧ b k % 256 = 99 ∧ lt = 1 ∧ nu < 4 ∧ tok = 1) : tok = tkM (tKr b k m) := sorry
end TBA
theorem tMw_8 {b : tTx} {e1 kp : Int} {w : Int64} (h : w = tMw b kp.toNat (e1 - kp).toNat) (h0 : 0 ≤ kp ∧ kp ≤ e1) (h8 : 8 ≤ e1 - kp) : w = tMw b kp.toNat (e1 + 1 - kp).toNat := sorry
theorem tNq_y {b : tTx} {e1 kp x y c : Int} (h : x = tNq b kp.toNat (e1 - kp).toNat) (h0 : 0 ≤ kp ∧ kp ≤ e1) (h4 : e1 - kp < 4) (t : c = b e1.toNat % 256) (hr : -128 ≤ b e1.toNat ∧ b e1.toNat ≤ 127) (hd : 48 ≤ c ∧ c ≤ 57) (hy : y = 10 * x + c - 48) : y = tNq b kp.toNat (e1 + 1 - kp).toNat := sorry
theorem tNq_n {b : tTx} {e1 kp x : Int} (h : x = tNq b kp.toNat (e1 - kp).toNat) (h0 : 0 ≤ kp ∧ kp ≤ e1) (hd : 4 ≤ e1 - kp ∨ ¬ tDg (b e1.toNat)) : x = tNq b kp.toNat (e1 + 1 - kp).toNat := sorry
theorem tRn_M {b : tTx} {n : Nat} {e1 kp : Int} (hru : ∀ j : Nat, kp.toNat ≤ j → (j : Int) < e1 → tRx b j) (h0 : 0 ≤ kp ∧ kp ≤ e1) (h1 : e1 ≤ (n : Int)) (h2 : (n : Int) ≤ e1 ∨ ¬ tRu (b e1.toNat)) : tRn b n kp.toNat = e1.toNat := sorry
def rmX7_byteAtf : Room := { frames := 0, cells := 0, slots := 0, locals := 0 }
set_option maxHeartbeats 4000000 in
set_option maxRecDepth 100000 in
/-- a byte -/
theorem c_X7_byteAtf (l : Launch) (g : gG) (gh : gGh) (T : Nat → Int32) (b : tTx) (n : Nat) (I : gI) (R : gR) (J : gJ) (AI : gI) (AJ : gJ) (AR : gR) (mo : Nat) (kp : Int) (zkp : zr kp) (hv : mInv g gh R I AI) (hm : gO g mo 7) (hT : AI (gh 50 0) = T) (h0 : 0 ≤ kp) (hb : ∀ k : Nat, k < n → (AI (gh 65 0) k).toInt = b k % 256) (hr7 : ∀ k : Nat, -128 ≤ b k ∧ b k ≤ 127) (hsz : (I mo 18).toInt = (n : Int)) (hn9 : n ≤ 900) : gMet l g yX7_byteAt tsX7_byteAt rmX7_byteAtf [.ref mo, .int (iI kp)] (I, R, J, AI, AJ, AR) (gQi g (fun (z : Int) (w : gS) => I = w.1 ∧ R = w.2.1 ∧ J = w.2.2.1 ∧ AI = w.2.2.2.1 ∧ AJ = w.2.2.2.2.1 ∧ AR = w.2.2.2.2.2 ∧ (z = tBa b n kp))) := sorry
def rmX7_isSmallf : Room := { frames := 0, cells := 0, slots := 0, locals := 0 }
set_option maxHeartbeats 4000000 in
set_option maxRecDepth 100000 in
/-- a letter -/
theorem c_X7_isSmallf (l : Launch) (g : gG)  (I : gI) (R : gR) (J : gJ) (AI : gI) (AJ : gJ) (AR : gR) (ch : Int) (zch : zr ch) : gMet l g yX7_isSmall tsX7_isSmall rmX7_isSmallf [.int (iI ch)] (I, R, J, AI, AJ, AR) (gQi g (fun (z : Int) (w : gS) => I = w.1 ∧ R = w.2.1 ∧ J = w.2.2.1 ∧ AI = w.2.2.2.1 ∧ AJ = w.2.2.2.2.1 ∧ AR = w.2.2.2.2.2 ∧ (tIz z (97 ≤ ch ∧ ch ≤ 122)))) := sorry
def rmX7_isDigitf : Room := { frames := 0, cells := 0, slots := 0, locals := 0 }
set_option maxHeartbeats 4000000 in
set_option maxRecDepth 100000 in
/-- a digit -/
theorem c_X7_isDigitf (l : Launch) (g : gG)  (I : gI) (R : gR) (J : gJ) (AI : gI) (AJ : gJ) (AR : gR) (ch : Int) (zch : zr ch) : gMet l g yX7_isDigit tsX7_isDigit rmX7_isDigitf [.int (iI ch)] (I, R, J, AI, AJ, AR) (gQi g (fun (z : Int) (w : gS) => I = w.1 ∧ R = w.2.1 ∧ J = w.2.2.1 ∧ AI = w.2.2.2.1 ∧ AJ = w.2.2.2.2.1 ∧ AR = w.2.2.2.2.2 ∧ (tIz z (48 ≤ ch ∧ ch ≤ 57)))) := sorry
def rmX7_runsf : Room := { frames := 1, cells := 0, slots := 0, locals := 21 }
set_option maxHeartbeats 4000000 in
set_option maxRecDepth 100000 in
/-- a run of letters and digits -/
theorem c_X7_runsf (l : Launch) (g : gG) (gh : gGh) (T : Nat → Int32) (b : tTx) (n : Nat) (I : gI) (R : gR) (J : gJ) (AI : gI) (AJ : gJ) (AR : gR) (mo : Nat) (kp : Int) (zkp : zr kp) (hv : mInv g gh R I AI) (hm : gO g mo 7) (hT : AI (gh 50 0) = T) (hE : (I mo 20).toInt ≤ 936) (h0 : 0 ≤ kp ∧ kp ≤ 936) (ht : (I mo 21).toInt = 5) (hb : ∀ k : Nat, k < n → (AI (gh 65 0) k).toInt = b k % 256) (hr7 : ∀ k : Nat, -128 ≤ b k ∧ b k ≤ 127) (hsz : (I mo 18).toInt = (n : Int)) (hn9 : n ≤ 900) (hkn : kp < (n : Int)) (hkr : tRx b kp.toNat) : gMet l g yX7_runs tsX7_runs rmX7_runsf [.ref mo, .int (iI kp)] (I, R, J, AI, AJ, AR) (gQv g (fun w : gS => R = w.2.1 ∧ AI = w.2.2.2.1 ∧ AJ = w.2.2.2.2.1 ∧ AR = w.2.2.2.2.2 ∧ (mInv g gh R (w.1) AI) ∧ (qF mo I (w.1)) ∧ (((w.1) mo 20).toInt ≤ 936 ∧ (I mo 24).toInt ≤ ((w.1) mo 24).toInt) ∧ (((w.1) mo 24).toInt = (I mo 24).toInt) ∧ (((w.1) mo 20).toInt = (tRn b n kp.toNat : Int)) ∧ (((w.1) mo 21).toInt = tkM (tKr b kp.toNat (tRn b n kp.toNat - kp.toNat))) ∧ (((w.1) mo 23).toInt = tNq b kp.toNat (tRn b n kp.toNat - kp.toNat)) ∧ (((w.1) mo 19).toInt = (I mo 19).toInt) ∧ ((w.2.2.1) mo 22 = tMw b kp.toNat (tRn b n kp.toNat - kp.toNat)))) := sorry

end

section
def rmX7_nextf : Room := { frames := 2, cells := 0, slots := 0, locals := 45 }
set_option maxHeartbeats 4000000 in
set_option maxRecDepth 100000 in
/-- the next token -/
theorem c_X7_nextf (l : Launch) (g : gG) (gh : gGh) (T : Nat → Int32) (b : tTx) (n : Nat) (e0 : Nat) (I : gI) (R : gR) (J : gJ) (AI : gI) (AJ : gJ) (AR : gR) (mo : Nat) (hv : mInv g gh R I AI) (hm : gO g mo 7) (hT : AI (gh 50 0) = T) (hE : (I mo 20).toInt ≤ 936) (hb : ∀ k : Nat, k < n → (AI (gh 65 0) k).toInt = b k % 256) (hr7 : ∀ k : Nat, -128 ≤ b k ∧ b k ≤ 127) (hsz : (I mo 18).toInt = (n : Int)) (hn9 : n ≤ 900) (he0 : (I mo 24).toInt = 0 → (I mo 20).toInt = (e0 : Int)) (he1 : e0 ≤ n) : gMet l g yX7_next tsX7_next rmX7_nextf [.ref mo] (I, R, J, AI, AJ, AR) (gQv g (fun w : gS => R = w.2.1 ∧ AI = w.2.2.2.1 ∧ AJ = w.2.2.2.2.1 ∧ AR = w.2.2.2.2.2 ∧ (mInv g gh R (w.1) AI) ∧ (qF mo I (w.1)) ∧ (((w.1) mo 20).toInt ≤ 936 ∧ (I mo 24).toInt ≤ ((w.1) mo 24).toInt) ∧ (((w.1) mo 24).toInt = (I mo 24).toInt) ∧ ((I mo 24).toInt = 0 → tMk b n (tSk b n e0) ((w.1) mo) ((w.2.2.1) mo 22)) ∧ ((I mo 24).toInt ≠ 0 → (w.1) mo = I mo ∧ (w.2.2.1) mo 22 = J mo 22))) := sorry

end

section
/-! reading a plan, as both sides answer: kind, value and name of the h-th token -/
def pK (b : tTx) (n h : Nat) : Int := tKd b n (tPs b n h)
def pV (b : tTx) (n h : Nat) : Int := tVl b n (tPs b n h)
def pN (b : tTx) (n h : Nat) : Int64 := tNa b n (tPs b n h)
/-- a word of the language (w its number), or another one (-1) -/
def pW (b : tTx) (n h : Nat) (w : Int) : Prop := pK b n h = 3 ∧ pV b n h = w
/-- a column below c: the fault's kind, or 0 -/
def pCf (b : tTx) (n : Nat) (c : Int) (h : Nat) : Int := if pK b n h = 2 then (if c ≤ pV b n h then 2 else 0) else 1
theorem pCf_r {b : tTx} {n h : Nat} {c : Int} : 0 ≤ pCf b n c h ∧ pCf b n c h ≤ 2 := sorry
theorem pCf_0 {b : tTx} {n h : Nat} {c : Int} (e : pCf b n c h = 0) : pK b n h = 2 ∧ pV b n h < c := sorry
theorem pCf_no {b : tTx} {n h : Nat} {c : Int} (q : pK b n h ≠ 2) : pCf b n c h = 1 := sorry
theorem pCf_big {b : tTx} {n h : Nat} {c : Int} (q : pK b n h = 2) (r : c ≤ pV b n h) : pCf b n c h = 2 := sorry
theorem pCf_ok {b : tTx} {n h : Nat} {c : Int} (q : pK b n h = 2) (r : ¬ c ≤ pV b n h) : pCf b n c h = 0 := sorry
/-- the relation that the name at h tells: nt r the token of the r-th name, nr their number -/
def pFdF (b : tTx) (n : Nat) (nt : Nat → Nat) (h : Nat) : Nat → Nat → Int
  | 0, _ => -1
  | f + 1, r => if pN b n (nt r) = pN b n h then (r : Int) else pFdF b n nt h f (r + 1)
def pFd (b : tTx) (n : Nat) (nt : Nat → Nat) (nr h : Nat) : Int := pFdF b n nt h nr 0
/-- names are apart -/
def pUn (b : tTx) (n : Nat) (nt : Nat → Nat) (nr : Nat) : Prop := ∀ r s, r < nr → s < nr → pN b n (nt r) = pN b n (nt s) → r = s
theorem pFdF_at {b : tTx} {n : Nat} {nt : Nat → Nat} {h : Nat} : ∀ (f w v : Nat), w ≤ v → v < w + f → pN b n (nt v) = pN b n h → (∀ u, w ≤ u → u < v → pN b n (nt u) ≠ pN b n h) → pFdF b n nt h f w = (v : Int) := sorry
theorem pFdF_no {b : tTx} {n : Nat} {nt : Nat → Nat} {h : Nat} : ∀ (f w : Nat), (∀ u, w ≤ u → u < w + f → pN b n (nt u) ≠ pN b n h) → pFdF b n nt h f w = -1 := sorry
theorem pFd_at {b : tTx} {n : Nat} {nt : Nat → Nat} {nr h v : Nat} (hu : pUn b n nt nr) (hv : v < nr) (e : pN b n (nt v) = pN b n h) : pFd b n nt nr h = (v : Int) := sorry
theorem pFd_no {b : tTx} {n : Nat} {nt : Nat → Nat} {nr h : Nat} (hn : ∀ u, u < nr → pN b n (nt u) ≠ pN b n h) : pFd b n nt nr h = -1 := sorry
/-- a relation: the fault's kind, or 0 -/
def pRf (b : tTx) (n : Nat) (nt : Nat → Nat) (nr h : Nat) : Int := if pK b n h = 3 ∧ pV b n h = -1 then (if pFd b n nt nr h < 0 then 3 else 0) else 1
/-- the class's tokens are those of the text; tl their number -/
def pTk (gh : gGh) (AI : gI) (AJ : gJ) (b : tTx) (n : Nat) (tl : Int) : Prop := (∀ j : Nat, (j : Int) < tl → tOk gh AI AJ b n j) ∧ tPs b n (tl - 1).toNat = n ∧ ∀ j : Nat, (j : Int) < tl - 1 → tPs b n j < n
theorem tKd_end {b : tTx} {n k : Nat} (h : n ≤ k) : tKd b n k = 0 := sorry
theorem tKd_in {b : tTx} {n k : Nat} (h : k < n) : tKd b n k ≠ 0 := sorry
section PTK
variable {gh : gGh} {AI AI' : gI} {AJ : gJ} {b : tTx} {n : Nat} {tl : Int} {h : Nat}
theorem pTk_K (q : pTk gh AI AJ b n tl) (hh : (h : Int) < tl) : (AI (gh 24 0) h).toInt = pK b n h := sorry
theorem pTk_P (q : pTk gh AI AJ b n tl) (hh : (h : Int) < tl) : (AI (gh 25 0) h).toInt = (tPs b n h : Int) := sorry
theorem pTk_V (q : pTk gh AI AJ b n tl) (hh : (h : Int) < tl) : (AI (gh 26 0) h).toInt = pV b n h := sorry
theorem pTk_N (q : pTk gh AI AJ b n tl) (hh : (h : Int) < tl) : AJ (gh 27 0) h = pN b n h := sorry
/-- no end: there is one more -/
theorem pTk_s (q : pTk gh AI AJ b n tl) (hh : (h : Int) < tl) (hk : pK b n h ≠ 0) : (h : Int) < tl - 1 := sorry
theorem pTk_c (q : pTk gh AI AJ b n tl) (e4 : AI' (gh 24 0) = AI (gh 24 0)) (e5 : AI' (gh 25 0) = AI (gh 25 0)) (e6 : AI' (gh 26 0) = AI (gh 26 0)) : pTk gh AI' AJ b n tl := sorry
end PTK
/-- the class's plan so far: nr lines, their names and columns -/
def pLn (gh : gGh) (AR : gR) (I : gI) (J : gJ) (q : Nat) (b : tTx) (n nr : Nat) (nt : Nat → Nat) (cl : Nat → Int) : Prop :=
  (I q 1).toInt = (nr : Int) ∧ nr ≤ 16 ∧ (∀ r : Nat, r < nr → ∀ y, AR (gh 6 q) r = some y → J y 1 = pN b n (nt r) ∧ (I y 2).toInt = cl r) ∧ pUn b n nt nr
theorem pLn_c {g : gG} {gh : gGh} {R AR : gR} {I I' AI : gI} {J : gJ} {q ln a : Nat} {b : tTx} {n nr : Nat} {nt : Nat → Nat} {cl : Nat → Int} (hv : gInv g gh R AR I AI) (h : pLn gh AR I J q b n nr nt cl) (hq : gO g q 2) (h1 : gO g a 1) (hl : gh 4 ln = q) (h5 : (gh 5 ln : Int) = (I q 1).toInt) (hO : gO g ln 0) (f : ∀ b, b ≠ a → b ≠ ln → I' b = I b) : pLn gh AR I' J q b n nr nt cl := sorry
/-- what the class's search says, as the spec's -/
theorem pLn_fd {gh : gGh} {AR : gR} {I : gI} {J : gJ} {q : Nat} {b : tTx} {n nr h : Nat} {nt : Nat → Nat} {cl : Nat → Int} {z : Int} {nm : Int64} (hl : pLn gh AR I J q b n nr nt cl) (hall : ∀ r : Nat, r < nr → ∃ y, AR (gh 6 q) r = some y) (en : nm = pN b n h)
    (hz : (z = -1 ∧ ∀ j : Nat, (j : Int) < (I q 1).toInt → ∀ y, AR (gh 6 q) j = some y → J y 1 ≠ nm) ∨ (0 ≤ z ∧ z < (I q 1).toInt ∧ ∃ y, AR (gh 6 q) z.toNat = some y ∧ J y 1 = nm)) : z = pFd b n nt nr h := sorry

end

section
/-! what the reading of a line answers: the fault's kind (0: none), the token where it stands, a value -/
abbrev pR : Type := Int × Nat × Int
def thn (r : pR) (f : Nat → Int → pR) : pR := if r.1 = 0 then f r.2.1 r.2.2 else r
theorem thn_y {r s x : pR} {f : Nat → Int → pR} (e : r = s) (h : r.1 = 0) (k : f r.2.1 r.2.2 = x) : thn s f = x := sorry
theorem thn_x {r s : pR} {f : Nat → Int → pR} (e : r = s) (h : r.1 ≠ 0) : thn s f = r := sorry
theorem ite_y {p : Prop} [Decidable p] {a c x : pR} (h : p) (k : a = x) : (if p then a else c) = x := sorry
theorem ite_n {p : Prop} [Decidable p] {a c x : pR} (h : ¬ p) (k : c = x) : (if p then a else c) = x := sorry
theorem thn_a {r : pR} {f k : Nat → Int → pR} : thn (thn r f) k = thn r (fun h x => thn (f h x) k) := sorry
theorem thn_v {r : pR} {F : Nat → Int → pR} {v : Int} (h : r.1 = 0 → v = r.2.2) : thn r (fun t _ => F t v) = thn r F := sorry
section Spec
variable (b : tTx) (n : Nat)
def sTk (kd : Int) (h : Nat) : pR := if pK b n h = kd then (0, h + 1, 0) else (1, h, 0)
def sTw (w : Int) (h : Nat) : pR := if pK b n h = 3 ∧ pV b n h = w then (0, h + 1, 0) else (1, h, 0)
def sCol (c : Int) (h : Nat) : pR := if pCf b n c h = 0 then (0, h + 1, pV b n h) else (pCf b n c h, h, 0)
def sTest (c k : Int) (h : Nat) : pR :=
  if pCf b n c h = 0 then
    (if 8 ≤ k then (4, h, 0) else
      if pK b n (h + 1) = 61 ∨ pK b n (h + 1) = 60 ∨ pK b n (h + 1) = 62 then
        (if pK b n (h + 2) = 4 then (0, h + 3, 0) else if pCf b n c (h + 2) = 0 then (0, h + 3, 0) else (pCf b n c (h + 2), h + 2, 0))
      else (1, h + 1, 0))
  else (pCf b n c h, h, 0)
def sTests (c : Int) : Nat → Int → Nat → pR
  | 0, _, h => (4, h, 0)
  | f + 1, k, h => thn (sTest b n c k h) fun t _ => if pK b n t = 3 ∧ pV b n t = 11 then sTests c f (k + 1) (t + 1) else (0, t, c)
def sTerm (c k : Int) (h : Nat) : pR :=
  if pK b n h = 4 then (if 4 ≤ k then (4, h, 0) else (0, h + 1, 0))
  else if pCf b n c h = 0 then
    (if 4 ≤ k then (4, h, 0) else
      if pK b n (h + 1) = 43 ∨ pK b n (h + 1) = 45 then (if pK b n (h + 2) = 4 then (0, h + 3, 0) else (1, h + 2, 0)) else (0, h + 1, 0))
  else (pCf b n c h, h, 0)
def sTerms (c : Int) : Nat → Int → Nat → pR
  | 0, _, h => (4, h, 0)
  | f + 1, k, h => thn (sTerm b n c k h) fun t _ => if pK b n t = 44 then sTerms c f (k + 1) (t + 1) else (0, t, k + 1)
def sPair (c d k lim : Int) (h : Nat) : pR :=
  if pCf b n c h = 0 then (if lim ≤ k then (4, h, 0) else thn (sTk b n 61 (h + 1)) fun t _ => if pCf b n d t = 0 then (0, t + 1, pV b n t) else (pCf b n d t, t, 0))
  else (pCf b n c h, h, 0)
def jC (L : List Int) : Nat → Int
  | 0 => 0
  | m + 1 => jC L m + if (m : Int) ∈ L then 0 else 1
def sPairs (c d : Int) : Nat → Int → List Int → Nat → pR
  | 0, _, _, h => (4, h, 0)
  | f + 1, k, L, h => thn (sPair b n c d k 4 h) fun t v => if pK b n t = 44 then sPairs c d f (k + 1) (v :: L) (t + 1) else (0, t, c + jC (v :: L) d.toNat)
def sBy (c k : Int) (L : List Int) (h : Nat) : pR :=
  if pCf b n c h = 0 then (if pV b n h ∈ L then (2, h, 0) else if 3 ≤ k then (4, h, 0) else (0, h + 1, pV b n h)) else (pCf b n c h, h, 0)
def sBys (c : Int) : Nat → Int → List Int → Nat → pR
  | 0, _, _, h => (4, h, 0)
  | f + 1, k, L, h => thn (sBy b n c k L h) fun t v => if pK b n t = 44 then sBys c f (k + 1) (v :: L) (t + 1) else (0, t, k + 1)
def sFo (c x : Int) (h : Nat) : pR :=
  if pK b n h = 3 ∧ 16 ≤ pV b n h ∧ pV b n h ≤ 19 then (if pV b n h = 16 then (0, h + 1, x) else if pCf b n c (h + 1) = 0 then (0, h + 2, x) else (pCf b n c (h + 1), h + 1, 0)) else (1, h, 0)
def sTc (h : Nat) : pR := if pK b n h = 4 then (if 1 ≤ pV b n h ∧ pV b n h ≤ 4 then (0, h + 1, pV b n h) else (2, h, 0)) else (1, h, 0)
def sClo (x : Int) (h : Nat) : pR := if pK b n h = 59 then (if 4 < x then (5, h, 0) else (0, h + 1, x)) else (1, h, 0)
variable (nr : Nat) (nt : Nat → Nat) (cl : Nat → Int)
def cF (h : Nat) : Int := cl (pFd b n nt nr h).toNat
def sRl (h : Nat) : pR := if pRf b n nt nr h = 0 then (0, h + 1, cF b n nr nt cl h) else (pRf b n nt nr h, h, 0)
def sSel (h : Nat) : pR := thn (sRl b n nr nt cl h) fun t c => thn (sTw b n 10 t) fun t _ => sTests b n c 9 0 t
def sPrj (h : Nat) : pR := thn (sRl b n nr nt cl h) fun t c => sTerms b n c 5 0 t
def sJoi (h : Nat) : pR := thn (sRl b n nr nt cl h) fun t c => thn (sRl b n nr nt cl t) fun t d => thn (sTw b n 12 t) fun t _ => sPairs b n c d 5 0 [] t
def sTwo (h : Nat) : pR := thn (sRl b n nr nt cl h) fun t c => if pRf b n nt nr t = 0 then (if cF b n nr nt cl t = c then (0, t + 1, c) else (5, t, 0)) else (pRf b n nt nr t, t, 0)
def sGrp (h : Nat) : pR := thn (sRl b n nr nt cl h) fun t c => thn (sTw b n 13 t) fun t _ => thn (sBys b n c 4 0 [] t) fun t k => sFo b n c (k + 1) t
def rX (c d k : Int) : Int := if c + d ≤ 4 ∧ k = c then c else 5
def sRng (h : Nat) : pR := thn (sRl b n nr nt cl h) fun t c => thn (sTw b n 14 t) fun t _ => thn (sRl b n nr nt cl t) fun t d => thn (sTw b n 12 t) fun t _ => thn (sPair b n c d 0 1 t) fun t _ => thn (sTw b n 15 t) fun t _ => thn (sTerms b n (c + d) 5 0 t) fun t k => (0, t, rX c d k)
def sBody (kd : Int) (h : Nat) : pR :=
  if kd = 1 then sSel b n nr nt cl h else if kd = 2 then sPrj b n nr nt cl h else if kd = 3 then sJoi b n nr nt cl h else if kd = 4 ∨ kd = 5 then sTwo b n nr nt cl h
  else if kd = 6 then sRl b n nr nt cl h else if kd = 7 then sGrp b n nr nt cl h else if kd = 8 then sRng b n nr nt cl h else sTc b n h
def sNam (h : Nat) : pR := if pK b n h = 3 ∧ pV b n h = -1 then (if pFd b n nt nr h = -1 then (0, h + 1, 0) else (3, h, 0)) else (1, h, 0)
def sVk (h : Nat) : pR := thn (sTk b n 61 h) fun t _ => if pK b n t = 3 ∧ 1 ≤ pV b n t ∧ pV b n t ≤ 8 then (0, t + 1, pV b n t) else (1, t, 0)
def sHd (tb : Int) (h : Nat) : pR :=
  if pK b n h = 3 ∧ pV b n h = 0 then (if 16 ≤ nr then (4, h, 0) else if tb < (nr : Int) then (6, h, 0) else sNam b n nr nt (h + 1))
  else if pK b n h = 3 ∧ pV b n h = 9 then (if 16 ≤ nr then (4, h, 0) else thn (sNam b n nr nt (h + 1)) fun t _ => sVk b n t)
  else (1, h, 0)
def sLine (tb : Int) (h : Nat) : pR := thn (sHd b n nr nt tb h) fun t kd => thn (sBody b n nr nt cl kd t) fun t x => sClo b n x t
end Spec
def sUp {α : Type} (f : Nat → α) (k : Nat) (v : α) : Nat → α := fun j => if j = k then v else f j
theorem sUp_s {α : Type} {f : Nat → α} {k : Nat} {v : α} : sUp f k v k = v := sorry
theorem sUp_k {α : Type} {f : Nat → α} {j k : Nat} {v : α} (h : j ≠ k) : sUp f k v j = f j := sorry
/-- the whole text: the fault (8 times the place, and its kind) or 0; how many lines -/
def sPar (b : tTx) (n : Nat) : Nat → Nat → (Nat → Nat) → (Nat → Int) → Int → Nat → Int × Nat
  | 0, nr, _, _, _, _ => (0, nr)
  | f + 1, nr, nt, cl, tb, h =>
    if pK b n h = 0 then (0, nr)
    else if (sLine b n nr nt cl tb h).1 = 0 then
      sPar b n f (nr + 1) (sUp nt nr (h + 1)) (sUp cl nr (sLine b n nr nt cl tb h).2.2) (if pK b n h = 3 ∧ pV b n h = 0 then tb + 1 else tb) (sLine b n nr nt cl tb h).2.1
    else (8 * (tPs b n (sLine b n nr nt cl tb h).2.1 : Int) + (sLine b n nr nt cl tb h).1, nr)
section Loops
variable {b : tTx} {n : Nat} {c d k : Int} {h f m : Nat} {S r : pR} {L : List Int}
theorem sTests_go (hs : S = sTests b n c m k h) (hm : m = f + 1) (er : r = sTest b n c k h) (h0 : r.1 = 0) (hw : pK b n r.2.1 = 3 ∧ pV b n r.2.1 = 11) : S = sTests b n c f (k + 1) (r.2.1 + 1) := sorry
theorem sTests_st (hs : S = sTests b n c m k h) (hm : m = f + 1) (er : r = sTest b n c k h) (h0 : r.1 = 0) (hw : ¬ (pK b n r.2.1 = 3 ∧ pV b n r.2.1 = 11)) : S = (0, r.2.1, c) := sorry
theorem sTests_no (hs : S = sTests b n c m k h) (hm : m = f + 1) (er : r = sTest b n c k h) (h0 : r.1 ≠ 0) : S = r := sorry
theorem sTests_z (hs : S = sTests b n c m k h) (hm : m = 0) : S = (4, h, 0) := sorry
theorem sTerms_go (hs : S = sTerms b n c m k h) (hm : m = f + 1) (er : r = sTerm b n c k h) (h0 : r.1 = 0) (hw : pK b n r.2.1 = 44) : S = sTerms b n c f (k + 1) (r.2.1 + 1) := sorry
theorem sTerms_st (hs : S = sTerms b n c m k h) (hm : m = f + 1) (er : r = sTerm b n c k h) (h0 : r.1 = 0) (hw : ¬ (pK b n r.2.1 = 44)) : S = (0, r.2.1, k + 1) := sorry
theorem sTerms_no (hs : S = sTerms b n c m k h) (hm : m = f + 1) (er : r = sTerm b n c k h) (h0 : r.1 ≠ 0) : S = r := sorry
theorem sTerms_z (hs : S = sTerms b n c m k h) (hm : m = 0) : S = (4, h, 0) := sorry
theorem sPairs_go (hs : S = sPairs b n c d m k L h) (hm : m = f + 1) (er : r = sPair b n c d k 4 h) (h0 : r.1 = 0) (hw : pK b n r.2.1 = 44) : S = sPairs b n c d f (k + 1) (r.2.2 :: L) (r.2.1 + 1) := sorry
theorem sPairs_st (hs : S = sPairs b n c d m k L h) (hm : m = f + 1) (er : r = sPair b n c d k 4 h) (h0 : r.1 = 0) (hw : ¬ (pK b n r.2.1 = 44)) : S = (0, r.2.1, c + jC (r.2.2 :: L) d.toNat) := sorry
theorem sPairs_no (hs : S = sPairs b n c d m k L h) (hm : m = f + 1) (er : r = sPair b n c d k 4 h) (h0 : r.1 ≠ 0) : S = r := sorry
theorem sPairs_z (hs : S = sPairs b n c d m k L h) (hm : m = 0) : S = (4, h, 0) := sorry
theorem sBys_go (hs : S = sBys b n c m k L h) (hm : m = f + 1) (er : r = sBy b n c k L h) (h0 : r.1 = 0) (hw : pK b n r.2.1 = 44) : S = sBys b n c f (k + 1) (r.2.2 :: L) (r.2.1 + 1) := sorry
theorem sBys_st (hs : S = sBys b n c m k L h) (hm : m = f + 1) (er : r = sBy b n c k L h) (h0 : r.1 = 0) (hw : ¬ (pK b n r.2.1 = 44)) : S = (0, r.2.1, k + 1) := sorry
theorem sBys_no (hs : S = sBys b n c m k L h) (hm : m = f + 1) (er : r = sBy b n c k L h) (h0 : r.1 ≠ 0) : S = r := sorry
theorem sBys_z (hs : S = sBys b n c m k L h) (hm : m = 0) : S = (4, h, 0) := sorry
end Loops
/-! where the class's reading stands: its tokens, the token that is looked at, the lines so far -/
def pH (gh : gGh) (AR : gR) (I : gI) (J : gJ) (AI : gI) (AJ : gJ) (a q : Nat) (b : tTx) (n : Nat) (tl : Int) (nr : Nat) (nt : Nat → Nat) (cl : Nat → Int) (h : Nat) : Prop :=
  pTk gh AI AJ b n tl ∧ (I (gh 22 0) 4).toInt = tl ∧ (I a 3).toInt = (h : Int) ∧ (h : Int) < tl ∧ pLn gh AR I J q b n nr nt cl
section PH
variable {g : gG} {gh : gGh} {R AR : gR} {I I' : gI} {J : gJ} {AI AI' : gI} {AJ : gJ} {a q ln : Nat} {b : tTx} {n : Nat} {tl : Int} {nr : Nat} {nt : Nat → Nat} {cl : Nat → Int} {h : Nat}
theorem pH_h (w : pH gh AR I J AI AJ a q b n tl nr nt cl h) : (I a 3).toInt = (h : Int) := sorry
theorem pH_n (w : pH gh AR I J AI AJ a q b n tl nr nt cl h) : (I a 3).toInt.toNat = h := sorry
theorem pH_K (w : pH gh AR I J AI AJ a q b n tl nr nt cl h) : (AI (gh 24 0) (I a 3).toInt.toNat).toInt = pK b n h := sorry
theorem pH_P (w : pH gh AR I J AI AJ a q b n tl nr nt cl h) : (AI (gh 25 0) (I a 3).toInt.toNat).toInt = (tPs b n h : Int) := sorry
theorem pH_V (w : pH gh AR I J AI AJ a q b n tl nr nt cl h) : (AI (gh 26 0) (I a 3).toInt.toNat).toInt = pV b n h := sorry
theorem pH_N (w : pH gh AR I J AI AJ a q b n tl nr nt cl h) : AJ (gh 27 0) (I a 3).toInt.toNat = pN b n h := sorry
theorem pH_l (w : pH gh AR I J AI AJ a q b n tl nr nt cl h) : (I q 1).toInt = (nr : Int) := sorry
theorem pH_t (w : pH gh AR I J AI AJ a q b n tl nr nt cl h) : (I a 3).toInt < (I (gh 22 0) 4).toInt := sorry
/-- the line alone has changed -/
theorem pH_ln (hv : gInv g gh R AR I AI) (hp : pS g gh R I a q ln) (w : pH gh AR I J AI AJ a q b n tl nr nt cl h) (f : ∀ b, b ≠ ln → I' b = I b) : pH gh AR I' J AI AJ a q b n tl nr nt cl h := sorry
/-- the parts of the line have changed -/
theorem pH_ai {I0 AI0 : gI} (hv : gInv g gh R AR I0 AI0) (h1 : gO g a 1) (h0 : gO g ln 0) (w : pH gh AR I J AI AJ a q b n tl nr nt cl h) (f : ∀ b, b ≠ gh 3 ln → AI' b = AI b) : pH gh AR I J AI' AJ a q b n tl nr nt cl h := sorry
/-- the next token -/
theorem pH_st (hv : gInv g gh R AR I AI) (h1 : gO g a 1) (hq : gO g q 2) (w : pH gh AR I J AI AJ a q b n tl nr nt cl h) (f : ∀ b, b ≠ a → I' b = I b) (hk : pK b n h ≠ 0) (e : (I' a 3).toInt = (I a 3).toInt + 1) : pH gh AR I' J AI AJ a q b n tl nr nt cl (h + 1) := sorry
theorem pH_s (w : pH gh AR I J AI AJ a q b n tl nr nt cl h) (hk : pK b n h ≠ 0) : (I a 3).toInt < (I (gh 22 0) 4).toInt - 1 := sorry
theorem pH_fd (hv : gInv g gh R AR I AI) (hq : gO g q 2) (w : pH gh AR I J AI AJ a q b n tl nr nt cl h) {z : Int} {nm : Int64} (en : nm = AJ (gh 27 0) (I a 3).toInt.toNat)
    (hz : (z = -1 ∧ ∀ j : Nat, (j : Int) < (I q 1).toInt → ∀ y, AR (gh 6 q) j = some y → J y 1 ≠ nm) ∨ (0 ≤ z ∧ z < (I q 1).toInt ∧ ∃ y, AR (gh 6 q) z.toNat = some y ∧ J y 1 = nm)) : z = pFd b n nt nr h := sorry
theorem pH_c (w : pH gh AR I J AI AJ a q b n tl nr nt cl h) {z : Int} {y : Nat} (h0 : 0 ≤ z) (h1 : z < (I q 1).toInt) (hy : AR (gh 6 q) z.toNat = some y) : (I y 2).toInt = cl z.toNat := sorry
end PH
theorem pRf_1 {b : tTx} {n nr h : Nat} {nt : Nat → Nat} (k : ¬ (pK b n h = 3 ∧ pV b n h = -1)) : pRf b n nt nr h = 1 := sorry
theorem pRf_3 {b : tTx} {n nr h : Nat} {nt : Nat → Nat} (k : pK b n h = 3 ∧ pV b n h = -1) (e : pFd b n nt nr h < 0) : pRf b n nt nr h = 3 := sorry
theorem pRf_0 {b : tTx} {n nr h : Nat} {nt : Nat → Nat} (k : pK b n h = 3 ∧ pV b n h = -1) (e : ¬ pFd b n nt nr h < 0) : pRf b n nt nr h = 0 := sorry
theorem pRf_i {b : tTx} {n nr h : Nat} {nt : Nat → Nat} (e : pRf b n nt nr h = 0) : (pK b n h = 3 ∧ pV b n h = -1) ∧ 0 ≤ pFd b n nt nr h := sorry
/-! hidden from the arithmetic -/
theorem tIz_t {P : Prop} (h : P) : tIz 1 P := sorry
theorem tIz_f {P : Prop} (h : ¬ P) : tIz 0 P := sorry
theorem tIz_r {z : Int} {P : Prop} (h : tIz z P) : z = 0 ∨ z = 1 := sorry
def pIm (z x y : Int) : Prop := z = 0 → x = y
theorem pIm_n {z x y : Int} (h : z ≠ 0) : pIm z x y := sorry
theorem pIm_y {z x y : Int} (h : x = y) : pIm z x y := sorry
theorem pr_no {k x : Int} {h : Nat} (e : ((k, h, x) : pR).1 = 0) (n : k ≠ 0) : False := sorry
theorem pr_e {x x' y y' : Int} {h h' : Nat} (a : x = x') (c : h = h') (d : y = y') : ((x, h, y) : pR) = (x', h', y') := sorry
theorem pr_r {r : pR} {x y : Int} {h : Nat} (a : x = r.1) (c : h = r.2.1) (d : y = r.2.2) : ((x, h, y) : pR) = r := sorry
/-- the second columns that the pairs tell; the columns of a group -/
def pCn (f : Nat → Int32) (k : Int) (L : List Int) : Prop := ∀ x : Int, (∃ j : Nat, (j : Int) < k ∧ (f (2 * j + 1)).toInt = x) ↔ x ∈ L
def pBn (f : Nat → Int32) (k : Int) (L : List Int) : Prop := ∀ x : Int, (∃ j : Nat, (j : Int) < k ∧ (f j).toInt = x) ↔ x ∈ L
theorem pCn_0 {f : Nat → Int32} {k : Int} (h : k = 0) : pCn f k [] := sorry
theorem pBn_0 {f : Nat → Int32} {k : Int} (h : k = 0) : pBn f k [] := sorry
theorem pCn_s {f f' : Nat → Int32} {k v : Int} {L : List Int} (c : pCn f k L) (hk : 0 ≤ k) (e : ∀ j : Nat, (j : Int) < 2 * k → f' j = f j) (ev : (f' (2 * k + 1).toNat).toInt = v) : pCn f' (k + 1) (v :: L) := sorry
theorem pBn_s {f f' : Nat → Int32} {k v : Int} {L : List Int} (c : pBn f k L) (hk : 0 ≤ k) (e : ∀ j : Nat, (j : Int) < k → f' j = f j) (ev : (f' k.toNat).toInt = v) : pBn f' (k + 1) (v :: L) := sorry
theorem jC_y {L : List Int} {i : Int} (h0 : 0 ≤ i) (h : i ∈ L) : jC L (i + 1).toNat = jC L i.toNat := sorry
theorem jC_n {L : List Int} {i : Int} (h0 : 0 ≤ i) (h : ¬ i ∈ L) : jC L (i + 1).toNat = jC L i.toNat + 1 := sorry
/-- a line at its end: its columns, or more than 4 where it is unlike -/
def pB (f : Nat → Int32) (x : Int) : Prop := ((f 0).toInt ≠ 8 ∧ (f 2).toInt = x) ∨ ((f 0).toInt = 8 ∧ (f 2).toInt ≤ 4 ∧ (((f 5).toInt + (f 6).toInt ≤ 4 ∧ (f 8).toInt = (f 5).toInt ∧ x = (f 2).toInt) ∨ (¬ ((f 5).toInt + (f 6).toInt ≤ 4 ∧ (f 8).toInt = (f 5).toInt) ∧ x = 5)))
def pBz (z : Int) (f : Nat → Int32) (x : Int) : Prop := z = 0 → pB f x
def pJm (z : Int) (x y : Int64) : Prop := z = 0 → x = y
theorem pJm_n {z : Int} {x y : Int64} (h : z ≠ 0) : pJm z x y := sorry
theorem pJm_y {z : Int} {x y : Int64} (h : x = y) : pJm z x y := sorry
def pNm (z x y : Int) : Prop := z ≠ 0 → x = y
theorem pBz_m {z x : Int} {f : Nat → Int32} (h0 : (f 0).toInt ≠ 8) (h : pIm z (f 2).toInt x) : pBz z f x := sorry
section PH2
variable {g : gG} {gh : gGh} {R AR : gR} {I I' I0 AI0 : gI} {J J' : gJ} {AI : gI} {AJ : gJ} {a q ln : Nat} {b : tTx} {n : Nat} {tl : Int} {nr : Nat} {nt : Nat → Nat} {cl : Nat → Int} {h : Nat}
/-- a line behind the last one has changed -/
theorem pH_g (hv : gInv g gh R AR I0 AI0) (h1 : gO g a 1) (hq : gO g q 2) (h0 : gO g ln 0) (h4 : gh 4 ln = q) (h5 : (gh 5 ln : Int) = (I q 1).toInt) (w : pH gh AR I J AI AJ a q b n tl nr nt cl h) (f : ∀ b, b ≠ ln → I' b = I b) : pH gh AR I' J AI AJ a q b n tl nr nt cl h := sorry
theorem pH_J (hv : gInv g gh R AR I AI) (hp : pS g gh R I a q ln) (w : pH gh AR I J AI AJ a q b n tl nr nt cl h) (f : ∀ b, b ≠ ln → J' b = J b) : pH gh AR I J' AI AJ a q b n tl nr nt cl h := sorry
/-- the line is kept -/
theorem pH_keep {x : Int} {h0 : Nat} (hv : gInv g gh R AR I0 AI0) (hp : pS g gh R I a q ln) (w : pH gh AR I J AI AJ a q b n tl nr nt cl h) (h15 : nr ≤ 15) (e1 : (I' q 1).toInt = (I q 1).toInt + 1) (t5 : ∀ b c, gO g b c → c ≠ 0 → c ≠ 2 → I' b = I b) (t1 : ∀ b j, j ≠ 13 → j ≠ 14 → gO g b 0 → I' b j = I b j)
    (ex : (I ln 2).toInt = x) (eN : J ln 1 = pN b n h0) (hno : pFd b n nt nr h0 = -1) : pH gh AR I' J AI AJ a q b n tl (nr + 1) (sUp nt nr h0) (sUp cl nr x) h := sorry
/-- at the start -/
theorem pH_0 (hk : pTk gh AI AJ b n tl) (hl : (I (gh 22 0) 4).toInt = tl) (h1 : 1 ≤ tl) (h3 : (I a 3).toInt = 0) (e1 : (I q 1).toInt = 0) : pH gh AR I J AI AJ a q b n tl 0 nt cl 0 := sorry
end PH2
theorem sNam_0 {b : tTx} {n nr h : Nat} {nt : Nat → Nat} {r : pR} (e : r = sNam b n nr nt h) (h0 : r.1 = 0) : pFd b n nt nr h = -1 := sorry
theorem sHd_0 {b : tTx} {n nr h : Nat} {nt : Nat → Nat} {tb : Int} {r : pR} (e : r = sHd b n nr nt tb h) (h0 : r.1 = 0) : pFd b n nt nr (h + 1) = -1 ∧ nr ≤ 15 ∧ ((pK b n h = 3 ∧ pV b n h = 0) ∨ (pK b n h = 3 ∧ pV b n h = 9)) := sorry
section Par
variable {b : tTx} {n nr h f m : Nat} {nt : Nat → Nat} {cl : Nat → Int} {tb tb2 : Int} {S : Int × Nat} {r : pR}
theorem sPar_e (hs : S = sPar b n m nr nt cl tb h) (hk : pK b n h = 0 ∨ m = 0) : S = (0, nr) := sorry
theorem sPar_n (hs : S = sPar b n m nr nt cl tb h) (hm : m = f + 1) (hk : pK b n h ≠ 0) (er : r = sLine b n nr nt cl tb h) (h0 : r.1 ≠ 0) : S = (8 * (tPs b n r.2.1 : Int) + r.1, nr) := sorry
theorem sPar_s (hs : S = sPar b n m nr nt cl tb h) (hm : m = f + 1) (hk : pK b n h ≠ 0) (er : r = sLine b n nr nt cl tb h) (h0 : r.1 = 0) (e2 : tb2 = if pK b n h = 3 ∧ pV b n h = 0 then tb + 1 else tb) : S = sPar b n f (nr + 1) (sUp nt nr (h + 1)) (sUp cl nr r.2.2) tb2 r.2.1 := sorry
end Par
theorem pS_at {g : gG} {gh : gGh} {R AR : gR} {I AI I0 : gI} {a q ln : Nat} (hv : gInv g gh R AR I0 AI) (hp : pS g gh R I a q ln) : AR (gh 6 q) (I q 1).toInt.toNat = some ln := sorry
theorem sNam_x {b : tTx} {n nr h : Nat} {nt : Nat → Nat} (h0 : (sNam b n nr nt h).1 = 0) : (sNam b n nr nt h).2.2 = 0 := sorry
theorem sVk_x {b : tTx} {n h : Nat} (h0 : (sVk b n h).1 = 0) : (sVk b n h).2.2 ≠ 0 := sorry
theorem sHd_k {b : tTx} {n nr h : Nat} {nt : Nat → Nat} {tb : Int} (h0 : (sHd b n nr nt tb h).1 = 0) : (pK b n h = 3 ∧ pV b n h = 0 → (sHd b n nr nt tb h).2.2 = 0) ∧ (¬ (pK b n h = 3 ∧ pV b n h = 0) → (sHd b n nr nt tb h).2.2 ≠ 0) := sorry
theorem sHd_tb {b : tTx} {n nr h : Nat} {nt : Nat → Nat} {tb tb2 kd : Int} {r : pR} (e : r = sHd b n nr nt tb h) (h0 : r.1 = 0) (ek : kd = r.2.2) (k1 : pIm kd tb2 (tb + 1)) (k2 : pNm kd tb2 tb) : tb2 = if pK b n h = 3 ∧ pV b n h = 0 then tb + 1 else tb := sorry
/-- what plan answers of a text b of n bytes -/
def sPl (b : tTx) (n : Nat) : Int × Nat := sPar b n 17 0 (fun _ => 0) (fun _ => 0) 0 0
def sPln (b : tTx) (n : Nat) : Int := if 900 < n then -1 else if (sPl b n).1 = 0 then ((sPl b n).2 : Int) else -2 - (sPl b n).1
theorem sPln_b {b : tTx} {n : Nat} (h : 900 < n) : sPln b n = -1 := sorry
theorem sPln_y {b : tTx} {n : Nat} (h : ¬ 900 < n) (e : (sPl b n).1 = 0) : sPln b n = ((sPl b n).2 : Int) := sorry
theorem sPln_n {b : tTx} {n : Nat} (h : ¬ 900 < n) (e : (sPl b n).1 ≠ 0) : sPln b n = -2 - (sPl b n).1 := sorry
theorem pr_x {r : pR} (h : r.1 = 0) : r = (0, r.2.1, r.2.2) := sorry

end

section
/-! what the whole text tells, where it is read to its end: lines, their names and columns, tables -/
def sParF (b : tTx) (n : Nat) : Nat → Nat → (Nat → Nat) → (Nat → Int) → Int → Nat → Nat × (Nat → Nat) × (Nat → Int) × Int
  | 0, nr, nt, cl, tb, _ => (nr, nt, cl, tb)
  | f + 1, nr, nt, cl, tb, h =>
    if pK b n h = 0 then (nr, nt, cl, tb)
    else if (sLine b n nr nt cl tb h).1 = 0 then
      sParF b n f (nr + 1) (sUp nt nr (h + 1)) (sUp cl nr (sLine b n nr nt cl tb h).2.2) (if pK b n h = 3 ∧ pV b n h = 0 then tb + 1 else tb) (sLine b n nr nt cl tb h).2.1
    else (nr, nt, cl, tb)
section ParF
variable {b : tTx} {n nr h f m : Nat} {nt : Nat → Nat} {cl : Nat → Int} {tb tb2 : Int} {S : Nat × (Nat → Nat) × (Nat → Int) × Int} {r : pR}
theorem sParF_e (hs : S = sParF b n m nr nt cl tb h) (hk : pK b n h = 0 ∨ m = 0) : S = (nr, nt, cl, tb) := sorry
theorem sParF_s (hs : S = sParF b n m nr nt cl tb h) (hm : m = f + 1) (hk : pK b n h ≠ 0) (er : r = sLine b n nr nt cl tb h) (h0 : r.1 = 0) (e2 : tb2 = if pK b n h = 3 ∧ pV b n h = 0 then tb + 1 else tb) : S = sParF b n f (nr + 1) (sUp nt nr (h + 1)) (sUp cl nr r.2.2) tb2 r.2.1 := sorry
end ParF
def sPlF (b : tTx) (n : Nat) : Nat × (Nat → Nat) × (Nat → Int) × Int := sParF b n 17 0 (fun _ => 0) (fun _ => 0) 0 0
theorem gInv_un {g : gG} {gh : gGh} {R AR : gR} {I AI : gI} (h : gInv g (ghF 1 gh) R AR I AI) (h37 : gh 42 0 ≠ 1) : gInv g gh R AR I AI := sorry
theorem pLn_f {g : gG} {gh : gGh} {R AR : gR} {I0 I I' AI : gI} {J : gJ} {q : Nat} {b : tTx} {n nr : Nat} {nt : Nat → Nat} {cl : Nat → Int} (hv : gInv g gh R AR I0 AI) (hq : gO g q 2) (h : pLn gh AR I J q b n nr nt cl) (f : ∀ b c, gO g b c → c ≠ 4 → c ≠ 6 → I' b = I b) : pLn gh AR I' J q b n nr nt cl := sorry
/-- what a call of plan leaves of the class: the old plan where it failed, else what the text tells -/
def plE (g : gG) (gh : gGh) (AR : gR) (I : gI) (J : gJ) (AI : gI) (R' : gR) (I' : gI) (J' : gJ) (AI' : gI) (x pA q bA nA : Nat) (b : tTx) (n : Nat) (z : Int) : Prop :=
  (z < 0 ∧ xS g gh R' AR x pA bA nA ∧ R' (gh 21 0) 1 = some q ∧ I' pA = I pA ∧ (∀ y, gO g y 0 → gh 4 y = pA → I' y = I y ∧ J' y = J y) ∧ I' (gh 37 0) 3 = I (gh 37 0) 3 ∧ AI' (gh 0 (gh 37 0)) = AI (gh 0 (gh 37 0))) ∨
  (0 ≤ z ∧ xS g gh R' AR x q bA nA ∧ R' (gh 21 0) 1 = some pA ∧ pLn gh AR I' J' q b n (sPlF b n).1 (sPlF b n).2.1 (sPlF b n).2.2.1 ∧ (I' q 2).toInt = (sPlF b n).2.2.2 ∧ (I' (gh 37 0) 3).toInt = 0)


end

section
def rmX0_tellsSecondf : Room := { frames := 0, cells := 0, slots := 0, locals := 0 }
set_option maxHeartbeats 4000000 in
set_option maxRecDepth 100000 in
/-- whether a pair tells this column -/
theorem c_X0_tellsSecondf (l : Launch) (g : gG) (gh : gGh) (I : gI) (R : gR) (J : gJ) (AI : gI) (AJ : gJ) (AR : gR) (a : Nat) (col : Int) (zcol : zr col) (hv : gInv g gh R AR I AI) (ha : gO g a 0) : gMet l g yX0_tellsSecond wsX0_tellsSecond rmX0_tellsSecondf [.ref a, .int (iI col)] (I, R, J, AI, AJ, AR) (gQi g (fun (z : Int) (w : gS) => I = w.1 ∧ R = w.2.1 ∧ J = w.2.2.1 ∧ AI = w.2.2.2.1 ∧ AJ = w.2.2.2.2.1 ∧ AR = w.2.2.2.2.2 ∧ (z = 0 ∨ z = 1) ∧ (tIz z (∃ j : Nat, (j : Int) < (I a 8).toInt ∧ (AI (gh 3 a) (2 * j + 1)).toInt = col)))) := sorry

end
