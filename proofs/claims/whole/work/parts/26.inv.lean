/-! The relation between the class's places and the reference's: its parts, each a word on the values that it reads -/
theorem pf_s {σ : gS} {a k : Nat} {v : Int32} : pf σ a k v a k = v := by unfold pf; rw [vu_s]; exact pk_us
theorem pf_i {σ : gS} {a k i : Nat} {v : Int32} (h : i ≠ k) : pf σ a k v a i = σ a i := by unfold pf; rw [vu_s]; exact pk_un h
/-- a byte as an array keeps it -/
def isb (x : Int32) : Prop := x.toInt8.toInt32 = x
/-- a byte without sign -/
def ub (x : Int32) : Nat := (x &&& 255).toBitVec.toNat
/-- four bytes, the highest first -/
def be4 (f : Nat → Int32) (i : Nat) : Nat := ((ub (f i) * 256 + ub (f (i + 1))) * 256 + ub (f (i + 2))) * 256 + ub (f (i + 3))
def be2 (f : Nat → Int32) (i : Nat) : Nat := ub (f i) * 256 + ub (f (i + 1))
/-- a row of at most N bytes, the same on both sides -/
def pB (N : Nat) (x y : Int32) (a b : Nat → Int32) : Prop := ∃ n : Nat, n ≤ N ∧ x = nI n ∧ y = nI n ∧ ∀ i, i < n → a i = b i ∧ isb (a i)
/-- the disk: none, or the same -/
def pD (has x y : Int32) (a b : Nat → Int32) : Prop := (has = 0 ∧ y = -1 ∧ ∃ n : Nat, n ≤ 400 ∧ x = nI n) ∨ (has = 1 ∧ pB 400 x y a b)
/-- a boolean -/
def pZ (x : Int32) : Prop := x = 0 ∨ x = 1
/-- a time: an int of the class, a long of the reference -/
def pT (x : Int32) (y : Int64) : Prop := ∃ n : Nat, n ≤ 2000020000 ∧ x = nI n ∧ y = lN n
/-- a card's number, or none -/
def pN (x : Int32) : Prop := x = -1 ∨ ∃ c : Nat, c < 16 ∧ x = nI c
/-- a number up to N, the same on both sides -/
def pE (N : Nat) (x y : Int32) : Prop := ∃ n : Nat, n ≤ N ∧ x = nI n ∧ y = nI n
/-- what is there to be seen: cards, finger, door, key, power's end -/
def pSee (oc om ic im fc fm dc dm kc km cc cm : Int32) : Prop := (oc = om ∧ pN oc) ∧ (ic = im ∧ pN ic) ∧ (oc = -1 ∨ ¬ oc = ic) ∧ (fc = fm ∧ (fc = -1 ∨ ∃ n : Nat, n < 65536 ∧ fc = nI n)) ∧ (dc = dm ∧ pZ dc) ∧ pE 4 kc km ∧ (cc = cm ∧ (cc = -1 ∨ ∃ n : Nat, n ≤ 10 ∧ cc = nI n))
/-- now, and the next pass' serial: at most k passes so far -/
def pNow (k : Nat) (x : Int32) (y : Int64) (u : Int32) (v : Int64) : Prop := (∃ n : Nat, n ≤ 2000000000 ∧ x = nI n ∧ y = lN n) ∧ ∃ n : Nat, n ≤ k ∧ u = nI (n + 1) ∧ v = lN (n + 1)
/-- settings -/
def sLo (i : Nat) : Nat := if i < 5 then 1 else 0
def sHi (i : Nat) : Nat := if i < 5 then 10000 else if i = 5 then 5 else if i = 6 then 16 else 999
def pSet (a b : Nat → Int32) : Prop := ∀ i, i < 9 → ∃ n : Nat, sLo i ≤ n ∧ n ≤ sHi i ∧ a i = nI n ∧ b i = nI n
/-- keys: how many, issuers, words of the class, bytes of the reference, the own issuer -/
def pKey (n : Nat) (x y own : Int32) (ia ib w b : Nat → Int32) : Prop := n ≤ 7 ∧ x = nI n ∧ y = nI n ∧ (n = 0 → own = -1) ∧ (0 < n → own = ia 0) ∧ ∀ i, i < n → (ia i = ib i ∧ ∃ v : Nat, v < 65536 ∧ ia i = nI v) ∧ ∀ j, j < 4 → (w (4 * i + j)).toBitVec.toNat = be4 b (16 * i + 4 * j)
/-- latch, door, alarm -/
def pLat (oc om ac am : Int32) (lc : Int32) (lm : Int64) (dc : Int32) (dm : Int64) (sc sm : Int32) : Prop := (oc = om ∧ pZ oc) ∧ (ac = am ∧ pZ ac) ∧ pT dc dm ∧ (oc = 1 → pT lc lm) ∧ (sc = sm ∧ pZ sc)
/-- outside: state, sign, card, finger, time -/
def pOut (s : Nat) (x y gc gm cc cm fc fm tc : Int32) (tm : Int64) : Prop := s ≤ 7 ∧ x = nI s ∧ y = nI s ∧ pE 7 gc gm ∧ (s ≠ 0 → ∃ c : Nat, c < 16 ∧ cc = nI c ∧ cm = nI c) ∧ (s = 3 → ∃ f : Nat, f < 65536 ∧ fc = nI f ∧ fm = nI f) ∧ pT tc tm
/-- inside: state, screen, card, role, request -/
def pIn (s n : Nat) (x y gc gm cc cm rc rm qc qm : Int32) : Prop := s ≤ 7 ∧ x = nI s ∧ y = nI s ∧ pE 12 gc gm ∧ (rc = rm ∧ (rc = -1 ∨ ∃ r : Nat, 1 ≤ r ∧ r ≤ 3 ∧ rc = nI r)) ∧ (¬ rc = -1 → s = 2 ∨ s = 5 ∨ s = 6) ∧ (s = 5 ∨ s = 6 → ¬ rc = -1 ∧ ∃ q : Nat, 1 ≤ q ∧ q ≤ 4 ∧ qc = nI q ∧ qm = nI q ∧ (s = 6 → q = 1)) ∧ (s = 3 ∨ s = 4 ∨ ¬ rc = -1 → ∃ c : Nat, c < 16 ∧ cc = nI c ∧ cm = nI c) ∧ (s ≤ 1 ↔ n = 0)
/-- records: how many (c), the next number (m); bytes; each one's number -/
def pJ (k c m : Nat) (xc xm : Int32) (len : Int32) (nc : Int32) (nm : Int64) (ac am : Int32) (a b : Nat → Int32) : Prop := c ≤ 96 ∧ c < m ∧ m ≤ k ∧ xc = nI c ∧ xm = nI c ∧ len = nI (16 * c) ∧ nc = nI m ∧ nm = lN m ∧ (ac = am ∧ pZ ac) ∧ (∀ i, i < 16 * c → a i = b i ∧ isb (a i)) ∧ ∀ r, r < c → be4 a (16 * r) = m - c + r
/-- the archive that waits for its end -/
def pArc (s c m : Nat) (fc mc mm wm : Int32) (a w : Nat → Int32) : Prop := s = 6 → ∃ f q : Nat, fc = nI f ∧ mc = nI q ∧ mm = nI q ∧ 1 ≤ q ∧ q ≤ 24 ∧ wm = nI (1 + 16 * q) ∧ w 0 = 82 ∧ 1 ≤ f ∧ f + c ≤ m ∧ (f + c = m → q ≤ c ∧ ∀ i, i < 16 * q → w (1 + i) = a i) ∧ (f + c ≠ m → be4 w 1 = f)
