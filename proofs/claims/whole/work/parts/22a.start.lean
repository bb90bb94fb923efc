/-! From nothing to the loop: both constructors -/
def mEnd : gK := (mset (mset (mset (mset (mset (mset (mset (mset (mset (mset (mset (mset (mset (mset (mset (mset (mset (mset (mset (mset (mset (mset (mset (mset (mset (mset (mset (mset (mset (mset (mset (mset (mset (mset (mset (mset (mset (mset (mset (mset (mset (mset (mset (mset (mset (mset (mset (mset (mset (mset (mset (mset (mset (mset (mset (mset (mset (mset (mset (mset (mset (mset (mset (mset (mset (mset (mset (mset (mset (mset (mset (mset (mset (mset (mset (mset (mset (mset (mset (mset (mset (mset (mset (mset (mset (mset (mset (mset (mset (mset (mset (mset (mset (mset (mset (mset (mset (mset (mset (mset (mset (mset (mset (mset (mset (mset (mset (mset (mset (mset (mset (mset (mset (mset (mset (mset (mset (mset (mset (mset (mset (mset (mset (mset (mset (mset (mset (mset (mset (mset (mset (mset (mset (mset (mset (mset (mset (fun _ _ => false) 1 0) 0 0) 3 0) 0 1) 0 3) 0 12) 7 0) 7 1) 7 2) 7 3) 0 13) 12 0) 12 1) 0 14) 16 0) 15 0) 0 15) 0 16) 19 0) 0 17) 21 0) 0 18) 23 0) 23 1) 26 0) 28 0) 30 0) 32 0) 34 0) 34 1) 37 0) 39 0) 41 0) 43 0) 45 0) 45 1) 48 0) 50 0) 52 0) 54 0) 56 0) 56 1) 59 0) 61 0) 63 0) 65 0) 67 0) 67 1) 70 0) 72 0) 74 0) 76 0) 78 0) 78 1) 81 0) 83 0) 85 0) 87 0) 89 0) 89 1) 92 0) 94 0) 96 0) 98 0) 100 0) 100 1) 103 0) 105 0) 107 0) 109 0) 111 0) 111 1) 114 0) 116 0) 118 0) 120 0) 122 0) 122 1) 125 0) 127 0) 129 0) 131 0) 133 0) 133 1) 136 0) 138 0) 140 0) 142 0) 144 0) 144 1) 147 0) 149 0) 151 0) 153 0) 155 0) 155 1) 158 0) 160 0) 162 0) 164 0) 166 0) 166 1) 169 0) 171 0) 173 0) 175 0) 177 0) 177 1) 180 0) 182 0) 184 0) 186 0) 188 0) 188 1) 191 0) 193 0) 195 0) 197 0) 199 0) 199 2) 199 3) 199 4) 199 5) 199 6) 199 7) 199 8) 199 9) 199 11) 199 12) 199 13) 199 14) 199 15) 199 16) 199 24) 199 28) 199 34) 199 51)
def kEnd : Nat → Nat := (va_up (va_up (va_up (va_up (va_up (va_up (va_up (va_up (va_up (va_up (va_up (va_up (va_up (va_up (va_up (va_up (va_up (va_up (va_up (va_up (va_up (va_up (va_up (va_up (va_up (va_up (va_up (va_up (va_up (va_up (va_up (va_up (va_up (va_up (va_up (va_up (va_up (va_up (va_up (va_up (va_up (va_up (va_up (va_up (va_up (va_up (va_up (va_up (va_up (va_up (va_up (va_up (va_up (va_up (va_up (va_up (va_up (va_up (va_up (va_up (va_up (va_up (va_up (va_up (va_up (va_up (va_up (va_up (va_up (va_up (va_up (va_up (va_up (va_up (va_up (va_up (va_up (va_up (va_up (va_up (fun _ => 0) 24 1) 24 2) 24 3) 24 4) 5 1) 35 1) 35 2) 35 3) 35 4) 5 2) 46 1) 46 2) 46 3) 46 4) 5 3) 57 1) 57 2) 57 3) 57 4) 5 4) 68 1) 68 2) 68 3) 68 4) 5 5) 79 1) 79 2) 79 3) 79 4) 5 6) 90 1) 90 2) 90 3) 90 4) 5 7) 101 1) 101 2) 101 3) 101 4) 5 8) 112 1) 112 2) 112 3) 112 4) 5 9) 123 1) 123 2) 123 3) 123 4) 5 10) 134 1) 134 2) 134 3) 134 4) 5 11) 145 1) 145 2) 145 3) 145 4) 5 12) 156 1) 156 2) 156 3) 156 4) 5 13) 167 1) 167 2) 167 3) 167 4) 5 14) 178 1) 178 2) 178 3) 178 4) 5 15) 189 1) 189 2) 189 3) 189 4) 5 16)
noncomputable def sEnd : gS := (pf (pf (pf (pf (pf (pf (pf (pf (pf (pf (pf (pf (pf (pf (pf (pf (pf (pf (pf (pf (pf (pf (pf (pf (pf (pf (pf (pf (pf (pf (pf (pf (pf (pf (pf (va_up (pf (pf (pf (pf (pf (pf (pf (pf (pf (pf (pf (pf (pf (pf (pf (pf (pf (pf (pf (pf (pf (pf (pf (pf (pf (pf (pf (pf (pf (pf (pf (pf (pf (fun _ _ => 0) 0 4 (-1 : Int32)) 0 5 (-1 : Int32)) 0 6 (-1 : Int32)) 0 11 (1 : Int32)) 15 2 (1 : Int32)) 15 4 (-1 : Int32)) 15 6 (1 : Int32)) 20 0 (-1 : Int32)) 19 1 (0 : Int32)) 19 2 (0 : Int32)) 19 3 (-1 : Int32)) 19 4 (-1 : Int32)) 22 0 (-1 : Int32)) 21 1 (0 : Int32)) 21 2 (8 : Int32)) 21 3 (-1 : Int32)) 21 4 (-1 : Int32)) 23 2 (1 : Int32)) 34 2 (1 : Int32)) 45 2 (1 : Int32)) 56 2 (1 : Int32)) 67 2 (1 : Int32)) 78 2 (1 : Int32)) 89 2 (1 : Int32)) 100 2 (1 : Int32)) 111 2 (1 : Int32)) 122 2 (1 : Int32)) 133 2 (1 : Int32)) 144 2 (1 : Int32)) 155 2 (1 : Int32)) 166 2 (1 : Int32)) 177 2 (1 : Int32)) 188 2 (1 : Int32)) 6 (va_cpy (tab 0) ((pf (pf (pf (pf (pf (pf (pf (pf (pf (pf (pf (pf (pf (pf (pf (pf (pf (pf (pf (pf (pf (pf (pf (pf (pf (pf (pf (pf (pf (pf (pf (pf (pf (fun _ _ => 0) 0 4 (-1 : Int32)) 0 5 (-1 : Int32)) 0 6 (-1 : Int32)) 0 11 (1 : Int32)) 15 2 (1 : Int32)) 15 4 (-1 : Int32)) 15 6 (1 : Int32)) 20 0 (-1 : Int32)) 19 1 (0 : Int32)) 19 2 (0 : Int32)) 19 3 (-1 : Int32)) 19 4 (-1 : Int32)) 22 0 (-1 : Int32)) 21 1 (0 : Int32)) 21 2 (8 : Int32)) 21 3 (-1 : Int32)) 21 4 (-1 : Int32)) 23 2 (1 : Int32)) 34 2 (1 : Int32)) 45 2 (1 : Int32)) 56 2 (1 : Int32)) 67 2 (1 : Int32)) 78 2 (1 : Int32)) 89 2 (1 : Int32)) 100 2 (1 : Int32)) 111 2 (1 : Int32)) 122 2 (1 : Int32)) 133 2 (1 : Int32)) 144 2 (1 : Int32)) 155 2 (1 : Int32)) 166 2 (1 : Int32)) 177 2 (1 : Int32)) 188 2 (1 : Int32)) 6) (ix (0 : Int32)) (ix (0 : Int32)) (ix (9 : Int32)))) 212 (ix (0 : Int32)) (1 : Int32)) 212 (ix ((0 : Int32) + Int32.ofInt (1))) (1 : Int32)) 212 (ix (((0 : Int32) + Int32.ofInt (1)) + Int32.ofInt (1))) (1 : Int32)) 212 (ix ((((0 : Int32) + Int32.ofInt (1)) + Int32.ofInt (1)) + Int32.ofInt (1))) (1 : Int32)) 212 (ix (((((0 : Int32) + Int32.ofInt (1)) + Int32.ofInt (1)) + Int32.ofInt (1)) + Int32.ofInt (1))) (1 : Int32)) 212 (ix ((((((0 : Int32) + Int32.ofInt (1)) + Int32.ofInt (1)) + Int32.ofInt (1)) + Int32.ofInt (1)) + Int32.ofInt (1))) (1 : Int32)) 212 (ix (((((((0 : Int32) + Int32.ofInt (1)) + Int32.ofInt (1)) + Int32.ofInt (1)) + Int32.ofInt (1)) + Int32.ofInt (1)) + Int32.ofInt (1))) (1 : Int32)) 212 (ix ((((((((0 : Int32) + Int32.ofInt (1)) + Int32.ofInt (1)) + Int32.ofInt (1)) + Int32.ofInt (1)) + Int32.ofInt (1)) + Int32.ofInt (1)) + Int32.ofInt (1))) (1 : Int32)) 212 (ix (((((((((0 : Int32) + Int32.ofInt (1)) + Int32.ofInt (1)) + Int32.ofInt (1)) + Int32.ofInt (1)) + Int32.ofInt (1)) + Int32.ofInt (1)) + Int32.ofInt (1)) + Int32.ofInt (1))) (1 : Int32)) 212 (ix ((((((((((0 : Int32) + Int32.ofInt (1)) + Int32.ofInt (1)) + Int32.ofInt (1)) + Int32.ofInt (1)) + Int32.ofInt (1)) + Int32.ofInt (1)) + Int32.ofInt (1)) + Int32.ofInt (1)) + Int32.ofInt (1))) (1 : Int32)) 212 (ix (((((((((((0 : Int32) + Int32.ofInt (1)) + Int32.ofInt (1)) + Int32.ofInt (1)) + Int32.ofInt (1)) + Int32.ofInt (1)) + Int32.ofInt (1)) + Int32.ofInt (1)) + Int32.ofInt (1)) + Int32.ofInt (1)) + Int32.ofInt (1))) (1 : Int32)) 212 (ix ((((((((((((0 : Int32) + Int32.ofInt (1)) + Int32.ofInt (1)) + Int32.ofInt (1)) + Int32.ofInt (1)) + Int32.ofInt (1)) + Int32.ofInt (1)) + Int32.ofInt (1)) + Int32.ofInt (1)) + Int32.ofInt (1)) + Int32.ofInt (1)) + Int32.ofInt (1))) (1 : Int32)) 212 (ix (((((((((((((0 : Int32) + Int32.ofInt (1)) + Int32.ofInt (1)) + Int32.ofInt (1)) + Int32.ofInt (1)) + Int32.ofInt (1)) + Int32.ofInt (1)) + Int32.ofInt (1)) + Int32.ofInt (1)) + Int32.ofInt (1)) + Int32.ofInt (1)) + Int32.ofInt (1)) + Int32.ofInt (1))) (1 : Int32)) 212 (ix ((((((((((((((0 : Int32) + Int32.ofInt (1)) + Int32.ofInt (1)) + Int32.ofInt (1)) + Int32.ofInt (1)) + Int32.ofInt (1)) + Int32.ofInt (1)) + Int32.ofInt (1)) + Int32.ofInt (1)) + Int32.ofInt (1)) + Int32.ofInt (1)) + Int32.ofInt (1)) + Int32.ofInt (1)) + Int32.ofInt (1))) (1 : Int32)) 212 (ix (((((((((((((((0 : Int32) + Int32.ofInt (1)) + Int32.ofInt (1)) + Int32.ofInt (1)) + Int32.ofInt (1)) + Int32.ofInt (1)) + Int32.ofInt (1)) + Int32.ofInt (1)) + Int32.ofInt (1)) + Int32.ofInt (1)) + Int32.ofInt (1)) + Int32.ofInt (1)) + Int32.ofInt (1)) + Int32.ofInt (1)) + Int32.ofInt (1))) (1 : Int32)) 212 (ix ((((((((((((((((0 : Int32) + Int32.ofInt (1)) + Int32.ofInt (1)) + Int32.ofInt (1)) + Int32.ofInt (1)) + Int32.ofInt (1)) + Int32.ofInt (1)) + Int32.ofInt (1)) + Int32.ofInt (1)) + Int32.ofInt (1)) + Int32.ofInt (1)) + Int32.ofInt (1)) + Int32.ofInt (1)) + Int32.ofInt (1)) + Int32.ofInt (1)) + Int32.ofInt (1))) (1 : Int32)) 199 20 (-1 : Int32)) 199 21 (-1 : Int32)) 199 22 (-1 : Int32)) 199 25 (-1 : Int32)) 199 41 (8 : Int32)) 199 48 (-1 : Int32)) 199 18 (-1 : Int32)) 199 43 (-1 : Int32)) 199 47 (-1 : Int32)) 199 27 (-1 : Int32)) 217 (ix (0 : Int32)) (15 : Int32)) 217 (ix (1 : Int32)) (10 : Int32)) 217 (ix (2 : Int32)) (20 : Int32)) 217 (ix (3 : Int32)) (10 : Int32)) 217 (ix (4 : Int32)) (200 : Int32)) 217 (ix (5 : Int32)) (0 : Int32)) 217 (ix (6 : Int32)) (12 : Int32)) 217 (ix (7 : Int32)) (0 : Int32)) 217 (ix (8 : Int32)) (999 : Int32))
def zEnd : gQ := (vp_updL (vp_updL (fun _ => 0) 30 (1 : Int64)) 53 (1 : Int64))
theorem ce_0 (σ : gS) (ζ : gQ) : cN mEnd kEnd σ ζ 0 = cE σ ζ 0 := by
  show (.inr (9, [rfm (mEnd 0 0) 1, rfm (mEnd 0 1) 3, .int (σ 0 2), rfm (mEnd 0 3) 5, .int (σ 0 4), .int (σ 0 5), .int (σ 0 6), .int (σ 0 7), .int (σ 0 8), .int (σ 0 9), .int (σ 0 10), .int (σ 0 11), rfm (mEnd 0 12) 6, rfm (mEnd 0 13) 7, rfm (mEnd 0 14) 12, rfm (mEnd 0 15) 15, rfm (mEnd 0 16) 18, rfm (mEnd 0 17) 19, rfm (mEnd 0 18) 21]) : va_E) = _
  rw [show mEnd 0 0 = true by decide +kernel, show mEnd 0 1 = true by decide +kernel, show mEnd 0 3 = true by decide +kernel, show mEnd 0 12 = true by decide +kernel, show mEnd 0 13 = true by decide +kernel, show mEnd 0 14 = true by decide +kernel, show mEnd 0 15 = true by decide +kernel, show mEnd 0 16 = true by decide +kernel, show mEnd 0 17 = true by decide +kernel, show mEnd 0 18 = true by decide +kernel]
  rfl
theorem ce_1 (σ : gS) (ζ : gQ) : cN mEnd kEnd σ ζ 1 = cE σ ζ 1 := by
  show (.inr (0, [rfm (mEnd 1 0) 2, .int (σ 1 1)]) : va_E) = _
  rw [show mEnd 1 0 = true by decide +kernel]
  rfl
theorem ce_2 (σ : gS) (ζ : gQ) : cN mEnd kEnd σ ζ 2 = cE σ ζ 2 := rfl
theorem ce_3 (σ : gS) (ζ : gQ) : cN mEnd kEnd σ ζ 3 = cE σ ζ 3 := by
  show (.inr (0, [rfm (mEnd 3 0) 4, .int (σ 3 1)]) : va_E) = _
  rw [show mEnd 3 0 = true by decide +kernel]
  rfl
theorem ce_4 (σ : gS) (ζ : gQ) : cN mEnd kEnd σ ζ 4 = cE σ ζ 4 := rfl
theorem ce_5 (σ : gS) (ζ : gQ) : cN mEnd kEnd σ ζ 5 = cE σ ζ 5 := by
  show (.inl (3, 16, .inr (.inr (.inr (.inr (fun c => if c < kEnd 5 then some (23 + 11 * c) else none))))) : va_E) = _
  rw [show kEnd 5 = 16 by decide +kernel]
  rfl
theorem ce_6 (σ : gS) (ζ : gQ) : cN mEnd kEnd σ ζ 6 = cE σ ζ 6 := rfl
theorem ce_7 (σ : gS) (ζ : gQ) : cN mEnd kEnd σ ζ 7 = cE σ ζ 7 := by
  show (.inr (7, [rfm (mEnd 7 0) 8, rfm (mEnd 7 1) 9, rfm (mEnd 7 2) 10, rfm (mEnd 7 3) 11]) : va_E) = _
  rw [show mEnd 7 0 = true by decide +kernel, show mEnd 7 1 = true by decide +kernel, show mEnd 7 2 = true by decide +kernel, show mEnd 7 3 = true by decide +kernel]
  rfl
theorem ce_8 (σ : gS) (ζ : gQ) : cN mEnd kEnd σ ζ 8 = cE σ ζ 8 := rfl
theorem ce_9 (σ : gS) (ζ : gQ) : cN mEnd kEnd σ ζ 9 = cE σ ζ 9 := rfl
theorem ce_10 (σ : gS) (ζ : gQ) : cN mEnd kEnd σ ζ 10 = cE σ ζ 10 := rfl
theorem ce_11 (σ : gS) (ζ : gQ) : cN mEnd kEnd σ ζ 11 = cE σ ζ 11 := rfl
theorem ce_12 (σ : gS) (ζ : gQ) : cN mEnd kEnd σ ζ 12 = cE σ ζ 12 := by
  show (.inr (4, [rfm (mEnd 12 0) 13, rfm (mEnd 12 1) 14, .int (σ 12 2)]) : va_E) = _
  rw [show mEnd 12 0 = true by decide +kernel, show mEnd 12 1 = true by decide +kernel]
  rfl
theorem ce_13 (σ : gS) (ζ : gQ) : cN mEnd kEnd σ ζ 13 = cE σ ζ 13 := rfl
theorem ce_14 (σ : gS) (ζ : gQ) : cN mEnd kEnd σ ζ 14 = cE σ ζ 14 := rfl
theorem ce_15 (σ : gS) (ζ : gQ) : cN mEnd kEnd σ ζ 15 = cE σ ζ 15 := by
  show (.inr (3, [rfm (mEnd 15 0) 16, .int (σ 15 1), .int (σ 15 2), .int (σ 15 3), .int (σ 15 4), .int (σ 15 5), .int (σ 15 6)]) : va_E) = _
  rw [show mEnd 15 0 = true by decide +kernel]
  rfl
theorem ce_16 (σ : gS) (ζ : gQ) : cN mEnd kEnd σ ζ 16 = cE σ ζ 16 := by
  show (.inr (0, [rfm (mEnd 16 0) 17, .int (σ 16 1)]) : va_E) = _
  rw [show mEnd 16 0 = true by decide +kernel]
  rfl
theorem ce_17 (σ : gS) (ζ : gQ) : cN mEnd kEnd σ ζ 17 = cE σ ζ 17 := rfl
theorem ce_18 (σ : gS) (ζ : gQ) : cN mEnd kEnd σ ζ 18 = cE σ ζ 18 := rfl
theorem ce_19 (σ : gS) (ζ : gQ) : cN mEnd kEnd σ ζ 19 = cE σ ζ 19 := by
  show (.inr (6, [rfm (mEnd 19 0) 20, .int (σ 19 1), .int (σ 19 2), .int (σ 19 3), .int (σ 19 4), .int (σ 19 5)]) : va_E) = _
  rw [show mEnd 19 0 = true by decide +kernel]
  rfl
theorem ce_20 (σ : gS) (ζ : gQ) : cN mEnd kEnd σ ζ 20 = cE σ ζ 20 := rfl
theorem ce_21 (σ : gS) (ζ : gQ) : cN mEnd kEnd σ ζ 21 = cE σ ζ 21 := by
  show (.inr (2, [rfm (mEnd 21 0) 22, .int (σ 21 1), .int (σ 21 2), .int (σ 21 3), .int (σ 21 4), .int (σ 21 5), .int (σ 21 6), .int (σ 21 7)]) : va_E) = _
  rw [show mEnd 21 0 = true by decide +kernel]
  rfl
theorem ce_22 (σ : gS) (ζ : gQ) : cN mEnd kEnd σ ζ 22 = cE σ ζ 22 := rfl
theorem ce_23 (σ : gS) (ζ : gQ) : cN mEnd kEnd σ ζ 23 = cE σ ζ 23 := by
  show (.inr (1, [rfm (mEnd 23 0) 24, rfm (mEnd 23 1) 25, .int (σ 23 2)]) : va_E) = _
  rw [show mEnd 23 0 = true by decide +kernel, show mEnd 23 1 = true by decide +kernel]
  rfl
theorem ce_24 (σ : gS) (ζ : gQ) : cN mEnd kEnd σ ζ 24 = cE σ ζ 24 := by
  show (.inl (4, 4, .inr (.inr (.inr (.inr (fun c => if c < kEnd 24 then some (24 + 2 + 2 * c) else none))))) : va_E) = _
  rw [show kEnd 24 = 4 by decide +kernel]
  rfl
theorem ce_25 (σ : gS) (ζ : gQ) : cN mEnd kEnd σ ζ 25 = cE σ ζ 25 := rfl
theorem ce_26 (σ : gS) (ζ : gQ) : cN mEnd kEnd σ ζ 26 = cE σ ζ 26 := by
  show (.inr (0, [rfm (mEnd 26 0) 27, .int (σ 26 1)]) : va_E) = _
  rw [show mEnd 26 0 = true by decide +kernel]
  rfl
theorem ce_27 (σ : gS) (ζ : gQ) : cN mEnd kEnd σ ζ 27 = cE σ ζ 27 := rfl
theorem ce_28 (σ : gS) (ζ : gQ) : cN mEnd kEnd σ ζ 28 = cE σ ζ 28 := by
  show (.inr (0, [rfm (mEnd 28 0) 29, .int (σ 28 1)]) : va_E) = _
  rw [show mEnd 28 0 = true by decide +kernel]
  rfl
theorem ce_29 (σ : gS) (ζ : gQ) : cN mEnd kEnd σ ζ 29 = cE σ ζ 29 := rfl
theorem ce_30 (σ : gS) (ζ : gQ) : cN mEnd kEnd σ ζ 30 = cE σ ζ 30 := by
  show (.inr (0, [rfm (mEnd 30 0) 31, .int (σ 30 1)]) : va_E) = _
  rw [show mEnd 30 0 = true by decide +kernel]
  rfl
theorem ce_31 (σ : gS) (ζ : gQ) : cN mEnd kEnd σ ζ 31 = cE σ ζ 31 := rfl
theorem ce_32 (σ : gS) (ζ : gQ) : cN mEnd kEnd σ ζ 32 = cE σ ζ 32 := by
  show (.inr (0, [rfm (mEnd 32 0) 33, .int (σ 32 1)]) : va_E) = _
  rw [show mEnd 32 0 = true by decide +kernel]
  rfl
theorem ce_33 (σ : gS) (ζ : gQ) : cN mEnd kEnd σ ζ 33 = cE σ ζ 33 := rfl
theorem ce_34 (σ : gS) (ζ : gQ) : cN mEnd kEnd σ ζ 34 = cE σ ζ 34 := by
  show (.inr (1, [rfm (mEnd 34 0) 35, rfm (mEnd 34 1) 36, .int (σ 34 2)]) : va_E) = _
  rw [show mEnd 34 0 = true by decide +kernel, show mEnd 34 1 = true by decide +kernel]
  rfl
theorem ce_35 (σ : gS) (ζ : gQ) : cN mEnd kEnd σ ζ 35 = cE σ ζ 35 := by
  show (.inl (4, 4, .inr (.inr (.inr (.inr (fun c => if c < kEnd 35 then some (35 + 2 + 2 * c) else none))))) : va_E) = _
  rw [show kEnd 35 = 4 by decide +kernel]
  rfl
theorem ce_36 (σ : gS) (ζ : gQ) : cN mEnd kEnd σ ζ 36 = cE σ ζ 36 := rfl
theorem ce_37 (σ : gS) (ζ : gQ) : cN mEnd kEnd σ ζ 37 = cE σ ζ 37 := by
  show (.inr (0, [rfm (mEnd 37 0) 38, .int (σ 37 1)]) : va_E) = _
  rw [show mEnd 37 0 = true by decide +kernel]
  rfl
theorem ce_38 (σ : gS) (ζ : gQ) : cN mEnd kEnd σ ζ 38 = cE σ ζ 38 := rfl
theorem ce_39 (σ : gS) (ζ : gQ) : cN mEnd kEnd σ ζ 39 = cE σ ζ 39 := by
  show (.inr (0, [rfm (mEnd 39 0) 40, .int (σ 39 1)]) : va_E) = _
  rw [show mEnd 39 0 = true by decide +kernel]
  rfl
theorem ce_40 (σ : gS) (ζ : gQ) : cN mEnd kEnd σ ζ 40 = cE σ ζ 40 := rfl
theorem ce_41 (σ : gS) (ζ : gQ) : cN mEnd kEnd σ ζ 41 = cE σ ζ 41 := by
  show (.inr (0, [rfm (mEnd 41 0) 42, .int (σ 41 1)]) : va_E) = _
  rw [show mEnd 41 0 = true by decide +kernel]
  rfl
theorem ce_42 (σ : gS) (ζ : gQ) : cN mEnd kEnd σ ζ 42 = cE σ ζ 42 := rfl
theorem ce_43 (σ : gS) (ζ : gQ) : cN mEnd kEnd σ ζ 43 = cE σ ζ 43 := by
  show (.inr (0, [rfm (mEnd 43 0) 44, .int (σ 43 1)]) : va_E) = _
  rw [show mEnd 43 0 = true by decide +kernel]
  rfl
theorem ce_44 (σ : gS) (ζ : gQ) : cN mEnd kEnd σ ζ 44 = cE σ ζ 44 := rfl
theorem ce_45 (σ : gS) (ζ : gQ) : cN mEnd kEnd σ ζ 45 = cE σ ζ 45 := by
  show (.inr (1, [rfm (mEnd 45 0) 46, rfm (mEnd 45 1) 47, .int (σ 45 2)]) : va_E) = _
  rw [show mEnd 45 0 = true by decide +kernel, show mEnd 45 1 = true by decide +kernel]
  rfl
theorem ce_46 (σ : gS) (ζ : gQ) : cN mEnd kEnd σ ζ 46 = cE σ ζ 46 := by
  show (.inl (4, 4, .inr (.inr (.inr (.inr (fun c => if c < kEnd 46 then some (46 + 2 + 2 * c) else none))))) : va_E) = _
  rw [show kEnd 46 = 4 by decide +kernel]
  rfl
theorem ce_47 (σ : gS) (ζ : gQ) : cN mEnd kEnd σ ζ 47 = cE σ ζ 47 := rfl
theorem ce_48 (σ : gS) (ζ : gQ) : cN mEnd kEnd σ ζ 48 = cE σ ζ 48 := by
  show (.inr (0, [rfm (mEnd 48 0) 49, .int (σ 48 1)]) : va_E) = _
  rw [show mEnd 48 0 = true by decide +kernel]
  rfl
theorem ce_49 (σ : gS) (ζ : gQ) : cN mEnd kEnd σ ζ 49 = cE σ ζ 49 := rfl
theorem ce_50 (σ : gS) (ζ : gQ) : cN mEnd kEnd σ ζ 50 = cE σ ζ 50 := by
  show (.inr (0, [rfm (mEnd 50 0) 51, .int (σ 50 1)]) : va_E) = _
  rw [show mEnd 50 0 = true by decide +kernel]
  rfl
theorem ce_51 (σ : gS) (ζ : gQ) : cN mEnd kEnd σ ζ 51 = cE σ ζ 51 := rfl
theorem ce_52 (σ : gS) (ζ : gQ) : cN mEnd kEnd σ ζ 52 = cE σ ζ 52 := by
  show (.inr (0, [rfm (mEnd 52 0) 53, .int (σ 52 1)]) : va_E) = _
  rw [show mEnd 52 0 = true by decide +kernel]
  rfl
theorem ce_53 (σ : gS) (ζ : gQ) : cN mEnd kEnd σ ζ 53 = cE σ ζ 53 := rfl
theorem ce_54 (σ : gS) (ζ : gQ) : cN mEnd kEnd σ ζ 54 = cE σ ζ 54 := by
  show (.inr (0, [rfm (mEnd 54 0) 55, .int (σ 54 1)]) : va_E) = _
  rw [show mEnd 54 0 = true by decide +kernel]
  rfl
theorem ce_55 (σ : gS) (ζ : gQ) : cN mEnd kEnd σ ζ 55 = cE σ ζ 55 := rfl
theorem ce_56 (σ : gS) (ζ : gQ) : cN mEnd kEnd σ ζ 56 = cE σ ζ 56 := by
  show (.inr (1, [rfm (mEnd 56 0) 57, rfm (mEnd 56 1) 58, .int (σ 56 2)]) : va_E) = _
  rw [show mEnd 56 0 = true by decide +kernel, show mEnd 56 1 = true by decide +kernel]
  rfl
theorem ce_57 (σ : gS) (ζ : gQ) : cN mEnd kEnd σ ζ 57 = cE σ ζ 57 := by
  show (.inl (4, 4, .inr (.inr (.inr (.inr (fun c => if c < kEnd 57 then some (57 + 2 + 2 * c) else none))))) : va_E) = _
  rw [show kEnd 57 = 4 by decide +kernel]
  rfl
theorem ce_58 (σ : gS) (ζ : gQ) : cN mEnd kEnd σ ζ 58 = cE σ ζ 58 := rfl
theorem ce_59 (σ : gS) (ζ : gQ) : cN mEnd kEnd σ ζ 59 = cE σ ζ 59 := by
  show (.inr (0, [rfm (mEnd 59 0) 60, .int (σ 59 1)]) : va_E) = _
  rw [show mEnd 59 0 = true by decide +kernel]
  rfl
theorem ce_60 (σ : gS) (ζ : gQ) : cN mEnd kEnd σ ζ 60 = cE σ ζ 60 := rfl
theorem ce_61 (σ : gS) (ζ : gQ) : cN mEnd kEnd σ ζ 61 = cE σ ζ 61 := by
  show (.inr (0, [rfm (mEnd 61 0) 62, .int (σ 61 1)]) : va_E) = _
  rw [show mEnd 61 0 = true by decide +kernel]
  rfl
theorem ce_62 (σ : gS) (ζ : gQ) : cN mEnd kEnd σ ζ 62 = cE σ ζ 62 := rfl
theorem ce_63 (σ : gS) (ζ : gQ) : cN mEnd kEnd σ ζ 63 = cE σ ζ 63 := by
  show (.inr (0, [rfm (mEnd 63 0) 64, .int (σ 63 1)]) : va_E) = _
  rw [show mEnd 63 0 = true by decide +kernel]
  rfl
theorem ce_64 (σ : gS) (ζ : gQ) : cN mEnd kEnd σ ζ 64 = cE σ ζ 64 := rfl
theorem ce_65 (σ : gS) (ζ : gQ) : cN mEnd kEnd σ ζ 65 = cE σ ζ 65 := by
  show (.inr (0, [rfm (mEnd 65 0) 66, .int (σ 65 1)]) : va_E) = _
  rw [show mEnd 65 0 = true by decide +kernel]
  rfl
theorem ce_66 (σ : gS) (ζ : gQ) : cN mEnd kEnd σ ζ 66 = cE σ ζ 66 := rfl
theorem ce_67 (σ : gS) (ζ : gQ) : cN mEnd kEnd σ ζ 67 = cE σ ζ 67 := by
  show (.inr (1, [rfm (mEnd 67 0) 68, rfm (mEnd 67 1) 69, .int (σ 67 2)]) : va_E) = _
  rw [show mEnd 67 0 = true by decide +kernel, show mEnd 67 1 = true by decide +kernel]
  rfl
theorem ce_68 (σ : gS) (ζ : gQ) : cN mEnd kEnd σ ζ 68 = cE σ ζ 68 := by
  show (.inl (4, 4, .inr (.inr (.inr (.inr (fun c => if c < kEnd 68 then some (68 + 2 + 2 * c) else none))))) : va_E) = _
  rw [show kEnd 68 = 4 by decide +kernel]
  rfl
theorem ce_69 (σ : gS) (ζ : gQ) : cN mEnd kEnd σ ζ 69 = cE σ ζ 69 := rfl
theorem ce_70 (σ : gS) (ζ : gQ) : cN mEnd kEnd σ ζ 70 = cE σ ζ 70 := by
  show (.inr (0, [rfm (mEnd 70 0) 71, .int (σ 70 1)]) : va_E) = _
  rw [show mEnd 70 0 = true by decide +kernel]
  rfl
theorem ce_71 (σ : gS) (ζ : gQ) : cN mEnd kEnd σ ζ 71 = cE σ ζ 71 := rfl
theorem ce_72 (σ : gS) (ζ : gQ) : cN mEnd kEnd σ ζ 72 = cE σ ζ 72 := by
  show (.inr (0, [rfm (mEnd 72 0) 73, .int (σ 72 1)]) : va_E) = _
  rw [show mEnd 72 0 = true by decide +kernel]
  rfl
theorem ce_73 (σ : gS) (ζ : gQ) : cN mEnd kEnd σ ζ 73 = cE σ ζ 73 := rfl
theorem ce_74 (σ : gS) (ζ : gQ) : cN mEnd kEnd σ ζ 74 = cE σ ζ 74 := by
  show (.inr (0, [rfm (mEnd 74 0) 75, .int (σ 74 1)]) : va_E) = _
  rw [show mEnd 74 0 = true by decide +kernel]
  rfl
theorem ce_75 (σ : gS) (ζ : gQ) : cN mEnd kEnd σ ζ 75 = cE σ ζ 75 := rfl
theorem ce_76 (σ : gS) (ζ : gQ) : cN mEnd kEnd σ ζ 76 = cE σ ζ 76 := by
  show (.inr (0, [rfm (mEnd 76 0) 77, .int (σ 76 1)]) : va_E) = _
  rw [show mEnd 76 0 = true by decide +kernel]
  rfl
theorem ce_77 (σ : gS) (ζ : gQ) : cN mEnd kEnd σ ζ 77 = cE σ ζ 77 := rfl
theorem ce_78 (σ : gS) (ζ : gQ) : cN mEnd kEnd σ ζ 78 = cE σ ζ 78 := by
  show (.inr (1, [rfm (mEnd 78 0) 79, rfm (mEnd 78 1) 80, .int (σ 78 2)]) : va_E) = _
  rw [show mEnd 78 0 = true by decide +kernel, show mEnd 78 1 = true by decide +kernel]
  rfl
theorem ce_79 (σ : gS) (ζ : gQ) : cN mEnd kEnd σ ζ 79 = cE σ ζ 79 := by
  show (.inl (4, 4, .inr (.inr (.inr (.inr (fun c => if c < kEnd 79 then some (79 + 2 + 2 * c) else none))))) : va_E) = _
  rw [show kEnd 79 = 4 by decide +kernel]
  rfl
theorem ce_80 (σ : gS) (ζ : gQ) : cN mEnd kEnd σ ζ 80 = cE σ ζ 80 := rfl
theorem ce_81 (σ : gS) (ζ : gQ) : cN mEnd kEnd σ ζ 81 = cE σ ζ 81 := by
  show (.inr (0, [rfm (mEnd 81 0) 82, .int (σ 81 1)]) : va_E) = _
  rw [show mEnd 81 0 = true by decide +kernel]
  rfl
theorem ce_82 (σ : gS) (ζ : gQ) : cN mEnd kEnd σ ζ 82 = cE σ ζ 82 := rfl
theorem ce_83 (σ : gS) (ζ : gQ) : cN mEnd kEnd σ ζ 83 = cE σ ζ 83 := by
  show (.inr (0, [rfm (mEnd 83 0) 84, .int (σ 83 1)]) : va_E) = _
  rw [show mEnd 83 0 = true by decide +kernel]
  rfl
theorem ce_84 (σ : gS) (ζ : gQ) : cN mEnd kEnd σ ζ 84 = cE σ ζ 84 := rfl
theorem ce_85 (σ : gS) (ζ : gQ) : cN mEnd kEnd σ ζ 85 = cE σ ζ 85 := by
  show (.inr (0, [rfm (mEnd 85 0) 86, .int (σ 85 1)]) : va_E) = _
  rw [show mEnd 85 0 = true by decide +kernel]
  rfl
theorem ce_86 (σ : gS) (ζ : gQ) : cN mEnd kEnd σ ζ 86 = cE σ ζ 86 := rfl
theorem ce_87 (σ : gS) (ζ : gQ) : cN mEnd kEnd σ ζ 87 = cE σ ζ 87 := by
  show (.inr (0, [rfm (mEnd 87 0) 88, .int (σ 87 1)]) : va_E) = _
  rw [show mEnd 87 0 = true by decide +kernel]
  rfl
theorem ce_88 (σ : gS) (ζ : gQ) : cN mEnd kEnd σ ζ 88 = cE σ ζ 88 := rfl
theorem ce_89 (σ : gS) (ζ : gQ) : cN mEnd kEnd σ ζ 89 = cE σ ζ 89 := by
  show (.inr (1, [rfm (mEnd 89 0) 90, rfm (mEnd 89 1) 91, .int (σ 89 2)]) : va_E) = _
  rw [show mEnd 89 0 = true by decide +kernel, show mEnd 89 1 = true by decide +kernel]
  rfl
theorem ce_90 (σ : gS) (ζ : gQ) : cN mEnd kEnd σ ζ 90 = cE σ ζ 90 := by
  show (.inl (4, 4, .inr (.inr (.inr (.inr (fun c => if c < kEnd 90 then some (90 + 2 + 2 * c) else none))))) : va_E) = _
  rw [show kEnd 90 = 4 by decide +kernel]
  rfl
theorem ce_91 (σ : gS) (ζ : gQ) : cN mEnd kEnd σ ζ 91 = cE σ ζ 91 := rfl
theorem ce_92 (σ : gS) (ζ : gQ) : cN mEnd kEnd σ ζ 92 = cE σ ζ 92 := by
  show (.inr (0, [rfm (mEnd 92 0) 93, .int (σ 92 1)]) : va_E) = _
  rw [show mEnd 92 0 = true by decide +kernel]
  rfl
theorem ce_93 (σ : gS) (ζ : gQ) : cN mEnd kEnd σ ζ 93 = cE σ ζ 93 := rfl
theorem ce_94 (σ : gS) (ζ : gQ) : cN mEnd kEnd σ ζ 94 = cE σ ζ 94 := by
  show (.inr (0, [rfm (mEnd 94 0) 95, .int (σ 94 1)]) : va_E) = _
  rw [show mEnd 94 0 = true by decide +kernel]
  rfl
theorem ce_95 (σ : gS) (ζ : gQ) : cN mEnd kEnd σ ζ 95 = cE σ ζ 95 := rfl
theorem ce_96 (σ : gS) (ζ : gQ) : cN mEnd kEnd σ ζ 96 = cE σ ζ 96 := by
  show (.inr (0, [rfm (mEnd 96 0) 97, .int (σ 96 1)]) : va_E) = _
  rw [show mEnd 96 0 = true by decide +kernel]
  rfl
theorem ce_97 (σ : gS) (ζ : gQ) : cN mEnd kEnd σ ζ 97 = cE σ ζ 97 := rfl
theorem ce_98 (σ : gS) (ζ : gQ) : cN mEnd kEnd σ ζ 98 = cE σ ζ 98 := by
  show (.inr (0, [rfm (mEnd 98 0) 99, .int (σ 98 1)]) : va_E) = _
  rw [show mEnd 98 0 = true by decide +kernel]
  rfl
theorem ce_99 (σ : gS) (ζ : gQ) : cN mEnd kEnd σ ζ 99 = cE σ ζ 99 := rfl
theorem ce_100 (σ : gS) (ζ : gQ) : cN mEnd kEnd σ ζ 100 = cE σ ζ 100 := by
  show (.inr (1, [rfm (mEnd 100 0) 101, rfm (mEnd 100 1) 102, .int (σ 100 2)]) : va_E) = _
  rw [show mEnd 100 0 = true by decide +kernel, show mEnd 100 1 = true by decide +kernel]
  rfl
theorem ce_101 (σ : gS) (ζ : gQ) : cN mEnd kEnd σ ζ 101 = cE σ ζ 101 := by
  show (.inl (4, 4, .inr (.inr (.inr (.inr (fun c => if c < kEnd 101 then some (101 + 2 + 2 * c) else none))))) : va_E) = _
  rw [show kEnd 101 = 4 by decide +kernel]
  rfl
theorem ce_102 (σ : gS) (ζ : gQ) : cN mEnd kEnd σ ζ 102 = cE σ ζ 102 := rfl
theorem ce_103 (σ : gS) (ζ : gQ) : cN mEnd kEnd σ ζ 103 = cE σ ζ 103 := by
  show (.inr (0, [rfm (mEnd 103 0) 104, .int (σ 103 1)]) : va_E) = _
  rw [show mEnd 103 0 = true by decide +kernel]
  rfl
theorem ce_104 (σ : gS) (ζ : gQ) : cN mEnd kEnd σ ζ 104 = cE σ ζ 104 := rfl
theorem ce_105 (σ : gS) (ζ : gQ) : cN mEnd kEnd σ ζ 105 = cE σ ζ 105 := by
  show (.inr (0, [rfm (mEnd 105 0) 106, .int (σ 105 1)]) : va_E) = _
  rw [show mEnd 105 0 = true by decide +kernel]
  rfl
theorem ce_106 (σ : gS) (ζ : gQ) : cN mEnd kEnd σ ζ 106 = cE σ ζ 106 := rfl
theorem ce_107 (σ : gS) (ζ : gQ) : cN mEnd kEnd σ ζ 107 = cE σ ζ 107 := by
  show (.inr (0, [rfm (mEnd 107 0) 108, .int (σ 107 1)]) : va_E) = _
  rw [show mEnd 107 0 = true by decide +kernel]
  rfl
theorem ce_108 (σ : gS) (ζ : gQ) : cN mEnd kEnd σ ζ 108 = cE σ ζ 108 := rfl
theorem ce_109 (σ : gS) (ζ : gQ) : cN mEnd kEnd σ ζ 109 = cE σ ζ 109 := by
  show (.inr (0, [rfm (mEnd 109 0) 110, .int (σ 109 1)]) : va_E) = _
  rw [show mEnd 109 0 = true by decide +kernel]
  rfl
theorem ce_110 (σ : gS) (ζ : gQ) : cN mEnd kEnd σ ζ 110 = cE σ ζ 110 := rfl
theorem ce_111 (σ : gS) (ζ : gQ) : cN mEnd kEnd σ ζ 111 = cE σ ζ 111 := by
  show (.inr (1, [rfm (mEnd 111 0) 112, rfm (mEnd 111 1) 113, .int (σ 111 2)]) : va_E) = _
  rw [show mEnd 111 0 = true by decide +kernel, show mEnd 111 1 = true by decide +kernel]
  rfl
theorem ce_112 (σ : gS) (ζ : gQ) : cN mEnd kEnd σ ζ 112 = cE σ ζ 112 := by
  show (.inl (4, 4, .inr (.inr (.inr (.inr (fun c => if c < kEnd 112 then some (112 + 2 + 2 * c) else none))))) : va_E) = _
  rw [show kEnd 112 = 4 by decide +kernel]
  rfl
theorem ce_113 (σ : gS) (ζ : gQ) : cN mEnd kEnd σ ζ 113 = cE σ ζ 113 := rfl
theorem ce_114 (σ : gS) (ζ : gQ) : cN mEnd kEnd σ ζ 114 = cE σ ζ 114 := by
  show (.inr (0, [rfm (mEnd 114 0) 115, .int (σ 114 1)]) : va_E) = _
  rw [show mEnd 114 0 = true by decide +kernel]
  rfl
theorem ce_115 (σ : gS) (ζ : gQ) : cN mEnd kEnd σ ζ 115 = cE σ ζ 115 := rfl
theorem ce_116 (σ : gS) (ζ : gQ) : cN mEnd kEnd σ ζ 116 = cE σ ζ 116 := by
  show (.inr (0, [rfm (mEnd 116 0) 117, .int (σ 116 1)]) : va_E) = _
  rw [show mEnd 116 0 = true by decide +kernel]
  rfl
theorem ce_117 (σ : gS) (ζ : gQ) : cN mEnd kEnd σ ζ 117 = cE σ ζ 117 := rfl
theorem ce_118 (σ : gS) (ζ : gQ) : cN mEnd kEnd σ ζ 118 = cE σ ζ 118 := by
  show (.inr (0, [rfm (mEnd 118 0) 119, .int (σ 118 1)]) : va_E) = _
  rw [show mEnd 118 0 = true by decide +kernel]
  rfl
theorem ce_119 (σ : gS) (ζ : gQ) : cN mEnd kEnd σ ζ 119 = cE σ ζ 119 := rfl
theorem ce_120 (σ : gS) (ζ : gQ) : cN mEnd kEnd σ ζ 120 = cE σ ζ 120 := by
  show (.inr (0, [rfm (mEnd 120 0) 121, .int (σ 120 1)]) : va_E) = _
  rw [show mEnd 120 0 = true by decide +kernel]
  rfl
theorem ce_121 (σ : gS) (ζ : gQ) : cN mEnd kEnd σ ζ 121 = cE σ ζ 121 := rfl
theorem ce_122 (σ : gS) (ζ : gQ) : cN mEnd kEnd σ ζ 122 = cE σ ζ 122 := by
  show (.inr (1, [rfm (mEnd 122 0) 123, rfm (mEnd 122 1) 124, .int (σ 122 2)]) : va_E) = _
  rw [show mEnd 122 0 = true by decide +kernel, show mEnd 122 1 = true by decide +kernel]
  rfl
theorem ce_123 (σ : gS) (ζ : gQ) : cN mEnd kEnd σ ζ 123 = cE σ ζ 123 := by
  show (.inl (4, 4, .inr (.inr (.inr (.inr (fun c => if c < kEnd 123 then some (123 + 2 + 2 * c) else none))))) : va_E) = _
  rw [show kEnd 123 = 4 by decide +kernel]
  rfl
theorem ce_124 (σ : gS) (ζ : gQ) : cN mEnd kEnd σ ζ 124 = cE σ ζ 124 := rfl
theorem ce_125 (σ : gS) (ζ : gQ) : cN mEnd kEnd σ ζ 125 = cE σ ζ 125 := by
  show (.inr (0, [rfm (mEnd 125 0) 126, .int (σ 125 1)]) : va_E) = _
  rw [show mEnd 125 0 = true by decide +kernel]
  rfl
theorem ce_126 (σ : gS) (ζ : gQ) : cN mEnd kEnd σ ζ 126 = cE σ ζ 126 := rfl
theorem ce_127 (σ : gS) (ζ : gQ) : cN mEnd kEnd σ ζ 127 = cE σ ζ 127 := by
  show (.inr (0, [rfm (mEnd 127 0) 128, .int (σ 127 1)]) : va_E) = _
  rw [show mEnd 127 0 = true by decide +kernel]
  rfl
theorem ce_128 (σ : gS) (ζ : gQ) : cN mEnd kEnd σ ζ 128 = cE σ ζ 128 := rfl
theorem ce_129 (σ : gS) (ζ : gQ) : cN mEnd kEnd σ ζ 129 = cE σ ζ 129 := by
  show (.inr (0, [rfm (mEnd 129 0) 130, .int (σ 129 1)]) : va_E) = _
  rw [show mEnd 129 0 = true by decide +kernel]
  rfl
theorem ce_130 (σ : gS) (ζ : gQ) : cN mEnd kEnd σ ζ 130 = cE σ ζ 130 := rfl
theorem ce_131 (σ : gS) (ζ : gQ) : cN mEnd kEnd σ ζ 131 = cE σ ζ 131 := by
  show (.inr (0, [rfm (mEnd 131 0) 132, .int (σ 131 1)]) : va_E) = _
  rw [show mEnd 131 0 = true by decide +kernel]
  rfl
theorem ce_132 (σ : gS) (ζ : gQ) : cN mEnd kEnd σ ζ 132 = cE σ ζ 132 := rfl
theorem ce_133 (σ : gS) (ζ : gQ) : cN mEnd kEnd σ ζ 133 = cE σ ζ 133 := by
  show (.inr (1, [rfm (mEnd 133 0) 134, rfm (mEnd 133 1) 135, .int (σ 133 2)]) : va_E) = _
  rw [show mEnd 133 0 = true by decide +kernel, show mEnd 133 1 = true by decide +kernel]
  rfl
theorem ce_134 (σ : gS) (ζ : gQ) : cN mEnd kEnd σ ζ 134 = cE σ ζ 134 := by
  show (.inl (4, 4, .inr (.inr (.inr (.inr (fun c => if c < kEnd 134 then some (134 + 2 + 2 * c) else none))))) : va_E) = _
  rw [show kEnd 134 = 4 by decide +kernel]
  rfl
theorem ce_135 (σ : gS) (ζ : gQ) : cN mEnd kEnd σ ζ 135 = cE σ ζ 135 := rfl
theorem ce_136 (σ : gS) (ζ : gQ) : cN mEnd kEnd σ ζ 136 = cE σ ζ 136 := by
  show (.inr (0, [rfm (mEnd 136 0) 137, .int (σ 136 1)]) : va_E) = _
  rw [show mEnd 136 0 = true by decide +kernel]
  rfl
theorem ce_137 (σ : gS) (ζ : gQ) : cN mEnd kEnd σ ζ 137 = cE σ ζ 137 := rfl
theorem ce_138 (σ : gS) (ζ : gQ) : cN mEnd kEnd σ ζ 138 = cE σ ζ 138 := by
  show (.inr (0, [rfm (mEnd 138 0) 139, .int (σ 138 1)]) : va_E) = _
  rw [show mEnd 138 0 = true by decide +kernel]
  rfl
theorem ce_139 (σ : gS) (ζ : gQ) : cN mEnd kEnd σ ζ 139 = cE σ ζ 139 := rfl
theorem ce_140 (σ : gS) (ζ : gQ) : cN mEnd kEnd σ ζ 140 = cE σ ζ 140 := by
  show (.inr (0, [rfm (mEnd 140 0) 141, .int (σ 140 1)]) : va_E) = _
  rw [show mEnd 140 0 = true by decide +kernel]
  rfl
theorem ce_141 (σ : gS) (ζ : gQ) : cN mEnd kEnd σ ζ 141 = cE σ ζ 141 := rfl
theorem ce_142 (σ : gS) (ζ : gQ) : cN mEnd kEnd σ ζ 142 = cE σ ζ 142 := by
  show (.inr (0, [rfm (mEnd 142 0) 143, .int (σ 142 1)]) : va_E) = _
  rw [show mEnd 142 0 = true by decide +kernel]
  rfl
theorem ce_143 (σ : gS) (ζ : gQ) : cN mEnd kEnd σ ζ 143 = cE σ ζ 143 := rfl
theorem ce_144 (σ : gS) (ζ : gQ) : cN mEnd kEnd σ ζ 144 = cE σ ζ 144 := by
  show (.inr (1, [rfm (mEnd 144 0) 145, rfm (mEnd 144 1) 146, .int (σ 144 2)]) : va_E) = _
  rw [show mEnd 144 0 = true by decide +kernel, show mEnd 144 1 = true by decide +kernel]
  rfl
theorem ce_145 (σ : gS) (ζ : gQ) : cN mEnd kEnd σ ζ 145 = cE σ ζ 145 := by
  show (.inl (4, 4, .inr (.inr (.inr (.inr (fun c => if c < kEnd 145 then some (145 + 2 + 2 * c) else none))))) : va_E) = _
  rw [show kEnd 145 = 4 by decide +kernel]
  rfl
theorem ce_146 (σ : gS) (ζ : gQ) : cN mEnd kEnd σ ζ 146 = cE σ ζ 146 := rfl
theorem ce_147 (σ : gS) (ζ : gQ) : cN mEnd kEnd σ ζ 147 = cE σ ζ 147 := by
  show (.inr (0, [rfm (mEnd 147 0) 148, .int (σ 147 1)]) : va_E) = _
  rw [show mEnd 147 0 = true by decide +kernel]
  rfl
theorem ce_148 (σ : gS) (ζ : gQ) : cN mEnd kEnd σ ζ 148 = cE σ ζ 148 := rfl
theorem ce_149 (σ : gS) (ζ : gQ) : cN mEnd kEnd σ ζ 149 = cE σ ζ 149 := by
  show (.inr (0, [rfm (mEnd 149 0) 150, .int (σ 149 1)]) : va_E) = _
  rw [show mEnd 149 0 = true by decide +kernel]
  rfl
theorem ce_150 (σ : gS) (ζ : gQ) : cN mEnd kEnd σ ζ 150 = cE σ ζ 150 := rfl
theorem ce_151 (σ : gS) (ζ : gQ) : cN mEnd kEnd σ ζ 151 = cE σ ζ 151 := by
  show (.inr (0, [rfm (mEnd 151 0) 152, .int (σ 151 1)]) : va_E) = _
  rw [show mEnd 151 0 = true by decide +kernel]
  rfl
theorem ce_152 (σ : gS) (ζ : gQ) : cN mEnd kEnd σ ζ 152 = cE σ ζ 152 := rfl
theorem ce_153 (σ : gS) (ζ : gQ) : cN mEnd kEnd σ ζ 153 = cE σ ζ 153 := by
  show (.inr (0, [rfm (mEnd 153 0) 154, .int (σ 153 1)]) : va_E) = _
  rw [show mEnd 153 0 = true by decide +kernel]
  rfl
theorem ce_154 (σ : gS) (ζ : gQ) : cN mEnd kEnd σ ζ 154 = cE σ ζ 154 := rfl
theorem ce_155 (σ : gS) (ζ : gQ) : cN mEnd kEnd σ ζ 155 = cE σ ζ 155 := by
  show (.inr (1, [rfm (mEnd 155 0) 156, rfm (mEnd 155 1) 157, .int (σ 155 2)]) : va_E) = _
  rw [show mEnd 155 0 = true by decide +kernel, show mEnd 155 1 = true by decide +kernel]
  rfl
theorem ce_156 (σ : gS) (ζ : gQ) : cN mEnd kEnd σ ζ 156 = cE σ ζ 156 := by
  show (.inl (4, 4, .inr (.inr (.inr (.inr (fun c => if c < kEnd 156 then some (156 + 2 + 2 * c) else none))))) : va_E) = _
  rw [show kEnd 156 = 4 by decide +kernel]
  rfl
theorem ce_157 (σ : gS) (ζ : gQ) : cN mEnd kEnd σ ζ 157 = cE σ ζ 157 := rfl
theorem ce_158 (σ : gS) (ζ : gQ) : cN mEnd kEnd σ ζ 158 = cE σ ζ 158 := by
  show (.inr (0, [rfm (mEnd 158 0) 159, .int (σ 158 1)]) : va_E) = _
  rw [show mEnd 158 0 = true by decide +kernel]
  rfl
theorem ce_159 (σ : gS) (ζ : gQ) : cN mEnd kEnd σ ζ 159 = cE σ ζ 159 := rfl
theorem ce_160 (σ : gS) (ζ : gQ) : cN mEnd kEnd σ ζ 160 = cE σ ζ 160 := by
  show (.inr (0, [rfm (mEnd 160 0) 161, .int (σ 160 1)]) : va_E) = _
  rw [show mEnd 160 0 = true by decide +kernel]
  rfl
theorem ce_161 (σ : gS) (ζ : gQ) : cN mEnd kEnd σ ζ 161 = cE σ ζ 161 := rfl
theorem ce_162 (σ : gS) (ζ : gQ) : cN mEnd kEnd σ ζ 162 = cE σ ζ 162 := by
  show (.inr (0, [rfm (mEnd 162 0) 163, .int (σ 162 1)]) : va_E) = _
  rw [show mEnd 162 0 = true by decide +kernel]
  rfl
theorem ce_163 (σ : gS) (ζ : gQ) : cN mEnd kEnd σ ζ 163 = cE σ ζ 163 := rfl
theorem ce_164 (σ : gS) (ζ : gQ) : cN mEnd kEnd σ ζ 164 = cE σ ζ 164 := by
  show (.inr (0, [rfm (mEnd 164 0) 165, .int (σ 164 1)]) : va_E) = _
  rw [show mEnd 164 0 = true by decide +kernel]
  rfl
theorem ce_165 (σ : gS) (ζ : gQ) : cN mEnd kEnd σ ζ 165 = cE σ ζ 165 := rfl
theorem ce_166 (σ : gS) (ζ : gQ) : cN mEnd kEnd σ ζ 166 = cE σ ζ 166 := by
  show (.inr (1, [rfm (mEnd 166 0) 167, rfm (mEnd 166 1) 168, .int (σ 166 2)]) : va_E) = _
  rw [show mEnd 166 0 = true by decide +kernel, show mEnd 166 1 = true by decide +kernel]
  rfl
theorem ce_167 (σ : gS) (ζ : gQ) : cN mEnd kEnd σ ζ 167 = cE σ ζ 167 := by
  show (.inl (4, 4, .inr (.inr (.inr (.inr (fun c => if c < kEnd 167 then some (167 + 2 + 2 * c) else none))))) : va_E) = _
  rw [show kEnd 167 = 4 by decide +kernel]
  rfl
theorem ce_168 (σ : gS) (ζ : gQ) : cN mEnd kEnd σ ζ 168 = cE σ ζ 168 := rfl
theorem ce_169 (σ : gS) (ζ : gQ) : cN mEnd kEnd σ ζ 169 = cE σ ζ 169 := by
  show (.inr (0, [rfm (mEnd 169 0) 170, .int (σ 169 1)]) : va_E) = _
  rw [show mEnd 169 0 = true by decide +kernel]
  rfl
theorem ce_170 (σ : gS) (ζ : gQ) : cN mEnd kEnd σ ζ 170 = cE σ ζ 170 := rfl
theorem ce_171 (σ : gS) (ζ : gQ) : cN mEnd kEnd σ ζ 171 = cE σ ζ 171 := by
  show (.inr (0, [rfm (mEnd 171 0) 172, .int (σ 171 1)]) : va_E) = _
  rw [show mEnd 171 0 = true by decide +kernel]
  rfl
theorem ce_172 (σ : gS) (ζ : gQ) : cN mEnd kEnd σ ζ 172 = cE σ ζ 172 := rfl
theorem ce_173 (σ : gS) (ζ : gQ) : cN mEnd kEnd σ ζ 173 = cE σ ζ 173 := by
  show (.inr (0, [rfm (mEnd 173 0) 174, .int (σ 173 1)]) : va_E) = _
  rw [show mEnd 173 0 = true by decide +kernel]
  rfl
theorem ce_174 (σ : gS) (ζ : gQ) : cN mEnd kEnd σ ζ 174 = cE σ ζ 174 := rfl
theorem ce_175 (σ : gS) (ζ : gQ) : cN mEnd kEnd σ ζ 175 = cE σ ζ 175 := by
  show (.inr (0, [rfm (mEnd 175 0) 176, .int (σ 175 1)]) : va_E) = _
  rw [show mEnd 175 0 = true by decide +kernel]
  rfl
theorem ce_176 (σ : gS) (ζ : gQ) : cN mEnd kEnd σ ζ 176 = cE σ ζ 176 := rfl
theorem ce_177 (σ : gS) (ζ : gQ) : cN mEnd kEnd σ ζ 177 = cE σ ζ 177 := by
  show (.inr (1, [rfm (mEnd 177 0) 178, rfm (mEnd 177 1) 179, .int (σ 177 2)]) : va_E) = _
  rw [show mEnd 177 0 = true by decide +kernel, show mEnd 177 1 = true by decide +kernel]
  rfl
theorem ce_178 (σ : gS) (ζ : gQ) : cN mEnd kEnd σ ζ 178 = cE σ ζ 178 := by
  show (.inl (4, 4, .inr (.inr (.inr (.inr (fun c => if c < kEnd 178 then some (178 + 2 + 2 * c) else none))))) : va_E) = _
  rw [show kEnd 178 = 4 by decide +kernel]
  rfl
theorem ce_179 (σ : gS) (ζ : gQ) : cN mEnd kEnd σ ζ 179 = cE σ ζ 179 := rfl
theorem ce_180 (σ : gS) (ζ : gQ) : cN mEnd kEnd σ ζ 180 = cE σ ζ 180 := by
  show (.inr (0, [rfm (mEnd 180 0) 181, .int (σ 180 1)]) : va_E) = _
  rw [show mEnd 180 0 = true by decide +kernel]
  rfl
theorem ce_181 (σ : gS) (ζ : gQ) : cN mEnd kEnd σ ζ 181 = cE σ ζ 181 := rfl
theorem ce_182 (σ : gS) (ζ : gQ) : cN mEnd kEnd σ ζ 182 = cE σ ζ 182 := by
  show (.inr (0, [rfm (mEnd 182 0) 183, .int (σ 182 1)]) : va_E) = _
  rw [show mEnd 182 0 = true by decide +kernel]
  rfl
theorem ce_183 (σ : gS) (ζ : gQ) : cN mEnd kEnd σ ζ 183 = cE σ ζ 183 := rfl
theorem ce_184 (σ : gS) (ζ : gQ) : cN mEnd kEnd σ ζ 184 = cE σ ζ 184 := by
  show (.inr (0, [rfm (mEnd 184 0) 185, .int (σ 184 1)]) : va_E) = _
  rw [show mEnd 184 0 = true by decide +kernel]
  rfl
theorem ce_185 (σ : gS) (ζ : gQ) : cN mEnd kEnd σ ζ 185 = cE σ ζ 185 := rfl
theorem ce_186 (σ : gS) (ζ : gQ) : cN mEnd kEnd σ ζ 186 = cE σ ζ 186 := by
  show (.inr (0, [rfm (mEnd 186 0) 187, .int (σ 186 1)]) : va_E) = _
  rw [show mEnd 186 0 = true by decide +kernel]
  rfl
theorem ce_187 (σ : gS) (ζ : gQ) : cN mEnd kEnd σ ζ 187 = cE σ ζ 187 := rfl
theorem ce_188 (σ : gS) (ζ : gQ) : cN mEnd kEnd σ ζ 188 = cE σ ζ 188 := by
  show (.inr (1, [rfm (mEnd 188 0) 189, rfm (mEnd 188 1) 190, .int (σ 188 2)]) : va_E) = _
  rw [show mEnd 188 0 = true by decide +kernel, show mEnd 188 1 = true by decide +kernel]
  rfl
theorem ce_189 (σ : gS) (ζ : gQ) : cN mEnd kEnd σ ζ 189 = cE σ ζ 189 := by
  show (.inl (4, 4, .inr (.inr (.inr (.inr (fun c => if c < kEnd 189 then some (189 + 2 + 2 * c) else none))))) : va_E) = _
  rw [show kEnd 189 = 4 by decide +kernel]
  rfl
theorem ce_190 (σ : gS) (ζ : gQ) : cN mEnd kEnd σ ζ 190 = cE σ ζ 190 := rfl
theorem ce_191 (σ : gS) (ζ : gQ) : cN mEnd kEnd σ ζ 191 = cE σ ζ 191 := by
  show (.inr (0, [rfm (mEnd 191 0) 192, .int (σ 191 1)]) : va_E) = _
  rw [show mEnd 191 0 = true by decide +kernel]
  rfl
theorem ce_192 (σ : gS) (ζ : gQ) : cN mEnd kEnd σ ζ 192 = cE σ ζ 192 := rfl
theorem ce_193 (σ : gS) (ζ : gQ) : cN mEnd kEnd σ ζ 193 = cE σ ζ 193 := by
  show (.inr (0, [rfm (mEnd 193 0) 194, .int (σ 193 1)]) : va_E) = _
  rw [show mEnd 193 0 = true by decide +kernel]
  rfl
theorem ce_194 (σ : gS) (ζ : gQ) : cN mEnd kEnd σ ζ 194 = cE σ ζ 194 := rfl
theorem ce_195 (σ : gS) (ζ : gQ) : cN mEnd kEnd σ ζ 195 = cE σ ζ 195 := by
  show (.inr (0, [rfm (mEnd 195 0) 196, .int (σ 195 1)]) : va_E) = _
  rw [show mEnd 195 0 = true by decide +kernel]
  rfl
theorem ce_196 (σ : gS) (ζ : gQ) : cN mEnd kEnd σ ζ 196 = cE σ ζ 196 := rfl
theorem ce_197 (σ : gS) (ζ : gQ) : cN mEnd kEnd σ ζ 197 = cE σ ζ 197 := by
  show (.inr (0, [rfm (mEnd 197 0) 198, .int (σ 197 1)]) : va_E) = _
  rw [show mEnd 197 0 = true by decide +kernel]
  rfl
theorem ce_198 (σ : gS) (ζ : gQ) : cN mEnd kEnd σ ζ 198 = cE σ ζ 198 := rfl
theorem ce_199 (σ : gS) (ζ : gQ) : cN mEnd kEnd σ ζ 199 = cE σ ζ 199 := by
  show (.inr (10, [rfm (mEnd 199 0) 200, .int (σ 199 1), rfm (mEnd 199 2) 201, rfm (mEnd 199 3) 202, rfm (mEnd 199 4) 203, rfm (mEnd 199 5) 204, rfm (mEnd 199 6) 205, rfm (mEnd 199 7) 206, rfm (mEnd 199 8) 207, rfm (mEnd 199 9) 208, .int (σ 199 10), rfm (mEnd 199 11) 209, rfm (mEnd 199 12) 210, rfm (mEnd 199 13) 211, rfm (mEnd 199 14) 212, rfm (mEnd 199 15) 213, rfm (mEnd 199 16) 214, .int (σ 199 17), .int (σ 199 18), .long (ζ 19), .int (σ 199 20), .int (σ 199 21), .int (σ 199 22), .int (σ 199 23), rfm (mEnd 199 24) 215, .int (σ 199 25), .int (σ 199 26), .int (σ 199 27), rfm (mEnd 199 28) 216, .int (σ 199 29), .long (ζ 30), .int (σ 199 31), .int (σ 199 32), .int (σ 199 33), rfm (mEnd 199 34) 217, .int (σ 199 35), .long (ζ 36), .long (ζ 37), .int (σ 199 38), .int (σ 199 39), .int (σ 199 40), .int (σ 199 41), .int (σ 199 42), .int (σ 199 43), .long (ζ 44), .int (σ 199 45), .int (σ 199 46), .int (σ 199 47), .int (σ 199 48), .int (σ 199 49), .int (σ 199 50), rfm (mEnd 199 51) 218, .int (σ 199 52), .long (ζ 53)]) : va_E) = _
  rw [show mEnd 199 0 = true by decide +kernel, show mEnd 199 2 = true by decide +kernel, show mEnd 199 3 = true by decide +kernel, show mEnd 199 4 = true by decide +kernel, show mEnd 199 5 = true by decide +kernel, show mEnd 199 6 = true by decide +kernel, show mEnd 199 7 = true by decide +kernel, show mEnd 199 8 = true by decide +kernel, show mEnd 199 9 = true by decide +kernel, show mEnd 199 11 = true by decide +kernel, show mEnd 199 12 = true by decide +kernel, show mEnd 199 13 = true by decide +kernel, show mEnd 199 14 = true by decide +kernel, show mEnd 199 15 = true by decide +kernel, show mEnd 199 16 = true by decide +kernel, show mEnd 199 24 = true by decide +kernel, show mEnd 199 28 = true by decide +kernel, show mEnd 199 34 = true by decide +kernel, show mEnd 199 51 = true by decide +kernel]
  rfl
theorem ce_200 (σ : gS) (ζ : gQ) : cN mEnd kEnd σ ζ 200 = cE σ ζ 200 := rfl
theorem ce_201 (σ : gS) (ζ : gQ) : cN mEnd kEnd σ ζ 201 = cE σ ζ 201 := rfl
theorem ce_202 (σ : gS) (ζ : gQ) : cN mEnd kEnd σ ζ 202 = cE σ ζ 202 := rfl
theorem ce_203 (σ : gS) (ζ : gQ) : cN mEnd kEnd σ ζ 203 = cE σ ζ 203 := rfl
theorem ce_204 (σ : gS) (ζ : gQ) : cN mEnd kEnd σ ζ 204 = cE σ ζ 204 := rfl
theorem ce_205 (σ : gS) (ζ : gQ) : cN mEnd kEnd σ ζ 205 = cE σ ζ 205 := rfl
theorem ce_206 (σ : gS) (ζ : gQ) : cN mEnd kEnd σ ζ 206 = cE σ ζ 206 := rfl
theorem ce_207 (σ : gS) (ζ : gQ) : cN mEnd kEnd σ ζ 207 = cE σ ζ 207 := rfl
theorem ce_208 (σ : gS) (ζ : gQ) : cN mEnd kEnd σ ζ 208 = cE σ ζ 208 := rfl
theorem ce_209 (σ : gS) (ζ : gQ) : cN mEnd kEnd σ ζ 209 = cE σ ζ 209 := rfl
theorem ce_210 (σ : gS) (ζ : gQ) : cN mEnd kEnd σ ζ 210 = cE σ ζ 210 := rfl
theorem ce_211 (σ : gS) (ζ : gQ) : cN mEnd kEnd σ ζ 211 = cE σ ζ 211 := rfl
theorem ce_212 (σ : gS) (ζ : gQ) : cN mEnd kEnd σ ζ 212 = cE σ ζ 212 := rfl
theorem ce_213 (σ : gS) (ζ : gQ) : cN mEnd kEnd σ ζ 213 = cE σ ζ 213 := rfl
theorem ce_214 (σ : gS) (ζ : gQ) : cN mEnd kEnd σ ζ 214 = cE σ ζ 214 := rfl
theorem ce_215 (σ : gS) (ζ : gQ) : cN mEnd kEnd σ ζ 215 = cE σ ζ 215 := rfl
theorem ce_216 (σ : gS) (ζ : gQ) : cN mEnd kEnd σ ζ 216 = cE σ ζ 216 := rfl
theorem ce_217 (σ : gS) (ζ : gQ) : cN mEnd kEnd σ ζ 217 = cE σ ζ 217 := rfl
theorem ce_218 (σ : gS) (ζ : gQ) : cN mEnd kEnd σ ζ 218 = cE σ ζ 218 := rfl
theorem ce_all (σ : gS) (ζ : gQ) : ∀ k, k < 219 → cN mEnd kEnd σ ζ k = cE σ ζ k := fun k hk => match k, hk with
  | 0, _ => ce_0 σ ζ
  | 1, _ => ce_1 σ ζ
  | 2, _ => ce_2 σ ζ
  | 3, _ => ce_3 σ ζ
  | 4, _ => ce_4 σ ζ
  | 5, _ => ce_5 σ ζ
  | 6, _ => ce_6 σ ζ
  | 7, _ => ce_7 σ ζ
  | 8, _ => ce_8 σ ζ
  | 9, _ => ce_9 σ ζ
  | 10, _ => ce_10 σ ζ
  | 11, _ => ce_11 σ ζ
  | 12, _ => ce_12 σ ζ
  | 13, _ => ce_13 σ ζ
  | 14, _ => ce_14 σ ζ
  | 15, _ => ce_15 σ ζ
  | 16, _ => ce_16 σ ζ
  | 17, _ => ce_17 σ ζ
  | 18, _ => ce_18 σ ζ
  | 19, _ => ce_19 σ ζ
  | 20, _ => ce_20 σ ζ
  | 21, _ => ce_21 σ ζ
  | 22, _ => ce_22 σ ζ
  | 23, _ => ce_23 σ ζ
  | 24, _ => ce_24 σ ζ
  | 25, _ => ce_25 σ ζ
  | 26, _ => ce_26 σ ζ
  | 27, _ => ce_27 σ ζ
  | 28, _ => ce_28 σ ζ
  | 29, _ => ce_29 σ ζ
  | 30, _ => ce_30 σ ζ
  | 31, _ => ce_31 σ ζ
  | 32, _ => ce_32 σ ζ
  | 33, _ => ce_33 σ ζ
  | 34, _ => ce_34 σ ζ
  | 35, _ => ce_35 σ ζ
  | 36, _ => ce_36 σ ζ
  | 37, _ => ce_37 σ ζ
  | 38, _ => ce_38 σ ζ
  | 39, _ => ce_39 σ ζ
  | 40, _ => ce_40 σ ζ
  | 41, _ => ce_41 σ ζ
  | 42, _ => ce_42 σ ζ
  | 43, _ => ce_43 σ ζ
  | 44, _ => ce_44 σ ζ
  | 45, _ => ce_45 σ ζ
  | 46, _ => ce_46 σ ζ
  | 47, _ => ce_47 σ ζ
  | 48, _ => ce_48 σ ζ
  | 49, _ => ce_49 σ ζ
  | 50, _ => ce_50 σ ζ
  | 51, _ => ce_51 σ ζ
  | 52, _ => ce_52 σ ζ
  | 53, _ => ce_53 σ ζ
  | 54, _ => ce_54 σ ζ
  | 55, _ => ce_55 σ ζ
  | 56, _ => ce_56 σ ζ
  | 57, _ => ce_57 σ ζ
  | 58, _ => ce_58 σ ζ
  | 59, _ => ce_59 σ ζ
  | 60, _ => ce_60 σ ζ
  | 61, _ => ce_61 σ ζ
  | 62, _ => ce_62 σ ζ
  | 63, _ => ce_63 σ ζ
  | 64, _ => ce_64 σ ζ
  | 65, _ => ce_65 σ ζ
  | 66, _ => ce_66 σ ζ
  | 67, _ => ce_67 σ ζ
  | 68, _ => ce_68 σ ζ
  | 69, _ => ce_69 σ ζ
  | 70, _ => ce_70 σ ζ
  | 71, _ => ce_71 σ ζ
  | 72, _ => ce_72 σ ζ
  | 73, _ => ce_73 σ ζ
  | 74, _ => ce_74 σ ζ
  | 75, _ => ce_75 σ ζ
  | 76, _ => ce_76 σ ζ
  | 77, _ => ce_77 σ ζ
  | 78, _ => ce_78 σ ζ
  | 79, _ => ce_79 σ ζ
  | 80, _ => ce_80 σ ζ
  | 81, _ => ce_81 σ ζ
  | 82, _ => ce_82 σ ζ
  | 83, _ => ce_83 σ ζ
  | 84, _ => ce_84 σ ζ
  | 85, _ => ce_85 σ ζ
  | 86, _ => ce_86 σ ζ
  | 87, _ => ce_87 σ ζ
  | 88, _ => ce_88 σ ζ
  | 89, _ => ce_89 σ ζ
  | 90, _ => ce_90 σ ζ
  | 91, _ => ce_91 σ ζ
  | 92, _ => ce_92 σ ζ
  | 93, _ => ce_93 σ ζ
  | 94, _ => ce_94 σ ζ
  | 95, _ => ce_95 σ ζ
  | 96, _ => ce_96 σ ζ
  | 97, _ => ce_97 σ ζ
  | 98, _ => ce_98 σ ζ
  | 99, _ => ce_99 σ ζ
  | 100, _ => ce_100 σ ζ
  | 101, _ => ce_101 σ ζ
  | 102, _ => ce_102 σ ζ
  | 103, _ => ce_103 σ ζ
  | 104, _ => ce_104 σ ζ
  | 105, _ => ce_105 σ ζ
  | 106, _ => ce_106 σ ζ
  | 107, _ => ce_107 σ ζ
  | 108, _ => ce_108 σ ζ
  | 109, _ => ce_109 σ ζ
  | 110, _ => ce_110 σ ζ
  | 111, _ => ce_111 σ ζ
  | 112, _ => ce_112 σ ζ
  | 113, _ => ce_113 σ ζ
  | 114, _ => ce_114 σ ζ
  | 115, _ => ce_115 σ ζ
  | 116, _ => ce_116 σ ζ
  | 117, _ => ce_117 σ ζ
  | 118, _ => ce_118 σ ζ
  | 119, _ => ce_119 σ ζ
  | 120, _ => ce_120 σ ζ
  | 121, _ => ce_121 σ ζ
  | 122, _ => ce_122 σ ζ
  | 123, _ => ce_123 σ ζ
  | 124, _ => ce_124 σ ζ
  | 125, _ => ce_125 σ ζ
  | 126, _ => ce_126 σ ζ
  | 127, _ => ce_127 σ ζ
  | 128, _ => ce_128 σ ζ
  | 129, _ => ce_129 σ ζ
  | 130, _ => ce_130 σ ζ
  | 131, _ => ce_131 σ ζ
  | 132, _ => ce_132 σ ζ
  | 133, _ => ce_133 σ ζ
  | 134, _ => ce_134 σ ζ
  | 135, _ => ce_135 σ ζ
  | 136, _ => ce_136 σ ζ
  | 137, _ => ce_137 σ ζ
  | 138, _ => ce_138 σ ζ
  | 139, _ => ce_139 σ ζ
  | 140, _ => ce_140 σ ζ
  | 141, _ => ce_141 σ ζ
  | 142, _ => ce_142 σ ζ
  | 143, _ => ce_143 σ ζ
  | 144, _ => ce_144 σ ζ
  | 145, _ => ce_145 σ ζ
  | 146, _ => ce_146 σ ζ
  | 147, _ => ce_147 σ ζ
  | 148, _ => ce_148 σ ζ
  | 149, _ => ce_149 σ ζ
  | 150, _ => ce_150 σ ζ
  | 151, _ => ce_151 σ ζ
  | 152, _ => ce_152 σ ζ
  | 153, _ => ce_153 σ ζ
  | 154, _ => ce_154 σ ζ
  | 155, _ => ce_155 σ ζ
  | 156, _ => ce_156 σ ζ
  | 157, _ => ce_157 σ ζ
  | 158, _ => ce_158 σ ζ
  | 159, _ => ce_159 σ ζ
  | 160, _ => ce_160 σ ζ
  | 161, _ => ce_161 σ ζ
  | 162, _ => ce_162 σ ζ
  | 163, _ => ce_163 σ ζ
  | 164, _ => ce_164 σ ζ
  | 165, _ => ce_165 σ ζ
  | 166, _ => ce_166 σ ζ
  | 167, _ => ce_167 σ ζ
  | 168, _ => ce_168 σ ζ
  | 169, _ => ce_169 σ ζ
  | 170, _ => ce_170 σ ζ
  | 171, _ => ce_171 σ ζ
  | 172, _ => ce_172 σ ζ
  | 173, _ => ce_173 σ ζ
  | 174, _ => ce_174 σ ζ
  | 175, _ => ce_175 σ ζ
  | 176, _ => ce_176 σ ζ
  | 177, _ => ce_177 σ ζ
  | 178, _ => ce_178 σ ζ
  | 179, _ => ce_179 σ ζ
  | 180, _ => ce_180 σ ζ
  | 181, _ => ce_181 σ ζ
  | 182, _ => ce_182 σ ζ
  | 183, _ => ce_183 σ ζ
  | 184, _ => ce_184 σ ζ
  | 185, _ => ce_185 σ ζ
  | 186, _ => ce_186 σ ζ
  | 187, _ => ce_187 σ ζ
  | 188, _ => ce_188 σ ζ
  | 189, _ => ce_189 σ ζ
  | 190, _ => ce_190 σ ζ
  | 191, _ => ce_191 σ ζ
  | 192, _ => ce_192 σ ζ
  | 193, _ => ce_193 σ ζ
  | 194, _ => ce_194 σ ζ
  | 195, _ => ce_195 σ ζ
  | 196, _ => ce_196 σ ζ
  | 197, _ => ce_197 σ ζ
  | 198, _ => ce_198 σ ζ
  | 199, _ => ce_199 σ ζ
  | 200, _ => ce_200 σ ζ
  | 201, _ => ce_201 σ ζ
  | 202, _ => ce_202 σ ζ
  | 203, _ => ce_203 σ ζ
  | 204, _ => ce_204 σ ζ
  | 205, _ => ce_205 σ ζ
  | 206, _ => ce_206 σ ζ
  | 207, _ => ce_207 σ ζ
  | 208, _ => ce_208 σ ζ
  | 209, _ => ce_209 σ ζ
  | 210, _ => ce_210 σ ζ
  | 211, _ => ce_211 σ ζ
  | 212, _ => ce_212 σ ζ
  | 213, _ => ce_213 σ ζ
  | 214, _ => ce_214 σ ζ
  | 215, _ => ce_215 σ ζ
  | 216, _ => ce_216 σ ζ
  | 217, _ => ce_217 σ ζ
  | 218, _ => ce_218 σ ζ
  | k + 219, h => absurd h (by omega)
theorem hq_hp (σ : gS) (ζ : gQ) : hq 219 mEnd kEnd σ ζ = hp σ ζ := by
  unfold hq hp
  apply List.map_congr_left
  intro k hk
  exact ce_all σ ζ k (List.mem_range.mp hk)
