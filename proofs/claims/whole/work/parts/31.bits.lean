/-! Bytes of ints: small words -/
theorem lpF {α : Type} (W : Nat → Nat → α → Prop) (I : Nat → α → Prop) (e : Nat) (hx : ∀ n s, I e s → W (n + 1) e s) (hs : ∀ n i s, i < e → I i s → (∀ s', I (i + 1) s' → W n (i + 1) s') → W (n + 1) i s) : ∀ (f i : Nat) (s : α), i ≤ e → e - i < f → I i s → W f i s := by
  intro f
  induction f with
  | zero => intro i s h1 h2; omega
  | succ f ih =>
    intro i s h1 h2 h3
    by_cases h : i = e
    · subst h; exact hx f s h3
    · exact hs f i s (by omega) h3 (fun s' h' => ih (i + 1) s' (by omega) (by omega) h')
theorem i32e {x y : Int32} (h : x.toBitVec = y.toBitVec) : x = y := Int32.toBitVec_inj.mp h
theorem b8_and (x : Int32) : x.toInt8.toInt32 &&& 255 = x &&& 255 := by
  apply i32e
  apply BitVec.eq_of_getLsbD_eq
  intro i hi
  simp only [Int32.toBitVec_and, Int8.toBitVec_toInt32, Int32.toBitVec_toInt8, BitVec.getLsbD_and, BitVec.getLsbD_signExtend, BitVec.getLsbD_setWidth]
  by_cases h : i < 8
  · simp [h, hi]
  · have : (255 : Int32).toBitVec.getLsbD i = false := by
      rcases (show i = 8 ∨ i = 9 ∨ i = 10 ∨ i = 11 ∨ i = 12 ∨ i = 13 ∨ i = 14 ∨ i = 15 ∨ i = 16 ∨ i = 17 ∨ i = 18 ∨ i = 19 ∨ i = 20 ∨ i = 21 ∨ i = 22 ∨ i = 23 ∨ i = 24 ∨ i = 25 ∨ i = 26 ∨ i = 27 ∨ i = 28 ∨ i = 29 ∨ i = 30 ∨ i = 31 by omega) with rfl | rfl | rfl | rfl | rfl | rfl | rfl | rfl | rfl | rfl | rfl | rfl | rfl | rfl | rfl | rfl | rfl | rfl | rfl | rfl | rfl | rfl | rfl | rfl <;> rfl
    rw [this]; simp
theorem and_and255 (x : Int32) : (x &&& 255) &&& 255 = x &&& 255 := by
  apply i32e
  simp only [Int32.toBitVec_and, BitVec.and_assoc, BitVec.and_self]
theorem xor_and255 (x y : Int32) : (x ^^^ y) &&& 255 = (x &&& 255) ^^^ (y &&& 255) := by
  apply i32e
  apply BitVec.eq_of_getLsbD_eq
  intro i hi
  simp only [Int32.toBitVec_and, Int32.toBitVec_xor, BitVec.getLsbD_and, BitVec.getLsbD_xor]
  cases (255 : Int32).toBitVec.getLsbD i <;> simp
theorem b8_b8 (x : Int32) : x.toInt8.toInt32.toInt8.toInt32 = x.toInt8.toInt32 := by simp
theorem isb_mk (x : Int32) : isb x.toInt8.toInt32 := b8_b8 x
theorem ub_eq (x : Int32) : x &&& 255 = nI (ub x) := by
  have := pk_and x (m := 255) 8 rfl
  unfold ub
  rw [this]
  rw [pk_tn (by have := Nat.mod_lt x.toBitVec.toNat (Nat.two_pow_pos 8); omega)]
theorem ub_lt (x : Int32) : ub x < 256 := by
  unfold ub
  rw [pk_and x (m := 255) 8 rfl]
  have := Nat.mod_lt x.toBitVec.toNat (Nat.two_pow_pos 8)
  rw [pk_tn (by omega)]; omega
theorem ub_congr {x y : Int32} (h : x &&& 255 = y &&& 255) : ub x = ub y := by unfold ub; rw [h]
theorem b8_of_and (x : Int32) : (x &&& 255).toInt8.toInt32 = x.toInt8.toInt32 := by
  apply i32e
  apply BitVec.eq_of_getLsbD_eq
  intro i hi
  simp only [Int8.toBitVec_toInt32, Int32.toBitVec_toInt8, Int32.toBitVec_and, BitVec.getLsbD_signExtend, BitVec.getLsbD_setWidth, BitVec.getLsbD_and, BitVec.msb_eq_getLsbD_last]
  have h7 : (255 : Int32).toBitVec.getLsbD 7 = true := rfl
  have hh : ∀ j, j < 8 → (255 : Int32).toBitVec.getLsbD j = true := by
    intro j hj
    rcases (show j = 0 ∨ j = 1 ∨ j = 2 ∨ j = 3 ∨ j = 4 ∨ j = 5 ∨ j = 6 ∨ j = 7 by omega) with rfl | rfl | rfl | rfl | rfl | rfl | rfl | rfl <;> rfl
  by_cases h : i < 8
  · simp only [h, hi, hh i h, if_true, decide_true, Bool.true_and, Bool.and_true]
  · simp only [h, hi, if_false, decide_true, Bool.true_and, show 8 - 1 < 8 from by decide, hh 7 (by decide), Bool.and_true]
    rfl
theorem isb_eq {x y : Int32} (hx : isb x) (hy : isb y) (h : x &&& 255 = y &&& 255) : x = y := by
  unfold isb at hx hy
  rw [← hx, ← hy, ← b8_of_and x, ← b8_of_and y, h]
/-- a byte of a word, as the class takes it -/
def bW (w : Int32) (i : Nat) : Int32 := ush w (24 - 8 * nI i) &&& 255
theorem bW_s (w : Int32) {i : Nat} (hi : i < 4) : (w >>> ((24 - 8 * nI i) &&& 31)) &&& 255 = bW w i := by
  apply i32e
  apply BitVec.eq_of_getLsbD_eq
  intro j hj
  unfold bW ush
  by_cases h : j < 8
  · rcases (show i = 0 ∨ i = 1 ∨ i = 2 ∨ i = 3 by omega) with rfl | rfl | rfl | rfl
    all_goals
      simp only [Int32.toBitVec_and, BitVec.getLsbD_and]
      congr 1
    · show ((w.toBitVec).sshiftRight 24).getLsbD j = (w.toBitVec >>> 24).getLsbD j
      rw [BitVec.getLsbD_sshiftRight, BitVec.getLsbD_ushiftRight, if_pos (show 24 + j < 32 by omega), show decide (32 ≤ j) = false from decide_eq_false (by omega)]; rfl
    · show ((w.toBitVec).sshiftRight 16).getLsbD j = (w.toBitVec >>> 16).getLsbD j
      rw [BitVec.getLsbD_sshiftRight, BitVec.getLsbD_ushiftRight, if_pos (show 16 + j < 32 by omega), show decide (32 ≤ j) = false from decide_eq_false (by omega)]; rfl
    · show ((w.toBitVec).sshiftRight 8).getLsbD j = (w.toBitVec >>> 8).getLsbD j
      rw [BitVec.getLsbD_sshiftRight, BitVec.getLsbD_ushiftRight, if_pos (show 8 + j < 32 by omega), show decide (32 ≤ j) = false from decide_eq_false (by omega)]; rfl
    · show ((w.toBitVec).sshiftRight 0).getLsbD j = (w.toBitVec >>> 0).getLsbD j
      rw [BitVec.getLsbD_sshiftRight, BitVec.getLsbD_ushiftRight, if_pos (show 0 + j < 32 by omega), show decide (32 ≤ j) = false from decide_eq_false (by omega)]; rfl
  · have : (255 : Int32).toBitVec.getLsbD j = false := by
      rcases (show j = 8 ∨ j = 9 ∨ j = 10 ∨ j = 11 ∨ j = 12 ∨ j = 13 ∨ j = 14 ∨ j = 15 ∨ j = 16 ∨ j = 17 ∨ j = 18 ∨ j = 19 ∨ j = 20 ∨ j = 21 ∨ j = 22 ∨ j = 23 ∨ j = 24 ∨ j = 25 ∨ j = 26 ∨ j = 27 ∨ j = 28 ∨ j = 29 ∨ j = 30 ∨ j = 31 by omega) with rfl | rfl | rfl | rfl | rfl | rfl | rfl | rfl | rfl | rfl | rfl | rfl | rfl | rfl | rfl | rfl | rfl | rfl | rfl | rfl | rfl | rfl | rfl | rfl <;> rfl
    simp only [Int32.toBitVec_and, BitVec.getLsbD_and, this, Bool.and_false]
theorem bW_255 (w : Int32) (i : Nat) : bW w i &&& 255 = bW w i := and_and255 _
/-- one place's run of entries written -/
def wrt (σ : gS) (j a e : Nat) (v : Nat → Int32) (s : gS) : Prop := (∀ b, b ≠ j → s b = σ b) ∧ ∀ k, s j k = if a ≤ k ∧ k < e then v k else σ j k
theorem wrt_0 {σ : gS} {j a : Nat} {v : Nat → Int32} : wrt σ j a a v σ := ⟨fun _ _ => rfl, fun k => by rw [if_neg (by omega)]⟩
theorem wrt_s {σ s : gS} {j a i : Nat} {v : Nat → Int32} {x : Int32} (h : wrt σ j a i v s) (hi : a ≤ i) (hx : x = v i) : wrt σ j a (i + 1) v (pf s j i x) := by
  refine ⟨fun b hb => (pf_ne hb).trans (h.1 b hb), fun k => ?_⟩
  by_cases hk : k = i
  · subst hk
    rw [pf_s, if_pos (by omega), hx]
  · rw [pf_i hk, h.2 k]
    by_cases h1 : a ≤ k ∧ k < i
    · rw [if_pos h1, if_pos (by omega)]
    · rw [if_neg h1, if_neg (by omega)]
theorem nI_i1 (n : Nat) : nI n + Int32.ofInt 1 = nI (n + 1) := nI_1 n
theorem ix_n {n : Nat} (h : n < 2 ^ 31) : ix (nI n) = n := nI_clamp h
