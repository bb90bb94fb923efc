/-! Numbers in rows of bytes -/
theorem or_nI {a b k : Nat} (s : Int32) (hs : (s.toBitVec.smod 32).toNat = k) (hb : b < 2 ^ k) (h : a * 2 ^ k + b < 2 ^ 32) : nI a <<< s ||| nI b = nI (a * 2 ^ k + b) := by
  rw [pk_shlN s k hs (by omega)]
  apply i32n
  rw [pk_tn h]
  show ((nI (a * 2 ^ k)).toBitVec ||| (nI b).toBitVec).toNat = _
  rw [BitVec.toNat_or, pk_tn (by omega), pk_tn (by omega), Nat.mul_comm, ← Nat.two_pow_add_eq_or_of_lt hb]
theorem or_lN {a : Nat} (x : Int32) (h : a < 2 ^ 40) : (lN a <<< ((8 : Int32).toInt64 &&& 63)) ||| (x.toInt64 &&& 255) = lN (a * 256 + ub x) := by
  have hu := ub_lt x
  apply i64e
  rw [lN_nt (by omega)]
  have e1 : (lN a <<< ((8 : Int32).toInt64 &&& 63)).toBitVec = (lN a).toBitVec <<< 8 := rfl
  have e2 : (x.toInt64 &&& 255).toBitVec.toNat = ub x := by
    unfold ub
    rw [pk_and x (m := 255) 8 rfl, pk_tn (by have := Nat.mod_lt x.toBitVec.toNat (Nat.two_pow_pos 8); omega)]
    rw [Int64.toBitVec_and, BitVec.toNat_and]
    rw [show (255 : Int64).toBitVec.toNat = 2 ^ 8 - 1 from rfl, Nat.and_two_pow_sub_one_eq_mod]
    rw [Int32.toBitVec_toInt64]
    rw [BitVec.toNat_signExtend]
    split
    · have : (BitVec.setWidth 64 x.toBitVec).toNat = x.toBitVec.toNat := by
        rw [BitVec.toNat_setWidth]; exact Nat.mod_eq_of_lt (by have := x.toBitVec.isLt; omega)
      rw [this]; omega
    · have : (BitVec.setWidth 64 x.toBitVec).toNat = x.toBitVec.toNat := by
        rw [BitVec.toNat_setWidth]; exact Nat.mod_eq_of_lt (by have := x.toBitVec.isLt; omega)
      rw [this]; omega
  rw [Int64.toBitVec_or, e1, BitVec.toNat_or, e2, BitVec.toNat_shiftLeft, lN_nt (by omega), Nat.shiftLeft_eq, Nat.mod_eq_of_lt (by omega)]
  rw [Nat.mul_comm, ← Nat.two_pow_add_eq_or_of_lt (by omega)]
/-- n bytes from i on, the highest first -/
def beN (f : Nat → Int32) (i : Nat) : Nat → Nat
  | 0 => 0
  | n + 1 => beN f i n * 256 + ub (f (i + n))
theorem beN_1 (f : Nat → Int32) (i : Nat) : beN f i 1 = ub (f i) := by simp [beN]
theorem beN_2 (f : Nat → Int32) (i : Nat) : beN f i 2 = be2 f i := by simp [beN, be2]
theorem beN_4 (f : Nat → Int32) (i : Nat) : beN f i 4 = be4 f i := by simp [beN, be4]
theorem be2_lt (f : Nat → Int32) (i : Nat) : be2 f i < 65536 := by
  have a := ub_lt (f i); have b := ub_lt (f (i + 1)); unfold be2; omega
theorem be4_lt (f : Nat → Int32) (i : Nat) : be4 f i < 2 ^ 32 := by
  have a := ub_lt (f i); have b := ub_lt (f (i + 1)); have c := ub_lt (f (i + 2)); have d := ub_lt (f (i + 3)); unfold be4; omega
theorem be4_2 (f : Nat → Int32) (i : Nat) : be4 f i = be2 f i * 65536 + be2 f (i + 2) := by unfold be4 be2; rw [show i + 2 + 1 = i + 3 from rfl]; omega
theorem beN_lt (f : Nat → Int32) (i : Nat) : ∀ n, beN f i n < 256 ^ n := by
  intro n
  induction n with
  | zero => exact Nat.one_pos
  | succ n ih =>
    have := ub_lt (f (i + n))
    show beN f i n * 256 + ub (f (i + n)) < 256 ^ n * 256
    omega
theorem r_field {τ : gS} {c p i n : Nat} (hc : c < 16) (hp : p < 4) (hi : i + n ≤ 48) (hn : n ≤ 4) : Q_X10_field τ (nI c) (nI p) (nI i) (nI n) ∧ F_X10_field τ (nI c) (nI p) (nI i) (nI n) = lN (beN (fun k => τ 210 (48 * (4 * c + p) + k)) i n) := by
  rw [F_X10_field_eq]
  unfold Q_X10_field Fr_X10_field
  have ee : nI i + nI n = nI (i + n) := nI_add i n
  have a := lpF (fun f d (_ : Unit) => QG_X10_field_L6 (nI c) (nI p) (nI i) (nI n) τ f (lN (beN (fun k => τ 210 (48 * (4 * c + p) + k)) i d)) (nI (i + d)) ∧ G_X10_field_L6 (nI c) (nI p) (nI i) (nI n) τ f (lN (beN (fun k => τ 210 (48 * (4 * c + p) + k)) i d)) (nI (i + d)) = lN (beN (fun k => τ 210 (48 * (4 * c + p) + k)) i n)) (fun _ _ => True) n (by
    intro m s _
    unfold QG_X10_field_L6 G_X10_field_L6
    have c1 : nI i + nI n ≤ nI (i + n) := by rw [ee]; exact nI_le (Nat.le_refl _) (by omega)
    simp only [if_pos c1]
    exact ⟨trivial, trivial⟩) (by
    intro m d s hd _ k
    unfold QG_X10_field_L6 G_X10_field_L6
    have c1 : ¬ nI i + nI n ≤ nI (i + d) := by rw [ee]; exact nI_ge (by omega) (by omega)
    have e1 : (48 : Int32) * (4 * nI c + nI p) + nI (i + d) = nI (48 * (4 * c + p) + (i + d)) := by
      rw [show (4 : Int32) = nI 4 from rfl, show (48 : Int32) = nI 48 from rfl, pk_mul, nI_add, pk_mul, nI_add]
    have hb := beN_lt (fun k => τ 210 (48 * (4 * c + p) + k)) i d
    have hp4 : 256 ^ d ≤ 256 ^ 4 := Nat.pow_le_pow_right (by decide) (by omega)
    simp only [if_neg c1, e1, ix_n (show 48 * (4 * c + p) + (i + d) < 2 ^ 31 by omega), nI_i1]
    rw [or_lN _ (by omega)]
    have q := k () trivial
    exact ⟨⟨vp_in_nI (by omega) (by decide), q.1⟩, q.2⟩) 4000 0 () (Nat.zero_le _) (by omega) trivial
  exact a
theorem r_diskField {τ : gS} {i n : Nat} (hi : i + n ≤ 400) (hn : n ≤ 4) : Q_X10_diskField τ (nI i) (nI n) ∧ F_X10_diskField τ (nI i) (nI n) = lN (beN (τ 215) i n) := by
  rw [F_X10_diskField_eq]
  unfold Q_X10_diskField Fr_X10_diskField
  have ee : nI i + nI n = nI (i + n) := nI_add i n
  have a := lpF (fun f d (_ : Unit) => QG_X10_diskField_L5 (nI i) (nI n) τ f (lN (beN (τ 215) i d)) (nI (i + d)) ∧ G_X10_diskField_L5 (nI i) (nI n) τ f (lN (beN (τ 215) i d)) (nI (i + d)) = lN (beN (τ 215) i n)) (fun _ _ => True) n (by
    intro m s _
    unfold QG_X10_diskField_L5 G_X10_diskField_L5
    have c1 : nI i + nI n ≤ nI (i + n) := by rw [ee]; exact nI_le (Nat.le_refl _) (by omega)
    simp only [if_pos c1]
    exact ⟨trivial, trivial⟩) (by
    intro m d s hd _ k
    unfold QG_X10_diskField_L5 G_X10_diskField_L5
    have c1 : ¬ nI i + nI n ≤ nI (i + d) := by rw [ee]; exact nI_ge (by omega) (by omega)
    have hb := beN_lt (τ 215) i d
    have hp4 : 256 ^ d ≤ 256 ^ 4 := Nat.pow_le_pow_right (by decide) (by omega)
    simp only [if_neg c1, ix_n (show i + d < 2 ^ 31 by omega), nI_i1]
    rw [or_lN _ (by omega)]
    have q := k () trivial
    exact ⟨⟨vp_in_nI (by omega) (by decide), q.1⟩, q.2⟩) 4000 0 () (Nat.zero_le _) (by omega) trivial
  exact a
/-! The class's reads -/
theorem q_twoAt (σ : gS) (j : Nat) {N : Nat} (hN : N < 2 ^ 31) (x : Int32) : Q_X0_twoAt σ j N x := by
  unfold Q_X0_twoAt
  by_cases h0 : x < 0
  · rw [if_pos h0]; trivial
  · rw [if_neg h0]
    by_cases h1 : (σ j 1) - 1 ≤ x
    · rw [if_pos h1]; trivial
    · rw [if_neg h1]; exact ⟨q_byteOf σ j hN _, q_byteOf σ j hN _, trivial⟩
theorem q_fourAt (σ : gS) (j : Nat) {N : Nat} (hN : N < 2 ^ 31) (x : Int32) : Q_X0_fourAt σ j N x := by
  unfold Q_X0_fourAt
  by_cases h0 : x < 0
  · rw [if_pos h0]; trivial
  · rw [if_neg h0]
    by_cases h1 : (σ j 1) - 3 ≤ x
    · rw [if_pos h1]; trivial
    · rw [if_neg h1]; exact ⟨q_twoAt σ j hN _, q_twoAt σ j hN _, trivial⟩
theorem byteOf_u {σ : gS} {j N n i : Nat} (hn : n ≤ N) (hN : N < 2 ^ 31) (e : σ j 1 = nI n) (hi : i < n) : F_X0_byteOf σ j N (nI i) = nI (ub (σ (j + 1) i)) := by
  rw [byteOf_nat hn hN e (by omega), if_pos hi, ub_eq]
theorem twoAt_u {σ : gS} {j N n i : Nat} (hn : n ≤ N) (hN : N < 2 ^ 31) (e : σ j 1 = nI n) (hi : i + 1 < n) : F_X0_twoAt σ j N (nI i) = nI (be2 (σ (j + 1)) i) := by
  rw [F_X0_twoAt_eq]; unfold Fr_X0_twoAt
  have hu := ub_lt (σ (j + 1) i)
  have hv := ub_lt (σ (j + 1) (i + 1))
  rw [if_neg (nI_pos (by omega)), e, nIs (a := n) (b := 1) (by omega) 1 rfl, if_neg (nI_ge (by omega) (by omega)), byteOf_u hn hN e (by omega), nI_1, byteOf_u hn hN e hi, or_nI (k := 8) ((8 : Int32) &&& 31) rfl (by omega) (by omega)]
  rfl
theorem fourAt_u {σ : gS} {j N n i : Nat} (hn : n ≤ N) (hN : N < 2 ^ 31) (e : σ j 1 = nI n) (hi : i + 3 < n) : F_X0_fourAt σ j N (nI i) = nI (be4 (σ (j + 1)) i) := by
  rw [F_X0_fourAt_eq]; unfold Fr_X0_fourAt
  have hu := be2_lt (σ (j + 1)) i
  have hv := be2_lt (σ (j + 1)) (i + 2)
  rw [if_neg (nI_pos (by omega)), e, nIs (a := n) (b := 3) (by omega) 3 rfl, if_neg (nI_ge (by omega) (by omega)), twoAt_u hn hN e (by omega), show nI i + 2 = nI (i + 2) from nI_add i 2, twoAt_u hn hN e (by omega), or_nI (k := 16) ((16 : Int32) &&& 31) rfl (by omega) (by omega), be4_2]
theorem wSign {n : Nat} (h : n < 2 ^ 32) : F_X8_withoutSign (nI n) = lN n := by
  rw [F_X8_withoutSign_eq]
  unfold Fr_X8_withoutSign
  apply i64e
  rw [lN_nt (by omega), Int64.toBitVec_and, BitVec.toNat_and]
  rw [show (4294967295 : Int64).toBitVec.toNat = 2 ^ 32 - 1 from rfl, Nat.and_two_pow_sub_one_eq_mod, Int32.toBitVec_toInt64, BitVec.toNat_signExtend]
  have : (BitVec.setWidth 64 (nI n).toBitVec).toNat = n := by
    rw [BitVec.toNat_setWidth, pk_tn h]; exact Nat.mod_eq_of_lt (by omega)
  rw [this]
  split <;> omega
theorem lc_lt {a b : Nat} (ha : a < 2 ^ 63) (hb : b < 2 ^ 63) : lg_cmp (lN a) (lN b) < 0 ↔ a < b := (lg_cmp_lt _ _).trans (pk_lLT ha hb)
theorem lc_gt {a b : Nat} (ha : a < 2 ^ 63) (hb : b < 2 ^ 63) : 0 < lg_cmp (lN a) (lN b) ↔ b < a := (lg_cmp_gt _ _).trans (pk_lLT hb ha)
theorem lc_eq {a b : Nat} (ha : a < 2 ^ 63) (hb : b < 2 ^ 63) : lg_cmp (lN a) (lN b) = 0 ↔ a = b := (lg_cmp_eq _ _).trans (pk_lEQ ha hb)
theorem isAlike_u {σ : gS} {j N n j2 N2 n2 a b m : Nat} (hn : n ≤ N) (hN : N < 2 ^ 31) (e : σ j 1 = nI n) (hn2 : n2 ≤ N2) (hN2 : N2 < 2 ^ 31) (e2 : σ j2 1 = nI n2) (ha : a + m ≤ n) (hb : b + m ≤ n2) (hm : m < 3000) : Q_X0_isAlike σ j N j2 N2 (nI a) (nI b) (nI m) ∧ ((F_X0_isAlike σ j N j2 N2 (nI a) (nI b) (nI m) = 1 ∧ ∀ k, k < m → ub (σ (j + 1) (a + k)) = ub (σ (j2 + 1) (b + k))) ∨ (F_X0_isAlike σ j N j2 N2 (nI a) (nI b) (nI m) = 0 ∧ ∃ k, k < m ∧ ub (σ (j + 1) (a + k)) ≠ ub (σ (j2 + 1) (b + k)))) := by
  rw [F_X0_isAlike_eq]
  unfold Q_X0_isAlike Fr_X0_isAlike
  exact lpF (fun f d (_ : Unit) => QG_X0_isAlike_L3 j N j2 N2 (nI a) (nI b) (nI m) σ f (nI d) ∧ ((G_X0_isAlike_L3 j N j2 N2 (nI a) (nI b) (nI m) σ f (nI d) = 1 ∧ ∀ k, k < m → ub (σ (j + 1) (a + k)) = ub (σ (j2 + 1) (b + k))) ∨ (G_X0_isAlike_L3 j N j2 N2 (nI a) (nI b) (nI m) σ f (nI d) = 0 ∧ ∃ k, k < m ∧ ub (σ (j + 1) (a + k)) ≠ ub (σ (j2 + 1) (b + k))))) (fun d _ => ∀ k, k < d → ub (σ (j + 1) (a + k)) = ub (σ (j2 + 1) (b + k))) m (by
    intro f s h
    unfold QG_X0_isAlike_L3 G_X0_isAlike_L3
    have c : nI m ≤ nI m := nI_le (Nat.le_refl _) (by omega)
    simp only [if_pos c]
    exact ⟨trivial, Or.inl ⟨trivial, h⟩⟩) (by
    intro f d s hd h k
    unfold QG_X0_isAlike_L3 G_X0_isAlike_L3
    have c : ¬ nI m ≤ nI d := nI_ge hd (by omega)
    have ea : nI a + nI d = nI (a + d) := nI_add a d
    have eb : nI b + nI d = nI (b + d) := nI_add b d
    have u1 := ub_lt (σ (j + 1) (a + d))
    have u2 := ub_lt (σ (j2 + 1) (b + d))
    simp only [if_neg c, ea, eb, nI_i1, byteOf_u hn hN e (show a + d < n by omega), byteOf_u hn2 hN2 e2 (show b + d < n2 by omega)]
    by_cases hh : ub (σ (j + 1) (a + d)) = ub (σ (j2 + 1) (b + d))
    · have c2 : nI (ub (σ (j + 1) (a + d))) = nI (ub (σ (j2 + 1) (b + d))) := by rw [hh]
      simp only [if_pos c2]
      have q := k () (fun k hk => by
        by_cases ek : k = d
        · subst ek; exact hh
        · exact h k (by omega))
      exact ⟨⟨q_byteOf σ j hN _, q_byteOf σ j2 hN2 _, q.1⟩, q.2⟩
    · have c2 : ¬ nI (ub (σ (j + 1) (a + d))) = nI (ub (σ (j2 + 1) (b + d))) := fun z => hh ((nI_eq (by omega) (by omega)).mp z)
      simp only [if_neg c2]
      exact ⟨⟨q_byteOf σ j hN _, q_byteOf σ j2 hN2 _, trivial⟩, Or.inr ⟨trivial, d, hd, hh⟩⟩) 4000 0 () (Nat.zero_le _) (by omega) (fun k hk => absurd hk (by omega))
/-- the same, of bytes that may not be there: only that no index is wrong, and that it answers -/
theorem isAlike_q {σ : gS} {j N j2 N2 : Nat} (hN : N < 2 ^ 31) (hN2 : N2 < 2 ^ 31) (x y : Int32) {m : Nat} (hm : m < 3000) : Q_X0_isAlike σ j N j2 N2 x y (nI m) ∧ (F_X0_isAlike σ j N j2 N2 x y (nI m) = 0 ∨ F_X0_isAlike σ j N j2 N2 x y (nI m) = 1) := by
  rw [F_X0_isAlike_eq]
  unfold Q_X0_isAlike Fr_X0_isAlike
  exact lpF (fun f d (_ : Unit) => QG_X0_isAlike_L3 j N j2 N2 x y (nI m) σ f (nI d) ∧ (G_X0_isAlike_L3 j N j2 N2 x y (nI m) σ f (nI d) = 0 ∨ G_X0_isAlike_L3 j N j2 N2 x y (nI m) σ f (nI d) = 1)) (fun _ _ => True) m (by
    intro f s h
    unfold QG_X0_isAlike_L3 G_X0_isAlike_L3
    have c : nI m ≤ nI m := nI_le (Nat.le_refl _) (by omega)
    simp only [if_pos c]
    exact ⟨trivial, Or.inr trivial⟩) (by
    intro f d s hd h k
    unfold QG_X0_isAlike_L3 G_X0_isAlike_L3
    have c : ¬ nI m ≤ nI d := nI_ge hd (by omega)
    simp only [if_neg c, nI_i1]
    by_cases hh : F_X0_byteOf σ j N (x + nI d) = F_X0_byteOf σ j2 N2 (y + nI d)
    · simp only [if_pos hh]
      have q := k () trivial
      exact ⟨⟨q_byteOf σ j hN _, q_byteOf σ j2 hN2 _, q.1⟩, q.2⟩
    · simp only [if_neg hh]
      exact ⟨⟨q_byteOf σ j hN _, q_byteOf σ j2 hN2 _, trivial⟩, Or.inl trivial⟩) 4000 0 () (Nat.zero_le _) (by omega) trivial
