/-! The score of a finger: both ways to count -/
def popK (v : Nat) : Nat :=
  let v1 := Nat.sub v (Nat.land (Nat.shiftRight v 1) 1431655765)
  let v2 := Nat.add (Nat.land v1 858993459) (Nat.land (Nat.shiftRight v1 2) 858993459)
  let v3 := Nat.land (Nat.add v2 (Nat.shiftRight v2 4)) 252645135
  let v4 := Nat.add v3 (Nat.shiftRight v3 8)
  Nat.land (Nat.add v4 (Nat.shiftRight v4 16)) 63
def zer (v : Nat) : Nat → Nat
  | 0 => 0
  | k + 1 => zer v k + (1 - v / 2 ^ k % 2)
def zerK (v : Nat) : Nat := Nat.add (Nat.add (Nat.add (Nat.add (Nat.land v 1) (Nat.land (Nat.shiftRight v 1) 1)) (Nat.add (Nat.land (Nat.shiftRight v 2) 1) (Nat.land (Nat.shiftRight v 3) 1))) (Nat.add (Nat.add (Nat.land (Nat.shiftRight v 4) 1) (Nat.land (Nat.shiftRight v 5) 1)) (Nat.add (Nat.land (Nat.shiftRight v 6) 1) (Nat.land (Nat.shiftRight v 7) 1)))) (Nat.add (Nat.add (Nat.add (Nat.land (Nat.shiftRight v 8) 1) (Nat.land (Nat.shiftRight v 9) 1)) (Nat.add (Nat.land (Nat.shiftRight v 10) 1) (Nat.land (Nat.shiftRight v 11) 1))) (Nat.add (Nat.add (Nat.land (Nat.shiftRight v 12) 1) (Nat.land (Nat.shiftRight v 13) 1)) (Nat.add (Nat.land (Nat.shiftRight v 14) 1) (Nat.land (Nat.shiftRight v 15) 1))))
theorem pop_zer : ∀ h, h < 256 → ∀ l, l < 256 → Nat.beq (popK (256 * h + l)) (zerK (256 * h + l)) = true := by decide +kernel
theorem nI_and {a b : Nat} (ha : a < 2 ^ 32) (hb : b < 2 ^ 32) : nI a &&& nI b = nI (a &&& b) := by
  have : a &&& b ≤ a := Nat.and_le_left
  apply i32n
  rw [Int32.toBitVec_and, BitVec.toNat_and, pk_tn ha, pk_tn hb, pk_tn (by omega)]
theorem nI_xor {a b : Nat} (ha : a < 2 ^ 16) (hb : b < 2 ^ 16) : nI a ^^^ nI b = nI (a ^^^ b) := by
  have : a ^^^ b < 2 ^ 16 := Nat.xor_lt_two_pow ha hb
  apply i32n
  rw [Int32.toBitVec_xor, BitVec.toNat_xor, pk_tn (by omega), pk_tn (by omega), pk_tn (by omega)]
theorem zer_zerK (v : Nat) : zer v 16 + zerK v = 16 := by
  have e : ∀ k, Nat.land (Nat.shiftRight v k) 1 = v / 2 ^ k % 2 := fun k => by
    show (v >>> k) &&& 1 = _
    rw [Nat.and_one_is_mod, Nat.shiftRight_eq_div_pow]
  have e0 : Nat.land v 1 = v / 2 ^ 0 % 2 := by
    show v &&& 1 = _
    rw [Nat.and_one_is_mod, Nat.pow_zero, Nat.div_one]
  have b : ∀ k, v / 2 ^ k % 2 < 2 := fun k => Nat.mod_lt _ (by decide)
  have b0 := b 0; have b1 := b 1; have b2 := b 2; have b3 := b 3; have b4 := b 4; have b5 := b 5; have b6 := b 6; have b7 := b 7
  have b8 := b 8; have b9 := b 9; have b10 := b 10; have b11 := b 11; have b12 := b 12; have b13 := b 13; have b14 := b 14; have b15 := b 15
  have l : zer v 16 = (1 - v / 2 ^ 0 % 2) + (1 - v / 2 ^ 1 % 2) + (1 - v / 2 ^ 2 % 2) + (1 - v / 2 ^ 3 % 2) + (1 - v / 2 ^ 4 % 2) + (1 - v / 2 ^ 5 % 2) + (1 - v / 2 ^ 6 % 2) + (1 - v / 2 ^ 7 % 2) + (1 - v / 2 ^ 8 % 2) + (1 - v / 2 ^ 9 % 2) + (1 - v / 2 ^ 10 % 2) + (1 - v / 2 ^ 11 % 2) + (1 - v / 2 ^ 12 % 2) + (1 - v / 2 ^ 13 % 2) + (1 - v / 2 ^ 14 % 2) + (1 - v / 2 ^ 15 % 2) := by
    simp only [zer]; omega
  have z : zerK v = v / 2 ^ 0 % 2 + v / 2 ^ 1 % 2 + v / 2 ^ 2 % 2 + v / 2 ^ 3 % 2 + v / 2 ^ 4 % 2 + v / 2 ^ 5 % 2 + v / 2 ^ 6 % 2 + v / 2 ^ 7 % 2 + v / 2 ^ 8 % 2 + v / 2 ^ 9 % 2 + v / 2 ^ 10 % 2 + v / 2 ^ 11 % 2 + v / 2 ^ 12 % 2 + v / 2 ^ 13 % 2 + v / 2 ^ 14 % 2 + v / 2 ^ 15 % 2 := by
    unfold zerK
    rw [e0, e 1, e 2, e 3, e 4, e 5, e 6, e 7, e 8, e 9, e 10, e 11, e 12, e 13, e 14, e 15]
    simp only [Nat.add_eq]; omega
  rw [l, z]
  generalize v / 2 ^ 0 % 2 = x0 at *; generalize v / 2 ^ 1 % 2 = x1 at *; generalize v / 2 ^ 2 % 2 = x2 at *; generalize v / 2 ^ 3 % 2 = x3 at *
  generalize v / 2 ^ 4 % 2 = x4 at *; generalize v / 2 ^ 5 % 2 = x5 at *; generalize v / 2 ^ 6 % 2 = x6 at *; generalize v / 2 ^ 7 % 2 = x7 at *
  generalize v / 2 ^ 8 % 2 = x8 at *; generalize v / 2 ^ 9 % 2 = x9 at *; generalize v / 2 ^ 10 % 2 = x10 at *; generalize v / 2 ^ 11 % 2 = x11 at *
  generalize v / 2 ^ 12 % 2 = x12 at *; generalize v / 2 ^ 13 % 2 = x13 at *; generalize v / 2 ^ 14 % 2 = x14 at *; generalize v / 2 ^ 15 % 2 = x15 at *
  omega
theorem popK_le {v : Nat} (h : v < 65536) : popK v = zerK v := by
  have := pop_zer (v / 256) (by omega) (v % 256) (by omega)
  rw [show 256 * (v / 256) + v % 256 = v by omega] at this
  exact Nat.eq_of_beq_eq_true this
theorem bitCount_n {v : Nat} (h : v < 65536) : F_J6_bitCount_0f7a4 (nI v) = nI (popK v) := by
  rw [F_J6_bitCount_0f7a4_eq]
  unfold Fr_J6_bitCount_0f7a4 popK
  have l1 : (v / 2 ^ 1) &&& 1431655765 ≤ v / 2 ^ 1 := Nat.and_le_left
  have s1 : nI v - (ush (nI v) 1 &&& 1431655765) = nI (v - ((v / 2 ^ 1) &&& 1431655765)) := by
    rw [show (1 : Int32) = nI 1 from rfl, ush_nI (by omega) (by omega), show (1431655765 : Int32) = nI 1431655765 from rfl, nI_and (by omega) (by decide), pk_sub (by omega)]
  simp only [s1]
  have d1 : v - ((v / 2 ^ 1) &&& 1431655765) = Nat.sub v (Nat.land (Nat.shiftRight v 1) 1431655765) := by
    show _ = v - ((v >>> 1) &&& 1431655765)
    rw [Nat.shiftRight_eq_div_pow]
  rw [← d1]
  have b1 : v - ((v / 2 ^ 1) &&& 1431655765) < 65536 := by omega
  generalize v - ((v / 2 ^ 1) &&& 1431655765) = v1 at b1 ⊢
  have l2 : v1 &&& 858993459 ≤ v1 := Nat.and_le_left
  have l3 : (v1 / 2 ^ 2) &&& 858993459 ≤ v1 / 2 ^ 2 := Nat.and_le_left
  have s2 : (nI v1 &&& 858993459) + (ush (nI v1) 2 &&& 858993459) = nI ((v1 &&& 858993459) + ((v1 / 2 ^ 2) &&& 858993459)) := by
    rw [show (2 : Int32) = nI 2 from rfl, ush_nI (by omega) (by omega), show (858993459 : Int32) = nI 858993459 from rfl, nI_and (by omega) (by decide), nI_and (by omega) (by decide), nI_add]
  simp only [s2]
  have d2 : (v1 &&& 858993459) + ((v1 / 2 ^ 2) &&& 858993459) = Nat.add (Nat.land v1 858993459) (Nat.land (Nat.shiftRight v1 2) 858993459) := by
    show _ = (v1 &&& 858993459) + ((v1 >>> 2) &&& 858993459)
    rw [Nat.shiftRight_eq_div_pow]
  rw [← d2]
  have b2 : (v1 &&& 858993459) + ((v1 / 2 ^ 2) &&& 858993459) < 131072 := by omega
  generalize (v1 &&& 858993459) + ((v1 / 2 ^ 2) &&& 858993459) = v2 at b2 ⊢
  have l4 : (v2 + v2 / 2 ^ 4) &&& 252645135 ≤ v2 + v2 / 2 ^ 4 := Nat.and_le_left
  have s3 : (nI v2 + ush (nI v2) 4) &&& 252645135 = nI ((v2 + v2 / 2 ^ 4) &&& 252645135) := by
    rw [show (4 : Int32) = nI 4 from rfl, ush_nI (by omega) (by omega), show (252645135 : Int32) = nI 252645135 from rfl, nI_add, nI_and (by omega) (by decide)]
  simp only [s3]
  have d3 : (v2 + v2 / 2 ^ 4) &&& 252645135 = Nat.land (Nat.add v2 (Nat.shiftRight v2 4)) 252645135 := by
    show _ = (v2 + v2 >>> 4) &&& 252645135
    rw [Nat.shiftRight_eq_div_pow]
  rw [← d3]
  have b3 : (v2 + v2 / 2 ^ 4) &&& 252645135 < 262144 := by omega
  generalize (v2 + v2 / 2 ^ 4) &&& 252645135 = v3 at b3 ⊢
  have s4 : nI v3 + ush (nI v3) 8 = nI (v3 + v3 / 2 ^ 8) := by
    rw [show (8 : Int32) = nI 8 from rfl, ush_nI (by omega) (by omega), nI_add]
  simp only [s4]
  have d4 : v3 + v3 / 2 ^ 8 = Nat.add v3 (Nat.shiftRight v3 8) := by
    show _ = v3 + v3 >>> 8
    rw [Nat.shiftRight_eq_div_pow]
  rw [← d4]
  have b4 : v3 + v3 / 2 ^ 8 < 524288 := by omega
  generalize v3 + v3 / 2 ^ 8 = v4 at b4 ⊢
  rw [show (16 : Int32) = nI 16 from rfl, ush_nI (by omega) (by omega), nI_add, show (63 : Int32) = nI 63 from rfl, nI_and (by omega) (by decide)]
  congr 1
  show _ = (v4 + v4 >>> 16) &&& 63
  rw [Nat.shiftRight_eq_div_pow]
theorem zer_le (v : Nat) : ∀ k, zer v k ≤ k := by
  intro k
  induction k with
  | zero => exact Nat.le_refl _
  | succ k ih => have : 1 - v / 2 ^ k % 2 ≤ 1 := Nat.sub_le _ _; simp only [zer]; omega
theorem c_score {a b : Nat} (ha : a < 65536) (hb : b < 65536) : F_X9_scoreOf (nI a) (nI b) = nI (zer (a ^^^ b) 16) := by
  rw [F_X9_scoreOf_eq]
  unfold Fr_X9_scoreOf
  have hx : a ^^^ b < 65536 := Nat.xor_lt_two_pow (n := 16) ha hb
  have z := zer_zerK (a ^^^ b)
  rw [nI_xor ha hb, pk_andN (by omega) (m := 65535) 16 rfl, Nat.mod_eq_of_lt (by omega), bitCount_n hx, popK_le hx, show (16 : Int32) = nI 16 from rfl, pk_sub (by omega)]
  congr 1; omega
theorem shr_lN {v k : Nat} (hv : v < 65536) (hk : k < 16) : (lN v >>> ((nI k).toInt64 &&& 63)) &&& 1 = lN (v / 2 ^ k % 2) := by
  have hs : ((nI k).toInt64 &&& 63).toBitVec.smod 64 = BitVec.ofNat 64 k := by
    rcases (show k = 0 ∨ k = 1 ∨ k = 2 ∨ k = 3 ∨ k = 4 ∨ k = 5 ∨ k = 6 ∨ k = 7 ∨ k = 8 ∨ k = 9 ∨ k = 10 ∨ k = 11 ∨ k = 12 ∨ k = 13 ∨ k = 14 ∨ k = 15 by omega) with rfl | rfl | rfl | rfl | rfl | rfl | rfl | rfl | rfl | rfl | rfl | rfl | rfl | rfl | rfl | rfl <;> rfl
  apply i64e
  have e1 : (lN v >>> ((nI k).toInt64 &&& 63)).toBitVec = (lN v).toBitVec.sshiftRight k := by
    show (lN v).toBitVec.sshiftRight (((nI k).toInt64 &&& 63).toBitVec.smod 64).toNat = _
    rw [hs, BitVec.toNat_ofNat, Nat.mod_eq_of_lt (by omega)]
  have m0 : (lN v).toBitVec.msb = false := by
    rw [BitVec.msb_eq_decide, lN_nt (by omega)]
    exact decide_eq_false (by omega)
  rw [Int64.toBitVec_and, e1, BitVec.sshiftRight_eq_of_msb_false m0, BitVec.toNat_and, BitVec.toNat_ushiftRight, lN_nt (by omega), Nat.shiftRight_eq_div_pow, show (1 : Int64).toBitVec.toNat = 1 from rfl, Nat.and_one_is_mod, lN_nt (by omega)]
theorem lN_xr {a b : Nat} (ha : a < 2 ^ 16) (hb : b < 2 ^ 16) : lN a ^^^ lN b = lN (a ^^^ b) := by
  have : a ^^^ b < 2 ^ 16 := Nat.xor_lt_two_pow ha hb
  apply i64e
  rw [Int64.toBitVec_xor, BitVec.toNat_xor, lN_nt (by omega), lN_nt (by omega), lN_nt (by omega)]
theorem r_score {τ : gS} {c a : Nat} (hc : c < 16) (ha : a < 65536) (e : τ 199 45 = nI a) : Q_X10_scoreOf τ (nI c) ∧ F_X10_scoreOf τ (nI c) = nI (zer (be2 (rwR τ c 2) 21 ^^^ a) 16) := by
  have b2 := be2_lt (rwR τ c 2) 21
  have f : Q_X10_field τ (nI c) 2 21 2 ∧ F_X10_field τ (nI c) 2 21 2 = lN (be2 (rwR τ c 2) 21) := by
    have := r_field (τ := τ) (p := 2) (i := 21) (n := 2) hc (by omega) (by omega) (by omega)
    rw [beN_2] at this; exact this
  rw [F_X10_scoreOf_eq]
  unfold Q_X10_scoreOf Fr_X10_scoreOf
  rw [f.2, e, nI_l (by omega), lN_xr b2 ha]
  have hv : be2 (rwR τ c 2) 21 ^^^ a < 65536 := Nat.xor_lt_two_pow (n := 16) b2 ha
  generalize be2 (rwR τ c 2) 21 ^^^ a = v at hv ⊢
  have lp := lpF (fun f d (_ : Unit) => QG_X10_scoreOf_L22 (nI c) τ f (lN v) (nI (zer v d)) (nI d) ∧ G_X10_scoreOf_L22 (nI c) τ f (lN v) (nI (zer v d)) (nI d) = nI (zer v 16)) (fun _ _ => True) 16 (by
    intro f _ _
    unfold QG_X10_scoreOf_L22 G_X10_scoreOf_L22
    have c1 : (16 : Int32) ≤ nI 16 := nI_le (a := 16) (Nat.le_refl _) (by decide)
    simp only [if_pos c1]
    exact ⟨trivial, trivial⟩) (by
    intro f d _ hd _ k
    unfold QG_X10_scoreOf_L22 G_X10_scoreOf_L22
    have c1 : ¬ (16 : Int32) ≤ nI d := nI_ge (b := 16) hd (by decide)
    have q := k () trivial
    simp only [if_neg c1, shr_lN hv hd, nI_i1, show (0 : Int64) = lN 0 from rfl]
    have bb : v / 2 ^ d % 2 < 2 := Nat.mod_lt _ (by decide)
    by_cases h : v / 2 ^ d % 2 = 0
    · have c2 := (lc_eq (a := v / 2 ^ d % 2) (b := 0) (by omega) (by omega)).mpr h
      have e1 : zer v (d + 1) = zer v d + 1 := by simp only [zer]; omega
      rw [e1] at q
      simp only [if_pos c2, nI_1]; exact q
    · have c2 : ¬ _ := fun z => h ((lc_eq (a := v / 2 ^ d % 2) (b := 0) (by omega) (by omega)).mp z)
      have e1 : zer v (d + 1) = zer v d := by simp only [zer]; omega
      have e2 : nI (zer v d) + (0 : Int32) = nI (zer v d) := nI_add _ 0
      rw [e1] at q
      simp only [if_neg c2, e2]; exact q) 4000 0 () (Nat.zero_le _) (by omega) trivial
  exact ⟨⟨f.1, lp.1⟩, lp.2⟩
