/-! Bytes in numbers; calls that read -/
theorem vin_nI {n N : Nat} (hN : N < 2 ^ 31) {x : Int32} (h0 : ¬ x < 0) (h1 : ¬ nI N ≤ x) : vp_in x N := by
  obtain ⟨i, hi, rfl⟩ := nI_of h0
  exact vp_in_nI (Nat.lt_of_not_le (fun z => h1 ((nI_leI hN hi).mpr z))) hN
theorem q_byteOf (σ : gS) (j : Nat) {N : Nat} (hN : N < 2 ^ 31) (x : Int32) : Q_X0_byteOf σ j N x := by
  unfold Q_X0_byteOf
  by_cases h0 : x < 0
  · rw [if_pos h0]; trivial
  · rw [if_neg h0]
    by_cases h1 : σ j 1 ≤ x
    · rw [if_pos h1]; trivial
    · rw [if_neg h1]
      by_cases h2 : nI N ≤ x
      · rw [if_pos h2]; trivial
      · rw [if_neg h2]; exact ⟨vin_nI (n := 0) hN h0 h2, trivial⟩
theorem byteOf_neg {σ : gS} {j N : Nat} {x : Int32} (h : x < 0) : F_X0_byteOf σ j N x = -1 := by
  rw [F_X0_byteOf_eq]; unfold Fr_X0_byteOf; rw [if_pos h]
theorem byteOf_nat {σ : gS} {j N n i : Nat} (hn : n ≤ N) (hN : N < 2 ^ 31) (e : σ j 1 = nI n) (hi : i < 2 ^ 31) : F_X0_byteOf σ j N (nI i) = if i < n then σ (j + 1) i &&& 255 else -1 := by
  rw [F_X0_byteOf_eq]; unfold Fr_X0_byteOf
  rw [if_neg (nI_pos hi), e]
  by_cases h : i < n
  · rw [if_neg (nI_ge h (by omega)), if_neg (nI_ge (by omega) hN), if_pos h]
    show σ (j + 1) (nI i).toNatClampNeg &&& 255 = _
    rw [nI_clamp hi]
  · rw [if_pos (nI_le (by omega) hi), if_neg h]
theorem s_diskAt {k : Nat} {σ : gS} {ζ : gQ} (x : Int32) (I : InvA k σ ζ) : Q_X9_diskAt σ x ∧ Q_X10_diskAt σ x ∧ F_X9_diskAt σ x = F_X10_diskAt σ x := by
  obtain ⟨n, so, si, c, m, i1, i2, -⟩ := I
  refine ⟨?_, ?_, ?_⟩
  · unfold Q_X9_diskAt
    by_cases h : σ 0 2 = 0
    · rw [if_pos h]; trivial
    · rw [if_neg h]; exact ⟨q_byteOf σ 3 (by decide) x, trivial⟩
  · unfold Q_X10_diskAt
    by_cases h0 : x < 0
    · rw [if_pos h0]; trivial
    · rw [if_neg h0]
      by_cases h1 : σ 199 25 ≤ x
      · rw [if_pos h1]; trivial
      · rw [if_neg h1]
        rcases i2 with ⟨-, e, -⟩ | ⟨-, v, hv, -, e, -⟩
        · exfalso
          rw [e] at h1
          have a := nlt_iff h0
          rw [i_0] at a
          exact h1 (Int32.le_iff_toInt_le.mpr (by rw [i_m1]; omega))
        · rw [e] at h1
          obtain ⟨i, hi, rfl⟩ := nI_of h0
          have : ¬ v ≤ i := fun z => h1 ((nI_leI (by omega) hi).mpr z)
          exact ⟨vp_in_nI (by omega) (by decide), trivial⟩
  · rw [F_X9_diskAt_eq, F_X10_diskAt_eq]
    unfold Fr_X9_diskAt Fr_X10_diskAt
    by_cases h0 : x < 0
    · rw [if_pos h0]
      by_cases h : σ 0 2 = 0
      · rw [if_pos h]
      · rw [if_neg h, byteOf_neg h0]
    · rw [if_neg h0]
      obtain ⟨i, hi, rfl⟩ := nI_of h0
      rcases i2 with ⟨a, e, -⟩ | ⟨a, v, hv, e1, e, hb⟩
      · rw [if_pos a, e, if_pos (Int32.le_iff_toInt_le.mpr (by rw [i_m1, nI_toInt hi]; omega))]
      · rw [if_neg (by rw [a]; decide), byteOf_nat hv (by decide) e1 hi, e]
        by_cases h : i < v
        · rw [if_pos h, if_neg (nI_ge h (by omega))]
          show _ = σ 215 (nI i).toNatClampNeg &&& 255
          rw [nI_clamp hi, (hb i h).1]
        · rw [if_neg h, if_pos (nI_le (by omega) hi)]
theorem s_record {k : Nat} {σ : gS} {ζ : gQ} (x y : Int32) (I : InvA k σ ζ) : Q_X9_record σ x y ∧ Q_X10_record σ x y ∧ F_X9_record σ x y = F_X10_record σ x y := by
  obtain ⟨n, so, si, c, m, -, -, -, -, -, -, -, -, -, ⟨hc, -, -, e1, e2, e3, -, -, -, hb, -⟩, -⟩ := I
  refine ⟨⟨?_, trivial⟩, ?_, ?_⟩
  · unfold Q_X3_byteOf
    by_cases h0 : x < 0
    · rw [if_pos h0]; trivial
    · rw [if_neg h0]
      by_cases h1 : σ 15 1 ≤ x
      · rw [if_pos h1]; trivial
      · rw [if_neg h1]
        by_cases h2 : y < 0
        · rw [if_pos h2]; trivial
        · rw [if_neg h2]
          by_cases h3 : y < 16
          · rw [if_pos h3]; exact ⟨q_byteOf σ 16 (by decide) _, trivial⟩
          · rw [if_neg h3]; trivial
  · unfold Q_X10_record
    by_cases h0 : x < 0
    · rw [if_pos h0]; trivial
    · rw [if_neg h0]
      by_cases h1 : σ 199 29 ≤ x
      · rw [if_pos h1]; trivial
      · rw [if_neg h1]
        by_cases h2 : y < 0
        · rw [if_pos h2]; trivial
        · rw [if_neg h2]
          by_cases h3 : 16 ≤ y
          · rw [if_pos h3]; trivial
          · rw [if_neg h3]
            rw [e2] at h1
            obtain ⟨i, hi, rfl⟩ := nI_of h0
            obtain ⟨j, hj, rfl⟩ := nI_of h2
            have a1 : ¬ c ≤ i := fun z => h1 ((nI_leI (by omega) hi).mpr z)
            have a2 : ¬ 16 ≤ j := fun z => h3 ((nI_leI (a := 16) (by decide) hj).mpr z)
            rw [show (16 : Int32) = nI 16 from rfl, pk_mul, nI_add]
            exact ⟨vp_in_nI (by omega) (by decide), trivial⟩
  · rw [F_X9_record_eq, F_X10_record_eq]
    unfold Fr_X9_record Fr_X10_record
    rw [F_X3_byteOf_eq]; unfold Fr_X3_byteOf
    by_cases h0 : x < 0
    · rw [if_pos h0, if_pos h0]
    · rw [if_neg h0, if_neg h0, e1, e2]
      by_cases h1 : nI c ≤ x
      · rw [if_pos h1, if_pos h1]
      · rw [if_neg h1, if_neg h1]
        by_cases h2 : y < 0
        · rw [if_pos h2, if_pos h2]
        · rw [if_neg h2, if_neg h2]
          obtain ⟨i, hi, rfl⟩ := nI_of h0
          obtain ⟨j, hj, rfl⟩ := nI_of h2
          have a1 : ¬ c ≤ i := fun z => h1 ((nI_leI (by omega) hi).mpr z)
          by_cases h3 : j < 16
          · rw [if_pos (show nI j < 16 from nI_lt h3 (by decide)), if_neg (show ¬ (16 : Int32) ≤ nI j from nI_ge h3 (by decide))]
            rw [show (16 : Int32) = nI 16 from rfl, pk_mul, pk_mul, nI_add, nI_add, byteOf_nat (n := 16 * c) (by omega) (by decide) e3 (by omega), if_pos (by omega)]
            show _ = σ 216 (nI (16 * i + j)).toNatClampNeg &&& 255
            rw [nI_clamp (by omega), show i * 16 + j = 16 * i + j by omega, (hb (16 * i + j) (by omega)).1]
          · have h4 : 16 ≤ j := Nat.le_of_not_lt h3
            have h5 : ¬ nI j < 16 := nI_nlt (b := 16) h4 hj
            have h6 : (16 : Int32) ≤ nI j := nI_le (a := 16) h4 hj
            rw [if_neg h5, if_pos h6]
