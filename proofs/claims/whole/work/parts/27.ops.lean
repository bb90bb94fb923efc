/-! The relation but for cards and seals; simple calls -/
def InvA (k : Nat) (σ : gS) (ζ : gQ) : Prop := ∃ n so si c m : Nat,
  pB 400 (σ 1 1) (σ 199 1) (σ 2) (σ 200) ∧
  pD (σ 0 2) (σ 3 1) (σ 199 25) (σ 4) (σ 215) ∧
  pSee (σ 0 4) (σ 199 20) (σ 0 5) (σ 199 21) (σ 0 6) (σ 199 22) (σ 0 7) (σ 199 23) (σ 0 9) (σ 199 26) (σ 15 4) (σ 199 27) ∧
  pNow (1 + 20 * k) (σ 0 10) (ζ 19) (σ 0 11) (ζ 53) ∧
  pSet (σ 6) (σ 217) ∧
  pKey n (σ 12 2) (σ 199 17) (σ 199 18) (σ 13) (σ 213) (σ 14) (σ 214) ∧
  pLat (σ 18 0) (σ 199 35) (σ 18 3) (σ 199 38) (σ 18 1) (ζ 36) (σ 18 2) (ζ 37) (σ 0 8) (σ 199 39) ∧
  pOut so (σ 19 1) (σ 199 42) (σ 19 2) (σ 199 40) (σ 19 3) (σ 199 43) (σ 19 4) (σ 199 45) (σ 19 5) (ζ 44) ∧
  pIn si n (σ 21 1) (σ 199 46) (σ 21 2) (σ 199 41) (σ 21 3) (σ 199 47) (σ 21 4) (σ 199 48) (σ 21 5) (σ 199 49) ∧
  pJ (1 + 20 * k) c m (σ 15 1) (σ 199 29) (σ 16 1) (σ 15 2) (ζ 30) (σ 15 3) (σ 199 31) (σ 17) (σ 216) ∧
  pArc si c m (σ 21 6) (σ 21 7) (σ 199 50) (σ 199 52) (σ 17) (σ 218)
theorem nlt_iff {x y : Int32} (h : ¬ x < y) : y.toInt ≤ x.toInt := by
  have := Int32.not_lt.mp h
  exact Int32.le_iff_toInt_le.mp this
theorem lt_to {x y : Int32} (h : x < y) : x.toInt < y.toInt := Int32.lt_iff_toInt_lt.mp h
theorem le_to {x y : Int32} (h : x ≤ y) : x.toInt ≤ y.toInt := Int32.le_iff_toInt_le.mp h
theorem i_m1 : (-1 : Int32).toInt = -1 := by decide
theorem i_0 : (0 : Int32).toInt = 0 := by decide
/-- an int from -1 on: none, or a number -/
theorem m1_or {x : Int32} (h : ¬ x < -1) : x = -1 ∨ ∃ n : Nat, n < 2 ^ 31 ∧ x = nI n := by
  by_cases h0 : x < 0
  · left
    have a := nlt_iff h
    have b := lt_to h0
    rw [i_m1] at a; rw [i_0] at b
    exact Int32.toInt_inj.mp (by rw [i_m1]; omega)
  · right
    exact nI_of h0
theorem nI_le_of {n N : Nat} (hn : n < 2 ^ 31) (hN : N < 2 ^ 31) (h : nI n ≤ nI N) : n ≤ N := (nI_leI hn hN).mp h
theorem s_finger {k : Nat} {σ : gS} {ζ : gQ} (f : Int32) (I : InvA k σ ζ) : (F_X9_finger σ f).1 = (F_X10_finger (F_X9_finger σ f).2 f).1 ∧ InvA k (F_X10_finger (F_X9_finger σ f).2 f).2 ζ := by
  rw [F_X9_finger_eq, F_X10_finger_eq]
  unfold Fr_X9_finger Fr_X10_finger
  by_cases h1 : f < -1
  · rw [if_pos h1]; simp only; rw [if_pos h1]; exact ⟨rfl, I⟩
  · rw [if_neg h1]
    by_cases h2 : f ≤ 65535
    · rw [if_pos h2]; simp only; rw [if_neg h1, if_pos h2]
      obtain ⟨n, so, si, c, m, i1, i2, i3, i4, i5, i6, i7, i8, i9, i10, i11⟩ := I
      refine ⟨rfl, n, so, si, c, m, i1, i2, ?_, i4, i5, i6, i7, i8, i9, i10, i11⟩
      refine ⟨i3.1, i3.2.1, i3.2.2.1, ⟨rfl, ?_⟩, i3.2.2.2.2⟩
      rcases m1_or h1 with rfl | ⟨v, hv, rfl⟩
      · exact Or.inl rfl
      · exact Or.inr ⟨v, Nat.lt_succ_of_le (nI_le_of hv (by decide) h2), rfl⟩
    · rw [if_neg h2]; simp only; rw [if_neg h1, if_neg h2]; exact ⟨rfl, I⟩
