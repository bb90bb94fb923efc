/-! Frames: what a method of the class leaves of the reference's places, and the other way round; by program -/
theorem pf_ne {σ : gS} {a k b : Nat} {v : Int32} (h : b ≠ a) : pf σ a k v b = σ b := vu_n h
theorem ite_or {α : Type} {c : Prop} [Decidable c] {a b f : α} (h : (if c then a else b) = f) : (c ∧ a = f) ∨ (¬ c ∧ b = f) := by
  by_cases hc : c
  · exact Or.inl ⟨hc, ite_p h hc⟩
  · exact Or.inr ⟨hc, ite_n h hc⟩
theorem fh_X0_addByte {b : Nat} {σ : gS} {j N : Nat} {p0 : Int32} (h1 : b ≠ j) (h2 : b ≠ j + 1) (hQ : Q_X0_addByte σ j N p0) : (F_X0_addByte σ j N p0) b = σ b := by
  generalize hF : F_X0_addByte σ j N p0 = fr
  rw [F_X0_addByte_eq] at hF
  unfold Fr_X0_addByte at hF
  unfold Q_X0_addByte at hQ
  rcases ite_or hF with ⟨d1, hF⟩ | ⟨d1, hF⟩
  · replace hQ := ite_q hQ d1
    subst hF
    exact rfl
  · replace hQ := ite_r hQ d1
    rcases ite_or hF with ⟨d2, hF⟩ | ⟨d2, hF⟩
    · replace hQ := ite_q hQ d2
      subst hF
      exact rfl
    · replace hQ := ite_r hQ d2
      have o3 := hQ.1
      replace hQ := hQ.2
      subst hF
      exact ((pf_ne h1).trans ((pf_ne h2).trans rfl))
theorem fh_X0_addTwo {b : Nat} {σ : gS} {j N : Nat} {p0 : Int32} (h1 : b ≠ j) (h2 : b ≠ j + 1) (hQ : Q_X0_addTwo σ j N p0) : (F_X0_addTwo σ j N p0) b = σ b := by
  generalize hF : F_X0_addTwo σ j N p0 = fr
  rw [F_X0_addTwo_eq] at hF
  unfold Fr_X0_addTwo at hF
  unfold Q_X0_addTwo at hQ
  have o1 := hQ.1
  replace hQ := hQ.2
  have o4 := hQ.1
  replace hQ := hQ.2
  subst hF
  exact ((fh_X0_addByte h1 h2 o4).trans ((fh_X0_addByte h1 h2 o1).trans rfl))
theorem fh_X0_addFour {b : Nat} {σ : gS} {j N : Nat} {p0 : Int32} (h1 : b ≠ j) (h2 : b ≠ j + 1) (hQ : Q_X0_addFour σ j N p0) : (F_X0_addFour σ j N p0) b = σ b := by
  generalize hF : F_X0_addFour σ j N p0 = fr
  rw [F_X0_addFour_eq] at hF
  unfold Fr_X0_addFour at hF
  unfold Q_X0_addFour at hQ
  rcases ite_or hF with ⟨d1, hF⟩ | ⟨d1, hF⟩
  · replace hQ := ite_q hQ d1
    subst hF
    exact rfl
  · replace hQ := ite_r hQ d1
    rcases ite_or hF with ⟨d2, hF⟩ | ⟨d2, hF⟩
    · replace hQ := ite_q hQ d2
      subst hF
      exact rfl
    · replace hQ := ite_r hQ d2
      have o3 := hQ.1
      replace hQ := hQ.2
      have o5 := hQ.1
      replace hQ := hQ.2
      have o7 := hQ.1
      replace hQ := hQ.2
      have o9 := hQ.1
      replace hQ := hQ.2
      subst hF
      exact ((pf_ne h1).trans ((pf_ne h2).trans ((pf_ne h2).trans ((pf_ne h2).trans ((pf_ne h2).trans rfl)))))
theorem fh_X0_copyFrom {b : Nat} {σ : gS} {j N j2 N2 : Nat}  (h1 : b ≠ j) (h2 : b ≠ j + 1) (hQ : Q_X0_copyFrom σ j N j2 N2 ) : (F_X0_copyFrom σ j N j2 N2 ) b = σ b := by
  generalize hF : F_X0_copyFrom σ j N j2 N2  = fr
  rw [F_X0_copyFrom_eq] at hF
  unfold Fr_X0_copyFrom at hF
  unfold Q_X0_copyFrom at hQ
  have o2 := hQ.1
  replace hQ := hQ.2
  subst hF
  exact ((vu_n h2).trans ((pf_ne h1).trans rfl))
theorem fh_X3_beginLook {b : Nat} {σ : gS}  (hb : 199 ≤ b)  : (F_X3_beginLook σ ) b = σ b := by
  generalize hF : F_X3_beginLook σ  = fr
  rw [F_X3_beginLook_eq] at hF
  unfold Fr_X3_beginLook at hF
  rcases ite_or hF with ⟨d1, hF⟩ | ⟨d1, hF⟩
  · skip
    subst hF
    exact ((pf_ne (by omega)).trans ((pf_ne (by omega)).trans rfl))
  · skip
    subst hF
    exact ((pf_ne (by omega)).trans ((pf_ne (by omega)).trans rfl))
theorem fh_X3_endLook {b : Nat} {σ : gS}  (hb : 199 ≤ b)  : (F_X3_endLook σ ).2 b = σ b := by
  generalize hF : F_X3_endLook σ  = fr
  rw [F_X3_endLook_eq] at hF
  unfold Fr_X3_endLook at hF
  rcases ite_or hF with ⟨d1, hF⟩ | ⟨d1, hF⟩
  · skip
    subst hF
    exact ((pf_ne (by omega)).trans ((pf_ne (by omega)).trans rfl))
  · skip
    subst hF
    exact ((pf_ne (by omega)).trans ((pf_ne (by omega)).trans rfl))
theorem fh_X3_append {b : Nat} {σ : gS} {p0 : Int32} {p1 : Int32} {p2 : Int32} {p3 : Int32} {p4 : Int32} (hb : 199 ≤ b) (hQ : Q_X3_append σ p0 p1 p2 p3 p4) : (F_X3_append σ p0 p1 p2 p3 p4) b = σ b := by
  generalize hF : F_X3_append σ p0 p1 p2 p3 p4 = fr
  rw [F_X3_append_eq] at hF
  unfold Fr_X3_append at hF
  unfold Q_X3_append at hQ
  have o1 := hQ.1
  replace hQ := hQ.2
  have o4 := hQ.1
  replace hQ := hQ.2
  have o7 := hQ.1
  replace hQ := hQ.2
  have o10 := hQ.1
  replace hQ := hQ.2
  have o13 := hQ.1
  replace hQ := hQ.2
  have o16 := hQ.1
  replace hQ := hQ.2
  have o19 := hQ.1
  replace hQ := hQ.2
  rcases ite_or hF with ⟨d1, hF⟩ | ⟨d1, hF⟩
  · replace hQ := ite_q hQ d1
    subst hF
    exact ((pf_ne (by omega)).trans ((pf_ne (by omega)).trans ((pf_ne (by omega)).trans ((pf_ne (by omega)).trans ((fh_X0_addFour (by omega) (by omega) o19).trans ((fh_X0_addByte (by omega) (by omega) o16).trans ((fh_X0_addByte (by omega) (by omega) o13).trans ((fh_X0_addByte (by omega) (by omega) o10).trans ((fh_X0_addByte (by omega) (by omega) o7).trans ((fh_X0_addFour (by omega) (by omega) o4).trans ((fh_X0_addFour (by omega) (by omega) o1).trans rfl)))))))))))
  · replace hQ := ite_r hQ d1
    subst hF
    exact ((pf_ne (by omega)).trans ((pf_ne (by omega)).trans ((pf_ne (by omega)).trans ((pf_ne (by omega)).trans ((fh_X0_addFour (by omega) (by omega) o19).trans ((fh_X0_addByte (by omega) (by omega) o16).trans ((fh_X0_addByte (by omega) (by omega) o13).trans ((fh_X0_addByte (by omega) (by omega) o10).trans ((fh_X0_addByte (by omega) (by omega) o7).trans ((fh_X0_addFour (by omega) (by omega) o4).trans ((fh_X0_addFour (by omega) (by omega) o1).trans rfl)))))))))))
theorem fh_X3_dropOldest {b : Nat} {σ : gS} {p0 : Int32} (hb : 199 ≤ b) (hQ : Q_X3_dropOldest σ p0) : (F_X3_dropOldest σ p0) b = σ b := by
  generalize hF : F_X3_dropOldest σ p0 = fr
  rw [F_X3_dropOldest_eq] at hF
  unfold Fr_X3_dropOldest at hF
  unfold Q_X3_dropOldest at hQ
  have o2 := hQ.1
  replace hQ := hQ.2
  subst hF
  exact ((pf_ne (by omega)).trans ((pf_ne (by omega)).trans ((vu_n (by omega)).trans rfl)))
theorem fh_X3_write {b : Nat} {σ : gS} {p0 : Int32} {p1 : Int32} {p2 : Int32} {p3 : Int32} {p4 : Int32} (hb : 199 ≤ b) (hQ : Q_X3_write σ p0 p1 p2 p3 p4) : (F_X3_write σ p0 p1 p2 p3 p4).2 b = σ b := by
  generalize hF : F_X3_write σ p0 p1 p2 p3 p4 = fr
  rw [F_X3_write_eq] at hF
  unfold Fr_X3_write at hF
  unfold Q_X3_write at hQ
  rcases ite_or hF with ⟨d1, hF⟩ | ⟨d1, hF⟩
  · replace hQ := ite_q hQ d1
    rcases ite_or hF with ⟨d2, hF⟩ | ⟨d2, hF⟩
    · replace hQ := ite_q hQ d2
      subst hF
      exact rfl
    · replace hQ := ite_r hQ d2
      have o3 := hQ.1
      replace hQ := hQ.2
      subst hF
      exact ((fh_X3_append hb o3).trans rfl)
  · replace hQ := ite_r hQ d1
    rcases ite_or hF with ⟨d3, hF⟩ | ⟨d3, hF⟩
    · replace hQ := ite_q hQ d3
      rcases ite_or hF with ⟨d4, hF⟩ | ⟨d4, hF⟩
      · replace hQ := ite_q hQ d4
        subst hF
        exact rfl
      · replace hQ := ite_r hQ d4
        have o8 := hQ.1
        replace hQ := hQ.2
        subst hF
        exact ((fh_X3_append hb o8).trans rfl)
    · replace hQ := ite_r hQ d3
      have o11 := hQ.1
      replace hQ := hQ.2
      have o15 := hQ.1
      replace hQ := hQ.2
      rcases ite_or hF with ⟨d5, hF⟩ | ⟨d5, hF⟩
      · replace hQ := ite_q hQ d5
        subst hF
        exact ((fh_X3_append hb o15).trans ((pf_ne (by omega)).trans ((fh_X3_dropOldest hb o11).trans rfl)))
      · replace hQ := ite_r hQ d5
        have o19 := hQ.1
        replace hQ := hQ.2
        subst hF
        exact ((fh_X3_append hb o19).trans ((fh_X3_append hb o15).trans ((pf_ne (by omega)).trans ((fh_X3_dropOldest hb o11).trans rfl))))
theorem fh_X3_clearOldest {b : Nat} {σ : gS} {p0 : Int32} (hb : 199 ≤ b) (hQ : Q_X3_clearOldest σ p0) : (F_X3_clearOldest σ p0) b = σ b := by
  generalize hF : F_X3_clearOldest σ p0 = fr
  rw [F_X3_clearOldest_eq] at hF
  unfold Fr_X3_clearOldest at hF
  unfold Q_X3_clearOldest at hQ
  have o1 := hQ.1
  replace hQ := hQ.2
  rcases ite_or hF with ⟨d1, hF⟩ | ⟨d1, hF⟩
  · replace hQ := ite_q hQ d1
    subst hF
    exact ((fh_X3_dropOldest hb o1).trans rfl)
  · replace hQ := ite_r hQ d1
    subst hF
    exact ((pf_ne (by omega)).trans ((fh_X3_dropOldest hb o1).trans rfl))
theorem fhG_X3_copyOldest_L2 {b : Nat} {p0 : Int32} (hb : 199 ≤ b) : ∀ (n : Nat) (y3 : Int32) (σ : gS), QG_X3_copyOldest_L2 p0 n y3 σ → (G_X3_copyOldest_L2 p0 n y3 σ) b = σ b := by
  intro n
  induction n with
  | zero => intro y3 σ hQ; exact absurd hQ (by unfold QG_X3_copyOldest_L2; exact id)
  | succ n ihL2 =>
    intro y3 σ hQ
    generalize hF : G_X3_copyOldest_L2 p0 (n + 1) y3 σ = fr
    unfold G_X3_copyOldest_L2 at hF
    unfold QG_X3_copyOldest_L2 at hQ
    rcases ite_or hF with ⟨d1, hF⟩ | ⟨d1, hF⟩
    · replace hQ := ite_q hQ d1
      subst hF
      exact rfl
    · replace hQ := ite_r hQ d1
      have o2 := hQ.1
      replace hQ := hQ.2
      have o4 := hQ.1
      replace hQ := hQ.2
      subst hF
      exact (ihL2 _ _ hQ).trans ((fh_X0_addByte (by omega) (by omega) o4).trans rfl)
theorem fh_X3_copyOldest {b : Nat} {σ : gS} {p0 : Int32} (hb : 199 ≤ b) (hQ : Q_X3_copyOldest σ p0) : (F_X3_copyOldest σ p0) b = σ b := by
  generalize hF : F_X3_copyOldest σ p0 = fr
  rw [F_X3_copyOldest_eq] at hF
  unfold Fr_X3_copyOldest at hF
  unfold Q_X3_copyOldest at hQ
  subst hF
  exact (fhG_X3_copyOldest_L2 hb 4000 _ _ hQ).trans rfl
theorem fh_X7_useKey {b : Nat} {σ : gS} {p0 : Int32} {p1 : Int32} {p2 : Int32} {p3 : Int32} (hb : 199 ≤ b)  : (F_X7_useKey σ p0 p1 p2 p3) b = σ b := by
  generalize hF : F_X7_useKey σ p0 p1 p2 p3 = fr
  rw [F_X7_useKey_eq] at hF
  unfold Fr_X7_useKey at hF
  subst hF
  exact ((pf_ne (by omega)).trans ((pf_ne (by omega)).trans ((pf_ne (by omega)).trans ((pf_ne (by omega)).trans rfl))))
theorem fhG_X7_beginWithKey_L2 {b : Nat} {p0 : Int32} (hb : 199 ≤ b) : ∀ (n : Nat) (y2 : Int32) (σ : gS), QG_X7_beginWithKey_L2 p0 n y2 σ → (G_X7_beginWithKey_L2 p0 n y2 σ) b = σ b := by
  intro n
  induction n with
  | zero => intro y2 σ hQ; exact absurd hQ (by unfold QG_X7_beginWithKey_L2; exact id)
  | succ n ihL2 =>
    intro y2 σ hQ
    generalize hF : G_X7_beginWithKey_L2 p0 (n + 1) y2 σ = fr
    unfold G_X7_beginWithKey_L2 at hF
    unfold QG_X7_beginWithKey_L2 at hQ
    rcases ite_or hF with ⟨d1, hF⟩ | ⟨d1, hF⟩
    · replace hQ := ite_q hQ d1
      subst hF
      exact rfl
    · replace hQ := ite_r hQ d1
      rcases ite_or hF with ⟨d2, hF⟩ | ⟨d2, hF⟩
      · replace hQ := ite_q hQ d2
        have o3 := hQ.1
        replace hQ := hQ.2
        subst hF
        exact (ihL2 _ _ hQ).trans ((pf_ne (by omega)).trans rfl)
      · replace hQ := ite_r hQ d2
        have o5 := hQ.1
        replace hQ := hQ.2
        have o8 := hQ.1
        replace hQ := hQ.2
        subst hF
        exact (ihL2 _ _ hQ).trans ((pf_ne (by omega)).trans rfl)
theorem fh_X7_beginWithKey {b : Nat} {σ : gS} {p0 : Int32} (hb : 199 ≤ b) (hQ : Q_X7_beginWithKey σ p0) : (F_X7_beginWithKey σ p0) b = σ b := by
  generalize hF : F_X7_beginWithKey σ p0 = fr
  rw [F_X7_beginWithKey_eq] at hF
  unfold Fr_X7_beginWithKey at hF
  unfold Q_X7_beginWithKey at hQ
  subst hF
  exact (fhG_X7_beginWithKey_L2 hb 4000 _ _ hQ).trans rfl
theorem fhG_X7_spreadWords_L87 {b : Nat} {p0 : Int32} (hb : 199 ≤ b) : ∀ (n : Nat) (y2 : Int32) (σ : gS), QG_X7_spreadWords_L87 p0 n y2 σ → (G_X7_spreadWords_L87 p0 n y2 σ) b = σ b := by
  intro n
  induction n with
  | zero => intro y2 σ hQ; exact absurd hQ (by unfold QG_X7_spreadWords_L87; exact id)
  | succ n ihL87 =>
    intro y2 σ hQ
    generalize hF : G_X7_spreadWords_L87 p0 (n + 1) y2 σ = fr
    unfold G_X7_spreadWords_L87 at hF
    unfold QG_X7_spreadWords_L87 at hQ
    rcases ite_or hF with ⟨d1, hF⟩ | ⟨d1, hF⟩
    · replace hQ := ite_q hQ d1
      subst hF
      exact rfl
    · replace hQ := ite_r hQ d1
      have o3 := hQ.1
      replace hQ := hQ.2
      have o5 := hQ.1
      replace hQ := hQ.2
      have o9 := hQ.1
      replace hQ := hQ.2
      have o10 := hQ.1
      replace hQ := hQ.2
      have o11 := hQ.1
      replace hQ := hQ.2
      subst hF
      exact (ihL87 _ _ hQ).trans ((pf_ne (by omega)).trans rfl)
theorem fhG_X7_spreadWords_L2 {b : Nat} {p0 : Int32} (hb : 199 ≤ b) : ∀ (n : Nat) (y2 : Int32) (σ : gS), QG_X7_spreadWords_L2 p0 n y2 σ → (G_X7_spreadWords_L2 p0 n y2 σ) b = σ b := by
  intro n
  induction n with
  | zero => intro y2 σ hQ; exact absurd hQ (by unfold QG_X7_spreadWords_L2; exact id)
  | succ n ihL2 =>
    intro y2 σ hQ
    generalize hF : G_X7_spreadWords_L2 p0 (n + 1) y2 σ = fr
    unfold G_X7_spreadWords_L2 at hF
    unfold QG_X7_spreadWords_L2 at hQ
    rcases ite_or hF with ⟨d2, hF⟩ | ⟨d2, hF⟩
    · replace hQ := ite_q hQ d2
      subst hF
      exact (fhG_X7_spreadWords_L87 hb 4000 _ _ hQ).trans rfl
    · replace hQ := ite_r hQ d2
      have o14 := hQ.1
      replace hQ := hQ.2
      have o15 := hQ.1
      replace hQ := hQ.2
      have o16 := hQ.1
      replace hQ := hQ.2
      have o17 := hQ.1
      replace hQ := hQ.2
      have o18 := hQ.1
      replace hQ := hQ.2
      subst hF
      exact (ihL2 _ _ hQ).trans ((pf_ne (by omega)).trans rfl)
theorem fh_X7_spreadWords {b : Nat} {σ : gS} {p0 : Int32} (hb : 199 ≤ b) (hQ : Q_X7_spreadWords σ p0) : (F_X7_spreadWords σ p0) b = σ b := by
  generalize hF : F_X7_spreadWords σ p0 = fr
  rw [F_X7_spreadWords_eq] at hF
  unfold Fr_X7_spreadWords at hF
  unfold Q_X7_spreadWords at hQ
  subst hF
  exact (fhG_X7_spreadWords_L2 hb 4000 _ _ hQ).trans rfl
theorem fhG_X7_mixWords_L66 {b : Nat}  (hb : 199 ≤ b) : ∀ (n : Nat) (y1 : Int32) (y2 : Int32) (y3 : Int32) (y4 : Int32) (y5 : Int32) (y6 : Int32) (y7 : Int32) (y8 : Int32) (y9 : Int32) (σ : gS), QG_X7_mixWords_L66  n y1 y2 y3 y4 y5 y6 y7 y8 y9 σ → (G_X7_mixWords_L66  n y1 y2 y3 y4 y5 y6 y7 y8 y9 σ) b = σ b := by
  intro n
  induction n with
  | zero => intro y1 y2 y3 y4 y5 y6 y7 y8 y9 σ hQ; exact absurd hQ (by unfold QG_X7_mixWords_L66; exact id)
  | succ n ihL66 =>
    intro y1 y2 y3 y4 y5 y6 y7 y8 y9 σ hQ
    generalize hF : G_X7_mixWords_L66  (n + 1) y1 y2 y3 y4 y5 y6 y7 y8 y9 σ = fr
    unfold G_X7_mixWords_L66 at hF
    unfold QG_X7_mixWords_L66 at hQ
    rcases ite_or hF with ⟨d1, hF⟩ | ⟨d1, hF⟩
    · replace hQ := ite_q hQ d1
      subst hF
      exact ((pf_ne (by omega)).trans ((pf_ne (by omega)).trans ((pf_ne (by omega)).trans ((pf_ne (by omega)).trans ((pf_ne (by omega)).trans ((pf_ne (by omega)).trans ((pf_ne (by omega)).trans ((pf_ne (by omega)).trans rfl))))))))
    · replace hQ := ite_r hQ d1
      have o11 := hQ.1
      replace hQ := hQ.2
      have o12 := hQ.1
      replace hQ := hQ.2
      subst hF
      exact (ihL66 _ _ _ _ _ _ _ _ _ _ hQ).trans rfl
theorem fh_X7_mixWords {b : Nat} {σ : gS}  (hb : 199 ≤ b) (hQ : Q_X7_mixWords σ ) : (F_X7_mixWords σ ) b = σ b := by
  generalize hF : F_X7_mixWords σ  = fr
  rw [F_X7_mixWords_eq] at hF
  unfold Fr_X7_mixWords at hF
  unfold Q_X7_mixWords at hQ
  subst hF
  exact (fhG_X7_mixWords_L66 hb 4000 _ _ _ _ _ _ _ _ _ _ hQ).trans rfl
theorem fhG_X7_hashText_L108 {b : Nat} {p0 : Int32} (hb : 199 ≤ b) : ∀ (n : Nat) (y2 : Int32) (y3 : Int32) (σ : gS), QG_X7_hashText_L108 p0 n y2 y3 σ → (G_X7_hashText_L108 p0 n y2 y3 σ) b = σ b := by
  intro n
  induction n with
  | zero => intro y2 y3 σ hQ; exact absurd hQ (by unfold QG_X7_hashText_L108; exact id)
  | succ n ihL108 =>
    intro y2 y3 σ hQ
    generalize hF : G_X7_hashText_L108 p0 (n + 1) y2 y3 σ = fr
    unfold G_X7_hashText_L108 at hF
    unfold QG_X7_hashText_L108 at hQ
    rcases ite_or hF with ⟨d1, hF⟩ | ⟨d1, hF⟩
    · replace hQ := ite_q hQ d1
      subst hF
      exact rfl
    · replace hQ := ite_r hQ d1
      have o10 := hQ.1
      replace hQ := hQ.2
      have o13 := hQ.1
      replace hQ := hQ.2
      subst hF
      exact (ihL108 _ _ _ hQ).trans ((fh_X7_mixWords hb o13).trans ((fh_X7_spreadWords hb o10).trans rfl))
theorem fhG_X7_hashText_L62 {b : Nat} {p0 : Int32} (hb : 199 ≤ b) : ∀ (n : Nat) (y2 : Int32) (y3 : Int32) (σ : gS), QG_X7_hashText_L62 p0 n y2 y3 σ → (G_X7_hashText_L62 p0 n y2 y3 σ) b = σ b := by
  intro n
  induction n with
  | zero => intro y2 y3 σ hQ; exact absurd hQ (by unfold QG_X7_hashText_L62; exact id)
  | succ n ihL62 =>
    intro y2 y3 σ hQ
    generalize hF : G_X7_hashText_L62 p0 (n + 1) y2 y3 σ = fr
    unfold G_X7_hashText_L62 at hF
    unfold QG_X7_hashText_L62 at hQ
    rcases ite_or hF with ⟨d2, hF⟩ | ⟨d2, hF⟩
    · replace hQ := ite_q hQ d2
      subst hF
      exact (fhG_X7_hashText_L108 hb 4000 _ _ _ hQ).trans ((vu_n (by omega)).trans rfl)
    · replace hQ := ite_r hQ d2
      have o17 := hQ.1
      replace hQ := hQ.2
      subst hF
      exact (ihL62 _ _ _ hQ).trans ((pf_ne (by omega)).trans rfl)
theorem fhG_X7_hashText_L42 {b : Nat} {p0 : Int32} (hb : 199 ≤ b) : ∀ (n : Nat) (y2 : Int32) (y3 : Int32) (σ : gS), QG_X7_hashText_L42 p0 n y2 y3 σ → (G_X7_hashText_L42 p0 n y2 y3 σ) b = σ b := by
  intro n
  induction n with
  | zero => intro y2 y3 σ hQ; exact absurd hQ (by unfold QG_X7_hashText_L42; exact id)
  | succ n ihL42 =>
    intro y2 y3 σ hQ
    generalize hF : G_X7_hashText_L42 p0 (n + 1) y2 y3 σ = fr
    unfold G_X7_hashText_L42 at hF
    unfold QG_X7_hashText_L42 at hQ
    rcases ite_or hF with ⟨d3, hF⟩ | ⟨d3, hF⟩
    · replace hQ := ite_q hQ d3
      subst hF
      exact (fhG_X7_hashText_L62 hb 4000 _ _ _ hQ).trans rfl
    · replace hQ := ite_r hQ d3
      have o19 := hQ.1
      replace hQ := hQ.2
      subst hF
      exact (ihL42 _ _ _ hQ).trans ((pf_ne (by omega)).trans rfl)
theorem fh_X7_hashText {b : Nat} {σ : gS} {p0 : Int32} (hb : 199 ≤ b) (hQ : Q_X7_hashText σ p0) : (F_X7_hashText σ p0) b = σ b := by
  generalize hF : F_X7_hashText σ p0 = fr
  rw [F_X7_hashText_eq] at hF
  unfold Fr_X7_hashText at hF
  unfold Q_X7_hashText at hQ
  rcases ite_or hF with ⟨d4, hF⟩ | ⟨d4, hF⟩
  · replace hQ := ite_q hQ d4
    subst hF
    exact rfl
  · replace hQ := ite_r hQ d4
    rcases ite_or hF with ⟨d5, hF⟩ | ⟨d5, hF⟩
    · replace hQ := ite_q hQ d5
      have o4 := hQ.1
      replace hQ := hQ.2
      subst hF
      exact (fhG_X7_hashText_L42 hb 4000 _ _ _ hQ).trans ((pf_ne (by omega)).trans rfl)
    · replace hQ := ite_r hQ d5
      subst hF
      exact rfl
theorem fhG_X7_work_L58 {b : Nat} {j N : Nat} {p1 : Int32} (hb : 199 ≤ b) : ∀ (n : Nat) (y3 : Int32) (y4 : Int32) (σ : gS), QG_X7_work_L58 j N p1 n y3 y4 σ → (G_X7_work_L58 j N p1 n y3 y4 σ) b = σ b := by
  intro n
  induction n with
  | zero => intro y3 y4 σ hQ; exact absurd hQ (by unfold QG_X7_work_L58; exact id)
  | succ n ihL58 =>
    intro y3 y4 σ hQ
    generalize hF : G_X7_work_L58 j N p1 (n + 1) y3 y4 σ = fr
    unfold G_X7_work_L58 at hF
    unfold QG_X7_work_L58 at hQ
    rcases ite_or hF with ⟨d1, hF⟩ | ⟨d1, hF⟩
    · replace hQ := ite_q hQ d1
      have o14 := hQ.1
      replace hQ := hQ.2
      subst hF
      exact ((fh_X7_hashText hb o14).trans rfl)
    · replace hQ := ite_r hQ d1
      have o17 := hQ.1
      replace hQ := hQ.2
      have o19 := hQ.1
      replace hQ := hQ.2
      subst hF
      exact (ihL58 _ _ _ hQ).trans ((pf_ne (by omega)).trans rfl)
theorem fh_X7_work {b : Nat} {σ : gS} {j N : Nat} {p1 : Int32} (hb : 199 ≤ b) (hQ : Q_X7_work σ j N p1) : (F_X7_work σ j N p1) b = σ b := by
  generalize hF : F_X7_work σ j N p1 = fr
  rw [F_X7_work_eq] at hF
  unfold Fr_X7_work at hF
  unfold Q_X7_work at hQ
  have o2 := hQ.1
  replace hQ := hQ.2
  have o5 := hQ.1
  replace hQ := hQ.2
  have o7 := hQ.1
  replace hQ := hQ.2
  have o10 := hQ.1
  replace hQ := hQ.2
  subst hF
  exact (fhG_X7_work_L58 hb 4000 _ _ _ hQ).trans ((fh_X7_beginWithKey hb o10).trans ((fh_X7_hashText hb o7).trans ((vu_n (by omega)).trans ((fh_X7_beginWithKey hb o2).trans rfl))))
theorem fhG_X7_addSealTo_L2 {b : Nat} {j N : Nat} (hb : 199 ≤ b) (h1 : b ≠ j) (h2 : b ≠ j + 1) : ∀ (n : Nat) (y2 : Int32) (σ : gS), QG_X7_addSealTo_L2 j N n y2 σ → (G_X7_addSealTo_L2 j N n y2 σ) b = σ b := by
  intro n
  induction n with
  | zero => intro y2 σ hQ; exact absurd hQ (by unfold QG_X7_addSealTo_L2; exact id)
  | succ n ihL2 =>
    intro y2 σ hQ
    generalize hF : G_X7_addSealTo_L2 j N (n + 1) y2 σ = fr
    unfold G_X7_addSealTo_L2 at hF
    unfold QG_X7_addSealTo_L2 at hQ
    rcases ite_or hF with ⟨d1, hF⟩ | ⟨d1, hF⟩
    · replace hQ := ite_q hQ d1
      subst hF
      exact rfl
    · replace hQ := ite_r hQ d1
      have o2 := hQ.1
      replace hQ := hQ.2
      have o4 := hQ.1
      replace hQ := hQ.2
      subst hF
      exact (ihL2 _ _ hQ).trans ((fh_X0_addByte h1 h2 o4).trans rfl)
theorem fh_X7_addSealTo {b : Nat} {σ : gS} {j N : Nat}  (hb : 199 ≤ b) (h1 : b ≠ j) (h2 : b ≠ j + 1) (hQ : Q_X7_addSealTo σ j N ) : (F_X7_addSealTo σ j N ) b = σ b := by
  generalize hF : F_X7_addSealTo σ j N  = fr
  rw [F_X7_addSealTo_eq] at hF
  unfold Fr_X7_addSealTo at hF
  unfold Q_X7_addSealTo at hQ
  subst hF
  exact (fhG_X7_addSealTo_L2 hb h1 h2 4000 _ _ hQ).trans rfl
