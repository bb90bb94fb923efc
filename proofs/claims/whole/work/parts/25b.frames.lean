theorem fhG_X4_takeFrom_L50 {b : Nat}  (hb : 199 ≤ b) {kL23 : Int32 → gS → gS} {qL23 : Int32 → gS → Prop} (hkL23 : ∀ (y2 : Int32) (σ : gS), qL23 y2 σ → (kL23 y2 σ) b = σ b) : ∀ (n : Nat) (y2 : Int32) (y3 : Int32) (y4 : Int32) (σ : gS), QG_X4_takeFrom_L50  qL23 n y2 y3 y4 σ → (G_X4_takeFrom_L50  kL23 n y2 y3 y4 σ) b = σ b := by
  intro n
  induction n with
  | zero => intro y2 y3 y4 σ hQ; exact absurd hQ (by unfold QG_X4_takeFrom_L50; exact id)
  | succ n ihL50 =>
    intro y2 y3 y4 σ hQ
    generalize hF : G_X4_takeFrom_L50  kL23 (n + 1) y2 y3 y4 σ = fr
    unfold G_X4_takeFrom_L50 at hF
    unfold QG_X4_takeFrom_L50 at hQ
    rcases ite_or hF with ⟨d1, hF⟩ | ⟨d1, hF⟩
    · replace hQ := ite_q hQ d1
      subst hF
      exact (hkL23 _ _ hQ).trans rfl
    · replace hQ := ite_r hQ d1
      have o11 := hQ.1
      replace hQ := hQ.2
      have o13 := hQ.1
      replace hQ := hQ.2
      subst hF
      exact (ihL50 _ _ _ _ hQ).trans ((pf_ne (by omega)).trans rfl)
theorem fhG_X4_takeFrom_L23 {b : Nat}  (hb : 199 ≤ b) : ∀ (n : Nat) (y2 : Int32) (σ : gS), QG_X4_takeFrom_L23  n y2 σ → (G_X4_takeFrom_L23  n y2 σ) b = σ b := by
  intro n
  induction n with
  | zero => intro y2 σ hQ; exact absurd hQ (by unfold QG_X4_takeFrom_L23; exact id)
  | succ n ihL23 =>
    intro y2 σ hQ
    generalize hF : G_X4_takeFrom_L23  (n + 1) y2 σ = fr
    unfold G_X4_takeFrom_L23 at hF
    unfold QG_X4_takeFrom_L23 at hQ
    rcases ite_or hF with ⟨d2, hF⟩ | ⟨d2, hF⟩
    · replace hQ := ite_q hQ d2
      subst hF
      exact rfl
    · replace hQ := ite_r hQ d2
      have o6 := hQ.1
      replace hQ := hQ.2
      have o8 := hQ.1
      replace hQ := hQ.2
      subst hF
      exact (fhG_X4_takeFrom_L50 hb ihL23 4000 _ _ _ _ hQ).trans ((pf_ne (by omega)).trans rfl)
theorem fh_X4_takeFrom {b : Nat} {σ : gS}  (hb : 199 ≤ b) (hQ : Q_X4_takeFrom σ ) : (F_X4_takeFrom σ ) b = σ b := by
  generalize hF : F_X4_takeFrom σ  = fr
  rw [F_X4_takeFrom_eq] at hF
  unfold Fr_X4_takeFrom at hF
  unfold Q_X4_takeFrom at hQ
  have o1 := hQ.1
  replace hQ := hQ.2
  subst hF
  exact (fhG_X4_takeFrom_L23 hb 4000 _ _ hQ).trans ((pf_ne (by omega)).trans rfl)
theorem fh_X4_choose {b : Nat} {σ : gS} {p0 : Int32} (hb : 199 ≤ b) (hQ : Q_X4_choose σ p0) : (F_X4_choose σ p0) b = σ b := by
  generalize hF : F_X4_choose σ p0 = fr
  rw [F_X4_choose_eq] at hF
  unfold Fr_X4_choose at hF
  unfold Q_X4_choose at hQ
  rcases ite_or hF with ⟨d1, hF⟩ | ⟨d1, hF⟩
  · replace hQ := ite_q hQ d1
    subst hF
    exact rfl
  · replace hQ := ite_r hQ d1
    rcases ite_or hF with ⟨d2, hF⟩ | ⟨d2, hF⟩
    · replace hQ := ite_q hQ d2
      subst hF
      exact rfl
    · replace hQ := ite_r hQ d2
      have o3 := hQ.1
      replace hQ := hQ.2
      have o4 := hQ.1
      replace hQ := hQ.2
      have o5 := hQ.1
      replace hQ := hQ.2
      have o6 := hQ.1
      replace hQ := hQ.2
      subst hF
      exact ((fh_X7_useKey hb).trans rfl)
theorem fh_X1_emptyRow {b : Nat} {σ : gS} {c : Nat} {p0 : Int32} (hb : 199 ≤ b) (hc : c < 16) (hQ : Q_X1_emptyRow σ c p0) : (F_X1_emptyRow σ c p0) b = σ b := by
  generalize hF : F_X1_emptyRow σ c p0 = fr
  rw [F_X1_emptyRow_eq] at hF
  unfold Fr_X1_emptyRow at hF
  unfold Q_X1_emptyRow at hQ
  have o2 := hQ.1
  replace hQ := hQ.2
  have o3 := hQ.1
  replace hQ := hQ.2
  have o5 := hQ.1
  replace hQ := hQ.2
  have o7 := hQ.1
  replace hQ := hQ.2
  subst hF
  exact ((pf_ne (by have h8 := hc; have h9 := (vin_lt o7); omega)).trans ((pf_ne (by have h9 := hc; omega)).trans rfl))
theorem fh_X1_replaceRow {b : Nat} {σ : gS} {c : Nat} {p0 : Int32} (hb : 199 ≤ b) (hc : c < 16) (hQ : Q_X1_replaceRow σ c p0) : (F_X1_replaceRow σ c p0) b = σ b := by
  generalize hF : F_X1_replaceRow σ c p0 = fr
  rw [F_X1_replaceRow_eq] at hF
  unfold Fr_X1_replaceRow at hF
  unfold Q_X1_replaceRow at hQ
  have o1 := hQ.1
  replace hQ := hQ.2
  have o2 := hQ.1
  replace hQ := hQ.2
  have o5 := hQ.1
  replace hQ := hQ.2
  subst hF
  exact ((fh_X0_copyFrom (by have h8 := hc; have h9 := (vin_lt o1); omega) (by have h8 := hc; have h9 := (vin_lt o1); omega) o5).trans ((fh_X1_emptyRow hb hc o2).trans rfl))
theorem fhG_X8_isSealed_L16 {b : Nat} {j N : Nat} (hb : 199 ≤ b) : ∀ (n : Nat) (y2 : Int32) (y3 : Int32) (σ : gS), QG_X8_isSealed_L16 j N n y2 y3 σ → (G_X8_isSealed_L16 j N n y2 y3 σ).2 b = σ b := by
  intro n
  induction n with
  | zero => intro y2 y3 σ hQ; exact absurd hQ (by unfold QG_X8_isSealed_L16; exact id)
  | succ n ihL16 =>
    intro y2 y3 σ hQ
    generalize hF : G_X8_isSealed_L16 j N (n + 1) y2 y3 σ = fr
    unfold G_X8_isSealed_L16 at hF
    unfold QG_X8_isSealed_L16 at hQ
    rcases ite_or hF with ⟨d1, hF⟩ | ⟨d1, hF⟩
    · replace hQ := ite_q hQ d1
      subst hF
      exact rfl
    · replace hQ := ite_r hQ d1
      have o5 := hQ.1
      replace hQ := hQ.2
      have o7 := hQ.1
      replace hQ := hQ.2
      rcases ite_or hF with ⟨d2, hF⟩ | ⟨d2, hF⟩
      · replace hQ := ite_q hQ d2
        subst hF
        exact (ihL16 _ _ _ hQ).trans rfl
      · replace hQ := ite_r hQ d2
        subst hF
        exact rfl
theorem fh_X8_isSealed {b : Nat} {σ : gS} {j N : Nat}  (hb : 199 ≤ b) (hQ : Q_X8_isSealed σ j N ) : (F_X8_isSealed σ j N ).2 b = σ b := by
  generalize hF : F_X8_isSealed σ j N  = fr
  rw [F_X8_isSealed_eq] at hF
  unfold Fr_X8_isSealed at hF
  unfold Q_X8_isSealed at hQ
  have o1 := hQ.1
  replace hQ := hQ.2
  subst hF
  exact (fhG_X8_isSealed_L16 hb 4000 _ _ _ hQ).trans ((fh_X7_work hb o1).trans rfl)
theorem fh_X8_isGood {b : Nat} {σ : gS} {c : Nat} {p1 : Int32} {p4 : Int32} (hb : 199 ≤ b) (hc : c < 16) (hQ : Q_X8_isGood σ c p1 p4) : (F_X8_isGood σ c p1 p4).2 b = σ b := by
  generalize hF : F_X8_isGood σ c p1 p4 = fr
  rw [F_X8_isGood_eq] at hF
  unfold Fr_X8_isGood at hF
  unfold Q_X8_isGood at hQ
  have o2 := hQ.1
  replace hQ := hQ.2
  have o3 := hQ.1
  replace hQ := hQ.2
  have o4 := hQ.1
  replace hQ := hQ.2
  rcases ite_or hF with ⟨d1, hF⟩ | ⟨d1, hF⟩
  · replace hQ := ite_q hQ d1
    subst hF
    exact rfl
  · replace hQ := ite_r hQ d1
    have o7 := hQ.1
    replace hQ := hQ.2
    rcases ite_or hF with ⟨d2, hF⟩ | ⟨d2, hF⟩
    · replace hQ := ite_q hQ d2
      subst hF
      exact rfl
    · replace hQ := ite_r hQ d2
      have o10 := hQ.1
      replace hQ := hQ.2
      have o12 := hQ.1
      replace hQ := hQ.2
      rcases ite_or hF with ⟨d3, hF⟩ | ⟨d3, hF⟩
      · replace hQ := ite_q hQ d3
        subst hF
        exact rfl
      · replace hQ := ite_r hQ d3
        have o16 := hQ.1
        replace hQ := hQ.2
        rcases ite_or hF with ⟨d4, hF⟩ | ⟨d4, hF⟩
        · replace hQ := ite_q hQ d4
          have o20 := hQ.1
          replace hQ := hQ.2
          have o23 := hQ.1
          replace hQ := hQ.2
          rcases ite_or hF with ⟨d5, hF⟩ | ⟨d5, hF⟩
          · replace hQ := ite_q hQ d5
            have o27 := hQ.1
            replace hQ := hQ.2
            have o29 := hQ.1
            replace hQ := hQ.2
            rcases ite_or hF with ⟨d6, hF⟩ | ⟨d6, hF⟩
            · replace hQ := ite_q hQ d6
              subst hF
              exact ((pf_ne (by have h9 := hc; omega)).trans ((fh_X8_isSealed hb o23).trans ((fh_X4_choose hb o20).trans rfl)))
            · replace hQ := ite_r hQ d6
              subst hF
              exact ((pf_ne (by have h9 := hc; omega)).trans ((fh_X8_isSealed hb o23).trans ((fh_X4_choose hb o20).trans rfl)))
          · replace hQ := ite_r hQ d5
            have o31 := hQ.1
            replace hQ := hQ.2
            have o33 := hQ.1
            replace hQ := hQ.2
            rcases ite_or hF with ⟨d7, hF⟩ | ⟨d7, hF⟩
            · replace hQ := ite_q hQ d7
              subst hF
              exact ((pf_ne (by have h9 := hc; omega)).trans ((fh_X8_isSealed hb o23).trans ((fh_X4_choose hb o20).trans rfl)))
            · replace hQ := ite_r hQ d7
              subst hF
              exact ((pf_ne (by have h9 := hc; omega)).trans ((fh_X8_isSealed hb o23).trans ((fh_X4_choose hb o20).trans rfl)))
        · replace hQ := ite_r hQ d4
          have o18 := hQ.1
          replace hQ := hQ.2
          rcases ite_or hF with ⟨d8, hF⟩ | ⟨d8, hF⟩
          · replace hQ := ite_q hQ d8
            subst hF
            exact rfl
          · replace hQ := ite_r hQ d8
            subst hF
            exact rfl
theorem fh_X8_readN {b : Nat} {σ : gS} {j : Nat} {p0 : Int32} {p4 : Int32} (hb : 199 ≤ b) (h1 : b ≠ j)  : (F_X8_readN σ j p0 p4) b = σ b := by
  generalize hF : F_X8_readN σ j p0 p4 = fr
  rw [F_X8_readN_eq] at hF
  unfold Fr_X8_readN at hF
  subst hF
  exact ((pf_ne h1).trans ((pf_ne h1).trans ((pf_ne h1).trans ((pf_ne h1).trans ((pf_ne h1).trans rfl)))))
theorem fhJ_X8_read_212 {b : Nat} {j c : Nat} {p0 : Int32} {p4 : Int32} (hb : 199 ≤ b) (h1 : b ≠ j) (hc : c < 16) : ∀ (u0 : Int32) (σ : gS), QJ_X8_read_212 j c p0 p4 u0 σ → (J_X8_read_212 j c p0 p4 u0 σ) b = σ b := by
  intro u0 σ hQ
  generalize hF : J_X8_read_212 j c p0 p4 u0 σ = fr
  unfold J_X8_read_212 at hF
  unfold QJ_X8_read_212 at hQ
  have o23 := hQ.1
  replace hQ := hQ.2
  have o25 := hQ.1
  replace hQ := hQ.2
  have o28 := hQ.1
  replace hQ := hQ.2
  have o31 := hQ.1
  replace hQ := hQ.2
  have o34 := hQ.1
  replace hQ := hQ.2
  subst hF
  exact ((pf_ne h1).trans ((pf_ne h1).trans ((pf_ne h1).trans ((pf_ne h1).trans ((pf_ne h1).trans rfl)))))
theorem fhJ_X8_read_211 {b : Nat} {j c : Nat} {p0 : Int32} {p4 : Int32} (hb : 199 ≤ b) (h1 : b ≠ j) (hc : c < 16) : ∀ (σ : gS), QJ_X8_read_211 j c p0 p4 σ → (J_X8_read_211 j c p0 p4 σ) b = σ b := by
  intro σ hQ
  generalize hF : J_X8_read_211 j c p0 p4 σ = fr
  unfold J_X8_read_211 at hF
  unfold QJ_X8_read_211 at hQ
  subst hF
  exact (fhJ_X8_read_212 hb h1 hc _ _ hQ).trans rfl
theorem fhJ_X8_read_162 {b : Nat} {j c : Nat} {p0 : Int32} {p4 : Int32} (hb : 199 ≤ b) (h1 : b ≠ j) (hc : c < 16) : ∀ (y10 : Int32) (u0 : Int32) (σ : gS), QJ_X8_read_162 j c p0 p4 y10 u0 σ → (J_X8_read_162 j c p0 p4 y10 u0 σ) b = σ b := by
  intro y10 u0 σ hQ
  generalize hF : J_X8_read_162 j c p0 p4 y10 u0 σ = fr
  unfold J_X8_read_162 at hF
  unfold QJ_X8_read_162 at hQ
  have o20 := hQ.1
  replace hQ := hQ.2
  rcases ite_or hF with ⟨d1, hF⟩ | ⟨d1, hF⟩
  · replace hQ := ite_q hQ d1
    subst hF
    exact (fhJ_X8_read_211 hb h1 hc _ hQ).trans ((pf_ne h1).trans rfl)
  · replace hQ := ite_r hQ d1
    have o37 := hQ.1
    replace hQ := hQ.2
    rcases ite_or hF with ⟨d2, hF⟩ | ⟨d2, hF⟩
    · replace hQ := ite_q hQ d2
      subst hF
      exact (fhJ_X8_read_211 hb h1 hc _ hQ).trans ((fh_X8_isGood hb hc o37).trans ((pf_ne h1).trans rfl))
    · replace hQ := ite_r hQ d2
      have o41 := hQ.1
      replace hQ := hQ.2
      rcases ite_or hF with ⟨d3, hF⟩ | ⟨d3, hF⟩
      · replace hQ := ite_q hQ d3
        subst hF
        exact (fhJ_X8_read_211 hb h1 hc _ hQ).trans ((fh_X8_isGood hb hc o37).trans ((pf_ne h1).trans rfl))
      · replace hQ := ite_r hQ d3
        have o44 := hQ.1
        replace hQ := hQ.2
        rcases ite_or hF with ⟨d4, hF⟩ | ⟨d4, hF⟩
        · replace hQ := ite_q hQ d4
          subst hF
          exact (fhJ_X8_read_212 hb h1 hc _ _ hQ).trans ((fh_X8_isGood hb hc o37).trans ((pf_ne h1).trans rfl))
        · replace hQ := ite_r hQ d4
          subst hF
          exact (fhJ_X8_read_211 hb h1 hc _ hQ).trans ((fh_X8_isGood hb hc o37).trans ((pf_ne h1).trans rfl))
theorem fhJ_X8_read_161 {b : Nat} {j c : Nat} {p0 : Int32} {p4 : Int32} (hb : 199 ≤ b) (h1 : b ≠ j) (hc : c < 16) : ∀ (y10 : Int32) (σ : gS), QJ_X8_read_161 j c p0 p4 y10 σ → (J_X8_read_161 j c p0 p4 y10 σ) b = σ b := by
  intro y10 σ hQ
  generalize hF : J_X8_read_161 j c p0 p4 y10 σ = fr
  unfold J_X8_read_161 at hF
  unfold QJ_X8_read_161 at hQ
  subst hF
  exact (fhJ_X8_read_162 hb h1 hc _ _ _ hQ).trans rfl
theorem fhJ_X8_read_116 {b : Nat} {j c : Nat} {p0 : Int32} {p4 : Int32} (hb : 199 ≤ b) (h1 : b ≠ j) (hc : c < 16) : ∀ (y10 : Int32) (y11 : Int32) (u0 : Int32) (σ : gS), QJ_X8_read_116 j c p0 p4 y10 y11 u0 σ → (J_X8_read_116 j c p0 p4 y10 y11 u0 σ) b = σ b := by
  intro y10 y11 u0 σ hQ
  generalize hF : J_X8_read_116 j c p0 p4 y10 y11 u0 σ = fr
  unfold J_X8_read_116 at hF
  unfold QJ_X8_read_116 at hQ
  rcases ite_or hF with ⟨d5, hF⟩ | ⟨d5, hF⟩
  · replace hQ := ite_q hQ d5
    subst hF
    exact (fhJ_X8_read_161 hb h1 hc _ _ hQ).trans ((pf_ne h1).trans rfl)
  · replace hQ := ite_r hQ d5
    rcases ite_or hF with ⟨d6, hF⟩ | ⟨d6, hF⟩
    · replace hQ := ite_q hQ d6
      subst hF
      exact (fhJ_X8_read_161 hb h1 hc _ _ hQ).trans ((pf_ne h1).trans rfl)
    · replace hQ := ite_r hQ d6
      rcases ite_or hF with ⟨d7, hF⟩ | ⟨d7, hF⟩
      · replace hQ := ite_q hQ d7
        subst hF
        exact (fhJ_X8_read_161 hb h1 hc _ _ hQ).trans ((pf_ne h1).trans rfl)
      · replace hQ := ite_r hQ d7
        have o50 := hQ.1
        replace hQ := hQ.2
        rcases ite_or hF with ⟨d8, hF⟩ | ⟨d8, hF⟩
        · replace hQ := ite_q hQ d8
          subst hF
          exact (fhJ_X8_read_161 hb h1 hc _ _ hQ).trans ((pf_ne h1).trans rfl)
        · replace hQ := ite_r hQ d8
          have o53 := hQ.1
          replace hQ := hQ.2
          rcases ite_or hF with ⟨d9, hF⟩ | ⟨d9, hF⟩
          · replace hQ := ite_q hQ d9
            subst hF
            exact (fhJ_X8_read_161 hb h1 hc _ _ hQ).trans ((pf_ne h1).trans rfl)
          · replace hQ := ite_r hQ d9
            subst hF
            exact (fhJ_X8_read_162 hb h1 hc _ _ _ hQ).trans ((pf_ne h1).trans rfl)
theorem fh_X8_read {b : Nat} {σ : gS} {j c : Nat} {p0 : Int32} {p4 : Int32} (hb : 199 ≤ b) (h1 : b ≠ j) (hc : c < 16) (hQ : Q_X8_read σ j c p0 p4) : (F_X8_read σ j c p0 p4) b = σ b := by
  generalize hF : F_X8_read σ j c p0 p4 = fr
  rw [F_X8_read_eq] at hF
  unfold Fr_X8_read at hF
  unfold Q_X8_read at hQ
  have o6 := hQ.1
  replace hQ := hQ.2
  have o9 := hQ.1
  replace hQ := hQ.2
  have o12 := hQ.1
  replace hQ := hQ.2
  have o14 := hQ.1
  replace hQ := hQ.2
  rcases ite_or hF with ⟨d10, hF⟩ | ⟨d10, hF⟩
  · replace hQ := ite_q hQ d10
    subst hF
    exact (fhJ_X8_read_116 hb h1 hc _ _ _ _ hQ).trans ((fh_X8_isGood hb hc o14).trans ((pf_ne h1).trans ((fh_X8_isGood hb hc o9).trans ((fh_X8_isGood hb hc o6).trans ((pf_ne h1).trans ((pf_ne h1).trans ((pf_ne h1).trans ((pf_ne h1).trans ((pf_ne h1).trans rfl)))))))))
  · replace hQ := ite_r hQ d10
    have o56 := hQ.1
    replace hQ := hQ.2
    subst hF
    exact (fhJ_X8_read_116 hb h1 hc _ _ _ _ hQ).trans ((fh_X8_isGood hb hc o14).trans ((pf_ne h1).trans ((fh_X8_isGood hb hc o9).trans ((fh_X8_isGood hb hc o6).trans ((pf_ne h1).trans ((pf_ne h1).trans ((pf_ne h1).trans ((pf_ne h1).trans ((pf_ne h1).trans rfl)))))))))
