theorem fhG_X10_prepare_L21 {b : Nat}  (hb : b < 199) {kL12 : Int32 → Int32 → Int32 → gS → gS} {qL12 : Int32 → Int32 → Int32 → gS → Prop} (hkL12 : ∀ (y1 : Int32) (y2 : Int32) (y3 : Int32) (σ : gS), qL12 y1 y2 y3 σ → (kL12 y1 y2 y3 σ) b = σ b) : ∀ (n : Nat) (y1 : Int32) (y2 : Int32) (y3 : Int32) (y4 : Int32) (σ : gS), QG_X10_prepare_L21  qL12 n y1 y2 y3 y4 σ → (G_X10_prepare_L21  kL12 n y1 y2 y3 y4 σ) b = σ b := by
  intro n
  induction n with
  | zero => intro y1 y2 y3 y4 σ hQ; exact absurd hQ (by unfold QG_X10_prepare_L21; exact id)
  | succ n ihL21 =>
    intro y1 y2 y3 y4 σ hQ
    generalize hF : G_X10_prepare_L21  kL12 (n + 1) y1 y2 y3 y4 σ = fr
    unfold G_X10_prepare_L21 at hF
    unfold QG_X10_prepare_L21 at hQ
    rcases ite_or hF with ⟨d1, hF⟩ | ⟨d1, hF⟩
    · replace hQ := ite_q hQ d1
      rcases ite_or hF with ⟨d2, hF⟩ | ⟨d2, hF⟩
      · replace hQ := ite_q hQ d2
        subst hF
        exact (hkL12 _ _ _ _ hQ).trans rfl
      · replace hQ := ite_r hQ d2
        subst hF
        exact (hkL12 _ _ _ _ hQ).trans rfl
    · replace hQ := ite_r hQ d1
      rcases ite_or hF with ⟨d3, hF⟩ | ⟨d3, hF⟩
      · replace hQ := ite_q hQ d3
        subst hF
        exact (ihL21 _ _ _ _ _ hQ).trans rfl
      · replace hQ := ite_r hQ d3
        have o18 := hQ.1
        replace hQ := hQ.2
        have o19 := hQ.1
        replace hQ := hQ.2
        rcases ite_or hF with ⟨d4, hF⟩ | ⟨d4, hF⟩
        · replace hQ := ite_q hQ d4
          subst hF
          exact (ihL21 _ _ _ _ _ hQ).trans rfl
        · replace hQ := ite_r hQ d4
          subst hF
          exact (ihL21 _ _ _ _ _ hQ).trans rfl
theorem fhG_X10_prepare_L12 {b : Nat}  (hb : b < 199) {kL4 : Int32 → Int32 → gS → gS} {qL4 : Int32 → Int32 → gS → Prop} (hkL4 : ∀ (y1 : Int32) (y2 : Int32) (σ : gS), qL4 y1 y2 σ → (kL4 y1 y2 σ) b = σ b) : ∀ (n : Nat) (y1 : Int32) (y2 : Int32) (y3 : Int32) (σ : gS), QG_X10_prepare_L12  qL4 n y1 y2 y3 σ → (G_X10_prepare_L12  kL4 n y1 y2 y3 σ) b = σ b := by
  intro n
  induction n with
  | zero => intro y1 y2 y3 σ hQ; exact absurd hQ (by unfold QG_X10_prepare_L12; exact id)
  | succ n ihL12 =>
    intro y1 y2 y3 σ hQ
    generalize hF : G_X10_prepare_L12  kL4 (n + 1) y1 y2 y3 σ = fr
    unfold G_X10_prepare_L12 at hF
    unfold QG_X10_prepare_L12 at hQ
    rcases ite_or hF with ⟨d5, hF⟩ | ⟨d5, hF⟩
    · replace hQ := ite_q hQ d5
      subst hF
      exact (fhG_X10_prepare_L21 hb ihL12 4000 _ _ _ _ _ hQ).trans rfl
    · replace hQ := ite_r hQ d5
      have o4 := hQ.1
      replace hQ := hQ.2
      have o6 := hQ.1
      replace hQ := hQ.2
      have o8 := hQ.1
      replace hQ := hQ.2
      rcases ite_or hF with ⟨d6, hF⟩ | ⟨d6, hF⟩
      · replace hQ := ite_q hQ d6
        subst hF
        exact (hkL4 _ _ _ hQ).trans ((pf_ne (by omega)).trans ((pf_ne (by omega)).trans rfl))
      · replace hQ := ite_r hQ d6
        have o11 := hQ.1
        replace hQ := hQ.2
        have o13 := hQ.1
        replace hQ := hQ.2
        subst hF
        exact (hkL4 _ _ _ hQ).trans ((pf_ne (by omega)).trans ((pf_ne (by omega)).trans ((pf_ne (by omega)).trans rfl)))
theorem fhG_X10_prepare_L4 {b : Nat}  (hb : b < 199) : ∀ (n : Nat) (y1 : Int32) (y2 : Int32) (σ : gS), QG_X10_prepare_L4  n y1 y2 σ → (G_X10_prepare_L4  n y1 y2 σ) b = σ b := by
  intro n
  induction n with
  | zero => intro y1 y2 σ hQ; exact absurd hQ (by unfold QG_X10_prepare_L4; exact id)
  | succ n ihL4 =>
    intro y1 y2 σ hQ
    generalize hF : G_X10_prepare_L4  (n + 1) y1 y2 σ = fr
    unfold G_X10_prepare_L4 at hF
    unfold QG_X10_prepare_L4 at hQ
    rcases ite_or hF with ⟨d7, hF⟩ | ⟨d7, hF⟩
    · replace hQ := ite_q hQ d7
      subst hF
      exact ((pf_ne (by omega)).trans rfl)
    · replace hQ := ite_r hQ d7
      subst hF
      exact (fhG_X10_prepare_L12 hb ihL4 4000 _ _ _ _ hQ).trans rfl
theorem fh_X10_prepare {b : Nat} {σ : gS}  (hb : b < 199) (hQ : Q_X10_prepare σ ) : (F_X10_prepare σ ) b = σ b := by
  generalize hF : F_X10_prepare σ  = fr
  rw [F_X10_prepare_eq] at hF
  unfold Fr_X10_prepare at hF
  unfold Q_X10_prepare at hQ
  subst hF
  exact (fhG_X10_prepare_L4 hb 4000 _ _ _ hQ).trans rfl
theorem fhG_X10_eat_L248 {b : Nat}  (hb : b < 199) : ∀ (n : Nat) (y1 : Int32) (y2 : Int32) (y3 : Int32) (y4 : Int32) (y5 : Int32) (y6 : Int32) (y7 : Int32) (y8 : Int32) (y9 : Int32) (σ : gS), QG_X10_eat_L248  n y1 y2 y3 y4 y5 y6 y7 y8 y9 σ → (G_X10_eat_L248  n y1 y2 y3 y4 y5 y6 y7 y8 y9 σ) b = σ b := by
  intro n
  induction n with
  | zero => intro y1 y2 y3 y4 y5 y6 y7 y8 y9 σ hQ; exact absurd hQ (by unfold QG_X10_eat_L248; exact id)
  | succ n ihL248 =>
    intro y1 y2 y3 y4 y5 y6 y7 y8 y9 σ hQ
    generalize hF : G_X10_eat_L248  (n + 1) y1 y2 y3 y4 y5 y6 y7 y8 y9 σ = fr
    unfold G_X10_eat_L248 at hF
    unfold QG_X10_eat_L248 at hQ
    rcases ite_or hF with ⟨d1, hF⟩ | ⟨d1, hF⟩
    · replace hQ := ite_q hQ d1
      subst hF
      exact ((pf_ne (by omega)).trans ((pf_ne (by omega)).trans ((pf_ne (by omega)).trans ((pf_ne (by omega)).trans ((pf_ne (by omega)).trans ((pf_ne (by omega)).trans ((pf_ne (by omega)).trans ((pf_ne (by omega)).trans rfl))))))))
    · replace hQ := ite_r hQ d1
      have o15 := hQ.1
      replace hQ := hQ.2
      have o16 := hQ.1
      replace hQ := hQ.2
      subst hF
      exact (ihL248 _ _ _ _ _ _ _ _ _ _ hQ).trans rfl
theorem fhG_X10_eat_L89 {b : Nat}  (hb : b < 199) : ∀ (n : Nat) (y1 : Int32) (σ : gS), QG_X10_eat_L89  n y1 σ → (G_X10_eat_L89  n y1 σ) b = σ b := by
  intro n
  induction n with
  | zero => intro y1 σ hQ; exact absurd hQ (by unfold QG_X10_eat_L89; exact id)
  | succ n ihL89 =>
    intro y1 σ hQ
    generalize hF : G_X10_eat_L89  (n + 1) y1 σ = fr
    unfold G_X10_eat_L89 at hF
    unfold QG_X10_eat_L89 at hQ
    rcases ite_or hF with ⟨d2, hF⟩ | ⟨d2, hF⟩
    · replace hQ := ite_q hQ d2
      subst hF
      exact (fhG_X10_eat_L248 hb 4000 _ _ _ _ _ _ _ _ _ _ hQ).trans rfl
    · replace hQ := ite_r hQ d2
      have o22 := hQ.1
      replace hQ := hQ.2
      have o24 := hQ.1
      replace hQ := hQ.2
      have o26 := hQ.1
      replace hQ := hQ.2
      have o29 := hQ.1
      replace hQ := hQ.2
      have o32 := hQ.1
      replace hQ := hQ.2
      subst hF
      exact (ihL89 _ _ hQ).trans ((pf_ne (by omega)).trans rfl)
theorem fhG_X10_eat_L2 {b : Nat}  (hb : b < 199) : ∀ (n : Nat) (y1 : Int32) (σ : gS), QG_X10_eat_L2  n y1 σ → (G_X10_eat_L2  n y1 σ) b = σ b := by
  intro n
  induction n with
  | zero => intro y1 σ hQ; exact absurd hQ (by unfold QG_X10_eat_L2; exact id)
  | succ n ihL2 =>
    intro y1 σ hQ
    generalize hF : G_X10_eat_L2  (n + 1) y1 σ = fr
    unfold G_X10_eat_L2 at hF
    unfold QG_X10_eat_L2 at hQ
    rcases ite_or hF with ⟨d3, hF⟩ | ⟨d3, hF⟩
    · replace hQ := ite_q hQ d3
      subst hF
      exact (fhG_X10_eat_L89 hb 4000 _ _ hQ).trans rfl
    · replace hQ := ite_r hQ d3
      have o34 := hQ.1
      replace hQ := hQ.2
      have o35 := hQ.1
      replace hQ := hQ.2
      have o36 := hQ.1
      replace hQ := hQ.2
      have o37 := hQ.1
      replace hQ := hQ.2
      have o38 := hQ.1
      replace hQ := hQ.2
      subst hF
      exact (ihL2 _ _ hQ).trans ((pf_ne (by omega)).trans rfl)
theorem fh_X10_eat {b : Nat} {σ : gS}  (hb : b < 199) (hQ : Q_X10_eat σ ) : (F_X10_eat σ ) b = σ b := by
  generalize hF : F_X10_eat σ  = fr
  rw [F_X10_eat_eq] at hF
  unfold Fr_X10_eat at hF
  unfold Q_X10_eat at hQ
  subst hF
  exact (fhG_X10_eat_L2 hb 4000 _ _ hQ).trans rfl
theorem fhG_X10_hash_L227 {b : Nat} {ak Nk ar Nr : Nat} {p1 : Int32} {p2 : Int32} {p4 : Int32} {p5 : Int32} (hb : b < 199) : ∀ (n : Nat) (y7 : Int32) (y8 : Int64) (y10 : Int32) (σ : gS), QG_X10_hash_L227 ak Nk ar Nr p1 p2 p4 p5 n y7 y8 y10 σ → (G_X10_hash_L227 ak Nk ar Nr p1 p2 p4 p5 n y7 y8 y10 σ) b = σ b := by
  intro n
  induction n with
  | zero => intro y7 y8 y10 σ hQ; exact absurd hQ (by unfold QG_X10_hash_L227; exact id)
  | succ n ihL227 =>
    intro y7 y8 y10 σ hQ
    generalize hF : G_X10_hash_L227 ak Nk ar Nr p1 p2 p4 p5 (n + 1) y7 y8 y10 σ = fr
    unfold G_X10_hash_L227 at hF
    unfold QG_X10_hash_L227 at hQ
    rcases ite_or hF with ⟨d1, hF⟩ | ⟨d1, hF⟩
    · replace hQ := ite_q hQ d1
      subst hF
      exact rfl
    · replace hQ := ite_r hQ d1
      have o11 := hQ.1
      replace hQ := hQ.2
      have o12 := hQ.1
      replace hQ := hQ.2
      subst hF
      exact (ihL227 _ _ _ _ hQ).trans ((pf_ne (by omega)).trans rfl)
theorem fhG_X10_hash_L123 {b : Nat} {ak Nk ar Nr : Nat} {p1 : Int32} {p2 : Int32} {p4 : Int32} {p5 : Int32} (hb : b < 199) : ∀ (n : Nat) (y7 : Int32) (y8 : Int64) (y10 : Int32) (σ : gS), QG_X10_hash_L123 ak Nk ar Nr p1 p2 p4 p5 n y7 y8 y10 σ → (G_X10_hash_L123 ak Nk ar Nr p1 p2 p4 p5 n y7 y8 y10 σ) b = σ b := by
  intro n
  induction n with
  | zero => intro y7 y8 y10 σ hQ; exact absurd hQ (by unfold QG_X10_hash_L123; exact id)
  | succ n ihL123 =>
    intro y7 y8 y10 σ hQ
    generalize hF : G_X10_hash_L123 ak Nk ar Nr p1 p2 p4 p5 (n + 1) y7 y8 y10 σ = fr
    unfold G_X10_hash_L123 at hF
    unfold QG_X10_hash_L123 at hQ
    rcases ite_or hF with ⟨d2, hF⟩ | ⟨d2, hF⟩
    · replace hQ := ite_q hQ d2
      subst hF
      exact (fhG_X10_hash_L227 hb 4000 _ _ _ _ hQ).trans rfl
    · replace hQ := ite_r hQ d2
      rcases ite_or hF with ⟨d3, hF⟩ | ⟨d3, hF⟩
      · replace hQ := ite_q hQ d3
        rcases ite_or hF with ⟨d4, hF⟩ | ⟨d4, hF⟩
        · replace hQ := ite_q hQ d4
          have o30 := hQ.1
          replace hQ := hQ.2
          rcases ite_or hF with ⟨d5, hF⟩ | ⟨d5, hF⟩
          · replace hQ := ite_q hQ d5
            have o33 := hQ.1
            replace hQ := hQ.2
            subst hF
            exact (ihL123 _ _ _ _ hQ).trans ((fh_X10_eat hb o33).trans ((pf_ne (by omega)).trans rfl))
          · replace hQ := ite_r hQ d5
            subst hF
            exact (ihL123 _ _ _ _ hQ).trans ((pf_ne (by omega)).trans rfl)
        · replace hQ := ite_r hQ d4
          rcases ite_or hF with ⟨d6, hF⟩ | ⟨d6, hF⟩
          · replace hQ := ite_q hQ d6
            have o17 := hQ.1
            replace hQ := hQ.2
            rcases ite_or hF with ⟨d7, hF⟩ | ⟨d7, hF⟩
            · replace hQ := ite_q hQ d7
              have o20 := hQ.1
              replace hQ := hQ.2
              subst hF
              exact (ihL123 _ _ _ _ hQ).trans ((fh_X10_eat hb o20).trans ((pf_ne (by omega)).trans rfl))
            · replace hQ := ite_r hQ d7
              subst hF
              exact (ihL123 _ _ _ _ hQ).trans ((pf_ne (by omega)).trans rfl)
          · replace hQ := ite_r hQ d6
            have o24 := hQ.1
            replace hQ := hQ.2
            rcases ite_or hF with ⟨d8, hF⟩ | ⟨d8, hF⟩
            · replace hQ := ite_q hQ d8
              have o27 := hQ.1
              replace hQ := hQ.2
              subst hF
              exact (ihL123 _ _ _ _ hQ).trans ((fh_X10_eat hb o27).trans ((pf_ne (by omega)).trans rfl))
            · replace hQ := ite_r hQ d8
              subst hF
              exact (ihL123 _ _ _ _ hQ).trans ((pf_ne (by omega)).trans rfl)
      · replace hQ := ite_r hQ d3
        have o36 := hQ.1
        replace hQ := hQ.2
        have o37 := hQ.1
        replace hQ := hQ.2
        rcases ite_or hF with ⟨d9, hF⟩ | ⟨d9, hF⟩
        · replace hQ := ite_q hQ d9
          have o40 := hQ.1
          replace hQ := hQ.2
          subst hF
          exact (ihL123 _ _ _ _ hQ).trans ((fh_X10_eat hb o40).trans ((pf_ne (by omega)).trans rfl))
        · replace hQ := ite_r hQ d9
          subst hF
          exact (ihL123 _ _ _ _ hQ).trans ((pf_ne (by omega)).trans rfl)
theorem fhG_X10_hash_L44 {b : Nat} {ak Nk ar Nr : Nat} {p1 : Int32} {p2 : Int32} {p4 : Int32} {p5 : Int32} (hb : b < 199) : ∀ (n : Nat) (y7 : Int32) (σ : gS), QG_X10_hash_L44 ak Nk ar Nr p1 p2 p4 p5 n y7 σ → (G_X10_hash_L44 ak Nk ar Nr p1 p2 p4 p5 n y7 σ) b = σ b := by
  intro n
  induction n with
  | zero => intro y7 σ hQ; exact absurd hQ (by unfold QG_X10_hash_L44; exact id)
  | succ n ihL44 =>
    intro y7 σ hQ
    generalize hF : G_X10_hash_L44 ak Nk ar Nr p1 p2 p4 p5 (n + 1) y7 σ = fr
    unfold G_X10_hash_L44 at hF
    unfold QG_X10_hash_L44 at hQ
    rcases ite_or hF with ⟨d10, hF⟩ | ⟨d10, hF⟩
    · replace hQ := ite_q hQ d10
      have o4 := hQ.1
      replace hQ := hQ.2
      subst hF
      exact (fhG_X10_hash_L123 hb 4000 _ _ _ _ hQ).trans ((fh_X10_eat hb o4).trans rfl)
    · replace hQ := ite_r hQ d10
      rcases ite_or hF with ⟨d11, hF⟩ | ⟨d11, hF⟩
      · replace hQ := ite_q hQ d11
        have o44 := hQ.1
        replace hQ := hQ.2
        subst hF
        exact (ihL44 _ _ hQ).trans ((pf_ne (by omega)).trans rfl)
      · replace hQ := ite_r hQ d11
        have o46 := hQ.1
        replace hQ := hQ.2
        have o47 := hQ.1
        replace hQ := hQ.2
        subst hF
        exact (ihL44 _ _ hQ).trans ((pf_ne (by omega)).trans rfl)
theorem fhG_X10_hash_L14 {b : Nat} {ak Nk ar Nr : Nat} {p1 : Int32} {p2 : Int32} {p4 : Int32} {p5 : Int32} (hb : b < 199) : ∀ (n : Nat) (y7 : Int32) (σ : gS), QG_X10_hash_L14 ak Nk ar Nr p1 p2 p4 p5 n y7 σ → (G_X10_hash_L14 ak Nk ar Nr p1 p2 p4 p5 n y7 σ) b = σ b := by
  intro n
  induction n with
  | zero => intro y7 σ hQ; exact absurd hQ (by unfold QG_X10_hash_L14; exact id)
  | succ n ihL14 =>
    intro y7 σ hQ
    generalize hF : G_X10_hash_L14 ak Nk ar Nr p1 p2 p4 p5 (n + 1) y7 σ = fr
    unfold G_X10_hash_L14 at hF
    unfold QG_X10_hash_L14 at hQ
    rcases ite_or hF with ⟨d12, hF⟩ | ⟨d12, hF⟩
    · replace hQ := ite_q hQ d12
      subst hF
      exact (fhG_X10_hash_L44 hb 4000 _ _ hQ).trans rfl
    · replace hQ := ite_r hQ d12
      have o49 := hQ.1
      replace hQ := hQ.2
      have o50 := hQ.1
      replace hQ := hQ.2
      subst hF
      exact (ihL14 _ _ hQ).trans ((pf_ne (by omega)).trans rfl)
theorem fhJ_X10_hash_11 {b : Nat} {ak Nk ar Nr : Nat} {p1 : Int32} {p2 : Int32} {p4 : Int32} {p5 : Int32} (hb : b < 199) : ∀ (σ : gS), QJ_X10_hash_11 ak Nk ar Nr p1 p2 p4 p5 σ → (J_X10_hash_11 ak Nk ar Nr p1 p2 p4 p5 σ) b = σ b := by
  intro σ hQ
  generalize hF : J_X10_hash_11 ak Nk ar Nr p1 p2 p4 p5 σ = fr
  unfold J_X10_hash_11 at hF
  unfold QJ_X10_hash_11 at hQ
  subst hF
  exact (fhG_X10_hash_L14 hb 4000 _ _ hQ).trans rfl
theorem fh_X10_hash {b : Nat} {σ : gS} {ak Nk ar Nr : Nat} {p1 : Int32} {p2 : Int32} {p4 : Int32} {p5 : Int32} (hb : b < 199) (hQ : Q_X10_hash σ ak Nk ar Nr p1 p2 p4 p5) : (F_X10_hash σ ak Nk ar Nr p1 p2 p4 p5) b = σ b := by
  generalize hF : F_X10_hash σ ak Nk ar Nr p1 p2 p4 p5 = fr
  rw [F_X10_hash_eq] at hF
  unfold Fr_X10_hash at hF
  unfold Q_X10_hash at hQ
  rcases ite_or hF with ⟨d13, hF⟩ | ⟨d13, hF⟩
  · replace hQ := ite_q hQ d13
    have o52 := hQ.1
    replace hQ := hQ.2
    subst hF
    exact (fhJ_X10_hash_11 hb _ hQ).trans ((fh_X10_prepare hb o52).trans rfl)
  · replace hQ := ite_r hQ d13
    subst hF
    exact (fhJ_X10_hash_11 hb _ hQ).trans rfl
theorem fhG_X10_sealOf_L16 {b : Nat} {ak Nk ar Nr : Nat} {p1 : Int32} {p3 : Int32} {p4 : Int32} (hb : b < 199) : ∀ (n : Nat) (y6 : Int32) (σ : gS), QG_X10_sealOf_L16 ak Nk ar Nr p1 p3 p4 n y6 σ → (G_X10_sealOf_L16 ak Nk ar Nr p1 p3 p4 n y6 σ) b = σ b := by
  intro n
  induction n with
  | zero => intro y6 σ hQ; exact absurd hQ (by unfold QG_X10_sealOf_L16; exact id)
  | succ n ihL16 =>
    intro y6 σ hQ
    generalize hF : G_X10_sealOf_L16 ak Nk ar Nr p1 p3 p4 (n + 1) y6 σ = fr
    unfold G_X10_sealOf_L16 at hF
    unfold QG_X10_sealOf_L16 at hQ
    rcases ite_or hF with ⟨d1, hF⟩ | ⟨d1, hF⟩
    · replace hQ := ite_q hQ d1
      have o5 := hQ.1
      replace hQ := hQ.2
      subst hF
      exact ((fh_X10_hash hb o5).trans rfl)
    · replace hQ := ite_r hQ d1
      have o8 := hQ.1
      replace hQ := hQ.2
      have o9 := hQ.1
      replace hQ := hQ.2
      subst hF
      exact (ihL16 _ _ hQ).trans ((pf_ne (by omega)).trans rfl)
theorem fh_X10_sealOf {b : Nat} {σ : gS} {ak Nk ar Nr : Nat} {p1 : Int32} {p3 : Int32} {p4 : Int32} (hb : b < 199) (hQ : Q_X10_sealOf σ ak Nk ar Nr p1 p3 p4) : (F_X10_sealOf σ ak Nk ar Nr p1 p3 p4) b = σ b := by
  generalize hF : F_X10_sealOf σ ak Nk ar Nr p1 p3 p4 = fr
  rw [F_X10_sealOf_eq] at hF
  unfold Fr_X10_sealOf at hF
  unfold Q_X10_sealOf at hQ
  have o1 := hQ.1
  replace hQ := hQ.2
  subst hF
  exact (fhG_X10_sealOf_L16 hb 4000 _ _ hQ).trans ((fh_X10_hash hb o1).trans rfl)
theorem fhG_X10_isGood_L179 {b : Nat} {p0 : Int32} {p1 : Int32} {ζ : gQ} (hb : b < 199) : ∀ (n : Nat) (y3 : Int32) (y4 : Int32) (y5 : Int32) (y6 : Int32) (y7 : Int32) (σ : gS), QG_X10_isGood_L179 p0 p1 ζ n y3 y4 y5 y6 y7 σ → (G_X10_isGood_L179 p0 p1 ζ n y3 y4 y5 y6 y7 σ).2 b = σ b := by
  intro n
  induction n with
  | zero => intro y3 y4 y5 y6 y7 σ hQ; exact absurd hQ (by unfold QG_X10_isGood_L179; exact id)
  | succ n ihL179 =>
    intro y3 y4 y5 y6 y7 σ hQ
    generalize hF : G_X10_isGood_L179 p0 p1 ζ (n + 1) y3 y4 y5 y6 y7 σ = fr
    unfold G_X10_isGood_L179 at hF
    unfold QG_X10_isGood_L179 at hQ
    rcases ite_or hF with ⟨d1, hF⟩ | ⟨d1, hF⟩
    · replace hQ := ite_q hQ d1
      rcases ite_or hF with ⟨d2, hF⟩ | ⟨d2, hF⟩
      · replace hQ := ite_q hQ d2
        subst hF
        exact rfl
      · replace hQ := ite_r hQ d2
        have o28 := hQ.1
        replace hQ := hQ.2
        rcases ite_or hF with ⟨d3, hF⟩ | ⟨d3, hF⟩
        · replace hQ := ite_q hQ d3
          subst hF
          exact rfl
        · replace hQ := ite_r hQ d3
          have o31 := hQ.1
          replace hQ := hQ.2
          rcases ite_or hF with ⟨d4, hF⟩ | ⟨d4, hF⟩
          · replace hQ := ite_q hQ d4
            subst hF
            exact rfl
          · replace hQ := ite_r hQ d4
            subst hF
            exact rfl
    · replace hQ := ite_r hQ d1
      rcases ite_or hF with ⟨d5, hF⟩ | ⟨d5, hF⟩
      · replace hQ := ite_q hQ d5
        subst hF
        exact (ihL179 _ _ _ _ _ _ hQ).trans rfl
      · replace hQ := ite_r hQ d5
        have o35 := hQ.1
        replace hQ := hQ.2
        have o36 := hQ.1
        replace hQ := hQ.2
        rcases ite_or hF with ⟨d6, hF⟩ | ⟨d6, hF⟩
        · replace hQ := ite_q hQ d6
          subst hF
          exact (ihL179 _ _ _ _ _ _ hQ).trans rfl
        · replace hQ := ite_r hQ d6
          subst hF
          exact (ihL179 _ _ _ _ _ _ hQ).trans rfl
theorem fhJ_X10_isGood_119 {b : Nat} {p0 : Int32} {p1 : Int32} {ζ : gQ} (hb : b < 199) : ∀ (y3 : Int32) (σ : gS), QJ_X10_isGood_119 p0 p1 ζ y3 σ → (J_X10_isGood_119 p0 p1 ζ y3 σ).2 b = σ b := by
  intro y3 σ hQ
  generalize hF : J_X10_isGood_119 p0 p1 ζ y3 σ = fr
  unfold J_X10_isGood_119 at hF
  unfold QJ_X10_isGood_119 at hQ
  have o16 := hQ.1
  replace hQ := hQ.2
  have o18 := hQ.1
  replace hQ := hQ.2
  rcases ite_or hF with ⟨d7, hF⟩ | ⟨d7, hF⟩
  · replace hQ := ite_q hQ d7
    have o23 := hQ.1
    replace hQ := hQ.2
    subst hF
    exact (fhG_X10_isGood_L179 hb 4000 _ _ _ _ _ _ hQ).trans ((fh_X10_sealOf hb o23).trans rfl)
  · replace hQ := ite_r hQ d7
    subst hF
    exact rfl
theorem fhJ_X10_isGood_85 {b : Nat} {p0 : Int32} {p1 : Int32} {ζ : gQ} (hb : b < 199) : ∀ (y3 : Int32) (σ : gS), QJ_X10_isGood_85 p0 p1 ζ y3 σ → (J_X10_isGood_85 p0 p1 ζ y3 σ).2 b = σ b := by
  intro y3 σ hQ
  generalize hF : J_X10_isGood_85 p0 p1 ζ y3 σ = fr
  unfold J_X10_isGood_85 at hF
  unfold QJ_X10_isGood_85 at hQ
  rcases ite_or hF with ⟨d8, hF⟩ | ⟨d8, hF⟩
  · replace hQ := ite_q hQ d8
    have o38 := hQ.1
    replace hQ := hQ.2
    rcases ite_or hF with ⟨d9, hF⟩ | ⟨d9, hF⟩
    · replace hQ := ite_q hQ d9
      have o41 := hQ.1
      replace hQ := hQ.2
      rcases ite_or hF with ⟨d10, hF⟩ | ⟨d10, hF⟩
      · replace hQ := ite_q hQ d10
        subst hF
        exact (fhJ_X10_isGood_119 hb _ _ hQ).trans rfl
      · replace hQ := ite_r hQ d10
        subst hF
        exact rfl
    · replace hQ := ite_r hQ d9
      subst hF
      exact rfl
  · replace hQ := ite_r hQ d8
    subst hF
    exact (fhJ_X10_isGood_119 hb _ _ hQ).trans rfl
theorem fhJ_X10_isGood_51 {b : Nat} {p0 : Int32} {p1 : Int32} {ζ : gQ} (hb : b < 199) : ∀ (y3 : Int32) (σ : gS), QJ_X10_isGood_51 p0 p1 ζ y3 σ → (J_X10_isGood_51 p0 p1 ζ y3 σ).2 b = σ b := by
  intro y3 σ hQ
  generalize hF : J_X10_isGood_51 p0 p1 ζ y3 σ = fr
  unfold J_X10_isGood_51 at hF
  unfold QJ_X10_isGood_51 at hQ
  have o9 := hQ.1
  replace hQ := hQ.2
  rcases ite_or hF with ⟨d11, hF⟩ | ⟨d11, hF⟩
  · replace hQ := ite_q hQ d11
    subst hF
    exact rfl
  · replace hQ := ite_r hQ d11
    have o12 := hQ.1
    replace hQ := hQ.2
    rcases ite_or hF with ⟨d12, hF⟩ | ⟨d12, hF⟩
    · replace hQ := ite_q hQ d12
      subst hF
      exact (fhJ_X10_isGood_85 hb _ _ hQ).trans rfl
    · replace hQ := ite_r hQ d12
      subst hF
      exact rfl
theorem fh_X10_isGood {b : Nat} {σ : gS} {ζ : gQ} {p0 : Int32} {p1 : Int32} (hb : b < 199) (hQ : Q_X10_isGood σ ζ p0 p1) : (F_X10_isGood σ ζ p0 p1).2 b = σ b := by
  generalize hF : F_X10_isGood σ ζ p0 p1 = fr
  rw [F_X10_isGood_eq] at hF
  unfold Fr_X10_isGood at hF
  unfold Q_X10_isGood at hQ
  rcases ite_or hF with ⟨d13, hF⟩ | ⟨d13, hF⟩
  · replace hQ := ite_q hQ d13
    subst hF
    exact rfl
  · replace hQ := ite_r hQ d13
    have o3 := hQ.1
    replace hQ := hQ.2
    rcases ite_or hF with ⟨d14, hF⟩ | ⟨d14, hF⟩
    · replace hQ := ite_q hQ d14
      have o5 := hQ.1
      replace hQ := hQ.2
      rcases ite_or hF with ⟨d15, hF⟩ | ⟨d15, hF⟩
      · replace hQ := ite_q hQ d15
        rcases ite_or hF with ⟨d16, hF⟩ | ⟨d16, hF⟩
        · replace hQ := ite_q hQ d16
          subst hF
          exact (fhJ_X10_isGood_51 hb _ _ hQ).trans rfl
        · replace hQ := ite_r hQ d16
          rcases ite_or hF with ⟨d17, hF⟩ | ⟨d17, hF⟩
          · replace hQ := ite_q hQ d17
            subst hF
            exact (fhJ_X10_isGood_51 hb _ _ hQ).trans rfl
          · replace hQ := ite_r hQ d17
            subst hF
            exact (fhJ_X10_isGood_85 hb _ _ hQ).trans rfl
      · replace hQ := ite_r hQ d15
        subst hF
        exact rfl
    · replace hQ := ite_r hQ d14
      subst hF
      exact rfl
theorem fhG_X10_drop_L12 {b : Nat} {p0 : Int32} (hb : b < 199) : ∀ (n : Nat) (y2 : Int32) (σ : gS), QG_X10_drop_L12 p0 n y2 σ → (G_X10_drop_L12 p0 n y2 σ) b = σ b := by
  intro n
  induction n with
  | zero => intro y2 σ hQ; exact absurd hQ (by unfold QG_X10_drop_L12; exact id)
  | succ n ihL12 =>
    intro y2 σ hQ
    generalize hF : G_X10_drop_L12 p0 (n + 1) y2 σ = fr
    unfold G_X10_drop_L12 at hF
    unfold QG_X10_drop_L12 at hQ
    rcases ite_or hF with ⟨d1, hF⟩ | ⟨d1, hF⟩
    · replace hQ := ite_q hQ d1
      subst hF
      exact rfl
    · replace hQ := ite_r hQ d1
      have o3 := hQ.1
      replace hQ := hQ.2
      have o4 := hQ.1
      replace hQ := hQ.2
      subst hF
      exact (ihL12 _ _ hQ).trans ((pf_ne (by omega)).trans rfl)
theorem fh_X10_drop {b : Nat} {σ : gS} {p0 : Int32} (hb : b < 199) (hQ : Q_X10_drop σ p0) : (F_X10_drop σ p0) b = σ b := by
  generalize hF : F_X10_drop σ p0 = fr
  rw [F_X10_drop_eq] at hF
  unfold Fr_X10_drop at hF
  unfold Q_X10_drop at hQ
  subst hF
  exact (fhG_X10_drop_L12 hb 4000 _ _ hQ).trans ((pf_ne (by omega)).trans rfl)
theorem fhG_X10_write_L3 {b : Nat} {p0 : Int32} {p1 : Int64} {p2 : Int32} (hb : b < 199) : ∀ (n : Nat) (y5 : Int32) (σ : gS), QG_X10_write_L3 p0 p1 p2 n y5 σ → (G_X10_write_L3 p0 p1 p2 n y5 σ) b = σ b := by
  intro n
  induction n with
  | zero => intro y5 σ hQ; exact absurd hQ (by unfold QG_X10_write_L3; exact id)
  | succ n ihL3 =>
    intro y5 σ hQ
    generalize hF : G_X10_write_L3 p0 p1 p2 (n + 1) y5 σ = fr
    unfold G_X10_write_L3 at hF
    unfold QG_X10_write_L3 at hQ
    rcases ite_or hF with ⟨d1, hF⟩ | ⟨d1, hF⟩
    · replace hQ := ite_q hQ d1
      subst hF
      exact rfl
    · replace hQ := ite_r hQ d1
      have o2 := hQ.1
      replace hQ := hQ.2
      subst hF
      exact (ihL3 _ _ hQ).trans ((pf_ne (by omega)).trans rfl)
theorem fh_X10_write {b : Nat} {σ : gS} {p0 : Int32} {p1 : Int64} {p2 : Int32} (hb : b < 199) (hQ : Q_X10_write σ p0 p1 p2) : (F_X10_write σ p0 p1 p2) b = σ b := by
  generalize hF : F_X10_write σ p0 p1 p2 = fr
  rw [F_X10_write_eq] at hF
  unfold Fr_X10_write at hF
  unfold Q_X10_write at hQ
  subst hF
  exact (fhG_X10_write_L3 hb 4000 _ _ hQ).trans rfl
theorem fhJ_X10_lay__53 {b : Nat} {p0 : Int32} {p1 : Int32} {p2 : Int32} {p3 : Int64} (hb : b < 199) : ∀ (u0 : Int32) (u1 : Int64) (σ : gS) (ζ : gQ), QJ_X10_lay__53 p0 p1 p2 p3 u0 u1 σ ζ → (J_X10_lay__53 p0 p1 p2 p3 u0 u1 σ ζ).1 b = σ b := by
  intro u0 u1 σ ζ hQ
  generalize hF : J_X10_lay__53 p0 p1 p2 p3 u0 u1 σ ζ = fr
  unfold J_X10_lay__53 at hF
  unfold QJ_X10_lay__53 at hQ
  have o14 := hQ.1
  replace hQ := hQ.2
  have o17 := hQ.1
  replace hQ := hQ.2
  have o20 := hQ.1
  replace hQ := hQ.2
  subst hF
  exact ((pf_ne (by omega)).trans ((fh_X10_write hb o20).trans ((fh_X10_write hb o17).trans ((fh_X10_write hb o14).trans rfl))))
theorem fh_X10_lay_ {b : Nat} {σ : gS} {ζ : gQ} {p0 : Int32} {p1 : Int32} {p2 : Int32} {p3 : Int64} (hb : b < 199) (hQ : Q_X10_lay_ σ ζ p0 p1 p2 p3) : (F_X10_lay_ σ ζ p0 p1 p2 p3).1 b = σ b := by
  generalize hF : F_X10_lay_ σ ζ p0 p1 p2 p3 = fr
  rw [F_X10_lay__eq] at hF
  unfold Fr_X10_lay_ at hF
  unfold Q_X10_lay_ at hQ
  have o1 := hQ.1
  replace hQ := hQ.2
  have o4 := hQ.1
  replace hQ := hQ.2
  have o7 := hQ.1
  replace hQ := hQ.2
  have o10 := hQ.1
  replace hQ := hQ.2
  rcases ite_or hF with ⟨d1, hF⟩ | ⟨d1, hF⟩
  · replace hQ := ite_q hQ d1
    subst hF
    exact (fhJ_X10_lay__53 hb _ _ _ _ hQ).trans ((fh_X10_write hb o10).trans ((fh_X10_write hb o7).trans ((fh_X10_write hb o4).trans ((fh_X10_write hb o1).trans rfl))))
  · replace hQ := ite_r hQ d1
    subst hF
    exact (fhJ_X10_lay__53 hb _ _ _ _ hQ).trans ((fh_X10_write hb o10).trans ((fh_X10_write hb o7).trans ((fh_X10_write hb o4).trans ((fh_X10_write hb o1).trans rfl))))
theorem fh_X10_count {b : Nat} {σ : gS}  (hb : b < 199)  : (F_X10_count σ ) b = σ b := by
  generalize hF : F_X10_count σ  = fr
  rw [F_X10_count_eq] at hF
  unfold Fr_X10_count at hF
  rcases ite_or hF with ⟨d1, hF⟩ | ⟨d1, hF⟩
  · skip
    subst hF
    exact ((pf_ne (by omega)).trans rfl)
  · skip
    rcases ite_or hF with ⟨d2, hF⟩ | ⟨d2, hF⟩
    · skip
      subst hF
      exact ((pf_ne (by omega)).trans rfl)
    · skip
      subst hF
      exact ((pf_ne (by omega)).trans ((pf_ne (by omega)).trans rfl))
theorem fhJ_X10_put__78 {b : Nat} {p0 : Int32} {p1 : Int32} {p2 : Int32} (hb : b < 199) : ∀ (y4 : Int64) (σ : gS) (ζ : gQ), QJ_X10_put__78 p0 p1 p2 y4 σ ζ → (J_X10_put__78 p0 p1 p2 y4 σ ζ).2.1 b = σ b := by
  intro y4 σ ζ hQ
  generalize hF : J_X10_put__78 p0 p1 p2 y4 σ ζ = fr
  unfold J_X10_put__78 at hF
  unfold QJ_X10_put__78 at hQ
  have o4 := hQ.1
  replace hQ := hQ.2
  subst hF
  exact ((fh_X10_count hb).trans ((fh_X10_lay_ hb o4).trans rfl))
theorem fhJ_X10_put__34 {b : Nat} {p0 : Int32} {p1 : Int32} {p2 : Int32} (hb : b < 199) : ∀ (u0 : Int64) (σ : gS) (ζ : gQ), QJ_X10_put__34 p0 p1 p2 u0 σ ζ → (J_X10_put__34 p0 p1 p2 u0 σ ζ).2.1 b = σ b := by
  intro u0 σ ζ hQ
  generalize hF : J_X10_put__34 p0 p1 p2 u0 σ ζ = fr
  unfold J_X10_put__34 at hF
  unfold QJ_X10_put__34 at hQ
  rcases ite_or hF with ⟨d1, hF⟩ | ⟨d1, hF⟩
  · replace hQ := ite_q hQ d1
    have o9 := hQ.1
    replace hQ := hQ.2
    have o12 := hQ.1
    replace hQ := hQ.2
    rcases ite_or hF with ⟨d2, hF⟩ | ⟨d2, hF⟩
    · replace hQ := ite_q hQ d2
      subst hF
      exact (fhJ_X10_put__78 hb _ _ _ hQ).trans ((fh_X10_count hb).trans ((pf_ne (by omega)).trans ((fh_X10_lay_ hb o12).trans ((fh_X10_drop hb o9).trans rfl))))
    · replace hQ := ite_r hQ d2
      subst hF
      exact ((fh_X10_count hb).trans ((pf_ne (by omega)).trans ((fh_X10_lay_ hb o12).trans ((fh_X10_drop hb o9).trans rfl))))
  · replace hQ := ite_r hQ d1
    subst hF
    exact (fhJ_X10_put__78 hb _ _ _ hQ).trans rfl
theorem fhJ_X10_put__33 {b : Nat} {p0 : Int32} {p1 : Int32} {p2 : Int32} (hb : b < 199) : ∀ (σ : gS) (ζ : gQ), QJ_X10_put__33 p0 p1 p2 σ ζ → (J_X10_put__33 p0 p1 p2 σ ζ).2.1 b = σ b := by
  intro σ ζ hQ
  generalize hF : J_X10_put__33 p0 p1 p2 σ ζ = fr
  unfold J_X10_put__33 at hF
  unfold QJ_X10_put__33 at hQ
  subst hF
  exact (fhJ_X10_put__34 hb _ _ _ hQ).trans rfl
theorem fh_X10_put_ {b : Nat} {σ : gS} {ζ : gQ} {p0 : Int32} {p1 : Int32} {p2 : Int32} (hb : b < 199) (hQ : Q_X10_put_ σ ζ p0 p1 p2) : (F_X10_put_ σ ζ p0 p1 p2).2.1 b = σ b := by
  generalize hF : F_X10_put_ σ ζ p0 p1 p2 = fr
  rw [F_X10_put__eq] at hF
  unfold Fr_X10_put_ at hF
  unfold Q_X10_put_ at hQ
  rcases ite_or hF with ⟨d3, hF⟩ | ⟨d3, hF⟩
  · replace hQ := ite_q hQ d3
    rcases ite_or hF with ⟨d4, hF⟩ | ⟨d4, hF⟩
    · replace hQ := ite_q hQ d4
      subst hF
      exact (fhJ_X10_put__33 hb _ _ hQ).trans rfl
    · replace hQ := ite_r hQ d4
      have o19 := hQ.1
      replace hQ := hQ.2
      rcases ite_or hF with ⟨d5, hF⟩ | ⟨d5, hF⟩
      · replace hQ := ite_q hQ d5
        subst hF
        exact (fhJ_X10_put__33 hb _ _ hQ).trans ((fh_X10_isGood hb o19).trans rfl)
      · replace hQ := ite_r hQ d5
        have o23 := hQ.1
        replace hQ := hQ.2
        subst hF
        exact (fhJ_X10_put__34 hb _ _ _ hQ).trans ((fh_X10_isGood hb o19).trans rfl)
  · replace hQ := ite_r hQ d3
    subst hF
    exact rfl
theorem fh_X10_insideTo {b : Nat} {σ : gS} {p0 : Int32} {p1 : Int32} (hb : b < 199)  : (F_X10_insideTo σ p0 p1) b = σ b := by
  generalize hF : F_X10_insideTo σ p0 p1 = fr
  rw [F_X10_insideTo_eq] at hF
  unfold Fr_X10_insideTo at hF
  subst hF
  exact ((pf_ne (by omega)).trans ((pf_ne (by omega)).trans rfl))
theorem fhG_X10_enrols_L106 {b : Nat} {p0 : Int32} (hb : b < 199) {kL64 : Int32 → gS → gQ → gS × gQ} {qL64 : Int32 → gS → gQ → Prop} (hkL64 : ∀ (y2 : Int32) (σ : gS) (ζ : gQ), qL64 y2 σ ζ → (kL64 y2 σ ζ).1 b = σ b) : ∀ (n : Nat) (y2 : Int32) (y3 : Int32) (y4 : Int32) (σ : gS) (ζ : gQ), QG_X10_enrols_L106 p0 qL64 n y2 y3 y4 σ ζ → (G_X10_enrols_L106 p0 kL64 n y2 y3 y4 σ ζ).1 b = σ b := by
  intro n
  induction n with
  | zero => intro y2 y3 y4 σ ζ hQ; exact absurd hQ (by unfold QG_X10_enrols_L106; exact id)
  | succ n ihL106 =>
    intro y2 y3 y4 σ ζ hQ
    generalize hF : G_X10_enrols_L106 p0 kL64 (n + 1) y2 y3 y4 σ ζ = fr
    unfold G_X10_enrols_L106 at hF
    unfold QG_X10_enrols_L106 at hQ
    rcases ite_or hF with ⟨d1, hF⟩ | ⟨d1, hF⟩
    · replace hQ := ite_q hQ d1
      subst hF
      exact (hkL64 _ _ _ hQ).trans rfl
    · replace hQ := ite_r hQ d1
      have o23 := hQ.1
      replace hQ := hQ.2
      have o24 := hQ.1
      replace hQ := hQ.2
      subst hF
      exact (ihL106 _ _ _ _ _ hQ).trans ((pf_ne (by omega)).trans rfl)
theorem fhG_X10_enrols_L64 {b : Nat} {p0 : Int32} (hb : b < 199) : ∀ (n : Nat) (y2 : Int32) (σ : gS) (ζ : gQ), QG_X10_enrols_L64 p0 n y2 σ ζ → (G_X10_enrols_L64 p0 n y2 σ ζ).1 b = σ b := by
  intro n
  induction n with
  | zero => intro y2 σ ζ hQ; exact absurd hQ (by unfold QG_X10_enrols_L64; exact id)
  | succ n ihL64 =>
    intro y2 σ ζ hQ
    generalize hF : G_X10_enrols_L64 p0 (n + 1) y2 σ ζ = fr
    unfold G_X10_enrols_L64 at hF
    unfold QG_X10_enrols_L64 at hQ
    rcases ite_or hF with ⟨d2, hF⟩ | ⟨d2, hF⟩
    · replace hQ := ite_q hQ d2
      subst hF
      exact ((pf_ne (by omega)).trans ((fh_X10_insideTo hb).trans rfl))
    · replace hQ := ite_r hQ d2
      rcases ite_or hF with ⟨d3, hF⟩ | ⟨d3, hF⟩
      · replace hQ := ite_q hQ d3
        have o26 := hQ.1
        replace hQ := hQ.2
        have o28 := hQ.1
        replace hQ := hQ.2
        subst hF
        exact (fhG_X10_enrols_L106 hb ihL64 4000 _ _ _ _ _ hQ).trans ((pf_ne (by omega)).trans rfl)
      · replace hQ := ite_r hQ d3
        have o18 := hQ.1
        replace hQ := hQ.2
        have o20 := hQ.1
        replace hQ := hQ.2
        subst hF
        exact (fhG_X10_enrols_L106 hb ihL64 4000 _ _ _ _ _ hQ).trans ((pf_ne (by omega)).trans rfl)
theorem fh_X10_enrols {b : Nat} {σ : gS} {ζ : gQ} {p0 : Int32} (hb : b < 199) (hQ : Q_X10_enrols σ ζ p0) : (F_X10_enrols σ ζ p0).1 b = σ b := by
  generalize hF : F_X10_enrols σ ζ p0 = fr
  rw [F_X10_enrols_eq] at hF
  unfold Fr_X10_enrols at hF
  unfold Q_X10_enrols at hQ
  have o1 := hQ.1
  replace hQ := hQ.2
  rcases ite_or hF with ⟨d4, hF⟩ | ⟨d4, hF⟩
  · replace hQ := ite_q hQ d4
    have o30 := hQ.1
    replace hQ := hQ.2
    rcases ite_or hF with ⟨d5, hF⟩ | ⟨d5, hF⟩
    · replace hQ := ite_q hQ d5
      subst hF
      exact ((fh_X10_put_ hb o30).trans rfl)
    · replace hQ := ite_r hQ d5
      subst hF
      exact ((fh_X10_insideTo hb).trans ((fh_X10_put_ hb o30).trans rfl))
  · replace hQ := ite_r hQ d4
    have o4 := hQ.1
    replace hQ := hQ.2
    rcases ite_or hF with ⟨d6, hF⟩ | ⟨d6, hF⟩
    · replace hQ := ite_q hQ d6
      subst hF
      exact ((fh_X10_put_ hb o4).trans rfl)
    · replace hQ := ite_r hQ d6
      have o9 := hQ.1
      replace hQ := hQ.2
      subst hF
      exact (fhG_X10_enrols_L64 hb 4000 _ _ _ hQ).trans ((pf_ne (by omega)).trans ((pf_ne (by omega)).trans ((fh_X10_put_ hb o4).trans rfl)))
theorem fh_X10_sees {b : Nat} {σ : gS} {ζ : gQ}  (hb : b < 199) (hQ : Q_X10_sees σ ζ ) : (F_X10_sees σ ζ ).2.1 b = σ b := by
  generalize hF : F_X10_sees σ ζ  = fr
  rw [F_X10_sees_eq] at hF
  unfold Fr_X10_sees at hF
  unfold Q_X10_sees at hQ
  rcases ite_or hF with ⟨d1, hF⟩ | ⟨d1, hF⟩
  · replace hQ := ite_q hQ d1
    have o2 := hQ.1
    replace hQ := hQ.2
    rcases ite_or hF with ⟨d2, hF⟩ | ⟨d2, hF⟩
    · replace hQ := ite_q hQ d2
      subst hF
      exact ((fh_X10_put_ hb o2).trans rfl)
    · replace hQ := ite_r hQ d2
      subst hF
      exact ((fh_X10_insideTo hb).trans ((pf_ne (by omega)).trans ((fh_X10_put_ hb o2).trans rfl)))
  · replace hQ := ite_r hQ d1
    subst hF
    exact rfl
theorem fh_X10_hasPass {b : Nat} {σ : gS} {ζ : gQ} {p0 : Int32} (hb : b < 199) (hQ : Q_X10_hasPass σ ζ p0) : (F_X10_hasPass σ ζ p0).2 b = σ b := by
  generalize hF : F_X10_hasPass σ ζ p0 = fr
  rw [F_X10_hasPass_eq] at hF
  unfold Fr_X10_hasPass at hF
  unfold Q_X10_hasPass at hQ
  have o1 := hQ.1
  replace hQ := hQ.2
  rcases ite_or hF with ⟨d1, hF⟩ | ⟨d1, hF⟩
  · replace hQ := ite_q hQ d1
    subst hF
    exact ((fh_X10_isGood hb o1).trans rfl)
  · replace hQ := ite_r hQ d1
    have o5 := hQ.1
    replace hQ := hQ.2
    rcases ite_or hF with ⟨d2, hF⟩ | ⟨d2, hF⟩
    · replace hQ := ite_q hQ d2
      have o8 := hQ.1
      replace hQ := hQ.2
      rcases ite_or hF with ⟨d3, hF⟩ | ⟨d3, hF⟩
      · replace hQ := ite_q hQ d3
        subst hF
        exact ((fh_X10_isGood hb o8).trans ((fh_X10_isGood hb o1).trans rfl))
      · replace hQ := ite_r hQ d3
        have o12 := hQ.1
        replace hQ := hQ.2
        rcases ite_or hF with ⟨d4, hF⟩ | ⟨d4, hF⟩
        · replace hQ := ite_q hQ d4
          subst hF
          exact ((fh_X10_isGood hb o8).trans ((fh_X10_isGood hb o1).trans rfl))
        · replace hQ := ite_r hQ d4
          subst hF
          exact ((fh_X10_isGood hb o8).trans ((fh_X10_isGood hb o1).trans rfl))
    · replace hQ := ite_r hQ d2
      subst hF
      exact ((fh_X10_isGood hb o1).trans rfl)
theorem fhJ_X10_isLost_66 {b : Nat} {p0 : Int32} (hb : b < 199) : ∀ (σ : gS) (ζ : gQ), QJ_X10_isLost_66 p0 σ ζ → (J_X10_isLost_66 p0 σ ζ).2.1 b = σ b := by
  intro σ ζ hQ
  generalize hF : J_X10_isLost_66 p0 σ ζ = fr
  unfold J_X10_isLost_66 at hF
  unfold QJ_X10_isLost_66 at hQ
  have o6 := hQ.1
  replace hQ := hQ.2
  rcases ite_or hF with ⟨d1, hF⟩ | ⟨d1, hF⟩
  · replace hQ := ite_q hQ d1
    subst hF
    exact ((fh_X10_put_ hb o6).trans rfl)
  · replace hQ := ite_r hQ d1
    subst hF
    exact ((fh_X10_insideTo hb).trans ((pf_ne (by omega)).trans ((fh_X10_put_ hb o6).trans rfl)))
theorem fh_X10_isLost {b : Nat} {σ : gS} {ζ : gQ} {p0 : Int32} (hb : b < 199) (hQ : Q_X10_isLost σ ζ p0) : (F_X10_isLost σ ζ p0).2.1 b = σ b := by
  generalize hF : F_X10_isLost σ ζ p0 = fr
  rw [F_X10_isLost_eq] at hF
  unfold Fr_X10_isLost at hF
  unfold Q_X10_isLost at hQ
  rcases ite_or hF with ⟨d2, hF⟩ | ⟨d2, hF⟩
  · replace hQ := ite_q hQ d2
    have o2 := hQ.1
    replace hQ := hQ.2
    rcases ite_or hF with ⟨d3, hF⟩ | ⟨d3, hF⟩
    · replace hQ := ite_q hQ d3
      subst hF
      exact (fhJ_X10_isLost_66 hb _ _ hQ).trans ((fh_X10_hasPass hb o2).trans rfl)
    · replace hQ := ite_r hQ d3
      have o13 := hQ.1
      replace hQ := hQ.2
      rcases ite_or hF with ⟨d4, hF⟩ | ⟨d4, hF⟩
      · replace hQ := ite_q hQ d4
        subst hF
        exact ((fh_X10_hasPass hb o2).trans rfl)
      · replace hQ := ite_r hQ d4
        subst hF
        exact (fhJ_X10_isLost_66 hb _ _ hQ).trans ((fh_X10_hasPass hb o2).trans rfl)
  · replace hQ := ite_r hQ d2
    have o16 := hQ.1
    replace hQ := hQ.2
    rcases ite_or hF with ⟨d5, hF⟩ | ⟨d5, hF⟩
    · replace hQ := ite_q hQ d5
      subst hF
      exact ((fh_X10_put_ hb o16).trans rfl)
    · replace hQ := ite_r hQ d5
      subst hF
      exact ((pf_ne (by omega)).trans ((fh_X10_insideTo hb).trans ((pf_ne (by omega)).trans ((fh_X10_put_ hb o16).trans rfl))))
theorem fhJ_X10_asks_44 {b : Nat} {p0 : Int32} (hb : b < 199) : ∀ (u0 : Int32) (σ : gS) (ζ : gQ), QJ_X10_asks_44 p0 u0 σ ζ → (J_X10_asks_44 p0 u0 σ ζ).2.1 b = σ b := by
  intro u0 σ ζ hQ
  generalize hF : J_X10_asks_44 p0 u0 σ ζ = fr
  unfold J_X10_asks_44 at hF
  unfold QJ_X10_asks_44 at hQ
  rcases ite_or hF with ⟨d1, hF⟩ | ⟨d1, hF⟩
  · replace hQ := ite_q hQ d1
    have o15 := hQ.1
    replace hQ := hQ.2
    rcases ite_or hF with ⟨d2, hF⟩ | ⟨d2, hF⟩
    · replace hQ := ite_q hQ d2
      subst hF
      exact ((fh_X10_put_ hb o15).trans rfl)
    · replace hQ := ite_r hQ d2
      subst hF
      exact ((fh_X10_insideTo hb).trans ((pf_ne (by omega)).trans ((pf_ne (by omega)).trans ((fh_X10_put_ hb o15).trans rfl))))
  · replace hQ := ite_r hQ d1
    have o9 := hQ.1
    replace hQ := hQ.2
    rcases ite_or hF with ⟨d3, hF⟩ | ⟨d3, hF⟩
    · replace hQ := ite_q hQ d3
      subst hF
      exact ((fh_X10_put_ hb o9).trans rfl)
    · replace hQ := ite_r hQ d3
      subst hF
      exact ((pf_ne (by omega)).trans ((pf_ne (by omega)).trans ((fh_X10_put_ hb o9).trans rfl)))
theorem fh_X10_asks {b : Nat} {σ : gS} {ζ : gQ} {p0 : Int32} (hb : b < 199) (hQ : Q_X10_asks σ ζ p0) : (F_X10_asks σ ζ p0).2.1 b = σ b := by
  generalize hF : F_X10_asks σ ζ p0 = fr
  rw [F_X10_asks_eq] at hF
  unfold Fr_X10_asks at hF
  unfold Q_X10_asks at hQ
  have o1 := hQ.1
  replace hQ := hQ.2
  rcases ite_or hF with ⟨d4, hF⟩ | ⟨d4, hF⟩
  · replace hQ := ite_q hQ d4
    rcases ite_or hF with ⟨d5, hF⟩ | ⟨d5, hF⟩
    · replace hQ := ite_q hQ d5
      subst hF
      exact ((fh_X10_isLost hb o1).trans rfl)
    · replace hQ := ite_r hQ d5
      rcases ite_or hF with ⟨d6, hF⟩ | ⟨d6, hF⟩
      · replace hQ := ite_q hQ d6
        subst hF
        exact (fhJ_X10_asks_44 hb _ _ _ hQ).trans ((fh_X10_isLost hb o1).trans rfl)
      · replace hQ := ite_r hQ d6
        rcases ite_or hF with ⟨d7, hF⟩ | ⟨d7, hF⟩
        · replace hQ := ite_q hQ d7
          subst hF
          exact (fhJ_X10_asks_44 hb _ _ _ hQ).trans ((fh_X10_isLost hb o1).trans rfl)
        · replace hQ := ite_r hQ d7
          subst hF
          exact (fhJ_X10_asks_44 hb _ _ _ hQ).trans ((fh_X10_isLost hb o1).trans rfl)
  · replace hQ := ite_r hQ d4
    subst hF
    exact ((fh_X10_isLost hb o1).trans rfl)
theorem fhG_X10_ends_L163 {b : Nat} {p0 : Int32} (hb : b < 199) : ∀ (n : Nat) (y2 : Int32) (y3 : Int64) (y5 : Int32) (σ : gS) (ζ : gQ), QG_X10_ends_L163 p0 n y2 y3 y5 σ ζ → (G_X10_ends_L163 p0 n y2 y3 y5 σ ζ).1 b = σ b := by
  intro n
  induction n with
  | zero => intro y2 y3 y5 σ ζ hQ; exact absurd hQ (by unfold QG_X10_ends_L163; exact id)
  | succ n ihL163 =>
    intro y2 y3 y5 σ ζ hQ
    generalize hF : G_X10_ends_L163 p0 (n + 1) y2 y3 y5 σ ζ = fr
    unfold G_X10_ends_L163 at hF
    unfold QG_X10_ends_L163 at hQ
    rcases ite_or hF with ⟨d1, hF⟩ | ⟨d1, hF⟩
    · replace hQ := ite_q hQ d1
      have o13 := hQ.1
      replace hQ := hQ.2
      rcases ite_or hF with ⟨d2, hF⟩ | ⟨d2, hF⟩
      · replace hQ := ite_q hQ d2
        subst hF
        exact ((fh_X10_insideTo hb).trans ((pf_ne (by omega)).trans ((fh_X10_drop hb o13).trans rfl)))
      · replace hQ := ite_r hQ d2
        rcases ite_or hF with ⟨d3, hF⟩ | ⟨d3, hF⟩
        · replace hQ := ite_q hQ d3
          subst hF
          exact ((fh_X10_insideTo hb).trans ((pf_ne (by omega)).trans ((fh_X10_drop hb o13).trans rfl)))
        · replace hQ := ite_r hQ d3
          subst hF
          exact ((fh_X10_insideTo hb).trans ((pf_ne (by omega)).trans ((fh_X10_drop hb o13).trans rfl)))
    · replace hQ := ite_r hQ d1
      have o27 := hQ.1
      replace hQ := hQ.2
      rcases ite_or hF with ⟨d4, hF⟩ | ⟨d4, hF⟩
      · replace hQ := ite_q hQ d4
        have o30 := hQ.1
        replace hQ := hQ.2
        rcases ite_or hF with ⟨d5, hF⟩ | ⟨d5, hF⟩
        · replace hQ := ite_q hQ d5
          subst hF
          exact ((fh_X10_insideTo hb).trans ((pf_ne (by omega)).trans ((fh_X10_drop hb o30).trans rfl)))
        · replace hQ := ite_r hQ d5
          rcases ite_or hF with ⟨d6, hF⟩ | ⟨d6, hF⟩
          · replace hQ := ite_q hQ d6
            subst hF
            exact ((fh_X10_insideTo hb).trans ((pf_ne (by omega)).trans ((fh_X10_drop hb o30).trans rfl)))
          · replace hQ := ite_r hQ d6
            subst hF
            exact ((fh_X10_insideTo hb).trans ((pf_ne (by omega)).trans ((fh_X10_drop hb o30).trans rfl)))
      · replace hQ := ite_r hQ d4
        subst hF
        exact (ihL163 _ _ _ _ _ hQ).trans rfl
theorem fhG_X10_ends_L71 {b : Nat} {p0 : Int32} (hb : b < 199) : ∀ (n : Nat) (y2 : Int32) (y3 : Int32) (σ : gS) (ζ : gQ), QG_X10_ends_L71 p0 n y2 y3 σ ζ → (G_X10_ends_L71 p0 n y2 y3 σ ζ).1 b = σ b := by
  intro n
  induction n with
  | zero => intro y2 y3 σ ζ hQ; exact absurd hQ (by unfold QG_X10_ends_L71; exact id)
  | succ n ihL71 =>
    intro y2 y3 σ ζ hQ
    generalize hF : G_X10_ends_L71 p0 (n + 1) y2 y3 σ ζ = fr
    unfold G_X10_ends_L71 at hF
    unfold QG_X10_ends_L71 at hQ
    rcases ite_or hF with ⟨d7, hF⟩ | ⟨d7, hF⟩
    · replace hQ := ite_q hQ d7
      rcases ite_or hF with ⟨d8, hF⟩ | ⟨d8, hF⟩
      · replace hQ := ite_q hQ d8
        have o44 := hQ.1
        replace hQ := hQ.2
        rcases ite_or hF with ⟨d9, hF⟩ | ⟨d9, hF⟩
        · replace hQ := ite_q hQ d9
          subst hF
          exact ((fh_X10_put_ hb o44).trans rfl)
        · replace hQ := ite_r hQ d9
          subst hF
          exact ((fh_X10_insideTo hb).trans ((fh_X10_put_ hb o44).trans rfl))
      · replace hQ := ite_r hQ d8
        have o5 := hQ.1
        replace hQ := hQ.2
        have o8 := hQ.1
        replace hQ := hQ.2
        rcases ite_or hF with ⟨d10, hF⟩ | ⟨d10, hF⟩
        · replace hQ := ite_q hQ d10
          subst hF
          exact ((fh_X10_put_ hb o8).trans rfl)
        · replace hQ := ite_r hQ d10
          subst hF
          exact (fhG_X10_ends_L163 hb 4000 _ _ _ _ _ hQ).trans ((fh_X10_put_ hb o8).trans rfl)
    · replace hQ := ite_r hQ d7
      rcases ite_or hF with ⟨d11, hF⟩ | ⟨d11, hF⟩
      · replace hQ := ite_q hQ d11
        rcases ite_or hF with ⟨d12, hF⟩ | ⟨d12, hF⟩
        · replace hQ := ite_q hQ d12
          have o59 := hQ.1
          replace hQ := hQ.2
          rcases ite_or hF with ⟨d13, hF⟩ | ⟨d13, hF⟩
          · replace hQ := ite_q hQ d13
            subst hF
            exact ((fh_X10_put_ hb o59).trans rfl)
          · replace hQ := ite_r hQ d13
            subst hF
            exact ((fh_X10_insideTo hb).trans ((fh_X10_put_ hb o59).trans rfl))
        · replace hQ := ite_r hQ d12
          have o52 := hQ.1
          replace hQ := hQ.2
          have o55 := hQ.1
          replace hQ := hQ.2
          rcases ite_or hF with ⟨d14, hF⟩ | ⟨d14, hF⟩
          · replace hQ := ite_q hQ d14
            subst hF
            exact ((fh_X10_put_ hb o55).trans rfl)
          · replace hQ := ite_r hQ d14
            subst hF
            exact (fhG_X10_ends_L163 hb 4000 _ _ _ _ _ hQ).trans ((fh_X10_put_ hb o55).trans rfl)
      · replace hQ := ite_r hQ d11
        have o65 := hQ.1
        replace hQ := hQ.2
        have o66 := hQ.1
        replace hQ := hQ.2
        rcases ite_or hF with ⟨d15, hF⟩ | ⟨d15, hF⟩
        · replace hQ := ite_q hQ d15
          subst hF
          exact (ihL71 _ _ _ _ hQ).trans rfl
        · replace hQ := ite_r hQ d15
          subst hF
          exact (ihL71 _ _ _ _ hQ).trans rfl
theorem fhG_X10_ends_L30 {b : Nat} {p0 : Int32} (hb : b < 199) : ∀ (n : Nat) (y2 : Int32) (y3 : Int32) (σ : gS) (ζ : gQ), QG_X10_ends_L30 p0 n y2 y3 σ ζ → (G_X10_ends_L30 p0 n y2 y3 σ ζ).1 b = σ b := by
  intro n
  induction n with
  | zero => intro y2 y3 σ ζ hQ; exact absurd hQ (by unfold QG_X10_ends_L30; exact id)
  | succ n ihL30 =>
    intro y2 y3 σ ζ hQ
    generalize hF : G_X10_ends_L30 p0 (n + 1) y2 y3 σ ζ = fr
    unfold G_X10_ends_L30 at hF
    unfold QG_X10_ends_L30 at hQ
    rcases ite_or hF with ⟨d16, hF⟩ | ⟨d16, hF⟩
    · replace hQ := ite_q hQ d16
      subst hF
      exact (fhG_X10_ends_L71 hb 4000 _ _ _ _ hQ).trans rfl
    · replace hQ := ite_r hQ d16
      rcases ite_or hF with ⟨d17, hF⟩ | ⟨d17, hF⟩
      · replace hQ := ite_q hQ d17
        subst hF
        exact (fhG_X10_ends_L71 hb 4000 _ _ _ _ hQ).trans rfl
      · replace hQ := ite_r hQ d17
        have o69 := hQ.1
        replace hQ := hQ.2
        have o70 := hQ.1
        replace hQ := hQ.2
        rcases ite_or hF with ⟨d18, hF⟩ | ⟨d18, hF⟩
        · replace hQ := ite_q hQ d18
          subst hF
          exact (ihL30 _ _ _ _ hQ).trans rfl
        · replace hQ := ite_r hQ d18
          subst hF
          exact (ihL30 _ _ _ _ hQ).trans rfl
theorem fhJ_X10_ends_27 {b : Nat} {p0 : Int32} (hb : b < 199) : ∀ (u0 : Int32) (σ : gS) (ζ : gQ), QJ_X10_ends_27 p0 u0 σ ζ → (J_X10_ends_27 p0 u0 σ ζ).1 b = σ b := by
  intro u0 σ ζ hQ
  generalize hF : J_X10_ends_27 p0 u0 σ ζ = fr
  unfold J_X10_ends_27 at hF
  unfold QJ_X10_ends_27 at hQ
  subst hF
  exact (fhG_X10_ends_L30 hb 4000 _ _ _ _ hQ).trans rfl
theorem fhJ_X10_ends_26 {b : Nat} {p0 : Int32} (hb : b < 199) : ∀ (σ : gS) (ζ : gQ), QJ_X10_ends_26 p0 σ ζ → (J_X10_ends_26 p0 σ ζ).1 b = σ b := by
  intro σ ζ hQ
  generalize hF : J_X10_ends_26 p0 σ ζ = fr
  unfold J_X10_ends_26 at hF
  unfold QJ_X10_ends_26 at hQ
  subst hF
  exact (fhJ_X10_ends_27 hb _ _ _ hQ).trans rfl
theorem fh_X10_ends {b : Nat} {σ : gS} {ζ : gQ} {p0 : Int32} (hb : b < 199) (hQ : Q_X10_ends σ ζ p0) : (F_X10_ends σ ζ p0).1 b = σ b := by
  generalize hF : F_X10_ends σ ζ p0 = fr
  rw [F_X10_ends_eq] at hF
  unfold Fr_X10_ends at hF
  unfold Q_X10_ends at hQ
  rcases ite_or hF with ⟨d19, hF⟩ | ⟨d19, hF⟩
  · replace hQ := ite_q hQ d19
    rcases ite_or hF with ⟨d20, hF⟩ | ⟨d20, hF⟩
    · replace hQ := ite_q hQ d20
      subst hF
      exact (fhJ_X10_ends_26 hb _ _ hQ).trans rfl
    · replace hQ := ite_r hQ d20
      subst hF
      exact (fhJ_X10_ends_27 hb _ _ _ hQ).trans rfl
  · replace hQ := ite_r hQ d19
    subst hF
    exact (fhJ_X10_ends_26 hb _ _ hQ).trans rfl
theorem fhG_X10_archives_L90 {b : Nat} {p0 : Int32} (hb : b < 199) : ∀ (n : Nat) (y2 : Int32) (σ : gS) (ζ : gQ), QG_X10_archives_L90 p0 n y2 σ ζ → (G_X10_archives_L90 p0 n y2 σ ζ).1 b = σ b := by
  intro n
  induction n with
  | zero => intro y2 σ ζ hQ; exact absurd hQ (by unfold QG_X10_archives_L90; exact id)
  | succ n ihL90 =>
    intro y2 σ ζ hQ
    generalize hF : G_X10_archives_L90 p0 (n + 1) y2 σ ζ = fr
    unfold G_X10_archives_L90 at hF
    unfold QG_X10_archives_L90 at hQ
    rcases ite_or hF with ⟨d1, hF⟩ | ⟨d1, hF⟩
    · replace hQ := ite_q hQ d1
      subst hF
      exact ((fh_X10_insideTo hb).trans ((pf_ne (by omega)).trans rfl))
    · replace hQ := ite_r hQ d1
      have o14 := hQ.1
      replace hQ := hQ.2
      have o15 := hQ.1
      replace hQ := hQ.2
      subst hF
      exact (ihL90 _ _ _ hQ).trans ((pf_ne (by omega)).trans rfl)
theorem fhG_X10_archives_L57 {b : Nat} {p0 : Int32} (hb : b < 199) : ∀ (n : Nat) (y2 : Int32) (σ : gS) (ζ : gQ), QG_X10_archives_L57 p0 n y2 σ ζ → (G_X10_archives_L57 p0 n y2 σ ζ).1 b = σ b := by
  intro n
  induction n with
  | zero => intro y2 σ ζ hQ; exact absurd hQ (by unfold QG_X10_archives_L57; exact id)
  | succ n ihL57 =>
    intro y2 σ ζ hQ
    generalize hF : G_X10_archives_L57 p0 (n + 1) y2 σ ζ = fr
    unfold G_X10_archives_L57 at hF
    unfold QG_X10_archives_L57 at hQ
    rcases ite_or hF with ⟨d2, hF⟩ | ⟨d2, hF⟩
    · replace hQ := ite_q hQ d2
      subst hF
      exact (fhG_X10_archives_L90 hb 4000 _ _ _ hQ).trans rfl
    · replace hQ := ite_r hQ d2
      have o17 := hQ.1
      replace hQ := hQ.2
      have o18 := hQ.1
      replace hQ := hQ.2
      subst hF
      exact (ihL57 _ _ _ hQ).trans ((pf_ne (by omega)).trans rfl)
theorem fhJ_X10_archives_31 {b : Nat} {p0 : Int32} (hb : b < 199) : ∀ (u0 : Int32) (σ : gS) (ζ : gQ), QJ_X10_archives_31 p0 u0 σ ζ → (J_X10_archives_31 p0 u0 σ ζ).1 b = σ b := by
  intro u0 σ ζ hQ
  generalize hF : J_X10_archives_31 p0 u0 σ ζ = fr
  unfold J_X10_archives_31 at hF
  unfold QJ_X10_archives_31 at hQ
  subst hF
  exact (fhG_X10_archives_L57 hb 4000 _ _ _ hQ).trans ((pf_ne (by omega)).trans ((pf_ne (by omega)).trans ((pf_ne (by omega)).trans rfl)))
theorem fh_X10_archives {b : Nat} {σ : gS} {ζ : gQ} {p0 : Int32} (hb : b < 199) (hQ : Q_X10_archives σ ζ p0) : (F_X10_archives σ ζ p0).1 b = σ b := by
  generalize hF : F_X10_archives σ ζ p0 = fr
  rw [F_X10_archives_eq] at hF
  unfold Fr_X10_archives at hF
  unfold Q_X10_archives at hQ
  have o1 := hQ.1
  replace hQ := hQ.2
  rcases ite_or hF with ⟨d3, hF⟩ | ⟨d3, hF⟩
  · replace hQ := ite_q hQ d3
    subst hF
    exact ((fh_X10_put_ hb o1).trans rfl)
  · replace hQ := ite_r hQ d3
    rcases ite_or hF with ⟨d4, hF⟩ | ⟨d4, hF⟩
    · replace hQ := ite_q hQ d4
      subst hF
      exact (fhJ_X10_archives_31 hb _ _ _ hQ).trans ((fh_X10_put_ hb o1).trans rfl)
    · replace hQ := ite_r hQ d4
      subst hF
      exact (fhJ_X10_archives_31 hb _ _ _ hQ).trans ((fh_X10_put_ hb o1).trans rfl)
theorem fhG_X10_takeSettings_L4 {b : Nat}  (hb : b < 199) : ∀ (n : Nat) (y1 : Int32) (y2 : Int32) (σ : gS), QG_X10_takeSettings_L4  n y1 y2 σ → (G_X10_takeSettings_L4  n y1 y2 σ) b = σ b := by
  intro n
  induction n with
  | zero => intro y1 y2 σ hQ; exact absurd hQ (by unfold QG_X10_takeSettings_L4; exact id)
  | succ n ihL4 =>
    intro y1 y2 σ hQ
    generalize hF : G_X10_takeSettings_L4  (n + 1) y1 y2 σ = fr
    unfold G_X10_takeSettings_L4 at hF
    unfold QG_X10_takeSettings_L4 at hQ
    rcases ite_or hF with ⟨d1, hF⟩ | ⟨d1, hF⟩
    · replace hQ := ite_q hQ d1
      subst hF
      exact rfl
    · replace hQ := ite_r hQ d1
      have o3 := hQ.1
      replace hQ := hQ.2
      have o5 := hQ.1
      replace hQ := hQ.2
      subst hF
      exact (ihL4 _ _ _ hQ).trans ((pf_ne (by omega)).trans rfl)
theorem fh_X10_takeSettings {b : Nat} {σ : gS}  (hb : b < 199) (hQ : Q_X10_takeSettings σ ) : (F_X10_takeSettings σ ) b = σ b := by
  generalize hF : F_X10_takeSettings σ  = fr
  rw [F_X10_takeSettings_eq] at hF
  unfold Fr_X10_takeSettings at hF
  unfold Q_X10_takeSettings at hQ
  subst hF
  exact (fhG_X10_takeSettings_L4 hb 4000 _ _ _ hQ).trans rfl
theorem fh_X10_opens {b : Nat} {σ : gS} {ζ : gQ}  (hb : b < 199)  : (F_X10_opens σ ζ ).1 b = σ b := by
  generalize hF : F_X10_opens σ ζ  = fr
  rw [F_X10_opens_eq] at hF
  unfold Fr_X10_opens at hF
  subst hF
  exact ((pf_ne (by omega)).trans ((pf_ne (by omega)).trans rfl))
theorem fhJ_X10_shuts_48 {b : Nat} {p0 : Int32} (hb : b < 199) : ∀ (u0 : Int32) (σ : gS) (ζ : gQ), QJ_X10_shuts_48 p0 u0 σ ζ → (J_X10_shuts_48 p0 u0 σ ζ).1 b = σ b := by
  intro u0 σ ζ hQ
  generalize hF : J_X10_shuts_48 p0 u0 σ ζ = fr
  unfold J_X10_shuts_48 at hF
  unfold QJ_X10_shuts_48 at hQ
  rcases ite_or hF with ⟨d1, hF⟩ | ⟨d1, hF⟩
  · replace hQ := ite_q hQ d1
    subst hF
    exact rfl
  · replace hQ := ite_r hQ d1
    have o4 := hQ.1
    replace hQ := hQ.2
    rcases ite_or hF with ⟨d2, hF⟩ | ⟨d2, hF⟩
    · replace hQ := ite_q hQ d2
      subst hF
      exact ((fh_X10_put_ hb o4).trans rfl)
    · replace hQ := ite_r hQ d2
      subst hF
      exact ((fh_X10_insideTo hb).trans ((pf_ne (by omega)).trans ((pf_ne (by omega)).trans ((pf_ne (by omega)).trans ((pf_ne (by omega)).trans ((pf_ne (by omega)).trans ((pf_ne (by omega)).trans ((fh_X10_put_ hb o4).trans rfl))))))))
theorem fhJ_X10_shuts_43 {b : Nat} {p0 : Int32} (hb : b < 199) : ∀ (σ : gS) (ζ : gQ), QJ_X10_shuts_43 p0 σ ζ → (J_X10_shuts_43 p0 σ ζ).1 b = σ b := by
  intro σ ζ hQ
  generalize hF : J_X10_shuts_43 p0 σ ζ = fr
  unfold J_X10_shuts_43 at hF
  unfold QJ_X10_shuts_43 at hQ
  subst hF
  exact (fhJ_X10_shuts_48 hb _ _ _ hQ).trans rfl
theorem fh_X10_shuts {b : Nat} {σ : gS} {ζ : gQ} {p0 : Int32} (hb : b < 199) (hQ : Q_X10_shuts σ ζ p0) : (F_X10_shuts σ ζ p0).1 b = σ b := by
  generalize hF : F_X10_shuts σ ζ p0 = fr
  rw [F_X10_shuts_eq] at hF
  unfold Fr_X10_shuts at hF
  unfold Q_X10_shuts at hQ
  rcases ite_or hF with ⟨d3, hF⟩ | ⟨d3, hF⟩
  · replace hQ := ite_q hQ d3
    rcases ite_or hF with ⟨d4, hF⟩ | ⟨d4, hF⟩
    · replace hQ := ite_q hQ d4
      subst hF
      exact (fhJ_X10_shuts_43 hb _ _ hQ).trans rfl
    · replace hQ := ite_r hQ d4
      have o16 := hQ.1
      replace hQ := hQ.2
      rcases ite_or hF with ⟨d5, hF⟩ | ⟨d5, hF⟩
      · replace hQ := ite_q hQ d5
        subst hF
        exact (fhJ_X10_shuts_48 hb _ _ _ hQ).trans ((fh_X10_put_ hb o16).trans rfl)
      · replace hQ := ite_r hQ d5
        subst hF
        exact (fhJ_X10_shuts_43 hb _ _ hQ).trans ((fh_X10_put_ hb o16).trans rfl)
  · replace hQ := ite_r hQ d3
    have o20 := hQ.1
    replace hQ := hQ.2
    rcases ite_or hF with ⟨d6, hF⟩ | ⟨d6, hF⟩
    · replace hQ := ite_q hQ d6
      subst hF
      exact ((fh_X10_put_ hb o20).trans rfl)
    · replace hQ := ite_r hQ d6
      subst hF
      exact ((fh_X10_insideTo hb).trans ((fh_X10_put_ hb o20).trans rfl))
theorem fhJ_X10_works_141 {b : Nat} {p0 : Int32} (hb : b < 199) : ∀ (y2 : Int32) (σ : gS) (ζ : gQ), QJ_X10_works_141 p0 y2 σ ζ → (J_X10_works_141 p0 y2 σ ζ).2.1 b = σ b := by
  intro y2 σ ζ hQ
  generalize hF : J_X10_works_141 p0 y2 σ ζ = fr
  unfold J_X10_works_141 at hF
  unfold QJ_X10_works_141 at hQ
  rcases ite_or hF with ⟨d1, hF⟩ | ⟨d1, hF⟩
  · replace hQ := ite_q hQ d1
    subst hF
    exact ((fh_X10_insideTo hb).trans rfl)
  · replace hQ := ite_r hQ d1
    subst hF
    exact ((fh_X10_insideTo hb).trans rfl)
theorem fhJ_X10_works_126 {b : Nat} {p0 : Int32} (hb : b < 199) : ∀ (y2 : Int32) (u0 : Int32) (u1 : Int32) (σ : gS) (ζ : gQ), QJ_X10_works_126 p0 y2 u0 u1 σ ζ → (J_X10_works_126 p0 y2 u0 u1 σ ζ).2.1 b = σ b := by
  intro y2 u0 u1 σ ζ hQ
  generalize hF : J_X10_works_126 p0 y2 u0 u1 σ ζ = fr
  unfold J_X10_works_126 at hF
  unfold QJ_X10_works_126 at hQ
  have o12 := hQ.1
  replace hQ := hQ.2
  rcases ite_or hF with ⟨d2, hF⟩ | ⟨d2, hF⟩
  · replace hQ := ite_q hQ d2
    subst hF
    exact ((fh_X10_put_ hb o12).trans rfl)
  · replace hQ := ite_r hQ d2
    rcases ite_or hF with ⟨d3, hF⟩ | ⟨d3, hF⟩
    · replace hQ := ite_q hQ d3
      subst hF
      exact (fhJ_X10_works_141 hb _ _ _ hQ).trans ((fh_X10_put_ hb o12).trans rfl)
    · replace hQ := ite_r hQ d3
      have o22 := hQ.1
      replace hQ := hQ.2
      subst hF
      exact (fhJ_X10_works_141 hb _ _ _ hQ).trans ((fh_X10_takeSettings hb o22).trans ((fh_X10_put_ hb o12).trans rfl))
theorem fhJ_X10_works_117 {b : Nat} {p0 : Int32} (hb : b < 199) : ∀ (y2 : Int32) (u0 : Int32) (σ : gS) (ζ : gQ), QJ_X10_works_117 p0 y2 u0 σ ζ → (J_X10_works_117 p0 y2 u0 σ ζ).2.1 b = σ b := by
  intro y2 u0 σ ζ hQ
  generalize hF : J_X10_works_117 p0 y2 u0 σ ζ = fr
  unfold J_X10_works_117 at hF
  unfold QJ_X10_works_117 at hQ
  rcases ite_or hF with ⟨d4, hF⟩ | ⟨d4, hF⟩
  · replace hQ := ite_q hQ d4
    subst hF
    exact (fhJ_X10_works_126 hb _ _ _ _ _ hQ).trans rfl
  · replace hQ := ite_r hQ d4
    subst hF
    exact (fhJ_X10_works_126 hb _ _ _ _ _ hQ).trans rfl
theorem fhJ_X10_works_62 {b : Nat} {p0 : Int32} (hb : b < 199) : ∀ (σ : gS) (ζ : gQ), QJ_X10_works_62 p0 σ ζ → (J_X10_works_62 p0 σ ζ).2.1 b = σ b := by
  intro σ ζ hQ
  generalize hF : J_X10_works_62 p0 σ ζ = fr
  unfold J_X10_works_62 at hF
  unfold QJ_X10_works_62 at hQ
  rcases ite_or hF with ⟨d5, hF⟩ | ⟨d5, hF⟩
  · replace hQ := ite_q hQ d5
    have o4 := hQ.1
    replace hQ := hQ.2
    subst hF
    exact ((fh_X10_archives hb o4).trans rfl)
  · replace hQ := ite_r hQ d5
    rcases ite_or hF with ⟨d6, hF⟩ | ⟨d6, hF⟩
    · replace hQ := ite_q hQ d6
      have o8 := hQ.1
      replace hQ := hQ.2
      rcases ite_or hF with ⟨d7, hF⟩ | ⟨d7, hF⟩
      · replace hQ := ite_q hQ d7
        subst hF
        exact (fhJ_X10_works_117 hb _ _ _ _ hQ).trans rfl
      · replace hQ := ite_r hQ d7
        subst hF
        exact (fhJ_X10_works_117 hb _ _ _ _ hQ).trans rfl
    · replace hQ := ite_r hQ d6
      rcases ite_or hF with ⟨d8, hF⟩ | ⟨d8, hF⟩
      · replace hQ := ite_q hQ d8
        have o26 := hQ.1
        replace hQ := hQ.2
        rcases ite_or hF with ⟨d9, hF⟩ | ⟨d9, hF⟩
        · replace hQ := ite_q hQ d9
          subst hF
          exact ((fh_X10_put_ hb o26).trans rfl)
        · replace hQ := ite_r hQ d9
          have o30 := hQ.1
          replace hQ := hQ.2
          rcases ite_or hF with ⟨d10, hF⟩ | ⟨d10, hF⟩
          · replace hQ := ite_q hQ d10
            subst hF
            exact ((fh_X10_put_ hb o30).trans ((fh_X10_put_ hb o26).trans rfl))
          · replace hQ := ite_r hQ d10
            subst hF
            exact ((fh_X10_insideTo hb).trans ((fh_X10_opens hb).trans ((fh_X10_put_ hb o30).trans ((fh_X10_put_ hb o26).trans rfl))))
      · replace hQ := ite_r hQ d8
        have o38 := hQ.1
        replace hQ := hQ.2
        subst hF
        exact ((fh_X10_shuts hb o38).trans rfl)
theorem fhJ_X10_works_24 {b : Nat} {p0 : Int32} (hb : b < 199) : ∀ (σ : gS) (ζ : gQ), QJ_X10_works_24 p0 σ ζ → (J_X10_works_24 p0 σ ζ).2.1 b = σ b := by
  intro σ ζ hQ
  generalize hF : J_X10_works_24 p0 σ ζ = fr
  unfold J_X10_works_24 at hF
  unfold QJ_X10_works_24 at hQ
  rcases ite_or hF with ⟨d11, hF⟩ | ⟨d11, hF⟩
  · replace hQ := ite_q hQ d11
    subst hF
    exact (fhJ_X10_works_62 hb _ _ hQ).trans rfl
  · replace hQ := ite_r hQ d11
    rcases ite_or hF with ⟨d12, hF⟩ | ⟨d12, hF⟩
    · replace hQ := ite_q hQ d12
      subst hF
      exact (fhJ_X10_works_62 hb _ _ hQ).trans rfl
    · replace hQ := ite_r hQ d12
      rcases ite_or hF with ⟨d13, hF⟩ | ⟨d13, hF⟩
      · replace hQ := ite_q hQ d13
        subst hF
        exact ((pf_ne (by omega)).trans rfl)
      · replace hQ := ite_r hQ d13
        subst hF
        exact ((pf_ne (by omega)).trans rfl)
theorem fh_X10_works {b : Nat} {σ : gS} {ζ : gQ} {p0 : Int32} (hb : b < 199) (hQ : Q_X10_works σ ζ p0) : (F_X10_works σ ζ p0).2.1 b = σ b := by
  generalize hF : F_X10_works σ ζ p0 = fr
  rw [F_X10_works_eq] at hF
  unfold Fr_X10_works at hF
  unfold Q_X10_works at hQ
  rcases ite_or hF with ⟨d14, hF⟩ | ⟨d14, hF⟩
  · replace hQ := ite_q hQ d14
    rcases ite_or hF with ⟨d15, hF⟩ | ⟨d15, hF⟩
    · replace hQ := ite_q hQ d15
      have o46 := hQ.1
      replace hQ := hQ.2
      subst hF
      exact ((fh_X10_ends hb o46).trans rfl)
    · replace hQ := ite_r hQ d15
      subst hF
      exact (fhJ_X10_works_24 hb _ _ hQ).trans rfl
  · replace hQ := ite_r hQ d14
    subst hF
    exact (fhJ_X10_works_24 hb _ _ hQ).trans rfl
theorem fhJ_X10_actInside_190 {b : Nat}  (hb : b < 199) : ∀ (y1 : Int32) (σ : gS) (ζ : gQ), QJ_X10_actInside_190  y1 σ ζ → (J_X10_actInside_190  y1 σ ζ).2.1 b = σ b := by
  intro y1 σ ζ hQ
  generalize hF : J_X10_actInside_190  y1 σ ζ = fr
  unfold J_X10_actInside_190 at hF
  unfold QJ_X10_actInside_190 at hQ
  have o26 := hQ.1
  replace hQ := hQ.2
  rcases ite_or hF with ⟨d1, hF⟩ | ⟨d1, hF⟩
  · replace hQ := ite_q hQ d1
    subst hF
    exact ((fh_X10_put_ hb o26).trans rfl)
  · replace hQ := ite_r hQ d1
    subst hF
    exact ((fh_X10_insideTo hb).trans ((fh_X10_put_ hb o26).trans rfl))
theorem fh_X10_actInside {b : Nat} {σ : gS} {ζ : gQ}  (hb : b < 199) (hQ : Q_X10_actInside σ ζ ) : (F_X10_actInside σ ζ ).2.1 b = σ b := by
  generalize hF : F_X10_actInside σ ζ  = fr
  rw [F_X10_actInside_eq] at hF
  unfold Fr_X10_actInside at hF
  unfold Q_X10_actInside at hQ
  rcases ite_or hF with ⟨d2, hF⟩ | ⟨d2, hF⟩
  · replace hQ := ite_q hQ d2
    rcases ite_or hF with ⟨d3, hF⟩ | ⟨d3, hF⟩
    · replace hQ := ite_q hQ d3
      have o3 := hQ.1
      replace hQ := hQ.2
      subst hF
      exact ((fh_X10_enrols hb o3).trans rfl)
    · replace hQ := ite_r hQ d3
      subst hF
      exact rfl
  · replace hQ := ite_r hQ d2
    rcases ite_or hF with ⟨d4, hF⟩ | ⟨d4, hF⟩
    · replace hQ := ite_q hQ d4
      rcases ite_or hF with ⟨d5, hF⟩ | ⟨d5, hF⟩
      · replace hQ := ite_q hQ d5
        subst hF
        exact ((fh_X10_insideTo hb).trans rfl)
      · replace hQ := ite_r hQ d5
        subst hF
        exact rfl
    · replace hQ := ite_r hQ d4
      rcases ite_or hF with ⟨d6, hF⟩ | ⟨d6, hF⟩
      · replace hQ := ite_q hQ d6
        rcases ite_or hF with ⟨d7, hF⟩ | ⟨d7, hF⟩
        · replace hQ := ite_q hQ d7
          have o12 := hQ.1
          replace hQ := hQ.2
          have o15 := hQ.1
          replace hQ := hQ.2
          subst hF
          exact ((fh_X10_asks hb o12).trans rfl)
        · replace hQ := ite_r hQ d7
          have o16 := hQ.1
          replace hQ := hQ.2
          have o19 := hQ.1
          replace hQ := hQ.2
          subst hF
          exact ((fh_X10_sees hb o16).trans rfl)
      · replace hQ := ite_r hQ d6
        rcases ite_or hF with ⟨d8, hF⟩ | ⟨d8, hF⟩
        · replace hQ := ite_q hQ d8
          rcases ite_or hF with ⟨d9, hF⟩ | ⟨d9, hF⟩
          · replace hQ := ite_q hQ d9
            have o22 := hQ.1
            replace hQ := hQ.2
            rcases ite_or hF with ⟨d10, hF⟩ | ⟨d10, hF⟩
            · replace hQ := ite_q hQ d10
              subst hF
              exact (fhJ_X10_actInside_190 hb _ _ _ hQ).trans ((fh_X10_hasPass hb o22).trans rfl)
            · replace hQ := ite_r hQ d10
              have o32 := hQ.1
              replace hQ := hQ.2
              rcases ite_or hF with ⟨d11, hF⟩ | ⟨d11, hF⟩
              · replace hQ := ite_q hQ d11
                subst hF
                exact (fhJ_X10_actInside_190 hb _ _ _ hQ).trans ((fh_X10_hasPass hb o22).trans rfl)
              · replace hQ := ite_r hQ d11
                have o35 := hQ.1
                replace hQ := hQ.2
                rcases ite_or hF with ⟨d12, hF⟩ | ⟨d12, hF⟩
                · replace hQ := ite_q hQ d12
                  subst hF
                  exact ((fh_X10_put_ hb o35).trans ((fh_X10_hasPass hb o22).trans rfl))
                · replace hQ := ite_r hQ d12
                  have o41 := hQ.1
                  replace hQ := hQ.2
                  subst hF
                  exact ((pf_ne (by omega)).trans ((fh_X10_insideTo hb).trans ((fh_X10_put_ hb o35).trans ((fh_X10_hasPass hb o22).trans rfl))))
          · replace hQ := ite_r hQ d9
            have o44 := hQ.1
            replace hQ := hQ.2
            rcases ite_or hF with ⟨d13, hF⟩ | ⟨d13, hF⟩
            · replace hQ := ite_q hQ d13
              subst hF
              exact ((fh_X10_put_ hb o44).trans rfl)
            · replace hQ := ite_r hQ d13
              subst hF
              exact ((pf_ne (by omega)).trans ((fh_X10_insideTo hb).trans ((fh_X10_put_ hb o44).trans rfl)))
        · replace hQ := ite_r hQ d8
          rcases ite_or hF with ⟨d14, hF⟩ | ⟨d14, hF⟩
          · replace hQ := ite_q hQ d14
            rcases ite_or hF with ⟨d15, hF⟩ | ⟨d15, hF⟩
            · replace hQ := ite_q hQ d15
              have o53 := hQ.1
              replace hQ := hQ.2
              rcases ite_or hF with ⟨d16, hF⟩ | ⟨d16, hF⟩
              · replace hQ := ite_q hQ d16
                subst hF
                exact ((fh_X10_put_ hb o53).trans rfl)
              · replace hQ := ite_r hQ d16
                subst hF
                exact ((pf_ne (by omega)).trans ((fh_X10_insideTo hb).trans ((fh_X10_put_ hb o53).trans rfl)))
            · replace hQ := ite_r hQ d15
              subst hF
              exact rfl
          · replace hQ := ite_r hQ d14
            have o60 := hQ.1
            replace hQ := hQ.2
            rcases ite_or hF with ⟨d17, hF⟩ | ⟨d17, hF⟩
            · replace hQ := ite_q hQ d17
              have o64 := hQ.1
              replace hQ := hQ.2
              rcases ite_or hF with ⟨d18, hF⟩ | ⟨d18, hF⟩
              · replace hQ := ite_q hQ d18
                subst hF
                exact ((fh_X10_works hb o64).trans ((fh_X10_isLost hb o60).trans rfl))
              · replace hQ := ite_r hQ d18
                subst hF
                exact ((fh_X10_works hb o64).trans ((fh_X10_isLost hb o60).trans rfl))
            · replace hQ := ite_r hQ d17
              subst hF
              exact ((fh_X10_isLost hb o60).trans rfl)
theorem fh_X10_outsideTo {b : Nat} {σ : gS} {p0 : Int32} {p1 : Int32} (hb : b < 199)  : (F_X10_outsideTo σ p0 p1) b = σ b := by
  generalize hF : F_X10_outsideTo σ p0 p1 = fr
  rw [F_X10_outsideTo_eq] at hF
  unfold Fr_X10_outsideTo at hF
  subst hF
  exact ((pf_ne (by omega)).trans ((pf_ne (by omega)).trans rfl))
theorem fh_X10_isSound {b : Nat} {σ : gS} {ζ : gQ} {p0 : Int32} (hb : b < 199) (hQ : Q_X10_isSound σ ζ p0) : (F_X10_isSound σ ζ p0).2 b = σ b := by
  generalize hF : F_X10_isSound σ ζ p0 = fr
  rw [F_X10_isSound_eq] at hF
  unfold Fr_X10_isSound at hF
  unfold Q_X10_isSound at hQ
  have o1 := hQ.1
  replace hQ := hQ.2
  rcases ite_or hF with ⟨d1, hF⟩ | ⟨d1, hF⟩
  · replace hQ := ite_q hQ d1
    subst hF
    exact ((fh_X10_isGood hb o1).trans rfl)
  · replace hQ := ite_r hQ d1
    have o5 := hQ.1
    replace hQ := hQ.2
    rcases ite_or hF with ⟨d2, hF⟩ | ⟨d2, hF⟩
    · replace hQ := ite_q hQ d2
      subst hF
      exact ((fh_X10_isGood hb o5).trans ((fh_X10_isGood hb o1).trans rfl))
    · replace hQ := ite_r hQ d2
      have o9 := hQ.1
      replace hQ := hQ.2
      rcases ite_or hF with ⟨d3, hF⟩ | ⟨d3, hF⟩
      · replace hQ := ite_q hQ d3
        subst hF
        exact ((fh_X10_isGood hb o9).trans ((fh_X10_isGood hb o5).trans ((fh_X10_isGood hb o1).trans rfl)))
      · replace hQ := ite_r hQ d3
        have o13 := hQ.1
        replace hQ := hQ.2
        rcases ite_or hF with ⟨d4, hF⟩ | ⟨d4, hF⟩
        · replace hQ := ite_q hQ d4
          subst hF
          exact ((fh_X10_isGood hb o9).trans ((fh_X10_isGood hb o5).trans ((fh_X10_isGood hb o1).trans rfl)))
        · replace hQ := ite_r hQ d4
          have o16 := hQ.1
          replace hQ := hQ.2
          rcases ite_or hF with ⟨d5, hF⟩ | ⟨d5, hF⟩
          · replace hQ := ite_q hQ d5
            subst hF
            exact ((fh_X10_isGood hb o9).trans ((fh_X10_isGood hb o5).trans ((fh_X10_isGood hb o1).trans rfl)))
          · replace hQ := ite_r hQ d5
            subst hF
            exact ((fh_X10_isGood hb o9).trans ((fh_X10_isGood hb o5).trans ((fh_X10_isGood hb o1).trans rfl)))
theorem fh_X10_looksAt {b : Nat} {σ : gS} {ζ : gQ} {p0 : Int32} (hb : b < 199) (hQ : Q_X10_looksAt σ ζ p0) : (F_X10_looksAt σ ζ p0).1 b = σ b := by
  generalize hF : F_X10_looksAt σ ζ p0 = fr
  rw [F_X10_looksAt_eq] at hF
  unfold Fr_X10_looksAt at hF
  unfold Q_X10_looksAt at hQ
  have o1 := hQ.1
  replace hQ := hQ.2
  rcases ite_or hF with ⟨d1, hF⟩ | ⟨d1, hF⟩
  · replace hQ := ite_q hQ d1
    have o5 := hQ.1
    replace hQ := hQ.2
    rcases ite_or hF with ⟨d2, hF⟩ | ⟨d2, hF⟩
    · replace hQ := ite_q hQ d2
      have o9 := hQ.1
      replace hQ := hQ.2
      rcases ite_or hF with ⟨d3, hF⟩ | ⟨d3, hF⟩
      · replace hQ := ite_q hQ d3
        subst hF
        exact ((fh_X10_put_ hb o9).trans ((fh_X10_isSound hb o5).trans ((fh_X10_hasPass hb o1).trans rfl)))
      · replace hQ := ite_r hQ d3
        subst hF
        exact ((fh_X10_outsideTo hb).trans ((fh_X10_put_ hb o9).trans ((fh_X10_isSound hb o5).trans ((fh_X10_hasPass hb o1).trans rfl))))
    · replace hQ := ite_r hQ d2
      have o15 := hQ.1
      replace hQ := hQ.2
      rcases ite_or hF with ⟨d4, hF⟩ | ⟨d4, hF⟩
      · replace hQ := ite_q hQ d4
        subst hF
        exact ((fh_X10_put_ hb o15).trans ((fh_X10_isSound hb o5).trans ((fh_X10_hasPass hb o1).trans rfl)))
      · replace hQ := ite_r hQ d4
        subst hF
        exact ((fh_X10_outsideTo hb).trans ((fh_X10_put_ hb o15).trans ((fh_X10_isSound hb o5).trans ((fh_X10_hasPass hb o1).trans rfl))))
  · replace hQ := ite_r hQ d1
    have o22 := hQ.1
    replace hQ := hQ.2
    rcases ite_or hF with ⟨d5, hF⟩ | ⟨d5, hF⟩
    · replace hQ := ite_q hQ d5
      subst hF
      exact ((fh_X10_put_ hb o22).trans ((fh_X10_hasPass hb o1).trans rfl))
    · replace hQ := ite_r hQ d5
      subst hF
      exact ((fh_X10_outsideTo hb).trans ((fh_X10_put_ hb o22).trans ((fh_X10_hasPass hb o1).trans rfl)))
theorem fh_X10_waits {b : Nat} {σ : gS} {ζ : gQ} {p0 : Int32} (hb : b < 199) (hQ : Q_X10_waits σ ζ p0) : (F_X10_waits σ ζ p0).2.1 b = σ b := by
  generalize hF : F_X10_waits σ ζ p0 = fr
  rw [F_X10_waits_eq] at hF
  unfold Fr_X10_waits at hF
  unfold Q_X10_waits at hQ
  rcases ite_or hF with ⟨d1, hF⟩ | ⟨d1, hF⟩
  · replace hQ := ite_q hQ d1
    rcases ite_or hF with ⟨d2, hF⟩ | ⟨d2, hF⟩
    · replace hQ := ite_q hQ d2
      have o3 := hQ.1
      replace hQ := hQ.2
      rcases ite_or hF with ⟨d3, hF⟩ | ⟨d3, hF⟩
      · replace hQ := ite_q hQ d3
        subst hF
        exact ((fh_X10_put_ hb o3).trans rfl)
      · replace hQ := ite_r hQ d3
        subst hF
        exact ((fh_X10_outsideTo hb).trans ((fh_X10_put_ hb o3).trans rfl))
    · replace hQ := ite_r hQ d2
      subst hF
      exact rfl
  · replace hQ := ite_r hQ d1
    have o9 := hQ.1
    replace hQ := hQ.2
    rcases ite_or hF with ⟨d4, hF⟩ | ⟨d4, hF⟩
    · replace hQ := ite_q hQ d4
      subst hF
      exact ((fh_X10_put_ hb o9).trans rfl)
    · replace hQ := ite_r hQ d4
      subst hF
      exact ((pf_ne (by omega)).trans ((fh_X10_outsideTo hb).trans ((fh_X10_put_ hb o9).trans rfl)))
theorem fhG_X10_set_L3 {b : Nat} {p0 : Int32} {p1 : Int32} {p2 : Int64} {p3 : Int32} (hb : b < 199) : ∀ (n : Nat) (y6 : Int32) (σ : gS), QG_X10_set_L3 p0 p1 p2 p3 n y6 σ → (G_X10_set_L3 p0 p1 p2 p3 n y6 σ) b = σ b := by
  intro n
  induction n with
  | zero => intro y6 σ hQ; exact absurd hQ (by unfold QG_X10_set_L3; exact id)
  | succ n ihL3 =>
    intro y6 σ hQ
    generalize hF : G_X10_set_L3 p0 p1 p2 p3 (n + 1) y6 σ = fr
    unfold G_X10_set_L3 at hF
    unfold QG_X10_set_L3 at hQ
    rcases ite_or hF with ⟨d1, hF⟩ | ⟨d1, hF⟩
    · replace hQ := ite_q hQ d1
      subst hF
      exact rfl
    · replace hQ := ite_r hQ d1
      have o2 := hQ.1
      replace hQ := hQ.2
      subst hF
      exact (ihL3 _ _ hQ).trans ((pf_ne (by omega)).trans rfl)
theorem fh_X10_set {b : Nat} {σ : gS} {p0 : Int32} {p1 : Int32} {p2 : Int64} {p3 : Int32} (hb : b < 199) (hQ : Q_X10_set σ p0 p1 p2 p3) : (F_X10_set σ p0 p1 p2 p3) b = σ b := by
  generalize hF : F_X10_set σ p0 p1 p2 p3 = fr
  rw [F_X10_set_eq] at hF
  unfold Fr_X10_set at hF
  unfold Q_X10_set at hQ
  subst hF
  exact (fhG_X10_set_L3 hb 4000 _ _ hQ).trans rfl
theorem fhG_X10_writes_L224 {b : Nat} {p0 : Int32} (hb : b < 199) : ∀ (n : Nat) (y2 : Int32) (y3 : Int32) (σ : gS) (ζ : gQ), QG_X10_writes_L224 p0 n y2 y3 σ ζ → (G_X10_writes_L224 p0 n y2 y3 σ ζ).1 b = σ b := by
  intro n
  induction n with
  | zero => intro y2 y3 σ ζ hQ; exact absurd hQ (by unfold QG_X10_writes_L224; exact id)
  | succ n ihL224 =>
    intro y2 y3 σ ζ hQ
    generalize hF : G_X10_writes_L224 p0 (n + 1) y2 y3 σ ζ = fr
    unfold G_X10_writes_L224 at hF
    unfold QG_X10_writes_L224 at hQ
    rcases ite_or hF with ⟨d1, hF⟩ | ⟨d1, hF⟩
    · replace hQ := ite_q hQ d1
      have o51 := hQ.1
      replace hQ := hQ.2
      subst hF
      exact ((fh_X10_outsideTo hb).trans ((pf_ne (by omega)).trans rfl))
    · replace hQ := ite_r hQ d1
      have o56 := hQ.1
      replace hQ := hQ.2
      have o57 := hQ.1
      replace hQ := hQ.2
      subst hF
      exact (ihL224 _ _ _ _ hQ).trans ((pf_ne (by omega)).trans rfl)
theorem fh_X10_writes {b : Nat} {σ : gS} {ζ : gQ} {p0 : Int32} (hb : b < 199) (hQ : Q_X10_writes σ ζ p0) : (F_X10_writes σ ζ p0).1 b = σ b := by
  generalize hF : F_X10_writes σ ζ p0 = fr
  rw [F_X10_writes_eq] at hF
  unfold Fr_X10_writes at hF
  unfold Q_X10_writes at hQ
  have o1 := hQ.1
  replace hQ := hQ.2
  rcases ite_or hF with ⟨d2, hF⟩ | ⟨d2, hF⟩
  · replace hQ := ite_q hQ d2
    have o65 := hQ.1
    replace hQ := hQ.2
    rcases ite_or hF with ⟨d3, hF⟩ | ⟨d3, hF⟩
    · replace hQ := ite_q hQ d3
      subst hF
      exact ((fh_X10_put_ hb o65).trans ((fh_X10_isSound hb o1).trans rfl))
    · replace hQ := ite_r hQ d3
      subst hF
      exact ((fh_X10_outsideTo hb).trans ((fh_X10_put_ hb o65).trans ((fh_X10_isSound hb o1).trans rfl)))
  · replace hQ := ite_r hQ d2
    have o5 := hQ.1
    replace hQ := hQ.2
    rcases ite_or hF with ⟨d4, hF⟩ | ⟨d4, hF⟩
    · replace hQ := ite_q hQ d4
      have o59 := hQ.1
      replace hQ := hQ.2
      rcases ite_or hF with ⟨d5, hF⟩ | ⟨d5, hF⟩
      · replace hQ := ite_q hQ d5
        subst hF
        exact ((fh_X10_put_ hb o59).trans ((fh_X10_isSound hb o1).trans rfl))
      · replace hQ := ite_r hQ d5
        subst hF
        exact ((fh_X10_outsideTo hb).trans ((fh_X10_put_ hb o59).trans ((fh_X10_isSound hb o1).trans rfl)))
    · replace hQ := ite_r hQ d4
      have o7 := hQ.1
      replace hQ := hQ.2
      rcases ite_or hF with ⟨d6, hF⟩ | ⟨d6, hF⟩
      · replace hQ := ite_q hQ d6
        subst hF
        exact ((fh_X10_put_ hb o7).trans ((fh_X10_isSound hb o1).trans rfl))
      · replace hQ := ite_r hQ d6
        have o12 := hQ.1
        replace hQ := hQ.2
        have o15 := hQ.1
        replace hQ := hQ.2
        have o18 := hQ.1
        replace hQ := hQ.2
        have o21 := hQ.1
        replace hQ := hQ.2
        have o23 := hQ.1
        replace hQ := hQ.2
        have o26 := hQ.1
        replace hQ := hQ.2
        have o28 := hQ.1
        replace hQ := hQ.2
        have o31 := hQ.1
        replace hQ := hQ.2
        have o34 := hQ.1
        replace hQ := hQ.2
        have o37 := hQ.1
        replace hQ := hQ.2
        have o39 := hQ.1
        replace hQ := hQ.2
        have o42 := hQ.1
        replace hQ := hQ.2
        have o44 := hQ.1
        replace hQ := hQ.2
        have o47 := hQ.1
        replace hQ := hQ.2
        subst hF
        exact (fhG_X10_writes_L224 hb 4000 _ _ _ _ hQ).trans ((fh_X10_sealOf hb o47).trans ((fh_X10_set hb o44).trans ((fh_X10_set hb o39).trans ((fh_X10_set hb o34).trans ((fh_X10_set hb o31).trans ((fh_X10_set hb o28).trans ((fh_X10_set hb o23).trans ((fh_X10_set hb o18).trans ((fh_X10_set hb o15).trans ((fh_X10_set hb o12).trans ((fh_X10_put_ hb o7).trans ((fh_X10_isSound hb o1).trans rfl))))))))))))
theorem fh_X10_leaves {b : Nat} {σ : gS} {ζ : gQ} {p0 : Int32} (hb : b < 199) (hQ : Q_X10_leaves σ ζ p0) : (F_X10_leaves σ ζ p0).2.1 b = σ b := by
  generalize hF : F_X10_leaves σ ζ p0 = fr
  rw [F_X10_leaves_eq] at hF
  unfold Fr_X10_leaves at hF
  unfold Q_X10_leaves at hQ
  rcases ite_or hF with ⟨d1, hF⟩ | ⟨d1, hF⟩
  · replace hQ := ite_q hQ d1
    rcases ite_or hF with ⟨d2, hF⟩ | ⟨d2, hF⟩
    · replace hQ := ite_q hQ d2
      have o3 := hQ.1
      replace hQ := hQ.2
      rcases ite_or hF with ⟨d3, hF⟩ | ⟨d3, hF⟩
      · replace hQ := ite_q hQ d3
        subst hF
        exact ((fh_X10_put_ hb o3).trans rfl)
      · replace hQ := ite_r hQ d3
        subst hF
        exact ((fh_X10_outsideTo hb).trans ((fh_X10_put_ hb o3).trans rfl))
    · replace hQ := ite_r hQ d2
      subst hF
      exact rfl
  · replace hQ := ite_r hQ d1
    have o9 := hQ.1
    replace hQ := hQ.2
    rcases ite_or hF with ⟨d4, hF⟩ | ⟨d4, hF⟩
    · replace hQ := ite_q hQ d4
      subst hF
      exact ((fh_X10_put_ hb o9).trans rfl)
    · replace hQ := ite_r hQ d4
      have o13 := hQ.1
      replace hQ := hQ.2
      rcases ite_or hF with ⟨d5, hF⟩ | ⟨d5, hF⟩
      · replace hQ := ite_q hQ d5
        subst hF
        exact ((fh_X10_put_ hb o13).trans ((fh_X10_put_ hb o9).trans rfl))
      · replace hQ := ite_r hQ d5
        subst hF
        exact ((fh_X10_opens hb).trans ((pf_ne (by omega)).trans ((fh_X10_put_ hb o13).trans ((fh_X10_put_ hb o9).trans rfl))))
theorem fhJ_X10_actOutside_204 {b : Nat}  (hb : b < 199) : ∀ (y1 : Int32) (y2 : Int32) (u0 : Int32) (u1 : Int32) (σ : gS) (ζ : gQ), QJ_X10_actOutside_204  y1 y2 u0 u1 σ ζ → (J_X10_actOutside_204  y1 y2 u0 u1 σ ζ).2.1 b = σ b := by
  intro y1 y2 u0 u1 σ ζ hQ
  generalize hF : J_X10_actOutside_204  y1 y2 u0 u1 σ ζ = fr
  unfold J_X10_actOutside_204 at hF
  unfold QJ_X10_actOutside_204 at hQ
  have o28 := hQ.1
  replace hQ := hQ.2
  rcases ite_or hF with ⟨d1, hF⟩ | ⟨d1, hF⟩
  · replace hQ := ite_q hQ d1
    subst hF
    exact ((fh_X10_put_ hb o28).trans rfl)
  · replace hQ := ite_r hQ d1
    rcases ite_or hF with ⟨d2, hF⟩ | ⟨d2, hF⟩
    · replace hQ := ite_q hQ d2
      rcases ite_or hF with ⟨d3, hF⟩ | ⟨d3, hF⟩
      · replace hQ := ite_q hQ d3
        subst hF
        exact ((fh_X10_outsideTo hb).trans ((fh_X10_put_ hb o28).trans rfl))
      · replace hQ := ite_r hQ d3
        subst hF
        exact ((fh_X10_outsideTo hb).trans ((fh_X10_put_ hb o28).trans rfl))
    · replace hQ := ite_r hQ d2
      rcases ite_or hF with ⟨d4, hF⟩ | ⟨d4, hF⟩
      · replace hQ := ite_q hQ d4
        subst hF
        exact ((fh_X10_outsideTo hb).trans ((fh_X10_put_ hb o28).trans rfl))
      · replace hQ := ite_r hQ d4
        subst hF
        exact ((fh_X10_outsideTo hb).trans ((fh_X10_put_ hb o28).trans rfl))
theorem fhJ_X10_actOutside_195 {b : Nat}  (hb : b < 199) : ∀ (y1 : Int32) (y2 : Int32) (u0 : Int32) (σ : gS) (ζ : gQ), QJ_X10_actOutside_195  y1 y2 u0 σ ζ → (J_X10_actOutside_195  y1 y2 u0 σ ζ).2.1 b = σ b := by
  intro y1 y2 u0 σ ζ hQ
  generalize hF : J_X10_actOutside_195  y1 y2 u0 σ ζ = fr
  unfold J_X10_actOutside_195 at hF
  unfold QJ_X10_actOutside_195 at hQ
  rcases ite_or hF with ⟨d5, hF⟩ | ⟨d5, hF⟩
  · replace hQ := ite_q hQ d5
    subst hF
    exact (fhJ_X10_actOutside_204 hb _ _ _ _ _ _ hQ).trans rfl
  · replace hQ := ite_r hQ d5
    subst hF
    exact (fhJ_X10_actOutside_204 hb _ _ _ _ _ _ hQ).trans rfl
theorem fhJ_X10_actOutside_182 {b : Nat}  (hb : b < 199) : ∀ (y1 : Int32) (u0 : Int32) (σ : gS) (ζ : gQ), QJ_X10_actOutside_182  y1 u0 σ ζ → (J_X10_actOutside_182  y1 u0 σ ζ).2.1 b = σ b := by
  intro y1 u0 σ ζ hQ
  generalize hF : J_X10_actOutside_182  y1 u0 σ ζ = fr
  unfold J_X10_actOutside_182 at hF
  unfold QJ_X10_actOutside_182 at hQ
  rcases ite_or hF with ⟨d6, hF⟩ | ⟨d6, hF⟩
  · replace hQ := ite_q hQ d6
    subst hF
    exact (fhJ_X10_actOutside_195 hb _ _ _ _ _ hQ).trans rfl
  · replace hQ := ite_r hQ d6
    subst hF
    exact (fhJ_X10_actOutside_195 hb _ _ _ _ _ hQ).trans rfl
theorem fhJ_X10_actOutside_181 {b : Nat}  (hb : b < 199) : ∀ (y1 : Int32) (σ : gS) (ζ : gQ), QJ_X10_actOutside_181  y1 σ ζ → (J_X10_actOutside_181  y1 σ ζ).2.1 b = σ b := by
  intro y1 σ ζ hQ
  generalize hF : J_X10_actOutside_181  y1 σ ζ = fr
  unfold J_X10_actOutside_181 at hF
  unfold QJ_X10_actOutside_181 at hQ
  subst hF
  exact (fhJ_X10_actOutside_182 hb _ _ _ _ hQ).trans rfl
theorem fhJ_X10_actOutside_356 {b : Nat}  (hb : b < 199) : ∀ (y4 : Int32) (u0 : Int32) (u1 : Int32) (σ : gS) (ζ : gQ), QJ_X10_actOutside_356  y4 u0 u1 σ ζ → (J_X10_actOutside_356  y4 u0 u1 σ ζ).2.1 b = σ b := by
  intro y4 u0 u1 σ ζ hQ
  generalize hF : J_X10_actOutside_356  y4 u0 u1 σ ζ = fr
  unfold J_X10_actOutside_356 at hF
  unfold QJ_X10_actOutside_356 at hQ
  rcases ite_or hF with ⟨d7, hF⟩ | ⟨d7, hF⟩
  · replace hQ := ite_q hQ d7
    subst hF
    exact ((fh_X10_outsideTo hb).trans rfl)
  · replace hQ := ite_r hQ d7
    subst hF
    exact ((fh_X10_outsideTo hb).trans rfl)
theorem fhJ_X10_actOutside_346 {b : Nat}  (hb : b < 199) : ∀ (y4 : Int32) (u0 : Int32) (σ : gS) (ζ : gQ), QJ_X10_actOutside_346  y4 u0 σ ζ → (J_X10_actOutside_346  y4 u0 σ ζ).2.1 b = σ b := by
  intro y4 u0 σ ζ hQ
  generalize hF : J_X10_actOutside_346  y4 u0 σ ζ = fr
  unfold J_X10_actOutside_346 at hF
  unfold QJ_X10_actOutside_346 at hQ
  rcases ite_or hF with ⟨d8, hF⟩ | ⟨d8, hF⟩
  · replace hQ := ite_q hQ d8
    subst hF
    exact (fhJ_X10_actOutside_356 hb _ _ _ _ _ hQ).trans rfl
  · replace hQ := ite_r hQ d8
    subst hF
    exact (fhJ_X10_actOutside_356 hb _ _ _ _ _ hQ).trans rfl
theorem fhJ_X10_actOutside_326 {b : Nat}  (hb : b < 199) : ∀ (y1 : Int32) (y4 : Int32) (u0 : Int32) (u1 : Int32) (σ : gS) (ζ : gQ), QJ_X10_actOutside_326  y1 y4 u0 u1 σ ζ → (J_X10_actOutside_326  y1 y4 u0 u1 σ ζ).2.1 b = σ b := by
  intro y1 y4 u0 u1 σ ζ hQ
  generalize hF : J_X10_actOutside_326  y1 y4 u0 u1 σ ζ = fr
  unfold J_X10_actOutside_326 at hF
  unfold QJ_X10_actOutside_326 at hQ
  have o61 := hQ.1
  replace hQ := hQ.2
  rcases ite_or hF with ⟨d9, hF⟩ | ⟨d9, hF⟩
  · replace hQ := ite_q hQ d9
    subst hF
    exact ((fh_X10_put_ hb o61).trans rfl)
  · replace hQ := ite_r hQ d9
    rcases ite_or hF with ⟨d10, hF⟩ | ⟨d10, hF⟩
    · replace hQ := ite_q hQ d10
      subst hF
      exact (fhJ_X10_actOutside_346 hb _ _ _ _ hQ).trans ((fh_X10_put_ hb o61).trans rfl)
    · replace hQ := ite_r hQ d10
      subst hF
      exact (fhJ_X10_actOutside_346 hb _ _ _ _ hQ).trans ((fh_X10_put_ hb o61).trans rfl)
theorem fhJ_X10_actOutside_316 {b : Nat}  (hb : b < 199) : ∀ (y1 : Int32) (y4 : Int32) (u0 : Int32) (σ : gS) (ζ : gQ), QJ_X10_actOutside_316  y1 y4 u0 σ ζ → (J_X10_actOutside_316  y1 y4 u0 σ ζ).2.1 b = σ b := by
  intro y1 y4 u0 σ ζ hQ
  generalize hF : J_X10_actOutside_316  y1 y4 u0 σ ζ = fr
  unfold J_X10_actOutside_316 at hF
  unfold QJ_X10_actOutside_316 at hQ
  rcases ite_or hF with ⟨d11, hF⟩ | ⟨d11, hF⟩
  · replace hQ := ite_q hQ d11
    subst hF
    exact (fhJ_X10_actOutside_326 hb _ _ _ _ _ _ hQ).trans rfl
  · replace hQ := ite_r hQ d11
    subst hF
    exact (fhJ_X10_actOutside_326 hb _ _ _ _ _ _ hQ).trans rfl
theorem fhJ_X10_actOutside_301 {b : Nat}  (hb : b < 199) : ∀ (y1 : Int32) (u0 : Int32) (σ : gS) (ζ : gQ), QJ_X10_actOutside_301  y1 u0 σ ζ → (J_X10_actOutside_301  y1 u0 σ ζ).2.1 b = σ b := by
  intro y1 u0 σ ζ hQ
  generalize hF : J_X10_actOutside_301  y1 u0 σ ζ = fr
  unfold J_X10_actOutside_301 at hF
  unfold QJ_X10_actOutside_301 at hQ
  rcases ite_or hF with ⟨d12, hF⟩ | ⟨d12, hF⟩
  · replace hQ := ite_q hQ d12
    subst hF
    exact (fhJ_X10_actOutside_316 hb _ _ _ _ _ hQ).trans rfl
  · replace hQ := ite_r hQ d12
    subst hF
    exact (fhJ_X10_actOutside_316 hb _ _ _ _ _ hQ).trans rfl
theorem fhJ_X10_actOutside_300 {b : Nat}  (hb : b < 199) : ∀ (y1 : Int32) (σ : gS) (ζ : gQ), QJ_X10_actOutside_300  y1 σ ζ → (J_X10_actOutside_300  y1 σ ζ).2.1 b = σ b := by
  intro y1 σ ζ hQ
  generalize hF : J_X10_actOutside_300  y1 σ ζ = fr
  unfold J_X10_actOutside_300 at hF
  unfold QJ_X10_actOutside_300 at hQ
  subst hF
  exact (fhJ_X10_actOutside_301 hb _ _ _ _ hQ).trans rfl
theorem fhJ_X10_actOutside_272 {b : Nat}  (hb : b < 199) : ∀ (y1 : Int32) (u0 : Int32) (u1 : Int32) (σ : gS) (ζ : gQ), QJ_X10_actOutside_272  y1 u0 u1 σ ζ → (J_X10_actOutside_272  y1 u0 u1 σ ζ).2.1 b = σ b := by
  intro y1 u0 u1 σ ζ hQ
  generalize hF : J_X10_actOutside_272  y1 u0 u1 σ ζ = fr
  unfold J_X10_actOutside_272 at hF
  unfold QJ_X10_actOutside_272 at hQ
  have o56 := hQ.1
  replace hQ := hQ.2
  rcases ite_or hF with ⟨d13, hF⟩ | ⟨d13, hF⟩
  · replace hQ := ite_q hQ d13
    subst hF
    exact (fhJ_X10_actOutside_300 hb _ _ _ hQ).trans rfl
  · replace hQ := ite_r hQ d13
    rcases ite_or hF with ⟨d14, hF⟩ | ⟨d14, hF⟩
    · replace hQ := ite_q hQ d14
      subst hF
      exact (fhJ_X10_actOutside_300 hb _ _ _ hQ).trans rfl
    · replace hQ := ite_r hQ d14
      subst hF
      exact (fhJ_X10_actOutside_301 hb _ _ _ _ hQ).trans rfl
theorem fhJ_X10_actOutside_261 {b : Nat}  (hb : b < 199) : ∀ (y1 : Int32) (y3 : Int32) (σ : gS) (ζ : gQ), QJ_X10_actOutside_261  y1 y3 σ ζ → (J_X10_actOutside_261  y1 y3 σ ζ).2.1 b = σ b := by
  intro y1 y3 σ ζ hQ
  generalize hF : J_X10_actOutside_261  y1 y3 σ ζ = fr
  unfold J_X10_actOutside_261 at hF
  unfold QJ_X10_actOutside_261 at hQ
  rcases ite_or hF with ⟨d15, hF⟩ | ⟨d15, hF⟩
  · replace hQ := ite_q hQ d15
    subst hF
    exact (fhJ_X10_actOutside_272 hb _ _ _ _ _ hQ).trans rfl
  · replace hQ := ite_r hQ d15
    subst hF
    exact (fhJ_X10_actOutside_272 hb _ _ _ _ _ hQ).trans rfl
theorem fhJ_X10_actOutside_61 {b : Nat}  (hb : b < 199) : ∀ (y1 : Int32) (σ : gS) (ζ : gQ), QJ_X10_actOutside_61  y1 σ ζ → (J_X10_actOutside_61  y1 σ ζ).2.1 b = σ b := by
  intro y1 σ ζ hQ
  generalize hF : J_X10_actOutside_61  y1 σ ζ = fr
  unfold J_X10_actOutside_61 at hF
  unfold QJ_X10_actOutside_61 at hQ
  rcases ite_or hF with ⟨d16, hF⟩ | ⟨d16, hF⟩
  · replace hQ := ite_q hQ d16
    rcases ite_or hF with ⟨d17, hF⟩ | ⟨d17, hF⟩
    · replace hQ := ite_q hQ d17
      have o5 := hQ.1
      replace hQ := hQ.2
      rcases ite_or hF with ⟨d18, hF⟩ | ⟨d18, hF⟩
      · replace hQ := ite_q hQ d18
        subst hF
        exact ((fh_X10_put_ hb o5).trans rfl)
      · replace hQ := ite_r hQ d18
        subst hF
        exact ((fh_X10_outsideTo hb).trans ((pf_ne (by omega)).trans ((fh_X10_put_ hb o5).trans rfl)))
    · replace hQ := ite_r hQ d17
      subst hF
      exact rfl
  · replace hQ := ite_r hQ d16
    rcases ite_or hF with ⟨d19, hF⟩ | ⟨d19, hF⟩
    · replace hQ := ite_q hQ d19
      have o13 := hQ.1
      replace hQ := hQ.2
      subst hF
      exact ((fh_X10_looksAt hb o13).trans rfl)
    · replace hQ := ite_r hQ d19
      rcases ite_or hF with ⟨d20, hF⟩ | ⟨d20, hF⟩
      · replace hQ := ite_q hQ d20
        have o17 := hQ.1
        replace hQ := hQ.2
        have o20 := hQ.1
        replace hQ := hQ.2
        subst hF
        exact ((fh_X10_waits hb o17).trans rfl)
      · replace hQ := ite_r hQ d20
        rcases ite_or hF with ⟨d21, hF⟩ | ⟨d21, hF⟩
        · replace hQ := ite_q hQ d21
          have o22 := hQ.1
          replace hQ := hQ.2
          rcases ite_or hF with ⟨d22, hF⟩ | ⟨d22, hF⟩
          · replace hQ := ite_q hQ d22
            subst hF
            exact (fhJ_X10_actOutside_181 hb _ _ _ hQ).trans ((fh_X10_isGood hb o22).trans rfl)
          · replace hQ := ite_r hQ d22
            have o43 := hQ.1
            replace hQ := hQ.2
            rcases ite_or hF with ⟨d23, hF⟩ | ⟨d23, hF⟩
            · replace hQ := ite_q hQ d23
              subst hF
              exact (fhJ_X10_actOutside_181 hb _ _ _ hQ).trans ((fh_X10_isGood hb o22).trans rfl)
            · replace hQ := ite_r hQ d23
              subst hF
              exact (fhJ_X10_actOutside_182 hb _ _ _ _ hQ).trans ((fh_X10_isGood hb o22).trans rfl)
        · replace hQ := ite_r hQ d21
          rcases ite_or hF with ⟨d24, hF⟩ | ⟨d24, hF⟩
          · replace hQ := ite_q hQ d24
            have o47 := hQ.1
            replace hQ := hQ.2
            subst hF
            exact ((fh_X10_writes hb o47).trans rfl)
          · replace hQ := ite_r hQ d24
            rcases ite_or hF with ⟨d25, hF⟩ | ⟨d25, hF⟩
            · replace hQ := ite_q hQ d25
              have o51 := hQ.1
              replace hQ := hQ.2
              rcases ite_or hF with ⟨d26, hF⟩ | ⟨d26, hF⟩
              · replace hQ := ite_q hQ d26
                have o74 := hQ.1
                replace hQ := hQ.2
                rcases ite_or hF with ⟨d27, hF⟩ | ⟨d27, hF⟩
                · replace hQ := ite_q hQ d27
                  subst hF
                  exact (fhJ_X10_actOutside_300 hb _ _ _ hQ).trans ((fh_X10_isSound hb o74).trans ((fh_X10_hasPass hb o51).trans rfl))
                · replace hQ := ite_r hQ d27
                  subst hF
                  exact (fhJ_X10_actOutside_261 hb _ _ _ _ hQ).trans ((fh_X10_isSound hb o74).trans ((fh_X10_hasPass hb o51).trans rfl))
              · replace hQ := ite_r hQ d26
                subst hF
                exact (fhJ_X10_actOutside_261 hb _ _ _ _ hQ).trans ((fh_X10_hasPass hb o51).trans rfl)
            · replace hQ := ite_r hQ d25
              rcases ite_or hF with ⟨d28, hF⟩ | ⟨d28, hF⟩
              · replace hQ := ite_q hQ d28
                have o79 := hQ.1
                replace hQ := hQ.2
                have o82 := hQ.1
                replace hQ := hQ.2
                subst hF
                exact ((fh_X10_leaves hb o79).trans rfl)
              · replace hQ := ite_r hQ d28
                rcases ite_or hF with ⟨d29, hF⟩ | ⟨d29, hF⟩
                · replace hQ := ite_q hQ d29
                  have o84 := hQ.1
                  replace hQ := hQ.2
                  rcases ite_or hF with ⟨d30, hF⟩ | ⟨d30, hF⟩
                  · replace hQ := ite_q hQ d30
                    subst hF
                    exact ((fh_X10_put_ hb o84).trans rfl)
                  · replace hQ := ite_r hQ d30
                    subst hF
                    exact ((fh_X10_outsideTo hb).trans ((fh_X10_put_ hb o84).trans rfl))
                · replace hQ := ite_r hQ d29
                  subst hF
                  exact rfl
theorem fhJ_X10_actOutside_18 {b : Nat}  (hb : b < 199) : ∀ (u0 : Int32) (σ : gS) (ζ : gQ), QJ_X10_actOutside_18  u0 σ ζ → (J_X10_actOutside_18  u0 σ ζ).2.1 b = σ b := by
  intro u0 σ ζ hQ
  generalize hF : J_X10_actOutside_18  u0 σ ζ = fr
  unfold J_X10_actOutside_18 at hF
  unfold QJ_X10_actOutside_18 at hQ
  rcases ite_or hF with ⟨d31, hF⟩ | ⟨d31, hF⟩
  · replace hQ := ite_q hQ d31
    subst hF
    exact (fhJ_X10_actOutside_61 hb _ _ _ hQ).trans rfl
  · replace hQ := ite_r hQ d31
    rcases ite_or hF with ⟨d32, hF⟩ | ⟨d32, hF⟩
    · replace hQ := ite_q hQ d32
      subst hF
      exact (fhJ_X10_actOutside_61 hb _ _ _ hQ).trans rfl
    · replace hQ := ite_r hQ d32
      rcases ite_or hF with ⟨d33, hF⟩ | ⟨d33, hF⟩
      · replace hQ := ite_q hQ d33
        subst hF
        exact (fhJ_X10_actOutside_61 hb _ _ _ hQ).trans rfl
      · replace hQ := ite_r hQ d33
        have o92 := hQ.1
        replace hQ := hQ.2
        rcases ite_or hF with ⟨d34, hF⟩ | ⟨d34, hF⟩
        · replace hQ := ite_q hQ d34
          subst hF
          exact ((fh_X10_put_ hb o92).trans rfl)
        · replace hQ := ite_r hQ d34
          subst hF
          exact ((fh_X10_outsideTo hb).trans ((fh_X10_put_ hb o92).trans rfl))
theorem fh_X10_actOutside {b : Nat} {σ : gS} {ζ : gQ}  (hb : b < 199) (hQ : Q_X10_actOutside σ ζ ) : (F_X10_actOutside σ ζ ).2.1 b = σ b := by
  generalize hF : F_X10_actOutside σ ζ  = fr
  rw [F_X10_actOutside_eq] at hF
  unfold Fr_X10_actOutside at hF
  unfold Q_X10_actOutside at hQ
  rcases ite_or hF with ⟨d35, hF⟩ | ⟨d35, hF⟩
  · replace hQ := ite_q hQ d35
    subst hF
    exact (fhJ_X10_actOutside_18 hb _ _ _ hQ).trans rfl
  · replace hQ := ite_r hQ d35
    subst hF
    exact (fhJ_X10_actOutside_18 hb _ _ _ hQ).trans rfl
theorem fhG_X10_card_L37 {b : Nat} {p0 : Int32} {p1 : Int32} (hb : b < 199) : ∀ (n : Nat) (y3 : Int32) (y4 : Int32) (σ : gS), QG_X10_card_L37 p0 p1 n y3 y4 σ → (G_X10_card_L37 p0 p1 n y3 y4 σ).2 b = σ b := by
  intro n
  induction n with
  | zero => intro y3 y4 σ hQ; exact absurd hQ (by unfold QG_X10_card_L37; exact id)
  | succ n ihL37 =>
    intro y3 y4 σ hQ
    generalize hF : G_X10_card_L37 p0 p1 (n + 1) y3 y4 σ = fr
    unfold G_X10_card_L37 at hF
    unfold QG_X10_card_L37 at hQ
    rcases ite_or hF with ⟨d1, hF⟩ | ⟨d1, hF⟩
    · replace hQ := ite_q hQ d1
      have o8 := hQ.1
      replace hQ := hQ.2
      subst hF
      exact ((pf_ne (by omega)).trans rfl)
    · replace hQ := ite_r hQ d1
      have o10 := hQ.1
      replace hQ := hQ.2
      have o11 := hQ.1
      replace hQ := hQ.2
      subst hF
      exact (ihL37 _ _ _ hQ).trans ((pf_ne (by omega)).trans rfl)
theorem fh_X10_card {b : Nat} {σ : gS} {p0 : Int32} {p1 : Int32} (hb : b < 199) (hQ : Q_X10_card σ p0 p1) : (F_X10_card σ p0 p1).2 b = σ b := by
  generalize hF : F_X10_card σ p0 p1 = fr
  rw [F_X10_card_eq] at hF
  unfold Fr_X10_card at hF
  unfold Q_X10_card at hQ
  rcases ite_or hF with ⟨d2, hF⟩ | ⟨d2, hF⟩
  · replace hQ := ite_q hQ d2
    subst hF
    exact ((pf_ne (by omega)).trans rfl)
  · replace hQ := ite_r hQ d2
    rcases ite_or hF with ⟨d3, hF⟩ | ⟨d3, hF⟩
    · replace hQ := ite_q hQ d3
      subst hF
      exact ((pf_ne (by omega)).trans rfl)
    · replace hQ := ite_r hQ d3
      rcases ite_or hF with ⟨d4, hF⟩ | ⟨d4, hF⟩
      · replace hQ := ite_q hQ d4
        subst hF
        exact ((pf_ne (by omega)).trans rfl)
      · replace hQ := ite_r hQ d4
        rcases ite_or hF with ⟨d5, hF⟩ | ⟨d5, hF⟩
        · replace hQ := ite_q hQ d5
          subst hF
          exact (fhG_X10_card_L37 hb 4000 _ _ _ hQ).trans ((pf_ne (by omega)).trans rfl)
        · replace hQ := ite_r hQ d5
          subst hF
          exact ((pf_ne (by omega)).trans rfl)
theorem fh_X10_cut {b : Nat} {σ : gS} {p0 : Int32} (hb : b < 199)  : (F_X10_cut σ p0).2 b = σ b := by
  generalize hF : F_X10_cut σ p0 = fr
  rw [F_X10_cut_eq] at hF
  unfold Fr_X10_cut at hF
  rcases ite_or hF with ⟨d1, hF⟩ | ⟨d1, hF⟩
  · skip
    subst hF
    exact rfl
  · skip
    rcases ite_or hF with ⟨d2, hF⟩ | ⟨d2, hF⟩
    · skip
      subst hF
      exact ((pf_ne (by omega)).trans rfl)
    · skip
      subst hF
      exact rfl
theorem fh_X10_cutAt {b : Nat} {σ : gS} {p0 : Int32} (hb : b < 199)  : (F_X10_cutAt σ p0).2 b = σ b := by
  generalize hF : F_X10_cutAt σ p0 = fr
  rw [F_X10_cutAt_eq] at hF
  unfold Fr_X10_cutAt at hF
  rcases ite_or hF with ⟨d1, hF⟩ | ⟨d1, hF⟩
  · skip
    subst hF
    exact rfl
  · skip
    rcases ite_or hF with ⟨d2, hF⟩ | ⟨d2, hF⟩
    · skip
      subst hF
      exact ((pf_ne (by omega)).trans rfl)
    · skip
      subst hF
      exact rfl
theorem fhG_X10_disk_L15 {b : Nat}  (hb : b < 199) : ∀ (n : Nat) (y1 : Int32) (σ : gS), QG_X10_disk_L15  n y1 σ → (G_X10_disk_L15  n y1 σ).2 b = σ b := by
  intro n
  induction n with
  | zero => intro y1 σ hQ; exact absurd hQ (by unfold QG_X10_disk_L15; exact id)
  | succ n ihL15 =>
    intro y1 σ hQ
    generalize hF : G_X10_disk_L15  (n + 1) y1 σ = fr
    unfold G_X10_disk_L15 at hF
    unfold QG_X10_disk_L15 at hQ
    rcases ite_or hF with ⟨d1, hF⟩ | ⟨d1, hF⟩
    · replace hQ := ite_q hQ d1
      subst hF
      exact rfl
    · replace hQ := ite_r hQ d1
      have o4 := hQ.1
      replace hQ := hQ.2
      have o5 := hQ.1
      replace hQ := hQ.2
      subst hF
      exact (ihL15 _ _ hQ).trans ((pf_ne (by omega)).trans rfl)
theorem fh_X10_disk {b : Nat} {σ : gS}  (hb : b < 199) (hQ : Q_X10_disk σ ) : (F_X10_disk σ ).2 b = σ b := by
  generalize hF : F_X10_disk σ  = fr
  rw [F_X10_disk_eq] at hF
  unfold Fr_X10_disk at hF
  unfold Q_X10_disk at hQ
  subst hF
  exact (fhG_X10_disk_L15 hb 4000 _ _ hQ).trans ((pf_ne (by omega)).trans ((pf_ne (by omega)).trans rfl))
theorem fh_X10_door {b : Nat} {σ : gS} {p0 : Int32} (hb : b < 199) (hQ : Q_X10_door σ p0) : (F_X10_door σ p0) b = σ b := by
  generalize hF : F_X10_door σ p0 = fr
  rw [F_X10_door_eq] at hF
  unfold Fr_X10_door at hF
  unfold Q_X10_door at hQ
  have o1 := hQ.1
  replace hQ := hQ.2
  subst hF
  exact ((pf_ne (by omega)).trans rfl)
theorem fhG_X10_lay_L3 {b : Nat} {p0 : Int32} (hb : b < 199) : ∀ (n : Nat) (y2 : Int32) (σ : gS), QG_X10_lay_L3 p0 n y2 σ → (G_X10_lay_L3 p0 n y2 σ) b = σ b := by
  intro n
  induction n with
  | zero => intro y2 σ hQ; exact absurd hQ (by unfold QG_X10_lay_L3; exact id)
  | succ n ihL3 =>
    intro y2 σ hQ
    generalize hF : G_X10_lay_L3 p0 (n + 1) y2 σ = fr
    unfold G_X10_lay_L3 at hF
    unfold QG_X10_lay_L3 at hQ
    rcases ite_or hF with ⟨d1, hF⟩ | ⟨d1, hF⟩
    · replace hQ := ite_q hQ d1
      subst hF
      exact rfl
    · replace hQ := ite_r hQ d1
      have o2 := hQ.1
      replace hQ := hQ.2
      subst hF
      exact (ihL3 _ _ hQ).trans ((pf_ne (by omega)).trans ((pf_ne (by omega)).trans rfl))
theorem fh_X10_lay {b : Nat} {σ : gS} {p0 : Int32} (hb : b < 199) (hQ : Q_X10_lay σ p0) : (F_X10_lay σ p0) b = σ b := by
  generalize hF : F_X10_lay σ p0 = fr
  rw [F_X10_lay_eq] at hF
  unfold Fr_X10_lay at hF
  unfold Q_X10_lay at hQ
  subst hF
  exact (fhG_X10_lay_L3 hb 4000 _ _ hQ).trans rfl
theorem fh_X10_feed {b : Nat} {σ : gS} {p0 : Int32} {p1 : Int32} {p2 : Int32} {p3 : Int32} {p4 : Int32} (hb : b < 199) (hQ : Q_X10_feed σ p0 p1 p2 p3 p4) : (F_X10_feed σ p0 p1 p2 p3 p4).2 b = σ b := by
  generalize hF : F_X10_feed σ p0 p1 p2 p3 p4 = fr
  rw [F_X10_feed_eq] at hF
  unfold Fr_X10_feed at hF
  unfold Q_X10_feed at hQ
  rcases ite_or hF with ⟨d1, hF⟩ | ⟨d1, hF⟩
  · replace hQ := ite_q hQ d1
    have o2 := hQ.1
    replace hQ := hQ.2
    have o5 := hQ.1
    replace hQ := hQ.2
    have o8 := hQ.1
    replace hQ := hQ.2
    have o11 := hQ.1
    replace hQ := hQ.2
    have o14 := hQ.1
    replace hQ := hQ.2
    subst hF
    exact ((fh_X10_lay hb o14).trans ((fh_X10_lay hb o11).trans ((fh_X10_lay hb o8).trans ((fh_X10_lay hb o5).trans ((fh_X10_lay hb o2).trans rfl)))))
  · replace hQ := ite_r hQ d1
    subst hF
    exact rfl
theorem fh_X10_finger {b : Nat} {σ : gS} {p0 : Int32} (hb : b < 199)  : (F_X10_finger σ p0).2 b = σ b := by
  generalize hF : F_X10_finger σ p0 = fr
  rw [F_X10_finger_eq] at hF
  unfold Fr_X10_finger at hF
  rcases ite_or hF with ⟨d1, hF⟩ | ⟨d1, hF⟩
  · skip
    subst hF
    exact rfl
  · skip
    rcases ite_or hF with ⟨d2, hF⟩ | ⟨d2, hF⟩
    · skip
      subst hF
      exact ((pf_ne (by omega)).trans rfl)
    · skip
      subst hF
      exact rfl
theorem fh_X10_key {b : Nat} {σ : gS} {p0 : Int32} (hb : b < 199)  : (F_X10_key σ p0).2 b = σ b := by
  generalize hF : F_X10_key σ p0 = fr
  rw [F_X10_key_eq] at hF
  unfold Fr_X10_key at hF
  rcases ite_or hF with ⟨d1, hF⟩ | ⟨d1, hF⟩
  · skip
    subst hF
    exact rfl
  · skip
    rcases ite_or hF with ⟨d2, hF⟩ | ⟨d2, hF⟩
    · skip
      subst hF
      exact ((pf_ne (by omega)).trans rfl)
    · skip
      subst hF
      exact rfl
theorem fh_X10_locks {b : Nat} {σ : gS}  (hb : b < 199)  : (F_X10_locks σ ) b = σ b := by
  generalize hF : F_X10_locks σ  = fr
  rw [F_X10_locks_eq] at hF
  unfold Fr_X10_locks at hF
  rcases ite_or hF with ⟨d1, hF⟩ | ⟨d1, hF⟩
  · skip
    subst hF
    exact ((pf_ne (by omega)).trans ((pf_ne (by omega)).trans rfl))
  · skip
    subst hF
    exact ((pf_ne (by omega)).trans ((pf_ne (by omega)).trans rfl))
theorem fhJ_X10_latch_100 {b : Nat}  (hb : b < 199) : ∀ (y1 : Int32) (u0 : Int32) (σ : gS) (ζ : gQ), QJ_X10_latch_100  y1 u0 σ ζ → (J_X10_latch_100  y1 u0 σ ζ).1 b = σ b := by
  intro y1 u0 σ ζ hQ
  generalize hF : J_X10_latch_100  y1 u0 σ ζ = fr
  unfold J_X10_latch_100 at hF
  unfold QJ_X10_latch_100 at hQ
  rcases ite_or hF with ⟨d1, hF⟩ | ⟨d1, hF⟩
  · replace hQ := ite_q hQ d1
    have o7 := hQ.1
    replace hQ := hQ.2
    rcases ite_or hF with ⟨d2, hF⟩ | ⟨d2, hF⟩
    · replace hQ := ite_q hQ d2
      subst hF
      exact ((fh_X10_put_ hb o7).trans rfl)
    · replace hQ := ite_r hQ d2
      have o11 := hQ.1
      replace hQ := hQ.2
      subst hF
      exact ((pf_ne (by omega)).trans ((fh_X10_put_ hb o7).trans rfl))
  · replace hQ := ite_r hQ d1
    have o13 := hQ.1
    replace hQ := hQ.2
    rcases ite_or hF with ⟨d3, hF⟩ | ⟨d3, hF⟩
    · replace hQ := ite_q hQ d3
      subst hF
      exact ((fh_X10_put_ hb o13).trans rfl)
    · replace hQ := ite_r hQ d3
      have o17 := hQ.1
      replace hQ := hQ.2
      subst hF
      exact ((pf_ne (by omega)).trans ((fh_X10_put_ hb o13).trans rfl))
theorem fhJ_X10_latch_79 {b : Nat}  (hb : b < 199) : ∀ (u0 : Int32) (σ : gS) (ζ : gQ), QJ_X10_latch_79  u0 σ ζ → (J_X10_latch_79  u0 σ ζ).1 b = σ b := by
  intro u0 σ ζ hQ
  generalize hF : J_X10_latch_79  u0 σ ζ = fr
  unfold J_X10_latch_79 at hF
  unfold QJ_X10_latch_79 at hQ
  rcases ite_or hF with ⟨d4, hF⟩ | ⟨d4, hF⟩
  · replace hQ := ite_q hQ d4
    subst hF
    exact rfl
  · replace hQ := ite_r hQ d4
    rcases ite_or hF with ⟨d5, hF⟩ | ⟨d5, hF⟩
    · replace hQ := ite_q hQ d5
      subst hF
      exact (fhJ_X10_latch_100 hb _ _ _ _ hQ).trans rfl
    · replace hQ := ite_r hQ d5
      subst hF
      exact (fhJ_X10_latch_100 hb _ _ _ _ hQ).trans rfl
theorem fhJ_X10_latch_78 {b : Nat}  (hb : b < 199) : ∀ (σ : gS) (ζ : gQ), QJ_X10_latch_78  σ ζ → (J_X10_latch_78  σ ζ).1 b = σ b := by
  intro σ ζ hQ
  generalize hF : J_X10_latch_78  σ ζ = fr
  unfold J_X10_latch_78 at hF
  unfold QJ_X10_latch_78 at hQ
  subst hF
  exact (fhJ_X10_latch_79 hb _ _ _ hQ).trans rfl
theorem fhJ_X10_latch_48 {b : Nat}  (hb : b < 199) : ∀ (σ : gS) (ζ : gQ), QJ_X10_latch_48  σ ζ → (J_X10_latch_48  σ ζ).1 b = σ b := by
  intro σ ζ hQ
  generalize hF : J_X10_latch_48  σ ζ = fr
  unfold J_X10_latch_48 at hF
  unfold QJ_X10_latch_48 at hQ
  rcases ite_or hF with ⟨d6, hF⟩ | ⟨d6, hF⟩
  · replace hQ := ite_q hQ d6
    subst hF
    exact (fhJ_X10_latch_78 hb _ _ hQ).trans rfl
  · replace hQ := ite_r hQ d6
    rcases ite_or hF with ⟨d7, hF⟩ | ⟨d7, hF⟩
    · replace hQ := ite_q hQ d7
      rcases ite_or hF with ⟨d8, hF⟩ | ⟨d8, hF⟩
      · replace hQ := ite_q hQ d8
        subst hF
        exact (fhJ_X10_latch_78 hb _ _ hQ).trans rfl
      · replace hQ := ite_r hQ d8
        subst hF
        exact (fhJ_X10_latch_79 hb _ _ _ hQ).trans rfl
    · replace hQ := ite_r hQ d7
      subst hF
      exact (fhJ_X10_latch_78 hb _ _ hQ).trans rfl
theorem fh_X10_latch {b : Nat} {σ : gS} {ζ : gQ}  (hb : b < 199) (hQ : Q_X10_latch σ ζ ) : (F_X10_latch σ ζ ).1 b = σ b := by
  generalize hF : F_X10_latch σ ζ  = fr
  rw [F_X10_latch_eq] at hF
  unfold Fr_X10_latch at hF
  unfold Q_X10_latch at hQ
  rcases ite_or hF with ⟨d9, hF⟩ | ⟨d9, hF⟩
  · replace hQ := ite_q hQ d9
    rcases ite_or hF with ⟨d10, hF⟩ | ⟨d10, hF⟩
    · replace hQ := ite_q hQ d10
      subst hF
      exact (fhJ_X10_latch_48 hb _ _ hQ).trans rfl
    · replace hQ := ite_r hQ d10
      rcases ite_or hF with ⟨d11, hF⟩ | ⟨d11, hF⟩
      · replace hQ := ite_q hQ d11
        subst hF
        exact (fhJ_X10_latch_48 hb _ _ hQ).trans rfl
      · replace hQ := ite_r hQ d11
        have o22 := hQ.1
        replace hQ := hQ.2
        rcases ite_or hF with ⟨d12, hF⟩ | ⟨d12, hF⟩
        · replace hQ := ite_q hQ d12
          subst hF
          exact (fhJ_X10_latch_48 hb _ _ hQ).trans ((fh_X10_locks hb).trans ((fh_X10_put_ hb o22).trans rfl))
        · replace hQ := ite_r hQ d12
          subst hF
          exact ((fh_X10_locks hb).trans ((fh_X10_put_ hb o22).trans rfl))
  · replace hQ := ite_r hQ d9
    subst hF
    exact rfl
theorem fhJ_X10_look_95 {b : Nat}  (hb : b < 199) : ∀ (y1 : Int32) (σ : gS) (ζ : gQ), QJ_X10_look_95  y1 σ ζ → (J_X10_look_95  y1 σ ζ).1 b = σ b := by
  intro y1 σ ζ hQ
  generalize hF : J_X10_look_95  y1 σ ζ = fr
  unfold J_X10_look_95 at hF
  unfold QJ_X10_look_95 at hQ
  have o11 := hQ.1
  replace hQ := hQ.2
  rcases ite_or hF with ⟨d1, hF⟩ | ⟨d1, hF⟩
  · replace hQ := ite_q hQ d1
    rcases ite_or hF with ⟨d2, hF⟩ | ⟨d2, hF⟩
    · replace hQ := ite_q hQ d2
      have o19 := hQ.1
      replace hQ := hQ.2
      subst hF
      exact ((fh_X10_latch hb o19).trans ((fh_X10_actInside hb o11).trans rfl))
    · replace hQ := ite_r hQ d2
      have o22 := hQ.1
      replace hQ := hQ.2
      have o25 := hQ.1
      replace hQ := hQ.2
      subst hF
      exact ((fh_X10_latch hb o25).trans ((fh_X10_actOutside hb o22).trans ((fh_X10_actInside hb o11).trans rfl)))
  · replace hQ := ite_r hQ d1
    have o15 := hQ.1
    replace hQ := hQ.2
    subst hF
    exact ((fh_X10_latch hb o15).trans ((fh_X10_actInside hb o11).trans rfl))
theorem fhJ_X10_look_57 {b : Nat}  (hb : b < 199) : ∀ (u0 : Int32) (σ : gS) (ζ : gQ), QJ_X10_look_57  u0 σ ζ → (J_X10_look_57  u0 σ ζ).1 b = σ b := by
  intro u0 σ ζ hQ
  generalize hF : J_X10_look_57  u0 σ ζ = fr
  unfold J_X10_look_57 at hF
  unfold QJ_X10_look_57 at hQ
  rcases ite_or hF with ⟨d3, hF⟩ | ⟨d3, hF⟩
  · replace hQ := ite_q hQ d3
    rcases ite_or hF with ⟨d4, hF⟩ | ⟨d4, hF⟩
    · replace hQ := ite_q hQ d4
      subst hF
      exact (fhJ_X10_look_95 hb _ _ _ hQ).trans rfl
    · replace hQ := ite_r hQ d4
      rcases ite_or hF with ⟨d5, hF⟩ | ⟨d5, hF⟩
      · replace hQ := ite_q hQ d5
        subst hF
        exact (fhJ_X10_look_95 hb _ _ _ hQ).trans rfl
      · replace hQ := ite_r hQ d5
        have o29 := hQ.1
        replace hQ := hQ.2
        rcases ite_or hF with ⟨d6, hF⟩ | ⟨d6, hF⟩
        · replace hQ := ite_q hQ d6
          have o36 := hQ.1
          replace hQ := hQ.2
          have o39 := hQ.1
          replace hQ := hQ.2
          subst hF
          exact ((fh_X10_latch hb o39).trans ((fh_X10_actInside hb o36).trans ((fh_X10_actOutside hb o29).trans rfl)))
        · replace hQ := ite_r hQ d6
          have o33 := hQ.1
          replace hQ := hQ.2
          subst hF
          exact ((fh_X10_latch hb o33).trans ((fh_X10_actOutside hb o29).trans rfl))
  · replace hQ := ite_r hQ d3
    have o7 := hQ.1
    replace hQ := hQ.2
    subst hF
    exact ((fh_X10_latch hb o7).trans rfl)
theorem fhJ_X10_look_40 {b : Nat}  (hb : b < 199) : ∀ (σ : gS) (ζ : gQ), QJ_X10_look_40  σ ζ → (J_X10_look_40  σ ζ).1 b = σ b := by
  intro σ ζ hQ
  generalize hF : J_X10_look_40  σ ζ = fr
  unfold J_X10_look_40 at hF
  unfold QJ_X10_look_40 at hQ
  have o2 := hQ.1
  replace hQ := hQ.2
  rcases ite_or hF with ⟨d7, hF⟩ | ⟨d7, hF⟩
  · replace hQ := ite_q hQ d7
    subst hF
    exact (fhJ_X10_look_57 hb _ _ _ hQ).trans ((fh_X10_latch hb o2).trans rfl)
  · replace hQ := ite_r hQ d7
    subst hF
    exact (fhJ_X10_look_57 hb _ _ _ hQ).trans ((fh_X10_latch hb o2).trans rfl)
theorem fhJ_X10_look_34 {b : Nat}  (hb : b < 199) : ∀ (u0 : Int32) (σ : gS) (ζ : gQ), QJ_X10_look_34  u0 σ ζ → (J_X10_look_34  u0 σ ζ).1 b = σ b := by
  intro u0 σ ζ hQ
  generalize hF : J_X10_look_34  u0 σ ζ = fr
  unfold J_X10_look_34 at hF
  unfold QJ_X10_look_34 at hQ
  have o45 := hQ.1
  replace hQ := hQ.2
  subst hF
  exact (fhJ_X10_look_40 hb _ _ hQ).trans ((fh_X10_put_ hb o45).trans rfl)
theorem fh_X10_look {b : Nat} {σ : gS} {ζ : gQ}  (hb : b < 199) (hQ : Q_X10_look σ ζ ) : (F_X10_look σ ζ ).1 b = σ b := by
  generalize hF : F_X10_look σ ζ  = fr
  rw [F_X10_look_eq] at hF
  unfold Fr_X10_look at hF
  unfold Q_X10_look at hQ
  rcases ite_or hF with ⟨d8, hF⟩ | ⟨d8, hF⟩
  · replace hQ := ite_q hQ d8
    subst hF
    exact (fhJ_X10_look_40 hb _ _ hQ).trans rfl
  · replace hQ := ite_r hQ d8
    have o42 := hQ.1
    replace hQ := hQ.2
    rcases ite_or hF with ⟨d9, hF⟩ | ⟨d9, hF⟩
    · replace hQ := ite_q hQ d9
      subst hF
      exact (fhJ_X10_look_34 hb _ _ _ hQ).trans ((pf_ne (by omega)).trans rfl)
    · replace hQ := ite_r hQ d9
      subst hF
      exact (fhJ_X10_look_34 hb _ _ _ hQ).trans ((pf_ne (by omega)).trans rfl)
theorem fh_X10_noDisk {b : Nat} {σ : gS}  (hb : b < 199)  : (F_X10_noDisk σ ).2 b = σ b := by
  generalize hF : F_X10_noDisk σ  = fr
  rw [F_X10_noDisk_eq] at hF
  unfold Fr_X10_noDisk at hF
  rcases ite_or hF with ⟨d1, hF⟩ | ⟨d1, hF⟩
  · skip
    subst hF
    exact ((pf_ne (by omega)).trans rfl)
  · skip
    subst hF
    exact ((pf_ne (by omega)).trans rfl)
theorem fhJ_X10_starts_105 {b : Nat}  (hb : b < 199) : ∀ (u0 : Int32) (σ : gS) (ζ : gQ), QJ_X10_starts_105  u0 σ ζ → (J_X10_starts_105  u0 σ ζ).1 b = σ b := by
  intro u0 σ ζ hQ
  generalize hF : J_X10_starts_105  u0 σ ζ = fr
  unfold J_X10_starts_105 at hF
  unfold QJ_X10_starts_105 at hQ
  have o19 := hQ.1
  replace hQ := hQ.2
  subst hF
  exact ((pf_ne (by omega)).trans ((pf_ne (by omega)).trans ((pf_ne (by omega)).trans ((pf_ne (by omega)).trans ((pf_ne (by omega)).trans rfl)))))
theorem fhJ_X10_starts_91 {b : Nat}  (hb : b < 199) : ∀ (y1 : Int32) (u0 : Int32) (σ : gS) (ζ : gQ), QJ_X10_starts_91  y1 u0 σ ζ → (J_X10_starts_91  y1 u0 σ ζ).1 b = σ b := by
  intro y1 u0 σ ζ hQ
  generalize hF : J_X10_starts_91  y1 u0 σ ζ = fr
  unfold J_X10_starts_91 at hF
  unfold QJ_X10_starts_91 at hQ
  rcases ite_or hF with ⟨d1, hF⟩ | ⟨d1, hF⟩
  · replace hQ := ite_q hQ d1
    subst hF
    exact (fhJ_X10_starts_105 hb _ _ _ hQ).trans ((pf_ne (by omega)).trans rfl)
  · replace hQ := ite_r hQ d1
    subst hF
    exact (fhJ_X10_starts_105 hb _ _ _ hQ).trans ((pf_ne (by omega)).trans rfl)
theorem fhJ_X10_starts_78 {b : Nat}  (hb : b < 199) : ∀ (y1 : Int32) (u0 : Int32) (σ : gS) (ζ : gQ), QJ_X10_starts_78  y1 u0 σ ζ → (J_X10_starts_78  y1 u0 σ ζ).1 b = σ b := by
  intro y1 u0 σ ζ hQ
  generalize hF : J_X10_starts_78  y1 u0 σ ζ = fr
  unfold J_X10_starts_78 at hF
  unfold QJ_X10_starts_78 at hQ
  rcases ite_or hF with ⟨d2, hF⟩ | ⟨d2, hF⟩
  · replace hQ := ite_q hQ d2
    subst hF
    exact (fhJ_X10_starts_91 hb _ _ _ _ hQ).trans ((pf_ne (by omega)).trans rfl)
  · replace hQ := ite_r hQ d2
    subst hF
    exact (fhJ_X10_starts_91 hb _ _ _ _ hQ).trans ((pf_ne (by omega)).trans rfl)
theorem fhJ_X10_starts_32 {b : Nat}  (hb : b < 199) : ∀ (y1 : Int32) (σ : gS) (ζ : gQ), QJ_X10_starts_32  y1 σ ζ → (J_X10_starts_32  y1 σ ζ).1 b = σ b := by
  intro y1 σ ζ hQ
  generalize hF : J_X10_starts_32  y1 σ ζ = fr
  unfold J_X10_starts_32 at hF
  unfold QJ_X10_starts_32 at hQ
  rcases ite_or hF with ⟨d3, hF⟩ | ⟨d3, hF⟩
  · replace hQ := ite_q hQ d3
    subst hF
    exact (fhJ_X10_starts_78 hb _ _ _ _ hQ).trans ((pf_ne (by omega)).trans ((pf_ne (by omega)).trans ((pf_ne (by omega)).trans ((pf_ne (by omega)).trans rfl))))
  · replace hQ := ite_r hQ d3
    subst hF
    exact (fhJ_X10_starts_78 hb _ _ _ _ hQ).trans ((pf_ne (by omega)).trans ((pf_ne (by omega)).trans ((pf_ne (by omega)).trans ((pf_ne (by omega)).trans rfl))))
theorem fhJ_X10_starts_13 {b : Nat}  (hb : b < 199) : ∀ (u0 : Int32) (σ : gS) (ζ : gQ), QJ_X10_starts_13  u0 σ ζ → (J_X10_starts_13  u0 σ ζ).1 b = σ b := by
  intro u0 σ ζ hQ
  generalize hF : J_X10_starts_13  u0 σ ζ = fr
  unfold J_X10_starts_13 at hF
  unfold QJ_X10_starts_13 at hQ
  rcases ite_or hF with ⟨d4, hF⟩ | ⟨d4, hF⟩
  · replace hQ := ite_q hQ d4
    subst hF
    exact (fhJ_X10_starts_32 hb _ _ _ hQ).trans ((pf_ne (by omega)).trans rfl)
  · replace hQ := ite_r hQ d4
    have o21 := hQ.1
    replace hQ := hQ.2
    subst hF
    exact (fhJ_X10_starts_32 hb _ _ _ hQ).trans ((fh_X10_put_ hb o21).trans ((pf_ne (by omega)).trans rfl))
theorem fh_X10_starts {b : Nat} {σ : gS} {ζ : gQ}  (hb : b < 199) (hQ : Q_X10_starts σ ζ ) : (F_X10_starts σ ζ ).1 b = σ b := by
  generalize hF : F_X10_starts σ ζ  = fr
  rw [F_X10_starts_eq] at hF
  unfold Fr_X10_starts at hF
  unfold Q_X10_starts at hQ
  rcases ite_or hF with ⟨d5, hF⟩ | ⟨d5, hF⟩
  · replace hQ := ite_q hQ d5
    subst hF
    exact (fhJ_X10_starts_13 hb _ _ _ hQ).trans rfl
  · replace hQ := ite_r hQ d5
    subst hF
    exact (fhJ_X10_starts_13 hb _ _ _ hQ).trans rfl
theorem fhJ_X10_poll_46 {b : Nat}  (hb : b < 199) : ∀ (u0 : Int32) (σ : gS) (ζ : gQ), QJ_X10_poll_46  u0 σ ζ → (J_X10_poll_46  u0 σ ζ).2.1 b = σ b := by
  intro u0 σ ζ hQ
  generalize hF : J_X10_poll_46  u0 σ ζ = fr
  unfold J_X10_poll_46 at hF
  unfold QJ_X10_poll_46 at hQ
  rcases ite_or hF with ⟨d1, hF⟩ | ⟨d1, hF⟩
  · replace hQ := ite_q hQ d1
    subst hF
    exact ((pf_ne (by omega)).trans ((pf_ne (by omega)).trans rfl))
  · replace hQ := ite_r hQ d1
    have o10 := hQ.1
    replace hQ := hQ.2
    subst hF
    exact ((fh_X10_starts hb o10).trans ((pf_ne (by omega)).trans ((pf_ne (by omega)).trans rfl)))
theorem fhJ_X10_poll_34 {b : Nat}  (hb : b < 199) : ∀ (σ : gS) (ζ : gQ), QJ_X10_poll_34  σ ζ → (J_X10_poll_34  σ ζ).2.1 b = σ b := by
  intro σ ζ hQ
  generalize hF : J_X10_poll_34  σ ζ = fr
  unfold J_X10_poll_34 at hF
  unfold QJ_X10_poll_34 at hQ
  rcases ite_or hF with ⟨d2, hF⟩ | ⟨d2, hF⟩
  · replace hQ := ite_q hQ d2
    subst hF
    exact (fhJ_X10_poll_46 hb _ _ _ hQ).trans rfl
  · replace hQ := ite_r hQ d2
    subst hF
    exact (fhJ_X10_poll_46 hb _ _ _ hQ).trans rfl
theorem fhJ_X10_poll_18 {b : Nat}  (hb : b < 199) : ∀ (u0 : Int32) (σ : gS) (ζ : gQ), QJ_X10_poll_18  u0 σ ζ → (J_X10_poll_18  u0 σ ζ).2.1 b = σ b := by
  intro u0 σ ζ hQ
  generalize hF : J_X10_poll_18  u0 σ ζ = fr
  unfold J_X10_poll_18 at hF
  unfold QJ_X10_poll_18 at hQ
  have o3 := hQ.1
  replace hQ := hQ.2
  rcases ite_or hF with ⟨d3, hF⟩ | ⟨d3, hF⟩
  · replace hQ := ite_q hQ d3
    subst hF
    exact (fhJ_X10_poll_34 hb _ _ hQ).trans ((pf_ne (by omega)).trans rfl)
  · replace hQ := ite_r hQ d3
    have o13 := hQ.1
    replace hQ := hQ.2
    subst hF
    exact (fhJ_X10_poll_34 hb _ _ hQ).trans ((fh_X10_look hb o13).trans ((pf_ne (by omega)).trans rfl))
theorem fh_X10_poll {b : Nat} {σ : gS} {ζ : gQ}  (hb : b < 199) (hQ : Q_X10_poll σ ζ ) : (F_X10_poll σ ζ ).2.1 b = σ b := by
  generalize hF : F_X10_poll σ ζ  = fr
  rw [F_X10_poll_eq] at hF
  unfold Fr_X10_poll at hF
  unfold Q_X10_poll at hQ
  rcases ite_or hF with ⟨d4, hF⟩ | ⟨d4, hF⟩
  · replace hQ := ite_q hQ d4
    subst hF
    exact (fhJ_X10_poll_18 hb _ _ _ hQ).trans ((pf_ne (by omega)).trans rfl)
  · replace hQ := ite_r hQ d4
    subst hF
    exact (fhJ_X10_poll_18 hb _ _ _ hQ).trans ((pf_ne (by omega)).trans rfl)
theorem fhJ_X10_put_57 {b : Nat} {p0 : Int32} {p1 : Int32} (hb : b < 199) : ∀ (σ : gS), QJ_X10_put_57 p0 p1 σ → (J_X10_put_57 p0 p1 σ).2 b = σ b := by
  intro σ hQ
  generalize hF : J_X10_put_57 p0 p1 σ = fr
  unfold J_X10_put_57 at hF
  unfold QJ_X10_put_57 at hQ
  rcases ite_or hF with ⟨d1, hF⟩ | ⟨d1, hF⟩
  · replace hQ := ite_q hQ d1
    subst hF
    exact ((pf_ne (by omega)).trans rfl)
  · replace hQ := ite_r hQ d1
    subst hF
    exact ((pf_ne (by omega)).trans rfl)
theorem fhJ_X10_put_51 {b : Nat} {p0 : Int32} {p1 : Int32} (hb : b < 199) : ∀ (u0 : Int32) (σ : gS), QJ_X10_put_51 p0 p1 u0 σ → (J_X10_put_51 p0 p1 u0 σ).2 b = σ b := by
  intro u0 σ hQ
  generalize hF : J_X10_put_51 p0 p1 u0 σ = fr
  unfold J_X10_put_51 at hF
  unfold QJ_X10_put_51 at hQ
  rcases ite_or hF with ⟨d2, hF⟩ | ⟨d2, hF⟩
  · replace hQ := ite_q hQ d2
    subst hF
    exact rfl
  · replace hQ := ite_r hQ d2
    subst hF
    exact (fhJ_X10_put_57 hb _ hQ).trans rfl
theorem fhJ_X10_put_26 {b : Nat} {p0 : Int32} {p1 : Int32} (hb : b < 199) : ∀ (u0 : Int32) (σ : gS), QJ_X10_put_26 p0 p1 u0 σ → (J_X10_put_26 p0 p1 u0 σ).2 b = σ b := by
  intro u0 σ hQ
  generalize hF : J_X10_put_26 p0 p1 u0 σ = fr
  unfold J_X10_put_26 at hF
  unfold QJ_X10_put_26 at hQ
  rcases ite_or hF with ⟨d3, hF⟩ | ⟨d3, hF⟩
  · replace hQ := ite_q hQ d3
    subst hF
    exact rfl
  · replace hQ := ite_r hQ d3
    rcases ite_or hF with ⟨d4, hF⟩ | ⟨d4, hF⟩
    · replace hQ := ite_q hQ d4
      subst hF
      exact (fhJ_X10_put_57 hb _ hQ).trans rfl
    · replace hQ := ite_r hQ d4
      rcases ite_or hF with ⟨d5, hF⟩ | ⟨d5, hF⟩
      · replace hQ := ite_q hQ d5
        subst hF
        exact (fhJ_X10_put_51 hb _ _ hQ).trans rfl
      · replace hQ := ite_r hQ d5
        subst hF
        exact (fhJ_X10_put_51 hb _ _ hQ).trans rfl
theorem fhJ_X10_put_21 {b : Nat} {p0 : Int32} {p1 : Int32} (hb : b < 199) : ∀ (σ : gS), QJ_X10_put_21 p0 p1 σ → (J_X10_put_21 p0 p1 σ).2 b = σ b := by
  intro σ hQ
  generalize hF : J_X10_put_21 p0 p1 σ = fr
  unfold J_X10_put_21 at hF
  unfold QJ_X10_put_21 at hQ
  subst hF
  exact (fhJ_X10_put_26 hb _ _ hQ).trans rfl
theorem fhJ_X10_put_25 {b : Nat} {p0 : Int32} {p1 : Int32} (hb : b < 199) : ∀ (σ : gS), QJ_X10_put_25 p0 p1 σ → (J_X10_put_25 p0 p1 σ).2 b = σ b := by
  intro σ hQ
  generalize hF : J_X10_put_25 p0 p1 σ = fr
  unfold J_X10_put_25 at hF
  unfold QJ_X10_put_25 at hQ
  subst hF
  exact (fhJ_X10_put_26 hb _ _ hQ).trans rfl
theorem fhJ_X10_put_9 {b : Nat} {p0 : Int32} {p1 : Int32} (hb : b < 199) : ∀ (σ : gS), QJ_X10_put_9 p0 p1 σ → (J_X10_put_9 p0 p1 σ).2 b = σ b := by
  intro σ hQ
  generalize hF : J_X10_put_9 p0 p1 σ = fr
  unfold J_X10_put_9 at hF
  unfold QJ_X10_put_9 at hQ
  rcases ite_or hF with ⟨d6, hF⟩ | ⟨d6, hF⟩
  · replace hQ := ite_q hQ d6
    subst hF
    exact (fhJ_X10_put_21 hb _ hQ).trans rfl
  · replace hQ := ite_r hQ d6
    rcases ite_or hF with ⟨d7, hF⟩ | ⟨d7, hF⟩
    · replace hQ := ite_q hQ d7
      subst hF
      exact (fhJ_X10_put_25 hb _ hQ).trans rfl
    · replace hQ := ite_r hQ d7
      subst hF
      exact (fhJ_X10_put_21 hb _ hQ).trans rfl
theorem fh_X10_put {b : Nat} {σ : gS} {p0 : Int32} {p1 : Int32} (hb : b < 199) (hQ : Q_X10_put σ p0 p1) : (F_X10_put σ p0 p1).2 b = σ b := by
  generalize hF : F_X10_put σ p0 p1 = fr
  rw [F_X10_put_eq] at hF
  unfold Fr_X10_put at hF
  unfold Q_X10_put at hQ
  rcases ite_or hF with ⟨d8, hF⟩ | ⟨d8, hF⟩
  · replace hQ := ite_q hQ d8
    subst hF
    exact (fhJ_X10_put_9 hb _ hQ).trans rfl
  · replace hQ := ite_r hQ d8
    rcases ite_or hF with ⟨d9, hF⟩ | ⟨d9, hF⟩
    · replace hQ := ite_q hQ d9
      subst hF
      exact (fhJ_X10_put_9 hb _ hQ).trans rfl
    · replace hQ := ite_r hQ d9
      subst hF
      exact (fhJ_X10_put_25 hb _ hQ).trans rfl
theorem fhG_X10_seal_L109 {b : Nat} {p0 : Int32} {p1 : Int32} {p2 : Int32} {p3 : Int32} (hb : b < 199) : ∀ (n : Nat) (y5 : Int32) (σ : gS), QG_X10_seal_L109 p0 p1 p2 p3 n y5 σ → (G_X10_seal_L109 p0 p1 p2 p3 n y5 σ).2 b = σ b := by
  intro n
  induction n with
  | zero => intro y5 σ hQ; exact absurd hQ (by unfold QG_X10_seal_L109; exact id)
  | succ n ihL109 =>
    intro y5 σ hQ
    generalize hF : G_X10_seal_L109 p0 p1 p2 p3 (n + 1) y5 σ = fr
    unfold G_X10_seal_L109 at hF
    unfold QG_X10_seal_L109 at hQ
    rcases ite_or hF with ⟨d1, hF⟩ | ⟨d1, hF⟩
    · replace hQ := ite_q hQ d1
      subst hF
      exact ((pf_ne (by omega)).trans rfl)
    · replace hQ := ite_r hQ d1
      have o8 := hQ.1
      replace hQ := hQ.2
      have o9 := hQ.1
      replace hQ := hQ.2
      subst hF
      exact (ihL109 _ _ hQ).trans ((pf_ne (by omega)).trans rfl)
theorem fhG_X10_seal_L18 {b : Nat} {p0 : Int32} {p1 : Int32} {p2 : Int32} {p3 : Int32} (hb : b < 199) : ∀ (n : Nat) (y5 : Int32) (σ : gS), QG_X10_seal_L18 p0 p1 p2 p3 n y5 σ → (G_X10_seal_L18 p0 p1 p2 p3 n y5 σ).2 b = σ b := by
  intro n
  induction n with
  | zero => intro y5 σ hQ; exact absurd hQ (by unfold QG_X10_seal_L18; exact id)
  | succ n ihL18 =>
    intro y5 σ hQ
    generalize hF : G_X10_seal_L18 p0 p1 p2 p3 (n + 1) y5 σ = fr
    unfold G_X10_seal_L18 at hF
    unfold QG_X10_seal_L18 at hQ
    rcases ite_or hF with ⟨d2, hF⟩ | ⟨d2, hF⟩
    · replace hQ := ite_q hQ d2
      have o3 := hQ.1
      replace hQ := hQ.2
      subst hF
      exact (fhG_X10_seal_L109 hb 4000 _ _ hQ).trans ((fh_X10_sealOf hb o3).trans rfl)
    · replace hQ := ite_r hQ d2
      rcases ite_or hF with ⟨d3, hF⟩ | ⟨d3, hF⟩
      · replace hQ := ite_q hQ d3
        rcases ite_or hF with ⟨d4, hF⟩ | ⟨d4, hF⟩
        · replace hQ := ite_q hQ d4
          rcases ite_or hF with ⟨d5, hF⟩ | ⟨d5, hF⟩
          · replace hQ := ite_q hQ d5
            have o14 := hQ.1
            replace hQ := hQ.2
            subst hF
            exact (ihL18 _ _ hQ).trans ((pf_ne (by omega)).trans rfl)
          · replace hQ := ite_r hQ d5
            have o16 := hQ.1
            replace hQ := hQ.2
            subst hF
            exact (ihL18 _ _ hQ).trans ((pf_ne (by omega)).trans rfl)
        · replace hQ := ite_r hQ d4
          have o18 := hQ.1
          replace hQ := hQ.2
          subst hF
          exact (ihL18 _ _ hQ).trans ((pf_ne (by omega)).trans rfl)
      · replace hQ := ite_r hQ d3
        have o20 := hQ.1
        replace hQ := hQ.2
        subst hF
        exact (ihL18 _ _ hQ).trans ((pf_ne (by omega)).trans rfl)
theorem fh_X10_seal {b : Nat} {σ : gS} {p0 : Int32} {p1 : Int32} {p2 : Int32} {p3 : Int32} (hb : b < 199) (hQ : Q_X10_seal σ p0 p1 p2 p3) : (F_X10_seal σ p0 p1 p2 p3).2 b = σ b := by
  generalize hF : F_X10_seal σ p0 p1 p2 p3 = fr
  rw [F_X10_seal_eq] at hF
  unfold Fr_X10_seal at hF
  unfold Q_X10_seal at hQ
  rcases ite_or hF with ⟨d6, hF⟩ | ⟨d6, hF⟩
  · replace hQ := ite_q hQ d6
    subst hF
    exact (fhG_X10_seal_L18 hb 4000 _ _ hQ).trans rfl
  · replace hQ := ite_r hQ d6
    subst hF
    exact rfl
theorem fh_X10_writable {b : Nat} {σ : gS} {p0 : Int32} {p1 : Int32} (hb : b < 199) (hQ : Q_X10_writable σ p0 p1) : (F_X10_writable σ p0 p1).2 b = σ b := by
  generalize hF : F_X10_writable σ p0 p1 = fr
  rw [F_X10_writable_eq] at hF
  unfold Fr_X10_writable at hF
  unfold Q_X10_writable at hQ
  rcases ite_or hF with ⟨d1, hF⟩ | ⟨d1, hF⟩
  · replace hQ := ite_q hQ d1
    subst hF
    exact rfl
  · replace hQ := ite_r hQ d1
    have o3 := hQ.1
    replace hQ := hQ.2
    have o5 := hQ.1
    replace hQ := hQ.2
    subst hF
    exact ((pf_ne (by omega)).trans rfl)
