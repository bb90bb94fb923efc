theorem fh_X9_write {b : Nat} {σ : gS} {p0 : Int32} {p1 : Int32} (hb : 199 ≤ b) (hQ : Q_X9_write σ p0 p1) : (F_X9_write σ p0 p1).2 b = σ b := by
  generalize hF : F_X9_write σ p0 p1 = fr
  rw [F_X9_write_eq] at hF
  unfold Fr_X9_write at hF
  unfold Q_X9_write at hQ
  have o1 := hQ.1
  replace hQ := hQ.2
  have o4 := hQ.1
  replace hQ := hQ.2
  subst hF
  exact ((fh_X3_write hb o1).trans rfl)
theorem fh_X9_enrol {b : Nat} {σ : gS}  (hb : 199 ≤ b) (hQ : Q_X9_enrol σ ) : (F_X9_enrol σ ).2 b = σ b := by
  generalize hF : F_X9_enrol σ  = fr
  rw [F_X9_enrol_eq] at hF
  unfold Fr_X9_enrol at hF
  unfold Q_X9_enrol at hQ
  have o1 := hQ.1
  replace hQ := hQ.2
  rcases ite_or hF with ⟨d1, hF⟩ | ⟨d1, hF⟩
  · replace hQ := ite_q hQ d1
    have o14 := hQ.1
    replace hQ := hQ.2
    rcases ite_or hF with ⟨d2, hF⟩ | ⟨d2, hF⟩
    · replace hQ := ite_q hQ d2
      subst hF
      exact ((fh_X9_write hb o14).trans rfl)
    · replace hQ := ite_r hQ d2
      subst hF
      exact ((pf_ne (by omega)).trans ((pf_ne (by omega)).trans ((fh_X9_write hb o14).trans rfl)))
  · replace hQ := ite_r hQ d1
    have o4 := hQ.1
    replace hQ := hQ.2
    rcases ite_or hF with ⟨d3, hF⟩ | ⟨d3, hF⟩
    · replace hQ := ite_q hQ d3
      subst hF
      exact ((fh_X9_write hb o4).trans rfl)
    · replace hQ := ite_r hQ d3
      have o8 := hQ.1
      replace hQ := hQ.2
      subst hF
      exact ((pf_ne (by omega)).trans ((pf_ne (by omega)).trans ((pf_ne (by omega)).trans ((fh_X4_takeFrom hb o8).trans ((fh_X9_write hb o4).trans rfl)))))
theorem fh_X9_awaitEnrolment {b : Nat} {σ : gS}  (hb : 199 ≤ b)  : (F_X9_awaitEnrolment σ ).2 b = σ b := by
  generalize hF : F_X9_awaitEnrolment σ  = fr
  rw [F_X9_awaitEnrolment_eq] at hF
  unfold Fr_X9_awaitEnrolment at hF
  subst hF
  exact ((pf_ne (by omega)).trans ((pf_ne (by omega)).trans rfl))
theorem fh_X9_stepInside {b : Nat} {σ : gS} {p0 : Int32} {p1 : Int32} {p2 : Int32} {p3 : Int32} (hb : 199 ≤ b) (hQ : Q_X9_stepInside σ p0 p1 p2 p3) : (F_X9_stepInside σ p0 p1 p2 p3).2 b = σ b := by
  generalize hF : F_X9_stepInside σ p0 p1 p2 p3 = fr
  rw [F_X9_stepInside_eq] at hF
  unfold Fr_X9_stepInside at hF
  unfold Q_X9_stepInside at hQ
  have o1 := hQ.1
  replace hQ := hQ.2
  rcases ite_or hF with ⟨d1, hF⟩ | ⟨d1, hF⟩
  · replace hQ := ite_q hQ d1
    subst hF
    exact ((fh_X3_write hb o1).trans rfl)
  · replace hQ := ite_r hQ d1
    subst hF
    exact ((pf_ne (by omega)).trans ((pf_ne (by omega)).trans ((fh_X3_write hb o1).trans rfl)))
theorem fh_X9_meetInnerCard {b : Nat} {σ : gS}  (hb : 199 ≤ b) (hQ : Q_X9_meetInnerCard σ ) : (F_X9_meetInnerCard σ ).2 b = σ b := by
  generalize hF : F_X9_meetInnerCard σ  = fr
  rw [F_X9_meetInnerCard_eq] at hF
  unfold Fr_X9_meetInnerCard at hF
  unfold Q_X9_meetInnerCard at hQ
  rcases ite_or hF with ⟨d1, hF⟩ | ⟨d1, hF⟩
  · replace hQ := ite_q hQ d1
    subst hF
    exact rfl
  · replace hQ := ite_r hQ d1
    have o2 := hQ.1
    replace hQ := hQ.2
    rcases ite_or hF with ⟨d2, hF⟩ | ⟨d2, hF⟩
    · replace hQ := ite_q hQ d2
      subst hF
      exact ((fh_X9_stepInside hb o2).trans rfl)
    · replace hQ := ite_r hQ d2
      subst hF
      exact ((pf_ne (by omega)).trans ((fh_X9_stepInside hb o2).trans rfl))
theorem fhJ_X9_roleEnds_67 {b : Nat}  (hb : 199 ≤ b) : ∀ (σ : gS), QJ_X9_roleEnds_67  σ → (J_X9_roleEnds_67  σ).2 b = σ b := by
  intro σ hQ
  generalize hF : J_X9_roleEnds_67  σ = fr
  unfold J_X9_roleEnds_67 at hF
  unfold QJ_X9_roleEnds_67 at hQ
  have o3 := hQ.1
  replace hQ := hQ.2
  rcases ite_or hF with ⟨d1, hF⟩ | ⟨d1, hF⟩
  · replace hQ := ite_q hQ d1
    subst hF
    exact ((fh_X9_stepInside hb o3).trans rfl)
  · replace hQ := ite_r hQ d1
    subst hF
    exact ((pf_ne (by omega)).trans ((fh_X9_stepInside hb o3).trans rfl))
theorem fh_X9_roleEnds {b : Nat} {σ : gS}  (hb : 199 ≤ b) (hQ : Q_X9_roleEnds σ ) : (F_X9_roleEnds σ ).2 b = σ b := by
  generalize hF : F_X9_roleEnds σ  = fr
  rw [F_X9_roleEnds_eq] at hF
  unfold Fr_X9_roleEnds at hF
  unfold Q_X9_roleEnds at hQ
  rcases ite_or hF with ⟨d2, hF⟩ | ⟨d2, hF⟩
  · replace hQ := ite_q hQ d2
    rcases ite_or hF with ⟨d3, hF⟩ | ⟨d3, hF⟩
    · replace hQ := ite_q hQ d3
      subst hF
      exact (fhJ_X9_roleEnds_67 hb _ hQ).trans rfl
    · replace hQ := ite_r hQ d3
      rcases ite_or hF with ⟨d4, hF⟩ | ⟨d4, hF⟩
      · replace hQ := ite_q hQ d4
        subst hF
        exact rfl
      · replace hQ := ite_r hQ d4
        subst hF
        exact (fhJ_X9_roleEnds_67 hb _ hQ).trans rfl
  · replace hQ := ite_r hQ d2
    have o9 := hQ.1
    replace hQ := hQ.2
    rcases ite_or hF with ⟨d5, hF⟩ | ⟨d5, hF⟩
    · replace hQ := ite_q hQ d5
      subst hF
      exact ((fh_X9_stepInside hb o9).trans rfl)
    · replace hQ := ite_r hQ d5
      subst hF
      exact ((pf_ne (by omega)).trans ((fh_X9_stepInside hb o9).trans rfl))
theorem fh_X9_takeKey {b : Nat} {σ : gS}  (hb : 199 ≤ b) (hQ : Q_X9_takeKey σ ) : (F_X9_takeKey σ ).2 b = σ b := by
  generalize hF : F_X9_takeKey σ  = fr
  rw [F_X9_takeKey_eq] at hF
  unfold Fr_X9_takeKey at hF
  unfold Q_X9_takeKey at hQ
  rcases ite_or hF with ⟨d1, hF⟩ | ⟨d1, hF⟩
  · replace hQ := ite_q hQ d1
    subst hF
    exact rfl
  · replace hQ := ite_r hQ d1
    rcases ite_or hF with ⟨d2, hF⟩ | ⟨d2, hF⟩
    · replace hQ := ite_q hQ d2
      have o4 := hQ.1
      replace hQ := hQ.2
      rcases ite_or hF with ⟨d3, hF⟩ | ⟨d3, hF⟩
      · replace hQ := ite_q hQ d3
        subst hF
        exact ((fh_X9_stepInside hb o4).trans rfl)
      · replace hQ := ite_r hQ d3
        subst hF
        exact ((pf_ne (by omega)).trans ((pf_ne (by omega)).trans ((fh_X9_stepInside hb o4).trans rfl)))
    · replace hQ := ite_r hQ d2
      have o10 := hQ.1
      replace hQ := hQ.2
      rcases ite_or hF with ⟨d4, hF⟩ | ⟨d4, hF⟩
      · replace hQ := ite_q hQ d4
        subst hF
        exact ((fh_X9_stepInside hb o10).trans rfl)
      · replace hQ := ite_r hQ d4
        subst hF
        exact ((pf_ne (by omega)).trans ((fh_X9_stepInside hb o10).trans rfl))
theorem fhJ_X9_judgeInnerCard_49 {b : Nat}  (hb : 199 ≤ b) : ∀ (σ : gS), QJ_X9_judgeInnerCard_49  σ → (J_X9_judgeInnerCard_49  σ).2 b = σ b := by
  intro σ hQ
  generalize hF : J_X9_judgeInnerCard_49  σ = fr
  unfold J_X9_judgeInnerCard_49 at hF
  unfold QJ_X9_judgeInnerCard_49 at hQ
  have o3 := hQ.1
  replace hQ := hQ.2
  subst hF
  exact ((fh_X9_stepInside hb o3).trans rfl)
theorem fh_X9_judgeInnerCard {b : Nat} {σ : gS}  (hb : 199 ≤ b) (hQ : Q_X9_judgeInnerCard σ ) : (F_X9_judgeInnerCard σ ).2 b = σ b := by
  generalize hF : F_X9_judgeInnerCard σ  = fr
  rw [F_X9_judgeInnerCard_eq] at hF
  unfold Fr_X9_judgeInnerCard at hF
  unfold Q_X9_judgeInnerCard at hQ
  rcases ite_or hF with ⟨d1, hF⟩ | ⟨d1, hF⟩
  · replace hQ := ite_q hQ d1
    rcases ite_or hF with ⟨d2, hF⟩ | ⟨d2, hF⟩
    · replace hQ := ite_q hQ d2
      subst hF
      exact (fhJ_X9_judgeInnerCard_49 hb _ hQ).trans rfl
    · replace hQ := ite_r hQ d2
      rcases ite_or hF with ⟨d3, hF⟩ | ⟨d3, hF⟩
      · replace hQ := ite_q hQ d3
        subst hF
        exact (fhJ_X9_judgeInnerCard_49 hb _ hQ).trans rfl
      · replace hQ := ite_r hQ d3
        have o7 := hQ.1
        replace hQ := hQ.2
        rcases ite_or hF with ⟨d4, hF⟩ | ⟨d4, hF⟩
        · replace hQ := ite_q hQ d4
          subst hF
          exact ((fh_X9_stepInside hb o7).trans rfl)
        · replace hQ := ite_r hQ d4
          subst hF
          exact ((pf_ne (by omega)).trans ((fh_X9_stepInside hb o7).trans rfl))
  · replace hQ := ite_r hQ d1
    have o12 := hQ.1
    replace hQ := hQ.2
    subst hF
    exact ((fh_X9_stepInside hb o12).trans rfl)
theorem fh_X9_endInnerVisit {b : Nat} {σ : gS}  (hb : 199 ≤ b) (hQ : Q_X9_endInnerVisit σ ) : (F_X9_endInnerVisit σ ).2 b = σ b := by
  generalize hF : F_X9_endInnerVisit σ  = fr
  rw [F_X9_endInnerVisit_eq] at hF
  unfold Fr_X9_endInnerVisit at hF
  unfold Q_X9_endInnerVisit at hQ
  rcases ite_or hF with ⟨d1, hF⟩ | ⟨d1, hF⟩
  · replace hQ := ite_q hQ d1
    have o2 := hQ.1
    replace hQ := hQ.2
    subst hF
    exact ((fh_X9_stepInside hb o2).trans rfl)
  · replace hQ := ite_r hQ d1
    subst hF
    exact rfl
theorem fh_X9_startArchive {b : Nat} {σ : gS}  (hb : 199 ≤ b) (hQ : Q_X9_startArchive σ ) : (F_X9_startArchive σ ).2 b = σ b := by
  generalize hF : F_X9_startArchive σ  = fr
  rw [F_X9_startArchive_eq] at hF
  unfold Fr_X9_startArchive at hF
  unfold Q_X9_startArchive at hQ
  have o1 := hQ.1
  replace hQ := hQ.2
  rcases ite_or hF with ⟨d1, hF⟩ | ⟨d1, hF⟩
  · replace hQ := ite_q hQ d1
    subst hF
    exact ((fh_X9_stepInside hb o1).trans rfl)
  · replace hQ := ite_r hQ d1
    have o9 := hQ.1
    replace hQ := hQ.2
    have o12 := hQ.1
    replace hQ := hQ.2
    subst hF
    exact ((fh_X3_copyOldest hb o12).trans ((fh_X0_addByte (by omega) (by omega) o9).trans ((pf_ne (by omega)).trans ((pf_ne (by omega)).trans ((pf_ne (by omega)).trans ((fh_X9_stepInside hb o1).trans rfl))))))
theorem fhJ_X9_askForDisk_17 {b : Nat}  (hb : 199 ≤ b) : ∀ (u0 : Int32) (σ : gS), QJ_X9_askForDisk_17  u0 σ → (J_X9_askForDisk_17  u0 σ).2 b = σ b := by
  intro u0 σ hQ
  generalize hF : J_X9_askForDisk_17  u0 σ = fr
  unfold J_X9_askForDisk_17 at hF
  unfold QJ_X9_askForDisk_17 at hQ
  rcases ite_or hF with ⟨d1, hF⟩ | ⟨d1, hF⟩
  · replace hQ := ite_q hQ d1
    subst hF
    exact ((pf_ne (by omega)).trans rfl)
  · replace hQ := ite_r hQ d1
    subst hF
    exact ((pf_ne (by omega)).trans rfl)
theorem fh_X9_askForDisk {b : Nat} {σ : gS}  (hb : 199 ≤ b) (hQ : Q_X9_askForDisk σ ) : (F_X9_askForDisk σ ).2 b = σ b := by
  generalize hF : F_X9_askForDisk σ  = fr
  rw [F_X9_askForDisk_eq] at hF
  unfold Fr_X9_askForDisk at hF
  unfold Q_X9_askForDisk at hQ
  rcases ite_or hF with ⟨d2, hF⟩ | ⟨d2, hF⟩
  · replace hQ := ite_q hQ d2
    subst hF
    exact (fhJ_X9_askForDisk_17 hb _ _ hQ).trans rfl
  · replace hQ := ite_r hQ d2
    subst hF
    exact (fhJ_X9_askForDisk_17 hb _ _ hQ).trans rfl
theorem fhG_X9_changeSettings_L35 {b : Nat}  (hb : 199 ≤ b) : ∀ (n : Nat) (y1 : Int32) (σ : gS), QG_X9_changeSettings_L35  n y1 σ → (G_X9_changeSettings_L35  n y1 σ).2 b = σ b := by
  intro n
  induction n with
  | zero => intro y1 σ hQ; exact absurd hQ (by unfold QG_X9_changeSettings_L35; exact id)
  | succ n ihL35 =>
    intro y1 σ hQ
    generalize hF : G_X9_changeSettings_L35  (n + 1) y1 σ = fr
    unfold G_X9_changeSettings_L35 at hF
    unfold QG_X9_changeSettings_L35 at hQ
    rcases ite_or hF with ⟨d1, hF⟩ | ⟨d1, hF⟩
    · replace hQ := ite_q hQ d1
      subst hF
      exact rfl
    · replace hQ := ite_r hQ d1
      have o9 := hQ.1
      replace hQ := hQ.2
      have o11 := hQ.1
      replace hQ := hQ.2
      subst hF
      exact (ihL35 _ _ hQ).trans ((pf_ne (by omega)).trans rfl)
theorem fh_X9_changeSettings {b : Nat} {σ : gS}  (hb : 199 ≤ b) (hQ : Q_X9_changeSettings σ ) : (F_X9_changeSettings σ ).2 b = σ b := by
  generalize hF : F_X9_changeSettings σ  = fr
  rw [F_X9_changeSettings_eq] at hF
  unfold Fr_X9_changeSettings at hF
  unfold Q_X9_changeSettings at hQ
  have o1 := hQ.1
  replace hQ := hQ.2
  rcases ite_or hF with ⟨d2, hF⟩ | ⟨d2, hF⟩
  · replace hQ := ite_q hQ d2
    have o13 := hQ.1
    replace hQ := hQ.2
    subst hF
    exact ((fh_X9_stepInside hb o13).trans rfl)
  · replace hQ := ite_r hQ d2
    have o4 := hQ.1
    replace hQ := hQ.2
    rcases ite_or hF with ⟨d3, hF⟩ | ⟨d3, hF⟩
    · replace hQ := ite_q hQ d3
      subst hF
      exact ((fh_X9_stepInside hb o4).trans rfl)
    · replace hQ := ite_r hQ d3
      subst hF
      exact (fhG_X9_changeSettings_L35 hb 4000 _ _ hQ).trans ((fh_X9_stepInside hb o4).trans rfl)
theorem fh_X9_writeOf {b : Nat} {σ : gS} {j : Nat} {p1 : Int32} {p2 : Int32} (hb : 199 ≤ b) (hQ : Q_X9_writeOf σ j p1 p2) : (F_X9_writeOf σ j p1 p2).2 b = σ b := by
  generalize hF : F_X9_writeOf σ j p1 p2 = fr
  rw [F_X9_writeOf_eq] at hF
  unfold Fr_X9_writeOf at hF
  unfold Q_X9_writeOf at hQ
  have o1 := hQ.1
  replace hQ := hQ.2
  have o4 := hQ.1
  replace hQ := hQ.2
  subst hF
  exact ((fh_X3_write hb o1).trans rfl)
theorem fh_X9_openLatch {b : Nat} {σ : gS}  (hb : 199 ≤ b)  : (F_X9_openLatch σ ) b = σ b := by
  generalize hF : F_X9_openLatch σ  = fr
  rw [F_X9_openLatch_eq] at hF
  unfold Fr_X9_openLatch at hF
  subst hF
  exact ((pf_ne (by omega)).trans ((pf_ne (by omega)).trans ((pf_ne (by omega)).trans ((pf_ne (by omega)).trans rfl))))
theorem fh_X9_unlock {b : Nat} {σ : gS}  (hb : 199 ≤ b) (hQ : Q_X9_unlock σ ) : (F_X9_unlock σ ).2 b = σ b := by
  generalize hF : F_X9_unlock σ  = fr
  rw [F_X9_unlock_eq] at hF
  unfold Fr_X9_unlock at hF
  unfold Q_X9_unlock at hQ
  have o1 := hQ.1
  replace hQ := hQ.2
  rcases ite_or hF with ⟨d1, hF⟩ | ⟨d1, hF⟩
  · replace hQ := ite_q hQ d1
    subst hF
    exact ((fh_X9_writeOf hb o1).trans rfl)
  · replace hQ := ite_r hQ d1
    have o5 := hQ.1
    replace hQ := hQ.2
    rcases ite_or hF with ⟨d2, hF⟩ | ⟨d2, hF⟩
    · replace hQ := ite_q hQ d2
      subst hF
      exact ((fh_X9_stepInside hb o5).trans ((fh_X9_writeOf hb o1).trans rfl))
    · replace hQ := ite_r hQ d2
      subst hF
      exact ((fh_X9_openLatch hb).trans ((fh_X9_stepInside hb o5).trans ((fh_X9_writeOf hb o1).trans rfl)))
theorem fhJ_X9_shutDown_44 {b : Nat}  (hb : 199 ≤ b) : ∀ (u0 : Int32) (σ : gS), QJ_X9_shutDown_44  u0 σ → (J_X9_shutDown_44  u0 σ).2 b = σ b := by
  intro u0 σ hQ
  generalize hF : J_X9_shutDown_44  u0 σ = fr
  unfold J_X9_shutDown_44 at hF
  unfold QJ_X9_shutDown_44 at hQ
  rcases ite_or hF with ⟨d1, hF⟩ | ⟨d1, hF⟩
  · replace hQ := ite_q hQ d1
    subst hF
    exact rfl
  · replace hQ := ite_r hQ d1
    have o4 := hQ.1
    replace hQ := hQ.2
    rcases ite_or hF with ⟨d2, hF⟩ | ⟨d2, hF⟩
    · replace hQ := ite_q hQ d2
      subst hF
      exact ((fh_X9_stepInside hb o4).trans rfl)
    · replace hQ := ite_r hQ d2
      subst hF
      exact ((pf_ne (by omega)).trans ((pf_ne (by omega)).trans ((pf_ne (by omega)).trans ((pf_ne (by omega)).trans ((pf_ne (by omega)).trans ((fh_X9_stepInside hb o4).trans rfl))))))
theorem fhJ_X9_shutDown_39 {b : Nat}  (hb : 199 ≤ b) : ∀ (σ : gS), QJ_X9_shutDown_39  σ → (J_X9_shutDown_39  σ).2 b = σ b := by
  intro σ hQ
  generalize hF : J_X9_shutDown_39  σ = fr
  unfold J_X9_shutDown_39 at hF
  unfold QJ_X9_shutDown_39 at hQ
  subst hF
  exact (fhJ_X9_shutDown_44 hb _ _ hQ).trans rfl
theorem fh_X9_shutDown {b : Nat} {σ : gS}  (hb : 199 ≤ b) (hQ : Q_X9_shutDown σ ) : (F_X9_shutDown σ ).2 b = σ b := by
  generalize hF : F_X9_shutDown σ  = fr
  rw [F_X9_shutDown_eq] at hF
  unfold Fr_X9_shutDown at hF
  unfold Q_X9_shutDown at hQ
  rcases ite_or hF with ⟨d3, hF⟩ | ⟨d3, hF⟩
  · replace hQ := ite_q hQ d3
    rcases ite_or hF with ⟨d4, hF⟩ | ⟨d4, hF⟩
    · replace hQ := ite_q hQ d4
      subst hF
      exact (fhJ_X9_shutDown_39 hb _ hQ).trans rfl
    · replace hQ := ite_r hQ d4
      have o13 := hQ.1
      replace hQ := hQ.2
      rcases ite_or hF with ⟨d5, hF⟩ | ⟨d5, hF⟩
      · replace hQ := ite_q hQ d5
        subst hF
        exact (fhJ_X9_shutDown_44 hb _ _ hQ).trans ((fh_X9_write hb o13).trans rfl)
      · replace hQ := ite_r hQ d5
        subst hF
        exact (fhJ_X9_shutDown_39 hb _ hQ).trans ((fh_X9_write hb o13).trans rfl)
  · replace hQ := ite_r hQ d3
    have o17 := hQ.1
    replace hQ := hQ.2
    subst hF
    exact ((fh_X9_stepInside hb o17).trans rfl)
theorem fh_X9_startRequest {b : Nat} {σ : gS}  (hb : 199 ≤ b) (hQ : Q_X9_startRequest σ ) : (F_X9_startRequest σ ).2 b = σ b := by
  generalize hF : F_X9_startRequest σ  = fr
  rw [F_X9_startRequest_eq] at hF
  unfold Fr_X9_startRequest at hF
  unfold Q_X9_startRequest at hQ
  rcases ite_or hF with ⟨d1, hF⟩ | ⟨d1, hF⟩
  · replace hQ := ite_q hQ d1
    rcases ite_or hF with ⟨d2, hF⟩ | ⟨d2, hF⟩
    · replace hQ := ite_q hQ d2
      have o3 := hQ.1
      replace hQ := hQ.2
      have o6 := hQ.1
      replace hQ := hQ.2
      subst hF
      exact ((fh_X9_askForDisk hb o3).trans rfl)
    · replace hQ := ite_r hQ d2
      have o7 := hQ.1
      replace hQ := hQ.2
      have o10 := hQ.1
      replace hQ := hQ.2
      subst hF
      exact ((fh_X9_startArchive hb o7).trans rfl)
  · replace hQ := ite_r hQ d1
    rcases ite_or hF with ⟨d3, hF⟩ | ⟨d3, hF⟩
    · replace hQ := ite_q hQ d3
      rcases ite_or hF with ⟨d4, hF⟩ | ⟨d4, hF⟩
      · replace hQ := ite_q hQ d4
        have o13 := hQ.1
        replace hQ := hQ.2
        have o16 := hQ.1
        replace hQ := hQ.2
        subst hF
        exact ((fh_X9_askForDisk hb o13).trans rfl)
      · replace hQ := ite_r hQ d4
        have o17 := hQ.1
        replace hQ := hQ.2
        have o20 := hQ.1
        replace hQ := hQ.2
        subst hF
        exact ((fh_X9_changeSettings hb o17).trans rfl)
    · replace hQ := ite_r hQ d3
      rcases ite_or hF with ⟨d5, hF⟩ | ⟨d5, hF⟩
      · replace hQ := ite_q hQ d5
        have o22 := hQ.1
        replace hQ := hQ.2
        have o25 := hQ.1
        replace hQ := hQ.2
        subst hF
        exact ((fh_X9_unlock hb o22).trans rfl)
      · replace hQ := ite_r hQ d5
        rcases ite_or hF with ⟨d6, hF⟩ | ⟨d6, hF⟩
        · replace hQ := ite_q hQ d6
          have o27 := hQ.1
          replace hQ := hQ.2
          have o30 := hQ.1
          replace hQ := hQ.2
          subst hF
          exact ((fh_X9_shutDown hb o27).trans rfl)
        · replace hQ := ite_r hQ d6
          subst hF
          exact rfl
theorem fh_X9_endArchive {b : Nat} {σ : gS}  (hb : 199 ≤ b) (hQ : Q_X9_endArchive σ ) : (F_X9_endArchive σ ).2 b = σ b := by
  generalize hF : F_X9_endArchive σ  = fr
  rw [F_X9_endArchive_eq] at hF
  unfold Fr_X9_endArchive at hF
  unfold Q_X9_endArchive at hQ
  have o1 := hQ.1
  replace hQ := hQ.2
  rcases ite_or hF with ⟨d1, hF⟩ | ⟨d1, hF⟩
  · replace hQ := ite_q hQ d1
    have o13 := hQ.1
    replace hQ := hQ.2
    subst hF
    exact ((fh_X9_stepInside hb o13).trans rfl)
  · replace hQ := ite_r hQ d1
    have o4 := hQ.1
    replace hQ := hQ.2
    rcases ite_or hF with ⟨d2, hF⟩ | ⟨d2, hF⟩
    · replace hQ := ite_q hQ d2
      subst hF
      exact ((fh_X9_stepInside hb o4).trans rfl)
    · replace hQ := ite_r hQ d2
      have o10 := hQ.1
      replace hQ := hQ.2
      subst hF
      exact ((fh_X3_clearOldest hb o10).trans ((fh_X9_stepInside hb o4).trans rfl))
theorem fh_X9_actInside {b : Nat} {σ : gS}  (hb : 199 ≤ b) (hQ : Q_X9_actInside σ ) : (F_X9_actInside σ ).2 b = σ b := by
  generalize hF : F_X9_actInside σ  = fr
  rw [F_X9_actInside_eq] at hF
  unfold Fr_X9_actInside at hF
  unfold Q_X9_actInside at hQ
  rcases ite_or hF with ⟨d1, hF⟩ | ⟨d1, hF⟩
  · replace hQ := ite_q hQ d1
    subst hF
    exact rfl
  · replace hQ := ite_r hQ d1
    rcases ite_or hF with ⟨d2, hF⟩ | ⟨d2, hF⟩
    · replace hQ := ite_q hQ d2
      rcases ite_or hF with ⟨d3, hF⟩ | ⟨d3, hF⟩
      · replace hQ := ite_q hQ d3
        subst hF
        exact rfl
      · replace hQ := ite_r hQ d3
        have o4 := hQ.1
        replace hQ := hQ.2
        rcases ite_or hF with ⟨d4, hF⟩ | ⟨d4, hF⟩
        · replace hQ := ite_q hQ d4
          subst hF
          exact ((fh_X9_enrol hb o4).trans rfl)
        · replace hQ := ite_r hQ d4
          subst hF
          exact ((fh_X9_enrol hb o4).trans rfl)
    · replace hQ := ite_r hQ d2
      rcases ite_or hF with ⟨d5, hF⟩ | ⟨d5, hF⟩
      · replace hQ := ite_q hQ d5
        rcases ite_or hF with ⟨d6, hF⟩ | ⟨d6, hF⟩
        · replace hQ := ite_q hQ d6
          rcases ite_or hF with ⟨d7, hF⟩ | ⟨d7, hF⟩
          · replace hQ := ite_q hQ d7
            subst hF
            exact ((fh_X9_awaitEnrolment hb).trans rfl)
          · replace hQ := ite_r hQ d7
            subst hF
            exact ((fh_X9_awaitEnrolment hb).trans rfl)
        · replace hQ := ite_r hQ d6
          subst hF
          exact rfl
      · replace hQ := ite_r hQ d5
        rcases ite_or hF with ⟨d8, hF⟩ | ⟨d8, hF⟩
        · replace hQ := ite_q hQ d8
          rcases ite_or hF with ⟨d9, hF⟩ | ⟨d9, hF⟩
          · replace hQ := ite_q hQ d9
            have o23 := hQ.1
            replace hQ := hQ.2
            have o26 := hQ.1
            replace hQ := hQ.2
            subst hF
            exact ((fh_X9_meetInnerCard hb o23).trans rfl)
          · replace hQ := ite_r hQ d9
            have o15 := hQ.1
            replace hQ := hQ.2
            rcases ite_or hF with ⟨d10, hF⟩ | ⟨d10, hF⟩
            · replace hQ := ite_q hQ d10
              have o19 := hQ.1
              replace hQ := hQ.2
              rcases ite_or hF with ⟨d11, hF⟩ | ⟨d11, hF⟩
              · replace hQ := ite_q hQ d11
                subst hF
                exact ((fh_X9_takeKey hb o19).trans ((fh_X9_roleEnds hb o15).trans rfl))
              · replace hQ := ite_r hQ d11
                subst hF
                exact ((fh_X9_takeKey hb o19).trans ((fh_X9_roleEnds hb o15).trans rfl))
            · replace hQ := ite_r hQ d10
              subst hF
              exact ((fh_X9_roleEnds hb o15).trans rfl)
        · replace hQ := ite_r hQ d8
          rcases ite_or hF with ⟨d12, hF⟩ | ⟨d12, hF⟩
          · replace hQ := ite_q hQ d12
            have o28 := hQ.1
            replace hQ := hQ.2
            have o31 := hQ.1
            replace hQ := hQ.2
            subst hF
            exact ((fh_X9_judgeInnerCard hb o28).trans rfl)
          · replace hQ := ite_r hQ d12
            rcases ite_or hF with ⟨d13, hF⟩ | ⟨d13, hF⟩
            · replace hQ := ite_q hQ d13
              have o33 := hQ.1
              replace hQ := hQ.2
              have o36 := hQ.1
              replace hQ := hQ.2
              subst hF
              exact ((fh_X9_endInnerVisit hb o33).trans rfl)
            · replace hQ := ite_r hQ d13
              rcases ite_or hF with ⟨d14, hF⟩ | ⟨d14, hF⟩
              · replace hQ := ite_q hQ d14
                have o38 := hQ.1
                replace hQ := hQ.2
                rcases ite_or hF with ⟨d15, hF⟩ | ⟨d15, hF⟩
                · replace hQ := ite_q hQ d15
                  have o42 := hQ.1
                  replace hQ := hQ.2
                  rcases ite_or hF with ⟨d16, hF⟩ | ⟨d16, hF⟩
                  · replace hQ := ite_q hQ d16
                    subst hF
                    exact ((fh_X9_startRequest hb o42).trans ((fh_X9_roleEnds hb o38).trans rfl))
                  · replace hQ := ite_r hQ d16
                    subst hF
                    exact ((fh_X9_startRequest hb o42).trans ((fh_X9_roleEnds hb o38).trans rfl))
                · replace hQ := ite_r hQ d15
                  subst hF
                  exact ((fh_X9_roleEnds hb o38).trans rfl)
              · replace hQ := ite_r hQ d14
                rcases ite_or hF with ⟨d17, hF⟩ | ⟨d17, hF⟩
                · replace hQ := ite_q hQ d17
                  have o47 := hQ.1
                  replace hQ := hQ.2
                  rcases ite_or hF with ⟨d18, hF⟩ | ⟨d18, hF⟩
                  · replace hQ := ite_q hQ d18
                    have o51 := hQ.1
                    replace hQ := hQ.2
                    rcases ite_or hF with ⟨d19, hF⟩ | ⟨d19, hF⟩
                    · replace hQ := ite_q hQ d19
                      subst hF
                      exact ((fh_X9_endArchive hb o51).trans ((fh_X9_roleEnds hb o47).trans rfl))
                    · replace hQ := ite_r hQ d19
                      subst hF
                      exact ((fh_X9_endArchive hb o51).trans ((fh_X9_roleEnds hb o47).trans rfl))
                  · replace hQ := ite_r hQ d18
                    subst hF
                    exact ((fh_X9_roleEnds hb o47).trans rfl)
                · replace hQ := ite_r hQ d17
                  subst hF
                  exact rfl
theorem fh_X9_stepOutside {b : Nat} {σ : gS} {p0 : Int32} {p1 : Int32} {p2 : Int32} {p3 : Int32} (hb : 199 ≤ b) (hQ : Q_X9_stepOutside σ p0 p1 p2 p3) : (F_X9_stepOutside σ p0 p1 p2 p3).2 b = σ b := by
  generalize hF : F_X9_stepOutside σ p0 p1 p2 p3 = fr
  rw [F_X9_stepOutside_eq] at hF
  unfold Fr_X9_stepOutside at hF
  unfold Q_X9_stepOutside at hQ
  have o1 := hQ.1
  replace hQ := hQ.2
  rcases ite_or hF with ⟨d1, hF⟩ | ⟨d1, hF⟩
  · replace hQ := ite_q hQ d1
    subst hF
    exact ((fh_X3_write hb o1).trans rfl)
  · replace hQ := ite_r hQ d1
    subst hF
    exact ((pf_ne (by omega)).trans ((pf_ne (by omega)).trans ((fh_X3_write hb o1).trans rfl)))
theorem fh_X9_meetOuterCard {b : Nat} {σ : gS}  (hb : 199 ≤ b) (hQ : Q_X9_meetOuterCard σ ) : (F_X9_meetOuterCard σ ).2 b = σ b := by
  generalize hF : F_X9_meetOuterCard σ  = fr
  rw [F_X9_meetOuterCard_eq] at hF
  unfold Fr_X9_meetOuterCard at hF
  unfold Q_X9_meetOuterCard at hQ
  rcases ite_or hF with ⟨d1, hF⟩ | ⟨d1, hF⟩
  · replace hQ := ite_q hQ d1
    subst hF
    exact rfl
  · replace hQ := ite_r hQ d1
    have o2 := hQ.1
    replace hQ := hQ.2
    rcases ite_or hF with ⟨d2, hF⟩ | ⟨d2, hF⟩
    · replace hQ := ite_q hQ d2
      subst hF
      exact ((fh_X9_stepOutside hb o2).trans rfl)
    · replace hQ := ite_r hQ d2
      subst hF
      exact ((pf_ne (by omega)).trans ((fh_X9_stepOutside hb o2).trans rfl))
theorem fh_X9_judgeOuterCard {b : Nat} {σ : gS}  (hb : 199 ≤ b) (hQ : Q_X9_judgeOuterCard σ ) : (F_X9_judgeOuterCard σ ).2 b = σ b := by
  generalize hF : F_X9_judgeOuterCard σ  = fr
  rw [F_X9_judgeOuterCard_eq] at hF
  unfold Fr_X9_judgeOuterCard at hF
  unfold Q_X9_judgeOuterCard at hQ
  rcases ite_or hF with ⟨d1, hF⟩ | ⟨d1, hF⟩
  · replace hQ := ite_q hQ d1
    rcases ite_or hF with ⟨d2, hF⟩ | ⟨d2, hF⟩
    · replace hQ := ite_q hQ d2
      have o8 := hQ.1
      replace hQ := hQ.2
      subst hF
      exact ((fh_X9_stepOutside hb o8).trans rfl)
    · replace hQ := ite_r hQ d2
      have o3 := hQ.1
      replace hQ := hQ.2
      rcases ite_or hF with ⟨d3, hF⟩ | ⟨d3, hF⟩
      · replace hQ := ite_q hQ d3
        subst hF
        exact ((fh_X9_stepOutside hb o3).trans rfl)
      · replace hQ := ite_r hQ d3
        subst hF
        exact ((pf_ne (by omega)).trans ((fh_X9_stepOutside hb o3).trans rfl))
  · replace hQ := ite_r hQ d1
    have o11 := hQ.1
    replace hQ := hQ.2
    subst hF
    exact ((fh_X9_stepOutside hb o11).trans rfl)
theorem fh_X9_loseOuterCard {b : Nat} {σ : gS}  (hb : 199 ≤ b) (hQ : Q_X9_loseOuterCard σ ) : (F_X9_loseOuterCard σ ).2 b = σ b := by
  generalize hF : F_X9_loseOuterCard σ  = fr
  rw [F_X9_loseOuterCard_eq] at hF
  unfold Fr_X9_loseOuterCard at hF
  unfold Q_X9_loseOuterCard at hQ
  have o1 := hQ.1
  replace hQ := hQ.2
  subst hF
  exact ((fh_X9_stepOutside hb o1).trans rfl)
theorem fh_X9_waitForFinger {b : Nat} {σ : gS}  (hb : 199 ≤ b) (hQ : Q_X9_waitForFinger σ ) : (F_X9_waitForFinger σ ).2 b = σ b := by
  generalize hF : F_X9_waitForFinger σ  = fr
  rw [F_X9_waitForFinger_eq] at hF
  unfold Fr_X9_waitForFinger at hF
  unfold Q_X9_waitForFinger at hQ
  rcases ite_or hF with ⟨d1, hF⟩ | ⟨d1, hF⟩
  · replace hQ := ite_q hQ d1
    rcases ite_or hF with ⟨d2, hF⟩ | ⟨d2, hF⟩
    · replace hQ := ite_q hQ d2
      have o3 := hQ.1
      replace hQ := hQ.2
      subst hF
      exact ((fh_X9_stepOutside hb o3).trans rfl)
    · replace hQ := ite_r hQ d2
      subst hF
      exact rfl
  · replace hQ := ite_r hQ d1
    have o6 := hQ.1
    replace hQ := hQ.2
    rcases ite_or hF with ⟨d3, hF⟩ | ⟨d3, hF⟩
    · replace hQ := ite_q hQ d3
      subst hF
      exact ((fh_X9_stepOutside hb o6).trans rfl)
    · replace hQ := ite_r hQ d3
      subst hF
      exact ((pf_ne (by omega)).trans ((fh_X9_stepOutside hb o6).trans rfl))
theorem fh_X9_judgeFinger {b : Nat} {σ : gS}  (hb : 199 ≤ b) (hQ : Q_X9_judgeFinger σ ) : (F_X9_judgeFinger σ ).2 b = σ b := by
  generalize hF : F_X9_judgeFinger σ  = fr
  rw [F_X9_judgeFinger_eq] at hF
  unfold Fr_X9_judgeFinger at hF
  unfold Q_X9_judgeFinger at hQ
  rcases ite_or hF with ⟨d1, hF⟩ | ⟨d1, hF⟩
  · replace hQ := ite_q hQ d1
    have o2 := hQ.1
    replace hQ := hQ.2
    subst hF
    exact ((fh_X9_stepOutside hb o2).trans rfl)
  · replace hQ := ite_r hQ d1
    rcases ite_or hF with ⟨d2, hF⟩ | ⟨d2, hF⟩
    · replace hQ := ite_q hQ d2
      have o7 := hQ.1
      replace hQ := hQ.2
      subst hF
      exact ((fh_X9_stepOutside hb o7).trans rfl)
    · replace hQ := ite_r hQ d2
      have o10 := hQ.1
      replace hQ := hQ.2
      subst hF
      exact ((fh_X9_stepOutside hb o10).trans rfl)
theorem fh_X9_makePassOn {b : Nat} {σ : gS} {c : Nat}  (hb : 199 ≤ b) (hc : c < 16) (hQ : Q_X9_makePassOn σ c ) : (F_X9_makePassOn σ c ) b = σ b := by
  generalize hF : F_X9_makePassOn σ c  = fr
  rw [F_X9_makePassOn_eq] at hF
  unfold Fr_X9_makePassOn at hF
  unfold Q_X9_makePassOn at hQ
  have o1 := hQ.1
  replace hQ := hQ.2
  have o4 := hQ.1
  replace hQ := hQ.2
  have o8 := hQ.1
  replace hQ := hQ.2
  have o11 := hQ.1
  replace hQ := hQ.2
  have o14 := hQ.1
  replace hQ := hQ.2
  have o16 := hQ.1
  replace hQ := hQ.2
  have o19 := hQ.1
  replace hQ := hQ.2
  have o21 := hQ.1
  replace hQ := hQ.2
  have o24 := hQ.1
  replace hQ := hQ.2
  have o27 := hQ.1
  replace hQ := hQ.2
  have o30 := hQ.1
  replace hQ := hQ.2
  have o32 := hQ.1
  replace hQ := hQ.2
  have o35 := hQ.1
  replace hQ := hQ.2
  have o37 := hQ.1
  replace hQ := hQ.2
  have o40 := hQ.1
  replace hQ := hQ.2
  have o43 := hQ.1
  replace hQ := hQ.2
  have o46 := hQ.1
  replace hQ := hQ.2
  subst hF
  exact ((pf_ne (by omega)).trans ((fh_X7_addSealTo hb (by have h8 := hc; have h9 := (vin_lt (vinc (by decide) : vp_in (3 : Int32) 4)); omega) (by have h8 := hc; have h9 := (vin_lt (vinc (by decide) : vp_in (3 : Int32) 4)); omega) o46).trans ((fh_X7_work hb o43).trans ((fh_X4_choose hb o40).trans ((fh_X0_addByte (by have h8 := hc; have h9 := (vin_lt (vinc (by decide) : vp_in (3 : Int32) 4)); omega) (by have h8 := hc; have h9 := (vin_lt (vinc (by decide) : vp_in (3 : Int32) 4)); omega) o37).trans ((fh_X0_addByte (by have h8 := hc; have h9 := (vin_lt (vinc (by decide) : vp_in (3 : Int32) 4)); omega) (by have h8 := hc; have h9 := (vin_lt (vinc (by decide) : vp_in (3 : Int32) 4)); omega) o32).trans ((fh_X0_addFour (by have h8 := hc; have h9 := (vin_lt (vinc (by decide) : vp_in (3 : Int32) 4)); omega) (by have h8 := hc; have h9 := (vin_lt (vinc (by decide) : vp_in (3 : Int32) 4)); omega) o27).trans ((fh_X0_addFour (by have h8 := hc; have h9 := (vin_lt (vinc (by decide) : vp_in (3 : Int32) 4)); omega) (by have h8 := hc; have h9 := (vin_lt (vinc (by decide) : vp_in (3 : Int32) 4)); omega) o24).trans ((fh_X0_addFour (by have h8 := hc; have h9 := (vin_lt (vinc (by decide) : vp_in (3 : Int32) 4)); omega) (by have h8 := hc; have h9 := (vin_lt (vinc (by decide) : vp_in (3 : Int32) 4)); omega) o21).trans ((fh_X0_addTwo (by have h8 := hc; have h9 := (vin_lt (vinc (by decide) : vp_in (3 : Int32) 4)); omega) (by have h8 := hc; have h9 := (vin_lt (vinc (by decide) : vp_in (3 : Int32) 4)); omega) o16).trans ((fh_X0_addFour (by have h8 := hc; have h9 := (vin_lt (vinc (by decide) : vp_in (3 : Int32) 4)); omega) (by have h8 := hc; have h9 := (vin_lt (vinc (by decide) : vp_in (3 : Int32) 4)); omega) o11).trans ((fh_X0_addTwo (by have h8 := hc; have h9 := (vin_lt (vinc (by decide) : vp_in (3 : Int32) 4)); omega) (by have h8 := hc; have h9 := (vin_lt (vinc (by decide) : vp_in (3 : Int32) 4)); omega) o8).trans ((fh_X0_addByte (by have h8 := hc; have h9 := (vin_lt (vinc (by decide) : vp_in (3 : Int32) 4)); omega) (by have h8 := hc; have h9 := (vin_lt (vinc (by decide) : vp_in (3 : Int32) 4)); omega) o4).trans ((fh_X1_emptyRow hb hc o1).trans rfl))))))))))))))
theorem fhJ_X9_writePass_26 {b : Nat}  (hb : 199 ≤ b) : ∀ (σ : gS), QJ_X9_writePass_26  σ → (J_X9_writePass_26  σ).2 b = σ b := by
  intro σ hQ
  generalize hF : J_X9_writePass_26  σ = fr
  unfold J_X9_writePass_26 at hF
  unfold QJ_X9_writePass_26 at hQ
  have o2 := hQ.1
  replace hQ := hQ.2
  subst hF
  exact ((fh_X9_stepOutside hb o2).trans rfl)
theorem fh_X9_writePass {b : Nat} {σ : gS}  (hb : 199 ≤ b) (hQ : Q_X9_writePass σ ) : (F_X9_writePass σ ).2 b = σ b := by
  generalize hF : F_X9_writePass σ  = fr
  rw [F_X9_writePass_eq] at hF
  unfold Fr_X9_writePass at hF
  unfold Q_X9_writePass at hQ
  rcases ite_or hF with ⟨d1, hF⟩ | ⟨d1, hF⟩
  · replace hQ := ite_q hQ d1
    subst hF
    exact (fhJ_X9_writePass_26 hb _ hQ).trans rfl
  · replace hQ := ite_r hQ d1
    rcases ite_or hF with ⟨d2, hF⟩ | ⟨d2, hF⟩
    · replace hQ := ite_q hQ d2
      subst hF
      exact (fhJ_X9_writePass_26 hb _ hQ).trans rfl
    · replace hQ := ite_r hQ d2
      have o7 := hQ.1
      replace hQ := hQ.2
      rcases ite_or hF with ⟨d3, hF⟩ | ⟨d3, hF⟩
      · replace hQ := ite_q hQ d3
        have o17 := hQ.1
        replace hQ := hQ.2
        subst hF
        exact ((fh_X9_stepOutside hb o17).trans rfl)
      · replace hQ := ite_r hQ d3
        have o9 := hQ.1
        replace hQ := hQ.2
        rcases ite_or hF with ⟨d4, hF⟩ | ⟨d4, hF⟩
        · replace hQ := ite_q hQ d4
          subst hF
          exact ((fh_X9_stepOutside hb o9).trans rfl)
        · replace hQ := ite_r hQ d4
          have o13 := hQ.1
          replace hQ := hQ.2
          have o14 := hQ.1
          replace hQ := hQ.2
          subst hF
          exact ((fh_X9_makePassOn hb (vin_lt o13) o14).trans ((fh_X9_stepOutside hb o9).trans rfl))
theorem fh_X9_judgeEntry {b : Nat} {σ : gS}  (hb : 199 ≤ b) (hQ : Q_X9_judgeEntry σ ) : (F_X9_judgeEntry σ ).2 b = σ b := by
  generalize hF : F_X9_judgeEntry σ  = fr
  rw [F_X9_judgeEntry_eq] at hF
  unfold Fr_X9_judgeEntry at hF
  unfold Q_X9_judgeEntry at hQ
  rcases ite_or hF with ⟨d1, hF⟩ | ⟨d1, hF⟩
  · replace hQ := ite_q hQ d1
    have o3 := hQ.1
    replace hQ := hQ.2
    subst hF
    exact ((fh_X9_stepOutside hb o3).trans rfl)
  · replace hQ := ite_r hQ d1
    have o6 := hQ.1
    replace hQ := hQ.2
    rcases ite_or hF with ⟨d2, hF⟩ | ⟨d2, hF⟩
    · replace hQ := ite_q hQ d2
      have o9 := hQ.1
      replace hQ := hQ.2
      subst hF
      exact ((fh_X9_stepOutside hb o9).trans rfl)
    · replace hQ := ite_r hQ d2
      have o12 := hQ.1
      replace hQ := hQ.2
      rcases ite_or hF with ⟨d3, hF⟩ | ⟨d3, hF⟩
      · replace hQ := ite_q hQ d3
        subst hF
        exact ((fh_X9_stepOutside hb o12).trans rfl)
      · replace hQ := ite_r hQ d3
        subst hF
        exact ((pf_ne (by omega)).trans ((fh_X9_stepOutside hb o12).trans rfl))
theorem fh_X9_waitForRemoval {b : Nat} {σ : gS}  (hb : 199 ≤ b) (hQ : Q_X9_waitForRemoval σ ) : (F_X9_waitForRemoval σ ).2 b = σ b := by
  generalize hF : F_X9_waitForRemoval σ  = fr
  rw [F_X9_waitForRemoval_eq] at hF
  unfold Fr_X9_waitForRemoval at hF
  unfold Q_X9_waitForRemoval at hQ
  rcases ite_or hF with ⟨d1, hF⟩ | ⟨d1, hF⟩
  · replace hQ := ite_q hQ d1
    have o6 := hQ.1
    replace hQ := hQ.2
    rcases ite_or hF with ⟨d2, hF⟩ | ⟨d2, hF⟩
    · replace hQ := ite_q hQ d2
      subst hF
      exact ((fh_X9_writeOf hb o6).trans rfl)
    · replace hQ := ite_r hQ d2
      have o10 := hQ.1
      replace hQ := hQ.2
      rcases ite_or hF with ⟨d3, hF⟩ | ⟨d3, hF⟩
      · replace hQ := ite_q hQ d3
        subst hF
        exact ((fh_X9_stepOutside hb o10).trans ((fh_X9_writeOf hb o6).trans rfl))
      · replace hQ := ite_r hQ d3
        subst hF
        exact ((fh_X9_openLatch hb).trans ((fh_X9_stepOutside hb o10).trans ((fh_X9_writeOf hb o6).trans rfl)))
  · replace hQ := ite_r hQ d1
    rcases ite_or hF with ⟨d4, hF⟩ | ⟨d4, hF⟩
    · replace hQ := ite_q hQ d4
      have o3 := hQ.1
      replace hQ := hQ.2
      subst hF
      exact ((fh_X9_stepOutside hb o3).trans rfl)
    · replace hQ := ite_r hQ d4
      subst hF
      exact rfl
theorem fh_X9_endIllVisit {b : Nat} {σ : gS}  (hb : 199 ≤ b) (hQ : Q_X9_endIllVisit σ ) : (F_X9_endIllVisit σ ).2 b = σ b := by
  generalize hF : F_X9_endIllVisit σ  = fr
  rw [F_X9_endIllVisit_eq] at hF
  unfold Fr_X9_endIllVisit at hF
  unfold Q_X9_endIllVisit at hQ
  rcases ite_or hF with ⟨d1, hF⟩ | ⟨d1, hF⟩
  · replace hQ := ite_q hQ d1
    have o2 := hQ.1
    replace hQ := hQ.2
    subst hF
    exact ((fh_X9_stepOutside hb o2).trans rfl)
  · replace hQ := ite_r hQ d1
    subst hF
    exact rfl
theorem fhJ_X9_actOutside_41 {b : Nat}  (hb : 199 ≤ b) : ∀ (u0 : Int32) (σ : gS), QJ_X9_actOutside_41  u0 σ → (J_X9_actOutside_41  u0 σ).2 b = σ b := by
  intro u0 σ hQ
  generalize hF : J_X9_actOutside_41  u0 σ = fr
  unfold J_X9_actOutside_41 at hF
  unfold QJ_X9_actOutside_41 at hQ
  rcases ite_or hF with ⟨d1, hF⟩ | ⟨d1, hF⟩
  · replace hQ := ite_q hQ d1
    have o6 := hQ.1
    replace hQ := hQ.2
    have o9 := hQ.1
    replace hQ := hQ.2
    subst hF
    exact ((fh_X9_meetOuterCard hb o6).trans rfl)
  · replace hQ := ite_r hQ d1
    rcases ite_or hF with ⟨d2, hF⟩ | ⟨d2, hF⟩
    · replace hQ := ite_q hQ d2
      rcases ite_or hF with ⟨d3, hF⟩ | ⟨d3, hF⟩
      · replace hQ := ite_q hQ d3
        have o12 := hQ.1
        replace hQ := hQ.2
        have o15 := hQ.1
        replace hQ := hQ.2
        subst hF
        exact ((fh_X9_loseOuterCard hb o12).trans rfl)
      · replace hQ := ite_r hQ d3
        have o16 := hQ.1
        replace hQ := hQ.2
        have o19 := hQ.1
        replace hQ := hQ.2
        subst hF
        exact ((fh_X9_judgeOuterCard hb o16).trans rfl)
    · replace hQ := ite_r hQ d2
      rcases ite_or hF with ⟨d4, hF⟩ | ⟨d4, hF⟩
      · replace hQ := ite_q hQ d4
        rcases ite_or hF with ⟨d5, hF⟩ | ⟨d5, hF⟩
        · replace hQ := ite_q hQ d5
          have o22 := hQ.1
          replace hQ := hQ.2
          have o25 := hQ.1
          replace hQ := hQ.2
          subst hF
          exact ((fh_X9_loseOuterCard hb o22).trans rfl)
        · replace hQ := ite_r hQ d5
          have o26 := hQ.1
          replace hQ := hQ.2
          have o29 := hQ.1
          replace hQ := hQ.2
          subst hF
          exact ((fh_X9_waitForFinger hb o26).trans rfl)
      · replace hQ := ite_r hQ d4
        rcases ite_or hF with ⟨d6, hF⟩ | ⟨d6, hF⟩
        · replace hQ := ite_q hQ d6
          rcases ite_or hF with ⟨d7, hF⟩ | ⟨d7, hF⟩
          · replace hQ := ite_q hQ d7
            have o32 := hQ.1
            replace hQ := hQ.2
            have o35 := hQ.1
            replace hQ := hQ.2
            subst hF
            exact ((fh_X9_loseOuterCard hb o32).trans rfl)
          · replace hQ := ite_r hQ d7
            have o36 := hQ.1
            replace hQ := hQ.2
            have o39 := hQ.1
            replace hQ := hQ.2
            subst hF
            exact ((fh_X9_judgeFinger hb o36).trans rfl)
        · replace hQ := ite_r hQ d6
          rcases ite_or hF with ⟨d8, hF⟩ | ⟨d8, hF⟩
          · replace hQ := ite_q hQ d8
            rcases ite_or hF with ⟨d9, hF⟩ | ⟨d9, hF⟩
            · replace hQ := ite_q hQ d9
              have o42 := hQ.1
              replace hQ := hQ.2
              have o45 := hQ.1
              replace hQ := hQ.2
              subst hF
              exact ((fh_X9_loseOuterCard hb o42).trans rfl)
            · replace hQ := ite_r hQ d9
              have o46 := hQ.1
              replace hQ := hQ.2
              have o49 := hQ.1
              replace hQ := hQ.2
              subst hF
              exact ((fh_X9_writePass hb o46).trans rfl)
          · replace hQ := ite_r hQ d8
            rcases ite_or hF with ⟨d10, hF⟩ | ⟨d10, hF⟩
            · replace hQ := ite_q hQ d10
              rcases ite_or hF with ⟨d11, hF⟩ | ⟨d11, hF⟩
              · replace hQ := ite_q hQ d11
                have o52 := hQ.1
                replace hQ := hQ.2
                have o55 := hQ.1
                replace hQ := hQ.2
                subst hF
                exact ((fh_X9_loseOuterCard hb o52).trans rfl)
              · replace hQ := ite_r hQ d11
                have o56 := hQ.1
                replace hQ := hQ.2
                have o59 := hQ.1
                replace hQ := hQ.2
                subst hF
                exact ((fh_X9_judgeEntry hb o56).trans rfl)
            · replace hQ := ite_r hQ d10
              rcases ite_or hF with ⟨d12, hF⟩ | ⟨d12, hF⟩
              · replace hQ := ite_q hQ d12
                have o61 := hQ.1
                replace hQ := hQ.2
                have o64 := hQ.1
                replace hQ := hQ.2
                subst hF
                exact ((fh_X9_waitForRemoval hb o61).trans rfl)
              · replace hQ := ite_r hQ d12
                rcases ite_or hF with ⟨d13, hF⟩ | ⟨d13, hF⟩
                · replace hQ := ite_q hQ d13
                  have o66 := hQ.1
                  replace hQ := hQ.2
                  have o69 := hQ.1
                  replace hQ := hQ.2
                  subst hF
                  exact ((fh_X9_endIllVisit hb o66).trans rfl)
                · replace hQ := ite_r hQ d13
                  subst hF
                  exact rfl
theorem fh_X9_actOutside {b : Nat} {σ : gS}  (hb : 199 ≤ b) (hQ : Q_X9_actOutside σ ) : (F_X9_actOutside σ ).2 b = σ b := by
  generalize hF : F_X9_actOutside σ  = fr
  rw [F_X9_actOutside_eq] at hF
  unfold Fr_X9_actOutside at hF
  unfold Q_X9_actOutside at hQ
  rcases ite_or hF with ⟨d14, hF⟩ | ⟨d14, hF⟩
  · replace hQ := ite_q hQ d14
    subst hF
    exact rfl
  · replace hQ := ite_r hQ d14
    rcases ite_or hF with ⟨d15, hF⟩ | ⟨d15, hF⟩
    · replace hQ := ite_q hQ d15
      subst hF
      exact rfl
    · replace hQ := ite_r hQ d15
      rcases ite_or hF with ⟨d16, hF⟩ | ⟨d16, hF⟩
      · replace hQ := ite_q hQ d16
        subst hF
        exact (fhJ_X9_actOutside_41 hb _ _ hQ).trans rfl
      · replace hQ := ite_r hQ d16
        subst hF
        exact (fhJ_X9_actOutside_41 hb _ _ hQ).trans rfl
theorem fhJ_X9_card_31 {b : Nat} {p0 : Int32} {p1 : Int32} (hb : 199 ≤ b) : ∀ (u0 : Int32) (σ : gS), QJ_X9_card_31 p0 p1 u0 σ → (J_X9_card_31 p0 p1 u0 σ).2 b = σ b := by
  intro u0 σ hQ
  generalize hF : J_X9_card_31 p0 p1 u0 σ = fr
  unfold J_X9_card_31 at hF
  unfold QJ_X9_card_31 at hQ
  rcases ite_or hF with ⟨d1, hF⟩ | ⟨d1, hF⟩
  · replace hQ := ite_q hQ d1
    have o5 := hQ.1
    replace hQ := hQ.2
    subst hF
    exact ((pf_ne (by omega)).trans rfl)
  · replace hQ := ite_r hQ d1
    have o6 := hQ.1
    replace hQ := hQ.2
    have o7 := hQ.1
    replace hQ := hQ.2
    have o11 := hQ.1
    replace hQ := hQ.2
    subst hF
    exact ((pf_ne (by omega)).trans ((fh_X1_replaceRow hb (vin_lt o6) o7).trans rfl))
theorem fhJ_X9_card_30 {b : Nat} {p0 : Int32} {p1 : Int32} (hb : 199 ≤ b) : ∀ (σ : gS), QJ_X9_card_30 p0 p1 σ → (J_X9_card_30 p0 p1 σ).2 b = σ b := by
  intro σ hQ
  generalize hF : J_X9_card_30 p0 p1 σ = fr
  unfold J_X9_card_30 at hF
  unfold QJ_X9_card_30 at hQ
  subst hF
  exact (fhJ_X9_card_31 hb _ _ hQ).trans rfl
theorem fh_X9_card {b : Nat} {σ : gS} {p0 : Int32} {p1 : Int32} (hb : 199 ≤ b) (hQ : Q_X9_card σ p0 p1) : (F_X9_card σ p0 p1).2 b = σ b := by
  generalize hF : F_X9_card σ p0 p1 = fr
  rw [F_X9_card_eq] at hF
  unfold Fr_X9_card at hF
  unfold Q_X9_card at hQ
  rcases ite_or hF with ⟨d2, hF⟩ | ⟨d2, hF⟩
  · replace hQ := ite_q hQ d2
    subst hF
    exact (fhJ_X9_card_30 hb _ hQ).trans rfl
  · replace hQ := ite_r hQ d2
    rcases ite_or hF with ⟨d3, hF⟩ | ⟨d3, hF⟩
    · replace hQ := ite_q hQ d3
      subst hF
      exact (fhJ_X9_card_30 hb _ hQ).trans rfl
    · replace hQ := ite_r hQ d3
      rcases ite_or hF with ⟨d4, hF⟩ | ⟨d4, hF⟩
      · replace hQ := ite_q hQ d4
        subst hF
        exact (fhJ_X9_card_30 hb _ hQ).trans rfl
      · replace hQ := ite_r hQ d4
        subst hF
        exact (fhJ_X9_card_31 hb _ _ hQ).trans rfl
theorem fh_X9_cut {b : Nat} {σ : gS} {p0 : Int32} (hb : 199 ≤ b)  : (F_X9_cut σ p0).2 b = σ b := by
  generalize hF : F_X9_cut σ p0 = fr
  rw [F_X9_cut_eq] at hF
  unfold Fr_X9_cut at hF
  rcases ite_or hF with ⟨d1, hF⟩ | ⟨d1, hF⟩
  · skip
    subst hF
    exact rfl
  · skip
    rcases ite_or hF with ⟨d2, hF⟩ | ⟨d2, hF⟩
    · skip
      subst hF
      exact ((pf_ne (by omega)).trans rfl)
    · skip
      subst hF
      exact rfl
theorem fh_X9_cutAt {b : Nat} {σ : gS} {p0 : Int32} (hb : 199 ≤ b)  : (F_X9_cutAt σ p0).2 b = σ b := by
  generalize hF : F_X9_cutAt σ p0 = fr
  rw [F_X9_cutAt_eq] at hF
  unfold Fr_X9_cutAt at hF
  rcases ite_or hF with ⟨d1, hF⟩ | ⟨d1, hF⟩
  · skip
    subst hF
    exact rfl
  · skip
    rcases ite_or hF with ⟨d2, hF⟩ | ⟨d2, hF⟩
    · skip
      subst hF
      exact ((pf_ne (by omega)).trans rfl)
    · skip
      subst hF
      exact rfl
theorem fh_X9_disk {b : Nat} {σ : gS}  (hb : 199 ≤ b) (hQ : Q_X9_disk σ ) : (F_X9_disk σ ).2 b = σ b := by
  generalize hF : F_X9_disk σ  = fr
  rw [F_X9_disk_eq] at hF
  unfold Fr_X9_disk at hF
  unfold Q_X9_disk at hQ
  have o1 := hQ.1
  replace hQ := hQ.2
  subst hF
  exact ((pf_ne (by omega)).trans ((pf_ne (by omega)).trans ((fh_X0_copyFrom (by omega) (by omega) o1).trans rfl)))
theorem fh_X9_door {b : Nat} {σ : gS} {p0 : Int32} (hb : 199 ≤ b) (hQ : Q_X9_door σ p0) : (F_X9_door σ p0) b = σ b := by
  generalize hF : F_X9_door σ p0 = fr
  rw [F_X9_door_eq] at hF
  unfold Fr_X9_door at hF
  unfold Q_X9_door at hQ
  have o1 := hQ.1
  replace hQ := hQ.2
  subst hF
  exact ((pf_ne (by omega)).trans rfl)
theorem fh_X9_feed {b : Nat} {σ : gS} {p0 : Int32} {p1 : Int32} {p2 : Int32} {p3 : Int32} {p4 : Int32} (hb : 199 ≤ b) (hQ : Q_X9_feed σ p0 p1 p2 p3 p4) : (F_X9_feed σ p0 p1 p2 p3 p4).2 b = σ b := by
  generalize hF : F_X9_feed σ p0 p1 p2 p3 p4 = fr
  rw [F_X9_feed_eq] at hF
  unfold Fr_X9_feed at hF
  unfold Q_X9_feed at hQ
  rcases ite_or hF with ⟨d1, hF⟩ | ⟨d1, hF⟩
  · replace hQ := ite_q hQ d1
    subst hF
    exact rfl
  · replace hQ := ite_r hQ d1
    have o3 := hQ.1
    replace hQ := hQ.2
    have o6 := hQ.1
    replace hQ := hQ.2
    have o9 := hQ.1
    replace hQ := hQ.2
    have o12 := hQ.1
    replace hQ := hQ.2
    have o15 := hQ.1
    replace hQ := hQ.2
    subst hF
    exact ((fh_X0_addFour (by omega) (by omega) o15).trans ((fh_X0_addFour (by omega) (by omega) o12).trans ((fh_X0_addFour (by omega) (by omega) o9).trans ((fh_X0_addFour (by omega) (by omega) o6).trans ((fh_X0_addFour (by omega) (by omega) o3).trans rfl)))))
theorem fh_X9_finger {b : Nat} {σ : gS} {p0 : Int32} (hb : 199 ≤ b)  : (F_X9_finger σ p0).2 b = σ b := by
  generalize hF : F_X9_finger σ p0 = fr
  rw [F_X9_finger_eq] at hF
  unfold Fr_X9_finger at hF
  rcases ite_or hF with ⟨d1, hF⟩ | ⟨d1, hF⟩
  · skip
    subst hF
    exact rfl
  · skip
    rcases ite_or hF with ⟨d2, hF⟩ | ⟨d2, hF⟩
    · skip
      subst hF
      exact ((pf_ne (by omega)).trans rfl)
    · skip
      subst hF
      exact rfl
theorem fh_X9_key {b : Nat} {σ : gS} {p0 : Int32} (hb : 199 ≤ b)  : (F_X9_key σ p0).2 b = σ b := by
  generalize hF : F_X9_key σ p0 = fr
  rw [F_X9_key_eq] at hF
  unfold Fr_X9_key at hF
  rcases ite_or hF with ⟨d1, hF⟩ | ⟨d1, hF⟩
  · skip
    subst hF
    exact rfl
  · skip
    rcases ite_or hF with ⟨d2, hF⟩ | ⟨d2, hF⟩
    · skip
      subst hF
      exact ((pf_ne (by omega)).trans rfl)
    · skip
      subst hF
      exact rfl
theorem fh_X9_noDisk {b : Nat} {σ : gS}  (hb : 199 ≤ b) (hQ : Q_X9_noDisk σ ) : (F_X9_noDisk σ ).2 b = σ b := by
  generalize hF : F_X9_noDisk σ  = fr
  rw [F_X9_noDisk_eq] at hF
  unfold Fr_X9_noDisk at hF
  unfold Q_X9_noDisk at hQ
  have o3 := hQ.1
  replace hQ := hQ.2
  subst hF
  exact ((pf_ne (by omega)).trans ((pf_ne (by omega)).trans rfl))
theorem fhJ_X9_readCards_111 {b : Nat}  (hb : 199 ≤ b) : ∀ (u0 : Int32) (σ : gS), QJ_X9_readCards_111  u0 σ → (J_X9_readCards_111  u0 σ) b = σ b := by
  intro u0 σ hQ
  generalize hF : J_X9_readCards_111  u0 σ = fr
  unfold J_X9_readCards_111 at hF
  unfold QJ_X9_readCards_111 at hQ
  rcases ite_or hF with ⟨d1, hF⟩ | ⟨d1, hF⟩
  · replace hQ := ite_q hQ d1
    subst hF
    exact ((fh_X8_readN hb (by omega)).trans rfl)
  · replace hQ := ite_r hQ d1
    have o12 := hQ.1
    replace hQ := hQ.2
    have o13 := hQ.1
    replace hQ := hQ.2
    subst hF
    exact ((fh_X8_read hb (by omega) (vin_lt o12) o13).trans rfl)
theorem fhJ_X9_readCards_92 {b : Nat}  (hb : 199 ≤ b) : ∀ (u0 : Int32) (σ : gS), QJ_X9_readCards_92  u0 σ → (J_X9_readCards_92  u0 σ) b = σ b := by
  intro u0 σ hQ
  generalize hF : J_X9_readCards_92  u0 σ = fr
  unfold J_X9_readCards_92 at hF
  unfold QJ_X9_readCards_92 at hQ
  rcases ite_or hF with ⟨d2, hF⟩ | ⟨d2, hF⟩
  · replace hQ := ite_q hQ d2
    subst hF
    exact (fhJ_X9_readCards_111 hb _ _ hQ).trans rfl
  · replace hQ := ite_r hQ d2
    subst hF
    exact (fhJ_X9_readCards_111 hb _ _ hQ).trans rfl
theorem fhJ_X9_readCards_91 {b : Nat}  (hb : 199 ≤ b) : ∀ (σ : gS), QJ_X9_readCards_91  σ → (J_X9_readCards_91  σ) b = σ b := by
  intro σ hQ
  generalize hF : J_X9_readCards_91  σ = fr
  unfold J_X9_readCards_91 at hF
  unfold QJ_X9_readCards_91 at hQ
  subst hF
  exact (fhJ_X9_readCards_92 hb _ _ hQ).trans rfl
theorem fhJ_X9_readCards_50 {b : Nat}  (hb : 199 ≤ b) : ∀ (u0 : Int32) (σ : gS), QJ_X9_readCards_50  u0 σ → (J_X9_readCards_50  u0 σ) b = σ b := by
  intro u0 σ hQ
  generalize hF : J_X9_readCards_50  u0 σ = fr
  unfold J_X9_readCards_50 at hF
  unfold QJ_X9_readCards_50 at hQ
  rcases ite_or hF with ⟨d3, hF⟩ | ⟨d3, hF⟩
  · replace hQ := ite_q hQ d3
    rcases ite_or hF with ⟨d4, hF⟩ | ⟨d4, hF⟩
    · replace hQ := ite_q hQ d4
      subst hF
      exact (fhJ_X9_readCards_92 hb _ _ hQ).trans ((fh_X8_readN hb (by omega)).trans rfl)
    · replace hQ := ite_r hQ d4
      subst hF
      exact (fhJ_X9_readCards_91 hb _ hQ).trans ((fh_X8_readN hb (by omega)).trans rfl)
  · replace hQ := ite_r hQ d3
    subst hF
    exact (fhJ_X9_readCards_91 hb _ hQ).trans ((fh_X8_readN hb (by omega)).trans rfl)
theorem fhJ_X9_readCards_24 {b : Nat}  (hb : 199 ≤ b) : ∀ (u0 : Int32) (σ : gS), QJ_X9_readCards_24  u0 σ → (J_X9_readCards_24  u0 σ) b = σ b := by
  intro u0 σ hQ
  generalize hF : J_X9_readCards_24  u0 σ = fr
  unfold J_X9_readCards_24 at hF
  unfold QJ_X9_readCards_24 at hQ
  rcases ite_or hF with ⟨d5, hF⟩ | ⟨d5, hF⟩
  · replace hQ := ite_q hQ d5
    subst hF
    exact (fhJ_X9_readCards_50 hb _ _ hQ).trans rfl
  · replace hQ := ite_r hQ d5
    have o17 := hQ.1
    replace hQ := hQ.2
    have o18 := hQ.1
    replace hQ := hQ.2
    rcases ite_or hF with ⟨d6, hF⟩ | ⟨d6, hF⟩
    · replace hQ := ite_q hQ d6
      rcases ite_or hF with ⟨d7, hF⟩ | ⟨d7, hF⟩
      · replace hQ := ite_q hQ d7
        subst hF
        exact (fhJ_X9_readCards_92 hb _ _ hQ).trans ((fh_X8_read hb (by omega) (vin_lt o17) o18).trans rfl)
      · replace hQ := ite_r hQ d7
        subst hF
        exact (fhJ_X9_readCards_91 hb _ hQ).trans ((fh_X8_read hb (by omega) (vin_lt o17) o18).trans rfl)
    · replace hQ := ite_r hQ d6
      subst hF
      exact (fhJ_X9_readCards_91 hb _ hQ).trans ((fh_X8_read hb (by omega) (vin_lt o17) o18).trans rfl)
theorem fh_X9_readCards {b : Nat} {σ : gS}  (hb : 199 ≤ b) (hQ : Q_X9_readCards σ ) : (F_X9_readCards σ ) b = σ b := by
  generalize hF : F_X9_readCards σ  = fr
  rw [F_X9_readCards_eq] at hF
  unfold Fr_X9_readCards at hF
  unfold Q_X9_readCards at hQ
  rcases ite_or hF with ⟨d8, hF⟩ | ⟨d8, hF⟩
  · replace hQ := ite_q hQ d8
    subst hF
    exact (fhJ_X9_readCards_24 hb _ _ hQ).trans rfl
  · replace hQ := ite_r hQ d8
    subst hF
    exact (fhJ_X9_readCards_24 hb _ _ hQ).trans rfl
theorem fh_X9_seeDoor {b : Nat} {σ : gS}  (hb : 199 ≤ b) (hQ : Q_X9_seeDoor σ ) : (F_X9_seeDoor σ ) b = σ b := by
  generalize hF : F_X9_seeDoor σ  = fr
  rw [F_X9_seeDoor_eq] at hF
  unfold Fr_X9_seeDoor at hF
  unfold Q_X9_seeDoor at hQ
  rcases ite_or hF with ⟨d1, hF⟩ | ⟨d1, hF⟩
  · replace hQ := ite_q hQ d1
    have o2 := hQ.1
    replace hQ := hQ.2
    subst hF
    exact ((pf_ne (by omega)).trans rfl)
  · replace hQ := ite_r hQ d1
    rcases ite_or hF with ⟨d2, hF⟩ | ⟨d2, hF⟩
    · replace hQ := ite_q hQ d2
      have o5 := hQ.1
      replace hQ := hQ.2
      have o8 := hQ.1
      replace hQ := hQ.2
      subst hF
      exact ((pf_ne (by omega)).trans ((fh_X9_write hb o5).trans rfl))
    · replace hQ := ite_r hQ d2
      have o10 := hQ.1
      replace hQ := hQ.2
      have o13 := hQ.1
      replace hQ := hQ.2
      subst hF
      exact ((pf_ne (by omega)).trans ((fh_X9_write hb o10).trans rfl))
theorem fhJ_X9_watchLatch_134 {b : Nat}  (hb : 199 ≤ b) : ∀ (y1 : Int32) (σ : gS), QJ_X9_watchLatch_134  y1 σ → (J_X9_watchLatch_134  y1 σ) b = σ b := by
  intro y1 σ hQ
  generalize hF : J_X9_watchLatch_134  y1 σ = fr
  unfold J_X9_watchLatch_134 at hF
  unfold QJ_X9_watchLatch_134 at hQ
  rcases ite_or hF with ⟨d1, hF⟩ | ⟨d1, hF⟩
  · replace hQ := ite_q hQ d1
    rcases ite_or hF with ⟨d2, hF⟩ | ⟨d2, hF⟩
    · replace hQ := ite_q hQ d2
      subst hF
      exact rfl
    · replace hQ := ite_r hQ d2
      have o6 := hQ.1
      replace hQ := hQ.2
      rcases ite_or hF with ⟨d3, hF⟩ | ⟨d3, hF⟩
      · replace hQ := ite_q hQ d3
        subst hF
        exact ((fh_X9_write hb o6).trans rfl)
      · replace hQ := ite_r hQ d3
        subst hF
        exact ((pf_ne (by omega)).trans ((fh_X9_write hb o6).trans rfl))
  · replace hQ := ite_r hQ d1
    subst hF
    exact rfl
theorem fhJ_X9_watchLatch_98 {b : Nat}  (hb : 199 ≤ b) : ∀ (u0 : Int32) (σ : gS), QJ_X9_watchLatch_98  u0 σ → (J_X9_watchLatch_98  u0 σ) b = σ b := by
  intro u0 σ hQ
  generalize hF : J_X9_watchLatch_98  u0 σ = fr
  unfold J_X9_watchLatch_98 at hF
  unfold QJ_X9_watchLatch_98 at hQ
  rcases ite_or hF with ⟨d4, hF⟩ | ⟨d4, hF⟩
  · replace hQ := ite_q hQ d4
    subst hF
    exact (fhJ_X9_watchLatch_134 hb _ _ hQ).trans rfl
  · replace hQ := ite_r hQ d4
    rcases ite_or hF with ⟨d5, hF⟩ | ⟨d5, hF⟩
    · replace hQ := ite_q hQ d5
      have o12 := hQ.1
      replace hQ := hQ.2
      rcases ite_or hF with ⟨d6, hF⟩ | ⟨d6, hF⟩
      · replace hQ := ite_q hQ d6
        subst hF
        exact (fhJ_X9_watchLatch_134 hb _ _ hQ).trans ((fh_X9_write hb o12).trans rfl)
      · replace hQ := ite_r hQ d6
        subst hF
        exact ((pf_ne (by omega)).trans ((fh_X9_write hb o12).trans rfl))
    · replace hQ := ite_r hQ d5
      subst hF
      exact (fhJ_X9_watchLatch_134 hb _ _ hQ).trans rfl
theorem fhJ_X9_watchLatch_97 {b : Nat}  (hb : 199 ≤ b) : ∀ (σ : gS), QJ_X9_watchLatch_97  σ → (J_X9_watchLatch_97  σ) b = σ b := by
  intro σ hQ
  generalize hF : J_X9_watchLatch_97  σ = fr
  unfold J_X9_watchLatch_97 at hF
  unfold QJ_X9_watchLatch_97 at hQ
  subst hF
  exact (fhJ_X9_watchLatch_98 hb _ _ hQ).trans rfl
theorem fhJ_X9_watchLatch_62 {b : Nat}  (hb : 199 ≤ b) : ∀ (σ : gS), QJ_X9_watchLatch_62  σ → (J_X9_watchLatch_62  σ) b = σ b := by
  intro σ hQ
  generalize hF : J_X9_watchLatch_62  σ = fr
  unfold J_X9_watchLatch_62 at hF
  unfold QJ_X9_watchLatch_62 at hQ
  rcases ite_or hF with ⟨d7, hF⟩ | ⟨d7, hF⟩
  · replace hQ := ite_q hQ d7
    subst hF
    exact (fhJ_X9_watchLatch_97 hb _ hQ).trans rfl
  · replace hQ := ite_r hQ d7
    rcases ite_or hF with ⟨d8, hF⟩ | ⟨d8, hF⟩
    · replace hQ := ite_q hQ d8
      rcases ite_or hF with ⟨d9, hF⟩ | ⟨d9, hF⟩
      · replace hQ := ite_q hQ d9
        subst hF
        exact (fhJ_X9_watchLatch_97 hb _ hQ).trans rfl
      · replace hQ := ite_r hQ d9
        subst hF
        exact (fhJ_X9_watchLatch_98 hb _ _ hQ).trans rfl
    · replace hQ := ite_r hQ d8
      subst hF
      exact (fhJ_X9_watchLatch_97 hb _ hQ).trans rfl
theorem fh_X9_watchLatch {b : Nat} {σ : gS}  (hb : 199 ≤ b) (hQ : Q_X9_watchLatch σ ) : (F_X9_watchLatch σ ) b = σ b := by
  generalize hF : F_X9_watchLatch σ  = fr
  rw [F_X9_watchLatch_eq] at hF
  unfold Fr_X9_watchLatch at hF
  unfold Q_X9_watchLatch at hQ
  rcases ite_or hF with ⟨d10, hF⟩ | ⟨d10, hF⟩
  · replace hQ := ite_q hQ d10
    subst hF
    exact (fhJ_X9_watchLatch_62 hb _ hQ).trans rfl
  · replace hQ := ite_r hQ d10
    rcases ite_or hF with ⟨d11, hF⟩ | ⟨d11, hF⟩
    · replace hQ := ite_q hQ d11
      subst hF
      exact (fhJ_X9_watchLatch_62 hb _ hQ).trans rfl
    · replace hQ := ite_r hQ d11
      have o20 := hQ.1
      replace hQ := hQ.2
      rcases ite_or hF with ⟨d12, hF⟩ | ⟨d12, hF⟩
      · replace hQ := ite_q hQ d12
        subst hF
        exact (fhJ_X9_watchLatch_62 hb _ hQ).trans ((fh_X9_write hb o20).trans rfl)
      · replace hQ := ite_r hQ d12
        rcases ite_or hF with ⟨d13, hF⟩ | ⟨d13, hF⟩
        · replace hQ := ite_q hQ d13
          subst hF
          exact (fhJ_X9_watchLatch_62 hb _ hQ).trans ((pf_ne (by omega)).trans ((pf_ne (by omega)).trans ((fh_X9_write hb o20).trans rfl)))
        · replace hQ := ite_r hQ d13
          subst hF
          exact (fhJ_X9_watchLatch_62 hb _ hQ).trans ((pf_ne (by omega)).trans ((fh_X9_write hb o20).trans rfl))
theorem fhJ_X9_restart_97 {b : Nat}  (hb : 199 ≤ b) : ∀ (y1 : Int32) (u0 : Int32) (σ : gS), QJ_X9_restart_97  y1 u0 σ → (J_X9_restart_97  y1 u0 σ) b = σ b := by
  intro y1 u0 σ hQ
  generalize hF : J_X9_restart_97  y1 u0 σ = fr
  unfold J_X9_restart_97 at hF
  unfold QJ_X9_restart_97 at hQ
  rcases ite_or hF with ⟨d1, hF⟩ | ⟨d1, hF⟩
  · replace hQ := ite_q hQ d1
    subst hF
    exact ((pf_ne (by omega)).trans ((pf_ne (by omega)).trans rfl))
  · replace hQ := ite_r hQ d1
    have o16 := hQ.1
    replace hQ := hQ.2
    subst hF
    exact ((fh_X9_write hb o16).trans ((pf_ne (by omega)).trans ((pf_ne (by omega)).trans rfl)))
theorem fhJ_X9_restart_80 {b : Nat}  (hb : 199 ≤ b) : ∀ (y1 : Int32) (u0 : Int32) (σ : gS), QJ_X9_restart_80  y1 u0 σ → (J_X9_restart_80  y1 u0 σ) b = σ b := by
  intro y1 u0 σ hQ
  generalize hF : J_X9_restart_80  y1 u0 σ = fr
  unfold J_X9_restart_80 at hF
  unfold QJ_X9_restart_80 at hQ
  rcases ite_or hF with ⟨d2, hF⟩ | ⟨d2, hF⟩
  · replace hQ := ite_q hQ d2
    subst hF
    exact (fhJ_X9_restart_97 hb _ _ _ hQ).trans ((pf_ne (by omega)).trans rfl)
  · replace hQ := ite_r hQ d2
    subst hF
    exact (fhJ_X9_restart_97 hb _ _ _ hQ).trans ((pf_ne (by omega)).trans rfl)
theorem fhJ_X9_restart_64 {b : Nat}  (hb : 199 ≤ b) : ∀ (y1 : Int32) (u0 : Int32) (σ : gS), QJ_X9_restart_64  y1 u0 σ → (J_X9_restart_64  y1 u0 σ) b = σ b := by
  intro y1 u0 σ hQ
  generalize hF : J_X9_restart_64  y1 u0 σ = fr
  unfold J_X9_restart_64 at hF
  unfold QJ_X9_restart_64 at hQ
  rcases ite_or hF with ⟨d3, hF⟩ | ⟨d3, hF⟩
  · replace hQ := ite_q hQ d3
    subst hF
    exact (fhJ_X9_restart_80 hb _ _ _ hQ).trans ((pf_ne (by omega)).trans rfl)
  · replace hQ := ite_r hQ d3
    subst hF
    exact (fhJ_X9_restart_80 hb _ _ _ hQ).trans ((pf_ne (by omega)).trans rfl)
theorem fh_X9_restart {b : Nat} {σ : gS}  (hb : 199 ≤ b) (hQ : Q_X9_restart σ ) : (F_X9_restart σ ) b = σ b := by
  generalize hF : F_X9_restart σ  = fr
  rw [F_X9_restart_eq] at hF
  unfold Fr_X9_restart at hF
  unfold Q_X9_restart at hQ
  have o5 := hQ.1
  replace hQ := hQ.2
  rcases ite_or hF with ⟨d4, hF⟩ | ⟨d4, hF⟩
  · replace hQ := ite_q hQ d4
    subst hF
    exact (fhJ_X9_restart_64 hb _ _ _ hQ).trans ((pf_ne (by omega)).trans ((pf_ne (by omega)).trans ((pf_ne (by omega)).trans ((pf_ne (by omega)).trans ((pf_ne (by omega)).trans rfl)))))
  · replace hQ := ite_r hQ d4
    subst hF
    exact (fhJ_X9_restart_64 hb _ _ _ hQ).trans ((pf_ne (by omega)).trans ((pf_ne (by omega)).trans ((pf_ne (by omega)).trans ((pf_ne (by omega)).trans ((pf_ne (by omega)).trans rfl)))))
theorem fhJ_X9_poll_72 {b : Nat}  (hb : 199 ≤ b) : ∀ (σ : gS), QJ_X9_poll_72  σ → (J_X9_poll_72  σ).2 b = σ b := by
  intro σ hQ
  generalize hF : J_X9_poll_72  σ = fr
  unfold J_X9_poll_72 at hF
  unfold QJ_X9_poll_72 at hQ
  rcases ite_or hF with ⟨d1, hF⟩ | ⟨d1, hF⟩
  · replace hQ := ite_q hQ d1
    subst hF
    exact ((fh_X3_endLook hb).trans rfl)
  · replace hQ := ite_r hQ d1
    have o7 := hQ.1
    replace hQ := hQ.2
    subst hF
    exact ((fh_X9_restart hb o7).trans ((fh_X3_endLook hb).trans rfl))
theorem fhJ_X9_poll_68 {b : Nat}  (hb : 199 ≤ b) : ∀ (σ : gS), QJ_X9_poll_68  σ → (J_X9_poll_68  σ).2 b = σ b := by
  intro σ hQ
  generalize hF : J_X9_poll_68  σ = fr
  unfold J_X9_poll_68 at hF
  unfold QJ_X9_poll_68 at hQ
  have o24 := hQ.1
  replace hQ := hQ.2
  subst hF
  exact (fhJ_X9_poll_72 hb _ hQ).trans ((fh_X9_watchLatch hb o24).trans rfl)
theorem fh_X9_poll {b : Nat} {σ : gS}  (hb : 199 ≤ b) (hQ : Q_X9_poll σ ) : (F_X9_poll σ ).2 b = σ b := by
  generalize hF : F_X9_poll σ  = fr
  rw [F_X9_poll_eq] at hF
  unfold Fr_X9_poll at hF
  unfold Q_X9_poll at hQ
  rcases ite_or hF with ⟨d2, hF⟩ | ⟨d2, hF⟩
  · replace hQ := ite_q hQ d2
    subst hF
    exact (fhJ_X9_poll_72 hb _ hQ).trans ((fh_X3_beginLook hb).trans rfl)
  · replace hQ := ite_r hQ d2
    have o10 := hQ.1
    replace hQ := hQ.2
    have o13 := hQ.1
    replace hQ := hQ.2
    have o16 := hQ.1
    replace hQ := hQ.2
    rcases ite_or hF with ⟨d3, hF⟩ | ⟨d3, hF⟩
    · replace hQ := ite_q hQ d3
      have o30 := hQ.1
      replace hQ := hQ.2
      rcases ite_or hF with ⟨d4, hF⟩ | ⟨d4, hF⟩
      · replace hQ := ite_q hQ d4
        have o34 := hQ.1
        replace hQ := hQ.2
        subst hF
        exact (fhJ_X9_poll_68 hb _ hQ).trans ((fh_X9_actOutside hb o34).trans ((fh_X9_actInside hb o30).trans ((fh_X9_watchLatch hb o16).trans ((fh_X9_seeDoor hb o13).trans ((fh_X9_readCards hb o10).trans ((fh_X3_beginLook hb).trans rfl))))))
      · replace hQ := ite_r hQ d4
        subst hF
        exact (fhJ_X9_poll_68 hb _ hQ).trans ((fh_X9_actInside hb o30).trans ((fh_X9_watchLatch hb o16).trans ((fh_X9_seeDoor hb o13).trans ((fh_X9_readCards hb o10).trans ((fh_X3_beginLook hb).trans rfl)))))
    · replace hQ := ite_r hQ d3
      have o20 := hQ.1
      replace hQ := hQ.2
      rcases ite_or hF with ⟨d5, hF⟩ | ⟨d5, hF⟩
      · replace hQ := ite_q hQ d5
        have o27 := hQ.1
        replace hQ := hQ.2
        subst hF
        exact (fhJ_X9_poll_68 hb _ hQ).trans ((fh_X9_actInside hb o27).trans ((fh_X9_actOutside hb o20).trans ((fh_X9_watchLatch hb o16).trans ((fh_X9_seeDoor hb o13).trans ((fh_X9_readCards hb o10).trans ((fh_X3_beginLook hb).trans rfl))))))
      · replace hQ := ite_r hQ d5
        subst hF
        exact (fhJ_X9_poll_68 hb _ hQ).trans ((fh_X9_actOutside hb o20).trans ((fh_X9_watchLatch hb o16).trans ((fh_X9_seeDoor hb o13).trans ((fh_X9_readCards hb o10).trans ((fh_X3_beginLook hb).trans rfl)))))
theorem fhJ_X9_put_38 {b : Nat} {p0 : Int32} {p1 : Int32} (hb : 199 ≤ b) : ∀ (σ : gS), QJ_X9_put_38 p0 p1 σ → (J_X9_put_38 p0 p1 σ).2 b = σ b := by
  intro σ hQ
  generalize hF : J_X9_put_38 p0 p1 σ = fr
  unfold J_X9_put_38 at hF
  unfold QJ_X9_put_38 at hQ
  rcases ite_or hF with ⟨d1, hF⟩ | ⟨d1, hF⟩
  · replace hQ := ite_q hQ d1
    rcases ite_or hF with ⟨d2, hF⟩ | ⟨d2, hF⟩
    · replace hQ := ite_q hQ d2
      subst hF
      exact ((pf_ne (by omega)).trans rfl)
    · replace hQ := ite_r hQ d2
      rcases ite_or hF with ⟨d3, hF⟩ | ⟨d3, hF⟩
      · replace hQ := ite_q hQ d3
        subst hF
        exact rfl
      · replace hQ := ite_r hQ d3
        subst hF
        exact ((pf_ne (by omega)).trans rfl)
  · replace hQ := ite_r hQ d1
    subst hF
    exact rfl
theorem fhJ_X9_put_14 {b : Nat} {p0 : Int32} {p1 : Int32} (hb : 199 ≤ b) : ∀ (σ : gS), QJ_X9_put_14 p0 p1 σ → (J_X9_put_14 p0 p1 σ).2 b = σ b := by
  intro σ hQ
  generalize hF : J_X9_put_14 p0 p1 σ = fr
  unfold J_X9_put_14 at hF
  unfold QJ_X9_put_14 at hQ
  rcases ite_or hF with ⟨d4, hF⟩ | ⟨d4, hF⟩
  · replace hQ := ite_q hQ d4
    rcases ite_or hF with ⟨d5, hF⟩ | ⟨d5, hF⟩
    · replace hQ := ite_q hQ d5
      subst hF
      exact ((pf_ne (by omega)).trans rfl)
    · replace hQ := ite_r hQ d5
      rcases ite_or hF with ⟨d6, hF⟩ | ⟨d6, hF⟩
      · replace hQ := ite_q hQ d6
        subst hF
        exact (fhJ_X9_put_38 hb _ hQ).trans rfl
      · replace hQ := ite_r hQ d6
        subst hF
        exact ((pf_ne (by omega)).trans rfl)
  · replace hQ := ite_r hQ d4
    subst hF
    exact (fhJ_X9_put_38 hb _ hQ).trans rfl
theorem fh_X9_put {b : Nat} {σ : gS} {p0 : Int32} {p1 : Int32} (hb : 199 ≤ b) (hQ : Q_X9_put σ p0 p1) : (F_X9_put σ p0 p1).2 b = σ b := by
  generalize hF : F_X9_put σ p0 p1 = fr
  rw [F_X9_put_eq] at hF
  unfold Fr_X9_put at hF
  unfold Q_X9_put at hQ
  rcases ite_or hF with ⟨d7, hF⟩ | ⟨d7, hF⟩
  · replace hQ := ite_q hQ d7
    subst hF
    exact (fhJ_X9_put_14 hb _ hQ).trans rfl
  · replace hQ := ite_r hQ d7
    rcases ite_or hF with ⟨d8, hF⟩ | ⟨d8, hF⟩
    · replace hQ := ite_q hQ d8
      subst hF
      exact rfl
    · replace hQ := ite_r hQ d8
      subst hF
      exact (fhJ_X9_put_14 hb _ hQ).trans rfl
theorem fh_X9_seal {b : Nat} {σ : gS} {p0 : Int32} {p1 : Int32} {p2 : Int32} {p3 : Int32} (hb : 199 ≤ b) (hQ : Q_X9_seal σ p0 p1 p2 p3) : (F_X9_seal σ p0 p1 p2 p3).2 b = σ b := by
  generalize hF : F_X9_seal σ p0 p1 p2 p3 = fr
  rw [F_X9_seal_eq] at hF
  unfold Fr_X9_seal at hF
  unfold Q_X9_seal at hQ
  rcases ite_or hF with ⟨d1, hF⟩ | ⟨d1, hF⟩
  · replace hQ := ite_q hQ d1
    subst hF
    exact rfl
  · replace hQ := ite_r hQ d1
    have o5 := hQ.1
    replace hQ := hQ.2
    have o8 := hQ.1
    replace hQ := hQ.2
    subst hF
    exact ((fh_X7_addSealTo hb (by omega) (by omega) o8).trans ((fh_X7_work hb o5).trans ((fh_X7_useKey hb).trans rfl)))
theorem fh_X9_tick {b : Nat} {σ : gS} {p0 : Int32} (hb : 199 ≤ b)  : (F_X9_tick σ p0).2 b = σ b := by
  generalize hF : F_X9_tick σ p0 = fr
  rw [F_X9_tick_eq] at hF
  unfold Fr_X9_tick at hF
  rcases ite_or hF with ⟨d1, hF⟩ | ⟨d1, hF⟩
  · skip
    subst hF
    exact rfl
  · skip
    rcases ite_or hF with ⟨d2, hF⟩ | ⟨d2, hF⟩
    · skip
      subst hF
      exact rfl
    · skip
      rcases ite_or hF with ⟨d3, hF⟩ | ⟨d3, hF⟩
      · skip
        subst hF
        exact ((pf_ne (by omega)).trans rfl)
      · skip
        subst hF
        exact rfl
theorem fh_X9_writable {b : Nat} {σ : gS} {p0 : Int32} {p1 : Int32} (hb : 199 ≤ b) (hQ : Q_X9_writable σ p0 p1) : (F_X9_writable σ p0 p1).2 b = σ b := by
  generalize hF : F_X9_writable σ p0 p1 = fr
  rw [F_X9_writable_eq] at hF
  unfold Fr_X9_writable at hF
  unfold Q_X9_writable at hQ
  rcases ite_or hF with ⟨d1, hF⟩ | ⟨d1, hF⟩
  · replace hQ := ite_q hQ d1
    subst hF
    exact rfl
  · replace hQ := ite_r hQ d1
    have o3 := hQ.1
    replace hQ := hQ.2
    have o4 := hQ.1
    replace hQ := hQ.2
    subst hF
    exact ((pf_ne (by have h9 := (vin_lt o3); omega)).trans rfl)
