/-! StationHouse: by program -/
noncomputable def Fr_X9_write (σ : gS) (p0 : Int32) (p1 : Int32) : Int32 × gS :=
  let f3 := (F_X3_write σ (σ 0 10) p0 p1 (-1 : Int32) (0 : Int32))
  (f3.1, f3.2)
noncomputable def F_X9_write : gS → Int32 → Int32 → Int32 × gS := Classical.choose (⟨Fr_X9_write, rfl⟩ : ∃ f : gS → Int32 → Int32 → Int32 × gS, f = Fr_X9_write)
theorem F_X9_write_eq : F_X9_write = Fr_X9_write := Classical.choose_spec (⟨Fr_X9_write, rfl⟩ : ∃ f : gS → Int32 → Int32 → Int32 × gS, f = Fr_X9_write)
def Q_X9_write (σ : gS) (p0 : Int32) (p1 : Int32) : Prop :=
  (Q_X3_write σ (σ 0 10) p0 p1 (-1 : Int32) (0 : Int32)) ∧ (let f3 := (F_X3_write σ (σ 0 10) p0 p1 (-1 : Int32) (0 : Int32))
  (f3.1 = 0 ∨ f3.1 = 1) ∧ (True))
set_option maxHeartbeats 4000000 in
set_option maxRecDepth 100000 in
theorem c_X9_write (l : Launch) (g : gE)  {σ : gS} {ζ : gQ} (p0 : Int32) (p1 : Int32) (hQ : Q_X9_write σ p0 p1) : gC l g mX9_write (rm 3 88) [.ref 0, .int p0, .int p1] (hp σ ζ) (fun r h => r = some (.int (F_X9_write σ p0 p1).1) ∧ h = hp (F_X9_write σ p0 p1).2 ζ) := by
  refine gC_of (by decide) (Nat.le_of_ble_eq_true rfl) ?_
  generalize hF : (F_X9_write σ p0 p1) = fr
  rw [F_X9_write_eq] at hF
  unfold Fr_X9_write at hF
  unfold Q_X9_write at hQ
  refine g_aload_n dX9_write_0 rfl rfl rfl ?_
  refine g_get gClX9 15 (by decide) fl_X9_61 dX9_write_1 (ho_0 _ _) rfl rfl ?_
  refine g_aload_n dX9_write_4 rfl rfl rfl ?_
  refine g_get gClX9 10 (by decide) fl_X9_147 dX9_write_5 (ho_0 _ _) rfl rfl ?_
  refine g_iload_n dX9_write_8 rfl rfl rfl ?_
  refine g_iload_n dX9_write_9 rfl rfl rfl ?_
  refine g_iconst (v := (-1)) dX9_write_10 (by decide) rfl ?_
  refine g_iconst (v := 0) dX9_write_11 (by decide) rfl ?_
  have o1 := hQ.1
  replace hQ := hQ.2
  refine g_callv mv_X3_write ml_X9_226 (c_X3_write l g _ _ _ _ _ o1) (ho_15 _ _) rfl rfl (Nat.le_of_ble_eq_true rfl) (Nat.le_of_ble_eq_true rfl) (Nat.le_of_ble_eq_true rfl) (Nat.le_of_ble_eq_true rfl) rfl (Nat.le_of_ble_eq_true rfl) dX9_write_12 rfl (fun r2 hr2 pr2 => ?_)
  obtain ⟨rfl, rfl⟩ := pr2
  have o4 := hQ.1
  replace hQ := hQ.2
  subst hF
  exact g_zret rfl dX9_write_15 (gz_n o4) (Nat.le_of_ble_eq_true rfl) (Nat.le_of_ble_eq_true rfl) ⟨rfl, rfl⟩
noncomputable def Fr_X9_enrol (σ : gS)  : Int32 × gS :=
  if (F_X4_areOn σ ) = 0 then
    let f16 := (F_X9_write σ (41 : Int32) (1 : Int32))
    if f16.1 = 0 then
      ((1 : Int32), f16.2)
    else
      let s18 := (pf f16.2 21 1 (1 : Int32) : gS)
      let s19 := (pf s18 21 2 (9 : Int32) : gS)
      ((1 : Int32), s19)
  else
    let f6 := (F_X9_write σ (40 : Int32) (0 : Int32))
    if f6.1 = 0 then
      ((1 : Int32), f6.2)
    else
      let s10 := (F_X4_takeFrom f6.2 )
      let s11 := (pf s10 21 1 (2 : Int32) : gS)
      let s12 := (pf s11 21 2 (1 : Int32) : gS)
      let s13 := (pf s12 19 2 (1 : Int32) : gS)
      ((1 : Int32), s13)
noncomputable def F_X9_enrol : gS → Int32 × gS := Classical.choose (⟨Fr_X9_enrol, rfl⟩ : ∃ f : gS → Int32 × gS, f = Fr_X9_enrol)
theorem F_X9_enrol_eq : F_X9_enrol = Fr_X9_enrol := Classical.choose_spec (⟨Fr_X9_enrol, rfl⟩ : ∃ f : gS → Int32 × gS, f = Fr_X9_enrol)
def Q_X9_enrol (σ : gS)  : Prop :=
  (Q_X4_areOn σ ) ∧ (if (F_X4_areOn σ ) = 0 then
    ((Q_X9_write σ (41 : Int32) (1 : Int32)) ∧ (let f16 := (F_X9_write σ (41 : Int32) (1 : Int32))
    if f16.1 = 0 then
      (True)
    else
      (let s18 := (pf f16.2 21 1 (1 : Int32) : gS)
      let s19 := (pf s18 21 2 (9 : Int32) : gS)
      True)))
  else
    ((Q_X9_write σ (40 : Int32) (0 : Int32)) ∧ (let f6 := (F_X9_write σ (40 : Int32) (0 : Int32))
    if f6.1 = 0 then
      (True)
    else
      ((Q_X4_takeFrom f6.2 ) ∧ (let s10 := (F_X4_takeFrom f6.2 )
      let s11 := (pf s10 21 1 (2 : Int32) : gS)
      let s12 := (pf s11 21 2 (1 : Int32) : gS)
      let s13 := (pf s12 19 2 (1 : Int32) : gS)
      True)))))
set_option maxHeartbeats 4000000 in
set_option maxRecDepth 100000 in
theorem c_X9_enrol (l : Launch) (g : gE)  {σ : gS} {ζ : gQ}  (hQ : Q_X9_enrol σ ) : gC l g mX9_enrol (rm 4 110) [.ref 0] (hp σ ζ) (fun r h => r = some (.int (F_X9_enrol σ ).1) ∧ h = hp (F_X9_enrol σ ).2 ζ) := by
  refine gC_of (by decide) (Nat.le_of_ble_eq_true rfl) ?_
  generalize hF : (F_X9_enrol σ ) = fr
  rw [F_X9_enrol_eq] at hF
  unfold Fr_X9_enrol at hF
  unfold Q_X9_enrol at hQ
  refine g_aload_n dX9_enrol_0 rfl rfl rfl ?_
  refine g_get gClX9 1 (by decide) fl_X9_18 dX9_enrol_1 (ho_0 _ _) rfl rfl ?_
  have o1 := hQ.1
  replace hQ := hQ.2
  refine g_calls mt_X4_areOn ms_X4_areOn ml_X9_390 (c_X4_areOn l g o1) rfl (Nat.le_of_ble_eq_true rfl) (Nat.le_of_ble_eq_true rfl) (Nat.le_of_ble_eq_true rfl) (Nat.le_of_ble_eq_true rfl) rfl (Nat.le_of_ble_eq_true rfl) dX9_enrol_4 rfl (fun r2 hr2 pr2 => ?_)
  obtain ⟨rfl, rfl⟩ := pr2
  refine g_ifne (tgt := 40) dX9_enrol_7 (by decide) rfl (fun c3 => ?_) (fun c3 => ?_)
  · replace hF := ite_n hF c3
    try replace hQ := ite_r hQ c3
    refine g_aload_n dX9_enrol_40 rfl rfl rfl ?_
    refine g_bipush (v := 40) dX9_enrol_41 (by decide) rfl ?_
    refine g_iconst (v := 0) dX9_enrol_43 (by decide) rfl ?_
    have o4 := hQ.1
    replace hQ := hQ.2
    refine g_callv mv_X9_write ml_X9_254 (c_X9_write l g _ _ o4) (ho_0 _ _) rfl rfl (Nat.le_of_ble_eq_true rfl) (Nat.le_of_ble_eq_true rfl) (Nat.le_of_ble_eq_true rfl) (Nat.le_of_ble_eq_true rfl) rfl (Nat.le_of_ble_eq_true rfl) dX9_enrol_44 rfl (fun r5 hr5 pr5 => ?_)
    obtain ⟨rfl, rfl⟩ := pr5
    refine g_ifeq (tgt := 85) dX9_enrol_47 (by decide) rfl (fun c7 => ?_) (fun c7 => ?_)
    · replace hF := ite_p hF c7
      try replace hQ := ite_q hQ c7
      refine g_iconst (v := 1) dX9_enrol_85 (by decide) rfl ?_
      subst hF
      exact g_zret rfl dX9_enrol_86 (by decide) (Nat.le_of_ble_eq_true rfl) (Nat.le_of_ble_eq_true rfl) ⟨rfl, rfl⟩
    · replace hF := ite_n hF c7
      try replace hQ := ite_r hQ c7
      refine g_aload_n dX9_enrol_50 rfl rfl rfl ?_
      refine g_get gClX9 14 (by decide) fl_X9_54 dX9_enrol_51 (ho_0 _ _) rfl rfl ?_
      refine g_aload_n dX9_enrol_54 rfl rfl rfl ?_
      refine g_get gClX9 1 (by decide) fl_X9_18 dX9_enrol_55 (ho_0 _ _) rfl rfl ?_
      have o8 := hQ.1
      replace hQ := hQ.2
      refine g_callv mv_X4_takeFrom ml_X9_394 (c_X4_takeFrom l g o8) (ho_12 _ _) rfl rfl (Nat.le_of_ble_eq_true rfl) (Nat.le_of_ble_eq_true rfl) (Nat.le_of_ble_eq_true rfl) (Nat.le_of_ble_eq_true rfl) rfl (Nat.le_of_ble_eq_true rfl) dX9_enrol_58 rfl (fun r9 hr9 pr9 => ?_)
      obtain ⟨rfl, rfl⟩ := pr9
      refine g_aload_n dX9_enrol_61 rfl rfl rfl ?_
      refine g_get gClX9 18 (by decide) fl_X9_82 dX9_enrol_62 (ho_0 _ _) rfl rfl ?_
      refine g_iconst (v := 2) dX9_enrol_65 (by decide) rfl ?_
      refine g_put gClX2 1 (by decide) fl_X9_156 rfl dX9_enrol_66 (ho_21 _ _) rfl rfl (Nat.le_of_ble_eq_true rfl) po_21_1 rfl ?_
      refine g_aload_n dX9_enrol_69 rfl rfl rfl ?_
      refine g_get gClX9 18 (by decide) fl_X9_82 dX9_enrol_70 (ho_0 _ _) rfl rfl ?_
      refine g_iconst (v := 1) dX9_enrol_73 (by decide) rfl ?_
      refine g_put gClX2 2 (by decide) fl_X9_195 rfl dX9_enrol_74 (ho_21 _ _) rfl rfl (Nat.le_of_ble_eq_true rfl) po_21_2 rfl ?_
      refine g_aload_n dX9_enrol_77 rfl rfl rfl ?_
      refine g_get gClX9 17 (by decide) fl_X9_75 dX9_enrol_78 (ho_0 _ _) rfl rfl ?_
      refine g_iconst (v := 1) dX9_enrol_81 (by decide) rfl ?_
      refine g_put gClX6 2 (by decide) fl_X9_192 rfl dX9_enrol_82 (ho_19 _ _) rfl rfl (Nat.le_of_ble_eq_true rfl) po_19_2 rfl ?_
      refine g_iconst (v := 1) dX9_enrol_85 (by decide) rfl ?_
      subst hF
      exact g_zret rfl dX9_enrol_86 (by decide) (Nat.le_of_ble_eq_true rfl) (Nat.le_of_ble_eq_true rfl) ⟨rfl, rfl⟩
  · replace hF := ite_p hF c3
    try replace hQ := ite_q hQ c3
    refine g_aload_n dX9_enrol_10 rfl rfl rfl ?_
    refine g_bipush (v := 41) dX9_enrol_11 (by decide) rfl ?_
    refine g_iconst (v := 1) dX9_enrol_13 (by decide) rfl ?_
    have o14 := hQ.1
    replace hQ := hQ.2
    refine g_callv mv_X9_write ml_X9_254 (c_X9_write l g _ _ o14) (ho_0 _ _) rfl rfl (Nat.le_of_ble_eq_true rfl) (Nat.le_of_ble_eq_true rfl) (Nat.le_of_ble_eq_true rfl) (Nat.le_of_ble_eq_true rfl) rfl (Nat.le_of_ble_eq_true rfl) dX9_enrol_14 rfl (fun r15 hr15 pr15 => ?_)
    obtain ⟨rfl, rfl⟩ := pr15
    refine g_ifeq (tgt := 85) dX9_enrol_17 (by decide) rfl (fun c17 => ?_) (fun c17 => ?_)
    · replace hF := ite_p hF c17
      try replace hQ := ite_q hQ c17
      refine g_iconst (v := 1) dX9_enrol_85 (by decide) rfl ?_
      subst hF
      exact g_zret rfl dX9_enrol_86 (by decide) (Nat.le_of_ble_eq_true rfl) (Nat.le_of_ble_eq_true rfl) ⟨rfl, rfl⟩
    · replace hF := ite_n hF c17
      try replace hQ := ite_r hQ c17
      refine g_aload_n dX9_enrol_20 rfl rfl rfl ?_
      refine g_get gClX9 18 (by decide) fl_X9_82 dX9_enrol_21 (ho_0 _ _) rfl rfl ?_
      refine g_iconst (v := 1) dX9_enrol_24 (by decide) rfl ?_
      refine g_put gClX2 1 (by decide) fl_X9_156 rfl dX9_enrol_25 (ho_21 _ _) rfl rfl (Nat.le_of_ble_eq_true rfl) po_21_1 rfl ?_
      refine g_aload_n dX9_enrol_28 rfl rfl rfl ?_
      refine g_get gClX9 18 (by decide) fl_X9_82 dX9_enrol_29 (ho_0 _ _) rfl rfl ?_
      refine g_bipush (v := 9) dX9_enrol_32 (by decide) rfl ?_
      refine g_put gClX2 2 (by decide) fl_X9_195 rfl dX9_enrol_34 (ho_21 _ _) rfl rfl (Nat.le_of_ble_eq_true rfl) po_21_2 rfl ?_
      refine g_goto (tgt := 85) dX9_enrol_37 (by decide) ?_
      refine g_iconst (v := 1) dX9_enrol_85 (by decide) rfl ?_
      subst hF
      exact g_zret rfl dX9_enrol_86 (by decide) (Nat.le_of_ble_eq_true rfl) (Nat.le_of_ble_eq_true rfl) ⟨rfl, rfl⟩
noncomputable def Fr_X9_awaitEnrolment (σ : gS)  : Int32 × gS :=
  let s1 := (pf σ 21 1 (0 : Int32) : gS)
  let s2 := (pf s1 21 2 (8 : Int32) : gS)
  ((1 : Int32), s2)
noncomputable def F_X9_awaitEnrolment : gS → Int32 × gS := Classical.choose (⟨Fr_X9_awaitEnrolment, rfl⟩ : ∃ f : gS → Int32 × gS, f = Fr_X9_awaitEnrolment)
theorem F_X9_awaitEnrolment_eq : F_X9_awaitEnrolment = Fr_X9_awaitEnrolment := Classical.choose_spec (⟨Fr_X9_awaitEnrolment, rfl⟩ : ∃ f : gS → Int32 × gS, f = Fr_X9_awaitEnrolment)
set_option maxHeartbeats 4000000 in
set_option maxRecDepth 100000 in
theorem c_X9_awaitEnrolment (l : Launch) (g : gE)  {σ : gS} {ζ : gQ}  : gC l g mX9_awaitEnrolment (rm 0 0) [.ref 0] (hp σ ζ) (fun r h => r = some (.int (F_X9_awaitEnrolment σ ).1) ∧ h = hp (F_X9_awaitEnrolment σ ).2 ζ) := by
  refine gC_of (by decide) (Nat.le_of_ble_eq_true rfl) ?_
  generalize hF : (F_X9_awaitEnrolment σ ) = fr
  rw [F_X9_awaitEnrolment_eq] at hF
  unfold Fr_X9_awaitEnrolment at hF
  refine g_aload_n dX9_awaitEnrolment_0 rfl rfl rfl ?_
  refine g_get gClX9 18 (by decide) fl_X9_82 dX9_awaitEnrolment_1 (ho_0 _ _) rfl rfl ?_
  refine g_iconst (v := 0) dX9_awaitEnrolment_4 (by decide) rfl ?_
  refine g_put gClX2 1 (by decide) fl_X9_156 rfl dX9_awaitEnrolment_5 (ho_21 _ _) rfl rfl (Nat.le_of_ble_eq_true rfl) po_21_1 rfl ?_
  refine g_aload_n dX9_awaitEnrolment_8 rfl rfl rfl ?_
  refine g_get gClX9 18 (by decide) fl_X9_82 dX9_awaitEnrolment_9 (ho_0 _ _) rfl rfl ?_
  refine g_bipush (v := 8) dX9_awaitEnrolment_12 (by decide) rfl ?_
  refine g_put gClX2 2 (by decide) fl_X9_195 rfl dX9_awaitEnrolment_14 (ho_21 _ _) rfl rfl (Nat.le_of_ble_eq_true rfl) po_21_2 rfl ?_
  refine g_iconst (v := 1) dX9_awaitEnrolment_17 (by decide) rfl ?_
  subst hF
  exact g_zret rfl dX9_awaitEnrolment_18 (by decide) (Nat.le_of_ble_eq_true rfl) (Nat.le_of_ble_eq_true rfl) ⟨rfl, rfl⟩
noncomputable def Fr_X9_stepInside (σ : gS) (p0 : Int32) (p1 : Int32) (p2 : Int32) (p3 : Int32) : Int32 × gS :=
  let f3 := (F_X3_write σ (σ 0 10) p0 p1 (σ 22 0) (σ 22 1))
  if f3.1 = 0 then
    ((0 : Int32), f3.2)
  else
    let s5 := (pf f3.2 21 1 p2 : gS)
    let s6 := (pf s5 21 2 p3 : gS)
    ((1 : Int32), s6)
noncomputable def F_X9_stepInside : gS → Int32 → Int32 → Int32 → Int32 → Int32 × gS := Classical.choose (⟨Fr_X9_stepInside, rfl⟩ : ∃ f : gS → Int32 → Int32 → Int32 → Int32 → Int32 × gS, f = Fr_X9_stepInside)
theorem F_X9_stepInside_eq : F_X9_stepInside = Fr_X9_stepInside := Classical.choose_spec (⟨Fr_X9_stepInside, rfl⟩ : ∃ f : gS → Int32 → Int32 → Int32 → Int32 → Int32 × gS, f = Fr_X9_stepInside)
def Q_X9_stepInside (σ : gS) (p0 : Int32) (p1 : Int32) (p2 : Int32) (p3 : Int32) : Prop :=
  (Q_X3_write σ (σ 0 10) p0 p1 (σ 22 0) (σ 22 1)) ∧ (let f3 := (F_X3_write σ (σ 0 10) p0 p1 (σ 22 0) (σ 22 1))
  if f3.1 = 0 then
    (True)
  else
    (let s5 := (pf f3.2 21 1 p2 : gS)
    let s6 := (pf s5 21 2 p3 : gS)
    True))
set_option maxHeartbeats 4000000 in
set_option maxRecDepth 100000 in
theorem c_X9_stepInside (l : Launch) (g : gE)  {σ : gS} {ζ : gQ} (p0 : Int32) (p1 : Int32) (p2 : Int32) (p3 : Int32) (hQ : Q_X9_stepInside σ p0 p1 p2 p3) : gC l g mX9_stepInside (rm 3 88) [.ref 0, .int p0, .int p1, .int p2, .int p3] (hp σ ζ) (fun r h => r = some (.int (F_X9_stepInside σ p0 p1 p2 p3).1) ∧ h = hp (F_X9_stepInside σ p0 p1 p2 p3).2 ζ) := by
  refine gC_of (by decide) (Nat.le_of_ble_eq_true rfl) ?_
  generalize hF : (F_X9_stepInside σ p0 p1 p2 p3) = fr
  rw [F_X9_stepInside_eq] at hF
  unfold Fr_X9_stepInside at hF
  unfold Q_X9_stepInside at hQ
  refine g_aload_n dX9_stepInside_0 rfl rfl rfl ?_
  refine g_get gClX9 18 (by decide) fl_X9_82 dX9_stepInside_1 (ho_0 _ _) rfl rfl ?_
  refine g_get gClX2 0 (by decide) fl_X9_250 dX9_stepInside_4 (ho_21 _ _) rfl rfl ?_
  refine g_astoreL (L1 := [(0, _), (1, _), (2, _), (3, _), (4, _), (5, _)]) dX9_stepInside_7 (by decide) rfl rfl ?_
  refine g_aload_n dX9_stepInside_9 rfl rfl rfl ?_
  refine g_get gClX9 15 (by decide) fl_X9_61 dX9_stepInside_10 (ho_0 _ _) rfl rfl ?_
  refine g_aload_n dX9_stepInside_13 rfl rfl rfl ?_
  refine g_get gClX9 10 (by decide) fl_X9_147 dX9_stepInside_14 (ho_0 _ _) rfl rfl ?_
  refine g_iload_n dX9_stepInside_17 rfl rfl rfl ?_
  refine g_iload_n dX9_stepInside_18 rfl rfl rfl ?_
  refine g_aload dX9_stepInside_19 rfl rfl ?_
  refine g_get gClX8 0 (by decide) fl_X9_230 dX9_stepInside_21 (ho_22 _ _) rfl rfl ?_
  refine g_aload dX9_stepInside_24 rfl rfl ?_
  refine g_get gClX8 1 (by decide) fl_X9_235 dX9_stepInside_26 (ho_22 _ _) rfl rfl ?_
  have o1 := hQ.1
  replace hQ := hQ.2
  refine g_callv mv_X3_write ml_X9_226 (c_X3_write l g _ _ _ _ _ o1) (ho_15 _ _) rfl rfl (Nat.le_of_ble_eq_true rfl) (Nat.le_of_ble_eq_true rfl) (Nat.le_of_ble_eq_true rfl) (Nat.le_of_ble_eq_true rfl) rfl (Nat.le_of_ble_eq_true rfl) dX9_stepInside_29 rfl (fun r2 hr2 pr2 => ?_)
  obtain ⟨rfl, rfl⟩ := pr2
  refine g_ifne (tgt := 37) dX9_stepInside_32 (by decide) rfl (fun c4 => ?_) (fun c4 => ?_)
  · replace hF := ite_n hF c4
    try replace hQ := ite_r hQ c4
    refine g_aload_n dX9_stepInside_37 rfl rfl rfl ?_
    refine g_get gClX9 18 (by decide) fl_X9_82 dX9_stepInside_38 (ho_0 _ _) rfl rfl ?_
    refine g_iload_n dX9_stepInside_41 rfl rfl rfl ?_
    refine g_put gClX2 1 (by decide) fl_X9_156 rfl dX9_stepInside_42 (ho_21 _ _) rfl rfl (Nat.le_of_ble_eq_true rfl) po_21_1 rfl ?_
    refine g_aload_n dX9_stepInside_45 rfl rfl rfl ?_
    refine g_get gClX9 18 (by decide) fl_X9_82 dX9_stepInside_46 (ho_0 _ _) rfl rfl ?_
    refine g_iload dX9_stepInside_49 rfl rfl ?_
    refine g_put gClX2 2 (by decide) fl_X9_195 rfl dX9_stepInside_51 (ho_21 _ _) rfl rfl (Nat.le_of_ble_eq_true rfl) po_21_2 rfl ?_
    refine g_iconst (v := 1) dX9_stepInside_54 (by decide) rfl ?_
    subst hF
    exact g_zret rfl dX9_stepInside_55 (by decide) (Nat.le_of_ble_eq_true rfl) (Nat.le_of_ble_eq_true rfl) ⟨rfl, rfl⟩
  · replace hF := ite_p hF c4
    try replace hQ := ite_q hQ c4
    refine g_iconst (v := 0) dX9_stepInside_35 (by decide) rfl ?_
    subst hF
    exact g_zret rfl dX9_stepInside_36 (by decide) (Nat.le_of_ble_eq_true rfl) (Nat.le_of_ble_eq_true rfl) ⟨rfl, rfl⟩
noncomputable def Fr_X9_meetInnerCard (σ : gS)  : Int32 × gS :=
  if (σ 0 5) = (-1 : Int32) then
    ((0 : Int32), σ)
  else
    let f4 := (F_X9_stepInside σ (42 : Int32) (0 : Int32) (3 : Int32) (2 : Int32))
    if f4.1 = 0 then
      ((1 : Int32), f4.2)
    else
      let s6 := (pf f4.2 21 3 (f4.2 0 5) : gS)
      ((1 : Int32), s6)
noncomputable def F_X9_meetInnerCard : gS → Int32 × gS := Classical.choose (⟨Fr_X9_meetInnerCard, rfl⟩ : ∃ f : gS → Int32 × gS, f = Fr_X9_meetInnerCard)
theorem F_X9_meetInnerCard_eq : F_X9_meetInnerCard = Fr_X9_meetInnerCard := Classical.choose_spec (⟨Fr_X9_meetInnerCard, rfl⟩ : ∃ f : gS → Int32 × gS, f = Fr_X9_meetInnerCard)
def Q_X9_meetInnerCard (σ : gS)  : Prop :=
  if (σ 0 5) = (-1 : Int32) then
    (True)
  else
    ((Q_X9_stepInside σ (42 : Int32) (0 : Int32) (3 : Int32) (2 : Int32)) ∧ (let f4 := (F_X9_stepInside σ (42 : Int32) (0 : Int32) (3 : Int32) (2 : Int32))
    if f4.1 = 0 then
      (True)
    else
      (let s6 := (pf f4.2 21 3 (f4.2 0 5) : gS)
      True)))
set_option maxHeartbeats 4000000 in
set_option maxRecDepth 100000 in
theorem c_X9_meetInnerCard (l : Launch) (g : gE)  {σ : gS} {ζ : gQ}  (hQ : Q_X9_meetInnerCard σ ) : gC l g mX9_meetInnerCard (rm 4 113) [.ref 0] (hp σ ζ) (fun r h => r = some (.int (F_X9_meetInnerCard σ ).1) ∧ h = hp (F_X9_meetInnerCard σ ).2 ζ) := by
  refine gC_of (by decide) (Nat.le_of_ble_eq_true rfl) ?_
  generalize hF : (F_X9_meetInnerCard σ ) = fr
  rw [F_X9_meetInnerCard_eq] at hF
  unfold Fr_X9_meetInnerCard at hF
  unfold Q_X9_meetInnerCard at hQ
  refine g_aload_n dX9_meetInnerCard_0 rfl rfl rfl ?_
  refine g_get gClX9 5 (by decide) fl_X9_31 dX9_meetInnerCard_1 (ho_0 _ _) rfl rfl ?_
  refine g_iconst (v := (-1)) dX9_meetInnerCard_4 (by decide) rfl ?_
  refine g_icmpne (tgt := 10) dX9_meetInnerCard_5 (by decide) rfl (fun c1 => ?_) (fun c1 => ?_)
  · replace hF := ite_n hF c1
    try replace hQ := ite_r hQ c1
    refine g_aload_n dX9_meetInnerCard_10 rfl rfl rfl ?_
    refine g_bipush (v := 42) dX9_meetInnerCard_11 (by decide) rfl ?_
    refine g_iconst (v := 0) dX9_meetInnerCard_13 (by decide) rfl ?_
    refine g_iconst (v := 3) dX9_meetInnerCard_14 (by decide) rfl ?_
    refine g_iconst (v := 2) dX9_meetInnerCard_15 (by decide) rfl ?_
    have o2 := hQ.1
    replace hQ := hQ.2
    refine g_callv mv_X9_stepInside ml_X9_397 (c_X9_stepInside l g _ _ _ _ o2) (ho_0 _ _) rfl rfl (Nat.le_of_ble_eq_true rfl) (Nat.le_of_ble_eq_true rfl) (Nat.le_of_ble_eq_true rfl) (Nat.le_of_ble_eq_true rfl) rfl (Nat.le_of_ble_eq_true rfl) dX9_meetInnerCard_16 rfl (fun r3 hr3 pr3 => ?_)
    obtain ⟨rfl, rfl⟩ := pr3
    refine g_ifeq (tgt := 33) dX9_meetInnerCard_19 (by decide) rfl (fun c5 => ?_) (fun c5 => ?_)
    · replace hF := ite_p hF c5
      try replace hQ := ite_q hQ c5
      refine g_iconst (v := 1) dX9_meetInnerCard_33 (by decide) rfl ?_
      subst hF
      exact g_zret rfl dX9_meetInnerCard_34 (by decide) (Nat.le_of_ble_eq_true rfl) (Nat.le_of_ble_eq_true rfl) ⟨rfl, rfl⟩
    · replace hF := ite_n hF c5
      try replace hQ := ite_r hQ c5
      refine g_aload_n dX9_meetInnerCard_22 rfl rfl rfl ?_
      refine g_get gClX9 18 (by decide) fl_X9_82 dX9_meetInnerCard_23 (ho_0 _ _) rfl rfl ?_
      refine g_aload_n dX9_meetInnerCard_26 rfl rfl rfl ?_
      refine g_get gClX9 5 (by decide) fl_X9_31 dX9_meetInnerCard_27 (ho_0 _ _) rfl rfl ?_
      refine g_put gClX2 3 (by decide) fl_X9_249 rfl dX9_meetInnerCard_30 (ho_21 _ _) rfl rfl (Nat.le_of_ble_eq_true rfl) po_21_3 rfl ?_
      refine g_iconst (v := 1) dX9_meetInnerCard_33 (by decide) rfl ?_
      subst hF
      exact g_zret rfl dX9_meetInnerCard_34 (by decide) (Nat.le_of_ble_eq_true rfl) (Nat.le_of_ble_eq_true rfl) ⟨rfl, rfl⟩
  · replace hF := ite_p hF c1
    try replace hQ := ite_q hQ c1
    refine g_iconst (v := 0) dX9_meetInnerCard_8 (by decide) rfl ?_
    subst hF
    exact g_zret rfl dX9_meetInnerCard_9 (by decide) (Nat.le_of_ble_eq_true rfl) (Nat.le_of_ble_eq_true rfl) ⟨rfl, rfl⟩
noncomputable def J_X9_roleEnds_67  (σ : gS) : Int32 × gS :=
  let f5 := (F_X9_stepInside σ (48 : Int32) (1 : Int32) (4 : Int32) (4 : Int32))
  if f5.1 = 0 then
    ((1 : Int32), f5.2)
  else
    let s7 := (pf f5.2 21 4 (-1 : Int32) : gS)
    ((1 : Int32), s7)
def QJ_X9_roleEnds_67  (σ : gS) : Prop :=
  (Q_X9_stepInside σ (48 : Int32) (1 : Int32) (4 : Int32) (4 : Int32)) ∧ (let f5 := (F_X9_stepInside σ (48 : Int32) (1 : Int32) (4 : Int32) (4 : Int32))
  if f5.1 = 0 then
    (True)
  else
    (let s7 := (pf f5.2 21 4 (-1 : Int32) : gS)
    True))
set_option maxHeartbeats 4000000 in
set_option maxRecDepth 100000 in
theorem j_X9_roleEnds_67 (l : Launch) (g : gE)  {ζ : gQ} {fr : Int32 × gS} : ∀ (σ : gS), QJ_X9_roleEnds_67  σ → J_X9_roleEnds_67  σ = fr → gG l g mX9_roleEnds (rm 4 113) (gZm g (rm 4 113) (fun r h => r = some (.int fr.1) ∧ h = hp fr.2 ζ)) 67 [(0, .ref 0)] [] (hp σ ζ) 0 0 := by
  intro σ hQ hF
  unfold J_X9_roleEnds_67 at hF
  unfold QJ_X9_roleEnds_67 at hQ
  refine g_aload_n dX9_roleEnds_67 rfl rfl rfl ?_
  refine g_bipush (v := 48) dX9_roleEnds_68 (by decide) rfl ?_
  refine g_iconst (v := 1) dX9_roleEnds_70 (by decide) rfl ?_
  refine g_iconst (v := 4) dX9_roleEnds_71 (by decide) rfl ?_
  refine g_iconst (v := 4) dX9_roleEnds_72 (by decide) rfl ?_
  have o3 := hQ.1
  replace hQ := hQ.2
  refine g_callv mv_X9_stepInside ml_X9_397 (c_X9_stepInside l g _ _ _ _ o3) (ho_0 _ _) rfl rfl (Nat.le_of_ble_eq_true rfl) (Nat.le_of_ble_eq_true rfl) (Nat.le_of_ble_eq_true rfl) (Nat.le_of_ble_eq_true rfl) rfl (Nat.le_of_ble_eq_true rfl) dX9_roleEnds_73 rfl (fun r4 hr4 pr4 => ?_)
  obtain ⟨rfl, rfl⟩ := pr4
  refine g_ifeq (tgt := 87) dX9_roleEnds_76 (by decide) rfl (fun c6 => ?_) (fun c6 => ?_)
  · replace hF := ite_p hF c6
    try replace hQ := ite_q hQ c6
    refine g_iconst (v := 1) dX9_roleEnds_87 (by decide) rfl ?_
    subst hF
    exact g_zret rfl dX9_roleEnds_88 (by decide) (Nat.le_of_ble_eq_true rfl) (Nat.le_of_ble_eq_true rfl) ⟨rfl, rfl⟩
  · replace hF := ite_n hF c6
    try replace hQ := ite_r hQ c6
    refine g_aload_n dX9_roleEnds_79 rfl rfl rfl ?_
    refine g_get gClX9 18 (by decide) fl_X9_82 dX9_roleEnds_80 (ho_0 _ _) rfl rfl ?_
    refine g_iconst (v := (-1)) dX9_roleEnds_83 (by decide) rfl ?_
    refine g_put gClX2 4 (by decide) fl_X9_198 rfl dX9_roleEnds_84 (ho_21 _ _) rfl rfl (Nat.le_of_ble_eq_true rfl) po_21_4 rfl ?_
    refine g_iconst (v := 1) dX9_roleEnds_87 (by decide) rfl ?_
    subst hF
    exact g_zret rfl dX9_roleEnds_88 (by decide) (Nat.le_of_ble_eq_true rfl) (Nat.le_of_ble_eq_true rfl) ⟨rfl, rfl⟩
noncomputable def Fr_X9_roleEnds (σ : gS)  : Int32 × gS :=
  if (σ 0 5) = (σ 21 3) then
    if (σ 22 3) = 0 then
      J_X9_roleEnds_67  σ
    else
      if (σ 22 6) = (σ 21 4) then
        ((0 : Int32), σ)
      else
        J_X9_roleEnds_67  σ
  else
    let f11 := (F_X9_stepInside σ (47 : Int32) (0 : Int32) (2 : Int32) (1 : Int32))
    if f11.1 = 0 then
      ((1 : Int32), f11.2)
    else
      let s13 := (pf f11.2 21 4 (-1 : Int32) : gS)
      ((1 : Int32), s13)
noncomputable def F_X9_roleEnds : gS → Int32 × gS := Classical.choose (⟨Fr_X9_roleEnds, rfl⟩ : ∃ f : gS → Int32 × gS, f = Fr_X9_roleEnds)
theorem F_X9_roleEnds_eq : F_X9_roleEnds = Fr_X9_roleEnds := Classical.choose_spec (⟨Fr_X9_roleEnds, rfl⟩ : ∃ f : gS → Int32 × gS, f = Fr_X9_roleEnds)
def Q_X9_roleEnds (σ : gS)  : Prop :=
  if (σ 0 5) = (σ 21 3) then
    (if (σ 22 3) = 0 then
      (QJ_X9_roleEnds_67  σ)
    else
      (if (σ 22 6) = (σ 21 4) then
        (True)
      else
        (QJ_X9_roleEnds_67  σ)))
  else
    ((Q_X9_stepInside σ (47 : Int32) (0 : Int32) (2 : Int32) (1 : Int32)) ∧ (let f11 := (F_X9_stepInside σ (47 : Int32) (0 : Int32) (2 : Int32) (1 : Int32))
    if f11.1 = 0 then
      (True)
    else
      (let s13 := (pf f11.2 21 4 (-1 : Int32) : gS)
      True)))
set_option maxHeartbeats 4000000 in
set_option maxRecDepth 100000 in
theorem c_X9_roleEnds (l : Launch) (g : gE)  {σ : gS} {ζ : gQ}  (hQ : Q_X9_roleEnds σ ) : gC l g mX9_roleEnds (rm 4 113) [.ref 0] (hp σ ζ) (fun r h => r = some (.int (F_X9_roleEnds σ ).1) ∧ h = hp (F_X9_roleEnds σ ).2 ζ) := by
  refine gC_of (by decide) (Nat.le_of_ble_eq_true rfl) ?_
  generalize hF : (F_X9_roleEnds σ ) = fr
  rw [F_X9_roleEnds_eq] at hF
  unfold Fr_X9_roleEnds at hF
  unfold Q_X9_roleEnds at hQ
  refine g_aload_n dX9_roleEnds_0 rfl rfl rfl ?_
  refine g_get gClX9 18 (by decide) fl_X9_82 dX9_roleEnds_1 (ho_0 _ _) rfl rfl ?_
  refine g_get gClX2 0 (by decide) fl_X9_250 dX9_roleEnds_4 (ho_21 _ _) rfl rfl ?_
  refine g_astoreL_n (L1 := [(0, _), (1, _)]) dX9_roleEnds_7 rfl (by decide) rfl rfl ?_
  refine g_aload_n dX9_roleEnds_8 rfl rfl rfl ?_
  refine g_get gClX9 5 (by decide) fl_X9_31 dX9_roleEnds_9 (ho_0 _ _) rfl rfl ?_
  refine g_aload_n dX9_roleEnds_12 rfl rfl rfl ?_
  refine g_get gClX9 18 (by decide) fl_X9_82 dX9_roleEnds_13 (ho_0 _ _) rfl rfl ?_
  refine g_get gClX2 3 (by decide) fl_X9_249 dX9_roleEnds_16 (ho_21 _ _) rfl rfl ?_
  refine g_icmpeq (tgt := 44) dX9_roleEnds_19 (by decide) rfl (fun c1 => ?_) (fun c1 => ?_)
  · replace hF := ite_p hF c1
    try replace hQ := ite_q hQ c1
    refine g_aload_n dX9_roleEnds_44 rfl rfl rfl ?_
    refine g_get gClX8 3 (by decide) fl_X9_300 dX9_roleEnds_45 (ho_22 _ _) rfl rfl ?_
    refine g_ifeq (tgt := 67) dX9_roleEnds_48 (by decide) rfl (fun c2 => ?_) (fun c2 => ?_)
    · replace hF := ite_p hF c2
      try replace hQ := ite_q hQ c2
      refine g_sub [0] rfl ?_
      exact j_X9_roleEnds_67 l g _ hQ hF
    · replace hF := ite_n hF c2
      try replace hQ := ite_r hQ c2
      refine g_aload_n dX9_roleEnds_51 rfl rfl rfl ?_
      refine g_get gClX8 6 (by decide) fl_X9_400 dX9_roleEnds_52 (ho_22 _ _) rfl rfl ?_
      refine g_aload_n dX9_roleEnds_55 rfl rfl rfl ?_
      refine g_get gClX9 18 (by decide) fl_X9_82 dX9_roleEnds_56 (ho_0 _ _) rfl rfl ?_
      refine g_get gClX2 4 (by decide) fl_X9_198 dX9_roleEnds_59 (ho_21 _ _) rfl rfl ?_
      refine g_icmpne (tgt := 67) dX9_roleEnds_62 (by decide) rfl (fun c8 => ?_) (fun c8 => ?_)
      · replace hF := ite_n hF c8
        try replace hQ := ite_r hQ c8
        refine g_sub [0] rfl ?_
        exact j_X9_roleEnds_67 l g _ hQ hF
      · replace hF := ite_p hF c8
        try replace hQ := ite_q hQ c8
        refine g_iconst (v := 0) dX9_roleEnds_65 (by decide) rfl ?_
        subst hF
        exact g_zret rfl dX9_roleEnds_66 (by decide) (Nat.le_of_ble_eq_true rfl) (Nat.le_of_ble_eq_true rfl) ⟨rfl, rfl⟩
  · replace hF := ite_n hF c1
    try replace hQ := ite_r hQ c1
    refine g_aload_n dX9_roleEnds_22 rfl rfl rfl ?_
    refine g_bipush (v := 47) dX9_roleEnds_23 (by decide) rfl ?_
    refine g_iconst (v := 0) dX9_roleEnds_25 (by decide) rfl ?_
    refine g_iconst (v := 2) dX9_roleEnds_26 (by decide) rfl ?_
    refine g_iconst (v := 1) dX9_roleEnds_27 (by decide) rfl ?_
    have o9 := hQ.1
    replace hQ := hQ.2
    refine g_callv mv_X9_stepInside ml_X9_397 (c_X9_stepInside l g _ _ _ _ o9) (ho_0 _ _) rfl rfl (Nat.le_of_ble_eq_true rfl) (Nat.le_of_ble_eq_true rfl) (Nat.le_of_ble_eq_true rfl) (Nat.le_of_ble_eq_true rfl) rfl (Nat.le_of_ble_eq_true rfl) dX9_roleEnds_28 rfl (fun r10 hr10 pr10 => ?_)
    obtain ⟨rfl, rfl⟩ := pr10
    refine g_ifeq (tgt := 42) dX9_roleEnds_31 (by decide) rfl (fun c12 => ?_) (fun c12 => ?_)
    · replace hF := ite_p hF c12
      try replace hQ := ite_q hQ c12
      refine g_iconst (v := 1) dX9_roleEnds_42 (by decide) rfl ?_
      subst hF
      exact g_zret rfl dX9_roleEnds_43 (by decide) (Nat.le_of_ble_eq_true rfl) (Nat.le_of_ble_eq_true rfl) ⟨rfl, rfl⟩
    · replace hF := ite_n hF c12
      try replace hQ := ite_r hQ c12
      refine g_aload_n dX9_roleEnds_34 rfl rfl rfl ?_
      refine g_get gClX9 18 (by decide) fl_X9_82 dX9_roleEnds_35 (ho_0 _ _) rfl rfl ?_
      refine g_iconst (v := (-1)) dX9_roleEnds_38 (by decide) rfl ?_
      refine g_put gClX2 4 (by decide) fl_X9_198 rfl dX9_roleEnds_39 (ho_21 _ _) rfl rfl (Nat.le_of_ble_eq_true rfl) po_21_4 rfl ?_
      refine g_iconst (v := 1) dX9_roleEnds_42 (by decide) rfl ?_
      subst hF
      exact g_zret rfl dX9_roleEnds_43 (by decide) (Nat.le_of_ble_eq_true rfl) (Nat.le_of_ble_eq_true rfl) ⟨rfl, rfl⟩
noncomputable def Fr_X9_roleFor (p0 : Int32) : Int32 :=
  if p0 = 1 then
    (2 : Int32)
  else
    if p0 = 3 then
      (1 : Int32)
    else
      (3 : Int32)
noncomputable def F_X9_roleFor : Int32 → Int32 := Classical.choose (⟨Fr_X9_roleFor, rfl⟩ : ∃ f : Int32 → Int32, f = Fr_X9_roleFor)
theorem F_X9_roleFor_eq : F_X9_roleFor = Fr_X9_roleFor := Classical.choose_spec (⟨Fr_X9_roleFor, rfl⟩ : ∃ f : Int32 → Int32, f = Fr_X9_roleFor)
set_option maxHeartbeats 4000000 in
set_option maxRecDepth 100000 in
theorem c_X9_roleFor (l : Launch) (g : gE)  {σ : gS} {ζ : gQ} (p0 : Int32) : gC l g mX9_roleFor (rm 0 0) [.int p0] (hp σ ζ) (fun r h => r = some (.int (F_X9_roleFor p0)) ∧ h = hp σ ζ) := by
  refine gC_of (by decide) (Nat.le_of_ble_eq_true rfl) ?_
  generalize hF : (F_X9_roleFor p0) = fr
  rw [F_X9_roleFor_eq] at hF
  unfold Fr_X9_roleFor at hF
  refine g_iload_n dX9_roleFor_0 rfl rfl rfl ?_
  refine g_case 1 (fun c1 => ?_) (fun c1 => ?_)
  · replace hF := ite_p hF c1
    refine g_lookup (tgt := 28) dX9_roleFor_1 (by decide) (by decide) ?_
    refine g_iconst (v := 2) dX9_roleFor_28 (by decide) rfl ?_
    subst hF
    exact g_iret rfl dX9_roleFor_29 (Nat.le_of_ble_eq_true rfl) (Nat.le_of_ble_eq_true rfl) ⟨rfl, rfl⟩
  · replace hF := ite_n hF c1
    refine g_case 3 (fun c2 => ?_) (fun c2 => ?_)
    · replace hF := ite_p hF c2
      refine g_lookup (tgt := 30) dX9_roleFor_1 (by decide) (by decide) ?_
      refine g_iconst (v := 1) dX9_roleFor_30 (by decide) rfl ?_
      subst hF
      exact g_iret rfl dX9_roleFor_31 (Nat.le_of_ble_eq_true rfl) (Nat.le_of_ble_eq_true rfl) ⟨rfl, rfl⟩
    · replace hF := ite_n hF c2
      refine g_lookup (tgt := 32) dX9_roleFor_1 (by decide) (by show _ + Op.lookupswitch.offset [(1, 27), (3, 29)] 31 _ = _; rw [lv_osw (a := 1) c1 (by decide), lv_osw (a := 3) c2 (by decide)]; rfl) ?_
      refine g_iconst (v := 3) dX9_roleFor_32 (by decide) rfl ?_
      subst hF
      exact g_iret rfl dX9_roleFor_33 (Nat.le_of_ble_eq_true rfl) (Nat.le_of_ble_eq_true rfl) ⟨rfl, rfl⟩
noncomputable def Fr_X9_takeKey (σ : gS)  : Int32 × gS :=
  if (σ 0 9) = 0 then
    ((0 : Int32), σ)
  else
    if (σ 21 4) = (F_X9_roleFor (σ 0 9)) then
      let f6 := (F_X9_stepInside σ ((50 : Int32) + (σ 0 9)) (0 : Int32) (5 : Int32) (6 : Int32))
      if f6.1 = 0 then
        ((1 : Int32), f6.2)
      else
        let s8 := (pf f6.2 21 5 (f6.2 0 9) : gS)
        let s9 := (pf s8 0 9 (0 : Int32) : gS)
        ((1 : Int32), s9)
    else
      let f12 := (F_X9_stepInside σ (55 : Int32) (1 : Int32) (2 : Int32) (3 : Int32))
      if f12.1 = 0 then
        ((1 : Int32), f12.2)
      else
        let s14 := (pf f12.2 0 9 (0 : Int32) : gS)
        ((1 : Int32), s14)
noncomputable def F_X9_takeKey : gS → Int32 × gS := Classical.choose (⟨Fr_X9_takeKey, rfl⟩ : ∃ f : gS → Int32 × gS, f = Fr_X9_takeKey)
theorem F_X9_takeKey_eq : F_X9_takeKey = Fr_X9_takeKey := Classical.choose_spec (⟨Fr_X9_takeKey, rfl⟩ : ∃ f : gS → Int32 × gS, f = Fr_X9_takeKey)
def Q_X9_takeKey (σ : gS)  : Prop :=
  if (σ 0 9) = 0 then
    (True)
  else
    (if (σ 21 4) = (F_X9_roleFor (σ 0 9)) then
      ((Q_X9_stepInside σ ((50 : Int32) + (σ 0 9)) (0 : Int32) (5 : Int32) (6 : Int32)) ∧ (let f6 := (F_X9_stepInside σ ((50 : Int32) + (σ 0 9)) (0 : Int32) (5 : Int32) (6 : Int32))
      if f6.1 = 0 then
        (True)
      else
        (let s8 := (pf f6.2 21 5 (f6.2 0 9) : gS)
        let s9 := (pf s8 0 9 (0 : Int32) : gS)
        True)))
    else
      ((Q_X9_stepInside σ (55 : Int32) (1 : Int32) (2 : Int32) (3 : Int32)) ∧ (let f12 := (F_X9_stepInside σ (55 : Int32) (1 : Int32) (2 : Int32) (3 : Int32))
      if f12.1 = 0 then
        (True)
      else
        (let s14 := (pf f12.2 0 9 (0 : Int32) : gS)
        True))))
set_option maxHeartbeats 4000000 in
set_option maxRecDepth 100000 in
theorem c_X9_takeKey (l : Launch) (g : gE)  {σ : gS} {ζ : gQ}  (hQ : Q_X9_takeKey σ ) : gC l g mX9_takeKey (rm 4 113) [.ref 0] (hp σ ζ) (fun r h => r = some (.int (F_X9_takeKey σ ).1) ∧ h = hp (F_X9_takeKey σ ).2 ζ) := by
  refine gC_of (by decide) (Nat.le_of_ble_eq_true rfl) ?_
  generalize hF : (F_X9_takeKey σ ) = fr
  rw [F_X9_takeKey_eq] at hF
  unfold Fr_X9_takeKey at hF
  unfold Q_X9_takeKey at hQ
  refine g_aload_n dX9_takeKey_0 rfl rfl rfl ?_
  refine g_get gClX9 9 (by decide) fl_X9_142 dX9_takeKey_1 (ho_0 _ _) rfl rfl ?_
  refine g_ifne (tgt := 9) dX9_takeKey_4 (by decide) rfl (fun c1 => ?_) (fun c1 => ?_)
  · replace hF := ite_n hF c1
    try replace hQ := ite_r hQ c1
    refine g_aload_n dX9_takeKey_9 rfl rfl rfl ?_
    refine g_get gClX9 18 (by decide) fl_X9_82 dX9_takeKey_10 (ho_0 _ _) rfl rfl ?_
    refine g_get gClX2 4 (by decide) fl_X9_198 dX9_takeKey_13 (ho_21 _ _) rfl rfl ?_
    refine g_aload_n dX9_takeKey_16 rfl rfl rfl ?_
    refine g_get gClX9 9 (by decide) fl_X9_142 dX9_takeKey_17 (ho_0 _ _) rfl rfl ?_
    refine g_calls mt_X9_roleFor ms_X9_roleFor ml_X9_403 (c_X9_roleFor l g _) rfl (Nat.le_of_ble_eq_true rfl) (Nat.le_of_ble_eq_true rfl) (Nat.le_of_ble_eq_true rfl) (Nat.le_of_ble_eq_true rfl) rfl (Nat.le_of_ble_eq_true rfl) dX9_takeKey_20 rfl (fun r2 hr2 pr2 => ?_)
    obtain ⟨rfl, rfl⟩ := pr2
    refine g_icmpeq (tgt := 46) dX9_takeKey_23 (by decide) rfl (fun c3 => ?_) (fun c3 => ?_)
    · replace hF := ite_p hF c3
      try replace hQ := ite_q hQ c3
      refine g_aload_n dX9_takeKey_46 rfl rfl rfl ?_
      refine g_bipush (v := 50) dX9_takeKey_47 (by decide) rfl ?_
      refine g_aload_n dX9_takeKey_49 rfl rfl rfl ?_
      refine g_get gClX9 9 (by decide) fl_X9_142 dX9_takeKey_50 (ho_0 _ _) rfl rfl ?_
      refine g_iadd dX9_takeKey_53 rfl ?_
      refine g_iconst (v := 0) dX9_takeKey_54 (by decide) rfl ?_
      refine g_iconst (v := 5) dX9_takeKey_55 (by decide) rfl ?_
      refine g_bipush (v := 6) dX9_takeKey_56 (by decide) rfl ?_
      have o4 := hQ.1
      replace hQ := hQ.2
      refine g_callv mv_X9_stepInside ml_X9_397 (c_X9_stepInside l g _ _ _ _ o4) (ho_0 _ _) rfl rfl (Nat.le_of_ble_eq_true rfl) (Nat.le_of_ble_eq_true rfl) (Nat.le_of_ble_eq_true rfl) (Nat.le_of_ble_eq_true rfl) rfl (Nat.le_of_ble_eq_true rfl) dX9_takeKey_58 rfl (fun r5 hr5 pr5 => ?_)
      obtain ⟨rfl, rfl⟩ := pr5
      refine g_ifeq (tgt := 80) dX9_takeKey_61 (by decide) rfl (fun c7 => ?_) (fun c7 => ?_)
      · replace hF := ite_p hF c7
        try replace hQ := ite_q hQ c7
        refine g_iconst (v := 1) dX9_takeKey_80 (by decide) rfl ?_
        subst hF
        exact g_zret rfl dX9_takeKey_81 (by decide) (Nat.le_of_ble_eq_true rfl) (Nat.le_of_ble_eq_true rfl) ⟨rfl, rfl⟩
      · replace hF := ite_n hF c7
        try replace hQ := ite_r hQ c7
        refine g_aload_n dX9_takeKey_64 rfl rfl rfl ?_
        refine g_get gClX9 18 (by decide) fl_X9_82 dX9_takeKey_65 (ho_0 _ _) rfl rfl ?_
        refine g_aload_n dX9_takeKey_68 rfl rfl rfl ?_
        refine g_get gClX9 9 (by decide) fl_X9_142 dX9_takeKey_69 (ho_0 _ _) rfl rfl ?_
        refine g_put gClX2 5 (by decide) fl_X9_406 rfl dX9_takeKey_72 (ho_21 _ _) rfl rfl (Nat.le_of_ble_eq_true rfl) po_21_5 rfl ?_
        refine g_aload_n dX9_takeKey_75 rfl rfl rfl ?_
        refine g_iconst (v := 0) dX9_takeKey_76 (by decide) rfl ?_
        refine g_put gClX9 9 (by decide) fl_X9_142 rfl dX9_takeKey_77 (ho_0 _ _) rfl rfl (Nat.le_of_ble_eq_true rfl) po_0_9 rfl ?_
        refine g_iconst (v := 1) dX9_takeKey_80 (by decide) rfl ?_
        subst hF
        exact g_zret rfl dX9_takeKey_81 (by decide) (Nat.le_of_ble_eq_true rfl) (Nat.le_of_ble_eq_true rfl) ⟨rfl, rfl⟩
    · replace hF := ite_n hF c3
      try replace hQ := ite_r hQ c3
      refine g_aload_n dX9_takeKey_26 rfl rfl rfl ?_
      refine g_bipush (v := 55) dX9_takeKey_27 (by decide) rfl ?_
      refine g_iconst (v := 1) dX9_takeKey_29 (by decide) rfl ?_
      refine g_iconst (v := 2) dX9_takeKey_30 (by decide) rfl ?_
      refine g_iconst (v := 3) dX9_takeKey_31 (by decide) rfl ?_
      have o10 := hQ.1
      replace hQ := hQ.2
      refine g_callv mv_X9_stepInside ml_X9_397 (c_X9_stepInside l g _ _ _ _ o10) (ho_0 _ _) rfl rfl (Nat.le_of_ble_eq_true rfl) (Nat.le_of_ble_eq_true rfl) (Nat.le_of_ble_eq_true rfl) (Nat.le_of_ble_eq_true rfl) rfl (Nat.le_of_ble_eq_true rfl) dX9_takeKey_32 rfl (fun r11 hr11 pr11 => ?_)
      obtain ⟨rfl, rfl⟩ := pr11
      refine g_ifeq (tgt := 80) dX9_takeKey_35 (by decide) rfl (fun c13 => ?_) (fun c13 => ?_)
      · replace hF := ite_p hF c13
        try replace hQ := ite_q hQ c13
        refine g_iconst (v := 1) dX9_takeKey_80 (by decide) rfl ?_
        subst hF
        exact g_zret rfl dX9_takeKey_81 (by decide) (Nat.le_of_ble_eq_true rfl) (Nat.le_of_ble_eq_true rfl) ⟨rfl, rfl⟩
      · replace hF := ite_n hF c13
        try replace hQ := ite_r hQ c13
        refine g_aload_n dX9_takeKey_38 rfl rfl rfl ?_
        refine g_iconst (v := 0) dX9_takeKey_39 (by decide) rfl ?_
        refine g_put gClX9 9 (by decide) fl_X9_142 rfl dX9_takeKey_40 (ho_0 _ _) rfl rfl (Nat.le_of_ble_eq_true rfl) po_0_9 rfl ?_
        refine g_goto (tgt := 80) dX9_takeKey_43 (by decide) ?_
        refine g_iconst (v := 1) dX9_takeKey_80 (by decide) rfl ?_
        subst hF
        exact g_zret rfl dX9_takeKey_81 (by decide) (Nat.le_of_ble_eq_true rfl) (Nat.le_of_ble_eq_true rfl) ⟨rfl, rfl⟩
  · replace hF := ite_p hF c1
    try replace hQ := ite_q hQ c1
    refine g_iconst (v := 0) dX9_takeKey_7 (by decide) rfl ?_
    subst hF
    exact g_zret rfl dX9_takeKey_8 (by decide) (Nat.le_of_ble_eq_true rfl) (Nat.le_of_ble_eq_true rfl) ⟨rfl, rfl⟩
noncomputable def J_X9_judgeInnerCard_49  (σ : gS) : Int32 × gS :=
  let f5 := (F_X9_stepInside σ (45 : Int32) (1 : Int32) (4 : Int32) (4 : Int32))
  ((1 : Int32), f5.2)
def QJ_X9_judgeInnerCard_49  (σ : gS) : Prop :=
  (Q_X9_stepInside σ (45 : Int32) (1 : Int32) (4 : Int32) (4 : Int32)) ∧ (let f5 := (F_X9_stepInside σ (45 : Int32) (1 : Int32) (4 : Int32) (4 : Int32))
  True)
set_option maxHeartbeats 4000000 in
set_option maxRecDepth 100000 in
theorem j_X9_judgeInnerCard_49 (l : Launch) (g : gE)  {ζ : gQ} {fr : Int32 × gS} : ∀ (σ : gS), QJ_X9_judgeInnerCard_49  σ → J_X9_judgeInnerCard_49  σ = fr → gG l g mX9_judgeInnerCard (rm 4 113) (gZm g (rm 4 113) (fun r h => r = some (.int fr.1) ∧ h = hp fr.2 ζ)) 49 [(0, .ref 0)] [] (hp σ ζ) 0 0 := by
  intro σ hQ hF
  unfold J_X9_judgeInnerCard_49 at hF
  unfold QJ_X9_judgeInnerCard_49 at hQ
  refine g_aload_n dX9_judgeInnerCard_49 rfl rfl rfl ?_
  refine g_bipush (v := 45) dX9_judgeInnerCard_50 (by decide) rfl ?_
  refine g_iconst (v := 1) dX9_judgeInnerCard_52 (by decide) rfl ?_
  refine g_iconst (v := 4) dX9_judgeInnerCard_53 (by decide) rfl ?_
  refine g_iconst (v := 4) dX9_judgeInnerCard_54 (by decide) rfl ?_
  have o3 := hQ.1
  replace hQ := hQ.2
  refine g_callv mv_X9_stepInside ml_X9_397 (c_X9_stepInside l g _ _ _ _ o3) (ho_0 _ _) rfl rfl (Nat.le_of_ble_eq_true rfl) (Nat.le_of_ble_eq_true rfl) (Nat.le_of_ble_eq_true rfl) (Nat.le_of_ble_eq_true rfl) rfl (Nat.le_of_ble_eq_true rfl) dX9_judgeInnerCard_55 rfl (fun r4 hr4 pr4 => ?_)
  obtain ⟨rfl, rfl⟩ := pr4
  refine g_pop dX9_judgeInnerCard_58 rfl rfl ?_
  refine g_goto (tgt := 85) dX9_judgeInnerCard_59 (by decide) ?_
  refine g_iconst (v := 1) dX9_judgeInnerCard_85 (by decide) rfl ?_
  subst hF
  exact g_zret rfl dX9_judgeInnerCard_86 (by decide) (Nat.le_of_ble_eq_true rfl) (Nat.le_of_ble_eq_true rfl) ⟨rfl, rfl⟩
noncomputable def Fr_X9_judgeInnerCard (σ : gS)  : Int32 × gS :=
  if (σ 0 5) = (σ 21 3) then
    if (σ 22 3) = 0 then
      J_X9_judgeInnerCard_49  σ
    else
      if (σ 22 6) = 0 then
        J_X9_judgeInnerCard_49  σ
      else
        let f9 := (F_X9_stepInside σ (44 : Int32) (0 : Int32) (2 : Int32) (5 : Int32))
        if f9.1 = 0 then
          ((1 : Int32), f9.2)
        else
          let s11 := (pf f9.2 21 4 (f9.2 22 6) : gS)
          ((1 : Int32), s11)
  else
    let f14 := (F_X9_stepInside σ (43 : Int32) (1 : Int32) (2 : Int32) (1 : Int32))
    ((1 : Int32), f14.2)
noncomputable def F_X9_judgeInnerCard : gS → Int32 × gS := Classical.choose (⟨Fr_X9_judgeInnerCard, rfl⟩ : ∃ f : gS → Int32 × gS, f = Fr_X9_judgeInnerCard)
theorem F_X9_judgeInnerCard_eq : F_X9_judgeInnerCard = Fr_X9_judgeInnerCard := Classical.choose_spec (⟨Fr_X9_judgeInnerCard, rfl⟩ : ∃ f : gS → Int32 × gS, f = Fr_X9_judgeInnerCard)
def Q_X9_judgeInnerCard (σ : gS)  : Prop :=
  if (σ 0 5) = (σ 21 3) then
    (if (σ 22 3) = 0 then
      (QJ_X9_judgeInnerCard_49  σ)
    else
      (if (σ 22 6) = 0 then
        (QJ_X9_judgeInnerCard_49  σ)
      else
        ((Q_X9_stepInside σ (44 : Int32) (0 : Int32) (2 : Int32) (5 : Int32)) ∧ (let f9 := (F_X9_stepInside σ (44 : Int32) (0 : Int32) (2 : Int32) (5 : Int32))
        if f9.1 = 0 then
          (True)
        else
          (let s11 := (pf f9.2 21 4 (f9.2 22 6) : gS)
          True)))))
  else
    ((Q_X9_stepInside σ (43 : Int32) (1 : Int32) (2 : Int32) (1 : Int32)) ∧ (let f14 := (F_X9_stepInside σ (43 : Int32) (1 : Int32) (2 : Int32) (1 : Int32))
    True))
set_option maxHeartbeats 4000000 in
set_option maxRecDepth 100000 in
theorem c_X9_judgeInnerCard (l : Launch) (g : gE)  {σ : gS} {ζ : gQ}  (hQ : Q_X9_judgeInnerCard σ ) : gC l g mX9_judgeInnerCard (rm 4 113) [.ref 0] (hp σ ζ) (fun r h => r = some (.int (F_X9_judgeInnerCard σ ).1) ∧ h = hp (F_X9_judgeInnerCard σ ).2 ζ) := by
  refine gC_of (by decide) (Nat.le_of_ble_eq_true rfl) ?_
  generalize hF : (F_X9_judgeInnerCard σ ) = fr
  rw [F_X9_judgeInnerCard_eq] at hF
  unfold Fr_X9_judgeInnerCard at hF
  unfold Q_X9_judgeInnerCard at hQ
  refine g_aload_n dX9_judgeInnerCard_0 rfl rfl rfl ?_
  refine g_get gClX9 18 (by decide) fl_X9_82 dX9_judgeInnerCard_1 (ho_0 _ _) rfl rfl ?_
  refine g_get gClX2 0 (by decide) fl_X9_250 dX9_judgeInnerCard_4 (ho_21 _ _) rfl rfl ?_
  refine g_astoreL_n (L1 := [(0, _), (1, _)]) dX9_judgeInnerCard_7 rfl (by decide) rfl rfl ?_
  refine g_aload_n dX9_judgeInnerCard_8 rfl rfl rfl ?_
  refine g_get gClX9 5 (by decide) fl_X9_31 dX9_judgeInnerCard_9 (ho_0 _ _) rfl rfl ?_
  refine g_aload_n dX9_judgeInnerCard_12 rfl rfl rfl ?_
  refine g_get gClX9 18 (by decide) fl_X9_82 dX9_judgeInnerCard_13 (ho_0 _ _) rfl rfl ?_
  refine g_get gClX2 3 (by decide) fl_X9_249 dX9_judgeInnerCard_16 (ho_21 _ _) rfl rfl ?_
  refine g_icmpeq (tgt := 35) dX9_judgeInnerCard_19 (by decide) rfl (fun c1 => ?_) (fun c1 => ?_)
  · replace hF := ite_p hF c1
    try replace hQ := ite_q hQ c1
    refine g_aload_n dX9_judgeInnerCard_35 rfl rfl rfl ?_
    refine g_get gClX8 3 (by decide) fl_X9_300 dX9_judgeInnerCard_36 (ho_22 _ _) rfl rfl ?_
    refine g_ifeq (tgt := 49) dX9_judgeInnerCard_39 (by decide) rfl (fun c2 => ?_) (fun c2 => ?_)
    · replace hF := ite_p hF c2
      try replace hQ := ite_q hQ c2
      refine g_sub [0] rfl ?_
      exact j_X9_judgeInnerCard_49 l g _ hQ hF
    · replace hF := ite_n hF c2
      try replace hQ := ite_r hQ c2
      refine g_aload_n dX9_judgeInnerCard_42 rfl rfl rfl ?_
      refine g_get gClX8 6 (by decide) fl_X9_400 dX9_judgeInnerCard_43 (ho_22 _ _) rfl rfl ?_
      refine g_ifne (tgt := 62) dX9_judgeInnerCard_46 (by decide) rfl (fun c6 => ?_) (fun c6 => ?_)
      · replace hF := ite_n hF c6
        try replace hQ := ite_r hQ c6
        refine g_aload_n dX9_judgeInnerCard_62 rfl rfl rfl ?_
        refine g_bipush (v := 44) dX9_judgeInnerCard_63 (by decide) rfl ?_
        refine g_iconst (v := 0) dX9_judgeInnerCard_65 (by decide) rfl ?_
        refine g_iconst (v := 2) dX9_judgeInnerCard_66 (by decide) rfl ?_
        refine g_iconst (v := 5) dX9_judgeInnerCard_67 (by decide) rfl ?_
        have o7 := hQ.1
        replace hQ := hQ.2
        refine g_callv mv_X9_stepInside ml_X9_397 (c_X9_stepInside l g _ _ _ _ o7) (ho_0 _ _) rfl rfl (Nat.le_of_ble_eq_true rfl) (Nat.le_of_ble_eq_true rfl) (Nat.le_of_ble_eq_true rfl) (Nat.le_of_ble_eq_true rfl) rfl (Nat.le_of_ble_eq_true rfl) dX9_judgeInnerCard_68 rfl (fun r8 hr8 pr8 => ?_)
        obtain ⟨rfl, rfl⟩ := pr8
        refine g_ifeq (tgt := 85) dX9_judgeInnerCard_71 (by decide) rfl (fun c10 => ?_) (fun c10 => ?_)
        · replace hF := ite_p hF c10
          try replace hQ := ite_q hQ c10
          refine g_iconst (v := 1) dX9_judgeInnerCard_85 (by decide) rfl ?_
          subst hF
          exact g_zret rfl dX9_judgeInnerCard_86 (by decide) (Nat.le_of_ble_eq_true rfl) (Nat.le_of_ble_eq_true rfl) ⟨rfl, rfl⟩
        · replace hF := ite_n hF c10
          try replace hQ := ite_r hQ c10
          refine g_aload_n dX9_judgeInnerCard_74 rfl rfl rfl ?_
          refine g_get gClX9 18 (by decide) fl_X9_82 dX9_judgeInnerCard_75 (ho_0 _ _) rfl rfl ?_
          refine g_aload_n dX9_judgeInnerCard_78 rfl rfl rfl ?_
          refine g_get gClX8 6 (by decide) fl_X9_400 dX9_judgeInnerCard_79 (ho_22 _ _) rfl rfl ?_
          refine g_put gClX2 4 (by decide) fl_X9_198 rfl dX9_judgeInnerCard_82 (ho_21 _ _) rfl rfl (Nat.le_of_ble_eq_true rfl) po_21_4 rfl ?_
          refine g_iconst (v := 1) dX9_judgeInnerCard_85 (by decide) rfl ?_
          subst hF
          exact g_zret rfl dX9_judgeInnerCard_86 (by decide) (Nat.le_of_ble_eq_true rfl) (Nat.le_of_ble_eq_true rfl) ⟨rfl, rfl⟩
      · replace hF := ite_p hF c6
        try replace hQ := ite_q hQ c6
        refine g_sub [0] rfl ?_
        exact j_X9_judgeInnerCard_49 l g _ hQ hF
  · replace hF := ite_n hF c1
    try replace hQ := ite_r hQ c1
    refine g_aload_n dX9_judgeInnerCard_22 rfl rfl rfl ?_
    refine g_bipush (v := 43) dX9_judgeInnerCard_23 (by decide) rfl ?_
    refine g_iconst (v := 1) dX9_judgeInnerCard_25 (by decide) rfl ?_
    refine g_iconst (v := 2) dX9_judgeInnerCard_26 (by decide) rfl ?_
    refine g_iconst (v := 1) dX9_judgeInnerCard_27 (by decide) rfl ?_
    have o12 := hQ.1
    replace hQ := hQ.2
    refine g_callv mv_X9_stepInside ml_X9_397 (c_X9_stepInside l g _ _ _ _ o12) (ho_0 _ _) rfl rfl (Nat.le_of_ble_eq_true rfl) (Nat.le_of_ble_eq_true rfl) (Nat.le_of_ble_eq_true rfl) (Nat.le_of_ble_eq_true rfl) rfl (Nat.le_of_ble_eq_true rfl) dX9_judgeInnerCard_28 rfl (fun r13 hr13 pr13 => ?_)
    obtain ⟨rfl, rfl⟩ := pr13
    refine g_pop dX9_judgeInnerCard_31 rfl rfl ?_
    refine g_goto (tgt := 85) dX9_judgeInnerCard_32 (by decide) ?_
    refine g_iconst (v := 1) dX9_judgeInnerCard_85 (by decide) rfl ?_
    subst hF
    exact g_zret rfl dX9_judgeInnerCard_86 (by decide) (Nat.le_of_ble_eq_true rfl) (Nat.le_of_ble_eq_true rfl) ⟨rfl, rfl⟩
noncomputable def Fr_X9_endInnerVisit (σ : gS)  : Int32 × gS :=
  if (σ 0 5) = (-1 : Int32) then
    let f4 := (F_X9_stepInside σ (46 : Int32) (0 : Int32) (2 : Int32) (1 : Int32))
    ((1 : Int32), f4.2)
  else
    ((0 : Int32), σ)
noncomputable def F_X9_endInnerVisit : gS → Int32 × gS := Classical.choose (⟨Fr_X9_endInnerVisit, rfl⟩ : ∃ f : gS → Int32 × gS, f = Fr_X9_endInnerVisit)
theorem F_X9_endInnerVisit_eq : F_X9_endInnerVisit = Fr_X9_endInnerVisit := Classical.choose_spec (⟨Fr_X9_endInnerVisit, rfl⟩ : ∃ f : gS → Int32 × gS, f = Fr_X9_endInnerVisit)
def Q_X9_endInnerVisit (σ : gS)  : Prop :=
  if (σ 0 5) = (-1 : Int32) then
    ((Q_X9_stepInside σ (46 : Int32) (0 : Int32) (2 : Int32) (1 : Int32)) ∧ (let f4 := (F_X9_stepInside σ (46 : Int32) (0 : Int32) (2 : Int32) (1 : Int32))
    True))
  else
    (True)
set_option maxHeartbeats 4000000 in
set_option maxRecDepth 100000 in
theorem c_X9_endInnerVisit (l : Launch) (g : gE)  {σ : gS} {ζ : gQ}  (hQ : Q_X9_endInnerVisit σ ) : gC l g mX9_endInnerVisit (rm 4 113) [.ref 0] (hp σ ζ) (fun r h => r = some (.int (F_X9_endInnerVisit σ ).1) ∧ h = hp (F_X9_endInnerVisit σ ).2 ζ) := by
  refine gC_of (by decide) (Nat.le_of_ble_eq_true rfl) ?_
  generalize hF : (F_X9_endInnerVisit σ ) = fr
  rw [F_X9_endInnerVisit_eq] at hF
  unfold Fr_X9_endInnerVisit at hF
  unfold Q_X9_endInnerVisit at hQ
  refine g_aload_n dX9_endInnerVisit_0 rfl rfl rfl ?_
  refine g_get gClX9 5 (by decide) fl_X9_31 dX9_endInnerVisit_1 (ho_0 _ _) rfl rfl ?_
  refine g_iconst (v := (-1)) dX9_endInnerVisit_4 (by decide) rfl ?_
  refine g_icmpeq (tgt := 10) dX9_endInnerVisit_5 (by decide) rfl (fun c1 => ?_) (fun c1 => ?_)
  · replace hF := ite_p hF c1
    try replace hQ := ite_q hQ c1
    refine g_aload_n dX9_endInnerVisit_10 rfl rfl rfl ?_
    refine g_bipush (v := 46) dX9_endInnerVisit_11 (by decide) rfl ?_
    refine g_iconst (v := 0) dX9_endInnerVisit_13 (by decide) rfl ?_
    refine g_iconst (v := 2) dX9_endInnerVisit_14 (by decide) rfl ?_
    refine g_iconst (v := 1) dX9_endInnerVisit_15 (by decide) rfl ?_
    have o2 := hQ.1
    replace hQ := hQ.2
    refine g_callv mv_X9_stepInside ml_X9_397 (c_X9_stepInside l g _ _ _ _ o2) (ho_0 _ _) rfl rfl (Nat.le_of_ble_eq_true rfl) (Nat.le_of_ble_eq_true rfl) (Nat.le_of_ble_eq_true rfl) (Nat.le_of_ble_eq_true rfl) rfl (Nat.le_of_ble_eq_true rfl) dX9_endInnerVisit_16 rfl (fun r3 hr3 pr3 => ?_)
    obtain ⟨rfl, rfl⟩ := pr3
    refine g_pop dX9_endInnerVisit_19 rfl rfl ?_
    refine g_iconst (v := 1) dX9_endInnerVisit_20 (by decide) rfl ?_
    subst hF
    exact g_zret rfl dX9_endInnerVisit_21 (by decide) (Nat.le_of_ble_eq_true rfl) (Nat.le_of_ble_eq_true rfl) ⟨rfl, rfl⟩
  · replace hF := ite_n hF c1
    try replace hQ := ite_r hQ c1
    refine g_iconst (v := 0) dX9_endInnerVisit_8 (by decide) rfl ?_
    subst hF
    exact g_zret rfl dX9_endInnerVisit_9 (by decide) (Nat.le_of_ble_eq_true rfl) (Nat.le_of_ble_eq_true rfl) ⟨rfl, rfl⟩
noncomputable def Fr_X9_startArchive (σ : gS)  : Int32 × gS :=
  let f3 := (F_X9_stepInside σ (56 : Int32) (0 : Int32) (6 : Int32) (6 : Int32))
  if f3.1 = 0 then
    ((1 : Int32), f3.2)
  else
    let s6 := (pf f3.2 21 6 (F_X3_oldestNumber f3.2 ) : gS)
    let s7 := (pf s6 21 7 (if (24 : Int32) < (s6 15 1) then (24 : Int32) else (s6 15 1)) : gS)
    let s8 := (pf s7 3 1 (0 : Int32) : gS)
    let s11 := (F_X0_addByte s8 3 400 (82 : Int32))
    let s14 := (F_X3_copyOldest s11 (s11 21 7))
    ((1 : Int32), s14)
noncomputable def F_X9_startArchive : gS → Int32 × gS := Classical.choose (⟨Fr_X9_startArchive, rfl⟩ : ∃ f : gS → Int32 × gS, f = Fr_X9_startArchive)
theorem F_X9_startArchive_eq : F_X9_startArchive = Fr_X9_startArchive := Classical.choose_spec (⟨Fr_X9_startArchive, rfl⟩ : ∃ f : gS → Int32 × gS, f = Fr_X9_startArchive)
def Q_X9_startArchive (σ : gS)  : Prop :=
  (Q_X9_stepInside σ (56 : Int32) (0 : Int32) (6 : Int32) (6 : Int32)) ∧ (let f3 := (F_X9_stepInside σ (56 : Int32) (0 : Int32) (6 : Int32) (6 : Int32))
  if f3.1 = 0 then
    (True)
  else
    (let s6 := (pf f3.2 21 6 (F_X3_oldestNumber f3.2 ) : gS)
    let s7 := (pf s6 21 7 (if (24 : Int32) < (s6 15 1) then (24 : Int32) else (s6 15 1)) : gS)
    let s8 := (pf s7 3 1 (0 : Int32) : gS)
    (Q_X0_addByte s8 3 400 (82 : Int32)) ∧ (let s11 := (F_X0_addByte s8 3 400 (82 : Int32))
    (Q_X3_copyOldest s11 (s11 21 7)) ∧ (let s14 := (F_X3_copyOldest s11 (s11 21 7))
    True))))
set_option maxHeartbeats 4000000 in
set_option maxRecDepth 100000 in
theorem c_X9_startArchive (l : Launch) (g : gE)  {σ : gS} {ζ : gQ}  (hQ : Q_X9_startArchive σ ) : gC l g mX9_startArchive (rm 4 113) [.ref 0] (hp σ ζ) (fun r h => r = some (.int (F_X9_startArchive σ ).1) ∧ h = hp (F_X9_startArchive σ ).2 ζ) := by
  refine gC_of (by decide) (Nat.le_of_ble_eq_true rfl) ?_
  generalize hF : (F_X9_startArchive σ ) = fr
  rw [F_X9_startArchive_eq] at hF
  unfold Fr_X9_startArchive at hF
  unfold Q_X9_startArchive at hQ
  refine g_aload_n dX9_startArchive_0 rfl rfl rfl ?_
  refine g_bipush (v := 56) dX9_startArchive_1 (by decide) rfl ?_
  refine g_iconst (v := 0) dX9_startArchive_3 (by decide) rfl ?_
  refine g_bipush (v := 6) dX9_startArchive_4 (by decide) rfl ?_
  refine g_bipush (v := 6) dX9_startArchive_6 (by decide) rfl ?_
  have o1 := hQ.1
  replace hQ := hQ.2
  refine g_callv mv_X9_stepInside ml_X9_397 (c_X9_stepInside l g _ _ _ _ o1) (ho_0 _ _) rfl rfl (Nat.le_of_ble_eq_true rfl) (Nat.le_of_ble_eq_true rfl) (Nat.le_of_ble_eq_true rfl) (Nat.le_of_ble_eq_true rfl) rfl (Nat.le_of_ble_eq_true rfl) dX9_startArchive_8 rfl (fun r2 hr2 pr2 => ?_)
  obtain ⟨rfl, rfl⟩ := pr2
  refine g_ifeq (tgt := 82) dX9_startArchive_11 (by decide) rfl (fun c4 => ?_) (fun c4 => ?_)
  · replace hF := ite_p hF c4
    try replace hQ := ite_q hQ c4
    refine g_iconst (v := 1) dX9_startArchive_82 (by decide) rfl ?_
    subst hF
    exact g_zret rfl dX9_startArchive_83 (by decide) (Nat.le_of_ble_eq_true rfl) (Nat.le_of_ble_eq_true rfl) ⟨rfl, rfl⟩
  · replace hF := ite_n hF c4
    try replace hQ := ite_r hQ c4
    refine g_aload_n dX9_startArchive_14 rfl rfl rfl ?_
    refine g_get gClX9 18 (by decide) fl_X9_82 dX9_startArchive_15 (ho_0 _ _) rfl rfl ?_
    refine g_aload_n dX9_startArchive_18 rfl rfl rfl ?_
    refine g_get gClX9 15 (by decide) fl_X9_61 dX9_startArchive_19 (ho_0 _ _) rfl rfl ?_
    refine g_callv mv_X3_oldestNumber ml_X9_424 (c_X3_oldestNumber l g) (ho_15 _ _) rfl rfl (Nat.le_of_ble_eq_true rfl) (Nat.le_of_ble_eq_true rfl) (Nat.le_of_ble_eq_true rfl) (Nat.le_of_ble_eq_true rfl) rfl (Nat.le_of_ble_eq_true rfl) dX9_startArchive_22 rfl (fun r5 hr5 pr5 => ?_)
    obtain ⟨rfl, rfl⟩ := pr5
    refine g_put gClX2 6 (by decide) fl_X9_427 rfl dX9_startArchive_25 (ho_21 _ _) rfl rfl (Nat.le_of_ble_eq_true rfl) po_21_6 rfl ?_
    refine g_aload_n dX9_startArchive_28 rfl rfl rfl ?_
    refine g_get gClX9 18 (by decide) fl_X9_82 dX9_startArchive_29 (ho_0 _ _) rfl rfl ?_
    refine g_aload_n dX9_startArchive_32 rfl rfl rfl ?_
    refine g_get gClX9 15 (by decide) fl_X9_61 dX9_startArchive_33 (ho_0 _ _) rfl rfl ?_
    refine g_get gClX3 1 (by decide) fl_X9_201 dX9_startArchive_36 (ho_15 _ _) rfl rfl ?_
    refine g_bipush (v := 24) dX9_startArchive_39 (by decide) rfl ?_
    refine g_min ml_X9_430 st_min in_Math cd_min (Nat.le_of_ble_eq_true rfl) (Nat.le_of_ble_eq_true rfl) (Nat.le_of_ble_eq_true rfl) (Nat.le_of_ble_eq_true rfl) dX9_startArchive_41 rfl ?_
    refine g_put gClX2 7 (by decide) fl_X9_435 rfl dX9_startArchive_44 (ho_21 _ _) rfl rfl (Nat.le_of_ble_eq_true rfl) po_21_7 rfl ?_
    refine g_aload_n dX9_startArchive_47 rfl rfl rfl ?_
    refine g_get gClX9 1 (by decide) fl_X9_18 dX9_startArchive_48 (ho_0 _ _) rfl rfl ?_
    refine g_iconst (v := 0) dX9_startArchive_51 (by decide) rfl ?_
    refine g_put gClX0 1 (by decide) fl_X9_103 rfl dX9_startArchive_52 (ho_3 _ _) rfl rfl (Nat.le_of_ble_eq_true rfl) po_3_1 rfl ?_
    refine g_aload_n dX9_startArchive_55 rfl rfl rfl ?_
    refine g_get gClX9 1 (by decide) fl_X9_18 dX9_startArchive_56 (ho_0 _ _) rfl rfl ?_
    refine g_bipush (v := 82) dX9_startArchive_59 (by decide) rfl ?_
    have o9 := hQ.1
    replace hQ := hQ.2
    refine g_callv mv_X0_addByte ml_X9_334 (c_X0_addByte l g isB_disk _ o9) (ho_3 _ _) rfl rfl (Nat.le_of_ble_eq_true rfl) (Nat.le_of_ble_eq_true rfl) (Nat.le_of_ble_eq_true rfl) (Nat.le_of_ble_eq_true rfl) rfl (Nat.le_of_ble_eq_true rfl) dX9_startArchive_61 rfl (fun r10 hr10 pr10 => ?_)
    obtain ⟨rfl, rfl⟩ := pr10
    refine g_aload_n dX9_startArchive_64 rfl rfl rfl ?_
    refine g_get gClX9 15 (by decide) fl_X9_61 dX9_startArchive_65 (ho_0 _ _) rfl rfl ?_
    refine g_aload_n dX9_startArchive_68 rfl rfl rfl ?_
    refine g_get gClX9 18 (by decide) fl_X9_82 dX9_startArchive_69 (ho_0 _ _) rfl rfl ?_
    refine g_get gClX2 7 (by decide) fl_X9_435 dX9_startArchive_72 (ho_21 _ _) rfl rfl ?_
    refine g_aload_n dX9_startArchive_75 rfl rfl rfl ?_
    refine g_get gClX9 1 (by decide) fl_X9_18 dX9_startArchive_76 (ho_0 _ _) rfl rfl ?_
    have o12 := hQ.1
    replace hQ := hQ.2
    refine g_callv mv_X3_copyOldest ml_X9_438 (c_X3_copyOldest l g _ o12) (ho_15 _ _) rfl rfl (Nat.le_of_ble_eq_true rfl) (Nat.le_of_ble_eq_true rfl) (Nat.le_of_ble_eq_true rfl) (Nat.le_of_ble_eq_true rfl) rfl (Nat.le_of_ble_eq_true rfl) dX9_startArchive_79 rfl (fun r13 hr13 pr13 => ?_)
    obtain ⟨rfl, rfl⟩ := pr13
    refine g_iconst (v := 1) dX9_startArchive_82 (by decide) rfl ?_
    subst hF
    exact g_zret rfl dX9_startArchive_83 (by decide) (Nat.le_of_ble_eq_true rfl) (Nat.le_of_ble_eq_true rfl) ⟨rfl, rfl⟩
noncomputable def J_X9_askForDisk_17  (u0 : Int32) (σ : gS) : Int32 × gS :=
  let s2 := (pf σ 21 2 (7 : Int32) : gS)
  if u0 = 0 then
    ((1 : Int32), s2)
  else
    ((0 : Int32), s2)
def QJ_X9_askForDisk_17  (u0 : Int32) (σ : gS) : Prop :=
  let s2 := (pf σ 21 2 (7 : Int32) : gS)
  if u0 = 0 then
    (True)
  else
    (True)
set_option maxHeartbeats 4000000 in
set_option maxRecDepth 100000 in
theorem j_X9_askForDisk_17 (l : Launch) (g : gE)  {ζ : gQ} {fr : Int32 × gS} : ∀ (u0 : Int32) (σ : gS), QJ_X9_askForDisk_17  u0 σ → J_X9_askForDisk_17  u0 σ = fr → gG l g mX9_askForDisk (rm 0 0) (gZm g (rm 0 0) (fun r h => r = some (.int fr.1) ∧ h = hp fr.2 ζ)) 17 [(0, .ref 0)] [.int u0] (hp σ ζ) 0 0 := by
  intro u0 σ hQ hF
  unfold J_X9_askForDisk_17 at hF
  unfold QJ_X9_askForDisk_17 at hQ
  refine g_istoreL_n (L1 := [(0, _), (1, _)]) dX9_askForDisk_17 rfl (by decide) rfl rfl ?_
  refine g_aload_n dX9_askForDisk_18 rfl rfl rfl ?_
  refine g_get gClX9 18 (by decide) fl_X9_82 dX9_askForDisk_19 (ho_0 _ _) rfl rfl ?_
  refine g_bipush (v := 7) dX9_askForDisk_22 (by decide) rfl ?_
  refine g_put gClX2 2 (by decide) fl_X9_195 rfl dX9_askForDisk_24 (ho_21 _ _) rfl rfl (Nat.le_of_ble_eq_true rfl) po_21_2 rfl ?_
  refine g_iload_n dX9_askForDisk_27 rfl rfl rfl ?_
  refine g_ifne (tgt := 35) dX9_askForDisk_28 (by decide) rfl (fun c3 => ?_) (fun c3 => ?_)
  · replace hF := ite_n hF c3
    try replace hQ := ite_r hQ c3
    refine g_iconst (v := 0) dX9_askForDisk_35 (by decide) rfl ?_
    subst hF
    exact g_zret rfl dX9_askForDisk_36 (by decide) (Nat.le_of_ble_eq_true rfl) (Nat.le_of_ble_eq_true rfl) ⟨rfl, rfl⟩
  · replace hF := ite_p hF c3
    try replace hQ := ite_q hQ c3
    refine g_iconst (v := 1) dX9_askForDisk_31 (by decide) rfl ?_
    refine g_goto (tgt := 36) dX9_askForDisk_32 (by decide) ?_
    subst hF
    exact g_zret rfl dX9_askForDisk_36 (by decide) (Nat.le_of_ble_eq_true rfl) (Nat.le_of_ble_eq_true rfl) ⟨rfl, rfl⟩
noncomputable def Fr_X9_askForDisk (σ : gS)  : Int32 × gS :=
  if (σ 21 2) = (7 : Int32) then
    J_X9_askForDisk_17  (1 : Int32) σ
  else
    J_X9_askForDisk_17  (0 : Int32) σ
noncomputable def F_X9_askForDisk : gS → Int32 × gS := Classical.choose (⟨Fr_X9_askForDisk, rfl⟩ : ∃ f : gS → Int32 × gS, f = Fr_X9_askForDisk)
theorem F_X9_askForDisk_eq : F_X9_askForDisk = Fr_X9_askForDisk := Classical.choose_spec (⟨Fr_X9_askForDisk, rfl⟩ : ∃ f : gS → Int32 × gS, f = Fr_X9_askForDisk)
def Q_X9_askForDisk (σ : gS)  : Prop :=
  if (σ 21 2) = (7 : Int32) then
    (QJ_X9_askForDisk_17  (1 : Int32) σ)
  else
    (QJ_X9_askForDisk_17  (0 : Int32) σ)
set_option maxHeartbeats 4000000 in
set_option maxRecDepth 100000 in
theorem c_X9_askForDisk (l : Launch) (g : gE)  {σ : gS} {ζ : gQ}  (hQ : Q_X9_askForDisk σ ) : gC l g mX9_askForDisk (rm 0 0) [.ref 0] (hp σ ζ) (fun r h => r = some (.int (F_X9_askForDisk σ ).1) ∧ h = hp (F_X9_askForDisk σ ).2 ζ) := by
  refine gC_of (by decide) (Nat.le_of_ble_eq_true rfl) ?_
  generalize hF : (F_X9_askForDisk σ ) = fr
  rw [F_X9_askForDisk_eq] at hF
  unfold Fr_X9_askForDisk at hF
  unfold Q_X9_askForDisk at hQ
  refine g_aload_n dX9_askForDisk_0 rfl rfl rfl ?_
  refine g_get gClX9 18 (by decide) fl_X9_82 dX9_askForDisk_1 (ho_0 _ _) rfl rfl ?_
  refine g_get gClX2 2 (by decide) fl_X9_195 dX9_askForDisk_4 (ho_21 _ _) rfl rfl ?_
  refine g_bipush (v := 7) dX9_askForDisk_7 (by decide) rfl ?_
  refine g_icmpne (tgt := 16) dX9_askForDisk_9 (by decide) rfl (fun c1 => ?_) (fun c1 => ?_)
  · replace hF := ite_n hF c1
    try replace hQ := ite_r hQ c1
    refine g_iconst (v := 0) dX9_askForDisk_16 (by decide) rfl ?_
    refine g_sub [0] rfl ?_
    exact j_X9_askForDisk_17 l g _ _ hQ hF
  · replace hF := ite_p hF c1
    try replace hQ := ite_q hQ c1
    refine g_iconst (v := 1) dX9_askForDisk_12 (by decide) rfl ?_
    refine g_goto (tgt := 17) dX9_askForDisk_13 (by decide) ?_
    refine g_sub [0] rfl ?_
    exact j_X9_askForDisk_17 l g _ _ hQ hF
