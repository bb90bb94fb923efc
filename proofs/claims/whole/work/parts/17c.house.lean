/-! StationHouse: by program -/
noncomputable def Fr_X9_meetOuterCard (σ : gS)  : Int32 × gS :=
  if (σ 0 4) = (-1 : Int32) then
    ((0 : Int32), σ)
  else
    let f4 := (F_X9_stepOutside σ (2 : Int32) (0 : Int32) (1 : Int32) (3 : Int32))
    if f4.1 = 0 then
      ((1 : Int32), f4.2)
    else
      let s6 := (pf f4.2 19 3 (f4.2 0 4) : gS)
      ((1 : Int32), s6)
noncomputable def F_X9_meetOuterCard : gS → Int32 × gS := Classical.choose (⟨Fr_X9_meetOuterCard, rfl⟩ : ∃ f : gS → Int32 × gS, f = Fr_X9_meetOuterCard)
theorem F_X9_meetOuterCard_eq : F_X9_meetOuterCard = Fr_X9_meetOuterCard := Classical.choose_spec (⟨Fr_X9_meetOuterCard, rfl⟩ : ∃ f : gS → Int32 × gS, f = Fr_X9_meetOuterCard)
def Q_X9_meetOuterCard (σ : gS)  : Prop :=
  if (σ 0 4) = (-1 : Int32) then
    (True)
  else
    ((Q_X9_stepOutside σ (2 : Int32) (0 : Int32) (1 : Int32) (3 : Int32)) ∧ (let f4 := (F_X9_stepOutside σ (2 : Int32) (0 : Int32) (1 : Int32) (3 : Int32))
    if f4.1 = 0 then
      (True)
    else
      (let s6 := (pf f4.2 19 3 (f4.2 0 4) : gS)
      True)))
set_option maxHeartbeats 4000000 in
set_option maxRecDepth 100000 in
theorem c_X9_meetOuterCard (l : Launch) (g : gE)  {σ : gS} {ζ : gQ}  (hQ : Q_X9_meetOuterCard σ ) : gC l g mX9_meetOuterCard (rm 4 113) [.ref 0] (hp σ ζ) (fun r h => r = some (.int (F_X9_meetOuterCard σ ).1) ∧ h = hp (F_X9_meetOuterCard σ ).2 ζ) := by
  refine gC_of (by decide) (Nat.le_of_ble_eq_true rfl) ?_
  generalize hF : (F_X9_meetOuterCard σ ) = fr
  rw [F_X9_meetOuterCard_eq] at hF
  unfold Fr_X9_meetOuterCard at hF
  unfold Q_X9_meetOuterCard at hQ
  refine g_aload_n dX9_meetOuterCard_0 rfl rfl rfl ?_
  refine g_get gClX9 4 (by decide) fl_X9_27 dX9_meetOuterCard_1 (ho_0 _ _) rfl rfl ?_
  refine g_iconst (v := (-1)) dX9_meetOuterCard_4 (by decide) rfl ?_
  refine g_icmpne (tgt := 10) dX9_meetOuterCard_5 (by decide) rfl (fun c1 => ?_) (fun c1 => ?_)
  · replace hF := ite_n hF c1
    try replace hQ := ite_r hQ c1
    refine g_aload_n dX9_meetOuterCard_10 rfl rfl rfl ?_
    refine g_iconst (v := 2) dX9_meetOuterCard_11 (by decide) rfl ?_
    refine g_iconst (v := 0) dX9_meetOuterCard_12 (by decide) rfl ?_
    refine g_iconst (v := 1) dX9_meetOuterCard_13 (by decide) rfl ?_
    refine g_iconst (v := 3) dX9_meetOuterCard_14 (by decide) rfl ?_
    have o2 := hQ.1
    replace hQ := hQ.2
    refine g_callv mv_X9_stepOutside ml_X9_296 (c_X9_stepOutside l g _ _ _ _ o2) (ho_0 _ _) rfl rfl (Nat.le_of_ble_eq_true rfl) (Nat.le_of_ble_eq_true rfl) (Nat.le_of_ble_eq_true rfl) (Nat.le_of_ble_eq_true rfl) rfl (Nat.le_of_ble_eq_true rfl) dX9_meetOuterCard_15 rfl (fun r3 hr3 pr3 => ?_)
    obtain ⟨rfl, rfl⟩ := pr3
    refine g_ifeq (tgt := 32) dX9_meetOuterCard_18 (by decide) rfl (fun c5 => ?_) (fun c5 => ?_)
    · replace hF := ite_p hF c5
      try replace hQ := ite_q hQ c5
      refine g_iconst (v := 1) dX9_meetOuterCard_32 (by decide) rfl ?_
      subst hF
      exact g_zret rfl dX9_meetOuterCard_33 (by decide) (Nat.le_of_ble_eq_true rfl) (Nat.le_of_ble_eq_true rfl) ⟨rfl, rfl⟩
    · replace hF := ite_n hF c5
      try replace hQ := ite_r hQ c5
      refine g_aload_n dX9_meetOuterCard_21 rfl rfl rfl ?_
      refine g_get gClX9 17 (by decide) fl_X9_75 dX9_meetOuterCard_22 (ho_0 _ _) rfl rfl ?_
      refine g_aload_n dX9_meetOuterCard_25 rfl rfl rfl ?_
      refine g_get gClX9 4 (by decide) fl_X9_27 dX9_meetOuterCard_26 (ho_0 _ _) rfl rfl ?_
      refine g_put gClX6 3 (by decide) fl_X9_238 rfl dX9_meetOuterCard_29 (ho_19 _ _) rfl rfl (Nat.le_of_ble_eq_true rfl) po_19_3 rfl ?_
      refine g_iconst (v := 1) dX9_meetOuterCard_32 (by decide) rfl ?_
      subst hF
      exact g_zret rfl dX9_meetOuterCard_33 (by decide) (Nat.le_of_ble_eq_true rfl) (Nat.le_of_ble_eq_true rfl) ⟨rfl, rfl⟩
  · replace hF := ite_p hF c1
    try replace hQ := ite_q hQ c1
    refine g_iconst (v := 0) dX9_meetOuterCard_8 (by decide) rfl ?_
    subst hF
    exact g_zret rfl dX9_meetOuterCard_9 (by decide) (Nat.le_of_ble_eq_true rfl) (Nat.le_of_ble_eq_true rfl) ⟨rfl, rfl⟩
noncomputable def Fr_X9_judgeOuterCard (σ : gS)  : Int32 × gS :=
  if (σ 20 3) = 0 then
    if (σ 20 2) = 0 then
      let f10 := (F_X9_stepOutside σ (5 : Int32) (1 : Int32) (7 : Int32) (5 : Int32))
      ((1 : Int32), f10.2)
    else
      let f5 := (F_X9_stepOutside σ (4 : Int32) (0 : Int32) (2 : Int32) (2 : Int32))
      if f5.1 = 0 then
        ((1 : Int32), f5.2)
      else
        let s7 := (pf f5.2 19 5 ((f5.2 0 10) + (f5.2 6 (ix (2 : Int32)))) : gS)
        ((1 : Int32), s7)
  else
    let f13 := (F_X9_stepOutside σ (3 : Int32) (0 : Int32) (5 : Int32) (3 : Int32))
    ((1 : Int32), f13.2)
noncomputable def F_X9_judgeOuterCard : gS → Int32 × gS := Classical.choose (⟨Fr_X9_judgeOuterCard, rfl⟩ : ∃ f : gS → Int32 × gS, f = Fr_X9_judgeOuterCard)
theorem F_X9_judgeOuterCard_eq : F_X9_judgeOuterCard = Fr_X9_judgeOuterCard := Classical.choose_spec (⟨Fr_X9_judgeOuterCard, rfl⟩ : ∃ f : gS → Int32 × gS, f = Fr_X9_judgeOuterCard)
def Q_X9_judgeOuterCard (σ : gS)  : Prop :=
  if (σ 20 3) = 0 then
    (if (σ 20 2) = 0 then
      ((Q_X9_stepOutside σ (5 : Int32) (1 : Int32) (7 : Int32) (5 : Int32)) ∧ (let f10 := (F_X9_stepOutside σ (5 : Int32) (1 : Int32) (7 : Int32) (5 : Int32))
      True))
    else
      ((Q_X9_stepOutside σ (4 : Int32) (0 : Int32) (2 : Int32) (2 : Int32)) ∧ (let f5 := (F_X9_stepOutside σ (4 : Int32) (0 : Int32) (2 : Int32) (2 : Int32))
      if f5.1 = 0 then
        (True)
      else
        (let s7 := (pf f5.2 19 5 ((f5.2 0 10) + (f5.2 6 (ix (2 : Int32)))) : gS)
        True))))
  else
    ((Q_X9_stepOutside σ (3 : Int32) (0 : Int32) (5 : Int32) (3 : Int32)) ∧ (let f13 := (F_X9_stepOutside σ (3 : Int32) (0 : Int32) (5 : Int32) (3 : Int32))
    True))
set_option maxHeartbeats 4000000 in
set_option maxRecDepth 100000 in
theorem c_X9_judgeOuterCard (l : Launch) (g : gE)  {σ : gS} {ζ : gQ}  (hQ : Q_X9_judgeOuterCard σ ) : gC l g mX9_judgeOuterCard (rm 4 113) [.ref 0] (hp σ ζ) (fun r h => r = some (.int (F_X9_judgeOuterCard σ ).1) ∧ h = hp (F_X9_judgeOuterCard σ ).2 ζ) := by
  refine gC_of (by decide) (Nat.le_of_ble_eq_true rfl) ?_
  generalize hF : (F_X9_judgeOuterCard σ ) = fr
  rw [F_X9_judgeOuterCard_eq] at hF
  unfold Fr_X9_judgeOuterCard at hF
  unfold Q_X9_judgeOuterCard at hQ
  refine g_aload_n dX9_judgeOuterCard_0 rfl rfl rfl ?_
  refine g_get gClX9 17 (by decide) fl_X9_75 dX9_judgeOuterCard_1 (ho_0 _ _) rfl rfl ?_
  refine g_get gClX6 0 (by decide) fl_X9_241 dX9_judgeOuterCard_4 (ho_19 _ _) rfl rfl ?_
  refine g_get gClX8 3 (by decide) fl_X9_300 dX9_judgeOuterCard_7 (ho_20 _ _) rfl rfl ?_
  refine g_ifeq (tgt := 25) dX9_judgeOuterCard_10 (by decide) rfl (fun c1 => ?_) (fun c1 => ?_)
  · replace hF := ite_p hF c1
    try replace hQ := ite_q hQ c1
    refine g_aload_n dX9_judgeOuterCard_25 rfl rfl rfl ?_
    refine g_get gClX9 17 (by decide) fl_X9_75 dX9_judgeOuterCard_26 (ho_0 _ _) rfl rfl ?_
    refine g_get gClX6 0 (by decide) fl_X9_241 dX9_judgeOuterCard_29 (ho_19 _ _) rfl rfl ?_
    refine g_get gClX8 2 (by decide) fl_X9_303 dX9_judgeOuterCard_32 (ho_20 _ _) rfl rfl ?_
    refine g_ifne (tgt := 51) dX9_judgeOuterCard_35 (by decide) rfl (fun c2 => ?_) (fun c2 => ?_)
    · replace hF := ite_n hF c2
      try replace hQ := ite_r hQ c2
      refine g_aload_n dX9_judgeOuterCard_51 rfl rfl rfl ?_
      refine g_iconst (v := 4) dX9_judgeOuterCard_52 (by decide) rfl ?_
      refine g_iconst (v := 0) dX9_judgeOuterCard_53 (by decide) rfl ?_
      refine g_iconst (v := 2) dX9_judgeOuterCard_54 (by decide) rfl ?_
      refine g_iconst (v := 2) dX9_judgeOuterCard_55 (by decide) rfl ?_
      have o3 := hQ.1
      replace hQ := hQ.2
      refine g_callv mv_X9_stepOutside ml_X9_296 (c_X9_stepOutside l g _ _ _ _ o3) (ho_0 _ _) rfl rfl (Nat.le_of_ble_eq_true rfl) (Nat.le_of_ble_eq_true rfl) (Nat.le_of_ble_eq_true rfl) (Nat.le_of_ble_eq_true rfl) rfl (Nat.le_of_ble_eq_true rfl) dX9_judgeOuterCard_56 rfl (fun r4 hr4 pr4 => ?_)
      obtain ⟨rfl, rfl⟩ := pr4
      refine g_ifeq (tgt := 80) dX9_judgeOuterCard_59 (by decide) rfl (fun c6 => ?_) (fun c6 => ?_)
      · replace hF := ite_p hF c6
        try replace hQ := ite_q hQ c6
        refine g_iconst (v := 1) dX9_judgeOuterCard_80 (by decide) rfl ?_
        subst hF
        exact g_zret rfl dX9_judgeOuterCard_81 (by decide) (Nat.le_of_ble_eq_true rfl) (Nat.le_of_ble_eq_true rfl) ⟨rfl, rfl⟩
      · replace hF := ite_n hF c6
        try replace hQ := ite_r hQ c6
        refine g_aload_n dX9_judgeOuterCard_62 rfl rfl rfl ?_
        refine g_get gClX9 17 (by decide) fl_X9_75 dX9_judgeOuterCard_63 (ho_0 _ _) rfl rfl ?_
        refine g_aload_n dX9_judgeOuterCard_66 rfl rfl rfl ?_
        refine g_get gClX9 10 (by decide) fl_X9_147 dX9_judgeOuterCard_67 (ho_0 _ _) rfl rfl ?_
        refine g_aload_n dX9_judgeOuterCard_70 rfl rfl rfl ?_
        refine g_get gClX9 12 (by decide) fl_X9_40 dX9_judgeOuterCard_71 (ho_0 _ _) rfl rfl ?_
        refine g_iconst (v := 2) dX9_judgeOuterCard_74 (by decide) rfl ?_
        refine g_iald (ha_6 _ _) (vinc (by decide)) dX9_judgeOuterCard_75 rfl ?_
        refine g_iadd dX9_judgeOuterCard_76 rfl ?_
        refine g_put gClX6 5 (by decide) fl_X9_306 rfl dX9_judgeOuterCard_77 (ho_19 _ _) rfl rfl (Nat.le_of_ble_eq_true rfl) po_19_5 rfl ?_
        refine g_iconst (v := 1) dX9_judgeOuterCard_80 (by decide) rfl ?_
        subst hF
        exact g_zret rfl dX9_judgeOuterCard_81 (by decide) (Nat.le_of_ble_eq_true rfl) (Nat.le_of_ble_eq_true rfl) ⟨rfl, rfl⟩
    · replace hF := ite_p hF c2
      try replace hQ := ite_q hQ c2
      refine g_aload_n dX9_judgeOuterCard_38 rfl rfl rfl ?_
      refine g_iconst (v := 5) dX9_judgeOuterCard_39 (by decide) rfl ?_
      refine g_iconst (v := 1) dX9_judgeOuterCard_40 (by decide) rfl ?_
      refine g_bipush (v := 7) dX9_judgeOuterCard_41 (by decide) rfl ?_
      refine g_iconst (v := 5) dX9_judgeOuterCard_43 (by decide) rfl ?_
      have o8 := hQ.1
      replace hQ := hQ.2
      refine g_callv mv_X9_stepOutside ml_X9_296 (c_X9_stepOutside l g _ _ _ _ o8) (ho_0 _ _) rfl rfl (Nat.le_of_ble_eq_true rfl) (Nat.le_of_ble_eq_true rfl) (Nat.le_of_ble_eq_true rfl) (Nat.le_of_ble_eq_true rfl) rfl (Nat.le_of_ble_eq_true rfl) dX9_judgeOuterCard_44 rfl (fun r9 hr9 pr9 => ?_)
      obtain ⟨rfl, rfl⟩ := pr9
      refine g_pop dX9_judgeOuterCard_47 rfl rfl ?_
      refine g_goto (tgt := 80) dX9_judgeOuterCard_48 (by decide) ?_
      refine g_iconst (v := 1) dX9_judgeOuterCard_80 (by decide) rfl ?_
      subst hF
      exact g_zret rfl dX9_judgeOuterCard_81 (by decide) (Nat.le_of_ble_eq_true rfl) (Nat.le_of_ble_eq_true rfl) ⟨rfl, rfl⟩
  · replace hF := ite_n hF c1
    try replace hQ := ite_r hQ c1
    refine g_aload_n dX9_judgeOuterCard_13 rfl rfl rfl ?_
    refine g_iconst (v := 3) dX9_judgeOuterCard_14 (by decide) rfl ?_
    refine g_iconst (v := 0) dX9_judgeOuterCard_15 (by decide) rfl ?_
    refine g_iconst (v := 5) dX9_judgeOuterCard_16 (by decide) rfl ?_
    refine g_iconst (v := 3) dX9_judgeOuterCard_17 (by decide) rfl ?_
    have o11 := hQ.1
    replace hQ := hQ.2
    refine g_callv mv_X9_stepOutside ml_X9_296 (c_X9_stepOutside l g _ _ _ _ o11) (ho_0 _ _) rfl rfl (Nat.le_of_ble_eq_true rfl) (Nat.le_of_ble_eq_true rfl) (Nat.le_of_ble_eq_true rfl) (Nat.le_of_ble_eq_true rfl) rfl (Nat.le_of_ble_eq_true rfl) dX9_judgeOuterCard_18 rfl (fun r12 hr12 pr12 => ?_)
    obtain ⟨rfl, rfl⟩ := pr12
    refine g_pop dX9_judgeOuterCard_21 rfl rfl ?_
    refine g_goto (tgt := 80) dX9_judgeOuterCard_22 (by decide) ?_
    refine g_iconst (v := 1) dX9_judgeOuterCard_80 (by decide) rfl ?_
    subst hF
    exact g_zret rfl dX9_judgeOuterCard_81 (by decide) (Nat.le_of_ble_eq_true rfl) (Nat.le_of_ble_eq_true rfl) ⟨rfl, rfl⟩
noncomputable def Fr_X9_loseOuterCard (σ : gS)  : Int32 × gS :=
  let f3 := (F_X9_stepOutside σ (1 : Int32) (1 : Int32) (0 : Int32) (1 : Int32))
  ((1 : Int32), f3.2)
noncomputable def F_X9_loseOuterCard : gS → Int32 × gS := Classical.choose (⟨Fr_X9_loseOuterCard, rfl⟩ : ∃ f : gS → Int32 × gS, f = Fr_X9_loseOuterCard)
theorem F_X9_loseOuterCard_eq : F_X9_loseOuterCard = Fr_X9_loseOuterCard := Classical.choose_spec (⟨Fr_X9_loseOuterCard, rfl⟩ : ∃ f : gS → Int32 × gS, f = Fr_X9_loseOuterCard)
def Q_X9_loseOuterCard (σ : gS)  : Prop :=
  (Q_X9_stepOutside σ (1 : Int32) (1 : Int32) (0 : Int32) (1 : Int32)) ∧ (let f3 := (F_X9_stepOutside σ (1 : Int32) (1 : Int32) (0 : Int32) (1 : Int32))
  True)
set_option maxHeartbeats 4000000 in
set_option maxRecDepth 100000 in
theorem c_X9_loseOuterCard (l : Launch) (g : gE)  {σ : gS} {ζ : gQ}  (hQ : Q_X9_loseOuterCard σ ) : gC l g mX9_loseOuterCard (rm 4 113) [.ref 0] (hp σ ζ) (fun r h => r = some (.int (F_X9_loseOuterCard σ ).1) ∧ h = hp (F_X9_loseOuterCard σ ).2 ζ) := by
  refine gC_of (by decide) (Nat.le_of_ble_eq_true rfl) ?_
  generalize hF : (F_X9_loseOuterCard σ ) = fr
  rw [F_X9_loseOuterCard_eq] at hF
  unfold Fr_X9_loseOuterCard at hF
  unfold Q_X9_loseOuterCard at hQ
  refine g_aload_n dX9_loseOuterCard_0 rfl rfl rfl ?_
  refine g_iconst (v := 1) dX9_loseOuterCard_1 (by decide) rfl ?_
  refine g_iconst (v := 1) dX9_loseOuterCard_2 (by decide) rfl ?_
  refine g_iconst (v := 0) dX9_loseOuterCard_3 (by decide) rfl ?_
  refine g_iconst (v := 1) dX9_loseOuterCard_4 (by decide) rfl ?_
  have o1 := hQ.1
  replace hQ := hQ.2
  refine g_callv mv_X9_stepOutside ml_X9_296 (c_X9_stepOutside l g _ _ _ _ o1) (ho_0 _ _) rfl rfl (Nat.le_of_ble_eq_true rfl) (Nat.le_of_ble_eq_true rfl) (Nat.le_of_ble_eq_true rfl) (Nat.le_of_ble_eq_true rfl) rfl (Nat.le_of_ble_eq_true rfl) dX9_loseOuterCard_5 rfl (fun r2 hr2 pr2 => ?_)
  obtain ⟨rfl, rfl⟩ := pr2
  refine g_pop dX9_loseOuterCard_8 rfl rfl ?_
  refine g_iconst (v := 1) dX9_loseOuterCard_9 (by decide) rfl ?_
  subst hF
  exact g_zret rfl dX9_loseOuterCard_10 (by decide) (Nat.le_of_ble_eq_true rfl) (Nat.le_of_ble_eq_true rfl) ⟨rfl, rfl⟩
noncomputable def Fr_X9_waitForFinger (σ : gS)  : Int32 × gS :=
  if (σ 0 6) = (-1 : Int32) then
    if (σ 19 5) < (σ 0 10) then
      let f5 := (F_X9_stepOutside σ (7 : Int32) (1 : Int32) (7 : Int32) (5 : Int32))
      ((1 : Int32), f5.2)
    else
      ((0 : Int32), σ)
  else
    let f8 := (F_X9_stepOutside σ (6 : Int32) (0 : Int32) (3 : Int32) (3 : Int32))
    if f8.1 = 0 then
      ((1 : Int32), f8.2)
    else
      let s10 := (pf f8.2 19 4 (f8.2 0 6) : gS)
      ((1 : Int32), s10)
noncomputable def F_X9_waitForFinger : gS → Int32 × gS := Classical.choose (⟨Fr_X9_waitForFinger, rfl⟩ : ∃ f : gS → Int32 × gS, f = Fr_X9_waitForFinger)
theorem F_X9_waitForFinger_eq : F_X9_waitForFinger = Fr_X9_waitForFinger := Classical.choose_spec (⟨Fr_X9_waitForFinger, rfl⟩ : ∃ f : gS → Int32 × gS, f = Fr_X9_waitForFinger)
def Q_X9_waitForFinger (σ : gS)  : Prop :=
  if (σ 0 6) = (-1 : Int32) then
    (if (σ 19 5) < (σ 0 10) then
      ((Q_X9_stepOutside σ (7 : Int32) (1 : Int32) (7 : Int32) (5 : Int32)) ∧ (let f5 := (F_X9_stepOutside σ (7 : Int32) (1 : Int32) (7 : Int32) (5 : Int32))
      True))
    else
      (True))
  else
    ((Q_X9_stepOutside σ (6 : Int32) (0 : Int32) (3 : Int32) (3 : Int32)) ∧ (let f8 := (F_X9_stepOutside σ (6 : Int32) (0 : Int32) (3 : Int32) (3 : Int32))
    if f8.1 = 0 then
      (True)
    else
      (let s10 := (pf f8.2 19 4 (f8.2 0 6) : gS)
      True)))
set_option maxHeartbeats 4000000 in
set_option maxRecDepth 100000 in
theorem c_X9_waitForFinger (l : Launch) (g : gE)  {σ : gS} {ζ : gQ}  (hQ : Q_X9_waitForFinger σ ) : gC l g mX9_waitForFinger (rm 4 113) [.ref 0] (hp σ ζ) (fun r h => r = some (.int (F_X9_waitForFinger σ ).1) ∧ h = hp (F_X9_waitForFinger σ ).2 ζ) := by
  refine gC_of (by decide) (Nat.le_of_ble_eq_true rfl) ?_
  generalize hF : (F_X9_waitForFinger σ ) = fr
  rw [F_X9_waitForFinger_eq] at hF
  unfold Fr_X9_waitForFinger at hF
  unfold Q_X9_waitForFinger at hQ
  refine g_aload_n dX9_waitForFinger_0 rfl rfl rfl ?_
  refine g_get gClX9 6 (by decide) fl_X9_34 dX9_waitForFinger_1 (ho_0 _ _) rfl rfl ?_
  refine g_iconst (v := (-1)) dX9_waitForFinger_4 (by decide) rfl ?_
  refine g_icmpeq (tgt := 33) dX9_waitForFinger_5 (by decide) rfl (fun c1 => ?_) (fun c1 => ?_)
  · replace hF := ite_p hF c1
    try replace hQ := ite_q hQ c1
    refine g_aload_n dX9_waitForFinger_33 rfl rfl rfl ?_
    refine g_get gClX9 10 (by decide) fl_X9_147 dX9_waitForFinger_34 (ho_0 _ _) rfl rfl ?_
    refine g_aload_n dX9_waitForFinger_37 rfl rfl rfl ?_
    refine g_get gClX9 17 (by decide) fl_X9_75 dX9_waitForFinger_38 (ho_0 _ _) rfl rfl ?_
    refine g_get gClX6 5 (by decide) fl_X9_306 dX9_waitForFinger_41 (ho_19 _ _) rfl rfl ?_
    refine g_icmpgt (tgt := 49) dX9_waitForFinger_44 (by decide) rfl (fun c2 => ?_) (fun c2 => ?_)
    · replace hF := ite_p hF c2
      try replace hQ := ite_q hQ c2
      refine g_aload_n dX9_waitForFinger_49 rfl rfl rfl ?_
      refine g_bipush (v := 7) dX9_waitForFinger_50 (by decide) rfl ?_
      refine g_iconst (v := 1) dX9_waitForFinger_52 (by decide) rfl ?_
      refine g_bipush (v := 7) dX9_waitForFinger_53 (by decide) rfl ?_
      refine g_iconst (v := 5) dX9_waitForFinger_55 (by decide) rfl ?_
      have o3 := hQ.1
      replace hQ := hQ.2
      refine g_callv mv_X9_stepOutside ml_X9_296 (c_X9_stepOutside l g _ _ _ _ o3) (ho_0 _ _) rfl rfl (Nat.le_of_ble_eq_true rfl) (Nat.le_of_ble_eq_true rfl) (Nat.le_of_ble_eq_true rfl) (Nat.le_of_ble_eq_true rfl) rfl (Nat.le_of_ble_eq_true rfl) dX9_waitForFinger_56 rfl (fun r4 hr4 pr4 => ?_)
      obtain ⟨rfl, rfl⟩ := pr4
      refine g_pop dX9_waitForFinger_59 rfl rfl ?_
      refine g_iconst (v := 1) dX9_waitForFinger_60 (by decide) rfl ?_
      subst hF
      exact g_zret rfl dX9_waitForFinger_61 (by decide) (Nat.le_of_ble_eq_true rfl) (Nat.le_of_ble_eq_true rfl) ⟨rfl, rfl⟩
    · replace hF := ite_n hF c2
      try replace hQ := ite_r hQ c2
      refine g_iconst (v := 0) dX9_waitForFinger_47 (by decide) rfl ?_
      subst hF
      exact g_zret rfl dX9_waitForFinger_48 (by decide) (Nat.le_of_ble_eq_true rfl) (Nat.le_of_ble_eq_true rfl) ⟨rfl, rfl⟩
  · replace hF := ite_n hF c1
    try replace hQ := ite_r hQ c1
    refine g_aload_n dX9_waitForFinger_8 rfl rfl rfl ?_
    refine g_bipush (v := 6) dX9_waitForFinger_9 (by decide) rfl ?_
    refine g_iconst (v := 0) dX9_waitForFinger_11 (by decide) rfl ?_
    refine g_iconst (v := 3) dX9_waitForFinger_12 (by decide) rfl ?_
    refine g_iconst (v := 3) dX9_waitForFinger_13 (by decide) rfl ?_
    have o6 := hQ.1
    replace hQ := hQ.2
    refine g_callv mv_X9_stepOutside ml_X9_296 (c_X9_stepOutside l g _ _ _ _ o6) (ho_0 _ _) rfl rfl (Nat.le_of_ble_eq_true rfl) (Nat.le_of_ble_eq_true rfl) (Nat.le_of_ble_eq_true rfl) (Nat.le_of_ble_eq_true rfl) rfl (Nat.le_of_ble_eq_true rfl) dX9_waitForFinger_14 rfl (fun r7 hr7 pr7 => ?_)
    obtain ⟨rfl, rfl⟩ := pr7
    refine g_ifeq (tgt := 31) dX9_waitForFinger_17 (by decide) rfl (fun c9 => ?_) (fun c9 => ?_)
    · replace hF := ite_p hF c9
      try replace hQ := ite_q hQ c9
      refine g_iconst (v := 1) dX9_waitForFinger_31 (by decide) rfl ?_
      subst hF
      exact g_zret rfl dX9_waitForFinger_32 (by decide) (Nat.le_of_ble_eq_true rfl) (Nat.le_of_ble_eq_true rfl) ⟨rfl, rfl⟩
    · replace hF := ite_n hF c9
      try replace hQ := ite_r hQ c9
      refine g_aload_n dX9_waitForFinger_20 rfl rfl rfl ?_
      refine g_get gClX9 17 (by decide) fl_X9_75 dX9_waitForFinger_21 (ho_0 _ _) rfl rfl ?_
      refine g_aload_n dX9_waitForFinger_24 rfl rfl rfl ?_
      refine g_get gClX9 6 (by decide) fl_X9_34 dX9_waitForFinger_25 (ho_0 _ _) rfl rfl ?_
      refine g_put gClX6 4 (by decide) fl_X9_309 rfl dX9_waitForFinger_28 (ho_19 _ _) rfl rfl (Nat.le_of_ble_eq_true rfl) po_19_4 rfl ?_
      refine g_iconst (v := 1) dX9_waitForFinger_31 (by decide) rfl ?_
      subst hF
      exact g_zret rfl dX9_waitForFinger_32 (by decide) (Nat.le_of_ble_eq_true rfl) (Nat.le_of_ble_eq_true rfl) ⟨rfl, rfl⟩
noncomputable def Fr_X9_scoreOf (p0 : Int32) (p1 : Int32) : Int32 :=
  ((16 : Int32) - (F_J6_bitCount_0f7a4 ((p0 ^^^ p1) &&& (65535 : Int32))))
noncomputable def F_X9_scoreOf : Int32 → Int32 → Int32 := Classical.choose (⟨Fr_X9_scoreOf, rfl⟩ : ∃ f : Int32 → Int32 → Int32, f = Fr_X9_scoreOf)
theorem F_X9_scoreOf_eq : F_X9_scoreOf = Fr_X9_scoreOf := Classical.choose_spec (⟨Fr_X9_scoreOf, rfl⟩ : ∃ f : Int32 → Int32 → Int32, f = Fr_X9_scoreOf)
set_option maxHeartbeats 4000000 in
set_option maxRecDepth 100000 in
theorem c_X9_scoreOf (l : Launch) (g : gE)  {σ : gS} {ζ : gQ} (p0 : Int32) (p1 : Int32) : gC l g mX9_scoreOf (rm 1 20) [.int p0, .int p1] (hp σ ζ) (fun r h => r = some (.int (F_X9_scoreOf p0 p1)) ∧ h = hp σ ζ) := by
  refine gC_of (by decide) (Nat.le_of_ble_eq_true rfl) ?_
  generalize hF : (F_X9_scoreOf p0 p1) = fr
  rw [F_X9_scoreOf_eq] at hF
  unfold Fr_X9_scoreOf at hF
  refine g_bipush (v := 16) dX9_scoreOf_0 (by decide) rfl ?_
  refine g_iload_n dX9_scoreOf_2 rfl rfl rfl ?_
  refine g_iload_n dX9_scoreOf_3 rfl rfl rfl ?_
  refine g_ixor dX9_scoreOf_4 rfl ?_
  refine g_ldc ki_X9_132 dX9_scoreOf_5 rfl ?_
  refine g_iand dX9_scoreOf_7 rfl ?_
  refine g_calls mt_J6_bitCount_0f7a4 ms_J6_bitCount_0f7a4 ml_X9_321 (c_J6_bitCount_0f7a4 l g _) rfl (Nat.le_of_ble_eq_true rfl) (Nat.le_of_ble_eq_true rfl) (Nat.le_of_ble_eq_true rfl) (Nat.le_of_ble_eq_true rfl) rfl (Nat.le_of_ble_eq_true rfl) dX9_scoreOf_8 rfl (fun r1 hr1 pr1 => ?_)
  obtain ⟨rfl, rfl⟩ := pr1
  refine g_isub dX9_scoreOf_11 rfl ?_
  subst hF
  exact g_iret rfl dX9_scoreOf_12 (Nat.le_of_ble_eq_true rfl) (Nat.le_of_ble_eq_true rfl) ⟨rfl, rfl⟩
noncomputable def Fr_X9_judgeFinger (σ : gS)  : Int32 × gS :=
  if (σ 20 4) = 0 then
    let f4 := (F_X9_stepOutside σ (9 : Int32) (1 : Int32) (7 : Int32) (5 : Int32))
    ((1 : Int32), f4.2)
  else
    if (F_X9_scoreOf (σ 19 4) (σ 20 5)) < (σ 6 (ix (6 : Int32))) then
      let f9 := (F_X9_stepOutside σ (9 : Int32) (1 : Int32) (7 : Int32) (5 : Int32))
      ((1 : Int32), f9.2)
    else
      let f12 := (F_X9_stepOutside σ (8 : Int32) (0 : Int32) (4 : Int32) (3 : Int32))
      ((1 : Int32), f12.2)
noncomputable def F_X9_judgeFinger : gS → Int32 × gS := Classical.choose (⟨Fr_X9_judgeFinger, rfl⟩ : ∃ f : gS → Int32 × gS, f = Fr_X9_judgeFinger)
theorem F_X9_judgeFinger_eq : F_X9_judgeFinger = Fr_X9_judgeFinger := Classical.choose_spec (⟨Fr_X9_judgeFinger, rfl⟩ : ∃ f : gS → Int32 × gS, f = Fr_X9_judgeFinger)
def Q_X9_judgeFinger (σ : gS)  : Prop :=
  if (σ 20 4) = 0 then
    ((Q_X9_stepOutside σ (9 : Int32) (1 : Int32) (7 : Int32) (5 : Int32)) ∧ (let f4 := (F_X9_stepOutside σ (9 : Int32) (1 : Int32) (7 : Int32) (5 : Int32))
    True))
  else
    (if (F_X9_scoreOf (σ 19 4) (σ 20 5)) < (σ 6 (ix (6 : Int32))) then
      ((Q_X9_stepOutside σ (9 : Int32) (1 : Int32) (7 : Int32) (5 : Int32)) ∧ (let f9 := (F_X9_stepOutside σ (9 : Int32) (1 : Int32) (7 : Int32) (5 : Int32))
      True))
    else
      ((Q_X9_stepOutside σ (8 : Int32) (0 : Int32) (4 : Int32) (3 : Int32)) ∧ (let f12 := (F_X9_stepOutside σ (8 : Int32) (0 : Int32) (4 : Int32) (3 : Int32))
      True)))
set_option maxHeartbeats 4000000 in
set_option maxRecDepth 100000 in
theorem c_X9_judgeFinger (l : Launch) (g : gE)  {σ : gS} {ζ : gQ}  (hQ : Q_X9_judgeFinger σ ) : gC l g mX9_judgeFinger (rm 4 113) [.ref 0] (hp σ ζ) (fun r h => r = some (.int (F_X9_judgeFinger σ ).1) ∧ h = hp (F_X9_judgeFinger σ ).2 ζ) := by
  refine gC_of (by decide) (Nat.le_of_ble_eq_true rfl) ?_
  generalize hF : (F_X9_judgeFinger σ ) = fr
  rw [F_X9_judgeFinger_eq] at hF
  unfold Fr_X9_judgeFinger at hF
  unfold Q_X9_judgeFinger at hQ
  refine g_aload_n dX9_judgeFinger_0 rfl rfl rfl ?_
  refine g_get gClX9 17 (by decide) fl_X9_75 dX9_judgeFinger_1 (ho_0 _ _) rfl rfl ?_
  refine g_get gClX6 0 (by decide) fl_X9_241 dX9_judgeFinger_4 (ho_19 _ _) rfl rfl ?_
  refine g_astoreL_n (L1 := [(0, _), (1, _)]) dX9_judgeFinger_7 rfl (by decide) rfl rfl ?_
  refine g_aload_n dX9_judgeFinger_8 rfl rfl rfl ?_
  refine g_get gClX8 4 (by decide) fl_X9_312 dX9_judgeFinger_9 (ho_20 _ _) rfl rfl ?_
  refine g_ifeq (tgt := 52) dX9_judgeFinger_12 (by decide) rfl (fun c1 => ?_) (fun c1 => ?_)
  · replace hF := ite_p hF c1
    try replace hQ := ite_q hQ c1
    refine g_aload_n dX9_judgeFinger_52 rfl rfl rfl ?_
    refine g_bipush (v := 9) dX9_judgeFinger_53 (by decide) rfl ?_
    refine g_iconst (v := 1) dX9_judgeFinger_55 (by decide) rfl ?_
    refine g_bipush (v := 7) dX9_judgeFinger_56 (by decide) rfl ?_
    refine g_iconst (v := 5) dX9_judgeFinger_58 (by decide) rfl ?_
    have o2 := hQ.1
    replace hQ := hQ.2
    refine g_callv mv_X9_stepOutside ml_X9_296 (c_X9_stepOutside l g _ _ _ _ o2) (ho_0 _ _) rfl rfl (Nat.le_of_ble_eq_true rfl) (Nat.le_of_ble_eq_true rfl) (Nat.le_of_ble_eq_true rfl) (Nat.le_of_ble_eq_true rfl) rfl (Nat.le_of_ble_eq_true rfl) dX9_judgeFinger_59 rfl (fun r3 hr3 pr3 => ?_)
    obtain ⟨rfl, rfl⟩ := pr3
    refine g_pop dX9_judgeFinger_62 rfl rfl ?_
    refine g_iconst (v := 1) dX9_judgeFinger_63 (by decide) rfl ?_
    subst hF
    exact g_zret rfl dX9_judgeFinger_64 (by decide) (Nat.le_of_ble_eq_true rfl) (Nat.le_of_ble_eq_true rfl) ⟨rfl, rfl⟩
  · replace hF := ite_n hF c1
    try replace hQ := ite_r hQ c1
    refine g_aload_n dX9_judgeFinger_15 rfl rfl rfl ?_
    refine g_get gClX9 17 (by decide) fl_X9_75 dX9_judgeFinger_16 (ho_0 _ _) rfl rfl ?_
    refine g_get gClX6 4 (by decide) fl_X9_309 dX9_judgeFinger_19 (ho_19 _ _) rfl rfl ?_
    refine g_aload_n dX9_judgeFinger_22 rfl rfl rfl ?_
    refine g_get gClX8 5 (by decide) fl_X9_315 dX9_judgeFinger_23 (ho_20 _ _) rfl rfl ?_
    refine g_calls mt_X9_scoreOf ms_X9_scoreOf ml_X9_318 (c_X9_scoreOf l g _ _) rfl (Nat.le_of_ble_eq_true rfl) (Nat.le_of_ble_eq_true rfl) (Nat.le_of_ble_eq_true rfl) (Nat.le_of_ble_eq_true rfl) rfl (Nat.le_of_ble_eq_true rfl) dX9_judgeFinger_26 rfl (fun r5 hr5 pr5 => ?_)
    obtain ⟨rfl, rfl⟩ := pr5
    refine g_aload_n dX9_judgeFinger_29 rfl rfl rfl ?_
    refine g_get gClX9 12 (by decide) fl_X9_40 dX9_judgeFinger_30 (ho_0 _ _) rfl rfl ?_
    refine g_bipush (v := 6) dX9_judgeFinger_33 (by decide) rfl ?_
    refine g_iald (ha_6 _ _) (vinc (by decide)) dX9_judgeFinger_35 rfl ?_
    refine g_icmplt (tgt := 52) dX9_judgeFinger_36 (by decide) rfl (fun c6 => ?_) (fun c6 => ?_)
    · replace hF := ite_p hF c6
      try replace hQ := ite_q hQ c6
      refine g_aload_n dX9_judgeFinger_52 rfl rfl rfl ?_
      refine g_bipush (v := 9) dX9_judgeFinger_53 (by decide) rfl ?_
      refine g_iconst (v := 1) dX9_judgeFinger_55 (by decide) rfl ?_
      refine g_bipush (v := 7) dX9_judgeFinger_56 (by decide) rfl ?_
      refine g_iconst (v := 5) dX9_judgeFinger_58 (by decide) rfl ?_
      have o7 := hQ.1
      replace hQ := hQ.2
      refine g_callv mv_X9_stepOutside ml_X9_296 (c_X9_stepOutside l g _ _ _ _ o7) (ho_0 _ _) rfl rfl (Nat.le_of_ble_eq_true rfl) (Nat.le_of_ble_eq_true rfl) (Nat.le_of_ble_eq_true rfl) (Nat.le_of_ble_eq_true rfl) rfl (Nat.le_of_ble_eq_true rfl) dX9_judgeFinger_59 rfl (fun r8 hr8 pr8 => ?_)
      obtain ⟨rfl, rfl⟩ := pr8
      refine g_pop dX9_judgeFinger_62 rfl rfl ?_
      refine g_iconst (v := 1) dX9_judgeFinger_63 (by decide) rfl ?_
      subst hF
      exact g_zret rfl dX9_judgeFinger_64 (by decide) (Nat.le_of_ble_eq_true rfl) (Nat.le_of_ble_eq_true rfl) ⟨rfl, rfl⟩
    · replace hF := ite_n hF c6
      try replace hQ := ite_r hQ c6
      refine g_aload_n dX9_judgeFinger_39 rfl rfl rfl ?_
      refine g_bipush (v := 8) dX9_judgeFinger_40 (by decide) rfl ?_
      refine g_iconst (v := 0) dX9_judgeFinger_42 (by decide) rfl ?_
      refine g_iconst (v := 4) dX9_judgeFinger_43 (by decide) rfl ?_
      refine g_iconst (v := 3) dX9_judgeFinger_44 (by decide) rfl ?_
      have o10 := hQ.1
      replace hQ := hQ.2
      refine g_callv mv_X9_stepOutside ml_X9_296 (c_X9_stepOutside l g _ _ _ _ o10) (ho_0 _ _) rfl rfl (Nat.le_of_ble_eq_true rfl) (Nat.le_of_ble_eq_true rfl) (Nat.le_of_ble_eq_true rfl) (Nat.le_of_ble_eq_true rfl) rfl (Nat.le_of_ble_eq_true rfl) dX9_judgeFinger_45 rfl (fun r11 hr11 pr11 => ?_)
      obtain ⟨rfl, rfl⟩ := pr11
      refine g_pop dX9_judgeFinger_48 rfl rfl ?_
      refine g_goto (tgt := 63) dX9_judgeFinger_49 (by decide) ?_
      refine g_iconst (v := 1) dX9_judgeFinger_63 (by decide) rfl ?_
      subst hF
      exact g_zret rfl dX9_judgeFinger_64 (by decide) (Nat.le_of_ble_eq_true rfl) (Nat.le_of_ble_eq_true rfl) ⟨rfl, rfl⟩
noncomputable def Fr_X9_makePassOn (σ : gS) (c : Nat)  : gS :=
  let s3 := (F_X1_emptyRow σ c (3 : Int32))
  let s6 := (F_X0_addByte s3 (23 + 11 * c + 1 + 2 + 2 * ix (3 : Int32)) 48 (4 : Int32))
  let s10 := (F_X0_addTwo s6 (23 + 11 * c + 1 + 2 + 2 * ix (3 : Int32)) 48 (F_X4_ownIssuer s6 ))
  let s13 := (F_X0_addFour s10 (23 + 11 * c + 1 + 2 + 2 * ix (3 : Int32)) 48 (s10 0 11))
  let s18 := (F_X0_addTwo s13 (23 + 11 * c + 1 + 2 + 2 * ix (3 : Int32)) 48 (F_X0_twoAt s13 (23 + 11 * c + 1 + 2 + 2 * ix (0 : Int32)) 48 (1 : Int32)))
  let s23 := (F_X0_addFour s18 (23 + 11 * c + 1 + 2 + 2 * ix (3 : Int32)) 48 (F_X0_fourAt s18 (23 + 11 * c + 1 + 2 + 2 * ix (0 : Int32)) 48 (3 : Int32)))
  let s26 := (F_X0_addFour s23 (23 + 11 * c + 1 + 2 + 2 * ix (3 : Int32)) 48 (s23 0 10))
  let s29 := (F_X0_addFour s26 (23 + 11 * c + 1 + 2 + 2 * ix (3 : Int32)) 48 ((s26 0 10) + (s26 6 (ix (4 : Int32)))))
  let s34 := (F_X0_addByte s29 (23 + 11 * c + 1 + 2 + 2 * ix (3 : Int32)) 48 (F_X0_byteOf s29 (23 + 11 * c + 1 + 2 + 2 * ix (1 : Int32)) 48 (21 : Int32)))
  let s39 := (F_X0_addByte s34 (23 + 11 * c + 1 + 2 + 2 * ix (3 : Int32)) 48 (F_X0_byteOf s34 (23 + 11 * c + 1 + 2 + 2 * ix (1 : Int32)) 48 (22 : Int32)))
  let s42 := (F_X4_choose s39 (0 : Int32))
  let s45 := (F_X7_work s42 (23 + 11 * c + 1 + 2 + 2 * ix (3 : Int32)) 48 (s42 (23 + 11 * c + 1 + 2 + 2 * ix (3 : Int32)) 1))
  let s48 := (F_X7_addSealTo s45 (23 + 11 * c + 1 + 2 + 2 * ix (3 : Int32)) 48)
  let s49 := (pf s48 0 11 ((s48 0 11) + (1 : Int32)) : gS)
  s49
noncomputable def F_X9_makePassOn : gS → Nat → gS := Classical.choose (⟨Fr_X9_makePassOn, rfl⟩ : ∃ f : gS → Nat → gS, f = Fr_X9_makePassOn)
theorem F_X9_makePassOn_eq : F_X9_makePassOn = Fr_X9_makePassOn := Classical.choose_spec (⟨Fr_X9_makePassOn, rfl⟩ : ∃ f : gS → Nat → gS, f = Fr_X9_makePassOn)
def Q_X9_makePassOn (σ : gS) (c : Nat)  : Prop :=
  (Q_X1_emptyRow σ c (3 : Int32)) ∧ (let s3 := (F_X1_emptyRow σ c (3 : Int32))
  (Q_X0_addByte s3 (23 + 11 * c + 1 + 2 + 2 * ix (3 : Int32)) 48 (4 : Int32)) ∧ (let s6 := (F_X0_addByte s3 (23 + 11 * c + 1 + 2 + 2 * ix (3 : Int32)) 48 (4 : Int32))
  (Q_X0_addTwo s6 (23 + 11 * c + 1 + 2 + 2 * ix (3 : Int32)) 48 (F_X4_ownIssuer s6 )) ∧ (let s10 := (F_X0_addTwo s6 (23 + 11 * c + 1 + 2 + 2 * ix (3 : Int32)) 48 (F_X4_ownIssuer s6 ))
  (Q_X0_addFour s10 (23 + 11 * c + 1 + 2 + 2 * ix (3 : Int32)) 48 (s10 0 11)) ∧ (let s13 := (F_X0_addFour s10 (23 + 11 * c + 1 + 2 + 2 * ix (3 : Int32)) 48 (s10 0 11))
  (Q_X0_twoAt s13 (23 + 11 * c + 1 + 2 + 2 * ix (0 : Int32)) 48 (1 : Int32)) ∧ ((Q_X0_addTwo s13 (23 + 11 * c + 1 + 2 + 2 * ix (3 : Int32)) 48 (F_X0_twoAt s13 (23 + 11 * c + 1 + 2 + 2 * ix (0 : Int32)) 48 (1 : Int32))) ∧ (let s18 := (F_X0_addTwo s13 (23 + 11 * c + 1 + 2 + 2 * ix (3 : Int32)) 48 (F_X0_twoAt s13 (23 + 11 * c + 1 + 2 + 2 * ix (0 : Int32)) 48 (1 : Int32)))
  (Q_X0_fourAt s18 (23 + 11 * c + 1 + 2 + 2 * ix (0 : Int32)) 48 (3 : Int32)) ∧ ((Q_X0_addFour s18 (23 + 11 * c + 1 + 2 + 2 * ix (3 : Int32)) 48 (F_X0_fourAt s18 (23 + 11 * c + 1 + 2 + 2 * ix (0 : Int32)) 48 (3 : Int32))) ∧ (let s23 := (F_X0_addFour s18 (23 + 11 * c + 1 + 2 + 2 * ix (3 : Int32)) 48 (F_X0_fourAt s18 (23 + 11 * c + 1 + 2 + 2 * ix (0 : Int32)) 48 (3 : Int32)))
  (Q_X0_addFour s23 (23 + 11 * c + 1 + 2 + 2 * ix (3 : Int32)) 48 (s23 0 10)) ∧ (let s26 := (F_X0_addFour s23 (23 + 11 * c + 1 + 2 + 2 * ix (3 : Int32)) 48 (s23 0 10))
  (Q_X0_addFour s26 (23 + 11 * c + 1 + 2 + 2 * ix (3 : Int32)) 48 ((s26 0 10) + (s26 6 (ix (4 : Int32))))) ∧ (let s29 := (F_X0_addFour s26 (23 + 11 * c + 1 + 2 + 2 * ix (3 : Int32)) 48 ((s26 0 10) + (s26 6 (ix (4 : Int32)))))
  (Q_X0_byteOf s29 (23 + 11 * c + 1 + 2 + 2 * ix (1 : Int32)) 48 (21 : Int32)) ∧ ((Q_X0_addByte s29 (23 + 11 * c + 1 + 2 + 2 * ix (3 : Int32)) 48 (F_X0_byteOf s29 (23 + 11 * c + 1 + 2 + 2 * ix (1 : Int32)) 48 (21 : Int32))) ∧ (let s34 := (F_X0_addByte s29 (23 + 11 * c + 1 + 2 + 2 * ix (3 : Int32)) 48 (F_X0_byteOf s29 (23 + 11 * c + 1 + 2 + 2 * ix (1 : Int32)) 48 (21 : Int32)))
  (Q_X0_byteOf s34 (23 + 11 * c + 1 + 2 + 2 * ix (1 : Int32)) 48 (22 : Int32)) ∧ ((Q_X0_addByte s34 (23 + 11 * c + 1 + 2 + 2 * ix (3 : Int32)) 48 (F_X0_byteOf s34 (23 + 11 * c + 1 + 2 + 2 * ix (1 : Int32)) 48 (22 : Int32))) ∧ (let s39 := (F_X0_addByte s34 (23 + 11 * c + 1 + 2 + 2 * ix (3 : Int32)) 48 (F_X0_byteOf s34 (23 + 11 * c + 1 + 2 + 2 * ix (1 : Int32)) 48 (22 : Int32)))
  (Q_X4_choose s39 (0 : Int32)) ∧ (let s42 := (F_X4_choose s39 (0 : Int32))
  (Q_X7_work s42 (23 + 11 * c + 1 + 2 + 2 * ix (3 : Int32)) 48 (s42 (23 + 11 * c + 1 + 2 + 2 * ix (3 : Int32)) 1)) ∧ (let s45 := (F_X7_work s42 (23 + 11 * c + 1 + 2 + 2 * ix (3 : Int32)) 48 (s42 (23 + 11 * c + 1 + 2 + 2 * ix (3 : Int32)) 1))
  (Q_X7_addSealTo s45 (23 + 11 * c + 1 + 2 + 2 * ix (3 : Int32)) 48) ∧ (let s48 := (F_X7_addSealTo s45 (23 + 11 * c + 1 + 2 + 2 * ix (3 : Int32)) 48)
  let s49 := (pf s48 0 11 ((s48 0 11) + (1 : Int32)) : gS)
  True)))))))))))))))))
set_option maxHeartbeats 4000000 in
set_option maxRecDepth 100000 in
theorem c_X9_makePassOn (l : Launch) (g : gE) {c : Nat} (hc : c < 16) (hT : gTab g) {σ : gS} {ζ : gQ}  (hQ : Q_X9_makePassOn σ c ) : gC l g mX9_makePassOn (rm 3 87) [.ref 0, .ref (23 + 11 * c)] (hp σ ζ) (fun r h => r = none ∧ h = hp (F_X9_makePassOn σ c ) ζ) := by
  refine gC_of (by decide) (Nat.le_of_ble_eq_true rfl) ?_
  generalize hF : (F_X9_makePassOn σ c ) = fr
  rw [F_X9_makePassOn_eq] at hF
  unfold Fr_X9_makePassOn at hF
  unfold Q_X9_makePassOn at hQ
  refine g_aload_n dX9_makePassOn_0 rfl rfl rfl ?_
  refine g_get gClX1 0 (by decide) fl_X9_220 dX9_makePassOn_1 (card_o hc) rfl rfl ?_
  refine g_iconst (v := 0) dX9_makePassOn_4 (by decide) rfl ?_
  refine g_aald4 (card_r hc) (vinc (by decide) : vp_in (0 : Int32) 4) (aa4 (vinc (by decide) : vp_in (0 : Int32) 4)) dX9_makePassOn_5 rfl ?_
  refine g_astoreL_n (L1 := [(0, _), (1, _), (2, _)]) dX9_makePassOn_6 rfl (by decide) rfl rfl ?_
  refine g_aload_n dX9_makePassOn_7 rfl rfl rfl ?_
  refine g_get gClX1 0 (by decide) fl_X9_220 dX9_makePassOn_8 (card_o hc) rfl rfl ?_
  refine g_iconst (v := 1) dX9_makePassOn_11 (by decide) rfl ?_
  refine g_aald4 (card_r hc) (vinc (by decide) : vp_in (1 : Int32) 4) (aa4 (vinc (by decide) : vp_in (1 : Int32) 4)) dX9_makePassOn_12 rfl ?_
  refine g_astoreL_n (L1 := [(0, _), (1, _), (2, _), (3, _)]) dX9_makePassOn_13 rfl (by decide) rfl rfl ?_
  refine g_aload_n dX9_makePassOn_14 rfl rfl rfl ?_
  refine g_iconst (v := 3) dX9_makePassOn_15 (by decide) rfl ?_
  have o1 := hQ.1
  replace hQ := hQ.2
  refine g_callv mv_X1_emptyRow ml_X9_330 (c_X1_emptyRow l g hc _ o1) (card_o hc) rfl rfl (Nat.le_of_ble_eq_true rfl) (Nat.le_of_ble_eq_true rfl) (Nat.le_of_ble_eq_true rfl) (Nat.le_of_ble_eq_true rfl) rfl (Nat.le_of_ble_eq_true rfl) dX9_makePassOn_16 rfl (fun r2 hr2 pr2 => ?_)
  obtain ⟨rfl, rfl⟩ := pr2
  refine g_astoreL (L1 := [(0, _), (1, _), (2, _), (3, _), (4, _)]) dX9_makePassOn_19 (by decide) rfl rfl ?_
  refine g_aload dX9_makePassOn_21 rfl rfl ?_
  refine g_iconst (v := 4) dX9_makePassOn_23 (by decide) rfl ?_
  have o4 := hQ.1
  replace hQ := hQ.2
  refine g_callv mv_X0_addByte ml_X9_334 (c_X0_addByte l g (isB_rw hc (vin_lt (vinc (by decide) : vp_in (3 : Int32) 4))) _ o4) ((isB_rw hc (vin_lt (vinc (by decide) : vp_in (3 : Int32) 4))).o _ ζ) rfl rfl (Nat.le_of_ble_eq_true rfl) (Nat.le_of_ble_eq_true rfl) (Nat.le_of_ble_eq_true rfl) (Nat.le_of_ble_eq_true rfl) rfl (Nat.le_of_ble_eq_true rfl) dX9_makePassOn_24 rfl (fun r5 hr5 pr5 => ?_)
  obtain ⟨rfl, rfl⟩ := pr5
  refine g_aload dX9_makePassOn_27 rfl rfl ?_
  refine g_aload_n dX9_makePassOn_29 rfl rfl rfl ?_
  refine g_get gClX9 14 (by decide) fl_X9_54 dX9_makePassOn_30 (ho_0 _ _) rfl rfl ?_
  refine g_callv mv_X4_ownIssuer ml_X9_207 (c_X4_ownIssuer l g) (ho_12 _ _) rfl rfl (Nat.le_of_ble_eq_true rfl) (Nat.le_of_ble_eq_true rfl) (Nat.le_of_ble_eq_true rfl) (Nat.le_of_ble_eq_true rfl) rfl (Nat.le_of_ble_eq_true rfl) dX9_makePassOn_33 rfl (fun r7 hr7 pr7 => ?_)
  obtain ⟨rfl, rfl⟩ := pr7
  have o8 := hQ.1
  replace hQ := hQ.2
  refine g_callv mv_X0_addTwo ml_X9_337 (c_X0_addTwo l g (isB_rw hc (vin_lt (vinc (by decide) : vp_in (3 : Int32) 4))) _ o8) ((isB_rw hc (vin_lt (vinc (by decide) : vp_in (3 : Int32) 4))).o _ ζ) rfl rfl (Nat.le_of_ble_eq_true rfl) (Nat.le_of_ble_eq_true rfl) (Nat.le_of_ble_eq_true rfl) (Nat.le_of_ble_eq_true rfl) rfl (Nat.le_of_ble_eq_true rfl) dX9_makePassOn_36 rfl (fun r9 hr9 pr9 => ?_)
  obtain ⟨rfl, rfl⟩ := pr9
  refine g_aload dX9_makePassOn_39 rfl rfl ?_
  refine g_aload_n dX9_makePassOn_41 rfl rfl rfl ?_
  refine g_get gClX9 11 (by decide) fl_X9_37 dX9_makePassOn_42 (ho_0 _ _) rfl rfl ?_
  have o11 := hQ.1
  replace hQ := hQ.2
  refine g_callv mv_X0_addFour ml_X9_100 (c_X0_addFour l g (isB_rw hc (vin_lt (vinc (by decide) : vp_in (3 : Int32) 4))) _ o11) ((isB_rw hc (vin_lt (vinc (by decide) : vp_in (3 : Int32) 4))).o _ ζ) rfl rfl (Nat.le_of_ble_eq_true rfl) (Nat.le_of_ble_eq_true rfl) (Nat.le_of_ble_eq_true rfl) (Nat.le_of_ble_eq_true rfl) rfl (Nat.le_of_ble_eq_true rfl) dX9_makePassOn_45 rfl (fun r12 hr12 pr12 => ?_)
  obtain ⟨rfl, rfl⟩ := pr12
  refine g_aload dX9_makePassOn_48 rfl rfl ?_
  refine g_aload_n dX9_makePassOn_50 rfl rfl rfl ?_
  refine g_iconst (v := 1) dX9_makePassOn_51 (by decide) rfl ?_
  have o14 := hQ.1
  replace hQ := hQ.2
  refine g_callv mv_X0_twoAt ml_X9_340 (c_X0_twoAt l g (isB_rw hc (vin_lt (vinc (by decide) : vp_in (0 : Int32) 4))) _ o14) ((isB_rw hc (vin_lt (vinc (by decide) : vp_in (0 : Int32) 4))).o _ ζ) rfl rfl (Nat.le_of_ble_eq_true rfl) (Nat.le_of_ble_eq_true rfl) (Nat.le_of_ble_eq_true rfl) (Nat.le_of_ble_eq_true rfl) rfl (Nat.le_of_ble_eq_true rfl) dX9_makePassOn_52 rfl (fun r15 hr15 pr15 => ?_)
  obtain ⟨rfl, rfl⟩ := pr15
  have o16 := hQ.1
  replace hQ := hQ.2
  refine g_callv mv_X0_addTwo ml_X9_337 (c_X0_addTwo l g (isB_rw hc (vin_lt (vinc (by decide) : vp_in (3 : Int32) 4))) _ o16) ((isB_rw hc (vin_lt (vinc (by decide) : vp_in (3 : Int32) 4))).o _ ζ) rfl rfl (Nat.le_of_ble_eq_true rfl) (Nat.le_of_ble_eq_true rfl) (Nat.le_of_ble_eq_true rfl) (Nat.le_of_ble_eq_true rfl) rfl (Nat.le_of_ble_eq_true rfl) dX9_makePassOn_55 rfl (fun r17 hr17 pr17 => ?_)
  obtain ⟨rfl, rfl⟩ := pr17
  refine g_aload dX9_makePassOn_58 rfl rfl ?_
  refine g_aload_n dX9_makePassOn_60 rfl rfl rfl ?_
  refine g_iconst (v := 3) dX9_makePassOn_61 (by decide) rfl ?_
  have o19 := hQ.1
  replace hQ := hQ.2
  refine g_callv mv_X0_fourAt ml_X9_343 (c_X0_fourAt l g (isB_rw hc (vin_lt (vinc (by decide) : vp_in (0 : Int32) 4))) _ o19) ((isB_rw hc (vin_lt (vinc (by decide) : vp_in (0 : Int32) 4))).o _ ζ) rfl rfl (Nat.le_of_ble_eq_true rfl) (Nat.le_of_ble_eq_true rfl) (Nat.le_of_ble_eq_true rfl) (Nat.le_of_ble_eq_true rfl) rfl (Nat.le_of_ble_eq_true rfl) dX9_makePassOn_62 rfl (fun r20 hr20 pr20 => ?_)
  obtain ⟨rfl, rfl⟩ := pr20
  have o21 := hQ.1
  replace hQ := hQ.2
  refine g_callv mv_X0_addFour ml_X9_100 (c_X0_addFour l g (isB_rw hc (vin_lt (vinc (by decide) : vp_in (3 : Int32) 4))) _ o21) ((isB_rw hc (vin_lt (vinc (by decide) : vp_in (3 : Int32) 4))).o _ ζ) rfl rfl (Nat.le_of_ble_eq_true rfl) (Nat.le_of_ble_eq_true rfl) (Nat.le_of_ble_eq_true rfl) (Nat.le_of_ble_eq_true rfl) rfl (Nat.le_of_ble_eq_true rfl) dX9_makePassOn_65 rfl (fun r22 hr22 pr22 => ?_)
  obtain ⟨rfl, rfl⟩ := pr22
  refine g_aload dX9_makePassOn_68 rfl rfl ?_
  refine g_aload_n dX9_makePassOn_70 rfl rfl rfl ?_
  refine g_get gClX9 10 (by decide) fl_X9_147 dX9_makePassOn_71 (ho_0 _ _) rfl rfl ?_
  have o24 := hQ.1
  replace hQ := hQ.2
  refine g_callv mv_X0_addFour ml_X9_100 (c_X0_addFour l g (isB_rw hc (vin_lt (vinc (by decide) : vp_in (3 : Int32) 4))) _ o24) ((isB_rw hc (vin_lt (vinc (by decide) : vp_in (3 : Int32) 4))).o _ ζ) rfl rfl (Nat.le_of_ble_eq_true rfl) (Nat.le_of_ble_eq_true rfl) (Nat.le_of_ble_eq_true rfl) (Nat.le_of_ble_eq_true rfl) rfl (Nat.le_of_ble_eq_true rfl) dX9_makePassOn_74 rfl (fun r25 hr25 pr25 => ?_)
  obtain ⟨rfl, rfl⟩ := pr25
  refine g_aload dX9_makePassOn_77 rfl rfl ?_
  refine g_aload_n dX9_makePassOn_79 rfl rfl rfl ?_
  refine g_get gClX9 10 (by decide) fl_X9_147 dX9_makePassOn_80 (ho_0 _ _) rfl rfl ?_
  refine g_aload_n dX9_makePassOn_83 rfl rfl rfl ?_
  refine g_get gClX9 12 (by decide) fl_X9_40 dX9_makePassOn_84 (ho_0 _ _) rfl rfl ?_
  refine g_iconst (v := 4) dX9_makePassOn_87 (by decide) rfl ?_
  refine g_iald (ha_6 _ _) (vinc (by decide)) dX9_makePassOn_88 rfl ?_
  refine g_iadd dX9_makePassOn_89 rfl ?_
  have o27 := hQ.1
  replace hQ := hQ.2
  refine g_callv mv_X0_addFour ml_X9_100 (c_X0_addFour l g (isB_rw hc (vin_lt (vinc (by decide) : vp_in (3 : Int32) 4))) _ o27) ((isB_rw hc (vin_lt (vinc (by decide) : vp_in (3 : Int32) 4))).o _ ζ) rfl rfl (Nat.le_of_ble_eq_true rfl) (Nat.le_of_ble_eq_true rfl) (Nat.le_of_ble_eq_true rfl) (Nat.le_of_ble_eq_true rfl) rfl (Nat.le_of_ble_eq_true rfl) dX9_makePassOn_90 rfl (fun r28 hr28 pr28 => ?_)
  obtain ⟨rfl, rfl⟩ := pr28
  refine g_aload dX9_makePassOn_93 rfl rfl ?_
  refine g_aload_n dX9_makePassOn_95 rfl rfl rfl ?_
  refine g_bipush (v := 21) dX9_makePassOn_96 (by decide) rfl ?_
  have o30 := hQ.1
  replace hQ := hQ.2
  refine g_callv mv_X0_byteOf ml_X9_224 (c_X0_byteOf l g (isB_rw hc (vin_lt (vinc (by decide) : vp_in (1 : Int32) 4))) _ o30) ((isB_rw hc (vin_lt (vinc (by decide) : vp_in (1 : Int32) 4))).o _ ζ) rfl rfl (Nat.le_of_ble_eq_true rfl) (Nat.le_of_ble_eq_true rfl) (Nat.le_of_ble_eq_true rfl) (Nat.le_of_ble_eq_true rfl) rfl (Nat.le_of_ble_eq_true rfl) dX9_makePassOn_98 rfl (fun r31 hr31 pr31 => ?_)
  obtain ⟨rfl, rfl⟩ := pr31
  have o32 := hQ.1
  replace hQ := hQ.2
  refine g_callv mv_X0_addByte ml_X9_334 (c_X0_addByte l g (isB_rw hc (vin_lt (vinc (by decide) : vp_in (3 : Int32) 4))) _ o32) ((isB_rw hc (vin_lt (vinc (by decide) : vp_in (3 : Int32) 4))).o _ ζ) rfl rfl (Nat.le_of_ble_eq_true rfl) (Nat.le_of_ble_eq_true rfl) (Nat.le_of_ble_eq_true rfl) (Nat.le_of_ble_eq_true rfl) rfl (Nat.le_of_ble_eq_true rfl) dX9_makePassOn_101 rfl (fun r33 hr33 pr33 => ?_)
  obtain ⟨rfl, rfl⟩ := pr33
  refine g_aload dX9_makePassOn_104 rfl rfl ?_
  refine g_aload_n dX9_makePassOn_106 rfl rfl rfl ?_
  refine g_bipush (v := 22) dX9_makePassOn_107 (by decide) rfl ?_
  have o35 := hQ.1
  replace hQ := hQ.2
  refine g_callv mv_X0_byteOf ml_X9_224 (c_X0_byteOf l g (isB_rw hc (vin_lt (vinc (by decide) : vp_in (1 : Int32) 4))) _ o35) ((isB_rw hc (vin_lt (vinc (by decide) : vp_in (1 : Int32) 4))).o _ ζ) rfl rfl (Nat.le_of_ble_eq_true rfl) (Nat.le_of_ble_eq_true rfl) (Nat.le_of_ble_eq_true rfl) (Nat.le_of_ble_eq_true rfl) rfl (Nat.le_of_ble_eq_true rfl) dX9_makePassOn_109 rfl (fun r36 hr36 pr36 => ?_)
  obtain ⟨rfl, rfl⟩ := pr36
  have o37 := hQ.1
  replace hQ := hQ.2
  refine g_callv mv_X0_addByte ml_X9_334 (c_X0_addByte l g (isB_rw hc (vin_lt (vinc (by decide) : vp_in (3 : Int32) 4))) _ o37) ((isB_rw hc (vin_lt (vinc (by decide) : vp_in (3 : Int32) 4))).o _ ζ) rfl rfl (Nat.le_of_ble_eq_true rfl) (Nat.le_of_ble_eq_true rfl) (Nat.le_of_ble_eq_true rfl) (Nat.le_of_ble_eq_true rfl) rfl (Nat.le_of_ble_eq_true rfl) dX9_makePassOn_112 rfl (fun r38 hr38 pr38 => ?_)
  obtain ⟨rfl, rfl⟩ := pr38
  refine g_aload_n dX9_makePassOn_115 rfl rfl rfl ?_
  refine g_get gClX9 14 (by decide) fl_X9_54 dX9_makePassOn_116 (ho_0 _ _) rfl rfl ?_
  refine g_iconst (v := 0) dX9_makePassOn_119 (by decide) rfl ?_
  refine g_aload_n dX9_makePassOn_120 rfl rfl rfl ?_
  refine g_get gClX9 13 (by decide) fl_X9_47 dX9_makePassOn_121 (ho_0 _ _) rfl rfl ?_
  have o40 := hQ.1
  replace hQ := hQ.2
  refine g_callv mv_X4_choose ml_X9_346 (c_X4_choose l g _ o40) (ho_12 _ _) rfl rfl (Nat.le_of_ble_eq_true rfl) (Nat.le_of_ble_eq_true rfl) (Nat.le_of_ble_eq_true rfl) (Nat.le_of_ble_eq_true rfl) rfl (Nat.le_of_ble_eq_true rfl) dX9_makePassOn_124 rfl (fun r41 hr41 pr41 => ?_)
  obtain ⟨rfl, rfl⟩ := pr41
  refine g_aload_n dX9_makePassOn_127 rfl rfl rfl ?_
  refine g_get gClX9 13 (by decide) fl_X9_47 dX9_makePassOn_128 (ho_0 _ _) rfl rfl ?_
  refine g_aload dX9_makePassOn_131 rfl rfl ?_
  refine g_aload dX9_makePassOn_133 rfl rfl ?_
  refine g_get gClX0 1 (by decide) fl_X9_103 dX9_makePassOn_135 ((isB_rw hc (vin_lt (vinc (by decide) : vp_in (3 : Int32) 4))).o _ ζ) rfl rfl ?_
  have o43 := hQ.1
  replace hQ := hQ.2
  refine g_callv mv_X7_work ml_X9_110 (c_X7_work l g (isB_rw hc (vin_lt (vinc (by decide) : vp_in (3 : Int32) 4))) hT _ o43) (ho_7 _ _) rfl rfl (Nat.le_of_ble_eq_true rfl) (Nat.le_of_ble_eq_true rfl) (Nat.le_of_ble_eq_true rfl) (Nat.le_of_ble_eq_true rfl) rfl (Nat.le_of_ble_eq_true rfl) dX9_makePassOn_138 rfl (fun r44 hr44 pr44 => ?_)
  obtain ⟨rfl, rfl⟩ := pr44
  refine g_aload_n dX9_makePassOn_141 rfl rfl rfl ?_
  refine g_get gClX9 13 (by decide) fl_X9_47 dX9_makePassOn_142 (ho_0 _ _) rfl rfl ?_
  refine g_aload dX9_makePassOn_145 rfl rfl ?_
  have o46 := hQ.1
  replace hQ := hQ.2
  refine g_callv mv_X7_addSealTo ml_X9_114 (c_X7_addSealTo l g (isB_rw hc (vin_lt (vinc (by decide) : vp_in (3 : Int32) 4))) o46) (ho_7 _ _) rfl rfl (Nat.le_of_ble_eq_true rfl) (Nat.le_of_ble_eq_true rfl) (Nat.le_of_ble_eq_true rfl) (Nat.le_of_ble_eq_true rfl) rfl (Nat.le_of_ble_eq_true rfl) dX9_makePassOn_147 rfl (fun r47 hr47 pr47 => ?_)
  obtain ⟨rfl, rfl⟩ := pr47
  refine g_aload_n dX9_makePassOn_150 rfl rfl rfl ?_
  refine g_dup dX9_makePassOn_151 rfl rfl ?_
  refine g_get gClX9 11 (by decide) fl_X9_37 dX9_makePassOn_152 (ho_0 _ _) rfl rfl ?_
  refine g_iconst (v := 1) dX9_makePassOn_155 (by decide) rfl ?_
  refine g_iadd dX9_makePassOn_156 rfl ?_
  refine g_put gClX9 11 (by decide) fl_X9_37 rfl dX9_makePassOn_157 (ho_0 _ _) rfl rfl (Nat.le_of_ble_eq_true rfl) po_0_11 rfl ?_
  subst hF
  exact g_vret rfl dX9_makePassOn_160 (Nat.le_of_ble_eq_true rfl) (Nat.le_of_ble_eq_true rfl) ⟨rfl, rfl⟩
noncomputable def J_X9_writePass_26  (σ : gS) : Int32 × gS :=
  let f4 := (F_X9_stepOutside σ (5 : Int32) (1 : Int32) (7 : Int32) (5 : Int32))
  ((1 : Int32), f4.2)
def QJ_X9_writePass_26  (σ : gS) : Prop :=
  (Q_X9_stepOutside σ (5 : Int32) (1 : Int32) (7 : Int32) (5 : Int32)) ∧ (let f4 := (F_X9_stepOutside σ (5 : Int32) (1 : Int32) (7 : Int32) (5 : Int32))
  True)
set_option maxHeartbeats 4000000 in
set_option maxRecDepth 100000 in
theorem j_X9_writePass_26 (l : Launch) (g : gE)  {ζ : gQ} {fr : Int32 × gS} (hT : gTab g) : ∀ (σ : gS), QJ_X9_writePass_26  σ → J_X9_writePass_26  σ = fr → gG l g mX9_writePass (rm 4 113) (gZm g (rm 4 113) (fun r h => r = some (.int fr.1) ∧ h = hp fr.2 ζ)) 26 [(0, .ref 0)] [] (hp σ ζ) 0 0 := by
  intro σ hQ hF
  unfold J_X9_writePass_26 at hF
  unfold QJ_X9_writePass_26 at hQ
  refine g_aload_n dX9_writePass_26 rfl rfl rfl ?_
  refine g_iconst (v := 5) dX9_writePass_27 (by decide) rfl ?_
  refine g_iconst (v := 1) dX9_writePass_28 (by decide) rfl ?_
  refine g_bipush (v := 7) dX9_writePass_29 (by decide) rfl ?_
  refine g_iconst (v := 5) dX9_writePass_31 (by decide) rfl ?_
  have o2 := hQ.1
  replace hQ := hQ.2
  refine g_callv mv_X9_stepOutside ml_X9_296 (c_X9_stepOutside l g _ _ _ _ o2) (ho_0 _ _) rfl rfl (Nat.le_of_ble_eq_true rfl) (Nat.le_of_ble_eq_true rfl) (Nat.le_of_ble_eq_true rfl) (Nat.le_of_ble_eq_true rfl) rfl (Nat.le_of_ble_eq_true rfl) dX9_writePass_32 rfl (fun r3 hr3 pr3 => ?_)
  obtain ⟨rfl, rfl⟩ := pr3
  refine g_pop dX9_writePass_35 rfl rfl ?_
  refine g_goto (tgt := 99) dX9_writePass_36 (by decide) ?_
  refine g_iconst (v := 1) dX9_writePass_99 (by decide) rfl ?_
  subst hF
  exact g_zret rfl dX9_writePass_100 (by decide) (Nat.le_of_ble_eq_true rfl) (Nat.le_of_ble_eq_true rfl) ⟨rfl, rfl⟩
noncomputable def Fr_X9_writePass (σ : gS)  : Int32 × gS :=
  if (σ 20 2) = 0 then
    J_X9_writePass_26  σ
  else
    if (F_X9_isCard (σ 19 3)) = 0 then
      J_X9_writePass_26  σ
    else
      if (σ (23 + 11 * ix (σ 19 3)) 2) = 0 then
        let f19 := (F_X9_stepOutside σ (11 : Int32) (1 : Int32) (5 : Int32) (6 : Int32))
        ((1 : Int32), f19.2)
      else
        let f11 := (F_X9_stepOutside σ (10 : Int32) (0 : Int32) (5 : Int32) (3 : Int32))
        if f11.1 = 0 then
          ((1 : Int32), f11.2)
        else
          let s16 := (F_X9_makePassOn f11.2 (ix (f11.2 19 3)))
          ((1 : Int32), s16)
noncomputable def F_X9_writePass : gS → Int32 × gS := Classical.choose (⟨Fr_X9_writePass, rfl⟩ : ∃ f : gS → Int32 × gS, f = Fr_X9_writePass)
theorem F_X9_writePass_eq : F_X9_writePass = Fr_X9_writePass := Classical.choose_spec (⟨Fr_X9_writePass, rfl⟩ : ∃ f : gS → Int32 × gS, f = Fr_X9_writePass)
def Q_X9_writePass (σ : gS)  : Prop :=
  if (σ 20 2) = 0 then
    (QJ_X9_writePass_26  σ)
  else
    (if (F_X9_isCard (σ 19 3)) = 0 then
      (QJ_X9_writePass_26  σ)
    else
      (vp_in (σ 19 3) 16 ∧ (if (σ (23 + 11 * ix (σ 19 3)) 2) = 0 then
        ((Q_X9_stepOutside σ (11 : Int32) (1 : Int32) (5 : Int32) (6 : Int32)) ∧ (let f19 := (F_X9_stepOutside σ (11 : Int32) (1 : Int32) (5 : Int32) (6 : Int32))
        True))
      else
        ((Q_X9_stepOutside σ (10 : Int32) (0 : Int32) (5 : Int32) (3 : Int32)) ∧ (let f11 := (F_X9_stepOutside σ (10 : Int32) (0 : Int32) (5 : Int32) (3 : Int32))
        if f11.1 = 0 then
          (True)
        else
          (vp_in (f11.2 19 3) 16 ∧ ((Q_X9_makePassOn f11.2 (ix (f11.2 19 3))) ∧ (let s16 := (F_X9_makePassOn f11.2 (ix (f11.2 19 3)))
          True))))))))
set_option maxHeartbeats 4000000 in
set_option maxRecDepth 100000 in
theorem c_X9_writePass (l : Launch) (g : gE)  (hT : gTab g) {σ : gS} {ζ : gQ}  (hQ : Q_X9_writePass σ ) : gC l g mX9_writePass (rm 4 113) [.ref 0] (hp σ ζ) (fun r h => r = some (.int (F_X9_writePass σ ).1) ∧ h = hp (F_X9_writePass σ ).2 ζ) := by
  refine gC_of (by decide) (Nat.le_of_ble_eq_true rfl) ?_
  generalize hF : (F_X9_writePass σ ) = fr
  rw [F_X9_writePass_eq] at hF
  unfold Fr_X9_writePass at hF
  unfold Q_X9_writePass at hQ
  refine g_aload_n dX9_writePass_0 rfl rfl rfl ?_
  refine g_get gClX9 17 (by decide) fl_X9_75 dX9_writePass_1 (ho_0 _ _) rfl rfl ?_
  refine g_get gClX6 0 (by decide) fl_X9_241 dX9_writePass_4 (ho_19 _ _) rfl rfl ?_
  refine g_get gClX8 2 (by decide) fl_X9_303 dX9_writePass_7 (ho_20 _ _) rfl rfl ?_
  refine g_ifeq (tgt := 26) dX9_writePass_10 (by decide) rfl (fun c1 => ?_) (fun c1 => ?_)
  · replace hF := ite_p hF c1
    try replace hQ := ite_q hQ c1
    refine g_sub [0] rfl ?_
    exact j_X9_writePass_26 l g hT _ hQ hF
  · replace hF := ite_n hF c1
    try replace hQ := ite_r hQ c1
    refine g_aload_n dX9_writePass_13 rfl rfl rfl ?_
    refine g_get gClX9 17 (by decide) fl_X9_75 dX9_writePass_14 (ho_0 _ _) rfl rfl ?_
    refine g_get gClX6 3 (by decide) fl_X9_238 dX9_writePass_17 (ho_19 _ _) rfl rfl ?_
    refine g_calls mt_X9_isCard ms_X9_isCard ml_X9_118 (c_X9_isCard l g _) rfl (Nat.le_of_ble_eq_true rfl) (Nat.le_of_ble_eq_true rfl) (Nat.le_of_ble_eq_true rfl) (Nat.le_of_ble_eq_true rfl) rfl (Nat.le_of_ble_eq_true rfl) dX9_writePass_20 rfl (fun r5 hr5 pr5 => ?_)
    obtain ⟨rfl, rfl⟩ := pr5
    refine g_ifne (tgt := 39) dX9_writePass_23 (by decide) rfl (fun c6 => ?_) (fun c6 => ?_)
    · replace hF := ite_n hF c6
      try replace hQ := ite_r hQ c6
      refine g_aload_n dX9_writePass_39 rfl rfl rfl ?_
      refine g_get gClX9 3 (by decide) fl_X9_23 dX9_writePass_40 (ho_0 _ _) rfl rfl ?_
      refine g_aload_n dX9_writePass_43 rfl rfl rfl ?_
      refine g_get gClX9 17 (by decide) fl_X9_75 dX9_writePass_44 (ho_0 _ _) rfl rfl ?_
      refine g_get gClX6 3 (by decide) fl_X9_238 dX9_writePass_47 (ho_19 _ _) rfl rfl ?_
      have o7 := hQ.1
      replace hQ := hQ.2
      refine g_aald3 (hp_at (by decide)) o7 (aa16 o7) dX9_writePass_50 rfl ?_
      refine g_get gClX1 2 (by decide) fl_X9_128 dX9_writePass_51 (card_o (vin_lt o7)) rfl rfl ?_
      refine g_ifne (tgt := 71) dX9_writePass_54 (by decide) rfl (fun c8 => ?_) (fun c8 => ?_)
      · replace hF := ite_n hF c8
        try replace hQ := ite_r hQ c8
        refine g_aload_n dX9_writePass_71 rfl rfl rfl ?_
        refine g_bipush (v := 10) dX9_writePass_72 (by decide) rfl ?_
        refine g_iconst (v := 0) dX9_writePass_74 (by decide) rfl ?_
        refine g_iconst (v := 5) dX9_writePass_75 (by decide) rfl ?_
        refine g_iconst (v := 3) dX9_writePass_76 (by decide) rfl ?_
        have o9 := hQ.1
        replace hQ := hQ.2
        refine g_callv mv_X9_stepOutside ml_X9_296 (c_X9_stepOutside l g _ _ _ _ o9) (ho_0 _ _) rfl rfl (Nat.le_of_ble_eq_true rfl) (Nat.le_of_ble_eq_true rfl) (Nat.le_of_ble_eq_true rfl) (Nat.le_of_ble_eq_true rfl) rfl (Nat.le_of_ble_eq_true rfl) dX9_writePass_77 rfl (fun r10 hr10 pr10 => ?_)
        obtain ⟨rfl, rfl⟩ := pr10
        refine g_ifeq (tgt := 99) dX9_writePass_80 (by decide) rfl (fun c12 => ?_) (fun c12 => ?_)
        · replace hF := ite_p hF c12
          try replace hQ := ite_q hQ c12
          refine g_iconst (v := 1) dX9_writePass_99 (by decide) rfl ?_
          subst hF
          exact g_zret rfl dX9_writePass_100 (by decide) (Nat.le_of_ble_eq_true rfl) (Nat.le_of_ble_eq_true rfl) ⟨rfl, rfl⟩
        · replace hF := ite_n hF c12
          try replace hQ := ite_r hQ c12
          refine g_aload_n dX9_writePass_83 rfl rfl rfl ?_
          refine g_aload_n dX9_writePass_84 rfl rfl rfl ?_
          refine g_get gClX9 3 (by decide) fl_X9_23 dX9_writePass_85 (ho_0 _ _) rfl rfl ?_
          refine g_aload_n dX9_writePass_88 rfl rfl rfl ?_
          refine g_get gClX9 17 (by decide) fl_X9_75 dX9_writePass_89 (ho_0 _ _) rfl rfl ?_
          refine g_get gClX6 3 (by decide) fl_X9_238 dX9_writePass_92 (ho_19 _ _) rfl rfl ?_
          have o13 := hQ.1
          replace hQ := hQ.2
          refine g_aald3 (hp_at (by decide)) o13 (aa16 o13) dX9_writePass_95 rfl ?_
          have o14 := hQ.1
          replace hQ := hQ.2
          refine g_callv mv_X9_makePassOn ml_X9_326 (c_X9_makePassOn l g (vin_lt o13) hT o14) (ho_0 _ _) rfl rfl (Nat.le_of_ble_eq_true rfl) (Nat.le_of_ble_eq_true rfl) (Nat.le_of_ble_eq_true rfl) (Nat.le_of_ble_eq_true rfl) rfl (Nat.le_of_ble_eq_true rfl) dX9_writePass_96 rfl (fun r15 hr15 pr15 => ?_)
          obtain ⟨rfl, rfl⟩ := pr15
          refine g_iconst (v := 1) dX9_writePass_99 (by decide) rfl ?_
          subst hF
          exact g_zret rfl dX9_writePass_100 (by decide) (Nat.le_of_ble_eq_true rfl) (Nat.le_of_ble_eq_true rfl) ⟨rfl, rfl⟩
      · replace hF := ite_p hF c8
        try replace hQ := ite_q hQ c8
        refine g_aload_n dX9_writePass_57 rfl rfl rfl ?_
        refine g_bipush (v := 11) dX9_writePass_58 (by decide) rfl ?_
        refine g_iconst (v := 1) dX9_writePass_60 (by decide) rfl ?_
        refine g_iconst (v := 5) dX9_writePass_61 (by decide) rfl ?_
        refine g_bipush (v := 6) dX9_writePass_62 (by decide) rfl ?_
        have o17 := hQ.1
        replace hQ := hQ.2
        refine g_callv mv_X9_stepOutside ml_X9_296 (c_X9_stepOutside l g _ _ _ _ o17) (ho_0 _ _) rfl rfl (Nat.le_of_ble_eq_true rfl) (Nat.le_of_ble_eq_true rfl) (Nat.le_of_ble_eq_true rfl) (Nat.le_of_ble_eq_true rfl) rfl (Nat.le_of_ble_eq_true rfl) dX9_writePass_64 rfl (fun r18 hr18 pr18 => ?_)
        obtain ⟨rfl, rfl⟩ := pr18
        refine g_pop dX9_writePass_67 rfl rfl ?_
        refine g_goto (tgt := 99) dX9_writePass_68 (by decide) ?_
        refine g_iconst (v := 1) dX9_writePass_99 (by decide) rfl ?_
        subst hF
        exact g_zret rfl dX9_writePass_100 (by decide) (Nat.le_of_ble_eq_true rfl) (Nat.le_of_ble_eq_true rfl) ⟨rfl, rfl⟩
    · replace hF := ite_p hF c6
      try replace hQ := ite_q hQ c6
      refine g_sub [0] rfl ?_
      exact j_X9_writePass_26 l g hT _ hQ hF
noncomputable def J_X9_isOpeningTime_42 (σ : gS) (y2 : Int32) (u0 : Int32) : Int32 :=
  if (σ 6 (ix (8 : Int32))) < (σ 6 (ix (7 : Int32))) then
    if y2 = 0 then
      if u0 = 0 then
        (0 : Int32)
      else
        (1 : Int32)
    else
      (1 : Int32)
  else
    if y2 = 0 then
      (0 : Int32)
    else
      if u0 = 0 then
        (0 : Int32)
      else
        (1 : Int32)
def QJ_X9_isOpeningTime_42 (σ : gS) (y2 : Int32) (u0 : Int32) : Prop :=
  if (σ 6 (ix (8 : Int32))) < (σ 6 (ix (7 : Int32))) then
    (if y2 = 0 then
      (if u0 = 0 then
        (True)
      else
        (True))
    else
      (True))
  else
    (if y2 = 0 then
      (True)
    else
      (if u0 = 0 then
        (True)
      else
        (True)))
set_option maxHeartbeats 4000000 in
set_option maxRecDepth 100000 in
theorem j_X9_isOpeningTime_42 (l : Launch) (g : gE) {σ : gS} {ζ : gQ} {fr : Int32} : ∀ (y2 : Int32) (u0 : Int32), QJ_X9_isOpeningTime_42 σ y2 u0 → J_X9_isOpeningTime_42 σ y2 u0 = fr → gG l g mX9_isOpeningTime (rm 0 0) (gZm g (rm 0 0) (fun r h => r = some (.int fr) ∧ h = hp σ ζ)) 42 [(0, .ref 0), (2, .int y2)] [.int u0] (hp σ ζ) 0 0 := by
  intro y2 u0 hQ hF
  unfold J_X9_isOpeningTime_42 at hF
  unfold QJ_X9_isOpeningTime_42 at hQ
  refine g_istoreL_n (L1 := [(0, _), (2, _), (3, _)]) dX9_isOpeningTime_42 rfl (by decide) rfl rfl ?_
  refine g_aload_n dX9_isOpeningTime_43 rfl rfl rfl ?_
  refine g_get gClX9 12 (by decide) fl_X9_40 dX9_isOpeningTime_44 (ho_0 _ _) rfl rfl ?_
  refine g_bipush (v := 7) dX9_isOpeningTime_47 (by decide) rfl ?_
  refine g_iald (ha_6 _ _) (vinc (by decide)) dX9_isOpeningTime_49 rfl ?_
  refine g_aload_n dX9_isOpeningTime_50 rfl rfl rfl ?_
  refine g_get gClX9 12 (by decide) fl_X9_40 dX9_isOpeningTime_51 (ho_0 _ _) rfl rfl ?_
  refine g_bipush (v := 8) dX9_isOpeningTime_54 (by decide) rfl ?_
  refine g_iald (ha_6 _ _) (vinc (by decide)) dX9_isOpeningTime_56 rfl ?_
  refine g_icmpgt (tgt := 76) dX9_isOpeningTime_57 (by decide) rfl (fun c4 => ?_) (fun c4 => ?_)
  · replace hF := ite_p hF c4
    try replace hQ := ite_q hQ c4
    refine g_iload_n dX9_isOpeningTime_76 rfl rfl rfl ?_
    refine g_ifne (tgt := 84) dX9_isOpeningTime_77 (by decide) rfl (fun c5 => ?_) (fun c5 => ?_)
    · replace hF := ite_n hF c5
      try replace hQ := ite_r hQ c5
      refine g_iconst (v := 1) dX9_isOpeningTime_84 (by decide) rfl ?_
      refine g_goto (tgt := 89) dX9_isOpeningTime_85 (by decide) ?_
      subst hF
      exact g_zret rfl dX9_isOpeningTime_89 (by decide) (Nat.le_of_ble_eq_true rfl) (Nat.le_of_ble_eq_true rfl) ⟨rfl, rfl⟩
    · replace hF := ite_p hF c5
      try replace hQ := ite_q hQ c5
      refine g_iload_n dX9_isOpeningTime_80 rfl rfl rfl ?_
      refine g_ifeq (tgt := 88) dX9_isOpeningTime_81 (by decide) rfl (fun c6 => ?_) (fun c6 => ?_)
      · replace hF := ite_p hF c6
        try replace hQ := ite_q hQ c6
        refine g_iconst (v := 0) dX9_isOpeningTime_88 (by decide) rfl ?_
        subst hF
        exact g_zret rfl dX9_isOpeningTime_89 (by decide) (Nat.le_of_ble_eq_true rfl) (Nat.le_of_ble_eq_true rfl) ⟨rfl, rfl⟩
      · replace hF := ite_n hF c6
        try replace hQ := ite_r hQ c6
        refine g_iconst (v := 1) dX9_isOpeningTime_84 (by decide) rfl ?_
        refine g_goto (tgt := 89) dX9_isOpeningTime_85 (by decide) ?_
        subst hF
        exact g_zret rfl dX9_isOpeningTime_89 (by decide) (Nat.le_of_ble_eq_true rfl) (Nat.le_of_ble_eq_true rfl) ⟨rfl, rfl⟩
  · replace hF := ite_n hF c4
    try replace hQ := ite_r hQ c4
    refine g_iload_n dX9_isOpeningTime_60 rfl rfl rfl ?_
    refine g_ifeq (tgt := 72) dX9_isOpeningTime_61 (by decide) rfl (fun c7 => ?_) (fun c7 => ?_)
    · replace hF := ite_p hF c7
      try replace hQ := ite_q hQ c7
      refine g_iconst (v := 0) dX9_isOpeningTime_72 (by decide) rfl ?_
      refine g_goto (tgt := 89) dX9_isOpeningTime_73 (by decide) ?_
      subst hF
      exact g_zret rfl dX9_isOpeningTime_89 (by decide) (Nat.le_of_ble_eq_true rfl) (Nat.le_of_ble_eq_true rfl) ⟨rfl, rfl⟩
    · replace hF := ite_n hF c7
      try replace hQ := ite_r hQ c7
      refine g_iload_n dX9_isOpeningTime_64 rfl rfl rfl ?_
      refine g_ifeq (tgt := 72) dX9_isOpeningTime_65 (by decide) rfl (fun c8 => ?_) (fun c8 => ?_)
      · replace hF := ite_p hF c8
        try replace hQ := ite_q hQ c8
        refine g_iconst (v := 0) dX9_isOpeningTime_72 (by decide) rfl ?_
        refine g_goto (tgt := 89) dX9_isOpeningTime_73 (by decide) ?_
        subst hF
        exact g_zret rfl dX9_isOpeningTime_89 (by decide) (Nat.le_of_ble_eq_true rfl) (Nat.le_of_ble_eq_true rfl) ⟨rfl, rfl⟩
      · replace hF := ite_n hF c8
        try replace hQ := ite_r hQ c8
        refine g_iconst (v := 1) dX9_isOpeningTime_68 (by decide) rfl ?_
        refine g_goto (tgt := 89) dX9_isOpeningTime_69 (by decide) ?_
        subst hF
        exact g_zret rfl dX9_isOpeningTime_89 (by decide) (Nat.le_of_ble_eq_true rfl) (Nat.le_of_ble_eq_true rfl) ⟨rfl, rfl⟩
noncomputable def J_X9_isOpeningTime_25 (σ : gS) (y1 : Int32) (u0 : Int32) : Int32 :=
  if (σ 6 (ix (8 : Int32))) < y1 then
    J_X9_isOpeningTime_42 σ u0 (0 : Int32)
  else
    J_X9_isOpeningTime_42 σ u0 (1 : Int32)
def QJ_X9_isOpeningTime_25 (σ : gS) (y1 : Int32) (u0 : Int32) : Prop :=
  if (σ 6 (ix (8 : Int32))) < y1 then
    (QJ_X9_isOpeningTime_42 σ u0 (0 : Int32))
  else
    (QJ_X9_isOpeningTime_42 σ u0 (1 : Int32))
set_option maxHeartbeats 4000000 in
set_option maxRecDepth 100000 in
theorem j_X9_isOpeningTime_25 (l : Launch) (g : gE) {σ : gS} {ζ : gQ} {fr : Int32} : ∀ (y1 : Int32) (u0 : Int32), QJ_X9_isOpeningTime_25 σ y1 u0 → J_X9_isOpeningTime_25 σ y1 u0 = fr → gG l g mX9_isOpeningTime (rm 0 0) (gZm g (rm 0 0) (fun r h => r = some (.int fr) ∧ h = hp σ ζ)) 25 [(0, .ref 0), (1, .int y1)] [.int u0] (hp σ ζ) 0 0 := by
  intro y1 u0 hQ hF
  unfold J_X9_isOpeningTime_25 at hF
  unfold QJ_X9_isOpeningTime_25 at hQ
  refine g_istoreL_n (L1 := [(0, _), (1, _), (2, _)]) dX9_isOpeningTime_25 rfl (by decide) rfl rfl ?_
  refine g_iload_n dX9_isOpeningTime_26 rfl rfl rfl ?_
  refine g_aload_n dX9_isOpeningTime_27 rfl rfl rfl ?_
  refine g_get gClX9 12 (by decide) fl_X9_40 dX9_isOpeningTime_28 (ho_0 _ _) rfl rfl ?_
  refine g_bipush (v := 8) dX9_isOpeningTime_31 (by decide) rfl ?_
  refine g_iald (ha_6 _ _) (vinc (by decide)) dX9_isOpeningTime_33 rfl ?_
  refine g_icmpgt (tgt := 41) dX9_isOpeningTime_34 (by decide) rfl (fun c3 => ?_) (fun c3 => ?_)
  · replace hF := ite_p hF c3
    try replace hQ := ite_q hQ c3
    refine g_iconst (v := 0) dX9_isOpeningTime_41 (by decide) rfl ?_
    refine g_sub [0, 2] rfl ?_
    exact j_X9_isOpeningTime_42 l g _ _ hQ hF
  · replace hF := ite_n hF c3
    try replace hQ := ite_r hQ c3
    refine g_iconst (v := 1) dX9_isOpeningTime_37 (by decide) rfl ?_
    refine g_goto (tgt := 42) dX9_isOpeningTime_38 (by decide) ?_
    refine g_sub [0, 2] rfl ?_
    exact j_X9_isOpeningTime_42 l g _ _ hQ hF
noncomputable def Fr_X9_isOpeningTime (σ : gS)  : Int32 :=
  let v1 := (rem32 (σ 0 10) (1000 : Int32))
  if v1 < (σ 6 (ix (7 : Int32))) then
    J_X9_isOpeningTime_25 σ v1 (0 : Int32)
  else
    J_X9_isOpeningTime_25 σ v1 (1 : Int32)
noncomputable def F_X9_isOpeningTime : gS → Int32 := Classical.choose (⟨Fr_X9_isOpeningTime, rfl⟩ : ∃ f : gS → Int32, f = Fr_X9_isOpeningTime)
theorem F_X9_isOpeningTime_eq : F_X9_isOpeningTime = Fr_X9_isOpeningTime := Classical.choose_spec (⟨Fr_X9_isOpeningTime, rfl⟩ : ∃ f : gS → Int32, f = Fr_X9_isOpeningTime)
def Q_X9_isOpeningTime (σ : gS)  : Prop :=
  let v1 := (rem32 (σ 0 10) (1000 : Int32))
  if v1 < (σ 6 (ix (7 : Int32))) then
    (QJ_X9_isOpeningTime_25 σ v1 (0 : Int32))
  else
    (QJ_X9_isOpeningTime_25 σ v1 (1 : Int32))
set_option maxHeartbeats 4000000 in
set_option maxRecDepth 100000 in
theorem c_X9_isOpeningTime (l : Launch) (g : gE)  {σ : gS} {ζ : gQ}  (hQ : Q_X9_isOpeningTime σ ) : gC l g mX9_isOpeningTime (rm 0 0) [.ref 0] (hp σ ζ) (fun r h => r = some (.int (F_X9_isOpeningTime σ )) ∧ h = hp σ ζ) := by
  refine gC_of (by decide) (Nat.le_of_ble_eq_true rfl) ?_
  generalize hF : (F_X9_isOpeningTime σ ) = fr
  rw [F_X9_isOpeningTime_eq] at hF
  unfold Fr_X9_isOpeningTime at hF
  unfold Q_X9_isOpeningTime at hQ
  refine g_aload_n dX9_isOpeningTime_0 rfl rfl rfl ?_
  refine g_get gClX9 10 (by decide) fl_X9_147 dX9_isOpeningTime_1 (ho_0 _ _) rfl rfl ?_
  refine g_sipush (v := 1000) dX9_isOpeningTime_4 (by decide) rfl ?_
  refine g_irem dX9_isOpeningTime_7 (by decide) rfl ?_
  refine g_istoreL_n (L1 := [(0, _), (1, _)]) dX9_isOpeningTime_8 rfl (by decide) rfl rfl ?_
  refine g_iload_n dX9_isOpeningTime_9 rfl rfl rfl ?_
  refine g_aload_n dX9_isOpeningTime_10 rfl rfl rfl ?_
  refine g_get gClX9 12 (by decide) fl_X9_40 dX9_isOpeningTime_11 (ho_0 _ _) rfl rfl ?_
  refine g_bipush (v := 7) dX9_isOpeningTime_14 (by decide) rfl ?_
  refine g_iald (ha_6 _ _) (vinc (by decide)) dX9_isOpeningTime_16 rfl ?_
  refine g_icmplt (tgt := 24) dX9_isOpeningTime_17 (by decide) rfl (fun c2 => ?_) (fun c2 => ?_)
  · replace hF := ite_p hF c2
    try replace hQ := ite_q hQ c2
    refine g_iconst (v := 0) dX9_isOpeningTime_24 (by decide) rfl ?_
    refine g_sub [0, 1] rfl ?_
    exact j_X9_isOpeningTime_25 l g _ _ hQ hF
  · replace hF := ite_n hF c2
    try replace hQ := ite_r hQ c2
    refine g_iconst (v := 1) dX9_isOpeningTime_20 (by decide) rfl ?_
    refine g_goto (tgt := 25) dX9_isOpeningTime_21 (by decide) ?_
    refine g_sub [0, 1] rfl ?_
    exact j_X9_isOpeningTime_25 l g _ _ hQ hF
noncomputable def Fr_X9_judgeEntry (σ : gS)  : Int32 × gS :=
  if (F_X8_classHeld σ 20) < (σ 6 (ix (5 : Int32))) then
    let f5 := (F_X9_stepOutside σ (13 : Int32) (1 : Int32) (7 : Int32) (5 : Int32))
    ((1 : Int32), f5.2)
  else
    if (F_X9_isOpeningTime σ ) = 0 then
      let f11 := (F_X9_stepOutside σ (13 : Int32) (1 : Int32) (7 : Int32) (5 : Int32))
      ((1 : Int32), f11.2)
    else
      let f14 := (F_X9_stepOutside σ (12 : Int32) (0 : Int32) (6 : Int32) (4 : Int32))
      if f14.1 = 0 then
        ((1 : Int32), f14.2)
      else
        let s16 := (pf f14.2 19 5 ((f14.2 0 10) + (f14.2 6 (ix (3 : Int32)))) : gS)
        ((1 : Int32), s16)
noncomputable def F_X9_judgeEntry : gS → Int32 × gS := Classical.choose (⟨Fr_X9_judgeEntry, rfl⟩ : ∃ f : gS → Int32 × gS, f = Fr_X9_judgeEntry)
theorem F_X9_judgeEntry_eq : F_X9_judgeEntry = Fr_X9_judgeEntry := Classical.choose_spec (⟨Fr_X9_judgeEntry, rfl⟩ : ∃ f : gS → Int32 × gS, f = Fr_X9_judgeEntry)
def Q_X9_judgeEntry (σ : gS)  : Prop :=
  if (F_X8_classHeld σ 20) < (σ 6 (ix (5 : Int32))) then
    ((Q_X9_stepOutside σ (13 : Int32) (1 : Int32) (7 : Int32) (5 : Int32)) ∧ (let f5 := (F_X9_stepOutside σ (13 : Int32) (1 : Int32) (7 : Int32) (5 : Int32))
    True))
  else
    ((Q_X9_isOpeningTime σ ) ∧ (if (F_X9_isOpeningTime σ ) = 0 then
      ((Q_X9_stepOutside σ (13 : Int32) (1 : Int32) (7 : Int32) (5 : Int32)) ∧ (let f11 := (F_X9_stepOutside σ (13 : Int32) (1 : Int32) (7 : Int32) (5 : Int32))
      True))
    else
      ((Q_X9_stepOutside σ (12 : Int32) (0 : Int32) (6 : Int32) (4 : Int32)) ∧ (let f14 := (F_X9_stepOutside σ (12 : Int32) (0 : Int32) (6 : Int32) (4 : Int32))
      if f14.1 = 0 then
        (True)
      else
        (let s16 := (pf f14.2 19 5 ((f14.2 0 10) + (f14.2 6 (ix (3 : Int32)))) : gS)
        True)))))
set_option maxHeartbeats 4000000 in
set_option maxRecDepth 100000 in
theorem c_X9_judgeEntry (l : Launch) (g : gE)  {σ : gS} {ζ : gQ}  (hQ : Q_X9_judgeEntry σ ) : gC l g mX9_judgeEntry (rm 4 113) [.ref 0] (hp σ ζ) (fun r h => r = some (.int (F_X9_judgeEntry σ ).1) ∧ h = hp (F_X9_judgeEntry σ ).2 ζ) := by
  refine gC_of (by decide) (Nat.le_of_ble_eq_true rfl) ?_
  generalize hF : (F_X9_judgeEntry σ ) = fr
  rw [F_X9_judgeEntry_eq] at hF
  unfold Fr_X9_judgeEntry at hF
  unfold Q_X9_judgeEntry at hQ
  refine g_aload_n dX9_judgeEntry_0 rfl rfl rfl ?_
  refine g_get gClX9 17 (by decide) fl_X9_75 dX9_judgeEntry_1 (ho_0 _ _) rfl rfl ?_
  refine g_get gClX6 0 (by decide) fl_X9_241 dX9_judgeEntry_4 (ho_19 _ _) rfl rfl ?_
  refine g_callv mv_X8_classHeld ml_X9_350 (c_X8_classHeld l g isS_out) (ho_20 _ _) rfl rfl (Nat.le_of_ble_eq_true rfl) (Nat.le_of_ble_eq_true rfl) (Nat.le_of_ble_eq_true rfl) (Nat.le_of_ble_eq_true rfl) rfl (Nat.le_of_ble_eq_true rfl) dX9_judgeEntry_7 rfl (fun r1 hr1 pr1 => ?_)
  obtain ⟨rfl, rfl⟩ := pr1
  refine g_aload_n dX9_judgeEntry_10 rfl rfl rfl ?_
  refine g_get gClX9 12 (by decide) fl_X9_40 dX9_judgeEntry_11 (ho_0 _ _) rfl rfl ?_
  refine g_iconst (v := 5) dX9_judgeEntry_14 (by decide) rfl ?_
  refine g_iald (ha_6 _ _) (vinc (by decide)) dX9_judgeEntry_15 rfl ?_
  refine g_icmplt (tgt := 60) dX9_judgeEntry_16 (by decide) rfl (fun c2 => ?_) (fun c2 => ?_)
  · replace hF := ite_p hF c2
    try replace hQ := ite_q hQ c2
    refine g_aload_n dX9_judgeEntry_60 rfl rfl rfl ?_
    refine g_bipush (v := 13) dX9_judgeEntry_61 (by decide) rfl ?_
    refine g_iconst (v := 1) dX9_judgeEntry_63 (by decide) rfl ?_
    refine g_bipush (v := 7) dX9_judgeEntry_64 (by decide) rfl ?_
    refine g_iconst (v := 5) dX9_judgeEntry_66 (by decide) rfl ?_
    have o3 := hQ.1
    replace hQ := hQ.2
    refine g_callv mv_X9_stepOutside ml_X9_296 (c_X9_stepOutside l g _ _ _ _ o3) (ho_0 _ _) rfl rfl (Nat.le_of_ble_eq_true rfl) (Nat.le_of_ble_eq_true rfl) (Nat.le_of_ble_eq_true rfl) (Nat.le_of_ble_eq_true rfl) rfl (Nat.le_of_ble_eq_true rfl) dX9_judgeEntry_67 rfl (fun r4 hr4 pr4 => ?_)
    obtain ⟨rfl, rfl⟩ := pr4
    refine g_pop dX9_judgeEntry_70 rfl rfl ?_
    refine g_iconst (v := 1) dX9_judgeEntry_71 (by decide) rfl ?_
    subst hF
    exact g_zret rfl dX9_judgeEntry_72 (by decide) (Nat.le_of_ble_eq_true rfl) (Nat.le_of_ble_eq_true rfl) ⟨rfl, rfl⟩
  · replace hF := ite_n hF c2
    try replace hQ := ite_r hQ c2
    refine g_aload_n dX9_judgeEntry_19 rfl rfl rfl ?_
    have o6 := hQ.1
    replace hQ := hQ.2
    refine g_callv mv_X9_isOpeningTime ml_X9_353 (c_X9_isOpeningTime l g o6) (ho_0 _ _) rfl rfl (Nat.le_of_ble_eq_true rfl) (Nat.le_of_ble_eq_true rfl) (Nat.le_of_ble_eq_true rfl) (Nat.le_of_ble_eq_true rfl) rfl (Nat.le_of_ble_eq_true rfl) dX9_judgeEntry_20 rfl (fun r7 hr7 pr7 => ?_)
    obtain ⟨rfl, rfl⟩ := pr7
    refine g_ifeq (tgt := 60) dX9_judgeEntry_23 (by decide) rfl (fun c8 => ?_) (fun c8 => ?_)
    · replace hF := ite_p hF c8
      try replace hQ := ite_q hQ c8
      refine g_aload_n dX9_judgeEntry_60 rfl rfl rfl ?_
      refine g_bipush (v := 13) dX9_judgeEntry_61 (by decide) rfl ?_
      refine g_iconst (v := 1) dX9_judgeEntry_63 (by decide) rfl ?_
      refine g_bipush (v := 7) dX9_judgeEntry_64 (by decide) rfl ?_
      refine g_iconst (v := 5) dX9_judgeEntry_66 (by decide) rfl ?_
      have o9 := hQ.1
      replace hQ := hQ.2
      refine g_callv mv_X9_stepOutside ml_X9_296 (c_X9_stepOutside l g _ _ _ _ o9) (ho_0 _ _) rfl rfl (Nat.le_of_ble_eq_true rfl) (Nat.le_of_ble_eq_true rfl) (Nat.le_of_ble_eq_true rfl) (Nat.le_of_ble_eq_true rfl) rfl (Nat.le_of_ble_eq_true rfl) dX9_judgeEntry_67 rfl (fun r10 hr10 pr10 => ?_)
      obtain ⟨rfl, rfl⟩ := pr10
      refine g_pop dX9_judgeEntry_70 rfl rfl ?_
      refine g_iconst (v := 1) dX9_judgeEntry_71 (by decide) rfl ?_
      subst hF
      exact g_zret rfl dX9_judgeEntry_72 (by decide) (Nat.le_of_ble_eq_true rfl) (Nat.le_of_ble_eq_true rfl) ⟨rfl, rfl⟩
    · replace hF := ite_n hF c8
      try replace hQ := ite_r hQ c8
      refine g_aload_n dX9_judgeEntry_26 rfl rfl rfl ?_
      refine g_bipush (v := 12) dX9_judgeEntry_27 (by decide) rfl ?_
      refine g_iconst (v := 0) dX9_judgeEntry_29 (by decide) rfl ?_
      refine g_bipush (v := 6) dX9_judgeEntry_30 (by decide) rfl ?_
      refine g_iconst (v := 4) dX9_judgeEntry_32 (by decide) rfl ?_
      have o12 := hQ.1
      replace hQ := hQ.2
      refine g_callv mv_X9_stepOutside ml_X9_296 (c_X9_stepOutside l g _ _ _ _ o12) (ho_0 _ _) rfl rfl (Nat.le_of_ble_eq_true rfl) (Nat.le_of_ble_eq_true rfl) (Nat.le_of_ble_eq_true rfl) (Nat.le_of_ble_eq_true rfl) rfl (Nat.le_of_ble_eq_true rfl) dX9_judgeEntry_33 rfl (fun r13 hr13 pr13 => ?_)
      obtain ⟨rfl, rfl⟩ := pr13
      refine g_ifeq (tgt := 71) dX9_judgeEntry_36 (by decide) rfl (fun c15 => ?_) (fun c15 => ?_)
      · replace hF := ite_p hF c15
        try replace hQ := ite_q hQ c15
        refine g_iconst (v := 1) dX9_judgeEntry_71 (by decide) rfl ?_
        subst hF
        exact g_zret rfl dX9_judgeEntry_72 (by decide) (Nat.le_of_ble_eq_true rfl) (Nat.le_of_ble_eq_true rfl) ⟨rfl, rfl⟩
      · replace hF := ite_n hF c15
        try replace hQ := ite_r hQ c15
        refine g_aload_n dX9_judgeEntry_39 rfl rfl rfl ?_
        refine g_get gClX9 17 (by decide) fl_X9_75 dX9_judgeEntry_40 (ho_0 _ _) rfl rfl ?_
        refine g_aload_n dX9_judgeEntry_43 rfl rfl rfl ?_
        refine g_get gClX9 10 (by decide) fl_X9_147 dX9_judgeEntry_44 (ho_0 _ _) rfl rfl ?_
        refine g_aload_n dX9_judgeEntry_47 rfl rfl rfl ?_
        refine g_get gClX9 12 (by decide) fl_X9_40 dX9_judgeEntry_48 (ho_0 _ _) rfl rfl ?_
        refine g_iconst (v := 3) dX9_judgeEntry_51 (by decide) rfl ?_
        refine g_iald (ha_6 _ _) (vinc (by decide)) dX9_judgeEntry_52 rfl ?_
        refine g_iadd dX9_judgeEntry_53 rfl ?_
        refine g_put gClX6 5 (by decide) fl_X9_306 rfl dX9_judgeEntry_54 (ho_19 _ _) rfl rfl (Nat.le_of_ble_eq_true rfl) po_19_5 rfl ?_
        refine g_goto (tgt := 71) dX9_judgeEntry_57 (by decide) ?_
        refine g_iconst (v := 1) dX9_judgeEntry_71 (by decide) rfl ?_
        subst hF
        exact g_zret rfl dX9_judgeEntry_72 (by decide) (Nat.le_of_ble_eq_true rfl) (Nat.le_of_ble_eq_true rfl) ⟨rfl, rfl⟩
noncomputable def Fr_X9_waitForRemoval (σ : gS)  : Int32 × gS :=
  if (σ 0 4) = (-1 : Int32) then
    let f8 := (F_X9_writeOf σ 20 (14 : Int32) (0 : Int32))
    if f8.1 = 0 then
      ((1 : Int32), f8.2)
    else
      let f12 := (F_X9_stepOutside f8.2 (22 : Int32) (0 : Int32) (0 : Int32) (7 : Int32))
      if f12.1 = 0 then
        ((1 : Int32), f12.2)
      else
        let s15 := (F_X9_openLatch f12.2 )
        ((1 : Int32), s15)
  else
    if (σ 19 5) < (σ 0 10) then
      let f5 := (F_X9_stepOutside σ (15 : Int32) (1 : Int32) (7 : Int32) (5 : Int32))
      ((1 : Int32), f5.2)
    else
      ((0 : Int32), σ)
noncomputable def F_X9_waitForRemoval : gS → Int32 × gS := Classical.choose (⟨Fr_X9_waitForRemoval, rfl⟩ : ∃ f : gS → Int32 × gS, f = Fr_X9_waitForRemoval)
theorem F_X9_waitForRemoval_eq : F_X9_waitForRemoval = Fr_X9_waitForRemoval := Classical.choose_spec (⟨Fr_X9_waitForRemoval, rfl⟩ : ∃ f : gS → Int32 × gS, f = Fr_X9_waitForRemoval)
def Q_X9_waitForRemoval (σ : gS)  : Prop :=
  if (σ 0 4) = (-1 : Int32) then
    ((Q_X9_writeOf σ 20 (14 : Int32) (0 : Int32)) ∧ (let f8 := (F_X9_writeOf σ 20 (14 : Int32) (0 : Int32))
    if f8.1 = 0 then
      (True)
    else
      ((Q_X9_stepOutside f8.2 (22 : Int32) (0 : Int32) (0 : Int32) (7 : Int32)) ∧ (let f12 := (F_X9_stepOutside f8.2 (22 : Int32) (0 : Int32) (0 : Int32) (7 : Int32))
      if f12.1 = 0 then
        (True)
      else
        (let s15 := (F_X9_openLatch f12.2 )
        True)))))
  else
    (if (σ 19 5) < (σ 0 10) then
      ((Q_X9_stepOutside σ (15 : Int32) (1 : Int32) (7 : Int32) (5 : Int32)) ∧ (let f5 := (F_X9_stepOutside σ (15 : Int32) (1 : Int32) (7 : Int32) (5 : Int32))
      True))
    else
      (True))
set_option maxHeartbeats 4000000 in
set_option maxRecDepth 100000 in
theorem c_X9_waitForRemoval (l : Launch) (g : gE)  {σ : gS} {ζ : gQ}  (hQ : Q_X9_waitForRemoval σ ) : gC l g mX9_waitForRemoval (rm 4 113) [.ref 0] (hp σ ζ) (fun r h => r = some (.int (F_X9_waitForRemoval σ ).1) ∧ h = hp (F_X9_waitForRemoval σ ).2 ζ) := by
  refine gC_of (by decide) (Nat.le_of_ble_eq_true rfl) ?_
  generalize hF : (F_X9_waitForRemoval σ ) = fr
  rw [F_X9_waitForRemoval_eq] at hF
  unfold Fr_X9_waitForRemoval at hF
  unfold Q_X9_waitForRemoval at hQ
  refine g_aload_n dX9_waitForRemoval_0 rfl rfl rfl ?_
  refine g_get gClX9 4 (by decide) fl_X9_27 dX9_waitForRemoval_1 (ho_0 _ _) rfl rfl ?_
  refine g_iconst (v := (-1)) dX9_waitForRemoval_4 (by decide) rfl ?_
  refine g_icmpne (tgt := 44) dX9_waitForRemoval_5 (by decide) rfl (fun c1 => ?_) (fun c1 => ?_)
  · replace hF := ite_n hF c1
    try replace hQ := ite_r hQ c1
    refine g_aload_n dX9_waitForRemoval_44 rfl rfl rfl ?_
    refine g_get gClX9 10 (by decide) fl_X9_147 dX9_waitForRemoval_45 (ho_0 _ _) rfl rfl ?_
    refine g_aload_n dX9_waitForRemoval_48 rfl rfl rfl ?_
    refine g_get gClX9 17 (by decide) fl_X9_75 dX9_waitForRemoval_49 (ho_0 _ _) rfl rfl ?_
    refine g_get gClX6 5 (by decide) fl_X9_306 dX9_waitForRemoval_52 (ho_19 _ _) rfl rfl ?_
    refine g_icmpgt (tgt := 60) dX9_waitForRemoval_55 (by decide) rfl (fun c2 => ?_) (fun c2 => ?_)
    · replace hF := ite_p hF c2
      try replace hQ := ite_q hQ c2
      refine g_aload_n dX9_waitForRemoval_60 rfl rfl rfl ?_
      refine g_bipush (v := 15) dX9_waitForRemoval_61 (by decide) rfl ?_
      refine g_iconst (v := 1) dX9_waitForRemoval_63 (by decide) rfl ?_
      refine g_bipush (v := 7) dX9_waitForRemoval_64 (by decide) rfl ?_
      refine g_iconst (v := 5) dX9_waitForRemoval_66 (by decide) rfl ?_
      have o3 := hQ.1
      replace hQ := hQ.2
      refine g_callv mv_X9_stepOutside ml_X9_296 (c_X9_stepOutside l g _ _ _ _ o3) (ho_0 _ _) rfl rfl (Nat.le_of_ble_eq_true rfl) (Nat.le_of_ble_eq_true rfl) (Nat.le_of_ble_eq_true rfl) (Nat.le_of_ble_eq_true rfl) rfl (Nat.le_of_ble_eq_true rfl) dX9_waitForRemoval_67 rfl (fun r4 hr4 pr4 => ?_)
      obtain ⟨rfl, rfl⟩ := pr4
      refine g_pop dX9_waitForRemoval_70 rfl rfl ?_
      refine g_iconst (v := 1) dX9_waitForRemoval_71 (by decide) rfl ?_
      subst hF
      exact g_zret rfl dX9_waitForRemoval_72 (by decide) (Nat.le_of_ble_eq_true rfl) (Nat.le_of_ble_eq_true rfl) ⟨rfl, rfl⟩
    · replace hF := ite_n hF c2
      try replace hQ := ite_r hQ c2
      refine g_iconst (v := 0) dX9_waitForRemoval_58 (by decide) rfl ?_
      subst hF
      exact g_zret rfl dX9_waitForRemoval_59 (by decide) (Nat.le_of_ble_eq_true rfl) (Nat.le_of_ble_eq_true rfl) ⟨rfl, rfl⟩
  · replace hF := ite_p hF c1
    try replace hQ := ite_q hQ c1
    refine g_aload_n dX9_waitForRemoval_8 rfl rfl rfl ?_
    refine g_aload_n dX9_waitForRemoval_9 rfl rfl rfl ?_
    refine g_get gClX9 17 (by decide) fl_X9_75 dX9_waitForRemoval_10 (ho_0 _ _) rfl rfl ?_
    refine g_get gClX6 0 (by decide) fl_X9_241 dX9_waitForRemoval_13 (ho_19 _ _) rfl rfl ?_
    refine g_bipush (v := 14) dX9_waitForRemoval_16 (by decide) rfl ?_
    refine g_iconst (v := 0) dX9_waitForRemoval_18 (by decide) rfl ?_
    have o6 := hQ.1
    replace hQ := hQ.2
    refine g_callv mv_X9_writeOf ml_X9_356 (c_X9_writeOf l g isS_out _ _ o6) (ho_0 _ _) rfl rfl (Nat.le_of_ble_eq_true rfl) (Nat.le_of_ble_eq_true rfl) (Nat.le_of_ble_eq_true rfl) (Nat.le_of_ble_eq_true rfl) rfl (Nat.le_of_ble_eq_true rfl) dX9_waitForRemoval_19 rfl (fun r7 hr7 pr7 => ?_)
    obtain ⟨rfl, rfl⟩ := pr7
    refine g_ifeq (tgt := 42) dX9_waitForRemoval_22 (by decide) rfl (fun c9 => ?_) (fun c9 => ?_)
    · replace hF := ite_p hF c9
      try replace hQ := ite_q hQ c9
      refine g_iconst (v := 1) dX9_waitForRemoval_42 (by decide) rfl ?_
      subst hF
      exact g_zret rfl dX9_waitForRemoval_43 (by decide) (Nat.le_of_ble_eq_true rfl) (Nat.le_of_ble_eq_true rfl) ⟨rfl, rfl⟩
    · replace hF := ite_n hF c9
      try replace hQ := ite_r hQ c9
      refine g_aload_n dX9_waitForRemoval_25 rfl rfl rfl ?_
      refine g_bipush (v := 22) dX9_waitForRemoval_26 (by decide) rfl ?_
      refine g_iconst (v := 0) dX9_waitForRemoval_28 (by decide) rfl ?_
      refine g_iconst (v := 0) dX9_waitForRemoval_29 (by decide) rfl ?_
      refine g_bipush (v := 7) dX9_waitForRemoval_30 (by decide) rfl ?_
      have o10 := hQ.1
      replace hQ := hQ.2
      refine g_callv mv_X9_stepOutside ml_X9_296 (c_X9_stepOutside l g _ _ _ _ o10) (ho_0 _ _) rfl rfl (Nat.le_of_ble_eq_true rfl) (Nat.le_of_ble_eq_true rfl) (Nat.le_of_ble_eq_true rfl) (Nat.le_of_ble_eq_true rfl) rfl (Nat.le_of_ble_eq_true rfl) dX9_waitForRemoval_32 rfl (fun r11 hr11 pr11 => ?_)
      obtain ⟨rfl, rfl⟩ := pr11
      refine g_ifeq (tgt := 42) dX9_waitForRemoval_35 (by decide) rfl (fun c13 => ?_) (fun c13 => ?_)
      · replace hF := ite_p hF c13
        try replace hQ := ite_q hQ c13
        refine g_iconst (v := 1) dX9_waitForRemoval_42 (by decide) rfl ?_
        subst hF
        exact g_zret rfl dX9_waitForRemoval_43 (by decide) (Nat.le_of_ble_eq_true rfl) (Nat.le_of_ble_eq_true rfl) ⟨rfl, rfl⟩
      · replace hF := ite_n hF c13
        try replace hQ := ite_r hQ c13
        refine g_aload_n dX9_waitForRemoval_38 rfl rfl rfl ?_
        refine g_callv mv_X9_openLatch ml_X9_360 (c_X9_openLatch l g) (ho_0 _ _) rfl rfl (Nat.le_of_ble_eq_true rfl) (Nat.le_of_ble_eq_true rfl) (Nat.le_of_ble_eq_true rfl) (Nat.le_of_ble_eq_true rfl) rfl (Nat.le_of_ble_eq_true rfl) dX9_waitForRemoval_39 rfl (fun r14 hr14 pr14 => ?_)
        obtain ⟨rfl, rfl⟩ := pr14
        refine g_iconst (v := 1) dX9_waitForRemoval_42 (by decide) rfl ?_
        subst hF
        exact g_zret rfl dX9_waitForRemoval_43 (by decide) (Nat.le_of_ble_eq_true rfl) (Nat.le_of_ble_eq_true rfl) ⟨rfl, rfl⟩
noncomputable def Fr_X9_endIllVisit (σ : gS)  : Int32 × gS :=
  if (σ 0 4) = (-1 : Int32) then
    let f4 := (F_X9_stepOutside σ (16 : Int32) (0 : Int32) (0 : Int32) (1 : Int32))
    ((1 : Int32), f4.2)
  else
    ((0 : Int32), σ)
noncomputable def F_X9_endIllVisit : gS → Int32 × gS := Classical.choose (⟨Fr_X9_endIllVisit, rfl⟩ : ∃ f : gS → Int32 × gS, f = Fr_X9_endIllVisit)
theorem F_X9_endIllVisit_eq : F_X9_endIllVisit = Fr_X9_endIllVisit := Classical.choose_spec (⟨Fr_X9_endIllVisit, rfl⟩ : ∃ f : gS → Int32 × gS, f = Fr_X9_endIllVisit)
def Q_X9_endIllVisit (σ : gS)  : Prop :=
  if (σ 0 4) = (-1 : Int32) then
    ((Q_X9_stepOutside σ (16 : Int32) (0 : Int32) (0 : Int32) (1 : Int32)) ∧ (let f4 := (F_X9_stepOutside σ (16 : Int32) (0 : Int32) (0 : Int32) (1 : Int32))
    True))
  else
    (True)
set_option maxHeartbeats 4000000 in
set_option maxRecDepth 100000 in
theorem c_X9_endIllVisit (l : Launch) (g : gE)  {σ : gS} {ζ : gQ}  (hQ : Q_X9_endIllVisit σ ) : gC l g mX9_endIllVisit (rm 4 113) [.ref 0] (hp σ ζ) (fun r h => r = some (.int (F_X9_endIllVisit σ ).1) ∧ h = hp (F_X9_endIllVisit σ ).2 ζ) := by
  refine gC_of (by decide) (Nat.le_of_ble_eq_true rfl) ?_
  generalize hF : (F_X9_endIllVisit σ ) = fr
  rw [F_X9_endIllVisit_eq] at hF
  unfold Fr_X9_endIllVisit at hF
  unfold Q_X9_endIllVisit at hQ
  refine g_aload_n dX9_endIllVisit_0 rfl rfl rfl ?_
  refine g_get gClX9 4 (by decide) fl_X9_27 dX9_endIllVisit_1 (ho_0 _ _) rfl rfl ?_
  refine g_iconst (v := (-1)) dX9_endIllVisit_4 (by decide) rfl ?_
  refine g_icmpeq (tgt := 10) dX9_endIllVisit_5 (by decide) rfl (fun c1 => ?_) (fun c1 => ?_)
  · replace hF := ite_p hF c1
    try replace hQ := ite_q hQ c1
    refine g_aload_n dX9_endIllVisit_10 rfl rfl rfl ?_
    refine g_bipush (v := 16) dX9_endIllVisit_11 (by decide) rfl ?_
    refine g_iconst (v := 0) dX9_endIllVisit_13 (by decide) rfl ?_
    refine g_iconst (v := 0) dX9_endIllVisit_14 (by decide) rfl ?_
    refine g_iconst (v := 1) dX9_endIllVisit_15 (by decide) rfl ?_
    have o2 := hQ.1
    replace hQ := hQ.2
    refine g_callv mv_X9_stepOutside ml_X9_296 (c_X9_stepOutside l g _ _ _ _ o2) (ho_0 _ _) rfl rfl (Nat.le_of_ble_eq_true rfl) (Nat.le_of_ble_eq_true rfl) (Nat.le_of_ble_eq_true rfl) (Nat.le_of_ble_eq_true rfl) rfl (Nat.le_of_ble_eq_true rfl) dX9_endIllVisit_16 rfl (fun r3 hr3 pr3 => ?_)
    obtain ⟨rfl, rfl⟩ := pr3
    refine g_pop dX9_endIllVisit_19 rfl rfl ?_
    refine g_iconst (v := 1) dX9_endIllVisit_20 (by decide) rfl ?_
    subst hF
    exact g_zret rfl dX9_endIllVisit_21 (by decide) (Nat.le_of_ble_eq_true rfl) (Nat.le_of_ble_eq_true rfl) ⟨rfl, rfl⟩
  · replace hF := ite_n hF c1
    try replace hQ := ite_r hQ c1
    refine g_iconst (v := 0) dX9_endIllVisit_8 (by decide) rfl ?_
    subst hF
    exact g_zret rfl dX9_endIllVisit_9 (by decide) (Nat.le_of_ble_eq_true rfl) (Nat.le_of_ble_eq_true rfl) ⟨rfl, rfl⟩
