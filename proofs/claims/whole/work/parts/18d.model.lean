/-! StationHouseModel: by program -/
noncomputable def Fr_X10_isSound (σ : gS) (ζ : gQ) (p0 : Int32) : Int32 × gS :=
  let f3 := (F_X10_isGood σ ζ p0 (0 : Int32))
  if f3.1 = 0 then
    ((0 : Int32), f3.2)
  else
    let f7 := (F_X10_isGood f3.2 ζ p0 (1 : Int32))
    if f7.1 = 0 then
      ((0 : Int32), f7.2)
    else
      let f11 := (F_X10_isGood f7.2 ζ p0 (2 : Int32))
      if f11.1 = 0 then
        ((0 : Int32), f11.2)
      else
        if (F_X10_isHeld f11.2 p0 (1 : Int32)) = 0 then
          ((0 : Int32), f11.2)
        else
          if (F_X10_isHeld f11.2 p0 (2 : Int32)) = 0 then
            ((0 : Int32), f11.2)
          else
            ((1 : Int32), f11.2)
noncomputable def F_X10_isSound : gS → gQ → Int32 → Int32 × gS := Classical.choose (⟨Fr_X10_isSound, rfl⟩ : ∃ f : gS → gQ → Int32 → Int32 × gS, f = Fr_X10_isSound)
theorem F_X10_isSound_eq : F_X10_isSound = Fr_X10_isSound := Classical.choose_spec (⟨Fr_X10_isSound, rfl⟩ : ∃ f : gS → gQ → Int32 → Int32 × gS, f = Fr_X10_isSound)
def Q_X10_isSound (σ : gS) (ζ : gQ) (p0 : Int32) : Prop :=
  (Q_X10_isGood σ ζ p0 (0 : Int32)) ∧ (let f3 := (F_X10_isGood σ ζ p0 (0 : Int32))
  if f3.1 = 0 then
    (True)
  else
    ((Q_X10_isGood f3.2 ζ p0 (1 : Int32)) ∧ (let f7 := (F_X10_isGood f3.2 ζ p0 (1 : Int32))
    if f7.1 = 0 then
      (True)
    else
      ((Q_X10_isGood f7.2 ζ p0 (2 : Int32)) ∧ (let f11 := (F_X10_isGood f7.2 ζ p0 (2 : Int32))
      if f11.1 = 0 then
        (True)
      else
        ((Q_X10_isHeld f11.2 p0 (1 : Int32)) ∧ (if (F_X10_isHeld f11.2 p0 (1 : Int32)) = 0 then
          (True)
        else
          ((Q_X10_isHeld f11.2 p0 (2 : Int32)) ∧ (if (F_X10_isHeld f11.2 p0 (2 : Int32)) = 0 then
            (True)
          else
            (True))))))))))
set_option maxHeartbeats 4000000 in
set_option maxRecDepth 100000 in
theorem c_X10_isSound (l : Launch) (g : gE)  {σ : gS} {ζ : gQ} (p0 : Int32) (hQ : Q_X10_isSound σ ζ p0) : gC l g mX10_isSound (rm 6 178) [.ref 199, .int p0] (hp σ ζ) (fun r h => r = some (.int (F_X10_isSound σ ζ p0).1) ∧ h = hp (F_X10_isSound σ ζ p0).2 ζ) := by
  refine gC_of (by decide) (Nat.le_of_ble_eq_true rfl) ?_
  generalize hF : (F_X10_isSound σ ζ p0) = fr
  rw [F_X10_isSound_eq] at hF
  unfold Fr_X10_isSound at hF
  unfold Q_X10_isSound at hQ
  refine g_aload_n dX10_isSound_0 rfl rfl rfl ?_
  refine g_iload_n dX10_isSound_1 rfl rfl rfl ?_
  refine g_iconst (v := 0) dX10_isSound_2 (by decide) rfl ?_
  have o1 := hQ.1
  replace hQ := hQ.2
  refine g_callv mv_X10_isGood ml_X10_185 (c_X10_isGood l g _ _ o1) (ho_199 _ _) rfl rfl (Nat.le_of_ble_eq_true rfl) (Nat.le_of_ble_eq_true rfl) (Nat.le_of_ble_eq_true rfl) (Nat.le_of_ble_eq_true rfl) rfl (Nat.le_of_ble_eq_true rfl) dX10_isSound_3 rfl (fun r2 hr2 pr2 => ?_)
  obtain ⟨rfl, rfl⟩ := pr2
  refine g_ifeq (tgt := 49) dX10_isSound_6 (by decide) rfl (fun c4 => ?_) (fun c4 => ?_)
  · replace hF := ite_p hF c4
    try replace hQ := ite_q hQ c4
    refine g_iconst (v := 0) dX10_isSound_49 (by decide) rfl ?_
    subst hF
    exact g_zret rfl dX10_isSound_50 (by decide) (Nat.le_of_ble_eq_true rfl) (Nat.le_of_ble_eq_true rfl) ⟨rfl, rfl⟩
  · replace hF := ite_n hF c4
    try replace hQ := ite_r hQ c4
    refine g_aload_n dX10_isSound_9 rfl rfl rfl ?_
    refine g_iload_n dX10_isSound_10 rfl rfl rfl ?_
    refine g_iconst (v := 1) dX10_isSound_11 (by decide) rfl ?_
    have o5 := hQ.1
    replace hQ := hQ.2
    refine g_callv mv_X10_isGood ml_X10_185 (c_X10_isGood l g _ _ o5) (ho_199 _ _) rfl rfl (Nat.le_of_ble_eq_true rfl) (Nat.le_of_ble_eq_true rfl) (Nat.le_of_ble_eq_true rfl) (Nat.le_of_ble_eq_true rfl) rfl (Nat.le_of_ble_eq_true rfl) dX10_isSound_12 rfl (fun r6 hr6 pr6 => ?_)
    obtain ⟨rfl, rfl⟩ := pr6
    refine g_ifeq (tgt := 49) dX10_isSound_15 (by decide) rfl (fun c8 => ?_) (fun c8 => ?_)
    · replace hF := ite_p hF c8
      try replace hQ := ite_q hQ c8
      refine g_iconst (v := 0) dX10_isSound_49 (by decide) rfl ?_
      subst hF
      exact g_zret rfl dX10_isSound_50 (by decide) (Nat.le_of_ble_eq_true rfl) (Nat.le_of_ble_eq_true rfl) ⟨rfl, rfl⟩
    · replace hF := ite_n hF c8
      try replace hQ := ite_r hQ c8
      refine g_aload_n dX10_isSound_18 rfl rfl rfl ?_
      refine g_iload_n dX10_isSound_19 rfl rfl rfl ?_
      refine g_iconst (v := 2) dX10_isSound_20 (by decide) rfl ?_
      have o9 := hQ.1
      replace hQ := hQ.2
      refine g_callv mv_X10_isGood ml_X10_185 (c_X10_isGood l g _ _ o9) (ho_199 _ _) rfl rfl (Nat.le_of_ble_eq_true rfl) (Nat.le_of_ble_eq_true rfl) (Nat.le_of_ble_eq_true rfl) (Nat.le_of_ble_eq_true rfl) rfl (Nat.le_of_ble_eq_true rfl) dX10_isSound_21 rfl (fun r10 hr10 pr10 => ?_)
      obtain ⟨rfl, rfl⟩ := pr10
      refine g_ifeq (tgt := 49) dX10_isSound_24 (by decide) rfl (fun c12 => ?_) (fun c12 => ?_)
      · replace hF := ite_p hF c12
        try replace hQ := ite_q hQ c12
        refine g_iconst (v := 0) dX10_isSound_49 (by decide) rfl ?_
        subst hF
        exact g_zret rfl dX10_isSound_50 (by decide) (Nat.le_of_ble_eq_true rfl) (Nat.le_of_ble_eq_true rfl) ⟨rfl, rfl⟩
      · replace hF := ite_n hF c12
        try replace hQ := ite_r hQ c12
        refine g_aload_n dX10_isSound_27 rfl rfl rfl ?_
        refine g_iload_n dX10_isSound_28 rfl rfl rfl ?_
        refine g_iconst (v := 1) dX10_isSound_29 (by decide) rfl ?_
        have o13 := hQ.1
        replace hQ := hQ.2
        refine g_callv mv_X10_isHeld ml_X10_189 (c_X10_isHeld l g _ _ o13) (ho_199 _ _) rfl rfl (Nat.le_of_ble_eq_true rfl) (Nat.le_of_ble_eq_true rfl) (Nat.le_of_ble_eq_true rfl) (Nat.le_of_ble_eq_true rfl) rfl (Nat.le_of_ble_eq_true rfl) dX10_isSound_30 rfl (fun r14 hr14 pr14 => ?_)
        obtain ⟨rfl, rfl⟩ := pr14
        refine g_ifeq (tgt := 49) dX10_isSound_33 (by decide) rfl (fun c15 => ?_) (fun c15 => ?_)
        · replace hF := ite_p hF c15
          try replace hQ := ite_q hQ c15
          refine g_iconst (v := 0) dX10_isSound_49 (by decide) rfl ?_
          subst hF
          exact g_zret rfl dX10_isSound_50 (by decide) (Nat.le_of_ble_eq_true rfl) (Nat.le_of_ble_eq_true rfl) ⟨rfl, rfl⟩
        · replace hF := ite_n hF c15
          try replace hQ := ite_r hQ c15
          refine g_aload_n dX10_isSound_36 rfl rfl rfl ?_
          refine g_iload_n dX10_isSound_37 rfl rfl rfl ?_
          refine g_iconst (v := 2) dX10_isSound_38 (by decide) rfl ?_
          have o16 := hQ.1
          replace hQ := hQ.2
          refine g_callv mv_X10_isHeld ml_X10_189 (c_X10_isHeld l g _ _ o16) (ho_199 _ _) rfl rfl (Nat.le_of_ble_eq_true rfl) (Nat.le_of_ble_eq_true rfl) (Nat.le_of_ble_eq_true rfl) (Nat.le_of_ble_eq_true rfl) rfl (Nat.le_of_ble_eq_true rfl) dX10_isSound_39 rfl (fun r17 hr17 pr17 => ?_)
          obtain ⟨rfl, rfl⟩ := pr17
          refine g_ifeq (tgt := 49) dX10_isSound_42 (by decide) rfl (fun c18 => ?_) (fun c18 => ?_)
          · replace hF := ite_p hF c18
            try replace hQ := ite_q hQ c18
            refine g_iconst (v := 0) dX10_isSound_49 (by decide) rfl ?_
            subst hF
            exact g_zret rfl dX10_isSound_50 (by decide) (Nat.le_of_ble_eq_true rfl) (Nat.le_of_ble_eq_true rfl) ⟨rfl, rfl⟩
          · replace hF := ite_n hF c18
            try replace hQ := ite_r hQ c18
            refine g_iconst (v := 1) dX10_isSound_45 (by decide) rfl ?_
            refine g_goto (tgt := 50) dX10_isSound_46 (by decide) ?_
            subst hF
            exact g_zret rfl dX10_isSound_50 (by decide) (Nat.le_of_ble_eq_true rfl) (Nat.le_of_ble_eq_true rfl) ⟨rfl, rfl⟩
noncomputable def Fr_X10_looksAt (σ : gS) (ζ : gQ) (p0 : Int32) : gS × gQ :=
  let f3 := (F_X10_hasPass σ ζ p0)
  if f3.1 = 0 then
    let f7 := (F_X10_isSound f3.2 ζ p0)
    if f7.1 = 0 then
      let f11 := (F_X10_put_ f7.2 ζ (5 : Int32) (1 : Int32) p0)
      if f11.1 = 0 then
        (f11.2.1, f11.2.2)
      else
        let s14 := (F_X10_outsideTo f11.2.1 (7 : Int32) (5 : Int32))
        (s14, f11.2.2)
    else
      let f17 := (F_X10_put_ f7.2 ζ (4 : Int32) (0 : Int32) p0)
      if f17.1 = 0 then
        (f17.2.1, f17.2.2)
      else
        let s20 := (F_X10_outsideTo f17.2.1 (2 : Int32) (2 : Int32))
        let z21 := (vp_updL f17.2.2 44 ((f17.2.2 19) + (s20 217 (ix (2 : Int32))).toInt64) : gQ)
        (s20, z21)
  else
    let f24 := (F_X10_put_ f3.2 ζ (3 : Int32) (0 : Int32) p0)
    if f24.1 = 0 then
      (f24.2.1, f24.2.2)
    else
      let s27 := (F_X10_outsideTo f24.2.1 (5 : Int32) (3 : Int32))
      (s27, f24.2.2)
noncomputable def F_X10_looksAt : gS → gQ → Int32 → gS × gQ := Classical.choose (⟨Fr_X10_looksAt, rfl⟩ : ∃ f : gS → gQ → Int32 → gS × gQ, f = Fr_X10_looksAt)
theorem F_X10_looksAt_eq : F_X10_looksAt = Fr_X10_looksAt := Classical.choose_spec (⟨Fr_X10_looksAt, rfl⟩ : ∃ f : gS → gQ → Int32 → gS × gQ, f = Fr_X10_looksAt)
def Q_X10_looksAt (σ : gS) (ζ : gQ) (p0 : Int32) : Prop :=
  (Q_X10_hasPass σ ζ p0) ∧ (let f3 := (F_X10_hasPass σ ζ p0)
  if f3.1 = 0 then
    ((Q_X10_isSound f3.2 ζ p0) ∧ (let f7 := (F_X10_isSound f3.2 ζ p0)
    if f7.1 = 0 then
      ((Q_X10_put_ f7.2 ζ (5 : Int32) (1 : Int32) p0) ∧ (let f11 := (F_X10_put_ f7.2 ζ (5 : Int32) (1 : Int32) p0)
      if f11.1 = 0 then
        (True)
      else
        (let s14 := (F_X10_outsideTo f11.2.1 (7 : Int32) (5 : Int32))
        True)))
    else
      ((Q_X10_put_ f7.2 ζ (4 : Int32) (0 : Int32) p0) ∧ (let f17 := (F_X10_put_ f7.2 ζ (4 : Int32) (0 : Int32) p0)
      if f17.1 = 0 then
        (True)
      else
        (let s20 := (F_X10_outsideTo f17.2.1 (2 : Int32) (2 : Int32))
        let z21 := (vp_updL f17.2.2 44 ((f17.2.2 19) + (s20 217 (ix (2 : Int32))).toInt64) : gQ)
        True)))))
  else
    ((Q_X10_put_ f3.2 ζ (3 : Int32) (0 : Int32) p0) ∧ (let f24 := (F_X10_put_ f3.2 ζ (3 : Int32) (0 : Int32) p0)
    if f24.1 = 0 then
      (True)
    else
      (let s27 := (F_X10_outsideTo f24.2.1 (5 : Int32) (3 : Int32))
      True))))
set_option maxHeartbeats 4000000 in
set_option maxRecDepth 100000 in
theorem c_X10_looksAt (l : Launch) (g : gE)  {σ : gS} {ζ : gQ} (p0 : Int32) (hQ : Q_X10_looksAt σ ζ p0) : gC l g mX10_looksAt (rm 7 203) [.ref 199, .int p0] (hp σ ζ) (fun r h => r = none ∧ h = hp (F_X10_looksAt σ ζ p0).1 (F_X10_looksAt σ ζ p0).2) := by
  refine gC_of (by decide) (Nat.le_of_ble_eq_true rfl) ?_
  generalize hF : (F_X10_looksAt σ ζ p0) = fr
  rw [F_X10_looksAt_eq] at hF
  unfold Fr_X10_looksAt at hF
  unfold Q_X10_looksAt at hQ
  refine g_aload_n dX10_looksAt_0 rfl rfl rfl ?_
  refine g_iload_n dX10_looksAt_1 rfl rfl rfl ?_
  have o1 := hQ.1
  replace hQ := hQ.2
  refine g_callv mv_X10_hasPass ml_X10_293 (c_X10_hasPass l g _ o1) (ho_199 _ _) rfl rfl (Nat.le_of_ble_eq_true rfl) (Nat.le_of_ble_eq_true rfl) (Nat.le_of_ble_eq_true rfl) (Nat.le_of_ble_eq_true rfl) rfl (Nat.le_of_ble_eq_true rfl) dX10_looksAt_2 rfl (fun r2 hr2 pr2 => ?_)
  obtain ⟨rfl, rfl⟩ := pr2
  refine g_ifeq (tgt := 27) dX10_looksAt_5 (by decide) rfl (fun c4 => ?_) (fun c4 => ?_)
  · replace hF := ite_p hF c4
    try replace hQ := ite_q hQ c4
    refine g_aload_n dX10_looksAt_27 rfl rfl rfl ?_
    refine g_iload_n dX10_looksAt_28 rfl rfl rfl ?_
    have o5 := hQ.1
    replace hQ := hQ.2
    refine g_callv mv_X10_isSound ml_X10_296 (c_X10_isSound l g _ o5) (ho_199 _ _) rfl rfl (Nat.le_of_ble_eq_true rfl) (Nat.le_of_ble_eq_true rfl) (Nat.le_of_ble_eq_true rfl) (Nat.le_of_ble_eq_true rfl) rfl (Nat.le_of_ble_eq_true rfl) dX10_looksAt_29 rfl (fun r6 hr6 pr6 => ?_)
    obtain ⟨rfl, rfl⟩ := pr6
    refine g_ifeq (tgt := 70) dX10_looksAt_32 (by decide) rfl (fun c8 => ?_) (fun c8 => ?_)
    · replace hF := ite_p hF c8
      try replace hQ := ite_q hQ c8
      refine g_aload_n dX10_looksAt_70 rfl rfl rfl ?_
      refine g_iconst (v := 5) dX10_looksAt_71 (by decide) rfl ?_
      refine g_iconst (v := 1) dX10_looksAt_72 (by decide) rfl ?_
      refine g_iload_n dX10_looksAt_73 rfl rfl rfl ?_
      have o9 := hQ.1
      replace hQ := hQ.2
      refine g_callv mv_X10_put_ ml_X10_239 (c_X10_put_ l g _ _ _ o9) (ho_199 _ _) rfl rfl (Nat.le_of_ble_eq_true rfl) (Nat.le_of_ble_eq_true rfl) (Nat.le_of_ble_eq_true rfl) (Nat.le_of_ble_eq_true rfl) rfl (Nat.le_of_ble_eq_true rfl) dX10_looksAt_74 rfl (fun r10 hr10 pr10 => ?_)
      obtain ⟨rfl, rfl⟩ := pr10
      refine g_ifeq (tgt := 87) dX10_looksAt_77 (by decide) rfl (fun c12 => ?_) (fun c12 => ?_)
      · replace hF := ite_p hF c12
        try replace hQ := ite_q hQ c12
        subst hF
        exact g_vret rfl dX10_looksAt_87 (Nat.le_of_ble_eq_true rfl) (Nat.le_of_ble_eq_true rfl) ⟨rfl, rfl⟩
      · replace hF := ite_n hF c12
        try replace hQ := ite_r hQ c12
        refine g_aload_n dX10_looksAt_80 rfl rfl rfl ?_
        refine g_bipush (v := 7) dX10_looksAt_81 (by decide) rfl ?_
        refine g_iconst (v := 5) dX10_looksAt_83 (by decide) rfl ?_
        refine g_callv mv_X10_outsideTo ml_X10_277 (c_X10_outsideTo l g _ _) (ho_199 _ _) rfl rfl (Nat.le_of_ble_eq_true rfl) (Nat.le_of_ble_eq_true rfl) (Nat.le_of_ble_eq_true rfl) (Nat.le_of_ble_eq_true rfl) rfl (Nat.le_of_ble_eq_true rfl) dX10_looksAt_84 rfl (fun r13 hr13 pr13 => ?_)
        obtain ⟨rfl, rfl⟩ := pr13
        subst hF
        exact g_vret rfl dX10_looksAt_87 (Nat.le_of_ble_eq_true rfl) (Nat.le_of_ble_eq_true rfl) ⟨rfl, rfl⟩
    · replace hF := ite_n hF c8
      try replace hQ := ite_r hQ c8
      refine g_aload_n dX10_looksAt_35 rfl rfl rfl ?_
      refine g_iconst (v := 4) dX10_looksAt_36 (by decide) rfl ?_
      refine g_iconst (v := 0) dX10_looksAt_37 (by decide) rfl ?_
      refine g_iload_n dX10_looksAt_38 rfl rfl rfl ?_
      have o15 := hQ.1
      replace hQ := hQ.2
      refine g_callv mv_X10_put_ ml_X10_239 (c_X10_put_ l g _ _ _ o15) (ho_199 _ _) rfl rfl (Nat.le_of_ble_eq_true rfl) (Nat.le_of_ble_eq_true rfl) (Nat.le_of_ble_eq_true rfl) (Nat.le_of_ble_eq_true rfl) rfl (Nat.le_of_ble_eq_true rfl) dX10_looksAt_39 rfl (fun r16 hr16 pr16 => ?_)
      obtain ⟨rfl, rfl⟩ := pr16
      refine g_ifeq (tgt := 87) dX10_looksAt_42 (by decide) rfl (fun c18 => ?_) (fun c18 => ?_)
      · replace hF := ite_p hF c18
        try replace hQ := ite_q hQ c18
        subst hF
        exact g_vret rfl dX10_looksAt_87 (Nat.le_of_ble_eq_true rfl) (Nat.le_of_ble_eq_true rfl) ⟨rfl, rfl⟩
      · replace hF := ite_n hF c18
        try replace hQ := ite_r hQ c18
        refine g_aload_n dX10_looksAt_45 rfl rfl rfl ?_
        refine g_iconst (v := 2) dX10_looksAt_46 (by decide) rfl ?_
        refine g_iconst (v := 2) dX10_looksAt_47 (by decide) rfl ?_
        refine g_callv mv_X10_outsideTo ml_X10_277 (c_X10_outsideTo l g _ _) (ho_199 _ _) rfl rfl (Nat.le_of_ble_eq_true rfl) (Nat.le_of_ble_eq_true rfl) (Nat.le_of_ble_eq_true rfl) (Nat.le_of_ble_eq_true rfl) rfl (Nat.le_of_ble_eq_true rfl) dX10_looksAt_48 rfl (fun r19 hr19 pr19 => ?_)
        obtain ⟨rfl, rfl⟩ := pr19
        refine g_aload_n dX10_looksAt_51 rfl rfl rfl ?_
        refine g_aload_n dX10_looksAt_52 rfl rfl rfl ?_
        refine g_get gClX10 19 (by decide) fl_X10_182 dX10_looksAt_53 (ho_199 _ _) rfl rfl ?_
        refine g_aload_n dX10_looksAt_56 rfl rfl rfl ?_
        refine g_get gClX10 34 (by decide) fl_X10_63 dX10_looksAt_57 (ho_199 _ _) rfl rfl ?_
        refine g_iconst (v := 2) dX10_looksAt_60 (by decide) rfl ?_
        refine g_iald (ha_217 _ _) (vinc (by decide)) dX10_looksAt_61 rfl ?_
        refine g_i2l dX10_looksAt_62 rfl ?_
        refine g_ladd dX10_looksAt_63 rfl ?_
        refine g_put gClX10 44 (by decide) fl_X10_302 rfl dX10_looksAt_64 (ho_199 _ _) rfl rfl (Nat.le_of_ble_eq_true rfl) pz_44 rfl ?_
        refine g_goto (tgt := 87) dX10_looksAt_67 (by decide) ?_
        subst hF
        exact g_vret rfl dX10_looksAt_87 (Nat.le_of_ble_eq_true rfl) (Nat.le_of_ble_eq_true rfl) ⟨rfl, rfl⟩
  · replace hF := ite_n hF c4
    try replace hQ := ite_r hQ c4
    refine g_aload_n dX10_looksAt_8 rfl rfl rfl ?_
    refine g_iconst (v := 3) dX10_looksAt_9 (by decide) rfl ?_
    refine g_iconst (v := 0) dX10_looksAt_10 (by decide) rfl ?_
    refine g_iload_n dX10_looksAt_11 rfl rfl rfl ?_
    have o22 := hQ.1
    replace hQ := hQ.2
    refine g_callv mv_X10_put_ ml_X10_239 (c_X10_put_ l g _ _ _ o22) (ho_199 _ _) rfl rfl (Nat.le_of_ble_eq_true rfl) (Nat.le_of_ble_eq_true rfl) (Nat.le_of_ble_eq_true rfl) (Nat.le_of_ble_eq_true rfl) rfl (Nat.le_of_ble_eq_true rfl) dX10_looksAt_12 rfl (fun r23 hr23 pr23 => ?_)
    obtain ⟨rfl, rfl⟩ := pr23
    refine g_ifeq (tgt := 87) dX10_looksAt_15 (by decide) rfl (fun c25 => ?_) (fun c25 => ?_)
    · replace hF := ite_p hF c25
      try replace hQ := ite_q hQ c25
      subst hF
      exact g_vret rfl dX10_looksAt_87 (Nat.le_of_ble_eq_true rfl) (Nat.le_of_ble_eq_true rfl) ⟨rfl, rfl⟩
    · replace hF := ite_n hF c25
      try replace hQ := ite_r hQ c25
      refine g_aload_n dX10_looksAt_18 rfl rfl rfl ?_
      refine g_iconst (v := 5) dX10_looksAt_19 (by decide) rfl ?_
      refine g_iconst (v := 3) dX10_looksAt_20 (by decide) rfl ?_
      refine g_callv mv_X10_outsideTo ml_X10_277 (c_X10_outsideTo l g _ _) (ho_199 _ _) rfl rfl (Nat.le_of_ble_eq_true rfl) (Nat.le_of_ble_eq_true rfl) (Nat.le_of_ble_eq_true rfl) (Nat.le_of_ble_eq_true rfl) rfl (Nat.le_of_ble_eq_true rfl) dX10_looksAt_21 rfl (fun r26 hr26 pr26 => ?_)
      obtain ⟨rfl, rfl⟩ := pr26
      refine g_goto (tgt := 87) dX10_looksAt_24 (by decide) ?_
      subst hF
      exact g_vret rfl dX10_looksAt_87 (Nat.le_of_ble_eq_true rfl) (Nat.le_of_ble_eq_true rfl) ⟨rfl, rfl⟩
noncomputable def Fr_X10_waits (σ : gS) (ζ : gQ) (p0 : Int32) : Int32 × gS × gQ :=
  if (σ 199 22) < 0 then
    if 0 < (lg_cmp (ζ 19) (ζ 44)) then
      let f5 := (F_X10_put_ σ ζ (7 : Int32) (1 : Int32) p0)
      if f5.1 = 0 then
        ((1 : Int32), f5.2.1, f5.2.2)
      else
        let s8 := (F_X10_outsideTo f5.2.1 (7 : Int32) (5 : Int32))
        ((1 : Int32), s8, f5.2.2)
    else
      ((0 : Int32), σ, ζ)
  else
    let f11 := (F_X10_put_ σ ζ (6 : Int32) (0 : Int32) p0)
    if f11.1 = 0 then
      ((1 : Int32), f11.2.1, f11.2.2)
    else
      let s14 := (F_X10_outsideTo f11.2.1 (3 : Int32) (3 : Int32))
      let s15 := (pf s14 199 45 (s14 199 22) : gS)
      ((1 : Int32), s15, f11.2.2)
noncomputable def F_X10_waits : gS → gQ → Int32 → Int32 × gS × gQ := Classical.choose (⟨Fr_X10_waits, rfl⟩ : ∃ f : gS → gQ → Int32 → Int32 × gS × gQ, f = Fr_X10_waits)
theorem F_X10_waits_eq : F_X10_waits = Fr_X10_waits := Classical.choose_spec (⟨Fr_X10_waits, rfl⟩ : ∃ f : gS → gQ → Int32 → Int32 × gS × gQ, f = Fr_X10_waits)
def Q_X10_waits (σ : gS) (ζ : gQ) (p0 : Int32) : Prop :=
  if (σ 199 22) < 0 then
    (if 0 < (lg_cmp (ζ 19) (ζ 44)) then
      ((Q_X10_put_ σ ζ (7 : Int32) (1 : Int32) p0) ∧ (let f5 := (F_X10_put_ σ ζ (7 : Int32) (1 : Int32) p0)
      if f5.1 = 0 then
        (True)
      else
        (let s8 := (F_X10_outsideTo f5.2.1 (7 : Int32) (5 : Int32))
        True)))
    else
      (True))
  else
    ((Q_X10_put_ σ ζ (6 : Int32) (0 : Int32) p0) ∧ (let f11 := (F_X10_put_ σ ζ (6 : Int32) (0 : Int32) p0)
    if f11.1 = 0 then
      (True)
    else
      (let s14 := (F_X10_outsideTo f11.2.1 (3 : Int32) (3 : Int32))
      let s15 := (pf s14 199 45 (s14 199 22) : gS)
      True)))
set_option maxHeartbeats 4000000 in
set_option maxRecDepth 100000 in
theorem c_X10_waits (l : Launch) (g : gE)  {σ : gS} {ζ : gQ} (p0 : Int32) (hQ : Q_X10_waits σ ζ p0) : gC l g mX10_waits (rm 7 203) [.ref 199, .int p0] (hp σ ζ) (fun r h => r = some (.int (F_X10_waits σ ζ p0).1) ∧ h = hp (F_X10_waits σ ζ p0).2.1 (F_X10_waits σ ζ p0).2.2) := by
  refine gC_of (by decide) (Nat.le_of_ble_eq_true rfl) ?_
  generalize hF : (F_X10_waits σ ζ p0) = fr
  rw [F_X10_waits_eq] at hF
  unfold Fr_X10_waits at hF
  unfold Q_X10_waits at hQ
  refine g_aload_n dX10_waits_0 rfl rfl rfl ?_
  refine g_get gClX10 22 (by decide) fl_X10_76 dX10_waits_1 (ho_199 _ _) rfl rfl ?_
  refine g_iflt (tgt := 34) dX10_waits_4 (by decide) rfl (fun c1 => ?_) (fun c1 => ?_)
  · replace hF := ite_p hF c1
    try replace hQ := ite_q hQ c1
    refine g_aload_n dX10_waits_34 rfl rfl rfl ?_
    refine g_get gClX10 19 (by decide) fl_X10_182 dX10_waits_35 (ho_199 _ _) rfl rfl ?_
    refine g_aload_n dX10_waits_38 rfl rfl rfl ?_
    refine g_get gClX10 44 (by decide) fl_X10_302 dX10_waits_39 (ho_199 _ _) rfl rfl ?_
    refine g_lcmp dX10_waits_42 rfl ?_
    refine g_ifgt (tgt := 48) dX10_waits_43 (by decide) rfl (fun c2 => ?_) (fun c2 => ?_)
    · replace hF := ite_p hF c2
      try replace hQ := ite_q hQ c2
      refine g_aload_n dX10_waits_48 rfl rfl rfl ?_
      refine g_bipush (v := 7) dX10_waits_49 (by decide) rfl ?_
      refine g_iconst (v := 1) dX10_waits_51 (by decide) rfl ?_
      refine g_iload_n dX10_waits_52 rfl rfl rfl ?_
      have o3 := hQ.1
      replace hQ := hQ.2
      refine g_callv mv_X10_put_ ml_X10_239 (c_X10_put_ l g _ _ _ o3) (ho_199 _ _) rfl rfl (Nat.le_of_ble_eq_true rfl) (Nat.le_of_ble_eq_true rfl) (Nat.le_of_ble_eq_true rfl) (Nat.le_of_ble_eq_true rfl) rfl (Nat.le_of_ble_eq_true rfl) dX10_waits_53 rfl (fun r4 hr4 pr4 => ?_)
      obtain ⟨rfl, rfl⟩ := pr4
      refine g_ifeq (tgt := 66) dX10_waits_56 (by decide) rfl (fun c6 => ?_) (fun c6 => ?_)
      · replace hF := ite_p hF c6
        try replace hQ := ite_q hQ c6
        refine g_iconst (v := 1) dX10_waits_66 (by decide) rfl ?_
        subst hF
        exact g_zret rfl dX10_waits_67 (by decide) (Nat.le_of_ble_eq_true rfl) (Nat.le_of_ble_eq_true rfl) ⟨rfl, rfl⟩
      · replace hF := ite_n hF c6
        try replace hQ := ite_r hQ c6
        refine g_aload_n dX10_waits_59 rfl rfl rfl ?_
        refine g_bipush (v := 7) dX10_waits_60 (by decide) rfl ?_
        refine g_iconst (v := 5) dX10_waits_62 (by decide) rfl ?_
        refine g_callv mv_X10_outsideTo ml_X10_277 (c_X10_outsideTo l g _ _) (ho_199 _ _) rfl rfl (Nat.le_of_ble_eq_true rfl) (Nat.le_of_ble_eq_true rfl) (Nat.le_of_ble_eq_true rfl) (Nat.le_of_ble_eq_true rfl) rfl (Nat.le_of_ble_eq_true rfl) dX10_waits_63 rfl (fun r7 hr7 pr7 => ?_)
        obtain ⟨rfl, rfl⟩ := pr7
        refine g_iconst (v := 1) dX10_waits_66 (by decide) rfl ?_
        subst hF
        exact g_zret rfl dX10_waits_67 (by decide) (Nat.le_of_ble_eq_true rfl) (Nat.le_of_ble_eq_true rfl) ⟨rfl, rfl⟩
    · replace hF := ite_n hF c2
      try replace hQ := ite_r hQ c2
      refine g_iconst (v := 0) dX10_waits_46 (by decide) rfl ?_
      subst hF
      exact g_zret rfl dX10_waits_47 (by decide) (Nat.le_of_ble_eq_true rfl) (Nat.le_of_ble_eq_true rfl) ⟨rfl, rfl⟩
  · replace hF := ite_n hF c1
    try replace hQ := ite_r hQ c1
    refine g_aload_n dX10_waits_7 rfl rfl rfl ?_
    refine g_bipush (v := 6) dX10_waits_8 (by decide) rfl ?_
    refine g_iconst (v := 0) dX10_waits_10 (by decide) rfl ?_
    refine g_iload_n dX10_waits_11 rfl rfl rfl ?_
    have o9 := hQ.1
    replace hQ := hQ.2
    refine g_callv mv_X10_put_ ml_X10_239 (c_X10_put_ l g _ _ _ o9) (ho_199 _ _) rfl rfl (Nat.le_of_ble_eq_true rfl) (Nat.le_of_ble_eq_true rfl) (Nat.le_of_ble_eq_true rfl) (Nat.le_of_ble_eq_true rfl) rfl (Nat.le_of_ble_eq_true rfl) dX10_waits_12 rfl (fun r10 hr10 pr10 => ?_)
    obtain ⟨rfl, rfl⟩ := pr10
    refine g_ifeq (tgt := 32) dX10_waits_15 (by decide) rfl (fun c12 => ?_) (fun c12 => ?_)
    · replace hF := ite_p hF c12
      try replace hQ := ite_q hQ c12
      refine g_iconst (v := 1) dX10_waits_32 (by decide) rfl ?_
      subst hF
      exact g_zret rfl dX10_waits_33 (by decide) (Nat.le_of_ble_eq_true rfl) (Nat.le_of_ble_eq_true rfl) ⟨rfl, rfl⟩
    · replace hF := ite_n hF c12
      try replace hQ := ite_r hQ c12
      refine g_aload_n dX10_waits_18 rfl rfl rfl ?_
      refine g_iconst (v := 3) dX10_waits_19 (by decide) rfl ?_
      refine g_iconst (v := 3) dX10_waits_20 (by decide) rfl ?_
      refine g_callv mv_X10_outsideTo ml_X10_277 (c_X10_outsideTo l g _ _) (ho_199 _ _) rfl rfl (Nat.le_of_ble_eq_true rfl) (Nat.le_of_ble_eq_true rfl) (Nat.le_of_ble_eq_true rfl) (Nat.le_of_ble_eq_true rfl) rfl (Nat.le_of_ble_eq_true rfl) dX10_waits_21 rfl (fun r13 hr13 pr13 => ?_)
      obtain ⟨rfl, rfl⟩ := pr13
      refine g_aload_n dX10_waits_24 rfl rfl rfl ?_
      refine g_aload_n dX10_waits_25 rfl rfl rfl ?_
      refine g_get gClX10 22 (by decide) fl_X10_76 dX10_waits_26 (ho_199 _ _) rfl rfl ?_
      refine g_put gClX10 45 (by decide) fl_X10_308 rfl dX10_waits_29 (ho_199 _ _) rfl rfl (Nat.le_of_ble_eq_true rfl) po_199_45 rfl ?_
      refine g_iconst (v := 1) dX10_waits_32 (by decide) rfl ?_
      subst hF
      exact g_zret rfl dX10_waits_33 (by decide) (Nat.le_of_ble_eq_true rfl) (Nat.le_of_ble_eq_true rfl) ⟨rfl, rfl⟩
noncomputable def G_X10_scoreOf_L22 (p0 : Int32) (σ : gS) : Nat → Int64 → Int32 → Int32 → Int32
  | 0, _, _, _ => 0
  | n + 1, y2, y4, y5 =>
    if (16 : Int32) ≤ y5 then
      y4
    else
      if (lg_cmp ((y2 >>> (y5.toInt64 &&& 63)) &&& (1 : Int64)) (0 : Int64)) = 0 then
        G_X10_scoreOf_L22 p0 σ n y2 (y4 + (1 : Int32)) (y5 + Int32.ofInt (1))
      else
        G_X10_scoreOf_L22 p0 σ n y2 (y4 + (0 : Int32)) (y5 + Int32.ofInt (1))
def QG_X10_scoreOf_L22 (p0 : Int32) (σ : gS) : Nat → Int64 → Int32 → Int32 → Prop
  | 0, _, _, _ => False
  | n + 1, y2, y4, y5 =>
    if (16 : Int32) ≤ y5 then
      (True)
    else
      (if (lg_cmp ((y2 >>> (y5.toInt64 &&& 63)) &&& (1 : Int64)) (0 : Int64)) = 0 then
        (QG_X10_scoreOf_L22 p0 σ n y2 (y4 + (1 : Int32)) (y5 + Int32.ofInt (1)))
      else
        (QG_X10_scoreOf_L22 p0 σ n y2 (y4 + (0 : Int32)) (y5 + Int32.ofInt (1))))
set_option maxHeartbeats 4000000 in
set_option maxRecDepth 100000 in
theorem t_X10_scoreOf_L22 (l : Launch) (g : gE) {p0 : Int32} {σ : gS} {ζ : gQ} {fr : Int32} : ∀ (n : Nat) (y2 : Int64) (y4 : Int32) (y5 : Int32), QG_X10_scoreOf_L22 p0 σ n y2 y4 y5 → G_X10_scoreOf_L22 p0 σ n y2 y4 y5 = fr → gG l g mX10_scoreOf (rm 1 27) (gZm g (rm 1 27) (fun r h => r = some (.int fr) ∧ h = hp σ ζ)) 22 [(0, .ref 199), (1, .int p0), (2, .long y2), (4, .int y4), (5, .int y5)] [] (hp σ ζ) 0 0 := by
  intro n
  induction n with
  | zero => intro y2 y4 y5 hQ; exact absurd hQ (by unfold QG_X10_scoreOf_L22; exact id)
  | succ n ihL22 =>
    intro y2 y4 y5 hQ hF
    unfold G_X10_scoreOf_L22 at hF
    unfold QG_X10_scoreOf_L22 at hQ
    refine g_iload dX10_scoreOf_22 rfl rfl ?_
    refine g_bipush (v := 16) dX10_scoreOf_24 (by decide) rfl ?_
    refine g_icmpge (tgt := 56) dX10_scoreOf_26 (by decide) rfl (fun c4 => ?_) (fun c4 => ?_)
    · replace hF := ite_p hF c4
      try replace hQ := ite_q hQ c4
      refine g_iload dX10_scoreOf_56 rfl rfl ?_
      subst hF
      exact g_iret rfl dX10_scoreOf_58 (Nat.le_of_ble_eq_true rfl) (Nat.le_of_ble_eq_true rfl) ⟨rfl, rfl⟩
    · replace hF := ite_n hF c4
      try replace hQ := ite_r hQ c4
      refine g_iload dX10_scoreOf_29 rfl rfl ?_
      refine g_lload_n dX10_scoreOf_31 rfl rfl rfl ?_
      refine g_iload dX10_scoreOf_32 rfl rfl ?_
      refine g_lshr dX10_scoreOf_34 rfl ?_
      refine g_lconst (v := 1) dX10_scoreOf_35 (by decide) rfl ?_
      refine g_land dX10_scoreOf_36 rfl ?_
      refine g_lconst (v := 0) dX10_scoreOf_37 (by decide) rfl ?_
      refine g_lcmp dX10_scoreOf_38 rfl ?_
      refine g_ifne (tgt := 46) dX10_scoreOf_39 (by decide) rfl (fun c5 => ?_) (fun c5 => ?_)
      · replace hF := ite_n hF c5
        try replace hQ := ite_r hQ c5
        refine g_iconst (v := 0) dX10_scoreOf_46 (by decide) rfl ?_
        refine g_iadd dX10_scoreOf_47 rfl ?_
        refine g_istoreL (L1 := [(0, _), (1, _), (2, _), (4, _), (5, _)]) dX10_scoreOf_48 (by decide) rfl rfl ?_
        refine g_iincL (L1 := [(0, _), (1, _), (2, _), (4, _), (5, _)]) dX10_scoreOf_50 rfl (by decide) rfl rfl ?_
        refine g_goto (tgt := 22) dX10_scoreOf_53 (by decide) ?_
        refine g_sub [0, 1, 2, 3, 4] rfl ?_
        exact ihL22 _ _ _ hQ hF
      · replace hF := ite_p hF c5
        try replace hQ := ite_q hQ c5
        refine g_iconst (v := 1) dX10_scoreOf_42 (by decide) rfl ?_
        refine g_goto (tgt := 47) dX10_scoreOf_43 (by decide) ?_
        refine g_iadd dX10_scoreOf_47 rfl ?_
        refine g_istoreL (L1 := [(0, _), (1, _), (2, _), (4, _), (5, _)]) dX10_scoreOf_48 (by decide) rfl rfl ?_
        refine g_iincL (L1 := [(0, _), (1, _), (2, _), (4, _), (5, _)]) dX10_scoreOf_50 rfl (by decide) rfl rfl ?_
        refine g_goto (tgt := 22) dX10_scoreOf_53 (by decide) ?_
        refine g_sub [0, 1, 2, 3, 4] rfl ?_
        exact ihL22 _ _ _ hQ hF
noncomputable def Fr_X10_scoreOf (σ : gS) (p0 : Int32) : Int32 :=
  let v3 := ((F_X10_field σ p0 (2 : Int32) (21 : Int32) (2 : Int32)) ^^^ (σ 199 45).toInt64)
  G_X10_scoreOf_L22 p0 σ 4000 v3 (0 : Int32) (0 : Int32)
noncomputable def F_X10_scoreOf : gS → Int32 → Int32 := Classical.choose (⟨Fr_X10_scoreOf, rfl⟩ : ∃ f : gS → Int32 → Int32, f = Fr_X10_scoreOf)
theorem F_X10_scoreOf_eq : F_X10_scoreOf = Fr_X10_scoreOf := Classical.choose_spec (⟨Fr_X10_scoreOf, rfl⟩ : ∃ f : gS → Int32 → Int32, f = Fr_X10_scoreOf)
def Q_X10_scoreOf (σ : gS) (p0 : Int32) : Prop :=
  (Q_X10_field σ p0 (2 : Int32) (21 : Int32) (2 : Int32)) ∧ (let v3 := ((F_X10_field σ p0 (2 : Int32) (21 : Int32) (2 : Int32)) ^^^ (σ 199 45).toInt64)
  QG_X10_scoreOf_L22 p0 σ 4000 v3 (0 : Int32) (0 : Int32))
set_option maxHeartbeats 4000000 in
set_option maxRecDepth 100000 in
theorem c_X10_scoreOf (l : Launch) (g : gE)  {σ : gS} {ζ : gQ} (p0 : Int32) (hQ : Q_X10_scoreOf σ p0) : gC l g mX10_scoreOf (rm 1 27) [.ref 199, .int p0] (hp σ ζ) (fun r h => r = some (.int (F_X10_scoreOf σ p0)) ∧ h = hp σ ζ) := by
  refine gC_of (by decide) (Nat.le_of_ble_eq_true rfl) ?_
  generalize hF : (F_X10_scoreOf σ p0) = fr
  rw [F_X10_scoreOf_eq] at hF
  unfold Fr_X10_scoreOf at hF
  unfold Q_X10_scoreOf at hQ
  refine g_aload_n dX10_scoreOf_0 rfl rfl rfl ?_
  refine g_iload_n dX10_scoreOf_1 rfl rfl rfl ?_
  refine g_iconst (v := 2) dX10_scoreOf_2 (by decide) rfl ?_
  refine g_bipush (v := 21) dX10_scoreOf_3 (by decide) rfl ?_
  refine g_iconst (v := 2) dX10_scoreOf_5 (by decide) rfl ?_
  have o1 := hQ.1
  replace hQ := hQ.2
  refine g_callv mv_X10_field ml_X10_170 (c_X10_field l g _ _ _ _ o1) (ho_199 _ _) rfl rfl (Nat.le_of_ble_eq_true rfl) (Nat.le_of_ble_eq_true rfl) (Nat.le_of_ble_eq_true rfl) (Nat.le_of_ble_eq_true rfl) rfl (Nat.le_of_ble_eq_true rfl) dX10_scoreOf_6 rfl (fun r2 hr2 pr2 => ?_)
  obtain ⟨rfl, rfl⟩ := pr2
  refine g_aload_n dX10_scoreOf_9 rfl rfl rfl ?_
  refine g_get gClX10 45 (by decide) fl_X10_308 dX10_scoreOf_10 (ho_199 _ _) rfl rfl ?_
  refine g_i2l dX10_scoreOf_13 rfl ?_
  refine g_lxor dX10_scoreOf_14 rfl ?_
  refine g_lstoreL_n (L1 := [(0, _), (1, _), (2, _)]) dX10_scoreOf_15 rfl (by decide) rfl rfl ?_
  refine g_iconst (v := 0) dX10_scoreOf_16 (by decide) rfl ?_
  refine g_istoreL (L1 := [(0, _), (1, _), (2, _), (4, _)]) dX10_scoreOf_17 (by decide) rfl rfl ?_
  refine g_iconst (v := 0) dX10_scoreOf_19 (by decide) rfl ?_
  refine g_istoreL (L1 := [(0, _), (1, _), (2, _), (4, _), (5, _)]) dX10_scoreOf_20 (by decide) rfl rfl ?_
  refine g_sub [0, 1, 2, 3, 4] rfl ?_
  exact t_X10_scoreOf_L22 l g 4000 _ _ _ hQ hF
noncomputable def G_X10_set_L3 (p0 : Int32) (p1 : Int32) (p2 : Int64) (p3 : Int32) : Nat → Int32 → gS → gS
  | 0, _, σ => σ
  | n + 1, y6, σ =>
    if p3 ≤ y6 then
      σ
    else
      let s3 := (pf σ 210 (ix ((p0 + p1) + y6)) (ushl p2 ((8 : Int32) * ((p3 - (1 : Int32)) - y6))).toInt32.toInt8.toInt32.toInt8.toInt32 : gS)
      G_X10_set_L3 p0 p1 p2 p3 n (y6 + Int32.ofInt (1)) s3
def QG_X10_set_L3 (p0 : Int32) (p1 : Int32) (p2 : Int64) (p3 : Int32) : Nat → Int32 → gS → Prop
  | 0, _, _ => False
  | n + 1, y6, σ =>
    if p3 ≤ y6 then
      (True)
    else
      (vp_in ((p0 + p1) + y6) 3072 ∧ (let s3 := (pf σ 210 (ix ((p0 + p1) + y6)) (ushl p2 ((8 : Int32) * ((p3 - (1 : Int32)) - y6))).toInt32.toInt8.toInt32.toInt8.toInt32 : gS)
      QG_X10_set_L3 p0 p1 p2 p3 n (y6 + Int32.ofInt (1)) s3))
set_option maxHeartbeats 4000000 in
set_option maxRecDepth 100000 in
theorem t_X10_set_L3 (l : Launch) (g : gE) {p0 : Int32} {p1 : Int32} {p2 : Int64} {p3 : Int32} {ζ : gQ} {fr : gS} : ∀ (n : Nat) (y6 : Int32) (σ : gS), QG_X10_set_L3 p0 p1 p2 p3 n y6 σ → G_X10_set_L3 p0 p1 p2 p3 n y6 σ = fr → gG l g mX10_set (rm 0 0) (gZm g (rm 0 0) (fun r h => r = none ∧ h = hp fr ζ)) 3 [(0, .ref 199), (1, .int p0), (2, .int p1), (3, .long p2), (5, .int p3), (6, .int y6)] [] (hp σ ζ) 0 0 := by
  intro n
  induction n with
  | zero => intro y6 σ hQ; exact absurd hQ (by unfold QG_X10_set_L3; exact id)
  | succ n ihL3 =>
    intro y6 σ hQ hF
    unfold G_X10_set_L3 at hF
    unfold QG_X10_set_L3 at hQ
    refine g_iload dX10_set_3 rfl rfl ?_
    refine g_iload dX10_set_5 rfl rfl ?_
    refine g_icmpge (tgt := 41) dX10_set_7 (by decide) rfl (fun c1 => ?_) (fun c1 => ?_)
    · replace hF := ite_p hF c1
      try replace hQ := ite_q hQ c1
      subst hF
      exact g_vret rfl dX10_set_41 (Nat.le_of_ble_eq_true rfl) (Nat.le_of_ble_eq_true rfl) ⟨rfl, rfl⟩
    · replace hF := ite_n hF c1
      try replace hQ := ite_r hQ c1
      refine g_aload_n dX10_set_10 rfl rfl rfl ?_
      refine g_get gClX10 12 (by decide) fl_X10_41 dX10_set_11 (ho_199 _ _) rfl rfl ?_
      refine g_iload_n dX10_set_14 rfl rfl rfl ?_
      refine g_iload_n dX10_set_15 rfl rfl rfl ?_
      refine g_iadd dX10_set_16 rfl ?_
      refine g_iload dX10_set_17 rfl rfl ?_
      refine g_iadd dX10_set_19 rfl ?_
      refine g_lload_n dX10_set_20 rfl rfl rfl ?_
      refine g_bipush (v := 8) dX10_set_21 (by decide) rfl ?_
      refine g_iload dX10_set_23 rfl rfl ?_
      refine g_iconst (v := 1) dX10_set_25 (by decide) rfl ?_
      refine g_isub dX10_set_26 rfl ?_
      refine g_iload dX10_set_27 rfl rfl ?_
      refine g_isub dX10_set_29 rfl ?_
      refine g_imul dX10_set_30 rfl ?_
      refine g_lushr dX10_set_31 rfl ?_
      refine g_l2i dX10_set_32 rfl ?_
      refine g_i2b dX10_set_33 rfl ?_
      have o2 := hQ.1
      replace hQ := hQ.2
      refine g_bast (ha_210 _ _) o2 pa_210 dX10_set_34 rfl ?_
      refine g_iincL (L1 := [(0, _), (1, _), (2, _), (3, _), (5, _), (6, _)]) dX10_set_35 rfl (by decide) rfl rfl ?_
      refine g_goto (tgt := 3) dX10_set_38 (by decide) ?_
      refine g_sub [0, 1, 2, 3, 4, 5] rfl ?_
      exact ihL3 _ _ hQ hF
noncomputable def Fr_X10_set (σ : gS) (p0 : Int32) (p1 : Int32) (p2 : Int64) (p3 : Int32) : gS :=
  G_X10_set_L3 p0 p1 p2 p3 4000 (0 : Int32) σ
noncomputable def F_X10_set : gS → Int32 → Int32 → Int64 → Int32 → gS := Classical.choose (⟨Fr_X10_set, rfl⟩ : ∃ f : gS → Int32 → Int32 → Int64 → Int32 → gS, f = Fr_X10_set)
theorem F_X10_set_eq : F_X10_set = Fr_X10_set := Classical.choose_spec (⟨Fr_X10_set, rfl⟩ : ∃ f : gS → Int32 → Int32 → Int64 → Int32 → gS, f = Fr_X10_set)
def Q_X10_set (σ : gS) (p0 : Int32) (p1 : Int32) (p2 : Int64) (p3 : Int32) : Prop :=
  QG_X10_set_L3 p0 p1 p2 p3 4000 (0 : Int32) σ
set_option maxHeartbeats 4000000 in
set_option maxRecDepth 100000 in
theorem c_X10_set (l : Launch) (g : gE)  {σ : gS} {ζ : gQ} (p0 : Int32) (p1 : Int32) (p2 : Int64) (p3 : Int32) (hQ : Q_X10_set σ p0 p1 p2 p3) : gC l g mX10_set (rm 0 0) [.ref 199, .int p0, .int p1, .long p2, .int p3] (hp σ ζ) (fun r h => r = none ∧ h = hp (F_X10_set σ p0 p1 p2 p3) ζ) := by
  refine gC_of (by decide) (Nat.le_of_ble_eq_true rfl) ?_
  generalize hF : (F_X10_set σ p0 p1 p2 p3) = fr
  rw [F_X10_set_eq] at hF
  unfold Fr_X10_set at hF
  unfold Q_X10_set at hQ
  refine g_iconst (v := 0) dX10_set_0 (by decide) rfl ?_
  refine g_istoreL (L1 := [(0, _), (1, _), (2, _), (3, _), (5, _), (6, _)]) dX10_set_1 (by decide) rfl rfl ?_
  refine g_sub [0, 1, 2, 3, 4, 5] rfl ?_
  exact t_X10_set_L3 l g 4000 _ _ hQ hF
noncomputable def G_X10_writes_L224 (p0 : Int32) : Nat → Int32 → Int32 → gS → gQ → gS × gQ
  | 0, _, _, σ, ζ => (σ, ζ)
  | n + 1, y2, y3, σ, ζ =>
    if (16 : Int32) ≤ y3 then
      let s52 := (pf σ 211 (ix (((4 : Int32) * p0) + (3 : Int32))) (39 : Int32) : gS)
      let z53 := (vp_updL ζ 53 ((ζ 53) + (1 : Int64)) : gQ)
      let s55 := (F_X10_outsideTo s52 (5 : Int32) (3 : Int32))
      (s55, z53)
    else
      let s58 := (pf σ 210 (ix ((y2 + (23 : Int32)) + y3)) (σ 207 (ix y3)).toInt8.toInt32 : gS)
      G_X10_writes_L224 p0 n y2 (y3 + Int32.ofInt (1)) s58 ζ
def QG_X10_writes_L224 (p0 : Int32) : Nat → Int32 → Int32 → gS → gQ → Prop
  | 0, _, _, _, _ => False
  | n + 1, y2, y3, σ, ζ =>
    if (16 : Int32) ≤ y3 then
      (vp_in (((4 : Int32) * p0) + (3 : Int32)) 64 ∧ (let s52 := (pf σ 211 (ix (((4 : Int32) * p0) + (3 : Int32))) (39 : Int32) : gS)
      let z53 := (vp_updL ζ 53 ((ζ 53) + (1 : Int64)) : gQ)
      let s55 := (F_X10_outsideTo s52 (5 : Int32) (3 : Int32))
      True))
    else
      (vp_in y3 32 ∧ (vp_in ((y2 + (23 : Int32)) + y3) 3072 ∧ (let s58 := (pf σ 210 (ix ((y2 + (23 : Int32)) + y3)) (σ 207 (ix y3)).toInt8.toInt32 : gS)
      QG_X10_writes_L224 p0 n y2 (y3 + Int32.ofInt (1)) s58 ζ)))
set_option maxHeartbeats 4000000 in
set_option maxRecDepth 100000 in
theorem t_X10_writes_L224 (l : Launch) (g : gE) {p0 : Int32} {fr : gS × gQ} : ∀ (n : Nat) (y2 : Int32) (y3 : Int32) (σ : gS) (ζ : gQ), QG_X10_writes_L224 p0 n y2 y3 σ ζ → G_X10_writes_L224 p0 n y2 y3 σ ζ = fr → gG l g mX10_writes (rm 7 203) (gZm g (rm 7 203) (fun r h => r = none ∧ h = hp fr.1 fr.2)) 224 [(0, .ref 199), (1, .int p0), (2, .int y2), (3, .int y3)] [] (hp σ ζ) 0 0 := by
  intro n
  induction n with
  | zero => intro y2 y3 σ ζ hQ; exact absurd hQ (by unfold QG_X10_writes_L224; exact id)
  | succ n ihL224 =>
    intro y2 y3 σ ζ hQ hF
    unfold G_X10_writes_L224 at hF
    unfold QG_X10_writes_L224 at hQ
    refine g_iload_n dX10_writes_224 rfl rfl rfl ?_
    refine g_bipush (v := 16) dX10_writes_225 (by decide) rfl ?_
    refine g_icmpge (tgt := 253) dX10_writes_227 (by decide) rfl (fun c50 => ?_) (fun c50 => ?_)
    · replace hF := ite_p hF c50
      try replace hQ := ite_q hQ c50
      refine g_aload_n dX10_writes_253 rfl rfl rfl ?_
      refine g_get gClX10 13 (by decide) fl_X10_44 dX10_writes_254 (ho_199 _ _) rfl rfl ?_
      refine g_iconst (v := 4) dX10_writes_257 (by decide) rfl ?_
      refine g_iload_n dX10_writes_258 rfl rfl rfl ?_
      refine g_imul dX10_writes_259 rfl ?_
      refine g_iconst (v := 3) dX10_writes_260 (by decide) rfl ?_
      refine g_iadd dX10_writes_261 rfl ?_
      refine g_bipush (v := 39) dX10_writes_262 (by decide) rfl ?_
      have o51 := hQ.1
      replace hQ := hQ.2
      refine g_iast (ha_211 _ _) o51 pa_211 dX10_writes_264 rfl ?_
      refine g_aload_n dX10_writes_265 rfl rfl rfl ?_
      refine g_dup dX10_writes_266 rfl rfl ?_
      refine g_get gClX10 53 (by decide) fl_X10_104 dX10_writes_267 (ho_199 _ _) rfl rfl ?_
      refine g_lconst (v := 1) dX10_writes_270 (by decide) rfl ?_
      refine g_ladd dX10_writes_271 rfl ?_
      refine g_put gClX10 53 (by decide) fl_X10_104 rfl dX10_writes_272 (ho_199 _ _) rfl rfl (Nat.le_of_ble_eq_true rfl) pz_53 rfl ?_
      refine g_aload_n dX10_writes_275 rfl rfl rfl ?_
      refine g_iconst (v := 5) dX10_writes_276 (by decide) rfl ?_
      refine g_iconst (v := 3) dX10_writes_277 (by decide) rfl ?_
      refine g_callv mv_X10_outsideTo ml_X10_277 (c_X10_outsideTo l g _ _) (ho_199 _ _) rfl rfl (Nat.le_of_ble_eq_true rfl) (Nat.le_of_ble_eq_true rfl) (Nat.le_of_ble_eq_true rfl) (Nat.le_of_ble_eq_true rfl) rfl (Nat.le_of_ble_eq_true rfl) dX10_writes_278 rfl (fun r54 hr54 pr54 => ?_)
      obtain ⟨rfl, rfl⟩ := pr54
      subst hF
      exact g_vret rfl dX10_writes_281 (Nat.le_of_ble_eq_true rfl) (Nat.le_of_ble_eq_true rfl) ⟨rfl, rfl⟩
    · replace hF := ite_n hF c50
      try replace hQ := ite_r hQ c50
      refine g_aload_n dX10_writes_230 rfl rfl rfl ?_
      refine g_get gClX10 12 (by decide) fl_X10_41 dX10_writes_231 (ho_199 _ _) rfl rfl ?_
      refine g_iload_n dX10_writes_234 rfl rfl rfl ?_
      refine g_bipush (v := 23) dX10_writes_235 (by decide) rfl ?_
      refine g_iadd dX10_writes_237 rfl ?_
      refine g_iload_n dX10_writes_238 rfl rfl rfl ?_
      refine g_iadd dX10_writes_239 rfl ?_
      refine g_aload_n dX10_writes_240 rfl rfl rfl ?_
      refine g_get gClX10 8 (by decide) fl_X10_32 dX10_writes_241 (ho_199 _ _) rfl rfl ?_
      refine g_iload_n dX10_writes_244 rfl rfl rfl ?_
      have o56 := hQ.1
      replace hQ := hQ.2
      refine g_bald (ha_207 _ _) o56 dX10_writes_245 rfl ?_
      have o57 := hQ.1
      replace hQ := hQ.2
      refine g_bast (ha_210 _ _) o57 pa_210 dX10_writes_246 rfl ?_
      refine g_iincL (L1 := [(0, _), (1, _), (2, _), (3, _)]) dX10_writes_247 rfl (by decide) rfl rfl ?_
      refine g_goto (tgt := 224) dX10_writes_250 (by decide) ?_
      refine g_sub [0, 1, 2, 3] rfl ?_
      exact ihL224 _ _ _ _ hQ hF
noncomputable def Fr_X10_writes (σ : gS) (ζ : gQ) (p0 : Int32) : gS × gQ :=
  let f3 := (F_X10_isSound σ ζ p0)
  if f3.1 = 0 then
    let f67 := (F_X10_put_ f3.2 ζ (5 : Int32) (1 : Int32) p0)
    if f67.1 = 0 then
      (f67.2.1, f67.2.2)
    else
      let s70 := (F_X10_outsideTo f67.2.1 (7 : Int32) (5 : Int32))
      (s70, f67.2.2)
  else
    if (f3.2 212 (ix p0)) = 0 then
      let f61 := (F_X10_put_ f3.2 ζ (11 : Int32) (1 : Int32) p0)
      if f61.1 = 0 then
        (f61.2.1, f61.2.2)
      else
        let s64 := (F_X10_outsideTo f61.2.1 (5 : Int32) (6 : Int32))
        (s64, f61.2.2)
    else
      let f9 := (F_X10_put_ f3.2 ζ (10 : Int32) (0 : Int32) p0)
      if f9.1 = 0 then
        (f9.2.1, f9.2.2)
      else
        let v11 := ((48 : Int32) * (((4 : Int32) * p0) + (3 : Int32)))
        let s14 := (F_X10_set f9.2.1 v11 (0 : Int32) (4 : Int64) (1 : Int32))
        let s17 := (F_X10_set s14 v11 (1 : Int32) (s14 199 18).toInt64 (2 : Int32))
        let s20 := (F_X10_set s17 v11 (3 : Int32) (f9.2.2 53) (4 : Int32))
        let s25 := (F_X10_set s20 v11 (7 : Int32) (F_X10_field s20 p0 (0 : Int32) (1 : Int32) (2 : Int32)) (2 : Int32))
        let s30 := (F_X10_set s25 v11 (9 : Int32) (F_X10_field s25 p0 (0 : Int32) (3 : Int32) (4 : Int32)) (4 : Int32))
        let s33 := (F_X10_set s30 v11 (13 : Int32) (f9.2.2 19) (4 : Int32))
        let s36 := (F_X10_set s33 v11 (17 : Int32) ((f9.2.2 19) + (s33 217 (ix (4 : Int32))).toInt64) (4 : Int32))
        let s41 := (F_X10_set s36 v11 (21 : Int32) (F_X10_field s36 p0 (1 : Int32) (21 : Int32) (1 : Int32)) (1 : Int32))
        let s46 := (F_X10_set s41 v11 (22 : Int32) (F_X10_field s41 p0 (1 : Int32) (22 : Int32) (1 : Int32)) (1 : Int32))
        let s49 := (F_X10_sealOf s46 214 112 210 3072 (0 : Int32) v11 (23 : Int32))
        G_X10_writes_L224 p0 4000 v11 (0 : Int32) s49 f9.2.2
noncomputable def F_X10_writes : gS → gQ → Int32 → gS × gQ := Classical.choose (⟨Fr_X10_writes, rfl⟩ : ∃ f : gS → gQ → Int32 → gS × gQ, f = Fr_X10_writes)
theorem F_X10_writes_eq : F_X10_writes = Fr_X10_writes := Classical.choose_spec (⟨Fr_X10_writes, rfl⟩ : ∃ f : gS → gQ → Int32 → gS × gQ, f = Fr_X10_writes)
def Q_X10_writes (σ : gS) (ζ : gQ) (p0 : Int32) : Prop :=
  (Q_X10_isSound σ ζ p0) ∧ (let f3 := (F_X10_isSound σ ζ p0)
  if f3.1 = 0 then
    ((Q_X10_put_ f3.2 ζ (5 : Int32) (1 : Int32) p0) ∧ (let f67 := (F_X10_put_ f3.2 ζ (5 : Int32) (1 : Int32) p0)
    if f67.1 = 0 then
      (True)
    else
      (let s70 := (F_X10_outsideTo f67.2.1 (7 : Int32) (5 : Int32))
      True)))
  else
    (vp_in p0 16 ∧ (if (f3.2 212 (ix p0)) = 0 then
      ((Q_X10_put_ f3.2 ζ (11 : Int32) (1 : Int32) p0) ∧ (let f61 := (F_X10_put_ f3.2 ζ (11 : Int32) (1 : Int32) p0)
      if f61.1 = 0 then
        (True)
      else
        (let s64 := (F_X10_outsideTo f61.2.1 (5 : Int32) (6 : Int32))
        True)))
    else
      ((Q_X10_put_ f3.2 ζ (10 : Int32) (0 : Int32) p0) ∧ (let f9 := (F_X10_put_ f3.2 ζ (10 : Int32) (0 : Int32) p0)
      if f9.1 = 0 then
        (True)
      else
        (let v11 := ((48 : Int32) * (((4 : Int32) * p0) + (3 : Int32)))
        (Q_X10_set f9.2.1 v11 (0 : Int32) (4 : Int64) (1 : Int32)) ∧ (let s14 := (F_X10_set f9.2.1 v11 (0 : Int32) (4 : Int64) (1 : Int32))
        (Q_X10_set s14 v11 (1 : Int32) (s14 199 18).toInt64 (2 : Int32)) ∧ (let s17 := (F_X10_set s14 v11 (1 : Int32) (s14 199 18).toInt64 (2 : Int32))
        (Q_X10_set s17 v11 (3 : Int32) (f9.2.2 53) (4 : Int32)) ∧ (let s20 := (F_X10_set s17 v11 (3 : Int32) (f9.2.2 53) (4 : Int32))
        (Q_X10_field s20 p0 (0 : Int32) (1 : Int32) (2 : Int32)) ∧ ((Q_X10_set s20 v11 (7 : Int32) (F_X10_field s20 p0 (0 : Int32) (1 : Int32) (2 : Int32)) (2 : Int32)) ∧ (let s25 := (F_X10_set s20 v11 (7 : Int32) (F_X10_field s20 p0 (0 : Int32) (1 : Int32) (2 : Int32)) (2 : Int32))
        (Q_X10_field s25 p0 (0 : Int32) (3 : Int32) (4 : Int32)) ∧ ((Q_X10_set s25 v11 (9 : Int32) (F_X10_field s25 p0 (0 : Int32) (3 : Int32) (4 : Int32)) (4 : Int32)) ∧ (let s30 := (F_X10_set s25 v11 (9 : Int32) (F_X10_field s25 p0 (0 : Int32) (3 : Int32) (4 : Int32)) (4 : Int32))
        (Q_X10_set s30 v11 (13 : Int32) (f9.2.2 19) (4 : Int32)) ∧ (let s33 := (F_X10_set s30 v11 (13 : Int32) (f9.2.2 19) (4 : Int32))
        (Q_X10_set s33 v11 (17 : Int32) ((f9.2.2 19) + (s33 217 (ix (4 : Int32))).toInt64) (4 : Int32)) ∧ (let s36 := (F_X10_set s33 v11 (17 : Int32) ((f9.2.2 19) + (s33 217 (ix (4 : Int32))).toInt64) (4 : Int32))
        (Q_X10_field s36 p0 (1 : Int32) (21 : Int32) (1 : Int32)) ∧ ((Q_X10_set s36 v11 (21 : Int32) (F_X10_field s36 p0 (1 : Int32) (21 : Int32) (1 : Int32)) (1 : Int32)) ∧ (let s41 := (F_X10_set s36 v11 (21 : Int32) (F_X10_field s36 p0 (1 : Int32) (21 : Int32) (1 : Int32)) (1 : Int32))
        (Q_X10_field s41 p0 (1 : Int32) (22 : Int32) (1 : Int32)) ∧ ((Q_X10_set s41 v11 (22 : Int32) (F_X10_field s41 p0 (1 : Int32) (22 : Int32) (1 : Int32)) (1 : Int32)) ∧ (let s46 := (F_X10_set s41 v11 (22 : Int32) (F_X10_field s41 p0 (1 : Int32) (22 : Int32) (1 : Int32)) (1 : Int32))
        (Q_X10_sealOf s46 214 112 210 3072 (0 : Int32) v11 (23 : Int32)) ∧ (let s49 := (F_X10_sealOf s46 214 112 210 3072 (0 : Int32) v11 (23 : Int32))
        QG_X10_writes_L224 p0 4000 v11 (0 : Int32) s49 f9.2.2))))))))))))))))))))
set_option maxHeartbeats 4000000 in
set_option maxRecDepth 100000 in
theorem c_X10_writes (l : Launch) (g : gE)  {σ : gS} {ζ : gQ} (p0 : Int32) (hQ : Q_X10_writes σ ζ p0) : gC l g mX10_writes (rm 7 203) [.ref 199, .int p0] (hp σ ζ) (fun r h => r = none ∧ h = hp (F_X10_writes σ ζ p0).1 (F_X10_writes σ ζ p0).2) := by
  refine gC_of (by decide) (Nat.le_of_ble_eq_true rfl) ?_
  generalize hF : (F_X10_writes σ ζ p0) = fr
  rw [F_X10_writes_eq] at hF
  unfold Fr_X10_writes at hF
  unfold Q_X10_writes at hQ
  refine g_aload_n dX10_writes_0 rfl rfl rfl ?_
  refine g_iload_n dX10_writes_1 rfl rfl rfl ?_
  have o1 := hQ.1
  replace hQ := hQ.2
  refine g_callv mv_X10_isSound ml_X10_296 (c_X10_isSound l g _ o1) (ho_199 _ _) rfl rfl (Nat.le_of_ble_eq_true rfl) (Nat.le_of_ble_eq_true rfl) (Nat.le_of_ble_eq_true rfl) (Nat.le_of_ble_eq_true rfl) rfl (Nat.le_of_ble_eq_true rfl) dX10_writes_2 rfl (fun r2 hr2 pr2 => ?_)
  obtain ⟨rfl, rfl⟩ := pr2
  refine g_ifne (tgt := 26) dX10_writes_5 (by decide) rfl (fun c4 => ?_) (fun c4 => ?_)
  · replace hF := ite_n hF c4
    try replace hQ := ite_r hQ c4
    refine g_aload_n dX10_writes_26 rfl rfl rfl ?_
    refine g_get gClX10 14 (by decide) fl_X10_47 dX10_writes_27 (ho_199 _ _) rfl rfl ?_
    refine g_iload_n dX10_writes_30 rfl rfl rfl ?_
    have o5 := hQ.1
    replace hQ := hQ.2
    refine g_zald (ha_212 _ _) o5 dX10_writes_31 rfl ?_
    refine g_ifne (tgt := 54) dX10_writes_32 (by decide) rfl (fun c6 => ?_) (fun c6 => ?_)
    · replace hF := ite_n hF c6
      try replace hQ := ite_r hQ c6
      refine g_aload_n dX10_writes_54 rfl rfl rfl ?_
      refine g_bipush (v := 10) dX10_writes_55 (by decide) rfl ?_
      refine g_iconst (v := 0) dX10_writes_57 (by decide) rfl ?_
      refine g_iload_n dX10_writes_58 rfl rfl rfl ?_
      have o7 := hQ.1
      replace hQ := hQ.2
      refine g_callv mv_X10_put_ ml_X10_239 (c_X10_put_ l g _ _ _ o7) (ho_199 _ _) rfl rfl (Nat.le_of_ble_eq_true rfl) (Nat.le_of_ble_eq_true rfl) (Nat.le_of_ble_eq_true rfl) (Nat.le_of_ble_eq_true rfl) rfl (Nat.le_of_ble_eq_true rfl) dX10_writes_59 rfl (fun r8 hr8 pr8 => ?_)
      obtain ⟨rfl, rfl⟩ := pr8
      refine g_ifne (tgt := 66) dX10_writes_62 (by decide) rfl (fun c10 => ?_) (fun c10 => ?_)
      · replace hF := ite_n hF c10
        try replace hQ := ite_r hQ c10
        refine g_bipush (v := 48) dX10_writes_66 (by decide) rfl ?_
        refine g_iconst (v := 4) dX10_writes_68 (by decide) rfl ?_
        refine g_iload_n dX10_writes_69 rfl rfl rfl ?_
        refine g_imul dX10_writes_70 rfl ?_
        refine g_iconst (v := 3) dX10_writes_71 (by decide) rfl ?_
        refine g_iadd dX10_writes_72 rfl ?_
        refine g_imul dX10_writes_73 rfl ?_
        refine g_istoreL_n (L1 := [(0, _), (1, _), (2, _)]) dX10_writes_74 rfl (by decide) rfl rfl ?_
        refine g_aload_n dX10_writes_75 rfl rfl rfl ?_
        refine g_iload_n dX10_writes_76 rfl rfl rfl ?_
        refine g_iconst (v := 0) dX10_writes_77 (by decide) rfl ?_
        refine g_ldc2 kl_X10_313 dX10_writes_78 rfl ?_
        refine g_iconst (v := 1) dX10_writes_81 (by decide) rfl ?_
        have o12 := hQ.1
        replace hQ := hQ.2
        refine g_callv mv_X10_set ml_X10_315 (c_X10_set l g _ _ _ _ o12) (ho_199 _ _) rfl rfl (Nat.le_of_ble_eq_true rfl) (Nat.le_of_ble_eq_true rfl) (Nat.le_of_ble_eq_true rfl) (Nat.le_of_ble_eq_true rfl) rfl (Nat.le_of_ble_eq_true rfl) dX10_writes_82 rfl (fun r13 hr13 pr13 => ?_)
        obtain ⟨rfl, rfl⟩ := pr13
        refine g_aload_n dX10_writes_85 rfl rfl rfl ?_
        refine g_iload_n dX10_writes_86 rfl rfl rfl ?_
        refine g_iconst (v := 1) dX10_writes_87 (by decide) rfl ?_
        refine g_aload_n dX10_writes_88 rfl rfl rfl ?_
        refine g_get gClX10 18 (by decide) fl_X10_88 dX10_writes_89 (ho_199 _ _) rfl rfl ?_
        refine g_i2l dX10_writes_92 rfl ?_
        refine g_iconst (v := 2) dX10_writes_93 (by decide) rfl ?_
        have o15 := hQ.1
        replace hQ := hQ.2
        refine g_callv mv_X10_set ml_X10_315 (c_X10_set l g _ _ _ _ o15) (ho_199 _ _) rfl rfl (Nat.le_of_ble_eq_true rfl) (Nat.le_of_ble_eq_true rfl) (Nat.le_of_ble_eq_true rfl) (Nat.le_of_ble_eq_true rfl) rfl (Nat.le_of_ble_eq_true rfl) dX10_writes_94 rfl (fun r16 hr16 pr16 => ?_)
        obtain ⟨rfl, rfl⟩ := pr16
        refine g_aload_n dX10_writes_97 rfl rfl rfl ?_
        refine g_iload_n dX10_writes_98 rfl rfl rfl ?_
        refine g_iconst (v := 3) dX10_writes_99 (by decide) rfl ?_
        refine g_aload_n dX10_writes_100 rfl rfl rfl ?_
        refine g_get gClX10 53 (by decide) fl_X10_104 dX10_writes_101 (ho_199 _ _) rfl rfl ?_
        refine g_iconst (v := 4) dX10_writes_104 (by decide) rfl ?_
        have o18 := hQ.1
        replace hQ := hQ.2
        refine g_callv mv_X10_set ml_X10_315 (c_X10_set l g _ _ _ _ o18) (ho_199 _ _) rfl rfl (Nat.le_of_ble_eq_true rfl) (Nat.le_of_ble_eq_true rfl) (Nat.le_of_ble_eq_true rfl) (Nat.le_of_ble_eq_true rfl) rfl (Nat.le_of_ble_eq_true rfl) dX10_writes_105 rfl (fun r19 hr19 pr19 => ?_)
        obtain ⟨rfl, rfl⟩ := pr19
        refine g_aload_n dX10_writes_108 rfl rfl rfl ?_
        refine g_iload_n dX10_writes_109 rfl rfl rfl ?_
        refine g_bipush (v := 7) dX10_writes_110 (by decide) rfl ?_
        refine g_aload_n dX10_writes_112 rfl rfl rfl ?_
        refine g_iload_n dX10_writes_113 rfl rfl rfl ?_
        refine g_iconst (v := 0) dX10_writes_114 (by decide) rfl ?_
        refine g_iconst (v := 1) dX10_writes_115 (by decide) rfl ?_
        refine g_iconst (v := 2) dX10_writes_116 (by decide) rfl ?_
        have o21 := hQ.1
        replace hQ := hQ.2
        refine g_callv mv_X10_field ml_X10_170 (c_X10_field l g _ _ _ _ o21) (ho_199 _ _) rfl rfl (Nat.le_of_ble_eq_true rfl) (Nat.le_of_ble_eq_true rfl) (Nat.le_of_ble_eq_true rfl) (Nat.le_of_ble_eq_true rfl) rfl (Nat.le_of_ble_eq_true rfl) dX10_writes_117 rfl (fun r22 hr22 pr22 => ?_)
        obtain ⟨rfl, rfl⟩ := pr22
        refine g_iconst (v := 2) dX10_writes_120 (by decide) rfl ?_
        have o23 := hQ.1
        replace hQ := hQ.2
        refine g_callv mv_X10_set ml_X10_315 (c_X10_set l g _ _ _ _ o23) (ho_199 _ _) rfl rfl (Nat.le_of_ble_eq_true rfl) (Nat.le_of_ble_eq_true rfl) (Nat.le_of_ble_eq_true rfl) (Nat.le_of_ble_eq_true rfl) rfl (Nat.le_of_ble_eq_true rfl) dX10_writes_121 rfl (fun r24 hr24 pr24 => ?_)
        obtain ⟨rfl, rfl⟩ := pr24
        refine g_aload_n dX10_writes_124 rfl rfl rfl ?_
        refine g_iload_n dX10_writes_125 rfl rfl rfl ?_
        refine g_bipush (v := 9) dX10_writes_126 (by decide) rfl ?_
        refine g_aload_n dX10_writes_128 rfl rfl rfl ?_
        refine g_iload_n dX10_writes_129 rfl rfl rfl ?_
        refine g_iconst (v := 0) dX10_writes_130 (by decide) rfl ?_
        refine g_iconst (v := 3) dX10_writes_131 (by decide) rfl ?_
        refine g_iconst (v := 4) dX10_writes_132 (by decide) rfl ?_
        have o26 := hQ.1
        replace hQ := hQ.2
        refine g_callv mv_X10_field ml_X10_170 (c_X10_field l g _ _ _ _ o26) (ho_199 _ _) rfl rfl (Nat.le_of_ble_eq_true rfl) (Nat.le_of_ble_eq_true rfl) (Nat.le_of_ble_eq_true rfl) (Nat.le_of_ble_eq_true rfl) rfl (Nat.le_of_ble_eq_true rfl) dX10_writes_133 rfl (fun r27 hr27 pr27 => ?_)
        obtain ⟨rfl, rfl⟩ := pr27
        refine g_iconst (v := 4) dX10_writes_136 (by decide) rfl ?_
        have o28 := hQ.1
        replace hQ := hQ.2
        refine g_callv mv_X10_set ml_X10_315 (c_X10_set l g _ _ _ _ o28) (ho_199 _ _) rfl rfl (Nat.le_of_ble_eq_true rfl) (Nat.le_of_ble_eq_true rfl) (Nat.le_of_ble_eq_true rfl) (Nat.le_of_ble_eq_true rfl) rfl (Nat.le_of_ble_eq_true rfl) dX10_writes_137 rfl (fun r29 hr29 pr29 => ?_)
        obtain ⟨rfl, rfl⟩ := pr29
        refine g_aload_n dX10_writes_140 rfl rfl rfl ?_
        refine g_iload_n dX10_writes_141 rfl rfl rfl ?_
        refine g_bipush (v := 13) dX10_writes_142 (by decide) rfl ?_
        refine g_aload_n dX10_writes_144 rfl rfl rfl ?_
        refine g_get gClX10 19 (by decide) fl_X10_182 dX10_writes_145 (ho_199 _ _) rfl rfl ?_
        refine g_iconst (v := 4) dX10_writes_148 (by decide) rfl ?_
        have o31 := hQ.1
        replace hQ := hQ.2
        refine g_callv mv_X10_set ml_X10_315 (c_X10_set l g _ _ _ _ o31) (ho_199 _ _) rfl rfl (Nat.le_of_ble_eq_true rfl) (Nat.le_of_ble_eq_true rfl) (Nat.le_of_ble_eq_true rfl) (Nat.le_of_ble_eq_true rfl) rfl (Nat.le_of_ble_eq_true rfl) dX10_writes_149 rfl (fun r32 hr32 pr32 => ?_)
        obtain ⟨rfl, rfl⟩ := pr32
        refine g_aload_n dX10_writes_152 rfl rfl rfl ?_
        refine g_iload_n dX10_writes_153 rfl rfl rfl ?_
        refine g_bipush (v := 17) dX10_writes_154 (by decide) rfl ?_
        refine g_aload_n dX10_writes_156 rfl rfl rfl ?_
        refine g_get gClX10 19 (by decide) fl_X10_182 dX10_writes_157 (ho_199 _ _) rfl rfl ?_
        refine g_aload_n dX10_writes_160 rfl rfl rfl ?_
        refine g_get gClX10 34 (by decide) fl_X10_63 dX10_writes_161 (ho_199 _ _) rfl rfl ?_
        refine g_iconst (v := 4) dX10_writes_164 (by decide) rfl ?_
        refine g_iald (ha_217 _ _) (vinc (by decide)) dX10_writes_165 rfl ?_
        refine g_i2l dX10_writes_166 rfl ?_
        refine g_ladd dX10_writes_167 rfl ?_
        refine g_iconst (v := 4) dX10_writes_168 (by decide) rfl ?_
        have o34 := hQ.1
        replace hQ := hQ.2
        refine g_callv mv_X10_set ml_X10_315 (c_X10_set l g _ _ _ _ o34) (ho_199 _ _) rfl rfl (Nat.le_of_ble_eq_true rfl) (Nat.le_of_ble_eq_true rfl) (Nat.le_of_ble_eq_true rfl) (Nat.le_of_ble_eq_true rfl) rfl (Nat.le_of_ble_eq_true rfl) dX10_writes_169 rfl (fun r35 hr35 pr35 => ?_)
        obtain ⟨rfl, rfl⟩ := pr35
        refine g_aload_n dX10_writes_172 rfl rfl rfl ?_
        refine g_iload_n dX10_writes_173 rfl rfl rfl ?_
        refine g_bipush (v := 21) dX10_writes_174 (by decide) rfl ?_
        refine g_aload_n dX10_writes_176 rfl rfl rfl ?_
        refine g_iload_n dX10_writes_177 rfl rfl rfl ?_
        refine g_iconst (v := 1) dX10_writes_178 (by decide) rfl ?_
        refine g_bipush (v := 21) dX10_writes_179 (by decide) rfl ?_
        refine g_iconst (v := 1) dX10_writes_181 (by decide) rfl ?_
        have o37 := hQ.1
        replace hQ := hQ.2
        refine g_callv mv_X10_field ml_X10_170 (c_X10_field l g _ _ _ _ o37) (ho_199 _ _) rfl rfl (Nat.le_of_ble_eq_true rfl) (Nat.le_of_ble_eq_true rfl) (Nat.le_of_ble_eq_true rfl) (Nat.le_of_ble_eq_true rfl) rfl (Nat.le_of_ble_eq_true rfl) dX10_writes_182 rfl (fun r38 hr38 pr38 => ?_)
        obtain ⟨rfl, rfl⟩ := pr38
        refine g_iconst (v := 1) dX10_writes_185 (by decide) rfl ?_
        have o39 := hQ.1
        replace hQ := hQ.2
        refine g_callv mv_X10_set ml_X10_315 (c_X10_set l g _ _ _ _ o39) (ho_199 _ _) rfl rfl (Nat.le_of_ble_eq_true rfl) (Nat.le_of_ble_eq_true rfl) (Nat.le_of_ble_eq_true rfl) (Nat.le_of_ble_eq_true rfl) rfl (Nat.le_of_ble_eq_true rfl) dX10_writes_186 rfl (fun r40 hr40 pr40 => ?_)
        obtain ⟨rfl, rfl⟩ := pr40
        refine g_aload_n dX10_writes_189 rfl rfl rfl ?_
        refine g_iload_n dX10_writes_190 rfl rfl rfl ?_
        refine g_bipush (v := 22) dX10_writes_191 (by decide) rfl ?_
        refine g_aload_n dX10_writes_193 rfl rfl rfl ?_
        refine g_iload_n dX10_writes_194 rfl rfl rfl ?_
        refine g_iconst (v := 1) dX10_writes_195 (by decide) rfl ?_
        refine g_bipush (v := 22) dX10_writes_196 (by decide) rfl ?_
        refine g_iconst (v := 1) dX10_writes_198 (by decide) rfl ?_
        have o42 := hQ.1
        replace hQ := hQ.2
        refine g_callv mv_X10_field ml_X10_170 (c_X10_field l g _ _ _ _ o42) (ho_199 _ _) rfl rfl (Nat.le_of_ble_eq_true rfl) (Nat.le_of_ble_eq_true rfl) (Nat.le_of_ble_eq_true rfl) (Nat.le_of_ble_eq_true rfl) rfl (Nat.le_of_ble_eq_true rfl) dX10_writes_199 rfl (fun r43 hr43 pr43 => ?_)
        obtain ⟨rfl, rfl⟩ := pr43
        refine g_iconst (v := 1) dX10_writes_202 (by decide) rfl ?_
        have o44 := hQ.1
        replace hQ := hQ.2
        refine g_callv mv_X10_set ml_X10_315 (c_X10_set l g _ _ _ _ o44) (ho_199 _ _) rfl rfl (Nat.le_of_ble_eq_true rfl) (Nat.le_of_ble_eq_true rfl) (Nat.le_of_ble_eq_true rfl) (Nat.le_of_ble_eq_true rfl) rfl (Nat.le_of_ble_eq_true rfl) dX10_writes_203 rfl (fun r45 hr45 pr45 => ?_)
        obtain ⟨rfl, rfl⟩ := pr45
        refine g_aload_n dX10_writes_206 rfl rfl rfl ?_
        refine g_aload_n dX10_writes_207 rfl rfl rfl ?_
        refine g_get gClX10 16 (by decide) fl_X10_54 dX10_writes_208 (ho_199 _ _) rfl rfl ?_
        refine g_iconst (v := 0) dX10_writes_211 (by decide) rfl ?_
        refine g_aload_n dX10_writes_212 rfl rfl rfl ?_
        refine g_get gClX10 12 (by decide) fl_X10_41 dX10_writes_213 (ho_199 _ _) rfl rfl ?_
        refine g_iload_n dX10_writes_216 rfl rfl rfl ?_
        refine g_bipush (v := 23) dX10_writes_217 (by decide) rfl ?_
        have o47 := hQ.1
        replace hQ := hQ.2
        refine g_callv mv_X10_sealOf ml_X10_150 (c_X10_sealOf l g (⟨by decide, fun _ _ => rfl⟩ : isA 214 112) (⟨by decide, fun _ _ => rfl⟩ : isA 210 3072) _ _ _ o47) (ho_199 _ _) rfl rfl (Nat.le_of_ble_eq_true rfl) (Nat.le_of_ble_eq_true rfl) (Nat.le_of_ble_eq_true rfl) (Nat.le_of_ble_eq_true rfl) rfl (Nat.le_of_ble_eq_true rfl) dX10_writes_219 rfl (fun r48 hr48 pr48 => ?_)
        obtain ⟨rfl, rfl⟩ := pr48
        refine g_iconst (v := 0) dX10_writes_222 (by decide) rfl ?_
        refine g_istoreL_n (L1 := [(0, _), (1, _), (2, _), (3, _)]) dX10_writes_223 rfl (by decide) rfl rfl ?_
        refine g_sub [0, 1, 2, 3] rfl ?_
        exact t_X10_writes_L224 l g 4000 _ _ _ _ hQ hF
      · replace hF := ite_p hF c10
        try replace hQ := ite_q hQ c10
        subst hF
        exact g_vret rfl dX10_writes_65 (Nat.le_of_ble_eq_true rfl) (Nat.le_of_ble_eq_true rfl) ⟨rfl, rfl⟩
    · replace hF := ite_p hF c6
      try replace hQ := ite_q hQ c6
      refine g_aload_n dX10_writes_35 rfl rfl rfl ?_
      refine g_bipush (v := 11) dX10_writes_36 (by decide) rfl ?_
      refine g_iconst (v := 1) dX10_writes_38 (by decide) rfl ?_
      refine g_iload_n dX10_writes_39 rfl rfl rfl ?_
      have o59 := hQ.1
      replace hQ := hQ.2
      refine g_callv mv_X10_put_ ml_X10_239 (c_X10_put_ l g _ _ _ o59) (ho_199 _ _) rfl rfl (Nat.le_of_ble_eq_true rfl) (Nat.le_of_ble_eq_true rfl) (Nat.le_of_ble_eq_true rfl) (Nat.le_of_ble_eq_true rfl) rfl (Nat.le_of_ble_eq_true rfl) dX10_writes_40 rfl (fun r60 hr60 pr60 => ?_)
      obtain ⟨rfl, rfl⟩ := pr60
      refine g_ifeq (tgt := 53) dX10_writes_43 (by decide) rfl (fun c62 => ?_) (fun c62 => ?_)
      · replace hF := ite_p hF c62
        try replace hQ := ite_q hQ c62
        subst hF
        exact g_vret rfl dX10_writes_53 (Nat.le_of_ble_eq_true rfl) (Nat.le_of_ble_eq_true rfl) ⟨rfl, rfl⟩
      · replace hF := ite_n hF c62
        try replace hQ := ite_r hQ c62
        refine g_aload_n dX10_writes_46 rfl rfl rfl ?_
        refine g_iconst (v := 5) dX10_writes_47 (by decide) rfl ?_
        refine g_bipush (v := 6) dX10_writes_48 (by decide) rfl ?_
        refine g_callv mv_X10_outsideTo ml_X10_277 (c_X10_outsideTo l g _ _) (ho_199 _ _) rfl rfl (Nat.le_of_ble_eq_true rfl) (Nat.le_of_ble_eq_true rfl) (Nat.le_of_ble_eq_true rfl) (Nat.le_of_ble_eq_true rfl) rfl (Nat.le_of_ble_eq_true rfl) dX10_writes_50 rfl (fun r63 hr63 pr63 => ?_)
        obtain ⟨rfl, rfl⟩ := pr63
        subst hF
        exact g_vret rfl dX10_writes_53 (Nat.le_of_ble_eq_true rfl) (Nat.le_of_ble_eq_true rfl) ⟨rfl, rfl⟩
  · replace hF := ite_p hF c4
    try replace hQ := ite_q hQ c4
    refine g_aload_n dX10_writes_8 rfl rfl rfl ?_
    refine g_iconst (v := 5) dX10_writes_9 (by decide) rfl ?_
    refine g_iconst (v := 1) dX10_writes_10 (by decide) rfl ?_
    refine g_iload_n dX10_writes_11 rfl rfl rfl ?_
    have o65 := hQ.1
    replace hQ := hQ.2
    refine g_callv mv_X10_put_ ml_X10_239 (c_X10_put_ l g _ _ _ o65) (ho_199 _ _) rfl rfl (Nat.le_of_ble_eq_true rfl) (Nat.le_of_ble_eq_true rfl) (Nat.le_of_ble_eq_true rfl) (Nat.le_of_ble_eq_true rfl) rfl (Nat.le_of_ble_eq_true rfl) dX10_writes_12 rfl (fun r66 hr66 pr66 => ?_)
    obtain ⟨rfl, rfl⟩ := pr66
    refine g_ifeq (tgt := 25) dX10_writes_15 (by decide) rfl (fun c68 => ?_) (fun c68 => ?_)
    · replace hF := ite_p hF c68
      try replace hQ := ite_q hQ c68
      subst hF
      exact g_vret rfl dX10_writes_25 (Nat.le_of_ble_eq_true rfl) (Nat.le_of_ble_eq_true rfl) ⟨rfl, rfl⟩
    · replace hF := ite_n hF c68
      try replace hQ := ite_r hQ c68
      refine g_aload_n dX10_writes_18 rfl rfl rfl ?_
      refine g_bipush (v := 7) dX10_writes_19 (by decide) rfl ?_
      refine g_iconst (v := 5) dX10_writes_21 (by decide) rfl ?_
      refine g_callv mv_X10_outsideTo ml_X10_277 (c_X10_outsideTo l g _ _) (ho_199 _ _) rfl rfl (Nat.le_of_ble_eq_true rfl) (Nat.le_of_ble_eq_true rfl) (Nat.le_of_ble_eq_true rfl) (Nat.le_of_ble_eq_true rfl) rfl (Nat.le_of_ble_eq_true rfl) dX10_writes_22 rfl (fun r69 hr69 pr69 => ?_)
      obtain ⟨rfl, rfl⟩ := pr69
      subst hF
      exact g_vret rfl dX10_writes_25 (Nat.le_of_ble_eq_true rfl) (Nat.le_of_ble_eq_true rfl) ⟨rfl, rfl⟩
noncomputable def Fr_X10_isOpenNow (σ : gS) (ζ : gQ)  : Int32 :=
  let v1 := (rem64 (ζ 19) (1000 : Int64)).toInt32
  if (σ 217 (ix (8 : Int32))) < (σ 217 (ix (7 : Int32))) then
    if (σ 217 (ix (7 : Int32))) ≤ v1 then
      (1 : Int32)
    else
      if (σ 217 (ix (8 : Int32))) < v1 then
        (0 : Int32)
      else
        (1 : Int32)
  else
    if v1 < (σ 217 (ix (7 : Int32))) then
      (0 : Int32)
    else
      if (σ 217 (ix (8 : Int32))) < v1 then
        (0 : Int32)
      else
        (1 : Int32)
noncomputable def F_X10_isOpenNow : gS → gQ → Int32 := Classical.choose (⟨Fr_X10_isOpenNow, rfl⟩ : ∃ f : gS → gQ → Int32, f = Fr_X10_isOpenNow)
theorem F_X10_isOpenNow_eq : F_X10_isOpenNow = Fr_X10_isOpenNow := Classical.choose_spec (⟨Fr_X10_isOpenNow, rfl⟩ : ∃ f : gS → gQ → Int32, f = Fr_X10_isOpenNow)
set_option maxHeartbeats 4000000 in
set_option maxRecDepth 100000 in
theorem c_X10_isOpenNow (l : Launch) (g : gE)  {σ : gS} {ζ : gQ}  : gC l g mX10_isOpenNow (rm 0 0) [.ref 199] (hp σ ζ) (fun r h => r = some (.int (F_X10_isOpenNow σ ζ )) ∧ h = hp σ ζ) := by
  refine gC_of (by decide) (Nat.le_of_ble_eq_true rfl) ?_
  generalize hF : (F_X10_isOpenNow σ ζ ) = fr
  rw [F_X10_isOpenNow_eq] at hF
  unfold Fr_X10_isOpenNow at hF
  refine g_aload_n dX10_isOpenNow_0 rfl rfl rfl ?_
  refine g_get gClX10 19 (by decide) fl_X10_182 dX10_isOpenNow_1 (ho_199 _ _) rfl rfl ?_
  refine g_ldc2 kl_X10_311 dX10_isOpenNow_4 rfl ?_
  refine g_lrem dX10_isOpenNow_7 (by decide) rfl ?_
  refine g_l2i dX10_isOpenNow_8 rfl ?_
  refine g_istoreL_n (L1 := [(0, _), (1, _)]) dX10_isOpenNow_9 rfl (by decide) rfl rfl ?_
  refine g_aload_n dX10_isOpenNow_10 rfl rfl rfl ?_
  refine g_get gClX10 34 (by decide) fl_X10_63 dX10_isOpenNow_11 (ho_199 _ _) rfl rfl ?_
  refine g_bipush (v := 7) dX10_isOpenNow_14 (by decide) rfl ?_
  refine g_iald (ha_217 _ _) (vinc (by decide)) dX10_isOpenNow_16 rfl ?_
  refine g_istoreL_n (L1 := [(0, _), (1, _), (2, _)]) dX10_isOpenNow_17 rfl (by decide) rfl rfl ?_
  refine g_aload_n dX10_isOpenNow_18 rfl rfl rfl ?_
  refine g_get gClX10 34 (by decide) fl_X10_63 dX10_isOpenNow_19 (ho_199 _ _) rfl rfl ?_
  refine g_bipush (v := 8) dX10_isOpenNow_22 (by decide) rfl ?_
  refine g_iald (ha_217 _ _) (vinc (by decide)) dX10_isOpenNow_24 rfl ?_
  refine g_istoreL_n (L1 := [(0, _), (1, _), (2, _), (3, _)]) dX10_isOpenNow_25 rfl (by decide) rfl rfl ?_
  refine g_iload_n dX10_isOpenNow_26 rfl rfl rfl ?_
  refine g_iload_n dX10_isOpenNow_27 rfl rfl rfl ?_
  refine g_icmpgt (tgt := 49) dX10_isOpenNow_28 (by decide) rfl (fun c2 => ?_) (fun c2 => ?_)
  · replace hF := ite_p hF c2
    refine g_iload_n dX10_isOpenNow_49 rfl rfl rfl ?_
    refine g_iload_n dX10_isOpenNow_50 rfl rfl rfl ?_
    refine g_icmpge (tgt := 59) dX10_isOpenNow_51 (by decide) rfl (fun c3 => ?_) (fun c3 => ?_)
    · replace hF := ite_p hF c3
      refine g_iconst (v := 1) dX10_isOpenNow_59 (by decide) rfl ?_
      refine g_goto (tgt := 64) dX10_isOpenNow_60 (by decide) ?_
      subst hF
      exact g_zret rfl dX10_isOpenNow_64 (by decide) (Nat.le_of_ble_eq_true rfl) (Nat.le_of_ble_eq_true rfl) ⟨rfl, rfl⟩
    · replace hF := ite_n hF c3
      refine g_iload_n dX10_isOpenNow_54 rfl rfl rfl ?_
      refine g_iload_n dX10_isOpenNow_55 rfl rfl rfl ?_
      refine g_icmpgt (tgt := 63) dX10_isOpenNow_56 (by decide) rfl (fun c4 => ?_) (fun c4 => ?_)
      · replace hF := ite_p hF c4
        refine g_iconst (v := 0) dX10_isOpenNow_63 (by decide) rfl ?_
        subst hF
        exact g_zret rfl dX10_isOpenNow_64 (by decide) (Nat.le_of_ble_eq_true rfl) (Nat.le_of_ble_eq_true rfl) ⟨rfl, rfl⟩
      · replace hF := ite_n hF c4
        refine g_iconst (v := 1) dX10_isOpenNow_59 (by decide) rfl ?_
        refine g_goto (tgt := 64) dX10_isOpenNow_60 (by decide) ?_
        subst hF
        exact g_zret rfl dX10_isOpenNow_64 (by decide) (Nat.le_of_ble_eq_true rfl) (Nat.le_of_ble_eq_true rfl) ⟨rfl, rfl⟩
  · replace hF := ite_n hF c2
    refine g_iload_n dX10_isOpenNow_31 rfl rfl rfl ?_
    refine g_iload_n dX10_isOpenNow_32 rfl rfl rfl ?_
    refine g_icmplt (tgt := 45) dX10_isOpenNow_33 (by decide) rfl (fun c5 => ?_) (fun c5 => ?_)
    · replace hF := ite_p hF c5
      refine g_iconst (v := 0) dX10_isOpenNow_45 (by decide) rfl ?_
      refine g_goto (tgt := 64) dX10_isOpenNow_46 (by decide) ?_
      subst hF
      exact g_zret rfl dX10_isOpenNow_64 (by decide) (Nat.le_of_ble_eq_true rfl) (Nat.le_of_ble_eq_true rfl) ⟨rfl, rfl⟩
    · replace hF := ite_n hF c5
      refine g_iload_n dX10_isOpenNow_36 rfl rfl rfl ?_
      refine g_iload_n dX10_isOpenNow_37 rfl rfl rfl ?_
      refine g_icmpgt (tgt := 45) dX10_isOpenNow_38 (by decide) rfl (fun c6 => ?_) (fun c6 => ?_)
      · replace hF := ite_p hF c6
        refine g_iconst (v := 0) dX10_isOpenNow_45 (by decide) rfl ?_
        refine g_goto (tgt := 64) dX10_isOpenNow_46 (by decide) ?_
        subst hF
        exact g_zret rfl dX10_isOpenNow_64 (by decide) (Nat.le_of_ble_eq_true rfl) (Nat.le_of_ble_eq_true rfl) ⟨rfl, rfl⟩
      · replace hF := ite_n hF c6
        refine g_iconst (v := 1) dX10_isOpenNow_41 (by decide) rfl ?_
        refine g_goto (tgt := 64) dX10_isOpenNow_42 (by decide) ?_
        subst hF
        exact g_zret rfl dX10_isOpenNow_64 (by decide) (Nat.le_of_ble_eq_true rfl) (Nat.le_of_ble_eq_true rfl) ⟨rfl, rfl⟩
noncomputable def Fr_X10_leaves (σ : gS) (ζ : gQ) (p0 : Int32) : Int32 × gS × gQ :=
  if 0 ≤ (σ 199 20) then
    if 0 < (lg_cmp (ζ 19) (ζ 44)) then
      let f5 := (F_X10_put_ σ ζ (15 : Int32) (1 : Int32) p0)
      if f5.1 = 0 then
        ((1 : Int32), f5.2.1, f5.2.2)
      else
        let s8 := (F_X10_outsideTo f5.2.1 (7 : Int32) (5 : Int32))
        ((1 : Int32), s8, f5.2.2)
    else
      ((0 : Int32), σ, ζ)
  else
    let f11 := (F_X10_put_ σ ζ (14 : Int32) (0 : Int32) p0)
    if f11.1 = 0 then
      ((1 : Int32), f11.2.1, f11.2.2)
    else
      let f15 := (F_X10_put_ f11.2.1 f11.2.2 (22 : Int32) (0 : Int32) p0)
      if f15.1 = 0 then
        ((1 : Int32), f15.2.1, f15.2.2)
      else
        let s17 := (pf f15.2.1 199 42 (0 : Int32) : gS)
        let f19 := (F_X10_opens s17 f15.2.2 )
        ((1 : Int32), f19.1, f19.2)
noncomputable def F_X10_leaves : gS → gQ → Int32 → Int32 × gS × gQ := Classical.choose (⟨Fr_X10_leaves, rfl⟩ : ∃ f : gS → gQ → Int32 → Int32 × gS × gQ, f = Fr_X10_leaves)
theorem F_X10_leaves_eq : F_X10_leaves = Fr_X10_leaves := Classical.choose_spec (⟨Fr_X10_leaves, rfl⟩ : ∃ f : gS → gQ → Int32 → Int32 × gS × gQ, f = Fr_X10_leaves)
def Q_X10_leaves (σ : gS) (ζ : gQ) (p0 : Int32) : Prop :=
  if 0 ≤ (σ 199 20) then
    (if 0 < (lg_cmp (ζ 19) (ζ 44)) then
      ((Q_X10_put_ σ ζ (15 : Int32) (1 : Int32) p0) ∧ (let f5 := (F_X10_put_ σ ζ (15 : Int32) (1 : Int32) p0)
      if f5.1 = 0 then
        (True)
      else
        (let s8 := (F_X10_outsideTo f5.2.1 (7 : Int32) (5 : Int32))
        True)))
    else
      (True))
  else
    ((Q_X10_put_ σ ζ (14 : Int32) (0 : Int32) p0) ∧ (let f11 := (F_X10_put_ σ ζ (14 : Int32) (0 : Int32) p0)
    if f11.1 = 0 then
      (True)
    else
      ((Q_X10_put_ f11.2.1 f11.2.2 (22 : Int32) (0 : Int32) p0) ∧ (let f15 := (F_X10_put_ f11.2.1 f11.2.2 (22 : Int32) (0 : Int32) p0)
      if f15.1 = 0 then
        (True)
      else
        (let s17 := (pf f15.2.1 199 42 (0 : Int32) : gS)
        let f19 := (F_X10_opens s17 f15.2.2 )
        True)))))
set_option maxHeartbeats 4000000 in
set_option maxRecDepth 100000 in
theorem c_X10_leaves (l : Launch) (g : gE)  {σ : gS} {ζ : gQ} (p0 : Int32) (hQ : Q_X10_leaves σ ζ p0) : gC l g mX10_leaves (rm 7 203) [.ref 199, .int p0] (hp σ ζ) (fun r h => r = some (.int (F_X10_leaves σ ζ p0).1) ∧ h = hp (F_X10_leaves σ ζ p0).2.1 (F_X10_leaves σ ζ p0).2.2) := by
  refine gC_of (by decide) (Nat.le_of_ble_eq_true rfl) ?_
  generalize hF : (F_X10_leaves σ ζ p0) = fr
  rw [F_X10_leaves_eq] at hF
  unfold Fr_X10_leaves at hF
  unfold Q_X10_leaves at hQ
  refine g_aload_n dX10_leaves_0 rfl rfl rfl ?_
  refine g_get gClX10 20 (by decide) fl_X10_69 dX10_leaves_1 (ho_199 _ _) rfl rfl ?_
  refine g_ifge (tgt := 40) dX10_leaves_4 (by decide) rfl (fun c1 => ?_) (fun c1 => ?_)
  · replace hF := ite_p hF c1
    try replace hQ := ite_q hQ c1
    refine g_aload_n dX10_leaves_40 rfl rfl rfl ?_
    refine g_get gClX10 19 (by decide) fl_X10_182 dX10_leaves_41 (ho_199 _ _) rfl rfl ?_
    refine g_aload_n dX10_leaves_44 rfl rfl rfl ?_
    refine g_get gClX10 44 (by decide) fl_X10_302 dX10_leaves_45 (ho_199 _ _) rfl rfl ?_
    refine g_lcmp dX10_leaves_48 rfl ?_
    refine g_ifgt (tgt := 54) dX10_leaves_49 (by decide) rfl (fun c2 => ?_) (fun c2 => ?_)
    · replace hF := ite_p hF c2
      try replace hQ := ite_q hQ c2
      refine g_aload_n dX10_leaves_54 rfl rfl rfl ?_
      refine g_bipush (v := 15) dX10_leaves_55 (by decide) rfl ?_
      refine g_iconst (v := 1) dX10_leaves_57 (by decide) rfl ?_
      refine g_iload_n dX10_leaves_58 rfl rfl rfl ?_
      have o3 := hQ.1
      replace hQ := hQ.2
      refine g_callv mv_X10_put_ ml_X10_239 (c_X10_put_ l g _ _ _ o3) (ho_199 _ _) rfl rfl (Nat.le_of_ble_eq_true rfl) (Nat.le_of_ble_eq_true rfl) (Nat.le_of_ble_eq_true rfl) (Nat.le_of_ble_eq_true rfl) rfl (Nat.le_of_ble_eq_true rfl) dX10_leaves_59 rfl (fun r4 hr4 pr4 => ?_)
      obtain ⟨rfl, rfl⟩ := pr4
      refine g_ifeq (tgt := 72) dX10_leaves_62 (by decide) rfl (fun c6 => ?_) (fun c6 => ?_)
      · replace hF := ite_p hF c6
        try replace hQ := ite_q hQ c6
        refine g_iconst (v := 1) dX10_leaves_72 (by decide) rfl ?_
        subst hF
        exact g_zret rfl dX10_leaves_73 (by decide) (Nat.le_of_ble_eq_true rfl) (Nat.le_of_ble_eq_true rfl) ⟨rfl, rfl⟩
      · replace hF := ite_n hF c6
        try replace hQ := ite_r hQ c6
        refine g_aload_n dX10_leaves_65 rfl rfl rfl ?_
        refine g_bipush (v := 7) dX10_leaves_66 (by decide) rfl ?_
        refine g_iconst (v := 5) dX10_leaves_68 (by decide) rfl ?_
        refine g_callv mv_X10_outsideTo ml_X10_277 (c_X10_outsideTo l g _ _) (ho_199 _ _) rfl rfl (Nat.le_of_ble_eq_true rfl) (Nat.le_of_ble_eq_true rfl) (Nat.le_of_ble_eq_true rfl) (Nat.le_of_ble_eq_true rfl) rfl (Nat.le_of_ble_eq_true rfl) dX10_leaves_69 rfl (fun r7 hr7 pr7 => ?_)
        obtain ⟨rfl, rfl⟩ := pr7
        refine g_iconst (v := 1) dX10_leaves_72 (by decide) rfl ?_
        subst hF
        exact g_zret rfl dX10_leaves_73 (by decide) (Nat.le_of_ble_eq_true rfl) (Nat.le_of_ble_eq_true rfl) ⟨rfl, rfl⟩
    · replace hF := ite_n hF c2
      try replace hQ := ite_r hQ c2
      refine g_iconst (v := 0) dX10_leaves_52 (by decide) rfl ?_
      subst hF
      exact g_zret rfl dX10_leaves_53 (by decide) (Nat.le_of_ble_eq_true rfl) (Nat.le_of_ble_eq_true rfl) ⟨rfl, rfl⟩
  · replace hF := ite_n hF c1
    try replace hQ := ite_r hQ c1
    refine g_aload_n dX10_leaves_7 rfl rfl rfl ?_
    refine g_bipush (v := 14) dX10_leaves_8 (by decide) rfl ?_
    refine g_iconst (v := 0) dX10_leaves_10 (by decide) rfl ?_
    refine g_iload_n dX10_leaves_11 rfl rfl rfl ?_
    have o9 := hQ.1
    replace hQ := hQ.2
    refine g_callv mv_X10_put_ ml_X10_239 (c_X10_put_ l g _ _ _ o9) (ho_199 _ _) rfl rfl (Nat.le_of_ble_eq_true rfl) (Nat.le_of_ble_eq_true rfl) (Nat.le_of_ble_eq_true rfl) (Nat.le_of_ble_eq_true rfl) rfl (Nat.le_of_ble_eq_true rfl) dX10_leaves_12 rfl (fun r10 hr10 pr10 => ?_)
    obtain ⟨rfl, rfl⟩ := pr10
    refine g_ifeq (tgt := 38) dX10_leaves_15 (by decide) rfl (fun c12 => ?_) (fun c12 => ?_)
    · replace hF := ite_p hF c12
      try replace hQ := ite_q hQ c12
      refine g_iconst (v := 1) dX10_leaves_38 (by decide) rfl ?_
      subst hF
      exact g_zret rfl dX10_leaves_39 (by decide) (Nat.le_of_ble_eq_true rfl) (Nat.le_of_ble_eq_true rfl) ⟨rfl, rfl⟩
    · replace hF := ite_n hF c12
      try replace hQ := ite_r hQ c12
      refine g_aload_n dX10_leaves_18 rfl rfl rfl ?_
      refine g_bipush (v := 22) dX10_leaves_19 (by decide) rfl ?_
      refine g_iconst (v := 0) dX10_leaves_21 (by decide) rfl ?_
      refine g_iload_n dX10_leaves_22 rfl rfl rfl ?_
      have o13 := hQ.1
      replace hQ := hQ.2
      refine g_callv mv_X10_put_ ml_X10_239 (c_X10_put_ l g _ _ _ o13) (ho_199 _ _) rfl rfl (Nat.le_of_ble_eq_true rfl) (Nat.le_of_ble_eq_true rfl) (Nat.le_of_ble_eq_true rfl) (Nat.le_of_ble_eq_true rfl) rfl (Nat.le_of_ble_eq_true rfl) dX10_leaves_23 rfl (fun r14 hr14 pr14 => ?_)
      obtain ⟨rfl, rfl⟩ := pr14
      refine g_ifeq (tgt := 38) dX10_leaves_26 (by decide) rfl (fun c16 => ?_) (fun c16 => ?_)
      · replace hF := ite_p hF c16
        try replace hQ := ite_q hQ c16
        refine g_iconst (v := 1) dX10_leaves_38 (by decide) rfl ?_
        subst hF
        exact g_zret rfl dX10_leaves_39 (by decide) (Nat.le_of_ble_eq_true rfl) (Nat.le_of_ble_eq_true rfl) ⟨rfl, rfl⟩
      · replace hF := ite_n hF c16
        try replace hQ := ite_r hQ c16
        refine g_aload_n dX10_leaves_29 rfl rfl rfl ?_
        refine g_iconst (v := 0) dX10_leaves_30 (by decide) rfl ?_
        refine g_put gClX10 42 (by decide) fl_X10_246 rfl dX10_leaves_31 (ho_199 _ _) rfl rfl (Nat.le_of_ble_eq_true rfl) po_199_42 rfl ?_
        refine g_aload_n dX10_leaves_34 rfl rfl rfl ?_
        refine g_callv mv_X10_opens ml_X10_319 (c_X10_opens l g) (ho_199 _ _) rfl rfl (Nat.le_of_ble_eq_true rfl) (Nat.le_of_ble_eq_true rfl) (Nat.le_of_ble_eq_true rfl) (Nat.le_of_ble_eq_true rfl) rfl (Nat.le_of_ble_eq_true rfl) dX10_leaves_35 rfl (fun r18 hr18 pr18 => ?_)
        obtain ⟨rfl, rfl⟩ := pr18
        refine g_iconst (v := 1) dX10_leaves_38 (by decide) rfl ?_
        subst hF
        exact g_zret rfl dX10_leaves_39 (by decide) (Nat.le_of_ble_eq_true rfl) (Nat.le_of_ble_eq_true rfl) ⟨rfl, rfl⟩
noncomputable def J_X10_actOutside_204  (y1 : Int32) (y2 : Int32) (u0 : Int32) (u1 : Int32) (σ : gS) (ζ : gQ) : Int32 × gS × gQ :=
  let f30 := (F_X10_put_ σ ζ u0 u1 y1)
  if f30.1 = 0 then
    ((1 : Int32), f30.2.1, f30.2.2)
  else
    if y2 = 0 then
      if y2 = 0 then
        let s35 := (F_X10_outsideTo f30.2.1 (7 : Int32) (5 : Int32))
        ((1 : Int32), s35, f30.2.2)
      else
        let s37 := (F_X10_outsideTo f30.2.1 (7 : Int32) (3 : Int32))
        ((1 : Int32), s37, f30.2.2)
    else
      if y2 = 0 then
        let s40 := (F_X10_outsideTo f30.2.1 (4 : Int32) (5 : Int32))
        ((1 : Int32), s40, f30.2.2)
      else
        let s42 := (F_X10_outsideTo f30.2.1 (4 : Int32) (3 : Int32))
        ((1 : Int32), s42, f30.2.2)
def QJ_X10_actOutside_204  (y1 : Int32) (y2 : Int32) (u0 : Int32) (u1 : Int32) (σ : gS) (ζ : gQ) : Prop :=
  (Q_X10_put_ σ ζ u0 u1 y1) ∧ (let f30 := (F_X10_put_ σ ζ u0 u1 y1)
  if f30.1 = 0 then
    (True)
  else
    (if y2 = 0 then
      (if y2 = 0 then
        (let s35 := (F_X10_outsideTo f30.2.1 (7 : Int32) (5 : Int32))
        True)
      else
        (let s37 := (F_X10_outsideTo f30.2.1 (7 : Int32) (3 : Int32))
        True))
    else
      (if y2 = 0 then
        (let s40 := (F_X10_outsideTo f30.2.1 (4 : Int32) (5 : Int32))
        True)
      else
        (let s42 := (F_X10_outsideTo f30.2.1 (4 : Int32) (3 : Int32))
        True))))
set_option maxHeartbeats 4000000 in
set_option maxRecDepth 100000 in
theorem j_X10_actOutside_204 (l : Launch) (g : gE)  {fr : Int32 × gS × gQ} : ∀ (y1 : Int32) (y2 : Int32) (u0 : Int32) (u1 : Int32) (σ : gS) (ζ : gQ), QJ_X10_actOutside_204  y1 y2 u0 u1 σ ζ → J_X10_actOutside_204  y1 y2 u0 u1 σ ζ = fr → gG l g mX10_actOutside (rm 8 226) (gZm g (rm 8 226) (fun r h => r = some (.int fr.1) ∧ h = hp fr.2.1 fr.2.2)) 204 [(0, .ref 199), (1, .int y1), (2, .int y2)] [.int u1, .int u0, .ref 199] (hp σ ζ) 0 0 := by
  intro y1 y2 u0 u1 σ ζ hQ hF
  unfold J_X10_actOutside_204 at hF
  unfold QJ_X10_actOutside_204 at hQ
  refine g_iload_n dX10_actOutside_204 rfl rfl rfl ?_
  have o28 := hQ.1
  replace hQ := hQ.2
  refine g_callv mv_X10_put_ ml_X10_239 (c_X10_put_ l g _ _ _ o28) (ho_199 _ _) rfl rfl (Nat.le_of_ble_eq_true rfl) (Nat.le_of_ble_eq_true rfl) (Nat.le_of_ble_eq_true rfl) (Nat.le_of_ble_eq_true rfl) rfl (Nat.le_of_ble_eq_true rfl) dX10_actOutside_205 rfl (fun r29 hr29 pr29 => ?_)
  obtain ⟨rfl, rfl⟩ := pr29
  refine g_ifeq (tgt := 234) dX10_actOutside_208 (by decide) rfl (fun c31 => ?_) (fun c31 => ?_)
  · replace hF := ite_p hF c31
    try replace hQ := ite_q hQ c31
    refine g_iconst (v := 1) dX10_actOutside_234 (by decide) rfl ?_
    subst hF
    exact g_zret rfl dX10_actOutside_235 (by decide) (Nat.le_of_ble_eq_true rfl) (Nat.le_of_ble_eq_true rfl) ⟨rfl, rfl⟩
  · replace hF := ite_n hF c31
    try replace hQ := ite_r hQ c31
    refine g_aload_n dX10_actOutside_211 rfl rfl rfl ?_
    refine g_iload_n dX10_actOutside_212 rfl rfl rfl ?_
    refine g_ifeq (tgt := 220) dX10_actOutside_213 (by decide) rfl (fun c32 => ?_) (fun c32 => ?_)
    · replace hF := ite_p hF c32
      try replace hQ := ite_q hQ c32
      refine g_bipush (v := 7) dX10_actOutside_220 (by decide) rfl ?_
      refine g_iload_n dX10_actOutside_222 rfl rfl rfl ?_
      refine g_ifeq (tgt := 230) dX10_actOutside_223 (by decide) rfl (fun c33 => ?_) (fun c33 => ?_)
      · replace hF := ite_p hF c33
        try replace hQ := ite_q hQ c33
        refine g_iconst (v := 5) dX10_actOutside_230 (by decide) rfl ?_
        refine g_callv mv_X10_outsideTo ml_X10_277 (c_X10_outsideTo l g _ _) (ho_199 _ _) rfl rfl (Nat.le_of_ble_eq_true rfl) (Nat.le_of_ble_eq_true rfl) (Nat.le_of_ble_eq_true rfl) (Nat.le_of_ble_eq_true rfl) rfl (Nat.le_of_ble_eq_true rfl) dX10_actOutside_231 rfl (fun r34 hr34 pr34 => ?_)
        obtain ⟨rfl, rfl⟩ := pr34
        refine g_iconst (v := 1) dX10_actOutside_234 (by decide) rfl ?_
        subst hF
        exact g_zret rfl dX10_actOutside_235 (by decide) (Nat.le_of_ble_eq_true rfl) (Nat.le_of_ble_eq_true rfl) ⟨rfl, rfl⟩
      · replace hF := ite_n hF c33
        try replace hQ := ite_r hQ c33
        refine g_iconst (v := 3) dX10_actOutside_226 (by decide) rfl ?_
        refine g_goto (tgt := 231) dX10_actOutside_227 (by decide) ?_
        refine g_callv mv_X10_outsideTo ml_X10_277 (c_X10_outsideTo l g _ _) (ho_199 _ _) rfl rfl (Nat.le_of_ble_eq_true rfl) (Nat.le_of_ble_eq_true rfl) (Nat.le_of_ble_eq_true rfl) (Nat.le_of_ble_eq_true rfl) rfl (Nat.le_of_ble_eq_true rfl) dX10_actOutside_231 rfl (fun r36 hr36 pr36 => ?_)
        obtain ⟨rfl, rfl⟩ := pr36
        refine g_iconst (v := 1) dX10_actOutside_234 (by decide) rfl ?_
        subst hF
        exact g_zret rfl dX10_actOutside_235 (by decide) (Nat.le_of_ble_eq_true rfl) (Nat.le_of_ble_eq_true rfl) ⟨rfl, rfl⟩
    · replace hF := ite_n hF c32
      try replace hQ := ite_r hQ c32
      refine g_iconst (v := 4) dX10_actOutside_216 (by decide) rfl ?_
      refine g_goto (tgt := 222) dX10_actOutside_217 (by decide) ?_
      refine g_iload_n dX10_actOutside_222 rfl rfl rfl ?_
      refine g_ifeq (tgt := 230) dX10_actOutside_223 (by decide) rfl (fun c38 => ?_) (fun c38 => ?_)
      · replace hF := ite_p hF c38
        try replace hQ := ite_q hQ c38
        refine g_iconst (v := 5) dX10_actOutside_230 (by decide) rfl ?_
        refine g_callv mv_X10_outsideTo ml_X10_277 (c_X10_outsideTo l g _ _) (ho_199 _ _) rfl rfl (Nat.le_of_ble_eq_true rfl) (Nat.le_of_ble_eq_true rfl) (Nat.le_of_ble_eq_true rfl) (Nat.le_of_ble_eq_true rfl) rfl (Nat.le_of_ble_eq_true rfl) dX10_actOutside_231 rfl (fun r39 hr39 pr39 => ?_)
        obtain ⟨rfl, rfl⟩ := pr39
        refine g_iconst (v := 1) dX10_actOutside_234 (by decide) rfl ?_
        subst hF
        exact g_zret rfl dX10_actOutside_235 (by decide) (Nat.le_of_ble_eq_true rfl) (Nat.le_of_ble_eq_true rfl) ⟨rfl, rfl⟩
      · replace hF := ite_n hF c38
        try replace hQ := ite_r hQ c38
        refine g_iconst (v := 3) dX10_actOutside_226 (by decide) rfl ?_
        refine g_goto (tgt := 231) dX10_actOutside_227 (by decide) ?_
        refine g_callv mv_X10_outsideTo ml_X10_277 (c_X10_outsideTo l g _ _) (ho_199 _ _) rfl rfl (Nat.le_of_ble_eq_true rfl) (Nat.le_of_ble_eq_true rfl) (Nat.le_of_ble_eq_true rfl) (Nat.le_of_ble_eq_true rfl) rfl (Nat.le_of_ble_eq_true rfl) dX10_actOutside_231 rfl (fun r41 hr41 pr41 => ?_)
        obtain ⟨rfl, rfl⟩ := pr41
        refine g_iconst (v := 1) dX10_actOutside_234 (by decide) rfl ?_
        subst hF
        exact g_zret rfl dX10_actOutside_235 (by decide) (Nat.le_of_ble_eq_true rfl) (Nat.le_of_ble_eq_true rfl) ⟨rfl, rfl⟩
noncomputable def J_X10_actOutside_195  (y1 : Int32) (y2 : Int32) (u0 : Int32) (σ : gS) (ζ : gQ) : Int32 × gS × gQ :=
  if y2 = 0 then
    J_X10_actOutside_204  y1 y2 u0 (1 : Int32) σ ζ
  else
    J_X10_actOutside_204  y1 y2 u0 (0 : Int32) σ ζ
def QJ_X10_actOutside_195  (y1 : Int32) (y2 : Int32) (u0 : Int32) (σ : gS) (ζ : gQ) : Prop :=
  if y2 = 0 then
    (QJ_X10_actOutside_204  y1 y2 u0 (1 : Int32) σ ζ)
  else
    (QJ_X10_actOutside_204  y1 y2 u0 (0 : Int32) σ ζ)
set_option maxHeartbeats 4000000 in
set_option maxRecDepth 100000 in
theorem j_X10_actOutside_195 (l : Launch) (g : gE)  {fr : Int32 × gS × gQ} : ∀ (y1 : Int32) (y2 : Int32) (u0 : Int32) (σ : gS) (ζ : gQ), QJ_X10_actOutside_195  y1 y2 u0 σ ζ → J_X10_actOutside_195  y1 y2 u0 σ ζ = fr → gG l g mX10_actOutside (rm 8 226) (gZm g (rm 8 226) (fun r h => r = some (.int fr.1) ∧ h = hp fr.2.1 fr.2.2)) 195 [(0, .ref 199), (1, .int y1), (2, .int y2)] [.int u0, .ref 199] (hp σ ζ) 0 0 := by
  intro y1 y2 u0 σ ζ hQ hF
  unfold J_X10_actOutside_195 at hF
  unfold QJ_X10_actOutside_195 at hQ
  refine g_iload_n dX10_actOutside_195 rfl rfl rfl ?_
  refine g_ifeq (tgt := 203) dX10_actOutside_196 (by decide) rfl (fun c27 => ?_) (fun c27 => ?_)
  · replace hF := ite_p hF c27
    try replace hQ := ite_q hQ c27
    refine g_iconst (v := 1) dX10_actOutside_203 (by decide) rfl ?_
    refine g_sub [0, 1, 2] rfl ?_
    exact j_X10_actOutside_204 l g _ _ _ _ _ _ hQ hF
  · replace hF := ite_n hF c27
    try replace hQ := ite_r hQ c27
    refine g_iconst (v := 0) dX10_actOutside_199 (by decide) rfl ?_
    refine g_goto (tgt := 204) dX10_actOutside_200 (by decide) ?_
    refine g_sub [0, 1, 2] rfl ?_
    exact j_X10_actOutside_204 l g _ _ _ _ _ _ hQ hF
noncomputable def J_X10_actOutside_182  (y1 : Int32) (u0 : Int32) (σ : gS) (ζ : gQ) : Int32 × gS × gQ :=
  if u0 = 0 then
    J_X10_actOutside_195  y1 u0 (9 : Int32) σ ζ
  else
    J_X10_actOutside_195  y1 u0 (8 : Int32) σ ζ
def QJ_X10_actOutside_182  (y1 : Int32) (u0 : Int32) (σ : gS) (ζ : gQ) : Prop :=
  if u0 = 0 then
    (QJ_X10_actOutside_195  y1 u0 (9 : Int32) σ ζ)
  else
    (QJ_X10_actOutside_195  y1 u0 (8 : Int32) σ ζ)
set_option maxHeartbeats 4000000 in
set_option maxRecDepth 100000 in
theorem j_X10_actOutside_182 (l : Launch) (g : gE)  {fr : Int32 × gS × gQ} : ∀ (y1 : Int32) (u0 : Int32) (σ : gS) (ζ : gQ), QJ_X10_actOutside_182  y1 u0 σ ζ → J_X10_actOutside_182  y1 u0 σ ζ = fr → gG l g mX10_actOutside (rm 8 226) (gZm g (rm 8 226) (fun r h => r = some (.int fr.1) ∧ h = hp fr.2.1 fr.2.2)) 182 [(0, .ref 199), (1, .int y1)] [.int u0] (hp σ ζ) 0 0 := by
  intro y1 u0 σ ζ hQ hF
  unfold J_X10_actOutside_182 at hF
  unfold QJ_X10_actOutside_182 at hQ
  refine g_istoreL_n (L1 := [(0, _), (1, _), (2, _)]) dX10_actOutside_182 rfl (by decide) rfl rfl ?_
  refine g_aload_n dX10_actOutside_183 rfl rfl rfl ?_
  refine g_iload_n dX10_actOutside_184 rfl rfl rfl ?_
  refine g_ifeq (tgt := 193) dX10_actOutside_185 (by decide) rfl (fun c26 => ?_) (fun c26 => ?_)
  · replace hF := ite_p hF c26
    try replace hQ := ite_q hQ c26
    refine g_bipush (v := 9) dX10_actOutside_193 (by decide) rfl ?_
    refine g_sub [0, 1, 2] rfl ?_
    exact j_X10_actOutside_195 l g _ _ _ _ _ hQ hF
  · replace hF := ite_n hF c26
    try replace hQ := ite_r hQ c26
    refine g_bipush (v := 8) dX10_actOutside_188 (by decide) rfl ?_
    refine g_goto (tgt := 195) dX10_actOutside_190 (by decide) ?_
    refine g_sub [0, 1, 2] rfl ?_
    exact j_X10_actOutside_195 l g _ _ _ _ _ hQ hF
noncomputable def J_X10_actOutside_181  (y1 : Int32) (σ : gS) (ζ : gQ) : Int32 × gS × gQ :=
  J_X10_actOutside_182  y1 (0 : Int32) σ ζ
def QJ_X10_actOutside_181  (y1 : Int32) (σ : gS) (ζ : gQ) : Prop :=
  QJ_X10_actOutside_182  y1 (0 : Int32) σ ζ
set_option maxHeartbeats 4000000 in
set_option maxRecDepth 100000 in
theorem j_X10_actOutside_181 (l : Launch) (g : gE)  {fr : Int32 × gS × gQ} : ∀ (y1 : Int32) (σ : gS) (ζ : gQ), QJ_X10_actOutside_181  y1 σ ζ → J_X10_actOutside_181  y1 σ ζ = fr → gG l g mX10_actOutside (rm 8 226) (gZm g (rm 8 226) (fun r h => r = some (.int fr.1) ∧ h = hp fr.2.1 fr.2.2)) 181 [(0, .ref 199), (1, .int y1)] [] (hp σ ζ) 0 0 := by
  intro y1 σ ζ hQ hF
  unfold J_X10_actOutside_181 at hF
  unfold QJ_X10_actOutside_181 at hQ
  refine g_iconst (v := 0) dX10_actOutside_181 (by decide) rfl ?_
  refine g_sub [0, 1] rfl ?_
  exact j_X10_actOutside_182 l g _ _ _ _ hQ hF
noncomputable def J_X10_actOutside_356  (y4 : Int32) (u0 : Int32) (u1 : Int32) (σ : gS) (ζ : gQ) : Int32 × gS × gQ :=
  let s68 := (F_X10_outsideTo σ u0 u1)
  if y4 = 0 then
    let z70 := (vp_updL ζ 44 (ζ 44) : gQ)
    ((1 : Int32), s68, z70)
  else
    let z71 := (vp_updL ζ 44 ((ζ 19) + (s68 217 (ix (3 : Int32))).toInt64) : gQ)
    ((1 : Int32), s68, z71)
def QJ_X10_actOutside_356  (y4 : Int32) (u0 : Int32) (u1 : Int32) (σ : gS) (ζ : gQ) : Prop :=
  let s68 := (F_X10_outsideTo σ u0 u1)
  if y4 = 0 then
    (let z70 := (vp_updL ζ 44 (ζ 44) : gQ)
    True)
  else
    (let z71 := (vp_updL ζ 44 ((ζ 19) + (s68 217 (ix (3 : Int32))).toInt64) : gQ)
    True)
set_option maxHeartbeats 4000000 in
set_option maxRecDepth 100000 in
theorem j_X10_actOutside_356 (l : Launch) (g : gE)  {fr : Int32 × gS × gQ} : ∀ (y4 : Int32) (u0 : Int32) (u1 : Int32) (σ : gS) (ζ : gQ), QJ_X10_actOutside_356  y4 u0 u1 σ ζ → J_X10_actOutside_356  y4 u0 u1 σ ζ = fr → gG l g mX10_actOutside (rm 8 226) (gZm g (rm 8 226) (fun r h => r = some (.int fr.1) ∧ h = hp fr.2.1 fr.2.2)) 356 [(0, .ref 199), (4, .int y4)] [.int u1, .int u0, .ref 199] (hp σ ζ) 0 0 := by
  intro y4 u0 u1 σ ζ hQ hF
  unfold J_X10_actOutside_356 at hF
  unfold QJ_X10_actOutside_356 at hQ
  refine g_callv mv_X10_outsideTo ml_X10_277 (c_X10_outsideTo l g _ _) (ho_199 _ _) rfl rfl (Nat.le_of_ble_eq_true rfl) (Nat.le_of_ble_eq_true rfl) (Nat.le_of_ble_eq_true rfl) (Nat.le_of_ble_eq_true rfl) rfl (Nat.le_of_ble_eq_true rfl) dX10_actOutside_356 rfl (fun r67 hr67 pr67 => ?_)
  obtain ⟨rfl, rfl⟩ := pr67
  refine g_aload_n dX10_actOutside_359 rfl rfl rfl ?_
  refine g_iload dX10_actOutside_360 rfl rfl ?_
  refine g_ifeq (tgt := 380) dX10_actOutside_362 (by decide) rfl (fun c69 => ?_) (fun c69 => ?_)
  · replace hF := ite_p hF c69
    try replace hQ := ite_q hQ c69
    refine g_aload_n dX10_actOutside_380 rfl rfl rfl ?_
    refine g_get gClX10 44 (by decide) fl_X10_302 dX10_actOutside_381 (ho_199 _ _) rfl rfl ?_
    refine g_put gClX10 44 (by decide) fl_X10_302 rfl dX10_actOutside_384 (ho_199 _ _) rfl rfl (Nat.le_of_ble_eq_true rfl) pz_44 rfl ?_
    refine g_iconst (v := 1) dX10_actOutside_387 (by decide) rfl ?_
    subst hF
    exact g_zret rfl dX10_actOutside_388 (by decide) (Nat.le_of_ble_eq_true rfl) (Nat.le_of_ble_eq_true rfl) ⟨rfl, rfl⟩
  · replace hF := ite_n hF c69
    try replace hQ := ite_r hQ c69
    refine g_aload_n dX10_actOutside_365 rfl rfl rfl ?_
    refine g_get gClX10 19 (by decide) fl_X10_182 dX10_actOutside_366 (ho_199 _ _) rfl rfl ?_
    refine g_aload_n dX10_actOutside_369 rfl rfl rfl ?_
    refine g_get gClX10 34 (by decide) fl_X10_63 dX10_actOutside_370 (ho_199 _ _) rfl rfl ?_
    refine g_iconst (v := 3) dX10_actOutside_373 (by decide) rfl ?_
    refine g_iald (ha_217 _ _) (vinc (by decide)) dX10_actOutside_374 rfl ?_
    refine g_i2l dX10_actOutside_375 rfl ?_
    refine g_ladd dX10_actOutside_376 rfl ?_
    refine g_goto (tgt := 384) dX10_actOutside_377 (by decide) ?_
    refine g_put gClX10 44 (by decide) fl_X10_302 rfl dX10_actOutside_384 (ho_199 _ _) rfl rfl (Nat.le_of_ble_eq_true rfl) pz_44 rfl ?_
    refine g_iconst (v := 1) dX10_actOutside_387 (by decide) rfl ?_
    subst hF
    exact g_zret rfl dX10_actOutside_388 (by decide) (Nat.le_of_ble_eq_true rfl) (Nat.le_of_ble_eq_true rfl) ⟨rfl, rfl⟩
noncomputable def J_X10_actOutside_346  (y4 : Int32) (u0 : Int32) (σ : gS) (ζ : gQ) : Int32 × gS × gQ :=
  if y4 = 0 then
    J_X10_actOutside_356  y4 u0 (5 : Int32) σ ζ
  else
    J_X10_actOutside_356  y4 u0 (4 : Int32) σ ζ
def QJ_X10_actOutside_346  (y4 : Int32) (u0 : Int32) (σ : gS) (ζ : gQ) : Prop :=
  if y4 = 0 then
    (QJ_X10_actOutside_356  y4 u0 (5 : Int32) σ ζ)
  else
    (QJ_X10_actOutside_356  y4 u0 (4 : Int32) σ ζ)
set_option maxHeartbeats 4000000 in
set_option maxRecDepth 100000 in
theorem j_X10_actOutside_346 (l : Launch) (g : gE)  {fr : Int32 × gS × gQ} : ∀ (y4 : Int32) (u0 : Int32) (σ : gS) (ζ : gQ), QJ_X10_actOutside_346  y4 u0 σ ζ → J_X10_actOutside_346  y4 u0 σ ζ = fr → gG l g mX10_actOutside (rm 8 226) (gZm g (rm 8 226) (fun r h => r = some (.int fr.1) ∧ h = hp fr.2.1 fr.2.2)) 346 [(0, .ref 199), (4, .int y4)] [.int u0, .ref 199] (hp σ ζ) 0 0 := by
  intro y4 u0 σ ζ hQ hF
  unfold J_X10_actOutside_346 at hF
  unfold QJ_X10_actOutside_346 at hQ
  refine g_iload dX10_actOutside_346 rfl rfl ?_
  refine g_ifeq (tgt := 355) dX10_actOutside_348 (by decide) rfl (fun c66 => ?_) (fun c66 => ?_)
  · replace hF := ite_p hF c66
    try replace hQ := ite_q hQ c66
    refine g_iconst (v := 5) dX10_actOutside_355 (by decide) rfl ?_
    refine g_sub [0, 1] rfl ?_
    exact j_X10_actOutside_356 l g _ _ _ _ _ hQ hF
  · replace hF := ite_n hF c66
    try replace hQ := ite_r hQ c66
    refine g_iconst (v := 4) dX10_actOutside_351 (by decide) rfl ?_
    refine g_goto (tgt := 356) dX10_actOutside_352 (by decide) ?_
    refine g_sub [0, 1] rfl ?_
    exact j_X10_actOutside_356 l g _ _ _ _ _ hQ hF
noncomputable def J_X10_actOutside_326  (y1 : Int32) (y4 : Int32) (u0 : Int32) (u1 : Int32) (σ : gS) (ζ : gQ) : Int32 × gS × gQ :=
  let f63 := (F_X10_put_ σ ζ u0 u1 y1)
  if f63.1 = 0 then
    ((1 : Int32), f63.2.1, f63.2.2)
  else
    if y4 = 0 then
      J_X10_actOutside_346  y4 (7 : Int32) f63.2.1 f63.2.2
    else
      J_X10_actOutside_346  y4 (6 : Int32) f63.2.1 f63.2.2
def QJ_X10_actOutside_326  (y1 : Int32) (y4 : Int32) (u0 : Int32) (u1 : Int32) (σ : gS) (ζ : gQ) : Prop :=
  (Q_X10_put_ σ ζ u0 u1 y1) ∧ (let f63 := (F_X10_put_ σ ζ u0 u1 y1)
  if f63.1 = 0 then
    (True)
  else
    (if y4 = 0 then
      (QJ_X10_actOutside_346  y4 (7 : Int32) f63.2.1 f63.2.2)
    else
      (QJ_X10_actOutside_346  y4 (6 : Int32) f63.2.1 f63.2.2)))
set_option maxHeartbeats 4000000 in
set_option maxRecDepth 100000 in
theorem j_X10_actOutside_326 (l : Launch) (g : gE)  {fr : Int32 × gS × gQ} : ∀ (y1 : Int32) (y4 : Int32) (u0 : Int32) (u1 : Int32) (σ : gS) (ζ : gQ), QJ_X10_actOutside_326  y1 y4 u0 u1 σ ζ → J_X10_actOutside_326  y1 y4 u0 u1 σ ζ = fr → gG l g mX10_actOutside (rm 8 226) (gZm g (rm 8 226) (fun r h => r = some (.int fr.1) ∧ h = hp fr.2.1 fr.2.2)) 326 [(0, .ref 199), (1, .int y1), (4, .int y4)] [.int u1, .int u0, .ref 199] (hp σ ζ) 0 0 := by
  intro y1 y4 u0 u1 σ ζ hQ hF
  unfold J_X10_actOutside_326 at hF
  unfold QJ_X10_actOutside_326 at hQ
  refine g_iload_n dX10_actOutside_326 rfl rfl rfl ?_
  have o61 := hQ.1
  replace hQ := hQ.2
  refine g_callv mv_X10_put_ ml_X10_239 (c_X10_put_ l g _ _ _ o61) (ho_199 _ _) rfl rfl (Nat.le_of_ble_eq_true rfl) (Nat.le_of_ble_eq_true rfl) (Nat.le_of_ble_eq_true rfl) (Nat.le_of_ble_eq_true rfl) rfl (Nat.le_of_ble_eq_true rfl) dX10_actOutside_327 rfl (fun r62 hr62 pr62 => ?_)
  obtain ⟨rfl, rfl⟩ := pr62
  refine g_ifeq (tgt := 387) dX10_actOutside_330 (by decide) rfl (fun c64 => ?_) (fun c64 => ?_)
  · replace hF := ite_p hF c64
    try replace hQ := ite_q hQ c64
    refine g_iconst (v := 1) dX10_actOutside_387 (by decide) rfl ?_
    subst hF
    exact g_zret rfl dX10_actOutside_388 (by decide) (Nat.le_of_ble_eq_true rfl) (Nat.le_of_ble_eq_true rfl) ⟨rfl, rfl⟩
  · replace hF := ite_n hF c64
    try replace hQ := ite_r hQ c64
    refine g_aload_n dX10_actOutside_333 rfl rfl rfl ?_
    refine g_iload dX10_actOutside_334 rfl rfl ?_
    refine g_ifeq (tgt := 344) dX10_actOutside_336 (by decide) rfl (fun c65 => ?_) (fun c65 => ?_)
    · replace hF := ite_p hF c65
      try replace hQ := ite_q hQ c65
      refine g_bipush (v := 7) dX10_actOutside_344 (by decide) rfl ?_
      refine g_sub [0, 2] rfl ?_
      exact j_X10_actOutside_346 l g _ _ _ _ hQ hF
    · replace hF := ite_n hF c65
      try replace hQ := ite_r hQ c65
      refine g_bipush (v := 6) dX10_actOutside_339 (by decide) rfl ?_
      refine g_goto (tgt := 346) dX10_actOutside_341 (by decide) ?_
      refine g_sub [0, 2] rfl ?_
      exact j_X10_actOutside_346 l g _ _ _ _ hQ hF
noncomputable def J_X10_actOutside_316  (y1 : Int32) (y4 : Int32) (u0 : Int32) (σ : gS) (ζ : gQ) : Int32 × gS × gQ :=
  if y4 = 0 then
    J_X10_actOutside_326  y1 y4 u0 (1 : Int32) σ ζ
  else
    J_X10_actOutside_326  y1 y4 u0 (0 : Int32) σ ζ
def QJ_X10_actOutside_316  (y1 : Int32) (y4 : Int32) (u0 : Int32) (σ : gS) (ζ : gQ) : Prop :=
  if y4 = 0 then
    (QJ_X10_actOutside_326  y1 y4 u0 (1 : Int32) σ ζ)
  else
    (QJ_X10_actOutside_326  y1 y4 u0 (0 : Int32) σ ζ)
set_option maxHeartbeats 4000000 in
set_option maxRecDepth 100000 in
theorem j_X10_actOutside_316 (l : Launch) (g : gE)  {fr : Int32 × gS × gQ} : ∀ (y1 : Int32) (y4 : Int32) (u0 : Int32) (σ : gS) (ζ : gQ), QJ_X10_actOutside_316  y1 y4 u0 σ ζ → J_X10_actOutside_316  y1 y4 u0 σ ζ = fr → gG l g mX10_actOutside (rm 8 226) (gZm g (rm 8 226) (fun r h => r = some (.int fr.1) ∧ h = hp fr.2.1 fr.2.2)) 316 [(0, .ref 199), (1, .int y1), (4, .int y4)] [.int u0, .ref 199] (hp σ ζ) 0 0 := by
  intro y1 y4 u0 σ ζ hQ hF
  unfold J_X10_actOutside_316 at hF
  unfold QJ_X10_actOutside_316 at hQ
  refine g_iload dX10_actOutside_316 rfl rfl ?_
  refine g_ifeq (tgt := 325) dX10_actOutside_318 (by decide) rfl (fun c60 => ?_) (fun c60 => ?_)
  · replace hF := ite_p hF c60
    try replace hQ := ite_q hQ c60
    refine g_iconst (v := 1) dX10_actOutside_325 (by decide) rfl ?_
    refine g_sub [0, 1, 2] rfl ?_
    exact j_X10_actOutside_326 l g _ _ _ _ _ _ hQ hF
  · replace hF := ite_n hF c60
    try replace hQ := ite_r hQ c60
    refine g_iconst (v := 0) dX10_actOutside_321 (by decide) rfl ?_
    refine g_goto (tgt := 326) dX10_actOutside_322 (by decide) ?_
    refine g_sub [0, 1, 2] rfl ?_
    exact j_X10_actOutside_326 l g _ _ _ _ _ _ hQ hF
noncomputable def J_X10_actOutside_301  (y1 : Int32) (u0 : Int32) (σ : gS) (ζ : gQ) : Int32 × gS × gQ :=
  if u0 = 0 then
    J_X10_actOutside_316  y1 u0 (13 : Int32) σ ζ
  else
    J_X10_actOutside_316  y1 u0 (12 : Int32) σ ζ
def QJ_X10_actOutside_301  (y1 : Int32) (u0 : Int32) (σ : gS) (ζ : gQ) : Prop :=
  if u0 = 0 then
    (QJ_X10_actOutside_316  y1 u0 (13 : Int32) σ ζ)
  else
    (QJ_X10_actOutside_316  y1 u0 (12 : Int32) σ ζ)
set_option maxHeartbeats 4000000 in
set_option maxRecDepth 100000 in
theorem j_X10_actOutside_301 (l : Launch) (g : gE)  {fr : Int32 × gS × gQ} : ∀ (y1 : Int32) (u0 : Int32) (σ : gS) (ζ : gQ), QJ_X10_actOutside_301  y1 u0 σ ζ → J_X10_actOutside_301  y1 u0 σ ζ = fr → gG l g mX10_actOutside (rm 8 226) (gZm g (rm 8 226) (fun r h => r = some (.int fr.1) ∧ h = hp fr.2.1 fr.2.2)) 301 [(0, .ref 199), (1, .int y1)] [.int u0] (hp σ ζ) 0 0 := by
  intro y1 u0 σ ζ hQ hF
  unfold J_X10_actOutside_301 at hF
  unfold QJ_X10_actOutside_301 at hQ
  refine g_istoreL (L1 := [(0, _), (1, _), (4, _)]) dX10_actOutside_301 (by decide) rfl rfl ?_
  refine g_aload_n dX10_actOutside_303 rfl rfl rfl ?_
  refine g_iload dX10_actOutside_304 rfl rfl ?_
  refine g_ifeq (tgt := 314) dX10_actOutside_306 (by decide) rfl (fun c59 => ?_) (fun c59 => ?_)
  · replace hF := ite_p hF c59
    try replace hQ := ite_q hQ c59
    refine g_bipush (v := 13) dX10_actOutside_314 (by decide) rfl ?_
    refine g_sub [0, 1, 2] rfl ?_
    exact j_X10_actOutside_316 l g _ _ _ _ _ hQ hF
  · replace hF := ite_n hF c59
    try replace hQ := ite_r hQ c59
    refine g_bipush (v := 12) dX10_actOutside_309 (by decide) rfl ?_
    refine g_goto (tgt := 316) dX10_actOutside_311 (by decide) ?_
    refine g_sub [0, 1, 2] rfl ?_
    exact j_X10_actOutside_316 l g _ _ _ _ _ hQ hF
noncomputable def J_X10_actOutside_300  (y1 : Int32) (σ : gS) (ζ : gQ) : Int32 × gS × gQ :=
  J_X10_actOutside_301  y1 (0 : Int32) σ ζ
def QJ_X10_actOutside_300  (y1 : Int32) (σ : gS) (ζ : gQ) : Prop :=
  QJ_X10_actOutside_301  y1 (0 : Int32) σ ζ
set_option maxHeartbeats 4000000 in
set_option maxRecDepth 100000 in
theorem j_X10_actOutside_300 (l : Launch) (g : gE)  {fr : Int32 × gS × gQ} : ∀ (y1 : Int32) (σ : gS) (ζ : gQ), QJ_X10_actOutside_300  y1 σ ζ → J_X10_actOutside_300  y1 σ ζ = fr → gG l g mX10_actOutside (rm 8 226) (gZm g (rm 8 226) (fun r h => r = some (.int fr.1) ∧ h = hp fr.2.1 fr.2.2)) 300 [(0, .ref 199), (1, .int y1)] [] (hp σ ζ) 0 0 := by
  intro y1 σ ζ hQ hF
  unfold J_X10_actOutside_300 at hF
  unfold QJ_X10_actOutside_300 at hQ
  refine g_iconst (v := 0) dX10_actOutside_300 (by decide) rfl ?_
  refine g_sub [0, 1] rfl ?_
  exact j_X10_actOutside_301 l g _ _ _ _ hQ hF
noncomputable def J_X10_actOutside_272  (y1 : Int32) (u0 : Int32) (u1 : Int32) (σ : gS) (ζ : gQ) : Int32 × gS × gQ :=
  if (lg_cmp (F_X10_field σ u0 u1 (22 : Int32) (1 : Int32)) (σ 217 (ix (5 : Int32))).toInt64) < 0 then
    J_X10_actOutside_300  y1 σ ζ
  else
    if (F_X10_isOpenNow σ ζ ) = 0 then
      J_X10_actOutside_300  y1 σ ζ
    else
      J_X10_actOutside_301  y1 (1 : Int32) σ ζ
def QJ_X10_actOutside_272  (y1 : Int32) (u0 : Int32) (u1 : Int32) (σ : gS) (ζ : gQ) : Prop :=
  (Q_X10_field σ u0 u1 (22 : Int32) (1 : Int32)) ∧ (if (lg_cmp (F_X10_field σ u0 u1 (22 : Int32) (1 : Int32)) (σ 217 (ix (5 : Int32))).toInt64) < 0 then
    (QJ_X10_actOutside_300  y1 σ ζ)
  else
    (if (F_X10_isOpenNow σ ζ ) = 0 then
      (QJ_X10_actOutside_300  y1 σ ζ)
    else
      (QJ_X10_actOutside_301  y1 (1 : Int32) σ ζ)))
set_option maxHeartbeats 4000000 in
set_option maxRecDepth 100000 in
theorem j_X10_actOutside_272 (l : Launch) (g : gE)  {fr : Int32 × gS × gQ} : ∀ (y1 : Int32) (u0 : Int32) (u1 : Int32) (σ : gS) (ζ : gQ), QJ_X10_actOutside_272  y1 u0 u1 σ ζ → J_X10_actOutside_272  y1 u0 u1 σ ζ = fr → gG l g mX10_actOutside (rm 8 226) (gZm g (rm 8 226) (fun r h => r = some (.int fr.1) ∧ h = hp fr.2.1 fr.2.2)) 272 [(0, .ref 199), (1, .int y1)] [.int u1, .int u0, .ref 199] (hp σ ζ) 0 0 := by
  intro y1 u0 u1 σ ζ hQ hF
  unfold J_X10_actOutside_272 at hF
  unfold QJ_X10_actOutside_272 at hQ
  refine g_bipush (v := 22) dX10_actOutside_272 (by decide) rfl ?_
  refine g_iconst (v := 1) dX10_actOutside_274 (by decide) rfl ?_
  have o56 := hQ.1
  replace hQ := hQ.2
  refine g_callv mv_X10_field ml_X10_170 (c_X10_field l g _ _ _ _ o56) (ho_199 _ _) rfl rfl (Nat.le_of_ble_eq_true rfl) (Nat.le_of_ble_eq_true rfl) (Nat.le_of_ble_eq_true rfl) (Nat.le_of_ble_eq_true rfl) rfl (Nat.le_of_ble_eq_true rfl) dX10_actOutside_275 rfl (fun r57 hr57 pr57 => ?_)
  obtain ⟨rfl, rfl⟩ := pr57
  refine g_aload_n dX10_actOutside_278 rfl rfl rfl ?_
  refine g_get gClX10 34 (by decide) fl_X10_63 dX10_actOutside_279 (ho_199 _ _) rfl rfl ?_
  refine g_iconst (v := 5) dX10_actOutside_282 (by decide) rfl ?_
  refine g_iald (ha_217 _ _) (vinc (by decide)) dX10_actOutside_283 rfl ?_
  refine g_i2l dX10_actOutside_284 rfl ?_
  refine g_lcmp dX10_actOutside_285 rfl ?_
  refine g_iflt (tgt := 300) dX10_actOutside_286 (by decide) rfl (fun c58 => ?_) (fun c58 => ?_)
  · replace hF := ite_p hF c58
    try replace hQ := ite_q hQ c58
    refine g_sub [0, 1] rfl ?_
    exact j_X10_actOutside_300 l g _ _ _ hQ hF
  · replace hF := ite_n hF c58
    try replace hQ := ite_r hQ c58
    refine g_aload_n dX10_actOutside_289 rfl rfl rfl ?_
    refine g_callv mv_X10_isOpenNow ml_X10_299 (c_X10_isOpenNow l g) (ho_199 _ _) rfl rfl (Nat.le_of_ble_eq_true rfl) (Nat.le_of_ble_eq_true rfl) (Nat.le_of_ble_eq_true rfl) (Nat.le_of_ble_eq_true rfl) rfl (Nat.le_of_ble_eq_true rfl) dX10_actOutside_290 rfl (fun r72 hr72 pr72 => ?_)
    obtain ⟨rfl, rfl⟩ := pr72
    refine g_ifeq (tgt := 300) dX10_actOutside_293 (by decide) rfl (fun c73 => ?_) (fun c73 => ?_)
    · replace hF := ite_p hF c73
      try replace hQ := ite_q hQ c73
      refine g_sub [0, 1] rfl ?_
      exact j_X10_actOutside_300 l g _ _ _ hQ hF
    · replace hF := ite_n hF c73
      try replace hQ := ite_r hQ c73
      refine g_iconst (v := 1) dX10_actOutside_296 (by decide) rfl ?_
      refine g_goto (tgt := 301) dX10_actOutside_297 (by decide) ?_
      refine g_sub [0, 1] rfl ?_
      exact j_X10_actOutside_301 l g _ _ _ _ hQ hF
noncomputable def J_X10_actOutside_261  (y1 : Int32) (y3 : Int32) (σ : gS) (ζ : gQ) : Int32 × gS × gQ :=
  if y3 = 0 then
    J_X10_actOutside_272  y1 y1 (1 : Int32) σ ζ
  else
    J_X10_actOutside_272  y1 y1 (3 : Int32) σ ζ
def QJ_X10_actOutside_261  (y1 : Int32) (y3 : Int32) (σ : gS) (ζ : gQ) : Prop :=
  if y3 = 0 then
    (QJ_X10_actOutside_272  y1 y1 (1 : Int32) σ ζ)
  else
    (QJ_X10_actOutside_272  y1 y1 (3 : Int32) σ ζ)
set_option maxHeartbeats 4000000 in
set_option maxRecDepth 100000 in
theorem j_X10_actOutside_261 (l : Launch) (g : gE)  {fr : Int32 × gS × gQ} : ∀ (y1 : Int32) (y3 : Int32) (σ : gS) (ζ : gQ), QJ_X10_actOutside_261  y1 y3 σ ζ → J_X10_actOutside_261  y1 y3 σ ζ = fr → gG l g mX10_actOutside (rm 8 226) (gZm g (rm 8 226) (fun r h => r = some (.int fr.1) ∧ h = hp fr.2.1 fr.2.2)) 261 [(0, .ref 199), (1, .int y1), (3, .int y3)] [] (hp σ ζ) 0 0 := by
  intro y1 y3 σ ζ hQ hF
  unfold J_X10_actOutside_261 at hF
  unfold QJ_X10_actOutside_261 at hQ
  refine g_aload_n dX10_actOutside_261 rfl rfl rfl ?_
  refine g_iload_n dX10_actOutside_262 rfl rfl rfl ?_
  refine g_iload_n dX10_actOutside_263 rfl rfl rfl ?_
  refine g_ifeq (tgt := 271) dX10_actOutside_264 (by decide) rfl (fun c55 => ?_) (fun c55 => ?_)
  · replace hF := ite_p hF c55
    try replace hQ := ite_q hQ c55
    refine g_iconst (v := 1) dX10_actOutside_271 (by decide) rfl ?_
    refine g_sub [0, 1] rfl ?_
    exact j_X10_actOutside_272 l g _ _ _ _ _ hQ hF
  · replace hF := ite_n hF c55
    try replace hQ := ite_r hQ c55
    refine g_iconst (v := 3) dX10_actOutside_267 (by decide) rfl ?_
    refine g_goto (tgt := 272) dX10_actOutside_268 (by decide) ?_
    refine g_sub [0, 1] rfl ?_
    exact j_X10_actOutside_272 l g _ _ _ _ _ hQ hF
noncomputable def J_X10_actOutside_61  (y1 : Int32) (σ : gS) (ζ : gQ) : Int32 × gS × gQ :=
  if (σ 199 42) = 0 then
    if 0 ≤ (σ 199 20) then
      let f7 := (F_X10_put_ σ ζ (2 : Int32) (0 : Int32) y1)
      if f7.1 = 0 then
        ((1 : Int32), f7.2.1, f7.2.2)
      else
        let s9 := (pf f7.2.1 199 43 y1 : gS)
        let s11 := (F_X10_outsideTo s9 (1 : Int32) (3 : Int32))
        ((1 : Int32), s11, f7.2.2)
    else
      ((0 : Int32), σ, ζ)
  else
    if (σ 199 42) = 1 then
      let f15 := (F_X10_looksAt σ ζ y1)
      ((1 : Int32), f15.1, f15.2)
    else
      if (σ 199 42) = 2 then
        let f19 := (F_X10_waits σ ζ y1)
        (f19.1, f19.2.1, f19.2.2)
      else
        if (σ 199 42) = 3 then
          let f24 := (F_X10_isGood σ ζ y1 (2 : Int32))
          if f24.1 = 0 then
            J_X10_actOutside_181  y1 f24.2 ζ
          else
            if (F_X10_scoreOf f24.2 y1) < (f24.2 217 (ix (6 : Int32))) then
              J_X10_actOutside_181  y1 f24.2 ζ
            else
              J_X10_actOutside_182  y1 (1 : Int32) f24.2 ζ
        else
          if (σ 199 42) = 4 then
            let f49 := (F_X10_writes σ ζ y1)
            ((1 : Int32), f49.1, f49.2)
          else
            if (σ 199 42) = 5 then
              let f53 := (F_X10_hasPass σ ζ y1)
              if f53.1 = 0 then
                let f76 := (F_X10_isSound f53.2 ζ y1)
                if f76.1 = 0 then
                  J_X10_actOutside_300  y1 f76.2 ζ
                else
                  J_X10_actOutside_261  y1 f53.1 f76.2 ζ
              else
                J_X10_actOutside_261  y1 f53.1 f53.2 ζ
            else
              if (σ 199 42) = 6 then
                let f81 := (F_X10_leaves σ ζ y1)
                (f81.1, f81.2.1, f81.2.2)
              else
                if (σ 199 20) < 0 then
                  let f86 := (F_X10_put_ σ ζ (16 : Int32) (0 : Int32) y1)
                  if f86.1 = 0 then
                    ((1 : Int32), f86.2.1, f86.2.2)
                  else
                    let s89 := (F_X10_outsideTo f86.2.1 (0 : Int32) (1 : Int32))
                    ((1 : Int32), s89, f86.2.2)
                else
                  ((0 : Int32), σ, ζ)
def QJ_X10_actOutside_61  (y1 : Int32) (σ : gS) (ζ : gQ) : Prop :=
  if (σ 199 42) = 0 then
    (if 0 ≤ (σ 199 20) then
      ((Q_X10_put_ σ ζ (2 : Int32) (0 : Int32) y1) ∧ (let f7 := (F_X10_put_ σ ζ (2 : Int32) (0 : Int32) y1)
      if f7.1 = 0 then
        (True)
      else
        (let s9 := (pf f7.2.1 199 43 y1 : gS)
        let s11 := (F_X10_outsideTo s9 (1 : Int32) (3 : Int32))
        True)))
    else
      (True))
  else
    (if (σ 199 42) = 1 then
      ((Q_X10_looksAt σ ζ y1) ∧ (let f15 := (F_X10_looksAt σ ζ y1)
      True))
    else
      (if (σ 199 42) = 2 then
        ((Q_X10_waits σ ζ y1) ∧ (let f19 := (F_X10_waits σ ζ y1)
        (f19.1 = 0 ∨ f19.1 = 1) ∧ (True)))
      else
        (if (σ 199 42) = 3 then
          ((Q_X10_isGood σ ζ y1 (2 : Int32)) ∧ (let f24 := (F_X10_isGood σ ζ y1 (2 : Int32))
          if f24.1 = 0 then
            (QJ_X10_actOutside_181  y1 f24.2 ζ)
          else
            ((Q_X10_scoreOf f24.2 y1) ∧ (if (F_X10_scoreOf f24.2 y1) < (f24.2 217 (ix (6 : Int32))) then
              (QJ_X10_actOutside_181  y1 f24.2 ζ)
            else
              (QJ_X10_actOutside_182  y1 (1 : Int32) f24.2 ζ)))))
        else
          (if (σ 199 42) = 4 then
            ((Q_X10_writes σ ζ y1) ∧ (let f49 := (F_X10_writes σ ζ y1)
            True))
          else
            (if (σ 199 42) = 5 then
              ((Q_X10_hasPass σ ζ y1) ∧ (let f53 := (F_X10_hasPass σ ζ y1)
              if f53.1 = 0 then
                ((Q_X10_isSound f53.2 ζ y1) ∧ (let f76 := (F_X10_isSound f53.2 ζ y1)
                if f76.1 = 0 then
                  (QJ_X10_actOutside_300  y1 f76.2 ζ)
                else
                  (QJ_X10_actOutside_261  y1 f53.1 f76.2 ζ)))
              else
                (QJ_X10_actOutside_261  y1 f53.1 f53.2 ζ)))
            else
              (if (σ 199 42) = 6 then
                ((Q_X10_leaves σ ζ y1) ∧ (let f81 := (F_X10_leaves σ ζ y1)
                (f81.1 = 0 ∨ f81.1 = 1) ∧ (True)))
              else
                (if (σ 199 20) < 0 then
                  ((Q_X10_put_ σ ζ (16 : Int32) (0 : Int32) y1) ∧ (let f86 := (F_X10_put_ σ ζ (16 : Int32) (0 : Int32) y1)
                  if f86.1 = 0 then
                    (True)
                  else
                    (let s89 := (F_X10_outsideTo f86.2.1 (0 : Int32) (1 : Int32))
                    True)))
                else
                  (True))))))))
set_option maxHeartbeats 4000000 in
set_option maxRecDepth 100000 in
theorem j_X10_actOutside_61 (l : Launch) (g : gE)  {fr : Int32 × gS × gQ} : ∀ (y1 : Int32) (σ : gS) (ζ : gQ), QJ_X10_actOutside_61  y1 σ ζ → J_X10_actOutside_61  y1 σ ζ = fr → gG l g mX10_actOutside (rm 8 226) (gZm g (rm 8 226) (fun r h => r = some (.int fr.1) ∧ h = hp fr.2.1 fr.2.2)) 61 [(0, .ref 199), (1, .int y1)] [] (hp σ ζ) 0 0 := by
  intro y1 σ ζ hQ hF
  unfold J_X10_actOutside_61 at hF
  unfold QJ_X10_actOutside_61 at hQ
  refine g_aload_n dX10_actOutside_61 rfl rfl rfl ?_
  refine g_get gClX10 42 (by decide) fl_X10_246 dX10_actOutside_62 (ho_199 _ _) rfl rfl ?_
  refine g_case 0 (fun c3 => ?_) (fun c3 => ?_)
  · replace hF := ite_p hF c3
    try replace hQ := ite_q hQ c3
    refine g_table (tgt := 108) dX10_actOutside_65 (by decide) (by decide) ?_
    refine g_aload_n dX10_actOutside_108 rfl rfl rfl ?_
    refine g_get gClX10 20 (by decide) fl_X10_69 dX10_actOutside_109 (ho_199 _ _) rfl rfl ?_
    refine g_ifge (tgt := 117) dX10_actOutside_112 (by decide) rfl (fun c4 => ?_) (fun c4 => ?_)
    · replace hF := ite_p hF c4
      try replace hQ := ite_q hQ c4
      refine g_aload_n dX10_actOutside_117 rfl rfl rfl ?_
      refine g_iconst (v := 2) dX10_actOutside_118 (by decide) rfl ?_
      refine g_iconst (v := 0) dX10_actOutside_119 (by decide) rfl ?_
      refine g_iload_n dX10_actOutside_120 rfl rfl rfl ?_
      have o5 := hQ.1
      replace hQ := hQ.2
      refine g_callv mv_X10_put_ ml_X10_239 (c_X10_put_ l g _ _ _ o5) (ho_199 _ _) rfl rfl (Nat.le_of_ble_eq_true rfl) (Nat.le_of_ble_eq_true rfl) (Nat.le_of_ble_eq_true rfl) (Nat.le_of_ble_eq_true rfl) rfl (Nat.le_of_ble_eq_true rfl) dX10_actOutside_121 rfl (fun r6 hr6 pr6 => ?_)
      obtain ⟨rfl, rfl⟩ := pr6
      refine g_ifeq (tgt := 138) dX10_actOutside_124 (by decide) rfl (fun c8 => ?_) (fun c8 => ?_)
      · replace hF := ite_p hF c8
        try replace hQ := ite_q hQ c8
        refine g_iconst (v := 1) dX10_actOutside_138 (by decide) rfl ?_
        subst hF
        exact g_zret rfl dX10_actOutside_139 (by decide) (Nat.le_of_ble_eq_true rfl) (Nat.le_of_ble_eq_true rfl) ⟨rfl, rfl⟩
      · replace hF := ite_n hF c8
        try replace hQ := ite_r hQ c8
        refine g_aload_n dX10_actOutside_127 rfl rfl rfl ?_
        refine g_iload_n dX10_actOutside_128 rfl rfl rfl ?_
        refine g_put gClX10 43 (by decide) fl_X10_91 rfl dX10_actOutside_129 (ho_199 _ _) rfl rfl (Nat.le_of_ble_eq_true rfl) po_199_43 rfl ?_
        refine g_aload_n dX10_actOutside_132 rfl rfl rfl ?_
        refine g_iconst (v := 1) dX10_actOutside_133 (by decide) rfl ?_
        refine g_iconst (v := 3) dX10_actOutside_134 (by decide) rfl ?_
        refine g_callv mv_X10_outsideTo ml_X10_277 (c_X10_outsideTo l g _ _) (ho_199 _ _) rfl rfl (Nat.le_of_ble_eq_true rfl) (Nat.le_of_ble_eq_true rfl) (Nat.le_of_ble_eq_true rfl) (Nat.le_of_ble_eq_true rfl) rfl (Nat.le_of_ble_eq_true rfl) dX10_actOutside_135 rfl (fun r10 hr10 pr10 => ?_)
        obtain ⟨rfl, rfl⟩ := pr10
        refine g_iconst (v := 1) dX10_actOutside_138 (by decide) rfl ?_
        subst hF
        exact g_zret rfl dX10_actOutside_139 (by decide) (Nat.le_of_ble_eq_true rfl) (Nat.le_of_ble_eq_true rfl) ⟨rfl, rfl⟩
    · replace hF := ite_n hF c4
      try replace hQ := ite_r hQ c4
      refine g_iconst (v := 0) dX10_actOutside_115 (by decide) rfl ?_
      subst hF
      exact g_zret rfl dX10_actOutside_116 (by decide) (Nat.le_of_ble_eq_true rfl) (Nat.le_of_ble_eq_true rfl) ⟨rfl, rfl⟩
  · replace hF := ite_n hF c3
    try replace hQ := ite_r hQ c3
    refine g_case 1 (fun c12 => ?_) (fun c12 => ?_)
    · replace hF := ite_p hF c12
      try replace hQ := ite_q hQ c12
      refine g_table (tgt := 140) dX10_actOutside_65 (by decide) (by decide) ?_
      refine g_aload_n dX10_actOutside_140 rfl rfl rfl ?_
      refine g_iload_n dX10_actOutside_141 rfl rfl rfl ?_
      have o13 := hQ.1
      replace hQ := hQ.2
      refine g_callv mv_X10_looksAt ml_X10_281 (c_X10_looksAt l g _ o13) (ho_199 _ _) rfl rfl (Nat.le_of_ble_eq_true rfl) (Nat.le_of_ble_eq_true rfl) (Nat.le_of_ble_eq_true rfl) (Nat.le_of_ble_eq_true rfl) rfl (Nat.le_of_ble_eq_true rfl) dX10_actOutside_142 rfl (fun r14 hr14 pr14 => ?_)
      obtain ⟨rfl, rfl⟩ := pr14
      refine g_iconst (v := 1) dX10_actOutside_145 (by decide) rfl ?_
      subst hF
      exact g_zret rfl dX10_actOutside_146 (by decide) (Nat.le_of_ble_eq_true rfl) (Nat.le_of_ble_eq_true rfl) ⟨rfl, rfl⟩
    · replace hF := ite_n hF c12
      try replace hQ := ite_r hQ c12
      refine g_case 2 (fun c16 => ?_) (fun c16 => ?_)
      · replace hF := ite_p hF c16
        try replace hQ := ite_q hQ c16
        refine g_table (tgt := 147) dX10_actOutside_65 (by decide) (by decide) ?_
        refine g_aload_n dX10_actOutside_147 rfl rfl rfl ?_
        refine g_iload_n dX10_actOutside_148 rfl rfl rfl ?_
        have o17 := hQ.1
        replace hQ := hQ.2
        refine g_callv mv_X10_waits ml_X10_284 (c_X10_waits l g _ o17) (ho_199 _ _) rfl rfl (Nat.le_of_ble_eq_true rfl) (Nat.le_of_ble_eq_true rfl) (Nat.le_of_ble_eq_true rfl) (Nat.le_of_ble_eq_true rfl) rfl (Nat.le_of_ble_eq_true rfl) dX10_actOutside_149 rfl (fun r18 hr18 pr18 => ?_)
        obtain ⟨rfl, rfl⟩ := pr18
        have o20 := hQ.1
        replace hQ := hQ.2
        subst hF
        exact g_zret rfl dX10_actOutside_152 (gz_n o20) (Nat.le_of_ble_eq_true rfl) (Nat.le_of_ble_eq_true rfl) ⟨rfl, rfl⟩
      · replace hF := ite_n hF c16
        try replace hQ := ite_r hQ c16
        refine g_case 3 (fun c21 => ?_) (fun c21 => ?_)
        · replace hF := ite_p hF c21
          try replace hQ := ite_q hQ c21
          refine g_table (tgt := 153) dX10_actOutside_65 (by decide) (by decide) ?_
          refine g_aload_n dX10_actOutside_153 rfl rfl rfl ?_
          refine g_iload_n dX10_actOutside_154 rfl rfl rfl ?_
          refine g_iconst (v := 2) dX10_actOutside_155 (by decide) rfl ?_
          have o22 := hQ.1
          replace hQ := hQ.2
          refine g_callv mv_X10_isGood ml_X10_185 (c_X10_isGood l g _ _ o22) (ho_199 _ _) rfl rfl (Nat.le_of_ble_eq_true rfl) (Nat.le_of_ble_eq_true rfl) (Nat.le_of_ble_eq_true rfl) (Nat.le_of_ble_eq_true rfl) rfl (Nat.le_of_ble_eq_true rfl) dX10_actOutside_156 rfl (fun r23 hr23 pr23 => ?_)
          obtain ⟨rfl, rfl⟩ := pr23
          refine g_ifeq (tgt := 181) dX10_actOutside_159 (by decide) rfl (fun c25 => ?_) (fun c25 => ?_)
          · replace hF := ite_p hF c25
            try replace hQ := ite_q hQ c25
            refine g_sub [0, 1] rfl ?_
            exact j_X10_actOutside_181 l g _ _ _ hQ hF
          · replace hF := ite_n hF c25
            try replace hQ := ite_r hQ c25
            refine g_aload_n dX10_actOutside_162 rfl rfl rfl ?_
            refine g_iload_n dX10_actOutside_163 rfl rfl rfl ?_
            have o43 := hQ.1
            replace hQ := hQ.2
            refine g_callv mv_X10_scoreOf ml_X10_287 (c_X10_scoreOf l g _ o43) (ho_199 _ _) rfl rfl (Nat.le_of_ble_eq_true rfl) (Nat.le_of_ble_eq_true rfl) (Nat.le_of_ble_eq_true rfl) (Nat.le_of_ble_eq_true rfl) rfl (Nat.le_of_ble_eq_true rfl) dX10_actOutside_164 rfl (fun r44 hr44 pr44 => ?_)
            obtain ⟨rfl, rfl⟩ := pr44
            refine g_aload_n dX10_actOutside_167 rfl rfl rfl ?_
            refine g_get gClX10 34 (by decide) fl_X10_63 dX10_actOutside_168 (ho_199 _ _) rfl rfl ?_
            refine g_bipush (v := 6) dX10_actOutside_171 (by decide) rfl ?_
            refine g_iald (ha_217 _ _) (vinc (by decide)) dX10_actOutside_173 rfl ?_
            refine g_icmplt (tgt := 181) dX10_actOutside_174 (by decide) rfl (fun c45 => ?_) (fun c45 => ?_)
            · replace hF := ite_p hF c45
              try replace hQ := ite_q hQ c45
              refine g_sub [0, 1] rfl ?_
              exact j_X10_actOutside_181 l g _ _ _ hQ hF
            · replace hF := ite_n hF c45
              try replace hQ := ite_r hQ c45
              refine g_iconst (v := 1) dX10_actOutside_177 (by decide) rfl ?_
              refine g_goto (tgt := 182) dX10_actOutside_178 (by decide) ?_
              refine g_sub [0, 1] rfl ?_
              exact j_X10_actOutside_182 l g _ _ _ _ hQ hF
        · replace hF := ite_n hF c21
          try replace hQ := ite_r hQ c21
          refine g_case 4 (fun c46 => ?_) (fun c46 => ?_)
          · replace hF := ite_p hF c46
            try replace hQ := ite_q hQ c46
            refine g_table (tgt := 236) dX10_actOutside_65 (by decide) (by decide) ?_
            refine g_aload_n dX10_actOutside_236 rfl rfl rfl ?_
            refine g_iload_n dX10_actOutside_237 rfl rfl rfl ?_
            have o47 := hQ.1
            replace hQ := hQ.2
            refine g_callv mv_X10_writes ml_X10_290 (c_X10_writes l g _ o47) (ho_199 _ _) rfl rfl (Nat.le_of_ble_eq_true rfl) (Nat.le_of_ble_eq_true rfl) (Nat.le_of_ble_eq_true rfl) (Nat.le_of_ble_eq_true rfl) rfl (Nat.le_of_ble_eq_true rfl) dX10_actOutside_238 rfl (fun r48 hr48 pr48 => ?_)
            obtain ⟨rfl, rfl⟩ := pr48
            refine g_iconst (v := 1) dX10_actOutside_241 (by decide) rfl ?_
            subst hF
            exact g_zret rfl dX10_actOutside_242 (by decide) (Nat.le_of_ble_eq_true rfl) (Nat.le_of_ble_eq_true rfl) ⟨rfl, rfl⟩
          · replace hF := ite_n hF c46
            try replace hQ := ite_r hQ c46
            refine g_case 5 (fun c50 => ?_) (fun c50 => ?_)
            · replace hF := ite_p hF c50
              try replace hQ := ite_q hQ c50
              refine g_table (tgt := 243) dX10_actOutside_65 (by decide) (by decide) ?_
              refine g_aload_n dX10_actOutside_243 rfl rfl rfl ?_
              refine g_iload_n dX10_actOutside_244 rfl rfl rfl ?_
              have o51 := hQ.1
              replace hQ := hQ.2
              refine g_callv mv_X10_hasPass ml_X10_293 (c_X10_hasPass l g _ o51) (ho_199 _ _) rfl rfl (Nat.le_of_ble_eq_true rfl) (Nat.le_of_ble_eq_true rfl) (Nat.le_of_ble_eq_true rfl) (Nat.le_of_ble_eq_true rfl) rfl (Nat.le_of_ble_eq_true rfl) dX10_actOutside_245 rfl (fun r52 hr52 pr52 => ?_)
              obtain ⟨rfl, rfl⟩ := pr52
              refine g_istoreL_n (L1 := [(0, _), (1, _), (3, _)]) dX10_actOutside_248 rfl (by decide) rfl rfl ?_
              refine g_iload_n dX10_actOutside_249 rfl rfl rfl ?_
              refine g_ifne (tgt := 261) dX10_actOutside_250 (by decide) rfl (fun c54 => ?_) (fun c54 => ?_)
              · replace hF := ite_n hF c54
                try replace hQ := ite_r hQ c54
                refine g_sub [0, 1, 2] rfl ?_
                exact j_X10_actOutside_261 l g _ _ _ _ hQ hF
              · replace hF := ite_p hF c54
                try replace hQ := ite_q hQ c54
                refine g_aload_n dX10_actOutside_253 rfl rfl rfl ?_
                refine g_iload_n dX10_actOutside_254 rfl rfl rfl ?_
                have o74 := hQ.1
                replace hQ := hQ.2
                refine g_callv mv_X10_isSound ml_X10_296 (c_X10_isSound l g _ o74) (ho_199 _ _) rfl rfl (Nat.le_of_ble_eq_true rfl) (Nat.le_of_ble_eq_true rfl) (Nat.le_of_ble_eq_true rfl) (Nat.le_of_ble_eq_true rfl) rfl (Nat.le_of_ble_eq_true rfl) dX10_actOutside_255 rfl (fun r75 hr75 pr75 => ?_)
                obtain ⟨rfl, rfl⟩ := pr75
                refine g_ifeq (tgt := 300) dX10_actOutside_258 (by decide) rfl (fun c77 => ?_) (fun c77 => ?_)
                · replace hF := ite_p hF c77
                  try replace hQ := ite_q hQ c77
                  refine g_sub [0, 1] rfl ?_
                  exact j_X10_actOutside_300 l g _ _ _ hQ hF
                · replace hF := ite_n hF c77
                  try replace hQ := ite_r hQ c77
                  refine g_sub [0, 1, 2] rfl ?_
                  exact j_X10_actOutside_261 l g _ _ _ _ hQ hF
            · replace hF := ite_n hF c50
              try replace hQ := ite_r hQ c50
              refine g_case 6 (fun c78 => ?_) (fun c78 => ?_)
              · replace hF := ite_p hF c78
                try replace hQ := ite_q hQ c78
                refine g_table (tgt := 389) dX10_actOutside_65 (by decide) (by decide) ?_
                refine g_aload_n dX10_actOutside_389 rfl rfl rfl ?_
                refine g_iload_n dX10_actOutside_390 rfl rfl rfl ?_
                have o79 := hQ.1
                replace hQ := hQ.2
                refine g_callv mv_X10_leaves ml_X10_305 (c_X10_leaves l g _ o79) (ho_199 _ _) rfl rfl (Nat.le_of_ble_eq_true rfl) (Nat.le_of_ble_eq_true rfl) (Nat.le_of_ble_eq_true rfl) (Nat.le_of_ble_eq_true rfl) rfl (Nat.le_of_ble_eq_true rfl) dX10_actOutside_391 rfl (fun r80 hr80 pr80 => ?_)
                obtain ⟨rfl, rfl⟩ := pr80
                have o82 := hQ.1
                replace hQ := hQ.2
                subst hF
                exact g_zret rfl dX10_actOutside_394 (gz_n o82) (Nat.le_of_ble_eq_true rfl) (Nat.le_of_ble_eq_true rfl) ⟨rfl, rfl⟩
              · replace hF := ite_n hF c78
                try replace hQ := ite_r hQ c78
                refine g_table (tgt := 395) dX10_actOutside_65 (by decide) (gt_out (lo := 0) (hi := 6) (by decide) (fun k h1 h2 => by rcases (show k = 0 ∨ k = 1 ∨ k = 2 ∨ k = 3 ∨ k = 4 ∨ k = 5 ∨ k = 6 by omega) with rfl | rfl | rfl | rfl | rfl | rfl | rfl <;> first | exact c3 | exact c12 | exact c16 | exact c21 | exact c46 | exact c50 | exact c78) (by decide)) ?_
                refine g_aload_n dX10_actOutside_395 rfl rfl rfl ?_
                refine g_get gClX10 20 (by decide) fl_X10_69 dX10_actOutside_396 (ho_199 _ _) rfl rfl ?_
                refine g_iflt (tgt := 404) dX10_actOutside_399 (by decide) rfl (fun c83 => ?_) (fun c83 => ?_)
                · replace hF := ite_p hF c83
                  try replace hQ := ite_q hQ c83
                  refine g_aload_n dX10_actOutside_404 rfl rfl rfl ?_
                  refine g_bipush (v := 16) dX10_actOutside_405 (by decide) rfl ?_
                  refine g_iconst (v := 0) dX10_actOutside_407 (by decide) rfl ?_
                  refine g_iload_n dX10_actOutside_408 rfl rfl rfl ?_
                  have o84 := hQ.1
                  replace hQ := hQ.2
                  refine g_callv mv_X10_put_ ml_X10_239 (c_X10_put_ l g _ _ _ o84) (ho_199 _ _) rfl rfl (Nat.le_of_ble_eq_true rfl) (Nat.le_of_ble_eq_true rfl) (Nat.le_of_ble_eq_true rfl) (Nat.le_of_ble_eq_true rfl) rfl (Nat.le_of_ble_eq_true rfl) dX10_actOutside_409 rfl (fun r85 hr85 pr85 => ?_)
                  obtain ⟨rfl, rfl⟩ := pr85
                  refine g_ifeq (tgt := 421) dX10_actOutside_412 (by decide) rfl (fun c87 => ?_) (fun c87 => ?_)
                  · replace hF := ite_p hF c87
                    try replace hQ := ite_q hQ c87
                    refine g_iconst (v := 1) dX10_actOutside_421 (by decide) rfl ?_
                    subst hF
                    exact g_zret rfl dX10_actOutside_422 (by decide) (Nat.le_of_ble_eq_true rfl) (Nat.le_of_ble_eq_true rfl) ⟨rfl, rfl⟩
                  · replace hF := ite_n hF c87
                    try replace hQ := ite_r hQ c87
                    refine g_aload_n dX10_actOutside_415 rfl rfl rfl ?_
                    refine g_iconst (v := 0) dX10_actOutside_416 (by decide) rfl ?_
                    refine g_iconst (v := 1) dX10_actOutside_417 (by decide) rfl ?_
                    refine g_callv mv_X10_outsideTo ml_X10_277 (c_X10_outsideTo l g _ _) (ho_199 _ _) rfl rfl (Nat.le_of_ble_eq_true rfl) (Nat.le_of_ble_eq_true rfl) (Nat.le_of_ble_eq_true rfl) (Nat.le_of_ble_eq_true rfl) rfl (Nat.le_of_ble_eq_true rfl) dX10_actOutside_418 rfl (fun r88 hr88 pr88 => ?_)
                    obtain ⟨rfl, rfl⟩ := pr88
                    refine g_iconst (v := 1) dX10_actOutside_421 (by decide) rfl ?_
                    subst hF
                    exact g_zret rfl dX10_actOutside_422 (by decide) (Nat.le_of_ble_eq_true rfl) (Nat.le_of_ble_eq_true rfl) ⟨rfl, rfl⟩
                · replace hF := ite_n hF c83
                  try replace hQ := ite_r hQ c83
                  refine g_iconst (v := 0) dX10_actOutside_402 (by decide) rfl ?_
                  subst hF
                  exact g_zret rfl dX10_actOutside_403 (by decide) (Nat.le_of_ble_eq_true rfl) (Nat.le_of_ble_eq_true rfl) ⟨rfl, rfl⟩
noncomputable def J_X10_actOutside_18  (u0 : Int32) (σ : gS) (ζ : gQ) : Int32 × gS × gQ :=
  if (σ 199 42) < (1 : Int32) then
    J_X10_actOutside_61  u0 σ ζ
  else
    if (5 : Int32) < (σ 199 42) then
      J_X10_actOutside_61  u0 σ ζ
    else
      if (σ 199 20) = u0 then
        J_X10_actOutside_61  u0 σ ζ
      else
        let f94 := (F_X10_put_ σ ζ (1 : Int32) (1 : Int32) u0)
        if f94.1 = 0 then
          ((1 : Int32), f94.2.1, f94.2.2)
        else
          let s97 := (F_X10_outsideTo f94.2.1 (0 : Int32) (1 : Int32))
          ((1 : Int32), s97, f94.2.2)
def QJ_X10_actOutside_18  (u0 : Int32) (σ : gS) (ζ : gQ) : Prop :=
  if (σ 199 42) < (1 : Int32) then
    (QJ_X10_actOutside_61  u0 σ ζ)
  else
    (if (5 : Int32) < (σ 199 42) then
      (QJ_X10_actOutside_61  u0 σ ζ)
    else
      (if (σ 199 20) = u0 then
        (QJ_X10_actOutside_61  u0 σ ζ)
      else
        ((Q_X10_put_ σ ζ (1 : Int32) (1 : Int32) u0) ∧ (let f94 := (F_X10_put_ σ ζ (1 : Int32) (1 : Int32) u0)
        if f94.1 = 0 then
          (True)
        else
          (let s97 := (F_X10_outsideTo f94.2.1 (0 : Int32) (1 : Int32))
          True)))))
set_option maxHeartbeats 4000000 in
set_option maxRecDepth 100000 in
theorem j_X10_actOutside_18 (l : Launch) (g : gE)  {fr : Int32 × gS × gQ} : ∀ (u0 : Int32) (σ : gS) (ζ : gQ), QJ_X10_actOutside_18  u0 σ ζ → J_X10_actOutside_18  u0 σ ζ = fr → gG l g mX10_actOutside (rm 8 226) (gZm g (rm 8 226) (fun r h => r = some (.int fr.1) ∧ h = hp fr.2.1 fr.2.2)) 18 [(0, .ref 199)] [.int u0] (hp σ ζ) 0 0 := by
  intro u0 σ ζ hQ hF
  unfold J_X10_actOutside_18 at hF
  unfold QJ_X10_actOutside_18 at hQ
  refine g_istoreL_n (L1 := [(0, _), (1, _)]) dX10_actOutside_18 rfl (by decide) rfl rfl ?_
  refine g_aload_n dX10_actOutside_19 rfl rfl rfl ?_
  refine g_get gClX10 42 (by decide) fl_X10_246 dX10_actOutside_20 (ho_199 _ _) rfl rfl ?_
  refine g_iconst (v := 1) dX10_actOutside_23 (by decide) rfl ?_
  refine g_icmplt (tgt := 61) dX10_actOutside_24 (by decide) rfl (fun c2 => ?_) (fun c2 => ?_)
  · replace hF := ite_p hF c2
    try replace hQ := ite_q hQ c2
    refine g_sub [0, 1] rfl ?_
    exact j_X10_actOutside_61 l g _ _ _ hQ hF
  · replace hF := ite_n hF c2
    try replace hQ := ite_r hQ c2
    refine g_aload_n dX10_actOutside_27 rfl rfl rfl ?_
    refine g_get gClX10 42 (by decide) fl_X10_246 dX10_actOutside_28 (ho_199 _ _) rfl rfl ?_
    refine g_iconst (v := 5) dX10_actOutside_31 (by decide) rfl ?_
    refine g_icmpgt (tgt := 61) dX10_actOutside_32 (by decide) rfl (fun c90 => ?_) (fun c90 => ?_)
    · replace hF := ite_p hF c90
      try replace hQ := ite_q hQ c90
      refine g_sub [0, 1] rfl ?_
      exact j_X10_actOutside_61 l g _ _ _ hQ hF
    · replace hF := ite_n hF c90
      try replace hQ := ite_r hQ c90
      refine g_aload_n dX10_actOutside_35 rfl rfl rfl ?_
      refine g_get gClX10 20 (by decide) fl_X10_69 dX10_actOutside_36 (ho_199 _ _) rfl rfl ?_
      refine g_iload_n dX10_actOutside_39 rfl rfl rfl ?_
      refine g_icmpeq (tgt := 61) dX10_actOutside_40 (by decide) rfl (fun c91 => ?_) (fun c91 => ?_)
      · replace hF := ite_p hF c91
        try replace hQ := ite_q hQ c91
        refine g_sub [0, 1] rfl ?_
        exact j_X10_actOutside_61 l g _ _ _ hQ hF
      · replace hF := ite_n hF c91
        try replace hQ := ite_r hQ c91
        refine g_aload_n dX10_actOutside_43 rfl rfl rfl ?_
        refine g_iconst (v := 1) dX10_actOutside_44 (by decide) rfl ?_
        refine g_iconst (v := 1) dX10_actOutside_45 (by decide) rfl ?_
        refine g_iload_n dX10_actOutside_46 rfl rfl rfl ?_
        have o92 := hQ.1
        replace hQ := hQ.2
        refine g_callv mv_X10_put_ ml_X10_239 (c_X10_put_ l g _ _ _ o92) (ho_199 _ _) rfl rfl (Nat.le_of_ble_eq_true rfl) (Nat.le_of_ble_eq_true rfl) (Nat.le_of_ble_eq_true rfl) (Nat.le_of_ble_eq_true rfl) rfl (Nat.le_of_ble_eq_true rfl) dX10_actOutside_47 rfl (fun r93 hr93 pr93 => ?_)
        obtain ⟨rfl, rfl⟩ := pr93
        refine g_ifeq (tgt := 59) dX10_actOutside_50 (by decide) rfl (fun c95 => ?_) (fun c95 => ?_)
        · replace hF := ite_p hF c95
          try replace hQ := ite_q hQ c95
          refine g_iconst (v := 1) dX10_actOutside_59 (by decide) rfl ?_
          subst hF
          exact g_zret rfl dX10_actOutside_60 (by decide) (Nat.le_of_ble_eq_true rfl) (Nat.le_of_ble_eq_true rfl) ⟨rfl, rfl⟩
        · replace hF := ite_n hF c95
          try replace hQ := ite_r hQ c95
          refine g_aload_n dX10_actOutside_53 rfl rfl rfl ?_
          refine g_iconst (v := 0) dX10_actOutside_54 (by decide) rfl ?_
          refine g_iconst (v := 1) dX10_actOutside_55 (by decide) rfl ?_
          refine g_callv mv_X10_outsideTo ml_X10_277 (c_X10_outsideTo l g _ _) (ho_199 _ _) rfl rfl (Nat.le_of_ble_eq_true rfl) (Nat.le_of_ble_eq_true rfl) (Nat.le_of_ble_eq_true rfl) (Nat.le_of_ble_eq_true rfl) rfl (Nat.le_of_ble_eq_true rfl) dX10_actOutside_56 rfl (fun r96 hr96 pr96 => ?_)
          obtain ⟨rfl, rfl⟩ := pr96
          refine g_iconst (v := 1) dX10_actOutside_59 (by decide) rfl ?_
          subst hF
          exact g_zret rfl dX10_actOutside_60 (by decide) (Nat.le_of_ble_eq_true rfl) (Nat.le_of_ble_eq_true rfl) ⟨rfl, rfl⟩
noncomputable def Fr_X10_actOutside (σ : gS) (ζ : gQ)  : Int32 × gS × gQ :=
  if (σ 199 42) = 0 then
    J_X10_actOutside_18  (σ 199 20) σ ζ
  else
    J_X10_actOutside_18  (σ 199 43) σ ζ
noncomputable def F_X10_actOutside : gS → gQ → Int32 × gS × gQ := Classical.choose (⟨Fr_X10_actOutside, rfl⟩ : ∃ f : gS → gQ → Int32 × gS × gQ, f = Fr_X10_actOutside)
theorem F_X10_actOutside_eq : F_X10_actOutside = Fr_X10_actOutside := Classical.choose_spec (⟨Fr_X10_actOutside, rfl⟩ : ∃ f : gS → gQ → Int32 × gS × gQ, f = Fr_X10_actOutside)
def Q_X10_actOutside (σ : gS) (ζ : gQ)  : Prop :=
  if (σ 199 42) = 0 then
    (QJ_X10_actOutside_18  (σ 199 20) σ ζ)
  else
    (QJ_X10_actOutside_18  (σ 199 43) σ ζ)
set_option maxHeartbeats 4000000 in
set_option maxRecDepth 100000 in
theorem c_X10_actOutside (l : Launch) (g : gE)  {σ : gS} {ζ : gQ}  (hQ : Q_X10_actOutside σ ζ ) : gC l g mX10_actOutside (rm 8 226) [.ref 199] (hp σ ζ) (fun r h => r = some (.int (F_X10_actOutside σ ζ ).1) ∧ h = hp (F_X10_actOutside σ ζ ).2.1 (F_X10_actOutside σ ζ ).2.2) := by
  refine gC_of (by decide) (Nat.le_of_ble_eq_true rfl) ?_
  generalize hF : (F_X10_actOutside σ ζ ) = fr
  rw [F_X10_actOutside_eq] at hF
  unfold Fr_X10_actOutside at hF
  unfold Q_X10_actOutside at hQ
  refine g_aload_n dX10_actOutside_0 rfl rfl rfl ?_
  refine g_get gClX10 42 (by decide) fl_X10_246 dX10_actOutside_1 (ho_199 _ _) rfl rfl ?_
  refine g_ifne (tgt := 14) dX10_actOutside_4 (by decide) rfl (fun c1 => ?_) (fun c1 => ?_)
  · replace hF := ite_n hF c1
    try replace hQ := ite_r hQ c1
    refine g_aload_n dX10_actOutside_14 rfl rfl rfl ?_
    refine g_get gClX10 43 (by decide) fl_X10_91 dX10_actOutside_15 (ho_199 _ _) rfl rfl ?_
    refine g_sub [0] rfl ?_
    exact j_X10_actOutside_18 l g _ _ _ hQ hF
  · replace hF := ite_p hF c1
    try replace hQ := ite_q hQ c1
    refine g_aload_n dX10_actOutside_7 rfl rfl rfl ?_
    refine g_get gClX10 20 (by decide) fl_X10_69 dX10_actOutside_8 (ho_199 _ _) rfl rfl ?_
    refine g_goto (tgt := 18) dX10_actOutside_11 (by decide) ?_
    refine g_sub [0] rfl ?_
    exact j_X10_actOutside_18 l g _ _ _ hQ hF
noncomputable def Fr_X10_isCard (p0 : Int32) : Int32 :=
  if p0 < 0 then
    (0 : Int32)
  else
    if (16 : Int32) ≤ p0 then
      (0 : Int32)
    else
      (1 : Int32)
noncomputable def F_X10_isCard : Int32 → Int32 := Classical.choose (⟨Fr_X10_isCard, rfl⟩ : ∃ f : Int32 → Int32, f = Fr_X10_isCard)
theorem F_X10_isCard_eq : F_X10_isCard = Fr_X10_isCard := Classical.choose_spec (⟨Fr_X10_isCard, rfl⟩ : ∃ f : Int32 → Int32, f = Fr_X10_isCard)
set_option maxHeartbeats 4000000 in
set_option maxRecDepth 100000 in
theorem c_X10_isCard (l : Launch) (g : gE)  {σ : gS} {ζ : gQ} (p0 : Int32) : gC l g mX10_isCard (rm 0 0) [.int p0] (hp σ ζ) (fun r h => r = some (.int (F_X10_isCard p0)) ∧ h = hp σ ζ) := by
  refine gC_of (by decide) (Nat.le_of_ble_eq_true rfl) ?_
  generalize hF : (F_X10_isCard p0) = fr
  rw [F_X10_isCard_eq] at hF
  unfold Fr_X10_isCard at hF
  refine g_iload_n dX10_isCard_0 rfl rfl rfl ?_
  refine g_iflt (tgt := 14) dX10_isCard_1 (by decide) rfl (fun c1 => ?_) (fun c1 => ?_)
  · replace hF := ite_p hF c1
    refine g_iconst (v := 0) dX10_isCard_14 (by decide) rfl ?_
    subst hF
    exact g_zret rfl dX10_isCard_15 (by decide) (Nat.le_of_ble_eq_true rfl) (Nat.le_of_ble_eq_true rfl) ⟨rfl, rfl⟩
  · replace hF := ite_n hF c1
    refine g_iload_n dX10_isCard_4 rfl rfl rfl ?_
    refine g_bipush (v := 16) dX10_isCard_5 (by decide) rfl ?_
    refine g_icmpge (tgt := 14) dX10_isCard_7 (by decide) rfl (fun c2 => ?_) (fun c2 => ?_)
    · replace hF := ite_p hF c2
      refine g_iconst (v := 0) dX10_isCard_14 (by decide) rfl ?_
      subst hF
      exact g_zret rfl dX10_isCard_15 (by decide) (Nat.le_of_ble_eq_true rfl) (Nat.le_of_ble_eq_true rfl) ⟨rfl, rfl⟩
    · replace hF := ite_n hF c2
      refine g_iconst (v := 1) dX10_isCard_10 (by decide) rfl ?_
      refine g_goto (tgt := 15) dX10_isCard_11 (by decide) ?_
      subst hF
      exact g_zret rfl dX10_isCard_15 (by decide) (Nat.le_of_ble_eq_true rfl) (Nat.le_of_ble_eq_true rfl) ⟨rfl, rfl⟩
noncomputable def Fr_X10_size (σ : gS) (p0 : Int32) (p1 : Int32) : Int32 :=
  if (F_X10_isCard p0) = 0 then
    (-1 : Int32)
  else
    if p1 < 0 then
      (-1 : Int32)
    else
      if (3 : Int32) < p1 then
        (-1 : Int32)
      else
        (σ 211 (ix (((4 : Int32) * p0) + p1)))
noncomputable def F_X10_size : gS → Int32 → Int32 → Int32 := Classical.choose (⟨Fr_X10_size, rfl⟩ : ∃ f : gS → Int32 → Int32 → Int32, f = Fr_X10_size)
theorem F_X10_size_eq : F_X10_size = Fr_X10_size := Classical.choose_spec (⟨Fr_X10_size, rfl⟩ : ∃ f : gS → Int32 → Int32 → Int32, f = Fr_X10_size)
def Q_X10_size (σ : gS) (p0 : Int32) (p1 : Int32) : Prop :=
  if (F_X10_isCard p0) = 0 then
    (True)
  else
    (if p1 < 0 then
      (True)
    else
      (if (3 : Int32) < p1 then
        (True)
      else
        (vp_in (((4 : Int32) * p0) + p1) 64 ∧ (True))))
set_option maxHeartbeats 4000000 in
set_option maxRecDepth 100000 in
theorem c_X10_size (l : Launch) (g : gE)  {σ : gS} {ζ : gQ} (p0 : Int32) (p1 : Int32) (hQ : Q_X10_size σ p0 p1) : gC l g mX10_size (rm 1 20) [.ref 199, .int p0, .int p1] (hp σ ζ) (fun r h => r = some (.int (F_X10_size σ p0 p1)) ∧ h = hp σ ζ) := by
  refine gC_of (by decide) (Nat.le_of_ble_eq_true rfl) ?_
  generalize hF : (F_X10_size σ p0 p1) = fr
  rw [F_X10_size_eq] at hF
  unfold Fr_X10_size at hF
  unfold Q_X10_size at hQ
  refine g_iload_n dX10_size_0 rfl rfl rfl ?_
  refine g_calls mt_X10_isCard ms_X10_isCard ml_X10_154 (c_X10_isCard l g _) rfl (Nat.le_of_ble_eq_true rfl) (Nat.le_of_ble_eq_true rfl) (Nat.le_of_ble_eq_true rfl) (Nat.le_of_ble_eq_true rfl) rfl (Nat.le_of_ble_eq_true rfl) dX10_size_1 rfl (fun r1 hr1 pr1 => ?_)
  obtain ⟨rfl, rfl⟩ := pr1
  refine g_ifeq (tgt := 29) dX10_size_4 (by decide) rfl (fun c2 => ?_) (fun c2 => ?_)
  · replace hF := ite_p hF c2
    try replace hQ := ite_q hQ c2
    refine g_iconst (v := (-1)) dX10_size_29 (by decide) rfl ?_
    subst hF
    exact g_iret rfl dX10_size_30 (Nat.le_of_ble_eq_true rfl) (Nat.le_of_ble_eq_true rfl) ⟨rfl, rfl⟩
  · replace hF := ite_n hF c2
    try replace hQ := ite_r hQ c2
    refine g_iload_n dX10_size_7 rfl rfl rfl ?_
    refine g_iflt (tgt := 29) dX10_size_8 (by decide) rfl (fun c3 => ?_) (fun c3 => ?_)
    · replace hF := ite_p hF c3
      try replace hQ := ite_q hQ c3
      refine g_iconst (v := (-1)) dX10_size_29 (by decide) rfl ?_
      subst hF
      exact g_iret rfl dX10_size_30 (Nat.le_of_ble_eq_true rfl) (Nat.le_of_ble_eq_true rfl) ⟨rfl, rfl⟩
    · replace hF := ite_n hF c3
      try replace hQ := ite_r hQ c3
      refine g_iload_n dX10_size_11 rfl rfl rfl ?_
      refine g_iconst (v := 3) dX10_size_12 (by decide) rfl ?_
      refine g_icmpgt (tgt := 29) dX10_size_13 (by decide) rfl (fun c4 => ?_) (fun c4 => ?_)
      · replace hF := ite_p hF c4
        try replace hQ := ite_q hQ c4
        refine g_iconst (v := (-1)) dX10_size_29 (by decide) rfl ?_
        subst hF
        exact g_iret rfl dX10_size_30 (Nat.le_of_ble_eq_true rfl) (Nat.le_of_ble_eq_true rfl) ⟨rfl, rfl⟩
      · replace hF := ite_n hF c4
        try replace hQ := ite_r hQ c4
        refine g_aload_n dX10_size_16 rfl rfl rfl ?_
        refine g_get gClX10 13 (by decide) fl_X10_44 dX10_size_17 (ho_199 _ _) rfl rfl ?_
        refine g_iconst (v := 4) dX10_size_20 (by decide) rfl ?_
        refine g_iload_n dX10_size_21 rfl rfl rfl ?_
        refine g_imul dX10_size_22 rfl ?_
        refine g_iload_n dX10_size_23 rfl rfl rfl ?_
        refine g_iadd dX10_size_24 rfl ?_
        have o5 := hQ.1
        replace hQ := hQ.2
        refine g_iald (ha_211 _ _) o5 dX10_size_25 rfl ?_
        refine g_goto (tgt := 30) dX10_size_26 (by decide) ?_
        subst hF
        exact g_iret rfl dX10_size_30 (Nat.le_of_ble_eq_true rfl) (Nat.le_of_ble_eq_true rfl) ⟨rfl, rfl⟩
noncomputable def Fr_X10_at (σ : gS) (p0 : Int32) (p1 : Int32) (p2 : Int32) : Int32 :=
  if (F_X10_size σ p0 p1) < 0 then
    (-1 : Int32)
  else
    if p2 < 0 then
      (-1 : Int32)
    else
      if (σ 211 (ix (((4 : Int32) * p0) + p1))) ≤ p2 then
        (-1 : Int32)
      else
        ((σ 210 (ix (((48 : Int32) * (((4 : Int32) * p0) + p1)) + p2))) &&& (255 : Int32))
noncomputable def F_X10_at : gS → Int32 → Int32 → Int32 → Int32 := Classical.choose (⟨Fr_X10_at, rfl⟩ : ∃ f : gS → Int32 → Int32 → Int32 → Int32, f = Fr_X10_at)
theorem F_X10_at_eq : F_X10_at = Fr_X10_at := Classical.choose_spec (⟨Fr_X10_at, rfl⟩ : ∃ f : gS → Int32 → Int32 → Int32 → Int32, f = Fr_X10_at)
def Q_X10_at (σ : gS) (p0 : Int32) (p1 : Int32) (p2 : Int32) : Prop :=
  (Q_X10_size σ p0 p1) ∧ (if (F_X10_size σ p0 p1) < 0 then
    (True)
  else
    (if p2 < 0 then
      (True)
    else
      (vp_in (((4 : Int32) * p0) + p1) 64 ∧ (if (σ 211 (ix (((4 : Int32) * p0) + p1))) ≤ p2 then
        (True)
      else
        (vp_in (((48 : Int32) * (((4 : Int32) * p0) + p1)) + p2) 3072 ∧ (True))))))
set_option maxHeartbeats 4000000 in
set_option maxRecDepth 100000 in
theorem c_X10_at (l : Launch) (g : gE)  {σ : gS} {ζ : gQ} (p0 : Int32) (p1 : Int32) (p2 : Int32) (hQ : Q_X10_at σ p0 p1 p2) : gC l g mX10_at (rm 2 42) [.ref 199, .int p0, .int p1, .int p2] (hp σ ζ) (fun r h => r = some (.int (F_X10_at σ p0 p1 p2)) ∧ h = hp σ ζ) := by
  refine gC_of (by decide) (Nat.le_of_ble_eq_true rfl) ?_
  generalize hF : (F_X10_at σ p0 p1 p2) = fr
  rw [F_X10_at_eq] at hF
  unfold Fr_X10_at at hF
  unfold Q_X10_at at hQ
  refine g_aload_n dX10_at_0 rfl rfl rfl ?_
  refine g_iload_n dX10_at_1 rfl rfl rfl ?_
  refine g_iload_n dX10_at_2 rfl rfl rfl ?_
  have o1 := hQ.1
  replace hQ := hQ.2
  refine g_callv mv_X10_size ml_X10_158 (c_X10_size l g _ _ o1) (ho_199 _ _) rfl rfl (Nat.le_of_ble_eq_true rfl) (Nat.le_of_ble_eq_true rfl) (Nat.le_of_ble_eq_true rfl) (Nat.le_of_ble_eq_true rfl) rfl (Nat.le_of_ble_eq_true rfl) dX10_at_3 rfl (fun r2 hr2 pr2 => ?_)
  obtain ⟨rfl, rfl⟩ := pr2
  refine g_iflt (tgt := 49) dX10_at_6 (by decide) rfl (fun c3 => ?_) (fun c3 => ?_)
  · replace hF := ite_p hF c3
    try replace hQ := ite_q hQ c3
    refine g_iconst (v := (-1)) dX10_at_49 (by decide) rfl ?_
    subst hF
    exact g_iret rfl dX10_at_50 (Nat.le_of_ble_eq_true rfl) (Nat.le_of_ble_eq_true rfl) ⟨rfl, rfl⟩
  · replace hF := ite_n hF c3
    try replace hQ := ite_r hQ c3
    refine g_iload_n dX10_at_9 rfl rfl rfl ?_
    refine g_iflt (tgt := 49) dX10_at_10 (by decide) rfl (fun c4 => ?_) (fun c4 => ?_)
    · replace hF := ite_p hF c4
      try replace hQ := ite_q hQ c4
      refine g_iconst (v := (-1)) dX10_at_49 (by decide) rfl ?_
      subst hF
      exact g_iret rfl dX10_at_50 (Nat.le_of_ble_eq_true rfl) (Nat.le_of_ble_eq_true rfl) ⟨rfl, rfl⟩
    · replace hF := ite_n hF c4
      try replace hQ := ite_r hQ c4
      refine g_iload_n dX10_at_13 rfl rfl rfl ?_
      refine g_aload_n dX10_at_14 rfl rfl rfl ?_
      refine g_get gClX10 13 (by decide) fl_X10_44 dX10_at_15 (ho_199 _ _) rfl rfl ?_
      refine g_iconst (v := 4) dX10_at_18 (by decide) rfl ?_
      refine g_iload_n dX10_at_19 rfl rfl rfl ?_
      refine g_imul dX10_at_20 rfl ?_
      refine g_iload_n dX10_at_21 rfl rfl rfl ?_
      refine g_iadd dX10_at_22 rfl ?_
      have o5 := hQ.1
      replace hQ := hQ.2
      refine g_iald (ha_211 _ _) o5 dX10_at_23 rfl ?_
      refine g_icmpge (tgt := 49) dX10_at_24 (by decide) rfl (fun c6 => ?_) (fun c6 => ?_)
      · replace hF := ite_p hF c6
        try replace hQ := ite_q hQ c6
        refine g_iconst (v := (-1)) dX10_at_49 (by decide) rfl ?_
        subst hF
        exact g_iret rfl dX10_at_50 (Nat.le_of_ble_eq_true rfl) (Nat.le_of_ble_eq_true rfl) ⟨rfl, rfl⟩
      · replace hF := ite_n hF c6
        try replace hQ := ite_r hQ c6
        refine g_aload_n dX10_at_27 rfl rfl rfl ?_
        refine g_get gClX10 12 (by decide) fl_X10_41 dX10_at_28 (ho_199 _ _) rfl rfl ?_
        refine g_bipush (v := 48) dX10_at_31 (by decide) rfl ?_
        refine g_iconst (v := 4) dX10_at_33 (by decide) rfl ?_
        refine g_iload_n dX10_at_34 rfl rfl rfl ?_
        refine g_imul dX10_at_35 rfl ?_
        refine g_iload_n dX10_at_36 rfl rfl rfl ?_
        refine g_iadd dX10_at_37 rfl ?_
        refine g_imul dX10_at_38 rfl ?_
        refine g_iload_n dX10_at_39 rfl rfl rfl ?_
        refine g_iadd dX10_at_40 rfl ?_
        have o7 := hQ.1
        replace hQ := hQ.2
        refine g_bald (ha_210 _ _) o7 dX10_at_41 rfl ?_
        refine g_sipush (v := 255) dX10_at_42 (by decide) rfl ?_
        refine g_iand dX10_at_45 rfl ?_
        refine g_goto (tgt := 50) dX10_at_46 (by decide) ?_
        subst hF
        exact g_iret rfl dX10_at_50 (Nat.le_of_ble_eq_true rfl) (Nat.le_of_ble_eq_true rfl) ⟨rfl, rfl⟩
