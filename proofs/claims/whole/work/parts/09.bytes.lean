/-! StationHouse$Bytes: by program (F: what a method answers and leaves; Q: that no index is wrong; c: its contract) -/
noncomputable def Fr_X0_hasRoom (σ : gS) (j N : Nat) (p0 : Int32) : Int32 :=
  if ((nI N) - (σ j 1)) < p0 then
    (0 : Int32)
  else
    (1 : Int32)
noncomputable def F_X0_hasRoom : gS → Nat → Nat → Int32 → Int32 := Classical.choose (⟨Fr_X0_hasRoom, rfl⟩ : ∃ f : gS → Nat → Nat → Int32 → Int32, f = Fr_X0_hasRoom)
theorem F_X0_hasRoom_eq : F_X0_hasRoom = Fr_X0_hasRoom := Classical.choose_spec (⟨Fr_X0_hasRoom, rfl⟩ : ∃ f : gS → Nat → Nat → Int32 → Int32, f = Fr_X0_hasRoom)
set_option maxHeartbeats 4000000 in
set_option maxRecDepth 100000 in
theorem c_X0_hasRoom (l : Launch) (g : gE) {j N : Nat} (hB : isB j N) {σ : gS} {ζ : gQ} (p0 : Int32) : gC l g mX0_hasRoom (rm 0 0) [.ref j, .int p0] (hp σ ζ) (fun r h => r = some (.int (F_X0_hasRoom σ j N p0)) ∧ h = hp σ ζ) := by
  refine gC_of (by decide) (Nat.le_of_ble_eq_true rfl) ?_
  generalize hF : (F_X0_hasRoom σ j N p0) = fr
  rw [F_X0_hasRoom_eq] at hF
  unfold Fr_X0_hasRoom at hF
  refine g_iload_n dX0_hasRoom_0 rfl rfl rfl ?_
  refine g_aload_n dX0_hasRoom_1 rfl rfl rfl ?_
  refine g_get gClX0 0 (by decide) fl_X0_15 dX0_hasRoom_2 (hB.o _ ζ) rfl rfl ?_
  refine g_alen (hB.a _ ζ) rfl dX0_hasRoom_5 rfl ?_
  refine g_aload_n dX0_hasRoom_6 rfl rfl rfl ?_
  refine g_get gClX0 1 (by decide) fl_X0_21 dX0_hasRoom_7 (hB.o _ ζ) rfl rfl ?_
  refine g_isub dX0_hasRoom_10 rfl ?_
  refine g_icmpgt (tgt := 18) dX0_hasRoom_11 (by decide) rfl (fun c1 => ?_) (fun c1 => ?_)
  · replace hF := ite_p hF c1
    refine g_iconst (v := 0) dX0_hasRoom_18 (by decide) rfl ?_
    subst hF
    exact g_zret rfl dX0_hasRoom_19 (by decide) (Nat.le_of_ble_eq_true rfl) (Nat.le_of_ble_eq_true rfl) ⟨rfl, rfl⟩
  · replace hF := ite_n hF c1
    refine g_iconst (v := 1) dX0_hasRoom_14 (by decide) rfl ?_
    refine g_goto (tgt := 19) dX0_hasRoom_15 (by decide) ?_
    subst hF
    exact g_zret rfl dX0_hasRoom_19 (by decide) (Nat.le_of_ble_eq_true rfl) (Nat.le_of_ble_eq_true rfl) ⟨rfl, rfl⟩
noncomputable def Fr_X0_addByte (σ : gS) (j N : Nat) (p0 : Int32) : gS :=
  if (σ j 1) < 0 then
    σ
  else
    if (nI N) ≤ (σ j 1) then
      σ
    else
      let s4 := (pf σ (j + 1) (ix (σ j 1)) p0.toInt8.toInt32.toInt8.toInt32 : gS)
      let s5 := (pf s4 j 1 ((s4 j 1) + (1 : Int32)) : gS)
      s5
noncomputable def F_X0_addByte : gS → Nat → Nat → Int32 → gS := Classical.choose (⟨Fr_X0_addByte, rfl⟩ : ∃ f : gS → Nat → Nat → Int32 → gS, f = Fr_X0_addByte)
theorem F_X0_addByte_eq : F_X0_addByte = Fr_X0_addByte := Classical.choose_spec (⟨Fr_X0_addByte, rfl⟩ : ∃ f : gS → Nat → Nat → Int32 → gS, f = Fr_X0_addByte)
def Q_X0_addByte (σ : gS) (j N : Nat) (p0 : Int32) : Prop :=
  if (σ j 1) < 0 then
    (True)
  else
    (if (nI N) ≤ (σ j 1) then
      (True)
    else
      (vp_in (σ j 1) N ∧ (let s4 := (pf σ (j + 1) (ix (σ j 1)) p0.toInt8.toInt32.toInt8.toInt32 : gS)
      let s5 := (pf s4 j 1 ((s4 j 1) + (1 : Int32)) : gS)
      True)))
set_option maxHeartbeats 4000000 in
set_option maxRecDepth 100000 in
theorem c_X0_addByte (l : Launch) (g : gE) {j N : Nat} (hB : isB j N) {σ : gS} {ζ : gQ} (p0 : Int32) (hQ : Q_X0_addByte σ j N p0) : gC l g mX0_addByte (rm 0 0) [.ref j, .int p0] (hp σ ζ) (fun r h => r = none ∧ h = hp (F_X0_addByte σ j N p0) ζ) := by
  refine gC_of (by decide) (Nat.le_of_ble_eq_true rfl) ?_
  generalize hF : (F_X0_addByte σ j N p0) = fr
  rw [F_X0_addByte_eq] at hF
  unfold Fr_X0_addByte at hF
  unfold Q_X0_addByte at hQ
  refine g_aload_n dX0_addByte_0 rfl rfl rfl ?_
  refine g_get gClX0 1 (by decide) fl_X0_21 dX0_addByte_1 (hB.o _ ζ) rfl rfl ?_
  refine g_iflt (tgt := 40) dX0_addByte_4 (by decide) rfl (fun c1 => ?_) (fun c1 => ?_)
  · replace hF := ite_p hF c1
    try replace hQ := ite_q hQ c1
    subst hF
    exact g_vret rfl dX0_addByte_40 (Nat.le_of_ble_eq_true rfl) (Nat.le_of_ble_eq_true rfl) ⟨rfl, rfl⟩
  · replace hF := ite_n hF c1
    try replace hQ := ite_r hQ c1
    refine g_aload_n dX0_addByte_7 rfl rfl rfl ?_
    refine g_get gClX0 1 (by decide) fl_X0_21 dX0_addByte_8 (hB.o _ ζ) rfl rfl ?_
    refine g_aload_n dX0_addByte_11 rfl rfl rfl ?_
    refine g_get gClX0 0 (by decide) fl_X0_15 dX0_addByte_12 (hB.o _ ζ) rfl rfl ?_
    refine g_alen (hB.a _ ζ) rfl dX0_addByte_15 rfl ?_
    refine g_icmpge (tgt := 40) dX0_addByte_16 (by decide) rfl (fun c2 => ?_) (fun c2 => ?_)
    · replace hF := ite_p hF c2
      try replace hQ := ite_q hQ c2
      subst hF
      exact g_vret rfl dX0_addByte_40 (Nat.le_of_ble_eq_true rfl) (Nat.le_of_ble_eq_true rfl) ⟨rfl, rfl⟩
    · replace hF := ite_n hF c2
      try replace hQ := ite_r hQ c2
      refine g_aload_n dX0_addByte_19 rfl rfl rfl ?_
      refine g_get gClX0 0 (by decide) fl_X0_15 dX0_addByte_20 (hB.o _ ζ) rfl rfl ?_
      refine g_aload_n dX0_addByte_23 rfl rfl rfl ?_
      refine g_get gClX0 1 (by decide) fl_X0_21 dX0_addByte_24 (hB.o _ ζ) rfl rfl ?_
      refine g_iload_n dX0_addByte_27 rfl rfl rfl ?_
      refine g_i2b dX0_addByte_28 rfl ?_
      have o3 := hQ.1
      replace hQ := hQ.2
      refine g_bast (hB.a _ ζ) o3 hB.pi dX0_addByte_29 rfl ?_
      refine g_aload_n dX0_addByte_30 rfl rfl rfl ?_
      refine g_dup dX0_addByte_31 rfl rfl ?_
      refine g_get gClX0 1 (by decide) fl_X0_21 dX0_addByte_32 (hB.o _ ζ) rfl rfl ?_
      refine g_iconst (v := 1) dX0_addByte_35 (by decide) rfl ?_
      refine g_iadd dX0_addByte_36 rfl ?_
      refine g_put gClX0 1 (by decide) fl_X0_21 rfl dX0_addByte_37 (hB.o _ ζ) rfl rfl (Nat.le_of_ble_eq_true rfl) hB.pfl rfl ?_
      subst hF
      exact g_vret rfl dX0_addByte_40 (Nat.le_of_ble_eq_true rfl) (Nat.le_of_ble_eq_true rfl) ⟨rfl, rfl⟩
noncomputable def Fr_X0_addTwo (σ : gS) (j N : Nat) (p0 : Int32) : gS :=
  let s3 := (F_X0_addByte σ j N (ush p0 (8 : Int32)))
  let s6 := (F_X0_addByte s3 j N p0)
  s6
noncomputable def F_X0_addTwo : gS → Nat → Nat → Int32 → gS := Classical.choose (⟨Fr_X0_addTwo, rfl⟩ : ∃ f : gS → Nat → Nat → Int32 → gS, f = Fr_X0_addTwo)
theorem F_X0_addTwo_eq : F_X0_addTwo = Fr_X0_addTwo := Classical.choose_spec (⟨Fr_X0_addTwo, rfl⟩ : ∃ f : gS → Nat → Nat → Int32 → gS, f = Fr_X0_addTwo)
def Q_X0_addTwo (σ : gS) (j N : Nat) (p0 : Int32) : Prop :=
  (Q_X0_addByte σ j N (ush p0 (8 : Int32))) ∧ (let s3 := (F_X0_addByte σ j N (ush p0 (8 : Int32)))
  (Q_X0_addByte s3 j N p0) ∧ (let s6 := (F_X0_addByte s3 j N p0)
  True))
set_option maxHeartbeats 4000000 in
set_option maxRecDepth 100000 in
theorem c_X0_addTwo (l : Launch) (g : gE) {j N : Nat} (hB : isB j N) {σ : gS} {ζ : gQ} (p0 : Int32) (hQ : Q_X0_addTwo σ j N p0) : gC l g mX0_addTwo (rm 1 21) [.ref j, .int p0] (hp σ ζ) (fun r h => r = none ∧ h = hp (F_X0_addTwo σ j N p0) ζ) := by
  refine gC_of (by decide) (Nat.le_of_ble_eq_true rfl) ?_
  generalize hF : (F_X0_addTwo σ j N p0) = fr
  rw [F_X0_addTwo_eq] at hF
  unfold Fr_X0_addTwo at hF
  unfold Q_X0_addTwo at hQ
  refine g_aload_n dX0_addTwo_0 rfl rfl rfl ?_
  refine g_iload_n dX0_addTwo_1 rfl rfl rfl ?_
  refine g_bipush (v := 8) dX0_addTwo_2 (by decide) rfl ?_
  refine g_iushr dX0_addTwo_4 rfl ?_
  have o1 := hQ.1
  replace hQ := hQ.2
  refine g_callv mv_X0_addByte ml_X0_25 (c_X0_addByte l g hB _ o1) (hB.o _ ζ) rfl rfl (Nat.le_of_ble_eq_true rfl) (Nat.le_of_ble_eq_true rfl) (Nat.le_of_ble_eq_true rfl) (Nat.le_of_ble_eq_true rfl) rfl (Nat.le_of_ble_eq_true rfl) dX0_addTwo_5 rfl (fun r2 hr2 pr2 => ?_)
  obtain ⟨rfl, rfl⟩ := pr2
  refine g_aload_n dX0_addTwo_8 rfl rfl rfl ?_
  refine g_iload_n dX0_addTwo_9 rfl rfl rfl ?_
  have o4 := hQ.1
  replace hQ := hQ.2
  refine g_callv mv_X0_addByte ml_X0_25 (c_X0_addByte l g hB _ o4) (hB.o _ ζ) rfl rfl (Nat.le_of_ble_eq_true rfl) (Nat.le_of_ble_eq_true rfl) (Nat.le_of_ble_eq_true rfl) (Nat.le_of_ble_eq_true rfl) rfl (Nat.le_of_ble_eq_true rfl) dX0_addTwo_10 rfl (fun r5 hr5 pr5 => ?_)
  obtain ⟨rfl, rfl⟩ := pr5
  subst hF
  exact g_vret rfl dX0_addTwo_13 (Nat.le_of_ble_eq_true rfl) (Nat.le_of_ble_eq_true rfl) ⟨rfl, rfl⟩
noncomputable def Fr_X0_addFour (σ : gS) (j N : Nat) (p0 : Int32) : gS :=
  if (σ j 1) < 0 then
    σ
  else
    if ((nI N) - (3 : Int32)) ≤ (σ j 1) then
      σ
    else
      let s4 := (pf σ (j + 1) (ix (σ j 1)) (ush p0 (24 : Int32)).toInt8.toInt32.toInt8.toInt32 : gS)
      let s6 := (pf s4 (j + 1) (ix ((s4 j 1) + (1 : Int32))) (ush p0 (16 : Int32)).toInt8.toInt32.toInt8.toInt32 : gS)
      let s8 := (pf s6 (j + 1) (ix ((s6 j 1) + (2 : Int32))) (ush p0 (8 : Int32)).toInt8.toInt32.toInt8.toInt32 : gS)
      let s10 := (pf s8 (j + 1) (ix ((s8 j 1) + (3 : Int32))) p0.toInt8.toInt32.toInt8.toInt32 : gS)
      let s11 := (pf s10 j 1 ((s10 j 1) + (4 : Int32)) : gS)
      s11
noncomputable def F_X0_addFour : gS → Nat → Nat → Int32 → gS := Classical.choose (⟨Fr_X0_addFour, rfl⟩ : ∃ f : gS → Nat → Nat → Int32 → gS, f = Fr_X0_addFour)
theorem F_X0_addFour_eq : F_X0_addFour = Fr_X0_addFour := Classical.choose_spec (⟨Fr_X0_addFour, rfl⟩ : ∃ f : gS → Nat → Nat → Int32 → gS, f = Fr_X0_addFour)
def Q_X0_addFour (σ : gS) (j N : Nat) (p0 : Int32) : Prop :=
  if (σ j 1) < 0 then
    (True)
  else
    (if ((nI N) - (3 : Int32)) ≤ (σ j 1) then
      (True)
    else
      (vp_in (σ j 1) N ∧ (let s4 := (pf σ (j + 1) (ix (σ j 1)) (ush p0 (24 : Int32)).toInt8.toInt32.toInt8.toInt32 : gS)
      vp_in ((s4 j 1) + (1 : Int32)) N ∧ (let s6 := (pf s4 (j + 1) (ix ((s4 j 1) + (1 : Int32))) (ush p0 (16 : Int32)).toInt8.toInt32.toInt8.toInt32 : gS)
      vp_in ((s6 j 1) + (2 : Int32)) N ∧ (let s8 := (pf s6 (j + 1) (ix ((s6 j 1) + (2 : Int32))) (ush p0 (8 : Int32)).toInt8.toInt32.toInt8.toInt32 : gS)
      vp_in ((s8 j 1) + (3 : Int32)) N ∧ (let s10 := (pf s8 (j + 1) (ix ((s8 j 1) + (3 : Int32))) p0.toInt8.toInt32.toInt8.toInt32 : gS)
      let s11 := (pf s10 j 1 ((s10 j 1) + (4 : Int32)) : gS)
      True))))))
set_option maxHeartbeats 4000000 in
set_option maxRecDepth 100000 in
theorem c_X0_addFour (l : Launch) (g : gE) {j N : Nat} (hB : isB j N) {σ : gS} {ζ : gQ} (p0 : Int32) (hQ : Q_X0_addFour σ j N p0) : gC l g mX0_addFour (rm 0 0) [.ref j, .int p0] (hp σ ζ) (fun r h => r = none ∧ h = hp (F_X0_addFour σ j N p0) ζ) := by
  refine gC_of (by decide) (Nat.le_of_ble_eq_true rfl) ?_
  generalize hF : (F_X0_addFour σ j N p0) = fr
  rw [F_X0_addFour_eq] at hF
  unfold Fr_X0_addFour at hF
  unfold Q_X0_addFour at hQ
  refine g_aload_n dX0_addFour_0 rfl rfl rfl ?_
  refine g_get gClX0 1 (by decide) fl_X0_21 dX0_addFour_1 (hB.o _ ζ) rfl rfl ?_
  refine g_iflt (tgt := 90) dX0_addFour_4 (by decide) rfl (fun c1 => ?_) (fun c1 => ?_)
  · replace hF := ite_p hF c1
    try replace hQ := ite_q hQ c1
    subst hF
    exact g_vret rfl dX0_addFour_90 (Nat.le_of_ble_eq_true rfl) (Nat.le_of_ble_eq_true rfl) ⟨rfl, rfl⟩
  · replace hF := ite_n hF c1
    try replace hQ := ite_r hQ c1
    refine g_aload_n dX0_addFour_7 rfl rfl rfl ?_
    refine g_get gClX0 1 (by decide) fl_X0_21 dX0_addFour_8 (hB.o _ ζ) rfl rfl ?_
    refine g_aload_n dX0_addFour_11 rfl rfl rfl ?_
    refine g_get gClX0 0 (by decide) fl_X0_15 dX0_addFour_12 (hB.o _ ζ) rfl rfl ?_
    refine g_alen (hB.a _ ζ) rfl dX0_addFour_15 rfl ?_
    refine g_iconst (v := 3) dX0_addFour_16 (by decide) rfl ?_
    refine g_isub dX0_addFour_17 rfl ?_
    refine g_icmpge (tgt := 90) dX0_addFour_18 (by decide) rfl (fun c2 => ?_) (fun c2 => ?_)
    · replace hF := ite_p hF c2
      try replace hQ := ite_q hQ c2
      subst hF
      exact g_vret rfl dX0_addFour_90 (Nat.le_of_ble_eq_true rfl) (Nat.le_of_ble_eq_true rfl) ⟨rfl, rfl⟩
    · replace hF := ite_n hF c2
      try replace hQ := ite_r hQ c2
      refine g_aload_n dX0_addFour_21 rfl rfl rfl ?_
      refine g_get gClX0 0 (by decide) fl_X0_15 dX0_addFour_22 (hB.o _ ζ) rfl rfl ?_
      refine g_aload_n dX0_addFour_25 rfl rfl rfl ?_
      refine g_get gClX0 1 (by decide) fl_X0_21 dX0_addFour_26 (hB.o _ ζ) rfl rfl ?_
      refine g_iload_n dX0_addFour_29 rfl rfl rfl ?_
      refine g_bipush (v := 24) dX0_addFour_30 (by decide) rfl ?_
      refine g_iushr dX0_addFour_32 rfl ?_
      refine g_i2b dX0_addFour_33 rfl ?_
      have o3 := hQ.1
      replace hQ := hQ.2
      refine g_bast (hB.a _ ζ) o3 hB.pi dX0_addFour_34 rfl ?_
      refine g_aload_n dX0_addFour_35 rfl rfl rfl ?_
      refine g_get gClX0 0 (by decide) fl_X0_15 dX0_addFour_36 (hB.o _ ζ) rfl rfl ?_
      refine g_aload_n dX0_addFour_39 rfl rfl rfl ?_
      refine g_get gClX0 1 (by decide) fl_X0_21 dX0_addFour_40 (hB.o _ ζ) rfl rfl ?_
      refine g_iconst (v := 1) dX0_addFour_43 (by decide) rfl ?_
      refine g_iadd dX0_addFour_44 rfl ?_
      refine g_iload_n dX0_addFour_45 rfl rfl rfl ?_
      refine g_bipush (v := 16) dX0_addFour_46 (by decide) rfl ?_
      refine g_iushr dX0_addFour_48 rfl ?_
      refine g_i2b dX0_addFour_49 rfl ?_
      have o5 := hQ.1
      replace hQ := hQ.2
      refine g_bast (hB.a _ ζ) o5 hB.pi dX0_addFour_50 rfl ?_
      refine g_aload_n dX0_addFour_51 rfl rfl rfl ?_
      refine g_get gClX0 0 (by decide) fl_X0_15 dX0_addFour_52 (hB.o _ ζ) rfl rfl ?_
      refine g_aload_n dX0_addFour_55 rfl rfl rfl ?_
      refine g_get gClX0 1 (by decide) fl_X0_21 dX0_addFour_56 (hB.o _ ζ) rfl rfl ?_
      refine g_iconst (v := 2) dX0_addFour_59 (by decide) rfl ?_
      refine g_iadd dX0_addFour_60 rfl ?_
      refine g_iload_n dX0_addFour_61 rfl rfl rfl ?_
      refine g_bipush (v := 8) dX0_addFour_62 (by decide) rfl ?_
      refine g_iushr dX0_addFour_64 rfl ?_
      refine g_i2b dX0_addFour_65 rfl ?_
      have o7 := hQ.1
      replace hQ := hQ.2
      refine g_bast (hB.a _ ζ) o7 hB.pi dX0_addFour_66 rfl ?_
      refine g_aload_n dX0_addFour_67 rfl rfl rfl ?_
      refine g_get gClX0 0 (by decide) fl_X0_15 dX0_addFour_68 (hB.o _ ζ) rfl rfl ?_
      refine g_aload_n dX0_addFour_71 rfl rfl rfl ?_
      refine g_get gClX0 1 (by decide) fl_X0_21 dX0_addFour_72 (hB.o _ ζ) rfl rfl ?_
      refine g_iconst (v := 3) dX0_addFour_75 (by decide) rfl ?_
      refine g_iadd dX0_addFour_76 rfl ?_
      refine g_iload_n dX0_addFour_77 rfl rfl rfl ?_
      refine g_i2b dX0_addFour_78 rfl ?_
      have o9 := hQ.1
      replace hQ := hQ.2
      refine g_bast (hB.a _ ζ) o9 hB.pi dX0_addFour_79 rfl ?_
      refine g_aload_n dX0_addFour_80 rfl rfl rfl ?_
      refine g_dup dX0_addFour_81 rfl rfl ?_
      refine g_get gClX0 1 (by decide) fl_X0_21 dX0_addFour_82 (hB.o _ ζ) rfl rfl ?_
      refine g_iconst (v := 4) dX0_addFour_85 (by decide) rfl ?_
      refine g_iadd dX0_addFour_86 rfl ?_
      refine g_put gClX0 1 (by decide) fl_X0_21 rfl dX0_addFour_87 (hB.o _ ζ) rfl rfl (Nat.le_of_ble_eq_true rfl) hB.pfl rfl ?_
      subst hF
      exact g_vret rfl dX0_addFour_90 (Nat.le_of_ble_eq_true rfl) (Nat.le_of_ble_eq_true rfl) ⟨rfl, rfl⟩
noncomputable def Fr_X0_byteOf (σ : gS) (j N : Nat) (p0 : Int32) : Int32 :=
  if p0 < 0 then
    (-1 : Int32)
  else
    if (σ j 1) ≤ p0 then
      (-1 : Int32)
    else
      if (nI N) ≤ p0 then
        (-1 : Int32)
      else
        ((σ (j + 1) (ix p0)) &&& (255 : Int32))
noncomputable def F_X0_byteOf : gS → Nat → Nat → Int32 → Int32 := Classical.choose (⟨Fr_X0_byteOf, rfl⟩ : ∃ f : gS → Nat → Nat → Int32 → Int32, f = Fr_X0_byteOf)
theorem F_X0_byteOf_eq : F_X0_byteOf = Fr_X0_byteOf := Classical.choose_spec (⟨Fr_X0_byteOf, rfl⟩ : ∃ f : gS → Nat → Nat → Int32 → Int32, f = Fr_X0_byteOf)
def Q_X0_byteOf (σ : gS) (j N : Nat) (p0 : Int32) : Prop :=
  if p0 < 0 then
    (True)
  else
    (if (σ j 1) ≤ p0 then
      (True)
    else
      (if (nI N) ≤ p0 then
        (True)
      else
        (vp_in p0 N ∧ (True))))
set_option maxHeartbeats 4000000 in
set_option maxRecDepth 100000 in
theorem c_X0_byteOf (l : Launch) (g : gE) {j N : Nat} (hB : isB j N) {σ : gS} {ζ : gQ} (p0 : Int32) (hQ : Q_X0_byteOf σ j N p0) : gC l g mX0_byteOf (rm 0 0) [.ref j, .int p0] (hp σ ζ) (fun r h => r = some (.int (F_X0_byteOf σ j N p0)) ∧ h = hp σ ζ) := by
  refine gC_of (by decide) (Nat.le_of_ble_eq_true rfl) ?_
  generalize hF : (F_X0_byteOf σ j N p0) = fr
  rw [F_X0_byteOf_eq] at hF
  unfold Fr_X0_byteOf at hF
  unfold Q_X0_byteOf at hQ
  refine g_iload_n dX0_byteOf_0 rfl rfl rfl ?_
  refine g_iflt (tgt := 34) dX0_byteOf_1 (by decide) rfl (fun c1 => ?_) (fun c1 => ?_)
  · replace hF := ite_p hF c1
    try replace hQ := ite_q hQ c1
    refine g_iconst (v := (-1)) dX0_byteOf_34 (by decide) rfl ?_
    subst hF
    exact g_iret rfl dX0_byteOf_35 (Nat.le_of_ble_eq_true rfl) (Nat.le_of_ble_eq_true rfl) ⟨rfl, rfl⟩
  · replace hF := ite_n hF c1
    try replace hQ := ite_r hQ c1
    refine g_iload_n dX0_byteOf_4 rfl rfl rfl ?_
    refine g_aload_n dX0_byteOf_5 rfl rfl rfl ?_
    refine g_get gClX0 1 (by decide) fl_X0_21 dX0_byteOf_6 (hB.o _ ζ) rfl rfl ?_
    refine g_icmpge (tgt := 34) dX0_byteOf_9 (by decide) rfl (fun c2 => ?_) (fun c2 => ?_)
    · replace hF := ite_p hF c2
      try replace hQ := ite_q hQ c2
      refine g_iconst (v := (-1)) dX0_byteOf_34 (by decide) rfl ?_
      subst hF
      exact g_iret rfl dX0_byteOf_35 (Nat.le_of_ble_eq_true rfl) (Nat.le_of_ble_eq_true rfl) ⟨rfl, rfl⟩
    · replace hF := ite_n hF c2
      try replace hQ := ite_r hQ c2
      refine g_iload_n dX0_byteOf_12 rfl rfl rfl ?_
      refine g_aload_n dX0_byteOf_13 rfl rfl rfl ?_
      refine g_get gClX0 0 (by decide) fl_X0_15 dX0_byteOf_14 (hB.o _ ζ) rfl rfl ?_
      refine g_alen (hB.a _ ζ) rfl dX0_byteOf_17 rfl ?_
      refine g_icmpge (tgt := 34) dX0_byteOf_18 (by decide) rfl (fun c3 => ?_) (fun c3 => ?_)
      · replace hF := ite_p hF c3
        try replace hQ := ite_q hQ c3
        refine g_iconst (v := (-1)) dX0_byteOf_34 (by decide) rfl ?_
        subst hF
        exact g_iret rfl dX0_byteOf_35 (Nat.le_of_ble_eq_true rfl) (Nat.le_of_ble_eq_true rfl) ⟨rfl, rfl⟩
      · replace hF := ite_n hF c3
        try replace hQ := ite_r hQ c3
        refine g_aload_n dX0_byteOf_21 rfl rfl rfl ?_
        refine g_get gClX0 0 (by decide) fl_X0_15 dX0_byteOf_22 (hB.o _ ζ) rfl rfl ?_
        refine g_iload_n dX0_byteOf_25 rfl rfl rfl ?_
        have o4 := hQ.1
        replace hQ := hQ.2
        refine g_bald (hB.a _ ζ) o4 dX0_byteOf_26 rfl ?_
        refine g_sipush (v := 255) dX0_byteOf_27 (by decide) rfl ?_
        refine g_iand dX0_byteOf_30 rfl ?_
        refine g_goto (tgt := 35) dX0_byteOf_31 (by decide) ?_
        subst hF
        exact g_iret rfl dX0_byteOf_35 (Nat.le_of_ble_eq_true rfl) (Nat.le_of_ble_eq_true rfl) ⟨rfl, rfl⟩
noncomputable def Fr_X0_twoAt (σ : gS) (j N : Nat) (p0 : Int32) : Int32 :=
  if p0 < 0 then
    (-1 : Int32)
  else
    if ((σ j 1) - (1 : Int32)) ≤ p0 then
      (-1 : Int32)
    else
      (((F_X0_byteOf σ j N p0) <<< ((8 : Int32) &&& 31)) ||| (F_X0_byteOf σ j N (p0 + (1 : Int32))))
noncomputable def F_X0_twoAt : gS → Nat → Nat → Int32 → Int32 := Classical.choose (⟨Fr_X0_twoAt, rfl⟩ : ∃ f : gS → Nat → Nat → Int32 → Int32, f = Fr_X0_twoAt)
theorem F_X0_twoAt_eq : F_X0_twoAt = Fr_X0_twoAt := Classical.choose_spec (⟨Fr_X0_twoAt, rfl⟩ : ∃ f : gS → Nat → Nat → Int32 → Int32, f = Fr_X0_twoAt)
def Q_X0_twoAt (σ : gS) (j N : Nat) (p0 : Int32) : Prop :=
  if p0 < 0 then
    (True)
  else
    (if ((σ j 1) - (1 : Int32)) ≤ p0 then
      (True)
    else
      ((Q_X0_byteOf σ j N p0) ∧ ((Q_X0_byteOf σ j N (p0 + (1 : Int32))) ∧ (True))))
set_option maxHeartbeats 4000000 in
set_option maxRecDepth 100000 in
theorem c_X0_twoAt (l : Launch) (g : gE) {j N : Nat} (hB : isB j N) {σ : gS} {ζ : gQ} (p0 : Int32) (hQ : Q_X0_twoAt σ j N p0) : gC l g mX0_twoAt (rm 1 21) [.ref j, .int p0] (hp σ ζ) (fun r h => r = some (.int (F_X0_twoAt σ j N p0)) ∧ h = hp σ ζ) := by
  refine gC_of (by decide) (Nat.le_of_ble_eq_true rfl) ?_
  generalize hF : (F_X0_twoAt σ j N p0) = fr
  rw [F_X0_twoAt_eq] at hF
  unfold Fr_X0_twoAt at hF
  unfold Q_X0_twoAt at hQ
  refine g_iload_n dX0_twoAt_0 rfl rfl rfl ?_
  refine g_iflt (tgt := 33) dX0_twoAt_1 (by decide) rfl (fun c1 => ?_) (fun c1 => ?_)
  · replace hF := ite_p hF c1
    try replace hQ := ite_q hQ c1
    refine g_iconst (v := (-1)) dX0_twoAt_33 (by decide) rfl ?_
    subst hF
    exact g_iret rfl dX0_twoAt_34 (Nat.le_of_ble_eq_true rfl) (Nat.le_of_ble_eq_true rfl) ⟨rfl, rfl⟩
  · replace hF := ite_n hF c1
    try replace hQ := ite_r hQ c1
    refine g_iload_n dX0_twoAt_4 rfl rfl rfl ?_
    refine g_aload_n dX0_twoAt_5 rfl rfl rfl ?_
    refine g_get gClX0 1 (by decide) fl_X0_21 dX0_twoAt_6 (hB.o _ ζ) rfl rfl ?_
    refine g_iconst (v := 1) dX0_twoAt_9 (by decide) rfl ?_
    refine g_isub dX0_twoAt_10 rfl ?_
    refine g_icmpge (tgt := 33) dX0_twoAt_11 (by decide) rfl (fun c2 => ?_) (fun c2 => ?_)
    · replace hF := ite_p hF c2
      try replace hQ := ite_q hQ c2
      refine g_iconst (v := (-1)) dX0_twoAt_33 (by decide) rfl ?_
      subst hF
      exact g_iret rfl dX0_twoAt_34 (Nat.le_of_ble_eq_true rfl) (Nat.le_of_ble_eq_true rfl) ⟨rfl, rfl⟩
    · replace hF := ite_n hF c2
      try replace hQ := ite_r hQ c2
      refine g_aload_n dX0_twoAt_14 rfl rfl rfl ?_
      refine g_iload_n dX0_twoAt_15 rfl rfl rfl ?_
      have o3 := hQ.1
      replace hQ := hQ.2
      refine g_callv mv_X0_byteOf ml_X0_29 (c_X0_byteOf l g hB _ o3) (hB.o _ ζ) rfl rfl (Nat.le_of_ble_eq_true rfl) (Nat.le_of_ble_eq_true rfl) (Nat.le_of_ble_eq_true rfl) (Nat.le_of_ble_eq_true rfl) rfl (Nat.le_of_ble_eq_true rfl) dX0_twoAt_16 rfl (fun r4 hr4 pr4 => ?_)
      obtain ⟨rfl, rfl⟩ := pr4
      refine g_bipush (v := 8) dX0_twoAt_19 (by decide) rfl ?_
      refine g_ishl dX0_twoAt_21 rfl ?_
      refine g_aload_n dX0_twoAt_22 rfl rfl rfl ?_
      refine g_iload_n dX0_twoAt_23 rfl rfl rfl ?_
      refine g_iconst (v := 1) dX0_twoAt_24 (by decide) rfl ?_
      refine g_iadd dX0_twoAt_25 rfl ?_
      have o5 := hQ.1
      replace hQ := hQ.2
      refine g_callv mv_X0_byteOf ml_X0_29 (c_X0_byteOf l g hB _ o5) (hB.o _ ζ) rfl rfl (Nat.le_of_ble_eq_true rfl) (Nat.le_of_ble_eq_true rfl) (Nat.le_of_ble_eq_true rfl) (Nat.le_of_ble_eq_true rfl) rfl (Nat.le_of_ble_eq_true rfl) dX0_twoAt_26 rfl (fun r6 hr6 pr6 => ?_)
      obtain ⟨rfl, rfl⟩ := pr6
      refine g_ior dX0_twoAt_29 rfl ?_
      refine g_goto (tgt := 34) dX0_twoAt_30 (by decide) ?_
      subst hF
      exact g_iret rfl dX0_twoAt_34 (Nat.le_of_ble_eq_true rfl) (Nat.le_of_ble_eq_true rfl) ⟨rfl, rfl⟩
noncomputable def Fr_X0_fourAt (σ : gS) (j N : Nat) (p0 : Int32) : Int32 :=
  if p0 < 0 then
    (-1 : Int32)
  else
    if ((σ j 1) - (3 : Int32)) ≤ p0 then
      (-1 : Int32)
    else
      (((F_X0_twoAt σ j N p0) <<< ((16 : Int32) &&& 31)) ||| (F_X0_twoAt σ j N (p0 + (2 : Int32))))
noncomputable def F_X0_fourAt : gS → Nat → Nat → Int32 → Int32 := Classical.choose (⟨Fr_X0_fourAt, rfl⟩ : ∃ f : gS → Nat → Nat → Int32 → Int32, f = Fr_X0_fourAt)
theorem F_X0_fourAt_eq : F_X0_fourAt = Fr_X0_fourAt := Classical.choose_spec (⟨Fr_X0_fourAt, rfl⟩ : ∃ f : gS → Nat → Nat → Int32 → Int32, f = Fr_X0_fourAt)
def Q_X0_fourAt (σ : gS) (j N : Nat) (p0 : Int32) : Prop :=
  if p0 < 0 then
    (True)
  else
    (if ((σ j 1) - (3 : Int32)) ≤ p0 then
      (True)
    else
      ((Q_X0_twoAt σ j N p0) ∧ ((Q_X0_twoAt σ j N (p0 + (2 : Int32))) ∧ (True))))
set_option maxHeartbeats 4000000 in
set_option maxRecDepth 100000 in
theorem c_X0_fourAt (l : Launch) (g : gE) {j N : Nat} (hB : isB j N) {σ : gS} {ζ : gQ} (p0 : Int32) (hQ : Q_X0_fourAt σ j N p0) : gC l g mX0_fourAt (rm 2 42) [.ref j, .int p0] (hp σ ζ) (fun r h => r = some (.int (F_X0_fourAt σ j N p0)) ∧ h = hp σ ζ) := by
  refine gC_of (by decide) (Nat.le_of_ble_eq_true rfl) ?_
  generalize hF : (F_X0_fourAt σ j N p0) = fr
  rw [F_X0_fourAt_eq] at hF
  unfold Fr_X0_fourAt at hF
  unfold Q_X0_fourAt at hQ
  refine g_iload_n dX0_fourAt_0 rfl rfl rfl ?_
  refine g_iflt (tgt := 33) dX0_fourAt_1 (by decide) rfl (fun c1 => ?_) (fun c1 => ?_)
  · replace hF := ite_p hF c1
    try replace hQ := ite_q hQ c1
    refine g_iconst (v := (-1)) dX0_fourAt_33 (by decide) rfl ?_
    subst hF
    exact g_iret rfl dX0_fourAt_34 (Nat.le_of_ble_eq_true rfl) (Nat.le_of_ble_eq_true rfl) ⟨rfl, rfl⟩
  · replace hF := ite_n hF c1
    try replace hQ := ite_r hQ c1
    refine g_iload_n dX0_fourAt_4 rfl rfl rfl ?_
    refine g_aload_n dX0_fourAt_5 rfl rfl rfl ?_
    refine g_get gClX0 1 (by decide) fl_X0_21 dX0_fourAt_6 (hB.o _ ζ) rfl rfl ?_
    refine g_iconst (v := 3) dX0_fourAt_9 (by decide) rfl ?_
    refine g_isub dX0_fourAt_10 rfl ?_
    refine g_icmpge (tgt := 33) dX0_fourAt_11 (by decide) rfl (fun c2 => ?_) (fun c2 => ?_)
    · replace hF := ite_p hF c2
      try replace hQ := ite_q hQ c2
      refine g_iconst (v := (-1)) dX0_fourAt_33 (by decide) rfl ?_
      subst hF
      exact g_iret rfl dX0_fourAt_34 (Nat.le_of_ble_eq_true rfl) (Nat.le_of_ble_eq_true rfl) ⟨rfl, rfl⟩
    · replace hF := ite_n hF c2
      try replace hQ := ite_r hQ c2
      refine g_aload_n dX0_fourAt_14 rfl rfl rfl ?_
      refine g_iload_n dX0_fourAt_15 rfl rfl rfl ?_
      have o3 := hQ.1
      replace hQ := hQ.2
      refine g_callv mv_X0_twoAt ml_X0_33 (c_X0_twoAt l g hB _ o3) (hB.o _ ζ) rfl rfl (Nat.le_of_ble_eq_true rfl) (Nat.le_of_ble_eq_true rfl) (Nat.le_of_ble_eq_true rfl) (Nat.le_of_ble_eq_true rfl) rfl (Nat.le_of_ble_eq_true rfl) dX0_fourAt_16 rfl (fun r4 hr4 pr4 => ?_)
      obtain ⟨rfl, rfl⟩ := pr4
      refine g_bipush (v := 16) dX0_fourAt_19 (by decide) rfl ?_
      refine g_ishl dX0_fourAt_21 rfl ?_
      refine g_aload_n dX0_fourAt_22 rfl rfl rfl ?_
      refine g_iload_n dX0_fourAt_23 rfl rfl rfl ?_
      refine g_iconst (v := 2) dX0_fourAt_24 (by decide) rfl ?_
      refine g_iadd dX0_fourAt_25 rfl ?_
      have o5 := hQ.1
      replace hQ := hQ.2
      refine g_callv mv_X0_twoAt ml_X0_33 (c_X0_twoAt l g hB _ o5) (hB.o _ ζ) rfl rfl (Nat.le_of_ble_eq_true rfl) (Nat.le_of_ble_eq_true rfl) (Nat.le_of_ble_eq_true rfl) (Nat.le_of_ble_eq_true rfl) rfl (Nat.le_of_ble_eq_true rfl) dX0_fourAt_26 rfl (fun r6 hr6 pr6 => ?_)
      obtain ⟨rfl, rfl⟩ := pr6
      refine g_ior dX0_fourAt_29 rfl ?_
      refine g_goto (tgt := 34) dX0_fourAt_30 (by decide) ?_
      subst hF
      exact g_iret rfl dX0_fourAt_34 (Nat.le_of_ble_eq_true rfl) (Nat.le_of_ble_eq_true rfl) ⟨rfl, rfl⟩
noncomputable def Fr_X0_copyFrom (σ : gS) (j N j2 N2 : Nat)  : gS :=
  let s1 := (pf σ j 1 (if (nI N) < (σ j2 1) then (nI N) else (σ j2 1)) : gS)
  let s3 := (va_up s1 (j + 1) (va_cpy (s1 (j2 + 1)) (s1 (j + 1)) (ix (0 : Int32)) (ix (0 : Int32)) (ix (s1 j 1))) : gS)
  s3
noncomputable def F_X0_copyFrom : gS → Nat → Nat → Nat → Nat → gS := Classical.choose (⟨Fr_X0_copyFrom, rfl⟩ : ∃ f : gS → Nat → Nat → Nat → Nat → gS, f = Fr_X0_copyFrom)
theorem F_X0_copyFrom_eq : F_X0_copyFrom = Fr_X0_copyFrom := Classical.choose_spec (⟨Fr_X0_copyFrom, rfl⟩ : ∃ f : gS → Nat → Nat → Nat → Nat → gS, f = Fr_X0_copyFrom)
def Q_X0_copyFrom (σ : gS) (j N j2 N2 : Nat)  : Prop :=
  let s1 := (pf σ j 1 (if (nI N) < (σ j2 1) then (nI N) else (σ j2 1)) : gS)
  (¬ (0 : Int32) < 0 ∧ ¬ (0 : Int32) < 0 ∧ ¬ (s1 j 1) < 0 ∧ ix (0 : Int32) + ix (s1 j 1) ≤ N2 ∧ ix (0 : Int32) + ix (s1 j 1) ≤ N) ∧ (let s3 := (va_up s1 (j + 1) (va_cpy (s1 (j2 + 1)) (s1 (j + 1)) (ix (0 : Int32)) (ix (0 : Int32)) (ix (s1 j 1))) : gS)
  True)
set_option maxHeartbeats 4000000 in
set_option maxRecDepth 100000 in
theorem c_X0_copyFrom (l : Launch) (g : gE) {j N j2 N2 : Nat} (hB : isB j N) (hB2 : isB j2 N2) {σ : gS} {ζ : gQ}  (hQ : Q_X0_copyFrom σ j N j2 N2 ) : gC l g mX0_copyFrom (rm 1 40) [.ref j, .ref j2] (hp σ ζ) (fun r h => r = none ∧ h = hp (F_X0_copyFrom σ j N j2 N2 ) ζ) := by
  refine gC_of (by decide) (Nat.le_of_ble_eq_true rfl) ?_
  generalize hF : (F_X0_copyFrom σ j N j2 N2 ) = fr
  rw [F_X0_copyFrom_eq] at hF
  unfold Fr_X0_copyFrom at hF
  unfold Q_X0_copyFrom at hQ
  refine g_aload_n dX0_copyFrom_0 rfl rfl rfl ?_
  refine g_aload_n dX0_copyFrom_1 rfl rfl rfl ?_
  refine g_get gClX0 1 (by decide) fl_X0_21 dX0_copyFrom_2 (hB2.o _ ζ) rfl rfl ?_
  refine g_aload_n dX0_copyFrom_5 rfl rfl rfl ?_
  refine g_get gClX0 0 (by decide) fl_X0_15 dX0_copyFrom_6 (hB.o _ ζ) rfl rfl ?_
  refine g_alen (hB.a _ ζ) rfl dX0_copyFrom_9 rfl ?_
  refine g_min ml_X0_36 st_min in_Math cd_min (Nat.le_of_ble_eq_true rfl) (Nat.le_of_ble_eq_true rfl) (Nat.le_of_ble_eq_true rfl) (Nat.le_of_ble_eq_true rfl) dX0_copyFrom_10 rfl ?_
  refine g_put gClX0 1 (by decide) fl_X0_21 rfl dX0_copyFrom_13 (hB.o _ ζ) rfl rfl (Nat.le_of_ble_eq_true rfl) hB.pfl rfl ?_
  refine g_aload_n dX0_copyFrom_16 rfl rfl rfl ?_
  refine g_get gClX0 0 (by decide) fl_X0_15 dX0_copyFrom_17 (hB2.o _ ζ) rfl rfl ?_
  refine g_iconst (v := 0) dX0_copyFrom_20 (by decide) rfl ?_
  refine g_aload_n dX0_copyFrom_21 rfl rfl rfl ?_
  refine g_get gClX0 0 (by decide) fl_X0_15 dX0_copyFrom_22 (hB.o _ ζ) rfl rfl ?_
  refine g_iconst (v := 0) dX0_copyFrom_25 (by decide) rfl ?_
  refine g_aload_n dX0_copyFrom_26 rfl rfl rfl ?_
  refine g_get gClX0 1 (by decide) fl_X0_21 dX0_copyFrom_27 (hB.o _ ζ) rfl rfl ?_
  have o2 := hQ.1
  replace hQ := hQ.2
  refine g_cpyb cp_X0_39 (hB2.a _ ζ) (hB.a _ ζ) o2.1 o2.2.1 o2.2.2.1 o2.2.2.2.1 o2.2.2.2.2 hB.pc (Nat.le_of_ble_eq_true rfl) (Nat.le_of_ble_eq_true rfl) dX0_copyFrom_30 rfl ?_
  subst hF
  exact g_vret rfl dX0_copyFrom_33 (Nat.le_of_ble_eq_true rfl) (Nat.le_of_ble_eq_true rfl) ⟨rfl, rfl⟩
