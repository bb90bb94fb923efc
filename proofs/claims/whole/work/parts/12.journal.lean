/-! Journal, Sealer, Keys: by program -/
noncomputable def Fr_X3_beginLook (σ : gS)  : gS :=
  let s1 := (pf σ 15 5 (0 : Int32) : gS)
  if (s1 15 4) = 0 then
    let s3 := (pf s1 15 6 (0 : Int32) : gS)
    s3
  else
    let s4 := (pf s1 15 6 (1 : Int32) : gS)
    s4
noncomputable def F_X3_beginLook : gS → gS := Classical.choose (⟨Fr_X3_beginLook, rfl⟩ : ∃ f : gS → gS, f = Fr_X3_beginLook)
theorem F_X3_beginLook_eq : F_X3_beginLook = Fr_X3_beginLook := Classical.choose_spec (⟨Fr_X3_beginLook, rfl⟩ : ∃ f : gS → gS, f = Fr_X3_beginLook)
set_option maxHeartbeats 4000000 in
set_option maxRecDepth 100000 in
theorem c_X3_beginLook (l : Launch) (g : gE)  {σ : gS} {ζ : gQ}  : gC l g mX3_beginLook (rm 0 0) [.ref 15] (hp σ ζ) (fun r h => r = none ∧ h = hp (F_X3_beginLook σ ) ζ) := by
  refine gC_of (by decide) (Nat.le_of_ble_eq_true rfl) ?_
  generalize hF : (F_X3_beginLook σ ) = fr
  rw [F_X3_beginLook_eq] at hF
  unfold Fr_X3_beginLook at hF
  refine g_aload_n dX3_beginLook_0 rfl rfl rfl ?_
  refine g_iconst (v := 0) dX3_beginLook_1 (by decide) rfl ?_
  refine g_put gClX3 5 (by decide) fl_X3_31 rfl dX3_beginLook_2 (ho_15 _ _) rfl rfl (Nat.le_of_ble_eq_true rfl) po_15_5 rfl ?_
  refine g_aload_n dX3_beginLook_5 rfl rfl rfl ?_
  refine g_aload_n dX3_beginLook_6 rfl rfl rfl ?_
  refine g_get gClX3 4 (by decide) fl_X3_24 dX3_beginLook_7 (ho_15 _ _) rfl rfl ?_
  refine g_ifeq (tgt := 17) dX3_beginLook_10 (by decide) rfl (fun c2 => ?_) (fun c2 => ?_)
  · replace hF := ite_p hF c2
    refine g_iconst (v := 0) dX3_beginLook_17 (by decide) rfl ?_
    refine g_put gClX3 6 (by decide) fl_X3_27 rfl dX3_beginLook_18 (ho_15 _ _) rfl rfl (Nat.le_of_ble_eq_true rfl) po_15_6 rfl ?_
    subst hF
    exact g_vret rfl dX3_beginLook_21 (Nat.le_of_ble_eq_true rfl) (Nat.le_of_ble_eq_true rfl) ⟨rfl, rfl⟩
  · replace hF := ite_n hF c2
    refine g_iconst (v := 1) dX3_beginLook_13 (by decide) rfl ?_
    refine g_goto (tgt := 18) dX3_beginLook_14 (by decide) ?_
    refine g_put gClX3 6 (by decide) fl_X3_27 rfl dX3_beginLook_18 (ho_15 _ _) rfl rfl (Nat.le_of_ble_eq_true rfl) po_15_6 rfl ?_
    subst hF
    exact g_vret rfl dX3_beginLook_21 (Nat.le_of_ble_eq_true rfl) (Nat.le_of_ble_eq_true rfl) ⟨rfl, rfl⟩
noncomputable def Fr_X3_endLook (σ : gS)  : Int32 × gS :=
  if (σ 15 4) = (-1 : Int32) then
    let s2 := (pf σ 15 4 (-1 : Int32) : gS)
    let s3 := (pf s2 15 6 (1 : Int32) : gS)
    ((0 : Int32), s3)
  else
    let s4 := (pf σ 15 4 (-1 : Int32) : gS)
    let s5 := (pf s4 15 6 (1 : Int32) : gS)
    ((1 : Int32), s5)
noncomputable def F_X3_endLook : gS → Int32 × gS := Classical.choose (⟨Fr_X3_endLook, rfl⟩ : ∃ f : gS → Int32 × gS, f = Fr_X3_endLook)
theorem F_X3_endLook_eq : F_X3_endLook = Fr_X3_endLook := Classical.choose_spec (⟨Fr_X3_endLook, rfl⟩ : ∃ f : gS → Int32 × gS, f = Fr_X3_endLook)
set_option maxHeartbeats 4000000 in
set_option maxRecDepth 100000 in
theorem c_X3_endLook (l : Launch) (g : gE)  {σ : gS} {ζ : gQ}  : gC l g mX3_endLook (rm 0 0) [.ref 15] (hp σ ζ) (fun r h => r = some (.int (F_X3_endLook σ ).1) ∧ h = hp (F_X3_endLook σ ).2 ζ) := by
  refine gC_of (by decide) (Nat.le_of_ble_eq_true rfl) ?_
  generalize hF : (F_X3_endLook σ ) = fr
  rw [F_X3_endLook_eq] at hF
  unfold Fr_X3_endLook at hF
  refine g_aload_n dX3_endLook_0 rfl rfl rfl ?_
  refine g_get gClX3 4 (by decide) fl_X3_24 dX3_endLook_1 (ho_15 _ _) rfl rfl ?_
  refine g_iconst (v := (-1)) dX3_endLook_4 (by decide) rfl ?_
  refine g_icmpeq (tgt := 12) dX3_endLook_5 (by decide) rfl (fun c1 => ?_) (fun c1 => ?_)
  · replace hF := ite_p hF c1
    refine g_iconst (v := 0) dX3_endLook_12 (by decide) rfl ?_
    refine g_istoreL_n (L1 := [(0, _), (1, _)]) dX3_endLook_13 rfl (by decide) rfl rfl ?_
    refine g_aload_n dX3_endLook_14 rfl rfl rfl ?_
    refine g_iconst (v := (-1)) dX3_endLook_15 (by decide) rfl ?_
    refine g_put gClX3 4 (by decide) fl_X3_24 rfl dX3_endLook_16 (ho_15 _ _) rfl rfl (Nat.le_of_ble_eq_true rfl) po_15_4 rfl ?_
    refine g_aload_n dX3_endLook_19 rfl rfl rfl ?_
    refine g_iconst (v := 1) dX3_endLook_20 (by decide) rfl ?_
    refine g_put gClX3 6 (by decide) fl_X3_27 rfl dX3_endLook_21 (ho_15 _ _) rfl rfl (Nat.le_of_ble_eq_true rfl) po_15_6 rfl ?_
    refine g_iload_n dX3_endLook_24 rfl rfl rfl ?_
    subst hF
    exact g_zret rfl dX3_endLook_25 (by decide) (Nat.le_of_ble_eq_true rfl) (Nat.le_of_ble_eq_true rfl) ⟨rfl, rfl⟩
  · replace hF := ite_n hF c1
    refine g_iconst (v := 1) dX3_endLook_8 (by decide) rfl ?_
    refine g_goto (tgt := 13) dX3_endLook_9 (by decide) ?_
    refine g_istoreL_n (L1 := [(0, _), (1, _)]) dX3_endLook_13 rfl (by decide) rfl rfl ?_
    refine g_aload_n dX3_endLook_14 rfl rfl rfl ?_
    refine g_iconst (v := (-1)) dX3_endLook_15 (by decide) rfl ?_
    refine g_put gClX3 4 (by decide) fl_X3_24 rfl dX3_endLook_16 (ho_15 _ _) rfl rfl (Nat.le_of_ble_eq_true rfl) po_15_4 rfl ?_
    refine g_aload_n dX3_endLook_19 rfl rfl rfl ?_
    refine g_iconst (v := 1) dX3_endLook_20 (by decide) rfl ?_
    refine g_put gClX3 6 (by decide) fl_X3_27 rfl dX3_endLook_21 (ho_15 _ _) rfl rfl (Nat.le_of_ble_eq_true rfl) po_15_6 rfl ?_
    refine g_iload_n dX3_endLook_24 rfl rfl rfl ?_
    subst hF
    exact g_zret rfl dX3_endLook_25 (by decide) (Nat.le_of_ble_eq_true rfl) (Nat.le_of_ble_eq_true rfl) ⟨rfl, rfl⟩
noncomputable def Fr_X3_oldestNumber (σ : gS)  : Int32 :=
  ((σ 15 2) - (σ 15 1))
noncomputable def F_X3_oldestNumber : gS → Int32 := Classical.choose (⟨Fr_X3_oldestNumber, rfl⟩ : ∃ f : gS → Int32, f = Fr_X3_oldestNumber)
theorem F_X3_oldestNumber_eq : F_X3_oldestNumber = Fr_X3_oldestNumber := Classical.choose_spec (⟨Fr_X3_oldestNumber, rfl⟩ : ∃ f : gS → Int32, f = Fr_X3_oldestNumber)
set_option maxHeartbeats 4000000 in
set_option maxRecDepth 100000 in
theorem c_X3_oldestNumber (l : Launch) (g : gE)  {σ : gS} {ζ : gQ}  : gC l g mX3_oldestNumber (rm 0 0) [.ref 15] (hp σ ζ) (fun r h => r = some (.int (F_X3_oldestNumber σ )) ∧ h = hp σ ζ) := by
  refine gC_of (by decide) (Nat.le_of_ble_eq_true rfl) ?_
  generalize hF : (F_X3_oldestNumber σ ) = fr
  rw [F_X3_oldestNumber_eq] at hF
  unfold Fr_X3_oldestNumber at hF
  refine g_aload_n dX3_oldestNumber_0 rfl rfl rfl ?_
  refine g_get gClX3 2 (by decide) fl_X3_20 dX3_oldestNumber_1 (ho_15 _ _) rfl rfl ?_
  refine g_aload_n dX3_oldestNumber_4 rfl rfl rfl ?_
  refine g_get gClX3 1 (by decide) fl_X3_34 dX3_oldestNumber_5 (ho_15 _ _) rfl rfl ?_
  refine g_isub dX3_oldestNumber_8 rfl ?_
  subst hF
  exact g_iret rfl dX3_oldestNumber_9 (Nat.le_of_ble_eq_true rfl) (Nat.le_of_ble_eq_true rfl) ⟨rfl, rfl⟩
noncomputable def Fr_X3_byteOf (σ : gS) (p0 : Int32) (p1 : Int32) : Int32 :=
  if p0 < 0 then
    (-1 : Int32)
  else
    if (σ 15 1) ≤ p0 then
      (-1 : Int32)
    else
      if p1 < 0 then
        (-1 : Int32)
      else
        if p1 < (16 : Int32) then
          (F_X0_byteOf σ 16 1536 ((p0 * (16 : Int32)) + p1))
        else
          (-1 : Int32)
noncomputable def F_X3_byteOf : gS → Int32 → Int32 → Int32 := Classical.choose (⟨Fr_X3_byteOf, rfl⟩ : ∃ f : gS → Int32 → Int32 → Int32, f = Fr_X3_byteOf)
theorem F_X3_byteOf_eq : F_X3_byteOf = Fr_X3_byteOf := Classical.choose_spec (⟨Fr_X3_byteOf, rfl⟩ : ∃ f : gS → Int32 → Int32 → Int32, f = Fr_X3_byteOf)
def Q_X3_byteOf (σ : gS) (p0 : Int32) (p1 : Int32) : Prop :=
  if p0 < 0 then
    (True)
  else
    (if (σ 15 1) ≤ p0 then
      (True)
    else
      (if p1 < 0 then
        (True)
      else
        (if p1 < (16 : Int32) then
          ((Q_X0_byteOf σ 16 1536 ((p0 * (16 : Int32)) + p1)) ∧ (True))
        else
          (True))))
set_option maxHeartbeats 4000000 in
set_option maxRecDepth 100000 in
theorem c_X3_byteOf (l : Launch) (g : gE)  {σ : gS} {ζ : gQ} (p0 : Int32) (p1 : Int32) (hQ : Q_X3_byteOf σ p0 p1) : gC l g mX3_byteOf (rm 1 21) [.ref 15, .int p0, .int p1] (hp σ ζ) (fun r h => r = some (.int (F_X3_byteOf σ p0 p1)) ∧ h = hp σ ζ) := by
  refine gC_of (by decide) (Nat.le_of_ble_eq_true rfl) ?_
  generalize hF : (F_X3_byteOf σ p0 p1) = fr
  rw [F_X3_byteOf_eq] at hF
  unfold Fr_X3_byteOf at hF
  unfold Q_X3_byteOf at hQ
  refine g_iload_n dX3_byteOf_0 rfl rfl rfl ?_
  refine g_iflt (tgt := 22) dX3_byteOf_1 (by decide) rfl (fun c1 => ?_) (fun c1 => ?_)
  · replace hF := ite_p hF c1
    try replace hQ := ite_q hQ c1
    refine g_iconst (v := (-1)) dX3_byteOf_22 (by decide) rfl ?_
    subst hF
    exact g_iret rfl dX3_byteOf_23 (Nat.le_of_ble_eq_true rfl) (Nat.le_of_ble_eq_true rfl) ⟨rfl, rfl⟩
  · replace hF := ite_n hF c1
    try replace hQ := ite_r hQ c1
    refine g_iload_n dX3_byteOf_4 rfl rfl rfl ?_
    refine g_aload_n dX3_byteOf_5 rfl rfl rfl ?_
    refine g_get gClX3 1 (by decide) fl_X3_34 dX3_byteOf_6 (ho_15 _ _) rfl rfl ?_
    refine g_icmpge (tgt := 22) dX3_byteOf_9 (by decide) rfl (fun c2 => ?_) (fun c2 => ?_)
    · replace hF := ite_p hF c2
      try replace hQ := ite_q hQ c2
      refine g_iconst (v := (-1)) dX3_byteOf_22 (by decide) rfl ?_
      subst hF
      exact g_iret rfl dX3_byteOf_23 (Nat.le_of_ble_eq_true rfl) (Nat.le_of_ble_eq_true rfl) ⟨rfl, rfl⟩
    · replace hF := ite_n hF c2
      try replace hQ := ite_r hQ c2
      refine g_iload_n dX3_byteOf_12 rfl rfl rfl ?_
      refine g_iflt (tgt := 22) dX3_byteOf_13 (by decide) rfl (fun c3 => ?_) (fun c3 => ?_)
      · replace hF := ite_p hF c3
        try replace hQ := ite_q hQ c3
        refine g_iconst (v := (-1)) dX3_byteOf_22 (by decide) rfl ?_
        subst hF
        exact g_iret rfl dX3_byteOf_23 (Nat.le_of_ble_eq_true rfl) (Nat.le_of_ble_eq_true rfl) ⟨rfl, rfl⟩
      · replace hF := ite_n hF c3
        try replace hQ := ite_r hQ c3
        refine g_iload_n dX3_byteOf_16 rfl rfl rfl ?_
        refine g_bipush (v := 16) dX3_byteOf_17 (by decide) rfl ?_
        refine g_icmplt (tgt := 24) dX3_byteOf_19 (by decide) rfl (fun c4 => ?_) (fun c4 => ?_)
        · replace hF := ite_p hF c4
          try replace hQ := ite_q hQ c4
          refine g_aload_n dX3_byteOf_24 rfl rfl rfl ?_
          refine g_get gClX3 0 (by decide) fl_X3_16 dX3_byteOf_25 (ho_15 _ _) rfl rfl ?_
          refine g_iload_n dX3_byteOf_28 rfl rfl rfl ?_
          refine g_bipush (v := 16) dX3_byteOf_29 (by decide) rfl ?_
          refine g_imul dX3_byteOf_31 rfl ?_
          refine g_iload_n dX3_byteOf_32 rfl rfl rfl ?_
          refine g_iadd dX3_byteOf_33 rfl ?_
          have o5 := hQ.1
          replace hQ := hQ.2
          refine g_callv mv_X0_byteOf ml_X3_74 (c_X0_byteOf l g isB_jour _ o5) (ho_16 _ _) rfl rfl (Nat.le_of_ble_eq_true rfl) (Nat.le_of_ble_eq_true rfl) (Nat.le_of_ble_eq_true rfl) (Nat.le_of_ble_eq_true rfl) rfl (Nat.le_of_ble_eq_true rfl) dX3_byteOf_34 rfl (fun r6 hr6 pr6 => ?_)
          obtain ⟨rfl, rfl⟩ := pr6
          subst hF
          exact g_iret rfl dX3_byteOf_37 (Nat.le_of_ble_eq_true rfl) (Nat.le_of_ble_eq_true rfl) ⟨rfl, rfl⟩
        · replace hF := ite_n hF c4
          try replace hQ := ite_r hQ c4
          refine g_iconst (v := (-1)) dX3_byteOf_22 (by decide) rfl ?_
          subst hF
          exact g_iret rfl dX3_byteOf_23 (Nat.le_of_ble_eq_true rfl) (Nat.le_of_ble_eq_true rfl) ⟨rfl, rfl⟩
noncomputable def Fr_X3_append (σ : gS) (p0 : Int32) (p1 : Int32) (p2 : Int32) (p3 : Int32) (p4 : Int32) : gS :=
  let s3 := (F_X0_addFour σ 16 1536 (σ 15 2))
  let s6 := (F_X0_addFour s3 16 1536 p0)
  let s9 := (F_X0_addByte s6 16 1536 p1)
  let s12 := (F_X0_addByte s9 16 1536 p2)
  let s15 := (F_X0_addByte s12 16 1536 p3)
  let s18 := (F_X0_addByte s15 16 1536 (0 : Int32))
  let s21 := (F_X0_addFour s18 16 1536 p4)
  let s22 := (pf s21 15 2 ((s21 15 2) + (1 : Int32)) : gS)
  let s23 := (pf s22 15 1 ((s22 15 1) + (1 : Int32)) : gS)
  let s24 := (pf s23 15 5 ((s23 15 5) + (1 : Int32)) : gS)
  if (s24 15 5) = (s24 15 4) then
    let s26 := (pf s24 15 6 (0 : Int32) : gS)
    s26
  else
    let s27 := (pf s24 15 6 (1 : Int32) : gS)
    s27
noncomputable def F_X3_append : gS → Int32 → Int32 → Int32 → Int32 → Int32 → gS := Classical.choose (⟨Fr_X3_append, rfl⟩ : ∃ f : gS → Int32 → Int32 → Int32 → Int32 → Int32 → gS, f = Fr_X3_append)
theorem F_X3_append_eq : F_X3_append = Fr_X3_append := Classical.choose_spec (⟨Fr_X3_append, rfl⟩ : ∃ f : gS → Int32 → Int32 → Int32 → Int32 → Int32 → gS, f = Fr_X3_append)
def Q_X3_append (σ : gS) (p0 : Int32) (p1 : Int32) (p2 : Int32) (p3 : Int32) (p4 : Int32) : Prop :=
  (Q_X0_addFour σ 16 1536 (σ 15 2)) ∧ (let s3 := (F_X0_addFour σ 16 1536 (σ 15 2))
  (Q_X0_addFour s3 16 1536 p0) ∧ (let s6 := (F_X0_addFour s3 16 1536 p0)
  (Q_X0_addByte s6 16 1536 p1) ∧ (let s9 := (F_X0_addByte s6 16 1536 p1)
  (Q_X0_addByte s9 16 1536 p2) ∧ (let s12 := (F_X0_addByte s9 16 1536 p2)
  (Q_X0_addByte s12 16 1536 p3) ∧ (let s15 := (F_X0_addByte s12 16 1536 p3)
  (Q_X0_addByte s15 16 1536 (0 : Int32)) ∧ (let s18 := (F_X0_addByte s15 16 1536 (0 : Int32))
  (Q_X0_addFour s18 16 1536 p4) ∧ (let s21 := (F_X0_addFour s18 16 1536 p4)
  let s22 := (pf s21 15 2 ((s21 15 2) + (1 : Int32)) : gS)
  let s23 := (pf s22 15 1 ((s22 15 1) + (1 : Int32)) : gS)
  let s24 := (pf s23 15 5 ((s23 15 5) + (1 : Int32)) : gS)
  if (s24 15 5) = (s24 15 4) then
    (let s26 := (pf s24 15 6 (0 : Int32) : gS)
    True)
  else
    (let s27 := (pf s24 15 6 (1 : Int32) : gS)
    True))))))))
set_option maxHeartbeats 4000000 in
set_option maxRecDepth 100000 in
theorem c_X3_append (l : Launch) (g : gE)  {σ : gS} {ζ : gQ} (p0 : Int32) (p1 : Int32) (p2 : Int32) (p3 : Int32) (p4 : Int32) (hQ : Q_X3_append σ p0 p1 p2 p3 p4) : gC l g mX3_append (rm 1 21) [.ref 15, .int p0, .int p1, .int p2, .int p3, .int p4] (hp σ ζ) (fun r h => r = none ∧ h = hp (F_X3_append σ p0 p1 p2 p3 p4) ζ) := by
  refine gC_of (by decide) (Nat.le_of_ble_eq_true rfl) ?_
  generalize hF : (F_X3_append σ p0 p1 p2 p3 p4) = fr
  rw [F_X3_append_eq] at hF
  unfold Fr_X3_append at hF
  unfold Q_X3_append at hQ
  refine g_aload_n dX3_append_0 rfl rfl rfl ?_
  refine g_get gClX3 0 (by decide) fl_X3_16 dX3_append_1 (ho_15 _ _) rfl rfl ?_
  refine g_aload_n dX3_append_4 rfl rfl rfl ?_
  refine g_get gClX3 2 (by decide) fl_X3_20 dX3_append_5 (ho_15 _ _) rfl rfl ?_
  have o1 := hQ.1
  replace hQ := hQ.2
  refine g_callv mv_X0_addFour ml_X3_47 (c_X0_addFour l g isB_jour _ o1) (ho_16 _ _) rfl rfl (Nat.le_of_ble_eq_true rfl) (Nat.le_of_ble_eq_true rfl) (Nat.le_of_ble_eq_true rfl) (Nat.le_of_ble_eq_true rfl) rfl (Nat.le_of_ble_eq_true rfl) dX3_append_8 rfl (fun r2 hr2 pr2 => ?_)
  obtain ⟨rfl, rfl⟩ := pr2
  refine g_aload_n dX3_append_11 rfl rfl rfl ?_
  refine g_get gClX3 0 (by decide) fl_X3_16 dX3_append_12 (ho_15 _ _) rfl rfl ?_
  refine g_iload_n dX3_append_15 rfl rfl rfl ?_
  have o4 := hQ.1
  replace hQ := hQ.2
  refine g_callv mv_X0_addFour ml_X3_47 (c_X0_addFour l g isB_jour _ o4) (ho_16 _ _) rfl rfl (Nat.le_of_ble_eq_true rfl) (Nat.le_of_ble_eq_true rfl) (Nat.le_of_ble_eq_true rfl) (Nat.le_of_ble_eq_true rfl) rfl (Nat.le_of_ble_eq_true rfl) dX3_append_16 rfl (fun r5 hr5 pr5 => ?_)
  obtain ⟨rfl, rfl⟩ := pr5
  refine g_aload_n dX3_append_19 rfl rfl rfl ?_
  refine g_get gClX3 0 (by decide) fl_X3_16 dX3_append_20 (ho_15 _ _) rfl rfl ?_
  refine g_iload_n dX3_append_23 rfl rfl rfl ?_
  have o7 := hQ.1
  replace hQ := hQ.2
  refine g_callv mv_X0_addByte ml_X3_50 (c_X0_addByte l g isB_jour _ o7) (ho_16 _ _) rfl rfl (Nat.le_of_ble_eq_true rfl) (Nat.le_of_ble_eq_true rfl) (Nat.le_of_ble_eq_true rfl) (Nat.le_of_ble_eq_true rfl) rfl (Nat.le_of_ble_eq_true rfl) dX3_append_24 rfl (fun r8 hr8 pr8 => ?_)
  obtain ⟨rfl, rfl⟩ := pr8
  refine g_aload_n dX3_append_27 rfl rfl rfl ?_
  refine g_get gClX3 0 (by decide) fl_X3_16 dX3_append_28 (ho_15 _ _) rfl rfl ?_
  refine g_iload_n dX3_append_31 rfl rfl rfl ?_
  have o10 := hQ.1
  replace hQ := hQ.2
  refine g_callv mv_X0_addByte ml_X3_50 (c_X0_addByte l g isB_jour _ o10) (ho_16 _ _) rfl rfl (Nat.le_of_ble_eq_true rfl) (Nat.le_of_ble_eq_true rfl) (Nat.le_of_ble_eq_true rfl) (Nat.le_of_ble_eq_true rfl) rfl (Nat.le_of_ble_eq_true rfl) dX3_append_32 rfl (fun r11 hr11 pr11 => ?_)
  obtain ⟨rfl, rfl⟩ := pr11
  refine g_aload_n dX3_append_35 rfl rfl rfl ?_
  refine g_get gClX3 0 (by decide) fl_X3_16 dX3_append_36 (ho_15 _ _) rfl rfl ?_
  refine g_iload dX3_append_39 rfl rfl ?_
  have o13 := hQ.1
  replace hQ := hQ.2
  refine g_callv mv_X0_addByte ml_X3_50 (c_X0_addByte l g isB_jour _ o13) (ho_16 _ _) rfl rfl (Nat.le_of_ble_eq_true rfl) (Nat.le_of_ble_eq_true rfl) (Nat.le_of_ble_eq_true rfl) (Nat.le_of_ble_eq_true rfl) rfl (Nat.le_of_ble_eq_true rfl) dX3_append_41 rfl (fun r14 hr14 pr14 => ?_)
  obtain ⟨rfl, rfl⟩ := pr14
  refine g_aload_n dX3_append_44 rfl rfl rfl ?_
  refine g_get gClX3 0 (by decide) fl_X3_16 dX3_append_45 (ho_15 _ _) rfl rfl ?_
  refine g_iconst (v := 0) dX3_append_48 (by decide) rfl ?_
  have o16 := hQ.1
  replace hQ := hQ.2
  refine g_callv mv_X0_addByte ml_X3_50 (c_X0_addByte l g isB_jour _ o16) (ho_16 _ _) rfl rfl (Nat.le_of_ble_eq_true rfl) (Nat.le_of_ble_eq_true rfl) (Nat.le_of_ble_eq_true rfl) (Nat.le_of_ble_eq_true rfl) rfl (Nat.le_of_ble_eq_true rfl) dX3_append_49 rfl (fun r17 hr17 pr17 => ?_)
  obtain ⟨rfl, rfl⟩ := pr17
  refine g_aload_n dX3_append_52 rfl rfl rfl ?_
  refine g_get gClX3 0 (by decide) fl_X3_16 dX3_append_53 (ho_15 _ _) rfl rfl ?_
  refine g_iload dX3_append_56 rfl rfl ?_
  have o19 := hQ.1
  replace hQ := hQ.2
  refine g_callv mv_X0_addFour ml_X3_47 (c_X0_addFour l g isB_jour _ o19) (ho_16 _ _) rfl rfl (Nat.le_of_ble_eq_true rfl) (Nat.le_of_ble_eq_true rfl) (Nat.le_of_ble_eq_true rfl) (Nat.le_of_ble_eq_true rfl) rfl (Nat.le_of_ble_eq_true rfl) dX3_append_58 rfl (fun r20 hr20 pr20 => ?_)
  obtain ⟨rfl, rfl⟩ := pr20
  refine g_aload_n dX3_append_61 rfl rfl rfl ?_
  refine g_dup dX3_append_62 rfl rfl ?_
  refine g_get gClX3 2 (by decide) fl_X3_20 dX3_append_63 (ho_15 _ _) rfl rfl ?_
  refine g_iconst (v := 1) dX3_append_66 (by decide) rfl ?_
  refine g_iadd dX3_append_67 rfl ?_
  refine g_put gClX3 2 (by decide) fl_X3_20 rfl dX3_append_68 (ho_15 _ _) rfl rfl (Nat.le_of_ble_eq_true rfl) po_15_2 rfl ?_
  refine g_aload_n dX3_append_71 rfl rfl rfl ?_
  refine g_dup dX3_append_72 rfl rfl ?_
  refine g_get gClX3 1 (by decide) fl_X3_34 dX3_append_73 (ho_15 _ _) rfl rfl ?_
  refine g_iconst (v := 1) dX3_append_76 (by decide) rfl ?_
  refine g_iadd dX3_append_77 rfl ?_
  refine g_put gClX3 1 (by decide) fl_X3_34 rfl dX3_append_78 (ho_15 _ _) rfl rfl (Nat.le_of_ble_eq_true rfl) po_15_1 rfl ?_
  refine g_aload_n dX3_append_81 rfl rfl rfl ?_
  refine g_dup dX3_append_82 rfl rfl ?_
  refine g_get gClX3 5 (by decide) fl_X3_31 dX3_append_83 (ho_15 _ _) rfl rfl ?_
  refine g_iconst (v := 1) dX3_append_86 (by decide) rfl ?_
  refine g_iadd dX3_append_87 rfl ?_
  refine g_put gClX3 5 (by decide) fl_X3_31 rfl dX3_append_88 (ho_15 _ _) rfl rfl (Nat.le_of_ble_eq_true rfl) po_15_5 rfl ?_
  refine g_aload_n dX3_append_91 rfl rfl rfl ?_
  refine g_aload_n dX3_append_92 rfl rfl rfl ?_
  refine g_get gClX3 5 (by decide) fl_X3_31 dX3_append_93 (ho_15 _ _) rfl rfl ?_
  refine g_aload_n dX3_append_96 rfl rfl rfl ?_
  refine g_get gClX3 4 (by decide) fl_X3_24 dX3_append_97 (ho_15 _ _) rfl rfl ?_
  refine g_icmpeq (tgt := 107) dX3_append_100 (by decide) rfl (fun c25 => ?_) (fun c25 => ?_)
  · replace hF := ite_p hF c25
    try replace hQ := ite_q hQ c25
    refine g_iconst (v := 0) dX3_append_107 (by decide) rfl ?_
    refine g_put gClX3 6 (by decide) fl_X3_27 rfl dX3_append_108 (ho_15 _ _) rfl rfl (Nat.le_of_ble_eq_true rfl) po_15_6 rfl ?_
    subst hF
    exact g_vret rfl dX3_append_111 (Nat.le_of_ble_eq_true rfl) (Nat.le_of_ble_eq_true rfl) ⟨rfl, rfl⟩
  · replace hF := ite_n hF c25
    try replace hQ := ite_r hQ c25
    refine g_iconst (v := 1) dX3_append_103 (by decide) rfl ?_
    refine g_goto (tgt := 108) dX3_append_104 (by decide) ?_
    refine g_put gClX3 6 (by decide) fl_X3_27 rfl dX3_append_108 (ho_15 _ _) rfl rfl (Nat.le_of_ble_eq_true rfl) po_15_6 rfl ?_
    subst hF
    exact g_vret rfl dX3_append_111 (Nat.le_of_ble_eq_true rfl) (Nat.le_of_ble_eq_true rfl) ⟨rfl, rfl⟩
noncomputable def Fr_X3_dropOldest (σ : gS) (p0 : Int32) : gS :=
  let v1 := (if (0 : Int32) < (if (σ 15 1) < p0 then (σ 15 1) else p0) then (if (σ 15 1) < p0 then (σ 15 1) else p0) else (0 : Int32))
  let s3 := (va_up σ 17 (va_cpy (σ 17) (σ 17) (ix (v1 * (16 : Int32))) (ix (0 : Int32)) (ix ((σ 16 1) - (v1 * (16 : Int32))))) : gS)
  let s4 := (pf s3 16 1 ((s3 16 1) - (v1 * (16 : Int32))) : gS)
  let s5 := (pf s4 15 1 ((s4 15 1) - v1) : gS)
  s5
noncomputable def F_X3_dropOldest : gS → Int32 → gS := Classical.choose (⟨Fr_X3_dropOldest, rfl⟩ : ∃ f : gS → Int32 → gS, f = Fr_X3_dropOldest)
theorem F_X3_dropOldest_eq : F_X3_dropOldest = Fr_X3_dropOldest := Classical.choose_spec (⟨Fr_X3_dropOldest, rfl⟩ : ∃ f : gS → Int32 → gS, f = Fr_X3_dropOldest)
def Q_X3_dropOldest (σ : gS) (p0 : Int32) : Prop :=
  let v1 := (if (0 : Int32) < (if (σ 15 1) < p0 then (σ 15 1) else p0) then (if (σ 15 1) < p0 then (σ 15 1) else p0) else (0 : Int32))
  (¬ (v1 * (16 : Int32)) < 0 ∧ ¬ (0 : Int32) < 0 ∧ ¬ ((σ 16 1) - (v1 * (16 : Int32))) < 0 ∧ ix (v1 * (16 : Int32)) + ix ((σ 16 1) - (v1 * (16 : Int32))) ≤ 1536 ∧ ix (0 : Int32) + ix ((σ 16 1) - (v1 * (16 : Int32))) ≤ 1536) ∧ (let s3 := (va_up σ 17 (va_cpy (σ 17) (σ 17) (ix (v1 * (16 : Int32))) (ix (0 : Int32)) (ix ((σ 16 1) - (v1 * (16 : Int32))))) : gS)
  let s4 := (pf s3 16 1 ((s3 16 1) - (v1 * (16 : Int32))) : gS)
  let s5 := (pf s4 15 1 ((s4 15 1) - v1) : gS)
  True)
set_option maxHeartbeats 4000000 in
set_option maxRecDepth 100000 in
theorem c_X3_dropOldest (l : Launch) (g : gE)  {σ : gS} {ζ : gQ} (p0 : Int32) (hQ : Q_X3_dropOldest σ p0) : gC l g mX3_dropOldest (rm 1 40) [.ref 15, .int p0] (hp σ ζ) (fun r h => r = none ∧ h = hp (F_X3_dropOldest σ p0) ζ) := by
  refine gC_of (by decide) (Nat.le_of_ble_eq_true rfl) ?_
  generalize hF : (F_X3_dropOldest σ p0) = fr
  rw [F_X3_dropOldest_eq] at hF
  unfold Fr_X3_dropOldest at hF
  unfold Q_X3_dropOldest at hQ
  refine g_iconst (v := 0) dX3_dropOldest_0 (by decide) rfl ?_
  refine g_iload_n dX3_dropOldest_1 rfl rfl rfl ?_
  refine g_aload_n dX3_dropOldest_2 rfl rfl rfl ?_
  refine g_get gClX3 1 (by decide) fl_X3_34 dX3_dropOldest_3 (ho_15 _ _) rfl rfl ?_
  refine g_min ml_X3_53 st_min in_Math cd_min (Nat.le_of_ble_eq_true rfl) (Nat.le_of_ble_eq_true rfl) (Nat.le_of_ble_eq_true rfl) (Nat.le_of_ble_eq_true rfl) dX3_dropOldest_6 rfl ?_
  refine g_max ml_X3_59 st_max in_Math cd_max (Nat.le_of_ble_eq_true rfl) (Nat.le_of_ble_eq_true rfl) (Nat.le_of_ble_eq_true rfl) (Nat.le_of_ble_eq_true rfl) dX3_dropOldest_9 rfl ?_
  refine g_istoreL_n (L1 := [(0, _), (1, _), (2, _)]) dX3_dropOldest_12 rfl (by decide) rfl rfl ?_
  refine g_iload_n dX3_dropOldest_13 rfl rfl rfl ?_
  refine g_bipush (v := 16) dX3_dropOldest_14 (by decide) rfl ?_
  refine g_imul dX3_dropOldest_16 rfl ?_
  refine g_istoreL_n (L1 := [(0, _), (1, _), (2, _), (3, _)]) dX3_dropOldest_17 rfl (by decide) rfl rfl ?_
  refine g_aload_n dX3_dropOldest_18 rfl rfl rfl ?_
  refine g_get gClX3 0 (by decide) fl_X3_16 dX3_dropOldest_19 (ho_15 _ _) rfl rfl ?_
  refine g_get gClX0 0 (by decide) fl_X3_62 dX3_dropOldest_22 (ho_16 _ _) rfl rfl ?_
  refine g_iload_n dX3_dropOldest_25 rfl rfl rfl ?_
  refine g_aload_n dX3_dropOldest_26 rfl rfl rfl ?_
  refine g_get gClX3 0 (by decide) fl_X3_16 dX3_dropOldest_27 (ho_15 _ _) rfl rfl ?_
  refine g_get gClX0 0 (by decide) fl_X3_62 dX3_dropOldest_30 (ho_16 _ _) rfl rfl ?_
  refine g_iconst (v := 0) dX3_dropOldest_33 (by decide) rfl ?_
  refine g_aload_n dX3_dropOldest_34 rfl rfl rfl ?_
  refine g_get gClX3 0 (by decide) fl_X3_16 dX3_dropOldest_35 (ho_15 _ _) rfl rfl ?_
  refine g_get gClX0 1 (by decide) fl_X3_65 dX3_dropOldest_38 (ho_16 _ _) rfl rfl ?_
  refine g_iload_n dX3_dropOldest_41 rfl rfl rfl ?_
  refine g_isub dX3_dropOldest_42 rfl ?_
  have o2 := hQ.1
  replace hQ := hQ.2
  refine g_cpyb cp_X3_68 (ha_17 _ _) (ha_17 _ _) o2.1 o2.2.1 o2.2.2.1 o2.2.2.2.1 o2.2.2.2.2 (hp_put (by decide) rfl) (Nat.le_of_ble_eq_true rfl) (Nat.le_of_ble_eq_true rfl) dX3_dropOldest_43 rfl ?_
  refine g_aload_n dX3_dropOldest_46 rfl rfl rfl ?_
  refine g_get gClX3 0 (by decide) fl_X3_16 dX3_dropOldest_47 (ho_15 _ _) rfl rfl ?_
  refine g_dup dX3_dropOldest_50 rfl rfl ?_
  refine g_get gClX0 1 (by decide) fl_X3_65 dX3_dropOldest_51 (ho_16 _ _) rfl rfl ?_
  refine g_iload_n dX3_dropOldest_54 rfl rfl rfl ?_
  refine g_isub dX3_dropOldest_55 rfl ?_
  refine g_put gClX0 1 (by decide) fl_X3_65 rfl dX3_dropOldest_56 (ho_16 _ _) rfl rfl (Nat.le_of_ble_eq_true rfl) po_16_1 rfl ?_
  refine g_aload_n dX3_dropOldest_59 rfl rfl rfl ?_
  refine g_dup dX3_dropOldest_60 rfl rfl ?_
  refine g_get gClX3 1 (by decide) fl_X3_34 dX3_dropOldest_61 (ho_15 _ _) rfl rfl ?_
  refine g_iload_n dX3_dropOldest_64 rfl rfl rfl ?_
  refine g_isub dX3_dropOldest_65 rfl ?_
  refine g_put gClX3 1 (by decide) fl_X3_34 rfl dX3_dropOldest_66 (ho_15 _ _) rfl rfl (Nat.le_of_ble_eq_true rfl) po_15_1 rfl ?_
  subst hF
  exact g_vret rfl dX3_dropOldest_69 (Nat.le_of_ble_eq_true rfl) (Nat.le_of_ble_eq_true rfl) ⟨rfl, rfl⟩
noncomputable def Fr_X3_write (σ : gS) (p0 : Int32) (p1 : Int32) (p2 : Int32) (p3 : Int32) (p4 : Int32) : Int32 × gS :=
  if (σ 15 6) = 0 then
    if (σ 15 6) = 0 then
      ((0 : Int32), σ)
    else
      let s5 := (F_X3_append σ p0 p1 p2 p3 p4)
      ((1 : Int32), s5)
  else
    if (σ 15 1) < (96 : Int32) then
      if (σ 15 6) = 0 then
        ((0 : Int32), σ)
      else
        let s10 := (F_X3_append σ p0 p1 p2 p3 p4)
        ((1 : Int32), s10)
    else
      let s13 := (F_X3_dropOldest σ (8 : Int32))
      let s14 := (pf s13 15 3 (1 : Int32) : gS)
      let s17 := (F_X3_append s14 p0 (30 : Int32) (2 : Int32) (-1 : Int32) (0 : Int32))
      if (s17 15 6) = 0 then
        ((0 : Int32), s17)
      else
        let s21 := (F_X3_append s17 p0 p1 p2 p3 p4)
        ((1 : Int32), s21)
noncomputable def F_X3_write : gS → Int32 → Int32 → Int32 → Int32 → Int32 → Int32 × gS := Classical.choose (⟨Fr_X3_write, rfl⟩ : ∃ f : gS → Int32 → Int32 → Int32 → Int32 → Int32 → Int32 × gS, f = Fr_X3_write)
theorem F_X3_write_eq : F_X3_write = Fr_X3_write := Classical.choose_spec (⟨Fr_X3_write, rfl⟩ : ∃ f : gS → Int32 → Int32 → Int32 → Int32 → Int32 → Int32 × gS, f = Fr_X3_write)
def Q_X3_write (σ : gS) (p0 : Int32) (p1 : Int32) (p2 : Int32) (p3 : Int32) (p4 : Int32) : Prop :=
  if (σ 15 6) = 0 then
    (if (σ 15 6) = 0 then
      (True)
    else
      ((Q_X3_append σ p0 p1 p2 p3 p4) ∧ (let s5 := (F_X3_append σ p0 p1 p2 p3 p4)
      True)))
  else
    (if (σ 15 1) < (96 : Int32) then
      (if (σ 15 6) = 0 then
        (True)
      else
        ((Q_X3_append σ p0 p1 p2 p3 p4) ∧ (let s10 := (F_X3_append σ p0 p1 p2 p3 p4)
        True)))
    else
      ((Q_X3_dropOldest σ (8 : Int32)) ∧ (let s13 := (F_X3_dropOldest σ (8 : Int32))
      let s14 := (pf s13 15 3 (1 : Int32) : gS)
      (Q_X3_append s14 p0 (30 : Int32) (2 : Int32) (-1 : Int32) (0 : Int32)) ∧ (let s17 := (F_X3_append s14 p0 (30 : Int32) (2 : Int32) (-1 : Int32) (0 : Int32))
      if (s17 15 6) = 0 then
        (True)
      else
        ((Q_X3_append s17 p0 p1 p2 p3 p4) ∧ (let s21 := (F_X3_append s17 p0 p1 p2 p3 p4)
        True))))))
set_option maxHeartbeats 4000000 in
set_option maxRecDepth 100000 in
theorem c_X3_write (l : Launch) (g : gE)  {σ : gS} {ζ : gQ} (p0 : Int32) (p1 : Int32) (p2 : Int32) (p3 : Int32) (p4 : Int32) (hQ : Q_X3_write σ p0 p1 p2 p3 p4) : gC l g mX3_write (rm 2 63) [.ref 15, .int p0, .int p1, .int p2, .int p3, .int p4] (hp σ ζ) (fun r h => r = some (.int (F_X3_write σ p0 p1 p2 p3 p4).1) ∧ h = hp (F_X3_write σ p0 p1 p2 p3 p4).2 ζ) := by
  refine gC_of (by decide) (Nat.le_of_ble_eq_true rfl) ?_
  generalize hF : (F_X3_write σ p0 p1 p2 p3 p4) = fr
  rw [F_X3_write_eq] at hF
  unfold Fr_X3_write at hF
  unfold Q_X3_write at hQ
  refine g_aload_n dX3_write_0 rfl rfl rfl ?_
  refine g_get gClX3 6 (by decide) fl_X3_27 dX3_write_1 (ho_15 _ _) rfl rfl ?_
  refine g_ifeq (tgt := 37) dX3_write_4 (by decide) rfl (fun c1 => ?_) (fun c1 => ?_)
  · replace hF := ite_p hF c1
    try replace hQ := ite_q hQ c1
    refine g_aload_n dX3_write_37 rfl rfl rfl ?_
    refine g_get gClX3 6 (by decide) fl_X3_27 dX3_write_38 (ho_15 _ _) rfl rfl ?_
    refine g_ifne (tgt := 46) dX3_write_41 (by decide) rfl (fun c2 => ?_) (fun c2 => ?_)
    · replace hF := ite_n hF c2
      try replace hQ := ite_r hQ c2
      refine g_aload_n dX3_write_46 rfl rfl rfl ?_
      refine g_iload_n dX3_write_47 rfl rfl rfl ?_
      refine g_iload_n dX3_write_48 rfl rfl rfl ?_
      refine g_iload_n dX3_write_49 rfl rfl rfl ?_
      refine g_iload dX3_write_50 rfl rfl ?_
      refine g_iload dX3_write_52 rfl rfl ?_
      have o3 := hQ.1
      replace hQ := hQ.2
      refine g_callv mv_X3_append ml_X3_43 (c_X3_append l g _ _ _ _ _ o3) (ho_15 _ _) rfl rfl (Nat.le_of_ble_eq_true rfl) (Nat.le_of_ble_eq_true rfl) (Nat.le_of_ble_eq_true rfl) (Nat.le_of_ble_eq_true rfl) rfl (Nat.le_of_ble_eq_true rfl) dX3_write_54 rfl (fun r4 hr4 pr4 => ?_)
      obtain ⟨rfl, rfl⟩ := pr4
      refine g_iconst (v := 1) dX3_write_57 (by decide) rfl ?_
      subst hF
      exact g_zret rfl dX3_write_58 (by decide) (Nat.le_of_ble_eq_true rfl) (Nat.le_of_ble_eq_true rfl) ⟨rfl, rfl⟩
    · replace hF := ite_p hF c2
      try replace hQ := ite_q hQ c2
      refine g_iconst (v := 0) dX3_write_44 (by decide) rfl ?_
      subst hF
      exact g_zret rfl dX3_write_45 (by decide) (Nat.le_of_ble_eq_true rfl) (Nat.le_of_ble_eq_true rfl) ⟨rfl, rfl⟩
  · replace hF := ite_n hF c1
    try replace hQ := ite_r hQ c1
    refine g_aload_n dX3_write_7 rfl rfl rfl ?_
    refine g_get gClX3 1 (by decide) fl_X3_34 dX3_write_8 (ho_15 _ _) rfl rfl ?_
    refine g_bipush (v := 96) dX3_write_11 (by decide) rfl ?_
    refine g_icmplt (tgt := 37) dX3_write_13 (by decide) rfl (fun c6 => ?_) (fun c6 => ?_)
    · replace hF := ite_p hF c6
      try replace hQ := ite_q hQ c6
      refine g_aload_n dX3_write_37 rfl rfl rfl ?_
      refine g_get gClX3 6 (by decide) fl_X3_27 dX3_write_38 (ho_15 _ _) rfl rfl ?_
      refine g_ifne (tgt := 46) dX3_write_41 (by decide) rfl (fun c7 => ?_) (fun c7 => ?_)
      · replace hF := ite_n hF c7
        try replace hQ := ite_r hQ c7
        refine g_aload_n dX3_write_46 rfl rfl rfl ?_
        refine g_iload_n dX3_write_47 rfl rfl rfl ?_
        refine g_iload_n dX3_write_48 rfl rfl rfl ?_
        refine g_iload_n dX3_write_49 rfl rfl rfl ?_
        refine g_iload dX3_write_50 rfl rfl ?_
        refine g_iload dX3_write_52 rfl rfl ?_
        have o8 := hQ.1
        replace hQ := hQ.2
        refine g_callv mv_X3_append ml_X3_43 (c_X3_append l g _ _ _ _ _ o8) (ho_15 _ _) rfl rfl (Nat.le_of_ble_eq_true rfl) (Nat.le_of_ble_eq_true rfl) (Nat.le_of_ble_eq_true rfl) (Nat.le_of_ble_eq_true rfl) rfl (Nat.le_of_ble_eq_true rfl) dX3_write_54 rfl (fun r9 hr9 pr9 => ?_)
        obtain ⟨rfl, rfl⟩ := pr9
        refine g_iconst (v := 1) dX3_write_57 (by decide) rfl ?_
        subst hF
        exact g_zret rfl dX3_write_58 (by decide) (Nat.le_of_ble_eq_true rfl) (Nat.le_of_ble_eq_true rfl) ⟨rfl, rfl⟩
      · replace hF := ite_p hF c7
        try replace hQ := ite_q hQ c7
        refine g_iconst (v := 0) dX3_write_44 (by decide) rfl ?_
        subst hF
        exact g_zret rfl dX3_write_45 (by decide) (Nat.le_of_ble_eq_true rfl) (Nat.le_of_ble_eq_true rfl) ⟨rfl, rfl⟩
    · replace hF := ite_n hF c6
      try replace hQ := ite_r hQ c6
      refine g_aload_n dX3_write_16 rfl rfl rfl ?_
      refine g_bipush (v := 8) dX3_write_17 (by decide) rfl ?_
      have o11 := hQ.1
      replace hQ := hQ.2
      refine g_callv mv_X3_dropOldest ml_X3_37 (c_X3_dropOldest l g _ o11) (ho_15 _ _) rfl rfl (Nat.le_of_ble_eq_true rfl) (Nat.le_of_ble_eq_true rfl) (Nat.le_of_ble_eq_true rfl) (Nat.le_of_ble_eq_true rfl) rfl (Nat.le_of_ble_eq_true rfl) dX3_write_19 rfl (fun r12 hr12 pr12 => ?_)
      obtain ⟨rfl, rfl⟩ := pr12
      refine g_aload_n dX3_write_22 rfl rfl rfl ?_
      refine g_iconst (v := 1) dX3_write_23 (by decide) rfl ?_
      refine g_put gClX3 3 (by decide) fl_X3_40 rfl dX3_write_24 (ho_15 _ _) rfl rfl (Nat.le_of_ble_eq_true rfl) po_15_3 rfl ?_
      refine g_aload_n dX3_write_27 rfl rfl rfl ?_
      refine g_iload_n dX3_write_28 rfl rfl rfl ?_
      refine g_bipush (v := 30) dX3_write_29 (by decide) rfl ?_
      refine g_iconst (v := 2) dX3_write_31 (by decide) rfl ?_
      refine g_iconst (v := (-1)) dX3_write_32 (by decide) rfl ?_
      refine g_iconst (v := 0) dX3_write_33 (by decide) rfl ?_
      have o15 := hQ.1
      replace hQ := hQ.2
      refine g_callv mv_X3_append ml_X3_43 (c_X3_append l g _ _ _ _ _ o15) (ho_15 _ _) rfl rfl (Nat.le_of_ble_eq_true rfl) (Nat.le_of_ble_eq_true rfl) (Nat.le_of_ble_eq_true rfl) (Nat.le_of_ble_eq_true rfl) rfl (Nat.le_of_ble_eq_true rfl) dX3_write_34 rfl (fun r16 hr16 pr16 => ?_)
      obtain ⟨rfl, rfl⟩ := pr16
      refine g_aload_n dX3_write_37 rfl rfl rfl ?_
      refine g_get gClX3 6 (by decide) fl_X3_27 dX3_write_38 (ho_15 _ _) rfl rfl ?_
      refine g_ifne (tgt := 46) dX3_write_41 (by decide) rfl (fun c18 => ?_) (fun c18 => ?_)
      · replace hF := ite_n hF c18
        try replace hQ := ite_r hQ c18
        refine g_aload_n dX3_write_46 rfl rfl rfl ?_
        refine g_iload_n dX3_write_47 rfl rfl rfl ?_
        refine g_iload_n dX3_write_48 rfl rfl rfl ?_
        refine g_iload_n dX3_write_49 rfl rfl rfl ?_
        refine g_iload dX3_write_50 rfl rfl ?_
        refine g_iload dX3_write_52 rfl rfl ?_
        have o19 := hQ.1
        replace hQ := hQ.2
        refine g_callv mv_X3_append ml_X3_43 (c_X3_append l g _ _ _ _ _ o19) (ho_15 _ _) rfl rfl (Nat.le_of_ble_eq_true rfl) (Nat.le_of_ble_eq_true rfl) (Nat.le_of_ble_eq_true rfl) (Nat.le_of_ble_eq_true rfl) rfl (Nat.le_of_ble_eq_true rfl) dX3_write_54 rfl (fun r20 hr20 pr20 => ?_)
        obtain ⟨rfl, rfl⟩ := pr20
        refine g_iconst (v := 1) dX3_write_57 (by decide) rfl ?_
        subst hF
        exact g_zret rfl dX3_write_58 (by decide) (Nat.le_of_ble_eq_true rfl) (Nat.le_of_ble_eq_true rfl) ⟨rfl, rfl⟩
      · replace hF := ite_p hF c18
        try replace hQ := ite_q hQ c18
        refine g_iconst (v := 0) dX3_write_44 (by decide) rfl ?_
        subst hF
        exact g_zret rfl dX3_write_45 (by decide) (Nat.le_of_ble_eq_true rfl) (Nat.le_of_ble_eq_true rfl) ⟨rfl, rfl⟩
noncomputable def Fr_X3_clearOldest (σ : gS) (p0 : Int32) : gS :=
  let s3 := (F_X3_dropOldest σ p0)
  if (64 : Int32) ≤ (s3 15 1) then
    s3
  else
    let s5 := (pf s3 15 3 (0 : Int32) : gS)
    s5
noncomputable def F_X3_clearOldest : gS → Int32 → gS := Classical.choose (⟨Fr_X3_clearOldest, rfl⟩ : ∃ f : gS → Int32 → gS, f = Fr_X3_clearOldest)
theorem F_X3_clearOldest_eq : F_X3_clearOldest = Fr_X3_clearOldest := Classical.choose_spec (⟨Fr_X3_clearOldest, rfl⟩ : ∃ f : gS → Int32 → gS, f = Fr_X3_clearOldest)
def Q_X3_clearOldest (σ : gS) (p0 : Int32) : Prop :=
  (Q_X3_dropOldest σ p0) ∧ (let s3 := (F_X3_dropOldest σ p0)
  if (64 : Int32) ≤ (s3 15 1) then
    (True)
  else
    (let s5 := (pf s3 15 3 (0 : Int32) : gS)
    True))
set_option maxHeartbeats 4000000 in
set_option maxRecDepth 100000 in
theorem c_X3_clearOldest (l : Launch) (g : gE)  {σ : gS} {ζ : gQ} (p0 : Int32) (hQ : Q_X3_clearOldest σ p0) : gC l g mX3_clearOldest (rm 2 63) [.ref 15, .int p0] (hp σ ζ) (fun r h => r = none ∧ h = hp (F_X3_clearOldest σ p0) ζ) := by
  refine gC_of (by decide) (Nat.le_of_ble_eq_true rfl) ?_
  generalize hF : (F_X3_clearOldest σ p0) = fr
  rw [F_X3_clearOldest_eq] at hF
  unfold Fr_X3_clearOldest at hF
  unfold Q_X3_clearOldest at hQ
  refine g_aload_n dX3_clearOldest_0 rfl rfl rfl ?_
  refine g_iload_n dX3_clearOldest_1 rfl rfl rfl ?_
  have o1 := hQ.1
  replace hQ := hQ.2
  refine g_callv mv_X3_dropOldest ml_X3_37 (c_X3_dropOldest l g _ o1) (ho_15 _ _) rfl rfl (Nat.le_of_ble_eq_true rfl) (Nat.le_of_ble_eq_true rfl) (Nat.le_of_ble_eq_true rfl) (Nat.le_of_ble_eq_true rfl) rfl (Nat.le_of_ble_eq_true rfl) dX3_clearOldest_2 rfl (fun r2 hr2 pr2 => ?_)
  obtain ⟨rfl, rfl⟩ := pr2
  refine g_aload_n dX3_clearOldest_5 rfl rfl rfl ?_
  refine g_get gClX3 1 (by decide) fl_X3_34 dX3_clearOldest_6 (ho_15 _ _) rfl rfl ?_
  refine g_bipush (v := 64) dX3_clearOldest_9 (by decide) rfl ?_
  refine g_icmpge (tgt := 19) dX3_clearOldest_11 (by decide) rfl (fun c4 => ?_) (fun c4 => ?_)
  · replace hF := ite_p hF c4
    try replace hQ := ite_q hQ c4
    subst hF
    exact g_vret rfl dX3_clearOldest_19 (Nat.le_of_ble_eq_true rfl) (Nat.le_of_ble_eq_true rfl) ⟨rfl, rfl⟩
  · replace hF := ite_n hF c4
    try replace hQ := ite_r hQ c4
    refine g_aload_n dX3_clearOldest_14 rfl rfl rfl ?_
    refine g_iconst (v := 0) dX3_clearOldest_15 (by decide) rfl ?_
    refine g_put gClX3 3 (by decide) fl_X3_40 rfl dX3_clearOldest_16 (ho_15 _ _) rfl rfl (Nat.le_of_ble_eq_true rfl) po_15_3 rfl ?_
    subst hF
    exact g_vret rfl dX3_clearOldest_19 (Nat.le_of_ble_eq_true rfl) (Nat.le_of_ble_eq_true rfl) ⟨rfl, rfl⟩
noncomputable def G_X3_copyOldest_L2 (p0 : Int32) : Nat → Int32 → gS → gS
  | 0, _, σ => σ
  | n + 1, y3, σ =>
    if (p0 * (16 : Int32)) ≤ y3 then
      σ
    else
      let s6 := (F_X0_addByte σ 3 400 (F_X0_byteOf σ 16 1536 y3))
      G_X3_copyOldest_L2 p0 n (y3 + Int32.ofInt (1)) s6
def QG_X3_copyOldest_L2 (p0 : Int32) : Nat → Int32 → gS → Prop
  | 0, _, _ => False
  | n + 1, y3, σ =>
    if (p0 * (16 : Int32)) ≤ y3 then
      (True)
    else
      ((Q_X0_byteOf σ 16 1536 y3) ∧ ((Q_X0_addByte σ 3 400 (F_X0_byteOf σ 16 1536 y3)) ∧ (let s6 := (F_X0_addByte σ 3 400 (F_X0_byteOf σ 16 1536 y3))
      QG_X3_copyOldest_L2 p0 n (y3 + Int32.ofInt (1)) s6)))
set_option maxHeartbeats 4000000 in
set_option maxRecDepth 100000 in
theorem t_X3_copyOldest_L2 (l : Launch) (g : gE) {p0 : Int32} {ζ : gQ} {fr : gS} : ∀ (n : Nat) (y3 : Int32) (σ : gS), QG_X3_copyOldest_L2 p0 n y3 σ → G_X3_copyOldest_L2 p0 n y3 σ = fr → gG l g mX3_copyOldest (rm 1 21) (gZm g (rm 1 21) (fun r h => r = none ∧ h = hp fr ζ)) 2 [(0, .ref 15), (1, .int p0), (2, .ref 3), (3, .int y3)] [] (hp σ ζ) 0 0 := by
  intro n
  induction n with
  | zero => intro y3 σ hQ; exact absurd hQ (by unfold QG_X3_copyOldest_L2; exact id)
  | succ n ihL2 =>
    intro y3 σ hQ hF
    unfold G_X3_copyOldest_L2 at hF
    unfold QG_X3_copyOldest_L2 at hQ
    refine g_iload_n dX3_copyOldest_2 rfl rfl rfl ?_
    refine g_iload_n dX3_copyOldest_3 rfl rfl rfl ?_
    refine g_bipush (v := 16) dX3_copyOldest_4 (by decide) rfl ?_
    refine g_imul dX3_copyOldest_6 rfl ?_
    refine g_icmpge (tgt := 28) dX3_copyOldest_7 (by decide) rfl (fun c1 => ?_) (fun c1 => ?_)
    · replace hF := ite_p hF c1
      try replace hQ := ite_q hQ c1
      subst hF
      exact g_vret rfl dX3_copyOldest_28 (Nat.le_of_ble_eq_true rfl) (Nat.le_of_ble_eq_true rfl) ⟨rfl, rfl⟩
    · replace hF := ite_n hF c1
      try replace hQ := ite_r hQ c1
      refine g_aload_n dX3_copyOldest_10 rfl rfl rfl ?_
      refine g_aload_n dX3_copyOldest_11 rfl rfl rfl ?_
      refine g_get gClX3 0 (by decide) fl_X3_16 dX3_copyOldest_12 (ho_15 _ _) rfl rfl ?_
      refine g_iload_n dX3_copyOldest_15 rfl rfl rfl ?_
      have o2 := hQ.1
      replace hQ := hQ.2
      refine g_callv mv_X0_byteOf ml_X3_74 (c_X0_byteOf l g isB_jour _ o2) (ho_16 _ _) rfl rfl (Nat.le_of_ble_eq_true rfl) (Nat.le_of_ble_eq_true rfl) (Nat.le_of_ble_eq_true rfl) (Nat.le_of_ble_eq_true rfl) rfl (Nat.le_of_ble_eq_true rfl) dX3_copyOldest_16 rfl (fun r3 hr3 pr3 => ?_)
      obtain ⟨rfl, rfl⟩ := pr3
      have o4 := hQ.1
      replace hQ := hQ.2
      refine g_callv mv_X0_addByte ml_X3_50 (c_X0_addByte l g isB_disk _ o4) (ho_3 _ _) rfl rfl (Nat.le_of_ble_eq_true rfl) (Nat.le_of_ble_eq_true rfl) (Nat.le_of_ble_eq_true rfl) (Nat.le_of_ble_eq_true rfl) rfl (Nat.le_of_ble_eq_true rfl) dX3_copyOldest_19 rfl (fun r5 hr5 pr5 => ?_)
      obtain ⟨rfl, rfl⟩ := pr5
      refine g_iincL (L1 := [(0, _), (1, _), (2, _), (3, _)]) dX3_copyOldest_22 rfl (by decide) rfl rfl ?_
      refine g_goto (tgt := 2) dX3_copyOldest_25 (by decide) ?_
      refine g_sub [0, 1, 2, 3] rfl ?_
      exact ihL2 _ _ hQ hF
noncomputable def Fr_X3_copyOldest (σ : gS) (p0 : Int32) : gS :=
  G_X3_copyOldest_L2 p0 4000 (0 : Int32) σ
noncomputable def F_X3_copyOldest : gS → Int32 → gS := Classical.choose (⟨Fr_X3_copyOldest, rfl⟩ : ∃ f : gS → Int32 → gS, f = Fr_X3_copyOldest)
theorem F_X3_copyOldest_eq : F_X3_copyOldest = Fr_X3_copyOldest := Classical.choose_spec (⟨Fr_X3_copyOldest, rfl⟩ : ∃ f : gS → Int32 → gS, f = Fr_X3_copyOldest)
def Q_X3_copyOldest (σ : gS) (p0 : Int32) : Prop :=
  QG_X3_copyOldest_L2 p0 4000 (0 : Int32) σ
set_option maxHeartbeats 4000000 in
set_option maxRecDepth 100000 in
theorem c_X3_copyOldest (l : Launch) (g : gE)  {σ : gS} {ζ : gQ} (p0 : Int32) (hQ : Q_X3_copyOldest σ p0) : gC l g mX3_copyOldest (rm 1 21) [.ref 15, .int p0, .ref 3] (hp σ ζ) (fun r h => r = none ∧ h = hp (F_X3_copyOldest σ p0) ζ) := by
  refine gC_of (by decide) (Nat.le_of_ble_eq_true rfl) ?_
  generalize hF : (F_X3_copyOldest σ p0) = fr
  rw [F_X3_copyOldest_eq] at hF
  unfold Fr_X3_copyOldest at hF
  unfold Q_X3_copyOldest at hQ
  refine g_iconst (v := 0) dX3_copyOldest_0 (by decide) rfl ?_
  refine g_istoreL_n (L1 := [(0, _), (1, _), (2, _), (3, _)]) dX3_copyOldest_1 rfl (by decide) rfl rfl ?_
  refine g_sub [0, 1, 2, 3] rfl ?_
  exact t_X3_copyOldest_L2 l g 4000 _ _ hQ hF
noncomputable def Fr_X3_areOldest (σ : gS) (p0 : Int32) (p2 : Int32) : Int32 :=
  if (σ 3 1) = (p2 + (p0 * (16 : Int32))) then
    if (F_X0_isAlike σ 3 400 16 1536 p2 (0 : Int32) (p0 * (16 : Int32))) = 0 then
      (0 : Int32)
    else
      (1 : Int32)
  else
    (0 : Int32)
noncomputable def F_X3_areOldest : gS → Int32 → Int32 → Int32 := Classical.choose (⟨Fr_X3_areOldest, rfl⟩ : ∃ f : gS → Int32 → Int32 → Int32, f = Fr_X3_areOldest)
theorem F_X3_areOldest_eq : F_X3_areOldest = Fr_X3_areOldest := Classical.choose_spec (⟨Fr_X3_areOldest, rfl⟩ : ∃ f : gS → Int32 → Int32 → Int32, f = Fr_X3_areOldest)
def Q_X3_areOldest (σ : gS) (p0 : Int32) (p2 : Int32) : Prop :=
  if (σ 3 1) = (p2 + (p0 * (16 : Int32))) then
    ((Q_X0_isAlike σ 3 400 16 1536 p2 (0 : Int32) (p0 * (16 : Int32))) ∧ (if (F_X0_isAlike σ 3 400 16 1536 p2 (0 : Int32) (p0 * (16 : Int32))) = 0 then
      (True)
    else
      (True)))
  else
    (True)
set_option maxHeartbeats 4000000 in
set_option maxRecDepth 100000 in
theorem c_X3_areOldest (l : Launch) (g : gE)  {σ : gS} {ζ : gQ} (p0 : Int32) (p2 : Int32) (hQ : Q_X3_areOldest σ p0 p2) : gC l g mX3_areOldest (rm 2 46) [.ref 15, .int p0, .ref 3, .int p2] (hp σ ζ) (fun r h => r = some (.int (F_X3_areOldest σ p0 p2)) ∧ h = hp σ ζ) := by
  refine gC_of (by decide) (Nat.le_of_ble_eq_true rfl) ?_
  generalize hF : (F_X3_areOldest σ p0 p2) = fr
  rw [F_X3_areOldest_eq] at hF
  unfold Fr_X3_areOldest at hF
  unfold Q_X3_areOldest at hQ
  refine g_iload_n dX3_areOldest_0 rfl rfl rfl ?_
  refine g_bipush (v := 16) dX3_areOldest_1 (by decide) rfl ?_
  refine g_imul dX3_areOldest_3 rfl ?_
  refine g_istoreL (L1 := [(0, _), (1, _), (2, _), (3, _), (4, _)]) dX3_areOldest_4 (by decide) rfl rfl ?_
  refine g_aload_n dX3_areOldest_6 rfl rfl rfl ?_
  refine g_get gClX0 1 (by decide) fl_X3_65 dX3_areOldest_7 (ho_3 _ _) rfl rfl ?_
  refine g_iload_n dX3_areOldest_10 rfl rfl rfl ?_
  refine g_iload dX3_areOldest_11 rfl rfl ?_
  refine g_iadd dX3_areOldest_13 rfl ?_
  refine g_icmpne (tgt := 36) dX3_areOldest_14 (by decide) rfl (fun c1 => ?_) (fun c1 => ?_)
  · replace hF := ite_n hF c1
    try replace hQ := ite_r hQ c1
    refine g_iconst (v := 0) dX3_areOldest_36 (by decide) rfl ?_
    subst hF
    exact g_zret rfl dX3_areOldest_37 (by decide) (Nat.le_of_ble_eq_true rfl) (Nat.le_of_ble_eq_true rfl) ⟨rfl, rfl⟩
  · replace hF := ite_p hF c1
    try replace hQ := ite_q hQ c1
    refine g_aload_n dX3_areOldest_17 rfl rfl rfl ?_
    refine g_iload_n dX3_areOldest_18 rfl rfl rfl ?_
    refine g_aload_n dX3_areOldest_19 rfl rfl rfl ?_
    refine g_get gClX3 0 (by decide) fl_X3_16 dX3_areOldest_20 (ho_15 _ _) rfl rfl ?_
    refine g_iconst (v := 0) dX3_areOldest_23 (by decide) rfl ?_
    refine g_iload dX3_areOldest_24 rfl rfl ?_
    have o2 := hQ.1
    replace hQ := hQ.2
    refine g_callv mv_X0_isAlike ml_X3_78 (c_X0_isAlike l g isB_disk isB_jour _ _ _ o2) (ho_3 _ _) rfl rfl (Nat.le_of_ble_eq_true rfl) (Nat.le_of_ble_eq_true rfl) (Nat.le_of_ble_eq_true rfl) (Nat.le_of_ble_eq_true rfl) rfl (Nat.le_of_ble_eq_true rfl) dX3_areOldest_26 rfl (fun r3 hr3 pr3 => ?_)
    obtain ⟨rfl, rfl⟩ := pr3
    refine g_ifeq (tgt := 36) dX3_areOldest_29 (by decide) rfl (fun c4 => ?_) (fun c4 => ?_)
    · replace hF := ite_p hF c4
      try replace hQ := ite_q hQ c4
      refine g_iconst (v := 0) dX3_areOldest_36 (by decide) rfl ?_
      subst hF
      exact g_zret rfl dX3_areOldest_37 (by decide) (Nat.le_of_ble_eq_true rfl) (Nat.le_of_ble_eq_true rfl) ⟨rfl, rfl⟩
    · replace hF := ite_n hF c4
      try replace hQ := ite_r hQ c4
      refine g_iconst (v := 1) dX3_areOldest_32 (by decide) rfl ?_
      refine g_goto (tgt := 37) dX3_areOldest_33 (by decide) ?_
      subst hF
      exact g_zret rfl dX3_areOldest_37 (by decide) (Nat.le_of_ble_eq_true rfl) (Nat.le_of_ble_eq_true rfl) ⟨rfl, rfl⟩
