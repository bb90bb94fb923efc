
/-! Card, Sight: by program -/
noncomputable def Fr_X9_isCard (p0 : Int32) : Int32 :=
  if p0 < 0 then
    (0 : Int32)
  else
    if (16 : Int32) ≤ p0 then
      (0 : Int32)
    else
      (1 : Int32)
noncomputable def F_X9_isCard : Int32 → Int32 := Classical.choose (⟨Fr_X9_isCard, rfl⟩ : ∃ f : Int32 → Int32, f = Fr_X9_isCard)
theorem F_X9_isCard_eq : F_X9_isCard = Fr_X9_isCard := Classical.choose_spec (⟨Fr_X9_isCard, rfl⟩ : ∃ f : Int32 → Int32, f = Fr_X9_isCard)
set_option maxHeartbeats 4000000 in
set_option maxRecDepth 100000 in
theorem c_X9_isCard (l : Launch) (g : gE)  {σ : gS} {ζ : gQ} (p0 : Int32) : gC l g mX9_isCard (rm 0 0) [.int p0] (hp σ ζ) (fun r h => r = some (.int (F_X9_isCard p0)) ∧ h = hp σ ζ) := by
  refine gC_of (by decide) (Nat.le_of_ble_eq_true rfl) ?_
  generalize hF : (F_X9_isCard p0) = fr
  rw [F_X9_isCard_eq] at hF
  unfold Fr_X9_isCard at hF
  refine g_iload_n dX9_isCard_0 rfl rfl rfl ?_
  refine g_iflt (tgt := 14) dX9_isCard_1 (by decide) rfl (fun c1 => ?_) (fun c1 => ?_)
  · replace hF := ite_p hF c1
    refine g_iconst (v := 0) dX9_isCard_14 (by decide) rfl ?_
    subst hF
    exact g_zret rfl dX9_isCard_15 (by decide) (Nat.le_of_ble_eq_true rfl) (Nat.le_of_ble_eq_true rfl) ⟨rfl, rfl⟩
  · replace hF := ite_n hF c1
    refine g_iload_n dX9_isCard_4 rfl rfl rfl ?_
    refine g_bipush (v := 16) dX9_isCard_5 (by decide) rfl ?_
    refine g_icmpge (tgt := 14) dX9_isCard_7 (by decide) rfl (fun c2 => ?_) (fun c2 => ?_)
    · replace hF := ite_p hF c2
      refine g_iconst (v := 0) dX9_isCard_14 (by decide) rfl ?_
      subst hF
      exact g_zret rfl dX9_isCard_15 (by decide) (Nat.le_of_ble_eq_true rfl) (Nat.le_of_ble_eq_true rfl) ⟨rfl, rfl⟩
    · replace hF := ite_n hF c2
      refine g_iconst (v := 1) dX9_isCard_10 (by decide) rfl ?_
      refine g_goto (tgt := 15) dX9_isCard_11 (by decide) ?_
      subst hF
      exact g_zret rfl dX9_isCard_15 (by decide) (Nat.le_of_ble_eq_true rfl) (Nat.le_of_ble_eq_true rfl) ⟨rfl, rfl⟩
noncomputable def Fr_X9_isPlace (p0 : Int32) : Int32 :=
  if p0 < 0 then
    (0 : Int32)
  else
    if (4 : Int32) ≤ p0 then
      (0 : Int32)
    else
      (1 : Int32)
noncomputable def F_X9_isPlace : Int32 → Int32 := Classical.choose (⟨Fr_X9_isPlace, rfl⟩ : ∃ f : Int32 → Int32, f = Fr_X9_isPlace)
theorem F_X9_isPlace_eq : F_X9_isPlace = Fr_X9_isPlace := Classical.choose_spec (⟨Fr_X9_isPlace, rfl⟩ : ∃ f : Int32 → Int32, f = Fr_X9_isPlace)
set_option maxHeartbeats 4000000 in
set_option maxRecDepth 100000 in
theorem c_X9_isPlace (l : Launch) (g : gE)  {σ : gS} {ζ : gQ} (p0 : Int32) : gC l g mX9_isPlace (rm 0 0) [.int p0] (hp σ ζ) (fun r h => r = some (.int (F_X9_isPlace p0)) ∧ h = hp σ ζ) := by
  refine gC_of (by decide) (Nat.le_of_ble_eq_true rfl) ?_
  generalize hF : (F_X9_isPlace p0) = fr
  rw [F_X9_isPlace_eq] at hF
  unfold Fr_X9_isPlace at hF
  refine g_iload_n dX9_isPlace_0 rfl rfl rfl ?_
  refine g_iflt (tgt := 13) dX9_isPlace_1 (by decide) rfl (fun c1 => ?_) (fun c1 => ?_)
  · replace hF := ite_p hF c1
    refine g_iconst (v := 0) dX9_isPlace_13 (by decide) rfl ?_
    subst hF
    exact g_zret rfl dX9_isPlace_14 (by decide) (Nat.le_of_ble_eq_true rfl) (Nat.le_of_ble_eq_true rfl) ⟨rfl, rfl⟩
  · replace hF := ite_n hF c1
    refine g_iload_n dX9_isPlace_4 rfl rfl rfl ?_
    refine g_iconst (v := 4) dX9_isPlace_5 (by decide) rfl ?_
    refine g_icmpge (tgt := 13) dX9_isPlace_6 (by decide) rfl (fun c2 => ?_) (fun c2 => ?_)
    · replace hF := ite_p hF c2
      refine g_iconst (v := 0) dX9_isPlace_13 (by decide) rfl ?_
      subst hF
      exact g_zret rfl dX9_isPlace_14 (by decide) (Nat.le_of_ble_eq_true rfl) (Nat.le_of_ble_eq_true rfl) ⟨rfl, rfl⟩
    · replace hF := ite_n hF c2
      refine g_iconst (v := 1) dX9_isPlace_9 (by decide) rfl ?_
      refine g_goto (tgt := 14) dX9_isPlace_10 (by decide) ?_
      subst hF
      exact g_zret rfl dX9_isPlace_14 (by decide) (Nat.le_of_ble_eq_true rfl) (Nat.le_of_ble_eq_true rfl) ⟨rfl, rfl⟩
noncomputable def Fr_X1_emptyRow (σ : gS) (c : Nat) (p0 : Int32) : gS :=
  let s4 := (pf σ ((23 + 11 * c) + 2) (ix p0) (0 : Int32) : gS)
  let s6 := (pf s4 (23 + 11 * c + 1 + 2 + 2 * ix p0) 1 (0 : Int32) : gS)
  s6
noncomputable def F_X1_emptyRow : gS → Nat → Int32 → gS := Classical.choose (⟨Fr_X1_emptyRow, rfl⟩ : ∃ f : gS → Nat → Int32 → gS, f = Fr_X1_emptyRow)
theorem F_X1_emptyRow_eq : F_X1_emptyRow = Fr_X1_emptyRow := Classical.choose_spec (⟨Fr_X1_emptyRow, rfl⟩ : ∃ f : gS → Nat → Int32 → gS, f = Fr_X1_emptyRow)
def Q_X1_emptyRow (σ : gS) (c : Nat) (p0 : Int32) : Prop :=
  (¬ (F_X9_isPlace p0) = 0) ∧ (vp_in p0 4 ∧ (let s4 := (pf σ ((23 + 11 * c) + 2) (ix p0) (0 : Int32) : gS)
  vp_in p0 4 ∧ (let s6 := (pf s4 (23 + 11 * c + 1 + 2 + 2 * ix p0) 1 (0 : Int32) : gS)
  vp_in p0 4 ∧ (True))))
set_option maxHeartbeats 4000000 in
set_option maxRecDepth 100000 in
theorem c_X1_emptyRow (l : Launch) (g : gE) {c : Nat} (hc : c < 16) {σ : gS} {ζ : gQ} (p0 : Int32) (hQ : Q_X1_emptyRow σ c p0) : gC l g mX1_emptyRow (rm 1 20) [.ref (23 + 11 * c), .int p0] (hp σ ζ) (fun r h => r = some (.ref (23 + 11 * c + 1 + 2 + 2 * ix p0)) ∧ h = hp (F_X1_emptyRow σ c p0) ζ) := by
  refine gC_of (by decide) (Nat.le_of_ble_eq_true rfl) ?_
  generalize hF : (F_X1_emptyRow σ c p0) = fr
  rw [F_X1_emptyRow_eq] at hF
  unfold Fr_X1_emptyRow at hF
  unfold Q_X1_emptyRow at hQ
  refine g_iload_n dX1_emptyRow_0 rfl rfl rfl ?_
  refine g_callsN mt_X9_isPlace ms_X9_isPlace (j := 8) rfl (c_X9_isPlace l g _) rfl (Nat.le_of_ble_eq_true rfl) (Nat.le_of_ble_eq_true rfl) (Nat.le_of_ble_eq_true rfl) (Nat.le_of_ble_eq_true rfl) rfl (Nat.le_of_ble_eq_true rfl) dX1_emptyRow_1 rfl (fun r1 hr1 pr1 => ?_)
  obtain ⟨rfl, rfl⟩ := pr1
  have o2 := hQ.1
  replace hQ := hQ.2
  refine g_ifeq (tgt := 11) dX1_emptyRow_4 (by decide) rfl (fun z => absurd z o2) (fun _ => ?_)
  refine g_iload_n dX1_emptyRow_7 rfl rfl rfl ?_
  refine g_goto (tgt := 12) dX1_emptyRow_8 (by decide) ?_
  refine g_istoreL_n (L1 := [(0, _), (1, _), (2, _)]) dX1_emptyRow_12 rfl (by decide) rfl rfl ?_
  refine g_aload_n dX1_emptyRow_13 rfl rfl rfl ?_
  refine g_get gClX1 1 (by decide) fl_X1_17 dX1_emptyRow_14 (card_o hc) rfl rfl ?_
  refine g_iload_n dX1_emptyRow_17 rfl rfl rfl ?_
  refine g_iconst (v := 0) dX1_emptyRow_18 (by decide) rfl ?_
  have o3 := hQ.1
  replace hQ := hQ.2
  refine g_iast (card_s hc) o3 (card_q hc) dX1_emptyRow_19 rfl ?_
  refine g_aload_n dX1_emptyRow_20 rfl rfl rfl ?_
  refine g_get gClX1 0 (by decide) fl_X1_11 dX1_emptyRow_21 (card_o hc) rfl rfl ?_
  refine g_iload_n dX1_emptyRow_24 rfl rfl rfl ?_
  have o5 := hQ.1
  replace hQ := hQ.2
  refine g_aald4 (card_r hc) o5 (aa4 o5) dX1_emptyRow_25 rfl ?_
  refine g_iconst (v := 0) dX1_emptyRow_26 (by decide) rfl ?_
  refine g_put gClX0 1 (by decide) fl_X1_40 rfl dX1_emptyRow_27 ((isB_rw hc (vin_lt o5)).o _ ζ) rfl rfl (Nat.le_of_ble_eq_true rfl) (isB_rw hc (vin_lt o5)).pfl rfl ?_
  refine g_aload_n dX1_emptyRow_30 rfl rfl rfl ?_
  refine g_get gClX1 0 (by decide) fl_X1_11 dX1_emptyRow_31 (card_o hc) rfl rfl ?_
  refine g_iload_n dX1_emptyRow_34 rfl rfl rfl ?_
  have o7 := hQ.1
  replace hQ := hQ.2
  refine g_aald4 (card_r hc) o7 (aa4 o7) dX1_emptyRow_35 rfl ?_
  subst hF
  exact g_aret rfl dX1_emptyRow_36 (Nat.le_of_ble_eq_true rfl) (Nat.le_of_ble_eq_true rfl) ⟨rfl, rfl⟩
noncomputable def Fr_X1_replaceRow (σ : gS) (c : Nat) (p0 : Int32) : gS :=
  let s4 := (F_X1_emptyRow σ c p0)
  let s7 := (F_X0_copyFrom s4 (23 + 11 * c + 1 + 2 + 2 * ix p0) 48 1 400)
  s7
noncomputable def F_X1_replaceRow : gS → Nat → Int32 → gS := Classical.choose (⟨Fr_X1_replaceRow, rfl⟩ : ∃ f : gS → Nat → Int32 → gS, f = Fr_X1_replaceRow)
theorem F_X1_replaceRow_eq : F_X1_replaceRow = Fr_X1_replaceRow := Classical.choose_spec (⟨Fr_X1_replaceRow, rfl⟩ : ∃ f : gS → Nat → Int32 → gS, f = Fr_X1_replaceRow)
def Q_X1_replaceRow (σ : gS) (c : Nat) (p0 : Int32) : Prop :=
  vp_in p0 4 ∧ ((Q_X1_emptyRow σ c p0) ∧ (let s4 := (F_X1_emptyRow σ c p0)
  (Q_X0_copyFrom s4 (23 + 11 * c + 1 + 2 + 2 * ix p0) 48 1 400) ∧ (let s7 := (F_X0_copyFrom s4 (23 + 11 * c + 1 + 2 + 2 * ix p0) 48 1 400)
  True)))
set_option maxHeartbeats 4000000 in
set_option maxRecDepth 100000 in
theorem c_X1_replaceRow (l : Launch) (g : gE) {c : Nat} (hc : c < 16) {σ : gS} {ζ : gQ} (p0 : Int32) (hQ : Q_X1_replaceRow σ c p0) : gC l g mX1_replaceRow (rm 2 61) [.ref (23 + 11 * c), .int p0, .ref 1] (hp σ ζ) (fun r h => r = none ∧ h = hp (F_X1_replaceRow σ c p0) ζ) := by
  refine gC_of (by decide) (Nat.le_of_ble_eq_true rfl) ?_
  generalize hF : (F_X1_replaceRow σ c p0) = fr
  rw [F_X1_replaceRow_eq] at hF
  unfold Fr_X1_replaceRow at hF
  unfold Q_X1_replaceRow at hQ
  refine g_aload_n dX1_replaceRow_0 rfl rfl rfl ?_
  refine g_iload_n dX1_replaceRow_1 rfl rfl rfl ?_
  have o1 := hQ.1
  replace hQ := hQ.2
  have o2 := hQ.1
  replace hQ := hQ.2
  refine g_callv mv_X1_emptyRow ml_X1_28 (c_X1_emptyRow l g hc _ o2) (card_o hc) rfl rfl (Nat.le_of_ble_eq_true rfl) (Nat.le_of_ble_eq_true rfl) (Nat.le_of_ble_eq_true rfl) (Nat.le_of_ble_eq_true rfl) rfl (Nat.le_of_ble_eq_true rfl) dX1_replaceRow_2 rfl (fun r3 hr3 pr3 => ?_)
  obtain ⟨rfl, rfl⟩ := pr3
  refine g_aload_n dX1_replaceRow_5 rfl rfl rfl ?_
  have o5 := hQ.1
  replace hQ := hQ.2
  refine g_callv mv_X0_copyFrom ml_X1_32 (c_X0_copyFrom l g (isB_rw hc (vin_lt o1)) isB_tape o5) ((isB_rw hc (vin_lt o1)).o _ ζ) rfl rfl (Nat.le_of_ble_eq_true rfl) (Nat.le_of_ble_eq_true rfl) (Nat.le_of_ble_eq_true rfl) (Nat.le_of_ble_eq_true rfl) rfl (Nat.le_of_ble_eq_true rfl) dX1_replaceRow_6 rfl (fun r6 hr6 pr6 => ?_)
  obtain ⟨rfl, rfl⟩ := pr6
  subst hF
  exact g_vret rfl dX1_replaceRow_9 (Nat.le_of_ble_eq_true rfl) (Nat.le_of_ble_eq_true rfl) ⟨rfl, rfl⟩
noncomputable def Fr_X8_withoutSign (p0 : Int32) : Int64 :=
  (p0.toInt64 &&& (4294967295 : Int64))
noncomputable def F_X8_withoutSign : Int32 → Int64 := Classical.choose (⟨Fr_X8_withoutSign, rfl⟩ : ∃ f : Int32 → Int64, f = Fr_X8_withoutSign)
theorem F_X8_withoutSign_eq : F_X8_withoutSign = Fr_X8_withoutSign := Classical.choose_spec (⟨Fr_X8_withoutSign, rfl⟩ : ∃ f : Int32 → Int64, f = Fr_X8_withoutSign)
set_option maxHeartbeats 4000000 in
set_option maxRecDepth 100000 in
theorem c_X8_withoutSign (l : Launch) (g : gE)  {σ : gS} {ζ : gQ} (p0 : Int32) : gC l g mX8_withoutSign (rm 0 0) [.int p0] (hp σ ζ) (fun r h => r = some (.long (F_X8_withoutSign p0)) ∧ h = hp σ ζ) := by
  refine gC_of (by decide) (Nat.le_of_ble_eq_true rfl) ?_
  generalize hF : (F_X8_withoutSign p0) = fr
  rw [F_X8_withoutSign_eq] at hF
  unfold Fr_X8_withoutSign at hF
  refine g_iload_n dX8_withoutSign_0 rfl rfl rfl ?_
  refine g_i2l dX8_withoutSign_1 rfl ?_
  refine g_ldc2 kl_X8_109 dX8_withoutSign_2 rfl ?_
  refine g_land dX8_withoutSign_5 rfl ?_
  subst hF
  exact g_lret rfl dX8_withoutSign_6 (Nat.le_of_ble_eq_true rfl) (Nat.le_of_ble_eq_true rfl) ⟨rfl, rfl⟩
noncomputable def Fr_X8_isInTime (σ : gS) (j N : Nat) (p1 : Int32) : Int32 :=
  if (lg_cmp p1.toInt64 (F_X8_withoutSign (F_X0_fourAt σ j N (13 : Int32)))) < 0 then
    (0 : Int32)
  else
    if 0 < (lg_cmp p1.toInt64 (F_X8_withoutSign (F_X0_fourAt σ j N (17 : Int32)))) then
      (0 : Int32)
    else
      (1 : Int32)
noncomputable def F_X8_isInTime : gS → Nat → Nat → Int32 → Int32 := Classical.choose (⟨Fr_X8_isInTime, rfl⟩ : ∃ f : gS → Nat → Nat → Int32 → Int32, f = Fr_X8_isInTime)
theorem F_X8_isInTime_eq : F_X8_isInTime = Fr_X8_isInTime := Classical.choose_spec (⟨Fr_X8_isInTime, rfl⟩ : ∃ f : gS → Nat → Nat → Int32 → Int32, f = Fr_X8_isInTime)
def Q_X8_isInTime (σ : gS) (j N : Nat) (p1 : Int32) : Prop :=
  (Q_X0_fourAt σ j N (13 : Int32)) ∧ (if (lg_cmp p1.toInt64 (F_X8_withoutSign (F_X0_fourAt σ j N (13 : Int32)))) < 0 then
    (True)
  else
    ((Q_X0_fourAt σ j N (17 : Int32)) ∧ (if 0 < (lg_cmp p1.toInt64 (F_X8_withoutSign (F_X0_fourAt σ j N (17 : Int32)))) then
      (True)
    else
      (True))))
set_option maxHeartbeats 4000000 in
set_option maxRecDepth 100000 in
theorem c_X8_isInTime (l : Launch) (g : gE) {j N : Nat} (hB : isB j N) {σ : gS} {ζ : gQ} (p1 : Int32) (hQ : Q_X8_isInTime σ j N p1) : gC l g mX8_isInTime (rm 3 63) [.ref j, .int p1] (hp σ ζ) (fun r h => r = some (.int (F_X8_isInTime σ j N p1)) ∧ h = hp σ ζ) := by
  refine gC_of (by decide) (Nat.le_of_ble_eq_true rfl) ?_
  generalize hF : (F_X8_isInTime σ j N p1) = fr
  rw [F_X8_isInTime_eq] at hF
  unfold Fr_X8_isInTime at hF
  unfold Q_X8_isInTime at hQ
  refine g_iload_n dX8_isInTime_0 rfl rfl rfl ?_
  refine g_i2l dX8_isInTime_1 rfl ?_
  refine g_aload_n dX8_isInTime_2 rfl rfl rfl ?_
  refine g_bipush (v := 13) dX8_isInTime_3 (by decide) rfl ?_
  have o1 := hQ.1
  replace hQ := hQ.2
  refine g_callv mv_X0_fourAt ml_X8_38 (c_X0_fourAt l g hB _ o1) (hB.o _ ζ) rfl rfl (Nat.le_of_ble_eq_true rfl) (Nat.le_of_ble_eq_true rfl) (Nat.le_of_ble_eq_true rfl) (Nat.le_of_ble_eq_true rfl) rfl (Nat.le_of_ble_eq_true rfl) dX8_isInTime_5 rfl (fun r2 hr2 pr2 => ?_)
  obtain ⟨rfl, rfl⟩ := pr2
  refine g_calls mt_X8_withoutSign ms_X8_withoutSign ml_X8_105 (c_X8_withoutSign l g _) rfl (Nat.le_of_ble_eq_true rfl) (Nat.le_of_ble_eq_true rfl) (Nat.le_of_ble_eq_true rfl) (Nat.le_of_ble_eq_true rfl) rfl (Nat.le_of_ble_eq_true rfl) dX8_isInTime_8 rfl (fun r3 hr3 pr3 => ?_)
  obtain ⟨rfl, rfl⟩ := pr3
  refine g_lcmp dX8_isInTime_11 rfl ?_
  refine g_iflt (tgt := 34) dX8_isInTime_12 (by decide) rfl (fun c4 => ?_) (fun c4 => ?_)
  · replace hF := ite_p hF c4
    try replace hQ := ite_q hQ c4
    refine g_iconst (v := 0) dX8_isInTime_34 (by decide) rfl ?_
    subst hF
    exact g_zret rfl dX8_isInTime_35 (by decide) (Nat.le_of_ble_eq_true rfl) (Nat.le_of_ble_eq_true rfl) ⟨rfl, rfl⟩
  · replace hF := ite_n hF c4
    try replace hQ := ite_r hQ c4
    refine g_iload_n dX8_isInTime_15 rfl rfl rfl ?_
    refine g_i2l dX8_isInTime_16 rfl ?_
    refine g_aload_n dX8_isInTime_17 rfl rfl rfl ?_
    refine g_bipush (v := 17) dX8_isInTime_18 (by decide) rfl ?_
    have o5 := hQ.1
    replace hQ := hQ.2
    refine g_callv mv_X0_fourAt ml_X8_38 (c_X0_fourAt l g hB _ o5) (hB.o _ ζ) rfl rfl (Nat.le_of_ble_eq_true rfl) (Nat.le_of_ble_eq_true rfl) (Nat.le_of_ble_eq_true rfl) (Nat.le_of_ble_eq_true rfl) rfl (Nat.le_of_ble_eq_true rfl) dX8_isInTime_20 rfl (fun r6 hr6 pr6 => ?_)
    obtain ⟨rfl, rfl⟩ := pr6
    refine g_calls mt_X8_withoutSign ms_X8_withoutSign ml_X8_105 (c_X8_withoutSign l g _) rfl (Nat.le_of_ble_eq_true rfl) (Nat.le_of_ble_eq_true rfl) (Nat.le_of_ble_eq_true rfl) (Nat.le_of_ble_eq_true rfl) rfl (Nat.le_of_ble_eq_true rfl) dX8_isInTime_23 rfl (fun r7 hr7 pr7 => ?_)
    obtain ⟨rfl, rfl⟩ := pr7
    refine g_lcmp dX8_isInTime_26 rfl ?_
    refine g_ifgt (tgt := 34) dX8_isInTime_27 (by decide) rfl (fun c8 => ?_) (fun c8 => ?_)
    · replace hF := ite_p hF c8
      try replace hQ := ite_q hQ c8
      refine g_iconst (v := 0) dX8_isInTime_34 (by decide) rfl ?_
      subst hF
      exact g_zret rfl dX8_isInTime_35 (by decide) (Nat.le_of_ble_eq_true rfl) (Nat.le_of_ble_eq_true rfl) ⟨rfl, rfl⟩
    · replace hF := ite_n hF c8
      try replace hQ := ite_r hQ c8
      refine g_iconst (v := 1) dX8_isInTime_30 (by decide) rfl ?_
      refine g_goto (tgt := 35) dX8_isInTime_31 (by decide) ?_
      subst hF
      exact g_zret rfl dX8_isInTime_35 (by decide) (Nat.le_of_ble_eq_true rfl) (Nat.le_of_ble_eq_true rfl) ⟨rfl, rfl⟩
noncomputable def J_X8_isFormed_9 (j N : Nat) (p1 : Int32) (σ : gS) (u0 : Int32) : Int32 :=
  if (σ j 1) = (((21 : Int32) + u0) + (16 : Int32)) then
    if (F_X0_byteOf σ j N (0 : Int32)) = (p1 + (1 : Int32)) then
      if p1 = 0 then
        if (F_X0_twoAt σ j N (7 : Int32)) = 0 then
          if (F_X0_fourAt σ j N (9 : Int32)) = 0 then
            (1 : Int32)
          else
            (0 : Int32)
        else
          (0 : Int32)
      else
        if p1 = (2 : Int32) then
          (1 : Int32)
        else
          if (3 : Int32) < (F_X0_byteOf σ j N (21 : Int32)) then
            (0 : Int32)
          else
            if (5 : Int32) < (F_X0_byteOf σ j N (22 : Int32)) then
              (0 : Int32)
            else
              (1 : Int32)
    else
      (0 : Int32)
  else
    (0 : Int32)
def QJ_X8_isFormed_9 (j N : Nat) (p1 : Int32) (σ : gS) (u0 : Int32) : Prop :=
  if (σ j 1) = (((21 : Int32) + u0) + (16 : Int32)) then
    ((Q_X0_byteOf σ j N (0 : Int32)) ∧ (if (F_X0_byteOf σ j N (0 : Int32)) = (p1 + (1 : Int32)) then
      (if p1 = 0 then
        ((Q_X0_twoAt σ j N (7 : Int32)) ∧ (if (F_X0_twoAt σ j N (7 : Int32)) = 0 then
          ((Q_X0_fourAt σ j N (9 : Int32)) ∧ (if (F_X0_fourAt σ j N (9 : Int32)) = 0 then
            (True)
          else
            (True)))
        else
          (True)))
      else
        (if p1 = (2 : Int32) then
          (True)
        else
          ((Q_X0_byteOf σ j N (21 : Int32)) ∧ (if (3 : Int32) < (F_X0_byteOf σ j N (21 : Int32)) then
            (True)
          else
            ((Q_X0_byteOf σ j N (22 : Int32)) ∧ (if (5 : Int32) < (F_X0_byteOf σ j N (22 : Int32)) then
              (True)
            else
              (True)))))))
    else
      (True)))
  else
    (True)
set_option maxHeartbeats 4000000 in
set_option maxRecDepth 100000 in
theorem j_X8_isFormed_9 (l : Launch) (g : gE) {j N : Nat} {p1 : Int32} {σ : gS} (hB : isB j N) {ζ : gQ} {fr : Int32} : ∀ (u0 : Int32), QJ_X8_isFormed_9 j N p1 σ u0 → J_X8_isFormed_9 j N p1 σ u0 = fr → gG l g mX8_isFormed (rm 3 63) (gZm g (rm 3 63) (fun r h => r = some (.int fr) ∧ h = hp σ ζ)) 9 [(0, .ref j), (1, .int p1)] [.int u0] (hp σ ζ) 0 0 := by
  intro u0 hQ hF
  unfold J_X8_isFormed_9 at hF
  unfold QJ_X8_isFormed_9 at hQ
  refine g_istoreL_n (L1 := [(0, _), (1, _), (2, _)]) dX8_isFormed_9 rfl (by decide) rfl rfl ?_
  refine g_aload_n dX8_isFormed_10 rfl rfl rfl ?_
  refine g_get gClX0 1 (by decide) fl_X8_102 dX8_isFormed_11 (hB.o _ ζ) rfl rfl ?_
  refine g_bipush (v := 21) dX8_isFormed_14 (by decide) rfl ?_
  refine g_iload_n dX8_isFormed_16 rfl rfl rfl ?_
  refine g_iadd dX8_isFormed_17 rfl ?_
  refine g_bipush (v := 16) dX8_isFormed_18 (by decide) rfl ?_
  refine g_iadd dX8_isFormed_20 rfl ?_
  refine g_icmpne (tgt := 35) dX8_isFormed_21 (by decide) rfl (fun c2 => ?_) (fun c2 => ?_)
  · replace hF := ite_n hF c2
    try replace hQ := ite_r hQ c2
    refine g_iconst (v := 0) dX8_isFormed_35 (by decide) rfl ?_
    subst hF
    exact g_zret rfl dX8_isFormed_36 (by decide) (Nat.le_of_ble_eq_true rfl) (Nat.le_of_ble_eq_true rfl) ⟨rfl, rfl⟩
  · replace hF := ite_p hF c2
    try replace hQ := ite_q hQ c2
    refine g_aload_n dX8_isFormed_24 rfl rfl rfl ?_
    refine g_iconst (v := 0) dX8_isFormed_25 (by decide) rfl ?_
    have o3 := hQ.1
    replace hQ := hQ.2
    refine g_callv mv_X0_byteOf ml_X8_60 (c_X0_byteOf l g hB _ o3) (hB.o _ ζ) rfl rfl (Nat.le_of_ble_eq_true rfl) (Nat.le_of_ble_eq_true rfl) (Nat.le_of_ble_eq_true rfl) (Nat.le_of_ble_eq_true rfl) rfl (Nat.le_of_ble_eq_true rfl) dX8_isFormed_26 rfl (fun r4 hr4 pr4 => ?_)
    obtain ⟨rfl, rfl⟩ := pr4
    refine g_iload_n dX8_isFormed_29 rfl rfl rfl ?_
    refine g_iconst (v := 1) dX8_isFormed_30 (by decide) rfl ?_
    refine g_iadd dX8_isFormed_31 rfl ?_
    refine g_icmpeq (tgt := 37) dX8_isFormed_32 (by decide) rfl (fun c5 => ?_) (fun c5 => ?_)
    · replace hF := ite_p hF c5
      try replace hQ := ite_q hQ c5
      refine g_iload_n dX8_isFormed_37 rfl rfl rfl ?_
      refine g_ifne (tgt := 65) dX8_isFormed_38 (by decide) rfl (fun c6 => ?_) (fun c6 => ?_)
      · replace hF := ite_n hF c6
        try replace hQ := ite_r hQ c6
        refine g_iload_n dX8_isFormed_65 rfl rfl rfl ?_
        refine g_iconst (v := 2) dX8_isFormed_66 (by decide) rfl ?_
        refine g_icmpeq (tgt := 90) dX8_isFormed_67 (by decide) rfl (fun c7 => ?_) (fun c7 => ?_)
        · replace hF := ite_p hF c7
          try replace hQ := ite_q hQ c7
          refine g_iconst (v := 1) dX8_isFormed_90 (by decide) rfl ?_
          refine g_goto (tgt := 95) dX8_isFormed_91 (by decide) ?_
          subst hF
          exact g_zret rfl dX8_isFormed_95 (by decide) (Nat.le_of_ble_eq_true rfl) (Nat.le_of_ble_eq_true rfl) ⟨rfl, rfl⟩
        · replace hF := ite_n hF c7
          try replace hQ := ite_r hQ c7
          refine g_aload_n dX8_isFormed_70 rfl rfl rfl ?_
          refine g_bipush (v := 21) dX8_isFormed_71 (by decide) rfl ?_
          have o8 := hQ.1
          replace hQ := hQ.2
          refine g_callv mv_X0_byteOf ml_X8_60 (c_X0_byteOf l g hB _ o8) (hB.o _ ζ) rfl rfl (Nat.le_of_ble_eq_true rfl) (Nat.le_of_ble_eq_true rfl) (Nat.le_of_ble_eq_true rfl) (Nat.le_of_ble_eq_true rfl) rfl (Nat.le_of_ble_eq_true rfl) dX8_isFormed_73 rfl (fun r9 hr9 pr9 => ?_)
          obtain ⟨rfl, rfl⟩ := pr9
          refine g_iconst (v := 3) dX8_isFormed_76 (by decide) rfl ?_
          refine g_icmpgt (tgt := 94) dX8_isFormed_77 (by decide) rfl (fun c10 => ?_) (fun c10 => ?_)
          · replace hF := ite_p hF c10
            try replace hQ := ite_q hQ c10
            refine g_iconst (v := 0) dX8_isFormed_94 (by decide) rfl ?_
            subst hF
            exact g_zret rfl dX8_isFormed_95 (by decide) (Nat.le_of_ble_eq_true rfl) (Nat.le_of_ble_eq_true rfl) ⟨rfl, rfl⟩
          · replace hF := ite_n hF c10
            try replace hQ := ite_r hQ c10
            refine g_aload_n dX8_isFormed_80 rfl rfl rfl ?_
            refine g_bipush (v := 22) dX8_isFormed_81 (by decide) rfl ?_
            have o11 := hQ.1
            replace hQ := hQ.2
            refine g_callv mv_X0_byteOf ml_X8_60 (c_X0_byteOf l g hB _ o11) (hB.o _ ζ) rfl rfl (Nat.le_of_ble_eq_true rfl) (Nat.le_of_ble_eq_true rfl) (Nat.le_of_ble_eq_true rfl) (Nat.le_of_ble_eq_true rfl) rfl (Nat.le_of_ble_eq_true rfl) dX8_isFormed_83 rfl (fun r12 hr12 pr12 => ?_)
            obtain ⟨rfl, rfl⟩ := pr12
            refine g_iconst (v := 5) dX8_isFormed_86 (by decide) rfl ?_
            refine g_icmpgt (tgt := 94) dX8_isFormed_87 (by decide) rfl (fun c13 => ?_) (fun c13 => ?_)
            · replace hF := ite_p hF c13
              try replace hQ := ite_q hQ c13
              refine g_iconst (v := 0) dX8_isFormed_94 (by decide) rfl ?_
              subst hF
              exact g_zret rfl dX8_isFormed_95 (by decide) (Nat.le_of_ble_eq_true rfl) (Nat.le_of_ble_eq_true rfl) ⟨rfl, rfl⟩
            · replace hF := ite_n hF c13
              try replace hQ := ite_r hQ c13
              refine g_iconst (v := 1) dX8_isFormed_90 (by decide) rfl ?_
              refine g_goto (tgt := 95) dX8_isFormed_91 (by decide) ?_
              subst hF
              exact g_zret rfl dX8_isFormed_95 (by decide) (Nat.le_of_ble_eq_true rfl) (Nat.le_of_ble_eq_true rfl) ⟨rfl, rfl⟩
      · replace hF := ite_p hF c6
        try replace hQ := ite_q hQ c6
        refine g_aload_n dX8_isFormed_41 rfl rfl rfl ?_
        refine g_bipush (v := 7) dX8_isFormed_42 (by decide) rfl ?_
        have o14 := hQ.1
        replace hQ := hQ.2
        refine g_callv mv_X0_twoAt ml_X8_48 (c_X0_twoAt l g hB _ o14) (hB.o _ ζ) rfl rfl (Nat.le_of_ble_eq_true rfl) (Nat.le_of_ble_eq_true rfl) (Nat.le_of_ble_eq_true rfl) (Nat.le_of_ble_eq_true rfl) rfl (Nat.le_of_ble_eq_true rfl) dX8_isFormed_44 rfl (fun r15 hr15 pr15 => ?_)
        obtain ⟨rfl, rfl⟩ := pr15
        refine g_ifne (tgt := 63) dX8_isFormed_47 (by decide) rfl (fun c16 => ?_) (fun c16 => ?_)
        · replace hF := ite_n hF c16
          try replace hQ := ite_r hQ c16
          refine g_iconst (v := 0) dX8_isFormed_63 (by decide) rfl ?_
          subst hF
          exact g_zret rfl dX8_isFormed_64 (by decide) (Nat.le_of_ble_eq_true rfl) (Nat.le_of_ble_eq_true rfl) ⟨rfl, rfl⟩
        · replace hF := ite_p hF c16
          try replace hQ := ite_q hQ c16
          refine g_aload_n dX8_isFormed_50 rfl rfl rfl ?_
          refine g_bipush (v := 9) dX8_isFormed_51 (by decide) rfl ?_
          have o17 := hQ.1
          replace hQ := hQ.2
          refine g_callv mv_X0_fourAt ml_X8_38 (c_X0_fourAt l g hB _ o17) (hB.o _ ζ) rfl rfl (Nat.le_of_ble_eq_true rfl) (Nat.le_of_ble_eq_true rfl) (Nat.le_of_ble_eq_true rfl) (Nat.le_of_ble_eq_true rfl) rfl (Nat.le_of_ble_eq_true rfl) dX8_isFormed_53 rfl (fun r18 hr18 pr18 => ?_)
          obtain ⟨rfl, rfl⟩ := pr18
          refine g_ifne (tgt := 63) dX8_isFormed_56 (by decide) rfl (fun c19 => ?_) (fun c19 => ?_)
          · replace hF := ite_n hF c19
            try replace hQ := ite_r hQ c19
            refine g_iconst (v := 0) dX8_isFormed_63 (by decide) rfl ?_
            subst hF
            exact g_zret rfl dX8_isFormed_64 (by decide) (Nat.le_of_ble_eq_true rfl) (Nat.le_of_ble_eq_true rfl) ⟨rfl, rfl⟩
          · replace hF := ite_p hF c19
            try replace hQ := ite_q hQ c19
            refine g_iconst (v := 1) dX8_isFormed_59 (by decide) rfl ?_
            refine g_goto (tgt := 64) dX8_isFormed_60 (by decide) ?_
            subst hF
            exact g_zret rfl dX8_isFormed_64 (by decide) (Nat.le_of_ble_eq_true rfl) (Nat.le_of_ble_eq_true rfl) ⟨rfl, rfl⟩
    · replace hF := ite_n hF c5
      try replace hQ := ite_r hQ c5
      refine g_iconst (v := 0) dX8_isFormed_35 (by decide) rfl ?_
      subst hF
      exact g_zret rfl dX8_isFormed_36 (by decide) (Nat.le_of_ble_eq_true rfl) (Nat.le_of_ble_eq_true rfl) ⟨rfl, rfl⟩
noncomputable def Fr_X8_isFormed (σ : gS) (j N : Nat) (p1 : Int32) : Int32 :=
  if p1 = 0 then
    J_X8_isFormed_9 j N p1 σ (4 : Int32)
  else
    J_X8_isFormed_9 j N p1 σ (2 : Int32)
noncomputable def F_X8_isFormed : gS → Nat → Nat → Int32 → Int32 := Classical.choose (⟨Fr_X8_isFormed, rfl⟩ : ∃ f : gS → Nat → Nat → Int32 → Int32, f = Fr_X8_isFormed)
theorem F_X8_isFormed_eq : F_X8_isFormed = Fr_X8_isFormed := Classical.choose_spec (⟨Fr_X8_isFormed, rfl⟩ : ∃ f : gS → Nat → Nat → Int32 → Int32, f = Fr_X8_isFormed)
def Q_X8_isFormed (σ : gS) (j N : Nat) (p1 : Int32) : Prop :=
  if p1 = 0 then
    (QJ_X8_isFormed_9 j N p1 σ (4 : Int32))
  else
    (QJ_X8_isFormed_9 j N p1 σ (2 : Int32))
set_option maxHeartbeats 4000000 in
set_option maxRecDepth 100000 in
theorem c_X8_isFormed (l : Launch) (g : gE) {j N : Nat} (hB : isB j N) {σ : gS} {ζ : gQ} (p1 : Int32) (hQ : Q_X8_isFormed σ j N p1) : gC l g mX8_isFormed (rm 3 63) [.ref j, .int p1] (hp σ ζ) (fun r h => r = some (.int (F_X8_isFormed σ j N p1)) ∧ h = hp σ ζ) := by
  refine gC_of (by decide) (Nat.le_of_ble_eq_true rfl) ?_
  generalize hF : (F_X8_isFormed σ j N p1) = fr
  rw [F_X8_isFormed_eq] at hF
  unfold Fr_X8_isFormed at hF
  unfold Q_X8_isFormed at hQ
  refine g_iload_n dX8_isFormed_0 rfl rfl rfl ?_
  refine g_ifne (tgt := 8) dX8_isFormed_1 (by decide) rfl (fun c1 => ?_) (fun c1 => ?_)
  · replace hF := ite_n hF c1
    try replace hQ := ite_r hQ c1
    refine g_iconst (v := 2) dX8_isFormed_8 (by decide) rfl ?_
    refine g_sub [0, 1] rfl ?_
    exact j_X8_isFormed_9 l g hB _ hQ hF
  · replace hF := ite_p hF c1
    try replace hQ := ite_q hQ c1
    refine g_iconst (v := 4) dX8_isFormed_4 (by decide) rfl ?_
    refine g_goto (tgt := 9) dX8_isFormed_5 (by decide) ?_
    refine g_sub [0, 1] rfl ?_
    exact j_X8_isFormed_9 l g hB _ hQ hF
noncomputable def G_X8_isSealed_L16 (j N : Nat) : Nat → Int32 → Int32 → gS → Int32 × gS
  | 0, _, _, σ => (0, σ)
  | n + 1, y2, y3, σ =>
    if (16 : Int32) ≤ y3 then
      ((1 : Int32), σ)
    else
      if (F_X0_byteOf σ j N (y2 + y3)) = (F_X7_sealByte σ y3) then
        G_X8_isSealed_L16 j N n y2 (y3 + Int32.ofInt (1)) σ
      else
        ((0 : Int32), σ)
def QG_X8_isSealed_L16 (j N : Nat) : Nat → Int32 → Int32 → gS → Prop
  | 0, _, _, _ => False
  | n + 1, y2, y3, σ =>
    if (16 : Int32) ≤ y3 then
      (True)
    else
      ((Q_X0_byteOf σ j N (y2 + y3)) ∧ ((Q_X7_sealByte σ y3) ∧ (if (F_X0_byteOf σ j N (y2 + y3)) = (F_X7_sealByte σ y3) then
        (QG_X8_isSealed_L16 j N n y2 (y3 + Int32.ofInt (1)) σ)
      else
        (True))))
set_option maxHeartbeats 4000000 in
set_option maxRecDepth 100000 in
theorem t_X8_isSealed_L16 (l : Launch) (g : gE) {j N : Nat} (hB : isB j N) {ζ : gQ} {fr : Int32 × gS} (hT : gTab g) : ∀ (n : Nat) (y2 : Int32) (y3 : Int32) (σ : gS), QG_X8_isSealed_L16 j N n y2 y3 σ → G_X8_isSealed_L16 j N n y2 y3 σ = fr → gG l g mX8_isSealed (rm 3 87) (gZm g (rm 3 87) (fun r h => r = some (.int fr.1) ∧ h = hp fr.2 ζ)) 16 [(0, .ref j), (1, .ref 7), (2, .int y2), (3, .int y3)] [] (hp σ ζ) 0 0 := by
  intro n
  induction n with
  | zero => intro y2 y3 σ hQ; exact absurd hQ (by unfold QG_X8_isSealed_L16; exact id)
  | succ n ihL16 =>
    intro y2 y3 σ hQ hF
    unfold G_X8_isSealed_L16 at hF
    unfold QG_X8_isSealed_L16 at hQ
    refine g_iload_n dX8_isSealed_16 rfl rfl rfl ?_
    refine g_bipush (v := 16) dX8_isSealed_17 (by decide) rfl ?_
    refine g_icmpge (tgt := 45) dX8_isSealed_19 (by decide) rfl (fun c4 => ?_) (fun c4 => ?_)
    · replace hF := ite_p hF c4
      try replace hQ := ite_q hQ c4
      refine g_iconst (v := 1) dX8_isSealed_45 (by decide) rfl ?_
      subst hF
      exact g_zret rfl dX8_isSealed_46 (by decide) (Nat.le_of_ble_eq_true rfl) (Nat.le_of_ble_eq_true rfl) ⟨rfl, rfl⟩
    · replace hF := ite_n hF c4
      try replace hQ := ite_r hQ c4
      refine g_aload_n dX8_isSealed_22 rfl rfl rfl ?_
      refine g_iload_n dX8_isSealed_23 rfl rfl rfl ?_
      refine g_iload_n dX8_isSealed_24 rfl rfl rfl ?_
      refine g_iadd dX8_isSealed_25 rfl ?_
      have o5 := hQ.1
      replace hQ := hQ.2
      refine g_callv mv_X0_byteOf ml_X8_60 (c_X0_byteOf l g hB _ o5) (hB.o _ ζ) rfl rfl (Nat.le_of_ble_eq_true rfl) (Nat.le_of_ble_eq_true rfl) (Nat.le_of_ble_eq_true rfl) (Nat.le_of_ble_eq_true rfl) rfl (Nat.le_of_ble_eq_true rfl) dX8_isSealed_26 rfl (fun r6 hr6 pr6 => ?_)
      obtain ⟨rfl, rfl⟩ := pr6
      refine g_aload_n dX8_isSealed_29 rfl rfl rfl ?_
      refine g_iload_n dX8_isSealed_30 rfl rfl rfl ?_
      have o7 := hQ.1
      replace hQ := hQ.2
      refine g_callv mv_X7_sealByte ml_X8_117 (c_X7_sealByte l g _ o7) (ho_7 _ _) rfl rfl (Nat.le_of_ble_eq_true rfl) (Nat.le_of_ble_eq_true rfl) (Nat.le_of_ble_eq_true rfl) (Nat.le_of_ble_eq_true rfl) rfl (Nat.le_of_ble_eq_true rfl) dX8_isSealed_31 rfl (fun r8 hr8 pr8 => ?_)
      obtain ⟨rfl, rfl⟩ := pr8
      refine g_icmpeq (tgt := 39) dX8_isSealed_34 (by decide) rfl (fun c9 => ?_) (fun c9 => ?_)
      · replace hF := ite_p hF c9
        try replace hQ := ite_q hQ c9
        refine g_iincL (L1 := [(0, _), (1, _), (2, _), (3, _)]) dX8_isSealed_39 rfl (by decide) rfl rfl ?_
        refine g_goto (tgt := 16) dX8_isSealed_42 (by decide) ?_
        refine g_sub [0, 1, 2, 3] rfl ?_
        exact ihL16 _ _ _ hQ hF
      · replace hF := ite_n hF c9
        try replace hQ := ite_r hQ c9
        refine g_iconst (v := 0) dX8_isSealed_37 (by decide) rfl ?_
        subst hF
        exact g_zret rfl dX8_isSealed_38 (by decide) (Nat.le_of_ble_eq_true rfl) (Nat.le_of_ble_eq_true rfl) ⟨rfl, rfl⟩
noncomputable def Fr_X8_isSealed (σ : gS) (j N : Nat)  : Int32 × gS :=
  let s3 := (F_X7_work σ j N ((σ j 1) - (16 : Int32)))
  G_X8_isSealed_L16 j N 4000 ((σ j 1) - (16 : Int32)) (0 : Int32) s3
noncomputable def F_X8_isSealed : gS → Nat → Nat → Int32 × gS := Classical.choose (⟨Fr_X8_isSealed, rfl⟩ : ∃ f : gS → Nat → Nat → Int32 × gS, f = Fr_X8_isSealed)
theorem F_X8_isSealed_eq : F_X8_isSealed = Fr_X8_isSealed := Classical.choose_spec (⟨Fr_X8_isSealed, rfl⟩ : ∃ f : gS → Nat → Nat → Int32 × gS, f = Fr_X8_isSealed)
def Q_X8_isSealed (σ : gS) (j N : Nat)  : Prop :=
  (Q_X7_work σ j N ((σ j 1) - (16 : Int32))) ∧ (let s3 := (F_X7_work σ j N ((σ j 1) - (16 : Int32)))
  QG_X8_isSealed_L16 j N 4000 ((σ j 1) - (16 : Int32)) (0 : Int32) s3)
set_option maxHeartbeats 4000000 in
set_option maxRecDepth 100000 in
theorem c_X8_isSealed (l : Launch) (g : gE) {j N : Nat} (hB : isB j N) (hT : gTab g) {σ : gS} {ζ : gQ}  (hQ : Q_X8_isSealed σ j N ) : gC l g mX8_isSealed (rm 3 87) [.ref j, .ref 7] (hp σ ζ) (fun r h => r = some (.int (F_X8_isSealed σ j N ).1) ∧ h = hp (F_X8_isSealed σ j N ).2 ζ) := by
  refine gC_of (by decide) (Nat.le_of_ble_eq_true rfl) ?_
  generalize hF : (F_X8_isSealed σ j N ) = fr
  rw [F_X8_isSealed_eq] at hF
  unfold Fr_X8_isSealed at hF
  unfold Q_X8_isSealed at hQ
  refine g_aload_n dX8_isSealed_0 rfl rfl rfl ?_
  refine g_get gClX0 1 (by decide) fl_X8_102 dX8_isSealed_1 (hB.o _ ζ) rfl rfl ?_
  refine g_bipush (v := 16) dX8_isSealed_4 (by decide) rfl ?_
  refine g_isub dX8_isSealed_6 rfl ?_
  refine g_istoreL_n (L1 := [(0, _), (1, _), (2, _)]) dX8_isSealed_7 rfl (by decide) rfl rfl ?_
  refine g_aload_n dX8_isSealed_8 rfl rfl rfl ?_
  refine g_aload_n dX8_isSealed_9 rfl rfl rfl ?_
  refine g_iload_n dX8_isSealed_10 rfl rfl rfl ?_
  have o1 := hQ.1
  replace hQ := hQ.2
  refine g_callv mv_X7_work ml_X8_111 (c_X7_work l g hB hT _ o1) (ho_7 _ _) rfl rfl (Nat.le_of_ble_eq_true rfl) (Nat.le_of_ble_eq_true rfl) (Nat.le_of_ble_eq_true rfl) (Nat.le_of_ble_eq_true rfl) rfl (Nat.le_of_ble_eq_true rfl) dX8_isSealed_11 rfl (fun r2 hr2 pr2 => ?_)
  obtain ⟨rfl, rfl⟩ := pr2
  refine g_iconst (v := 0) dX8_isSealed_14 (by decide) rfl ?_
  refine g_istoreL_n (L1 := [(0, _), (1, _), (2, _), (3, _)]) dX8_isSealed_15 rfl (by decide) rfl rfl ?_
  refine g_sub [0, 1, 2, 3] rfl ?_
  exact t_X8_isSealed_L16 l g hB hT 4000 _ _ _ hQ hF
noncomputable def Fr_X8_isHeldBy (σ : gS) (j N j2 N2 : Nat)  : Int32 :=
  (F_X0_isAlike σ j N j2 N2 (7 : Int32) (1 : Int32) (6 : Int32))
noncomputable def F_X8_isHeldBy : gS → Nat → Nat → Nat → Nat → Int32 := Classical.choose (⟨Fr_X8_isHeldBy, rfl⟩ : ∃ f : gS → Nat → Nat → Nat → Nat → Int32, f = Fr_X8_isHeldBy)
theorem F_X8_isHeldBy_eq : F_X8_isHeldBy = Fr_X8_isHeldBy := Classical.choose_spec (⟨Fr_X8_isHeldBy, rfl⟩ : ∃ f : gS → Nat → Nat → Nat → Nat → Int32, f = Fr_X8_isHeldBy)
def Q_X8_isHeldBy (σ : gS) (j N j2 N2 : Nat)  : Prop :=
  (Q_X0_isAlike σ j N j2 N2 (7 : Int32) (1 : Int32) (6 : Int32)) ∧ (((F_X0_isAlike σ j N j2 N2 (7 : Int32) (1 : Int32) (6 : Int32)) = 0 ∨ (F_X0_isAlike σ j N j2 N2 (7 : Int32) (1 : Int32) (6 : Int32)) = 1) ∧ (True))
set_option maxHeartbeats 4000000 in
set_option maxRecDepth 100000 in
theorem c_X8_isHeldBy (l : Launch) (g : gE) {j N j2 N2 : Nat} (hB : isB j N) (hB2 : isB j2 N2) {σ : gS} {ζ : gQ}  (hQ : Q_X8_isHeldBy σ j N j2 N2 ) : gC l g mX8_isHeldBy (rm 2 46) [.ref j, .ref j2] (hp σ ζ) (fun r h => r = some (.int (F_X8_isHeldBy σ j N j2 N2 )) ∧ h = hp σ ζ) := by
  refine gC_of (by decide) (Nat.le_of_ble_eq_true rfl) ?_
  generalize hF : (F_X8_isHeldBy σ j N j2 N2 ) = fr
  rw [F_X8_isHeldBy_eq] at hF
  unfold Fr_X8_isHeldBy at hF
  unfold Q_X8_isHeldBy at hQ
  refine g_aload_n dX8_isHeldBy_0 rfl rfl rfl ?_
  refine g_bipush (v := 7) dX8_isHeldBy_1 (by decide) rfl ?_
  refine g_aload_n dX8_isHeldBy_3 rfl rfl rfl ?_
  refine g_iconst (v := 1) dX8_isHeldBy_4 (by decide) rfl ?_
  refine g_bipush (v := 6) dX8_isHeldBy_5 (by decide) rfl ?_
  have o1 := hQ.1
  replace hQ := hQ.2
  refine g_callv mv_X0_isAlike ml_X8_72 (c_X0_isAlike l g hB hB2 _ _ _ o1) (hB.o _ ζ) rfl rfl (Nat.le_of_ble_eq_true rfl) (Nat.le_of_ble_eq_true rfl) (Nat.le_of_ble_eq_true rfl) (Nat.le_of_ble_eq_true rfl) rfl (Nat.le_of_ble_eq_true rfl) dX8_isHeldBy_7 rfl (fun r2 hr2 pr2 => ?_)
  obtain ⟨rfl, rfl⟩ := pr2
  have o3 := hQ.1
  replace hQ := hQ.2
  subst hF
  exact g_zret rfl dX8_isHeldBy_10 (gz_n o3) (Nat.le_of_ble_eq_true rfl) (Nat.le_of_ble_eq_true rfl) ⟨rfl, rfl⟩
noncomputable def Fr_X8_isGood (σ : gS) (c : Nat) (p1 : Int32) (p4 : Int32) : Int32 × gS :=
  if (F_X8_isFormed σ (23 + 11 * c + 1 + 2 + 2 * ix p1) 48 p1) = 0 then
    ((0 : Int32), σ)
  else
    if (F_X8_isInTime σ (23 + 11 * c + 1 + 2 + 2 * ix p1) 48 p4) = 0 then
      ((0 : Int32), σ)
    else
      let v14 := (F_X4_find σ (F_X0_twoAt σ (23 + 11 * c + 1 + 2 + 2 * ix p1) 48 (1 : Int32)))
      if v14 = (-1 : Int32) then
        ((0 : Int32), σ)
      else
        if (σ ((23 + 11 * c) + 2) (ix p1)) = 0 then
          let s22 := (F_X4_choose σ v14)
          let f25 := (F_X8_isSealed s22 (23 + 11 * c + 1 + 2 + 2 * ix p1) 48)
          if f25.1 = 0 then
            let s28 := (pf f25.2 ((23 + 11 * c) + 2) (ix p1) (2 : Int32) : gS)
            if (s28 ((23 + 11 * c) + 2) (ix p1)) = (1 : Int32) then
              ((1 : Int32), s28)
            else
              ((0 : Int32), s28)
          else
            let s32 := (pf f25.2 ((23 + 11 * c) + 2) (ix p1) (1 : Int32) : gS)
            if (s32 ((23 + 11 * c) + 2) (ix p1)) = (1 : Int32) then
              ((1 : Int32), s32)
            else
              ((0 : Int32), s32)
        else
          if (σ ((23 + 11 * c) + 2) (ix p1)) = (1 : Int32) then
            ((1 : Int32), σ)
          else
            ((0 : Int32), σ)
noncomputable def F_X8_isGood : gS → Nat → Int32 → Int32 → Int32 × gS := Classical.choose (⟨Fr_X8_isGood, rfl⟩ : ∃ f : gS → Nat → Int32 → Int32 → Int32 × gS, f = Fr_X8_isGood)
theorem F_X8_isGood_eq : F_X8_isGood = Fr_X8_isGood := Classical.choose_spec (⟨Fr_X8_isGood, rfl⟩ : ∃ f : gS → Nat → Int32 → Int32 → Int32 × gS, f = Fr_X8_isGood)
def Q_X8_isGood (σ : gS) (c : Nat) (p1 : Int32) (p4 : Int32) : Prop :=
  (¬ (F_X9_isPlace p1) = 0) ∧ (vp_in p1 4 ∧ ((Q_X8_isFormed σ (23 + 11 * c + 1 + 2 + 2 * ix p1) 48 p1) ∧ (if (F_X8_isFormed σ (23 + 11 * c + 1 + 2 + 2 * ix p1) 48 p1) = 0 then
    (True)
  else
    ((Q_X8_isInTime σ (23 + 11 * c + 1 + 2 + 2 * ix p1) 48 p4) ∧ (if (F_X8_isInTime σ (23 + 11 * c + 1 + 2 + 2 * ix p1) 48 p4) = 0 then
      (True)
    else
      ((Q_X0_twoAt σ (23 + 11 * c + 1 + 2 + 2 * ix p1) 48 (1 : Int32)) ∧ ((Q_X4_find σ (F_X0_twoAt σ (23 + 11 * c + 1 + 2 + 2 * ix p1) 48 (1 : Int32))) ∧ (let v14 := (F_X4_find σ (F_X0_twoAt σ (23 + 11 * c + 1 + 2 + 2 * ix p1) 48 (1 : Int32)))
      if v14 = (-1 : Int32) then
        (True)
      else
        (vp_in p1 4 ∧ (if (σ ((23 + 11 * c) + 2) (ix p1)) = 0 then
          ((Q_X4_choose σ v14) ∧ (let s22 := (F_X4_choose σ v14)
          (Q_X8_isSealed s22 (23 + 11 * c + 1 + 2 + 2 * ix p1) 48) ∧ (let f25 := (F_X8_isSealed s22 (23 + 11 * c + 1 + 2 + 2 * ix p1) 48)
          if f25.1 = 0 then
            (vp_in p1 4 ∧ (let s28 := (pf f25.2 ((23 + 11 * c) + 2) (ix p1) (2 : Int32) : gS)
            vp_in p1 4 ∧ (if (s28 ((23 + 11 * c) + 2) (ix p1)) = (1 : Int32) then
              (True)
            else
              (True))))
          else
            (vp_in p1 4 ∧ (let s32 := (pf f25.2 ((23 + 11 * c) + 2) (ix p1) (1 : Int32) : gS)
            vp_in p1 4 ∧ (if (s32 ((23 + 11 * c) + 2) (ix p1)) = (1 : Int32) then
              (True)
            else
              (True)))))))
        else
          (vp_in p1 4 ∧ (if (σ ((23 + 11 * c) + 2) (ix p1)) = (1 : Int32) then
            (True)
          else
            (True)))))))))))))
set_option maxHeartbeats 4000000 in
set_option maxRecDepth 100000 in
theorem c_X8_isGood (l : Launch) (g : gE) {c : Nat} (hc : c < 16) (hT : gTab g) {σ : gS} {ζ : gQ} (p1 : Int32) (p4 : Int32) (hQ : Q_X8_isGood σ c p1 p4) : gC l g mX8_isGood (rm 4 110) [.ref (23 + 11 * c), .int p1, .ref 12, .ref 7, .int p4] (hp σ ζ) (fun r h => r = some (.int (F_X8_isGood σ c p1 p4).1) ∧ h = hp (F_X8_isGood σ c p1 p4).2 ζ) := by
  refine gC_of (by decide) (Nat.le_of_ble_eq_true rfl) ?_
  generalize hF : (F_X8_isGood σ c p1 p4) = fr
  rw [F_X8_isGood_eq] at hF
  unfold Fr_X8_isGood at hF
  unfold Q_X8_isGood at hQ
  refine g_iload_n dX8_isGood_0 rfl rfl rfl ?_
  refine g_callsN mt_X9_isPlace ms_X9_isPlace (j := 9) rfl (c_X9_isPlace l g _) rfl (Nat.le_of_ble_eq_true rfl) (Nat.le_of_ble_eq_true rfl) (Nat.le_of_ble_eq_true rfl) (Nat.le_of_ble_eq_true rfl) rfl (Nat.le_of_ble_eq_true rfl) dX8_isGood_1 rfl (fun r1 hr1 pr1 => ?_)
  obtain ⟨rfl, rfl⟩ := pr1
  have o2 := hQ.1
  replace hQ := hQ.2
  refine g_ifeq (tgt := 16) dX8_isGood_4 (by decide) rfl (fun z => absurd z o2) (fun _ => ?_)
  refine g_aload_n dX8_isGood_7 rfl rfl rfl ?_
  refine g_get gClX1 0 (by decide) fl_X8_28 dX8_isGood_8 (card_o hc) rfl rfl ?_
  refine g_iload_n dX8_isGood_11 rfl rfl rfl ?_
  have o3 := hQ.1
  replace hQ := hQ.2
  refine g_aald4 (card_r hc) o3 (aa4 o3) dX8_isGood_12 rfl ?_
  refine g_goto (tgt := 17) dX8_isGood_13 (by decide) ?_
  refine g_astoreL (L1 := [(0, _), (1, _), (2, _), (3, _), (4, _), (5, _)]) dX8_isGood_17 (by decide) rfl rfl ?_
  refine g_aload dX8_isGood_19 rfl rfl ?_
  refine g_ifnull dX8_isGood_21 rfl ?_
  refine g_aload dX8_isGood_24 rfl rfl ?_
  refine g_iload_n dX8_isGood_26 rfl rfl rfl ?_
  have o4 := hQ.1
  replace hQ := hQ.2
  refine g_calls mt_X8_isFormed ms_X8_isFormed ml_X8_80 (c_X8_isFormed l g (isB_rw hc (vin_lt o3)) _ o4) rfl (Nat.le_of_ble_eq_true rfl) (Nat.le_of_ble_eq_true rfl) (Nat.le_of_ble_eq_true rfl) (Nat.le_of_ble_eq_true rfl) rfl (Nat.le_of_ble_eq_true rfl) dX8_isGood_27 rfl (fun r5 hr5 pr5 => ?_)
  obtain ⟨rfl, rfl⟩ := pr5
  refine g_ifeq (tgt := 43) dX8_isGood_30 (by decide) rfl (fun c6 => ?_) (fun c6 => ?_)
  · replace hF := ite_p hF c6
    try replace hQ := ite_q hQ c6
    refine g_iconst (v := 0) dX8_isGood_43 (by decide) rfl ?_
    subst hF
    exact g_zret rfl dX8_isGood_44 (by decide) (Nat.le_of_ble_eq_true rfl) (Nat.le_of_ble_eq_true rfl) ⟨rfl, rfl⟩
  · replace hF := ite_n hF c6
    try replace hQ := ite_r hQ c6
    refine g_aload dX8_isGood_33 rfl rfl ?_
    refine g_iload dX8_isGood_35 rfl rfl ?_
    have o7 := hQ.1
    replace hQ := hQ.2
    refine g_calls mt_X8_isInTime ms_X8_isInTime ml_X8_84 (c_X8_isInTime l g (isB_rw hc (vin_lt o3)) _ o7) rfl (Nat.le_of_ble_eq_true rfl) (Nat.le_of_ble_eq_true rfl) (Nat.le_of_ble_eq_true rfl) (Nat.le_of_ble_eq_true rfl) rfl (Nat.le_of_ble_eq_true rfl) dX8_isGood_37 rfl (fun r8 hr8 pr8 => ?_)
    obtain ⟨rfl, rfl⟩ := pr8
    refine g_ifne (tgt := 45) dX8_isGood_40 (by decide) rfl (fun c9 => ?_) (fun c9 => ?_)
    · replace hF := ite_n hF c9
      try replace hQ := ite_r hQ c9
      refine g_aload_n dX8_isGood_45 rfl rfl rfl ?_
      refine g_aload dX8_isGood_46 rfl rfl ?_
      refine g_iconst (v := 1) dX8_isGood_48 (by decide) rfl ?_
      have o10 := hQ.1
      replace hQ := hQ.2
      refine g_callv mv_X0_twoAt ml_X8_48 (c_X0_twoAt l g (isB_rw hc (vin_lt o3)) _ o10) ((isB_rw hc (vin_lt o3)).o _ ζ) rfl rfl (Nat.le_of_ble_eq_true rfl) (Nat.le_of_ble_eq_true rfl) (Nat.le_of_ble_eq_true rfl) (Nat.le_of_ble_eq_true rfl) rfl (Nat.le_of_ble_eq_true rfl) dX8_isGood_49 rfl (fun r11 hr11 pr11 => ?_)
      obtain ⟨rfl, rfl⟩ := pr11
      have o12 := hQ.1
      replace hQ := hQ.2
      refine g_callv mv_X4_find ml_X8_87 (c_X4_find l g _ o12) (ho_12 _ _) rfl rfl (Nat.le_of_ble_eq_true rfl) (Nat.le_of_ble_eq_true rfl) (Nat.le_of_ble_eq_true rfl) (Nat.le_of_ble_eq_true rfl) rfl (Nat.le_of_ble_eq_true rfl) dX8_isGood_52 rfl (fun r13 hr13 pr13 => ?_)
      obtain ⟨rfl, rfl⟩ := pr13
      refine g_istoreL (L1 := [(0, _), (1, _), (2, _), (3, _), (4, _), (5, _), (6, _)]) dX8_isGood_55 (by decide) rfl rfl ?_
      refine g_iload dX8_isGood_57 rfl rfl ?_
      refine g_iconst (v := (-1)) dX8_isGood_59 (by decide) rfl ?_
      refine g_icmpne (tgt := 65) dX8_isGood_60 (by decide) rfl (fun c15 => ?_) (fun c15 => ?_)
      · replace hF := ite_n hF c15
        try replace hQ := ite_r hQ c15
        refine g_aload_n dX8_isGood_65 rfl rfl rfl ?_
        refine g_get gClX1 1 (by decide) fl_X8_90 dX8_isGood_66 (card_o hc) rfl rfl ?_
        refine g_iload_n dX8_isGood_69 rfl rfl rfl ?_
        have o16 := hQ.1
        replace hQ := hQ.2
        refine g_iald (card_s hc) o16 dX8_isGood_70 rfl ?_
        refine g_ifne (tgt := 101) dX8_isGood_71 (by decide) rfl (fun c17 => ?_) (fun c17 => ?_)
        · replace hF := ite_n hF c17
          try replace hQ := ite_r hQ c17
          refine g_aload_n dX8_isGood_101 rfl rfl rfl ?_
          refine g_get gClX1 1 (by decide) fl_X8_90 dX8_isGood_102 (card_o hc) rfl rfl ?_
          refine g_iload_n dX8_isGood_105 rfl rfl rfl ?_
          have o18 := hQ.1
          replace hQ := hQ.2
          refine g_iald (card_s hc) o18 dX8_isGood_106 rfl ?_
          refine g_iconst (v := 1) dX8_isGood_107 (by decide) rfl ?_
          refine g_icmpne (tgt := 115) dX8_isGood_108 (by decide) rfl (fun c19 => ?_) (fun c19 => ?_)
          · replace hF := ite_n hF c19
            try replace hQ := ite_r hQ c19
            refine g_iconst (v := 0) dX8_isGood_115 (by decide) rfl ?_
            subst hF
            exact g_zret rfl dX8_isGood_116 (by decide) (Nat.le_of_ble_eq_true rfl) (Nat.le_of_ble_eq_true rfl) ⟨rfl, rfl⟩
          · replace hF := ite_p hF c19
            try replace hQ := ite_q hQ c19
            refine g_iconst (v := 1) dX8_isGood_111 (by decide) rfl ?_
            refine g_goto (tgt := 116) dX8_isGood_112 (by decide) ?_
            subst hF
            exact g_zret rfl dX8_isGood_116 (by decide) (Nat.le_of_ble_eq_true rfl) (Nat.le_of_ble_eq_true rfl) ⟨rfl, rfl⟩
        · replace hF := ite_p hF c17
          try replace hQ := ite_q hQ c17
          refine g_aload_n dX8_isGood_74 rfl rfl rfl ?_
          refine g_iload dX8_isGood_75 rfl rfl ?_
          refine g_aload_n dX8_isGood_77 rfl rfl rfl ?_
          have o20 := hQ.1
          replace hQ := hQ.2
          refine g_callv mv_X4_choose ml_X8_94 (c_X4_choose l g _ o20) (ho_12 _ _) rfl rfl (Nat.le_of_ble_eq_true rfl) (Nat.le_of_ble_eq_true rfl) (Nat.le_of_ble_eq_true rfl) (Nat.le_of_ble_eq_true rfl) rfl (Nat.le_of_ble_eq_true rfl) dX8_isGood_78 rfl (fun r21 hr21 pr21 => ?_)
          obtain ⟨rfl, rfl⟩ := pr21
          refine g_aload_n dX8_isGood_81 rfl rfl rfl ?_
          refine g_get gClX1 1 (by decide) fl_X8_90 dX8_isGood_82 (card_o hc) rfl rfl ?_
          refine g_iload_n dX8_isGood_85 rfl rfl rfl ?_
          refine g_aload dX8_isGood_86 rfl rfl ?_
          refine g_aload_n dX8_isGood_88 rfl rfl rfl ?_
          have o23 := hQ.1
          replace hQ := hQ.2
          refine g_calls mt_X8_isSealed ms_X8_isSealed ml_X8_98 (c_X8_isSealed l g (isB_rw hc (vin_lt o3)) hT o23) rfl (Nat.le_of_ble_eq_true rfl) (Nat.le_of_ble_eq_true rfl) (Nat.le_of_ble_eq_true rfl) (Nat.le_of_ble_eq_true rfl) rfl (Nat.le_of_ble_eq_true rfl) dX8_isGood_89 rfl (fun r24 hr24 pr24 => ?_)
          obtain ⟨rfl, rfl⟩ := pr24
          refine g_ifeq (tgt := 99) dX8_isGood_92 (by decide) rfl (fun c26 => ?_) (fun c26 => ?_)
          · replace hF := ite_p hF c26
            try replace hQ := ite_q hQ c26
            refine g_iconst (v := 2) dX8_isGood_99 (by decide) rfl ?_
            have o27 := hQ.1
            replace hQ := hQ.2
            refine g_iast (card_s hc) o27 (card_q hc) dX8_isGood_100 rfl ?_
            refine g_aload_n dX8_isGood_101 rfl rfl rfl ?_
            refine g_get gClX1 1 (by decide) fl_X8_90 dX8_isGood_102 (card_o hc) rfl rfl ?_
            refine g_iload_n dX8_isGood_105 rfl rfl rfl ?_
            have o29 := hQ.1
            replace hQ := hQ.2
            refine g_iald (card_s hc) o29 dX8_isGood_106 rfl ?_
            refine g_iconst (v := 1) dX8_isGood_107 (by decide) rfl ?_
            refine g_icmpne (tgt := 115) dX8_isGood_108 (by decide) rfl (fun c30 => ?_) (fun c30 => ?_)
            · replace hF := ite_n hF c30
              try replace hQ := ite_r hQ c30
              refine g_iconst (v := 0) dX8_isGood_115 (by decide) rfl ?_
              subst hF
              exact g_zret rfl dX8_isGood_116 (by decide) (Nat.le_of_ble_eq_true rfl) (Nat.le_of_ble_eq_true rfl) ⟨rfl, rfl⟩
            · replace hF := ite_p hF c30
              try replace hQ := ite_q hQ c30
              refine g_iconst (v := 1) dX8_isGood_111 (by decide) rfl ?_
              refine g_goto (tgt := 116) dX8_isGood_112 (by decide) ?_
              subst hF
              exact g_zret rfl dX8_isGood_116 (by decide) (Nat.le_of_ble_eq_true rfl) (Nat.le_of_ble_eq_true rfl) ⟨rfl, rfl⟩
          · replace hF := ite_n hF c26
            try replace hQ := ite_r hQ c26
            refine g_iconst (v := 1) dX8_isGood_95 (by decide) rfl ?_
            refine g_goto (tgt := 100) dX8_isGood_96 (by decide) ?_
            have o31 := hQ.1
            replace hQ := hQ.2
            refine g_iast (card_s hc) o31 (card_q hc) dX8_isGood_100 rfl ?_
            refine g_aload_n dX8_isGood_101 rfl rfl rfl ?_
            refine g_get gClX1 1 (by decide) fl_X8_90 dX8_isGood_102 (card_o hc) rfl rfl ?_
            refine g_iload_n dX8_isGood_105 rfl rfl rfl ?_
            have o33 := hQ.1
            replace hQ := hQ.2
            refine g_iald (card_s hc) o33 dX8_isGood_106 rfl ?_
            refine g_iconst (v := 1) dX8_isGood_107 (by decide) rfl ?_
            refine g_icmpne (tgt := 115) dX8_isGood_108 (by decide) rfl (fun c34 => ?_) (fun c34 => ?_)
            · replace hF := ite_n hF c34
              try replace hQ := ite_r hQ c34
              refine g_iconst (v := 0) dX8_isGood_115 (by decide) rfl ?_
              subst hF
              exact g_zret rfl dX8_isGood_116 (by decide) (Nat.le_of_ble_eq_true rfl) (Nat.le_of_ble_eq_true rfl) ⟨rfl, rfl⟩
            · replace hF := ite_p hF c34
              try replace hQ := ite_q hQ c34
              refine g_iconst (v := 1) dX8_isGood_111 (by decide) rfl ?_
              refine g_goto (tgt := 116) dX8_isGood_112 (by decide) ?_
              subst hF
              exact g_zret rfl dX8_isGood_116 (by decide) (Nat.le_of_ble_eq_true rfl) (Nat.le_of_ble_eq_true rfl) ⟨rfl, rfl⟩
      · replace hF := ite_p hF c15
        try replace hQ := ite_q hQ c15
        refine g_iconst (v := 0) dX8_isGood_63 (by decide) rfl ?_
        subst hF
        exact g_zret rfl dX8_isGood_64 (by decide) (Nat.le_of_ble_eq_true rfl) (Nat.le_of_ble_eq_true rfl) ⟨rfl, rfl⟩
    · replace hF := ite_p hF c9
      try replace hQ := ite_q hQ c9
      refine g_iconst (v := 0) dX8_isGood_43 (by decide) rfl ?_
      subst hF
      exact g_zret rfl dX8_isGood_44 (by decide) (Nat.le_of_ble_eq_true rfl) (Nat.le_of_ble_eq_true rfl) ⟨rfl, rfl⟩
noncomputable def Fr_X8_classHeld (σ : gS) (j : Nat)  : Int32 :=
  if (σ j 3) = 0 then
    if (σ j 2) = 0 then
      (-1 : Int32)
    else
      (σ j 8)
  else
    (σ j 7)
noncomputable def F_X8_classHeld : gS → Nat → Int32 := Classical.choose (⟨Fr_X8_classHeld, rfl⟩ : ∃ f : gS → Nat → Int32, f = Fr_X8_classHeld)
theorem F_X8_classHeld_eq : F_X8_classHeld = Fr_X8_classHeld := Classical.choose_spec (⟨Fr_X8_classHeld, rfl⟩ : ∃ f : gS → Nat → Int32, f = Fr_X8_classHeld)
set_option maxHeartbeats 4000000 in
set_option maxRecDepth 100000 in
theorem c_X8_classHeld (l : Launch) (g : gE) {j : Nat} (hS : isS j) {σ : gS} {ζ : gQ}  : gC l g mX8_classHeld (rm 0 0) [.ref j] (hp σ ζ) (fun r h => r = some (.int (F_X8_classHeld σ j )) ∧ h = hp σ ζ) := by
  refine gC_of (by decide) (Nat.le_of_ble_eq_true rfl) ?_
  generalize hF : (F_X8_classHeld σ j ) = fr
  rw [F_X8_classHeld_eq] at hF
  unfold Fr_X8_classHeld at hF
  refine g_aload_n dX8_classHeld_0 rfl rfl rfl ?_
  refine g_get gClX8 3 (by decide) fl_X8_22 dX8_classHeld_1 (hS.o _ ζ) rfl rfl ?_
  refine g_ifeq (tgt := 12) dX8_classHeld_4 (by decide) rfl (fun c1 => ?_) (fun c1 => ?_)
  · replace hF := ite_p hF c1
    refine g_aload_n dX8_classHeld_12 rfl rfl rfl ?_
    refine g_get gClX8 2 (by decide) fl_X8_18 dX8_classHeld_13 (hS.o _ ζ) rfl rfl ?_
    refine g_ifeq (tgt := 26) dX8_classHeld_16 (by decide) rfl (fun c2 => ?_) (fun c2 => ?_)
    · replace hF := ite_p hF c2
      refine g_iconst (v := (-1)) dX8_classHeld_26 (by decide) rfl ?_
      subst hF
      exact g_iret rfl dX8_classHeld_27 (Nat.le_of_ble_eq_true rfl) (Nat.le_of_ble_eq_true rfl) ⟨rfl, rfl⟩
    · replace hF := ite_n hF c2
      refine g_aload_n dX8_classHeld_19 rfl rfl rfl ?_
      refine g_get gClX8 8 (by decide) fl_X8_69 dX8_classHeld_20 (hS.o _ ζ) rfl rfl ?_
      refine g_goto (tgt := 27) dX8_classHeld_23 (by decide) ?_
      subst hF
      exact g_iret rfl dX8_classHeld_27 (Nat.le_of_ble_eq_true rfl) (Nat.le_of_ble_eq_true rfl) ⟨rfl, rfl⟩
  · replace hF := ite_n hF c1
    refine g_aload_n dX8_classHeld_7 rfl rfl rfl ?_
    refine g_get gClX8 7 (by decide) fl_X8_66 dX8_classHeld_8 (hS.o _ ζ) rfl rfl ?_
    subst hF
    exact g_iret rfl dX8_classHeld_11 (Nat.le_of_ble_eq_true rfl) (Nat.le_of_ble_eq_true rfl) ⟨rfl, rfl⟩
noncomputable def Fr_J6_bitCount_0f7a4 (p0 : Int32) : Int32 :=
  let v1 := (p0 - ((ush p0 (1 : Int32)) &&& (1431655765 : Int32)))
  let v2 := ((v1 &&& (858993459 : Int32)) + ((ush v1 (2 : Int32)) &&& (858993459 : Int32)))
  let v3 := ((v2 + (ush v2 (4 : Int32))) &&& (252645135 : Int32))
  let v4 := (v3 + (ush v3 (8 : Int32)))
  let v5 := (v4 + (ush v4 (16 : Int32)))
  (v5 &&& (63 : Int32))
noncomputable def F_J6_bitCount_0f7a4 : Int32 → Int32 := Classical.choose (⟨Fr_J6_bitCount_0f7a4, rfl⟩ : ∃ f : Int32 → Int32, f = Fr_J6_bitCount_0f7a4)
theorem F_J6_bitCount_0f7a4_eq : F_J6_bitCount_0f7a4 = Fr_J6_bitCount_0f7a4 := Classical.choose_spec (⟨Fr_J6_bitCount_0f7a4, rfl⟩ : ∃ f : Int32 → Int32, f = Fr_J6_bitCount_0f7a4)
set_option maxHeartbeats 4000000 in
set_option maxRecDepth 100000 in
theorem c_J6_bitCount_0f7a4 (l : Launch) (g : gE)  {σ : gS} {ζ : gQ} (p0 : Int32) : gC l g mJ6_bitCount_0f7a4 (rm 0 0) [.int p0] (hp σ ζ) (fun r h => r = some (.int (F_J6_bitCount_0f7a4 p0)) ∧ h = hp σ ζ) := by
  refine gC_of (by decide) (Nat.le_of_ble_eq_true rfl) ?_
  generalize hF : (F_J6_bitCount_0f7a4 p0) = fr
  rw [F_J6_bitCount_0f7a4_eq] at hF
  unfold Fr_J6_bitCount_0f7a4 at hF
  refine g_iload_n dJ6_bitCount_0f7a4_0 rfl rfl rfl ?_
  refine g_iload_n dJ6_bitCount_0f7a4_1 rfl rfl rfl ?_
  refine g_iconst (v := 1) dJ6_bitCount_0f7a4_2 (by decide) rfl ?_
  refine g_iushr dJ6_bitCount_0f7a4_3 rfl ?_
  refine g_ldcw ki_J6_265 dJ6_bitCount_0f7a4_4 rfl ?_
  refine g_iand dJ6_bitCount_0f7a4_7 rfl ?_
  refine g_isub dJ6_bitCount_0f7a4_8 rfl ?_
  refine g_istoreL_n (L1 := [(0, _)]) dJ6_bitCount_0f7a4_9 rfl (by decide) rfl rfl ?_
  refine g_iload_n dJ6_bitCount_0f7a4_10 rfl rfl rfl ?_
  refine g_ldcw ki_J6_266 dJ6_bitCount_0f7a4_11 rfl ?_
  refine g_iand dJ6_bitCount_0f7a4_14 rfl ?_
  refine g_iload_n dJ6_bitCount_0f7a4_15 rfl rfl rfl ?_
  refine g_iconst (v := 2) dJ6_bitCount_0f7a4_16 (by decide) rfl ?_
  refine g_iushr dJ6_bitCount_0f7a4_17 rfl ?_
  refine g_ldcw ki_J6_266 dJ6_bitCount_0f7a4_18 rfl ?_
  refine g_iand dJ6_bitCount_0f7a4_21 rfl ?_
  refine g_iadd dJ6_bitCount_0f7a4_22 rfl ?_
  refine g_istoreL_n (L1 := [(0, _)]) dJ6_bitCount_0f7a4_23 rfl (by decide) rfl rfl ?_
  refine g_iload_n dJ6_bitCount_0f7a4_24 rfl rfl rfl ?_
  refine g_iload_n dJ6_bitCount_0f7a4_25 rfl rfl rfl ?_
  refine g_iconst (v := 4) dJ6_bitCount_0f7a4_26 (by decide) rfl ?_
  refine g_iushr dJ6_bitCount_0f7a4_27 rfl ?_
  refine g_iadd dJ6_bitCount_0f7a4_28 rfl ?_
  refine g_ldcw ki_J6_267 dJ6_bitCount_0f7a4_29 rfl ?_
  refine g_iand dJ6_bitCount_0f7a4_32 rfl ?_
  refine g_istoreL_n (L1 := [(0, _)]) dJ6_bitCount_0f7a4_33 rfl (by decide) rfl rfl ?_
  refine g_iload_n dJ6_bitCount_0f7a4_34 rfl rfl rfl ?_
  refine g_iload_n dJ6_bitCount_0f7a4_35 rfl rfl rfl ?_
  refine g_bipush (v := 8) dJ6_bitCount_0f7a4_36 (by decide) rfl ?_
  refine g_iushr dJ6_bitCount_0f7a4_38 rfl ?_
  refine g_iadd dJ6_bitCount_0f7a4_39 rfl ?_
  refine g_istoreL_n (L1 := [(0, _)]) dJ6_bitCount_0f7a4_40 rfl (by decide) rfl rfl ?_
  refine g_iload_n dJ6_bitCount_0f7a4_41 rfl rfl rfl ?_
  refine g_iload_n dJ6_bitCount_0f7a4_42 rfl rfl rfl ?_
  refine g_bipush (v := 16) dJ6_bitCount_0f7a4_43 (by decide) rfl ?_
  refine g_iushr dJ6_bitCount_0f7a4_45 rfl ?_
  refine g_iadd dJ6_bitCount_0f7a4_46 rfl ?_
  refine g_istoreL_n (L1 := [(0, _)]) dJ6_bitCount_0f7a4_47 rfl (by decide) rfl rfl ?_
  refine g_iload_n dJ6_bitCount_0f7a4_48 rfl rfl rfl ?_
  refine g_bipush (v := 63) dJ6_bitCount_0f7a4_49 (by decide) rfl ?_
  refine g_iand dJ6_bitCount_0f7a4_51 rfl ?_
  subst hF
  exact g_iret rfl dJ6_bitCount_0f7a4_52 (Nat.le_of_ble_eq_true rfl) (Nat.le_of_ble_eq_true rfl) ⟨rfl, rfl⟩
