/-! StationHouse: by program -/
noncomputable def J_X9_settingOnDisk_16 (p0 : Int32) (σ : gS) (u0 : Int32) : Int32 :=
  if u0 = 0 then
    (F_X0_twoAt σ 3 400 (tab 3 (ix p0)))
  else
    (F_X0_byteOf σ 3 400 (tab 3 (ix p0)))
def QJ_X9_settingOnDisk_16 (p0 : Int32) (σ : gS) (u0 : Int32) : Prop :=
  if u0 = 0 then
    (vp_in p0 9 ∧ ((Q_X0_twoAt σ 3 400 (tab 3 (ix p0))) ∧ (True)))
  else
    (vp_in p0 9 ∧ ((Q_X0_byteOf σ 3 400 (tab 3 (ix p0))) ∧ (True)))
set_option maxHeartbeats 4000000 in
set_option maxRecDepth 100000 in
theorem j_X9_settingOnDisk_16 (l : Launch) (g : gE) {p0 : Int32} {σ : gS} {ζ : gQ} {fr : Int32} (hT : gTab g) : ∀ (u0 : Int32), QJ_X9_settingOnDisk_16 p0 σ u0 → J_X9_settingOnDisk_16 p0 σ u0 = fr → gG l g mX9_settingOnDisk (rm 2 42) (gZm g (rm 2 42) (fun r h => r = some (.int fr) ∧ h = hp σ ζ)) 16 [(0, .ref 0), (1, .int p0)] [.int u0] (hp σ ζ) 0 0 := by
  intro u0 hQ hF
  unfold J_X9_settingOnDisk_16 at hF
  unfold QJ_X9_settingOnDisk_16 at hQ
  refine g_istoreL_n (L1 := [(0, _), (1, _), (2, _)]) dX9_settingOnDisk_16 rfl (by decide) rfl rfl ?_
  refine g_iload_n dX9_settingOnDisk_17 rfl rfl rfl ?_
  refine g_ifeq (tgt := 36) dX9_settingOnDisk_18 (by decide) rfl (fun c2 => ?_) (fun c2 => ?_)
  · replace hF := ite_p hF c2
    try replace hQ := ite_q hQ c2
    refine g_aload_n dX9_settingOnDisk_36 rfl rfl rfl ?_
    refine g_get gClX9 1 (by decide) fl_X9_18 dX9_settingOnDisk_37 (ho_0 _ _) rfl rfl ?_
    refine g_gets (i := 3) rfl fs_X9_463 dX9_settingOnDisk_40 rfl ?_
    refine g_iload_n dX9_settingOnDisk_43 rfl rfl rfl ?_
    have o3 := hQ.1
    replace hQ := hQ.2
    refine g_tld (by decide) (hT 3 (by decide)) o3 dX9_settingOnDisk_44 rfl ?_
    have o4 := hQ.1
    replace hQ := hQ.2
    refine g_callv mv_X0_twoAt ml_X9_340 (c_X0_twoAt l g isB_disk _ o4) (ho_3 _ _) rfl rfl (Nat.le_of_ble_eq_true rfl) (Nat.le_of_ble_eq_true rfl) (Nat.le_of_ble_eq_true rfl) (Nat.le_of_ble_eq_true rfl) rfl (Nat.le_of_ble_eq_true rfl) dX9_settingOnDisk_45 rfl (fun r5 hr5 pr5 => ?_)
    obtain ⟨rfl, rfl⟩ := pr5
    subst hF
    exact g_iret rfl dX9_settingOnDisk_48 (Nat.le_of_ble_eq_true rfl) (Nat.le_of_ble_eq_true rfl) ⟨rfl, rfl⟩
  · replace hF := ite_n hF c2
    try replace hQ := ite_r hQ c2
    refine g_aload_n dX9_settingOnDisk_21 rfl rfl rfl ?_
    refine g_get gClX9 1 (by decide) fl_X9_18 dX9_settingOnDisk_22 (ho_0 _ _) rfl rfl ?_
    refine g_gets (i := 3) rfl fs_X9_463 dX9_settingOnDisk_25 rfl ?_
    refine g_iload_n dX9_settingOnDisk_28 rfl rfl rfl ?_
    have o6 := hQ.1
    replace hQ := hQ.2
    refine g_tld (by decide) (hT 3 (by decide)) o6 dX9_settingOnDisk_29 rfl ?_
    have o7 := hQ.1
    replace hQ := hQ.2
    refine g_callv mv_X0_byteOf ml_X9_224 (c_X0_byteOf l g isB_disk _ o7) (ho_3 _ _) rfl rfl (Nat.le_of_ble_eq_true rfl) (Nat.le_of_ble_eq_true rfl) (Nat.le_of_ble_eq_true rfl) (Nat.le_of_ble_eq_true rfl) rfl (Nat.le_of_ble_eq_true rfl) dX9_settingOnDisk_30 rfl (fun r8 hr8 pr8 => ?_)
    obtain ⟨rfl, rfl⟩ := pr8
    refine g_goto (tgt := 48) dX9_settingOnDisk_33 (by decide) ?_
    subst hF
    exact g_iret rfl dX9_settingOnDisk_48 (Nat.le_of_ble_eq_true rfl) (Nat.le_of_ble_eq_true rfl) ⟨rfl, rfl⟩
noncomputable def J_X9_settingOnDisk_11 (p0 : Int32) (σ : gS)  : Int32 :=
  J_X9_settingOnDisk_16 p0 σ (1 : Int32)
def QJ_X9_settingOnDisk_11 (p0 : Int32) (σ : gS)  : Prop :=
  QJ_X9_settingOnDisk_16 p0 σ (1 : Int32)
set_option maxHeartbeats 4000000 in
set_option maxRecDepth 100000 in
theorem j_X9_settingOnDisk_11 (l : Launch) (g : gE) {p0 : Int32} {σ : gS} {ζ : gQ} {fr : Int32} (hT : gTab g) : ∀ _u : Unit, QJ_X9_settingOnDisk_11 p0 σ  → J_X9_settingOnDisk_11 p0 σ  = fr → gG l g mX9_settingOnDisk (rm 2 42) (gZm g (rm 2 42) (fun r h => r = some (.int fr) ∧ h = hp σ ζ)) 11 [(0, .ref 0), (1, .int p0)] [] (hp σ ζ) 0 0 := by
  intro _ hQ hF
  unfold J_X9_settingOnDisk_11 at hF
  unfold QJ_X9_settingOnDisk_11 at hQ
  refine g_iconst (v := 1) dX9_settingOnDisk_11 (by decide) rfl ?_
  refine g_goto (tgt := 16) dX9_settingOnDisk_12 (by decide) ?_
  refine g_sub [0, 1] rfl ?_
  exact j_X9_settingOnDisk_16 l g hT _ hQ hF
noncomputable def Fr_X9_settingOnDisk (σ : gS) (p0 : Int32) : Int32 :=
  if p0 = (5 : Int32) then
    J_X9_settingOnDisk_11 p0 σ 
  else
    if p0 = (6 : Int32) then
      J_X9_settingOnDisk_11 p0 σ 
    else
      J_X9_settingOnDisk_16 p0 σ (0 : Int32)
noncomputable def F_X9_settingOnDisk : gS → Int32 → Int32 := Classical.choose (⟨Fr_X9_settingOnDisk, rfl⟩ : ∃ f : gS → Int32 → Int32, f = Fr_X9_settingOnDisk)
theorem F_X9_settingOnDisk_eq : F_X9_settingOnDisk = Fr_X9_settingOnDisk := Classical.choose_spec (⟨Fr_X9_settingOnDisk, rfl⟩ : ∃ f : gS → Int32 → Int32, f = Fr_X9_settingOnDisk)
def Q_X9_settingOnDisk (σ : gS) (p0 : Int32) : Prop :=
  if p0 = (5 : Int32) then
    (QJ_X9_settingOnDisk_11 p0 σ )
  else
    (if p0 = (6 : Int32) then
      (QJ_X9_settingOnDisk_11 p0 σ )
    else
      (QJ_X9_settingOnDisk_16 p0 σ (0 : Int32)))
set_option maxHeartbeats 4000000 in
set_option maxRecDepth 100000 in
theorem c_X9_settingOnDisk (l : Launch) (g : gE)  (hT : gTab g) {σ : gS} {ζ : gQ} (p0 : Int32) (hQ : Q_X9_settingOnDisk σ p0) : gC l g mX9_settingOnDisk (rm 2 42) [.ref 0, .int p0] (hp σ ζ) (fun r h => r = some (.int (F_X9_settingOnDisk σ p0)) ∧ h = hp σ ζ) := by
  refine gC_of (by decide) (Nat.le_of_ble_eq_true rfl) ?_
  generalize hF : (F_X9_settingOnDisk σ p0) = fr
  rw [F_X9_settingOnDisk_eq] at hF
  unfold Fr_X9_settingOnDisk at hF
  unfold Q_X9_settingOnDisk at hQ
  refine g_iload_n dX9_settingOnDisk_0 rfl rfl rfl ?_
  refine g_iconst (v := 5) dX9_settingOnDisk_1 (by decide) rfl ?_
  refine g_icmpeq (tgt := 11) dX9_settingOnDisk_2 (by decide) rfl (fun c1 => ?_) (fun c1 => ?_)
  · replace hF := ite_p hF c1
    try replace hQ := ite_q hQ c1
    refine g_sub [0, 1] rfl ?_
    exact j_X9_settingOnDisk_11 l g hT () hQ hF
  · replace hF := ite_n hF c1
    try replace hQ := ite_r hQ c1
    refine g_iload_n dX9_settingOnDisk_5 rfl rfl rfl ?_
    refine g_bipush (v := 6) dX9_settingOnDisk_6 (by decide) rfl ?_
    refine g_icmpne (tgt := 15) dX9_settingOnDisk_8 (by decide) rfl (fun c9 => ?_) (fun c9 => ?_)
    · replace hF := ite_n hF c9
      try replace hQ := ite_r hQ c9
      refine g_iconst (v := 0) dX9_settingOnDisk_15 (by decide) rfl ?_
      refine g_sub [0, 1] rfl ?_
      exact j_X9_settingOnDisk_16 l g hT _ hQ hF
    · replace hF := ite_p hF c9
      try replace hQ := ite_q hQ c9
      refine g_sub [0, 1] rfl ?_
      exact j_X9_settingOnDisk_11 l g hT () hQ hF
noncomputable def G_X9_areSettingsOnDisk_L29 (σ : gS) : Nat → Int32 → Int32
  | 0, _ => 0
  | n + 1, y1 =>
    if (9 : Int32) ≤ y1 then
      (1 : Int32)
    else
      let v8 := (F_X9_settingOnDisk σ y1)
      if v8 < (tab 1 (ix y1)) then
        (0 : Int32)
      else
        if v8 ≤ (tab 2 (ix y1)) then
          G_X9_areSettingsOnDisk_L29 σ n (y1 + Int32.ofInt (1))
        else
          (0 : Int32)
def QG_X9_areSettingsOnDisk_L29 (σ : gS) : Nat → Int32 → Prop
  | 0, _ => False
  | n + 1, y1 =>
    if (9 : Int32) ≤ y1 then
      (True)
    else
      ((Q_X9_settingOnDisk σ y1) ∧ (let v8 := (F_X9_settingOnDisk σ y1)
      vp_in y1 9 ∧ (if v8 < (tab 1 (ix y1)) then
        (True)
      else
        (vp_in y1 9 ∧ (if v8 ≤ (tab 2 (ix y1)) then
          (QG_X9_areSettingsOnDisk_L29 σ n (y1 + Int32.ofInt (1)))
        else
          (True))))))
set_option maxHeartbeats 4000000 in
set_option maxRecDepth 100000 in
theorem t_X9_areSettingsOnDisk_L29 (l : Launch) (g : gE) {σ : gS} {ζ : gQ} {fr : Int32} (hT : gTab g) : ∀ (n : Nat) (y1 : Int32), QG_X9_areSettingsOnDisk_L29 σ n y1 → G_X9_areSettingsOnDisk_L29 σ n y1 = fr → gG l g mX9_areSettingsOnDisk (rm 3 64) (gZm g (rm 3 64) (fun r h => r = some (.int fr) ∧ h = hp σ ζ)) 29 [(0, .ref 0), (1, .int y1)] [] (hp σ ζ) 0 0 := by
  intro n
  induction n with
  | zero => intro y1 hQ; exact absurd hQ (by unfold QG_X9_areSettingsOnDisk_L29; exact id)
  | succ n ihL29 =>
    intro y1 hQ hF
    unfold G_X9_areSettingsOnDisk_L29 at hF
    unfold QG_X9_areSettingsOnDisk_L29 at hQ
    refine g_iload_n dX9_areSettingsOnDisk_29 rfl rfl rfl ?_
    refine g_bipush (v := 9) dX9_areSettingsOnDisk_30 (by decide) rfl ?_
    refine g_icmpge (tgt := 67) dX9_areSettingsOnDisk_32 (by decide) rfl (fun c5 => ?_) (fun c5 => ?_)
    · replace hF := ite_p hF c5
      try replace hQ := ite_q hQ c5
      refine g_iconst (v := 1) dX9_areSettingsOnDisk_67 (by decide) rfl ?_
      subst hF
      exact g_zret rfl dX9_areSettingsOnDisk_68 (by decide) (Nat.le_of_ble_eq_true rfl) (Nat.le_of_ble_eq_true rfl) ⟨rfl, rfl⟩
    · replace hF := ite_n hF c5
      try replace hQ := ite_r hQ c5
      refine g_aload_n dX9_areSettingsOnDisk_35 rfl rfl rfl ?_
      refine g_iload_n dX9_areSettingsOnDisk_36 rfl rfl rfl ?_
      have o6 := hQ.1
      replace hQ := hQ.2
      refine g_callv mv_X9_settingOnDisk ml_X9_454 (c_X9_settingOnDisk l g hT _ o6) (ho_0 _ _) rfl rfl (Nat.le_of_ble_eq_true rfl) (Nat.le_of_ble_eq_true rfl) (Nat.le_of_ble_eq_true rfl) (Nat.le_of_ble_eq_true rfl) rfl (Nat.le_of_ble_eq_true rfl) dX9_areSettingsOnDisk_37 rfl (fun r7 hr7 pr7 => ?_)
      obtain ⟨rfl, rfl⟩ := pr7
      refine g_istoreL_n (L1 := [(0, _), (1, _), (2, _)]) dX9_areSettingsOnDisk_40 rfl (by decide) rfl rfl ?_
      refine g_iload_n dX9_areSettingsOnDisk_41 rfl rfl rfl ?_
      refine g_gets (i := 1) rfl fs_X9_457 dX9_areSettingsOnDisk_42 rfl ?_
      refine g_iload_n dX9_areSettingsOnDisk_45 rfl rfl rfl ?_
      have o9 := hQ.1
      replace hQ := hQ.2
      refine g_tld (by decide) (hT 1 (by decide)) o9 dX9_areSettingsOnDisk_46 rfl ?_
      refine g_icmplt (tgt := 59) dX9_areSettingsOnDisk_47 (by decide) rfl (fun c10 => ?_) (fun c10 => ?_)
      · replace hF := ite_p hF c10
        try replace hQ := ite_q hQ c10
        refine g_iconst (v := 0) dX9_areSettingsOnDisk_59 (by decide) rfl ?_
        subst hF
        exact g_zret rfl dX9_areSettingsOnDisk_60 (by decide) (Nat.le_of_ble_eq_true rfl) (Nat.le_of_ble_eq_true rfl) ⟨rfl, rfl⟩
      · replace hF := ite_n hF c10
        try replace hQ := ite_r hQ c10
        refine g_iload_n dX9_areSettingsOnDisk_50 rfl rfl rfl ?_
        refine g_gets (i := 2) rfl fs_X9_460 dX9_areSettingsOnDisk_51 rfl ?_
        refine g_iload_n dX9_areSettingsOnDisk_54 rfl rfl rfl ?_
        have o11 := hQ.1
        replace hQ := hQ.2
        refine g_tld (by decide) (hT 2 (by decide)) o11 dX9_areSettingsOnDisk_55 rfl ?_
        refine g_icmple (tgt := 61) dX9_areSettingsOnDisk_56 (by decide) rfl (fun c12 => ?_) (fun c12 => ?_)
        · replace hF := ite_p hF c12
          try replace hQ := ite_q hQ c12
          refine g_iincL (L1 := [(0, _), (1, _), (2, _)]) dX9_areSettingsOnDisk_61 rfl (by decide) rfl rfl ?_
          refine g_goto (tgt := 29) dX9_areSettingsOnDisk_64 (by decide) ?_
          refine g_sub [0, 1] rfl ?_
          exact ihL29 _ hQ hF
        · replace hF := ite_n hF c12
          try replace hQ := ite_r hQ c12
          refine g_iconst (v := 0) dX9_areSettingsOnDisk_59 (by decide) rfl ?_
          subst hF
          exact g_zret rfl dX9_areSettingsOnDisk_60 (by decide) (Nat.le_of_ble_eq_true rfl) (Nat.le_of_ble_eq_true rfl) ⟨rfl, rfl⟩
noncomputable def Fr_X9_areSettingsOnDisk (σ : gS)  : Int32 :=
  if (σ 3 1) = (17 : Int32) then
    if (F_X0_byteOf σ 3 400 (0 : Int32)) = (83 : Int32) then
      G_X9_areSettingsOnDisk_L29 σ 4000 (0 : Int32)
    else
      (0 : Int32)
  else
    (0 : Int32)
noncomputable def F_X9_areSettingsOnDisk : gS → Int32 := Classical.choose (⟨Fr_X9_areSettingsOnDisk, rfl⟩ : ∃ f : gS → Int32, f = Fr_X9_areSettingsOnDisk)
theorem F_X9_areSettingsOnDisk_eq : F_X9_areSettingsOnDisk = Fr_X9_areSettingsOnDisk := Classical.choose_spec (⟨Fr_X9_areSettingsOnDisk, rfl⟩ : ∃ f : gS → Int32, f = Fr_X9_areSettingsOnDisk)
def Q_X9_areSettingsOnDisk (σ : gS)  : Prop :=
  if (σ 3 1) = (17 : Int32) then
    ((Q_X0_byteOf σ 3 400 (0 : Int32)) ∧ (if (F_X0_byteOf σ 3 400 (0 : Int32)) = (83 : Int32) then
      (QG_X9_areSettingsOnDisk_L29 σ 4000 (0 : Int32))
    else
      (True)))
  else
    (True)
set_option maxHeartbeats 4000000 in
set_option maxRecDepth 100000 in
theorem c_X9_areSettingsOnDisk (l : Launch) (g : gE)  (hT : gTab g) {σ : gS} {ζ : gQ}  (hQ : Q_X9_areSettingsOnDisk σ ) : gC l g mX9_areSettingsOnDisk (rm 3 64) [.ref 0] (hp σ ζ) (fun r h => r = some (.int (F_X9_areSettingsOnDisk σ )) ∧ h = hp σ ζ) := by
  refine gC_of (by decide) (Nat.le_of_ble_eq_true rfl) ?_
  generalize hF : (F_X9_areSettingsOnDisk σ ) = fr
  rw [F_X9_areSettingsOnDisk_eq] at hF
  unfold Fr_X9_areSettingsOnDisk at hF
  unfold Q_X9_areSettingsOnDisk at hQ
  refine g_aload_n dX9_areSettingsOnDisk_0 rfl rfl rfl ?_
  refine g_get gClX9 1 (by decide) fl_X9_18 dX9_areSettingsOnDisk_1 (ho_0 _ _) rfl rfl ?_
  refine g_get gClX0 1 (by decide) fl_X9_103 dX9_areSettingsOnDisk_4 (ho_3 _ _) rfl rfl ?_
  refine g_bipush (v := 17) dX9_areSettingsOnDisk_7 (by decide) rfl ?_
  refine g_icmpne (tgt := 25) dX9_areSettingsOnDisk_9 (by decide) rfl (fun c1 => ?_) (fun c1 => ?_)
  · replace hF := ite_n hF c1
    try replace hQ := ite_r hQ c1
    refine g_iconst (v := 0) dX9_areSettingsOnDisk_25 (by decide) rfl ?_
    subst hF
    exact g_zret rfl dX9_areSettingsOnDisk_26 (by decide) (Nat.le_of_ble_eq_true rfl) (Nat.le_of_ble_eq_true rfl) ⟨rfl, rfl⟩
  · replace hF := ite_p hF c1
    try replace hQ := ite_q hQ c1
    refine g_aload_n dX9_areSettingsOnDisk_12 rfl rfl rfl ?_
    refine g_get gClX9 1 (by decide) fl_X9_18 dX9_areSettingsOnDisk_13 (ho_0 _ _) rfl rfl ?_
    refine g_iconst (v := 0) dX9_areSettingsOnDisk_16 (by decide) rfl ?_
    have o2 := hQ.1
    replace hQ := hQ.2
    refine g_callv mv_X0_byteOf ml_X9_224 (c_X0_byteOf l g isB_disk _ o2) (ho_3 _ _) rfl rfl (Nat.le_of_ble_eq_true rfl) (Nat.le_of_ble_eq_true rfl) (Nat.le_of_ble_eq_true rfl) (Nat.le_of_ble_eq_true rfl) rfl (Nat.le_of_ble_eq_true rfl) dX9_areSettingsOnDisk_17 rfl (fun r3 hr3 pr3 => ?_)
    obtain ⟨rfl, rfl⟩ := pr3
    refine g_bipush (v := 83) dX9_areSettingsOnDisk_20 (by decide) rfl ?_
    refine g_icmpeq (tgt := 27) dX9_areSettingsOnDisk_22 (by decide) rfl (fun c4 => ?_) (fun c4 => ?_)
    · replace hF := ite_p hF c4
      try replace hQ := ite_q hQ c4
      refine g_iconst (v := 0) dX9_areSettingsOnDisk_27 (by decide) rfl ?_
      refine g_istoreL_n (L1 := [(0, _), (1, _)]) dX9_areSettingsOnDisk_28 rfl (by decide) rfl rfl ?_
      refine g_sub [0, 1] rfl ?_
      exact t_X9_areSettingsOnDisk_L29 l g hT 4000 _ hQ hF
    · replace hF := ite_n hF c4
      try replace hQ := ite_r hQ c4
      refine g_iconst (v := 0) dX9_areSettingsOnDisk_25 (by decide) rfl ?_
      subst hF
      exact g_zret rfl dX9_areSettingsOnDisk_26 (by decide) (Nat.le_of_ble_eq_true rfl) (Nat.le_of_ble_eq_true rfl) ⟨rfl, rfl⟩
noncomputable def G_X9_changeSettings_L35  : Nat → Int32 → gS → Int32 × gS
  | 0, _, σ => (0, σ)
  | n + 1, y1, σ =>
    if (9 : Int32) ≤ y1 then
      ((1 : Int32), σ)
    else
      let s12 := (pf σ 6 (ix y1) (F_X9_settingOnDisk σ y1) : gS)
      G_X9_changeSettings_L35  n (y1 + Int32.ofInt (1)) s12
def QG_X9_changeSettings_L35  : Nat → Int32 → gS → Prop
  | 0, _, _ => False
  | n + 1, y1, σ =>
    if (9 : Int32) ≤ y1 then
      (True)
    else
      ((Q_X9_settingOnDisk σ y1) ∧ (vp_in y1 9 ∧ (let s12 := (pf σ 6 (ix y1) (F_X9_settingOnDisk σ y1) : gS)
      QG_X9_changeSettings_L35  n (y1 + Int32.ofInt (1)) s12)))
set_option maxHeartbeats 4000000 in
set_option maxRecDepth 100000 in
theorem t_X9_changeSettings_L35 (l : Launch) (g : gE)  {ζ : gQ} {fr : Int32 × gS} (hT : gTab g) : ∀ (n : Nat) (y1 : Int32) (σ : gS), QG_X9_changeSettings_L35  n y1 σ → G_X9_changeSettings_L35  n y1 σ = fr → gG l g mX9_changeSettings (rm 4 113) (gZm g (rm 4 113) (fun r h => r = some (.int fr.1) ∧ h = hp fr.2 ζ)) 35 [(0, .ref 0), (1, .int y1)] [] (hp σ ζ) 0 0 := by
  intro n
  induction n with
  | zero => intro y1 σ hQ; exact absurd hQ (by unfold QG_X9_changeSettings_L35; exact id)
  | succ n ihL35 =>
    intro y1 σ hQ hF
    unfold G_X9_changeSettings_L35 at hF
    unfold QG_X9_changeSettings_L35 at hQ
    refine g_iload_n dX9_changeSettings_35 rfl rfl rfl ?_
    refine g_bipush (v := 9) dX9_changeSettings_36 (by decide) rfl ?_
    refine g_icmpge (tgt := 58) dX9_changeSettings_38 (by decide) rfl (fun c8 => ?_) (fun c8 => ?_)
    · replace hF := ite_p hF c8
      try replace hQ := ite_q hQ c8
      refine g_iconst (v := 1) dX9_changeSettings_58 (by decide) rfl ?_
      subst hF
      exact g_zret rfl dX9_changeSettings_59 (by decide) (Nat.le_of_ble_eq_true rfl) (Nat.le_of_ble_eq_true rfl) ⟨rfl, rfl⟩
    · replace hF := ite_n hF c8
      try replace hQ := ite_r hQ c8
      refine g_aload_n dX9_changeSettings_41 rfl rfl rfl ?_
      refine g_get gClX9 12 (by decide) fl_X9_40 dX9_changeSettings_42 (ho_0 _ _) rfl rfl ?_
      refine g_iload_n dX9_changeSettings_45 rfl rfl rfl ?_
      refine g_aload_n dX9_changeSettings_46 rfl rfl rfl ?_
      refine g_iload_n dX9_changeSettings_47 rfl rfl rfl ?_
      have o9 := hQ.1
      replace hQ := hQ.2
      refine g_callv mv_X9_settingOnDisk ml_X9_454 (c_X9_settingOnDisk l g hT _ o9) (ho_0 _ _) rfl rfl (Nat.le_of_ble_eq_true rfl) (Nat.le_of_ble_eq_true rfl) (Nat.le_of_ble_eq_true rfl) (Nat.le_of_ble_eq_true rfl) rfl (Nat.le_of_ble_eq_true rfl) dX9_changeSettings_48 rfl (fun r10 hr10 pr10 => ?_)
      obtain ⟨rfl, rfl⟩ := pr10
      have o11 := hQ.1
      replace hQ := hQ.2
      refine g_iast (ha_6 _ _) o11 pa_6 dX9_changeSettings_51 rfl ?_
      refine g_iincL (L1 := [(0, _), (1, _)]) dX9_changeSettings_52 rfl (by decide) rfl rfl ?_
      refine g_goto (tgt := 35) dX9_changeSettings_55 (by decide) ?_
      refine g_sub [0, 1] rfl ?_
      exact ihL35 _ _ hQ hF
noncomputable def Fr_X9_changeSettings (σ : gS)  : Int32 × gS :=
  if (F_X9_areSettingsOnDisk σ ) = 0 then
    let f15 := (F_X9_stepInside σ (60 : Int32) (1 : Int32) (2 : Int32) (10 : Int32))
    ((1 : Int32), f15.2)
  else
    let f6 := (F_X9_stepInside σ (59 : Int32) (0 : Int32) (2 : Int32) (5 : Int32))
    if f6.1 = 0 then
      ((1 : Int32), f6.2)
    else
      G_X9_changeSettings_L35  4000 (0 : Int32) f6.2
noncomputable def F_X9_changeSettings : gS → Int32 × gS := Classical.choose (⟨Fr_X9_changeSettings, rfl⟩ : ∃ f : gS → Int32 × gS, f = Fr_X9_changeSettings)
theorem F_X9_changeSettings_eq : F_X9_changeSettings = Fr_X9_changeSettings := Classical.choose_spec (⟨Fr_X9_changeSettings, rfl⟩ : ∃ f : gS → Int32 × gS, f = Fr_X9_changeSettings)
def Q_X9_changeSettings (σ : gS)  : Prop :=
  (Q_X9_areSettingsOnDisk σ ) ∧ (if (F_X9_areSettingsOnDisk σ ) = 0 then
    ((Q_X9_stepInside σ (60 : Int32) (1 : Int32) (2 : Int32) (10 : Int32)) ∧ (let f15 := (F_X9_stepInside σ (60 : Int32) (1 : Int32) (2 : Int32) (10 : Int32))
    True))
  else
    ((Q_X9_stepInside σ (59 : Int32) (0 : Int32) (2 : Int32) (5 : Int32)) ∧ (let f6 := (F_X9_stepInside σ (59 : Int32) (0 : Int32) (2 : Int32) (5 : Int32))
    if f6.1 = 0 then
      (True)
    else
      (QG_X9_changeSettings_L35  4000 (0 : Int32) f6.2))))
set_option maxHeartbeats 4000000 in
set_option maxRecDepth 100000 in
theorem c_X9_changeSettings (l : Launch) (g : gE)  (hT : gTab g) {σ : gS} {ζ : gQ}  (hQ : Q_X9_changeSettings σ ) : gC l g mX9_changeSettings (rm 4 113) [.ref 0] (hp σ ζ) (fun r h => r = some (.int (F_X9_changeSettings σ ).1) ∧ h = hp (F_X9_changeSettings σ ).2 ζ) := by
  refine gC_of (by decide) (Nat.le_of_ble_eq_true rfl) ?_
  generalize hF : (F_X9_changeSettings σ ) = fr
  rw [F_X9_changeSettings_eq] at hF
  unfold Fr_X9_changeSettings at hF
  unfold Q_X9_changeSettings at hQ
  refine g_aload_n dX9_changeSettings_0 rfl rfl rfl ?_
  have o1 := hQ.1
  replace hQ := hQ.2
  refine g_callv mv_X9_areSettingsOnDisk ml_X9_451 (c_X9_areSettingsOnDisk l g hT o1) (ho_0 _ _) rfl rfl (Nat.le_of_ble_eq_true rfl) (Nat.le_of_ble_eq_true rfl) (Nat.le_of_ble_eq_true rfl) (Nat.le_of_ble_eq_true rfl) rfl (Nat.le_of_ble_eq_true rfl) dX9_changeSettings_1 rfl (fun r2 hr2 pr2 => ?_)
  obtain ⟨rfl, rfl⟩ := pr2
  refine g_ifne (tgt := 21) dX9_changeSettings_4 (by decide) rfl (fun c3 => ?_) (fun c3 => ?_)
  · replace hF := ite_n hF c3
    try replace hQ := ite_r hQ c3
    refine g_aload_n dX9_changeSettings_21 rfl rfl rfl ?_
    refine g_bipush (v := 59) dX9_changeSettings_22 (by decide) rfl ?_
    refine g_iconst (v := 0) dX9_changeSettings_24 (by decide) rfl ?_
    refine g_iconst (v := 2) dX9_changeSettings_25 (by decide) rfl ?_
    refine g_iconst (v := 5) dX9_changeSettings_26 (by decide) rfl ?_
    have o4 := hQ.1
    replace hQ := hQ.2
    refine g_callv mv_X9_stepInside ml_X9_397 (c_X9_stepInside l g _ _ _ _ o4) (ho_0 _ _) rfl rfl (Nat.le_of_ble_eq_true rfl) (Nat.le_of_ble_eq_true rfl) (Nat.le_of_ble_eq_true rfl) (Nat.le_of_ble_eq_true rfl) rfl (Nat.le_of_ble_eq_true rfl) dX9_changeSettings_27 rfl (fun r5 hr5 pr5 => ?_)
    obtain ⟨rfl, rfl⟩ := pr5
    refine g_ifeq (tgt := 58) dX9_changeSettings_30 (by decide) rfl (fun c7 => ?_) (fun c7 => ?_)
    · replace hF := ite_p hF c7
      try replace hQ := ite_q hQ c7
      refine g_iconst (v := 1) dX9_changeSettings_58 (by decide) rfl ?_
      subst hF
      exact g_zret rfl dX9_changeSettings_59 (by decide) (Nat.le_of_ble_eq_true rfl) (Nat.le_of_ble_eq_true rfl) ⟨rfl, rfl⟩
    · replace hF := ite_n hF c7
      try replace hQ := ite_r hQ c7
      refine g_iconst (v := 0) dX9_changeSettings_33 (by decide) rfl ?_
      refine g_istoreL_n (L1 := [(0, _), (1, _)]) dX9_changeSettings_34 rfl (by decide) rfl rfl ?_
      refine g_sub [0, 1] rfl ?_
      exact t_X9_changeSettings_L35 l g hT 4000 _ _ hQ hF
  · replace hF := ite_p hF c3
    try replace hQ := ite_q hQ c3
    refine g_aload_n dX9_changeSettings_7 rfl rfl rfl ?_
    refine g_bipush (v := 60) dX9_changeSettings_8 (by decide) rfl ?_
    refine g_iconst (v := 1) dX9_changeSettings_10 (by decide) rfl ?_
    refine g_iconst (v := 2) dX9_changeSettings_11 (by decide) rfl ?_
    refine g_bipush (v := 10) dX9_changeSettings_12 (by decide) rfl ?_
    have o13 := hQ.1
    replace hQ := hQ.2
    refine g_callv mv_X9_stepInside ml_X9_397 (c_X9_stepInside l g _ _ _ _ o13) (ho_0 _ _) rfl rfl (Nat.le_of_ble_eq_true rfl) (Nat.le_of_ble_eq_true rfl) (Nat.le_of_ble_eq_true rfl) (Nat.le_of_ble_eq_true rfl) rfl (Nat.le_of_ble_eq_true rfl) dX9_changeSettings_14 rfl (fun r14 hr14 pr14 => ?_)
    obtain ⟨rfl, rfl⟩ := pr14
    refine g_pop dX9_changeSettings_17 rfl rfl ?_
    refine g_goto (tgt := 58) dX9_changeSettings_18 (by decide) ?_
    refine g_iconst (v := 1) dX9_changeSettings_58 (by decide) rfl ?_
    subst hF
    exact g_zret rfl dX9_changeSettings_59 (by decide) (Nat.le_of_ble_eq_true rfl) (Nat.le_of_ble_eq_true rfl) ⟨rfl, rfl⟩
noncomputable def Fr_X9_writeOf (σ : gS) (j : Nat) (p1 : Int32) (p2 : Int32) : Int32 × gS :=
  let f3 := (F_X3_write σ (σ 0 10) p1 p2 (σ j 0) (σ j 1))
  (f3.1, f3.2)
noncomputable def F_X9_writeOf : gS → Nat → Int32 → Int32 → Int32 × gS := Classical.choose (⟨Fr_X9_writeOf, rfl⟩ : ∃ f : gS → Nat → Int32 → Int32 → Int32 × gS, f = Fr_X9_writeOf)
theorem F_X9_writeOf_eq : F_X9_writeOf = Fr_X9_writeOf := Classical.choose_spec (⟨Fr_X9_writeOf, rfl⟩ : ∃ f : gS → Nat → Int32 → Int32 → Int32 × gS, f = Fr_X9_writeOf)
def Q_X9_writeOf (σ : gS) (j : Nat) (p1 : Int32) (p2 : Int32) : Prop :=
  (Q_X3_write σ (σ 0 10) p1 p2 (σ j 0) (σ j 1)) ∧ (let f3 := (F_X3_write σ (σ 0 10) p1 p2 (σ j 0) (σ j 1))
  (f3.1 = 0 ∨ f3.1 = 1) ∧ (True))
set_option maxHeartbeats 4000000 in
set_option maxRecDepth 100000 in
theorem c_X9_writeOf (l : Launch) (g : gE) {j : Nat} (hS : isS j) {σ : gS} {ζ : gQ} (p1 : Int32) (p2 : Int32) (hQ : Q_X9_writeOf σ j p1 p2) : gC l g mX9_writeOf (rm 3 88) [.ref 0, .ref j, .int p1, .int p2] (hp σ ζ) (fun r h => r = some (.int (F_X9_writeOf σ j p1 p2).1) ∧ h = hp (F_X9_writeOf σ j p1 p2).2 ζ) := by
  refine gC_of (by decide) (Nat.le_of_ble_eq_true rfl) ?_
  generalize hF : (F_X9_writeOf σ j p1 p2) = fr
  rw [F_X9_writeOf_eq] at hF
  unfold Fr_X9_writeOf at hF
  unfold Q_X9_writeOf at hQ
  refine g_aload_n dX9_writeOf_0 rfl rfl rfl ?_
  refine g_get gClX9 15 (by decide) fl_X9_61 dX9_writeOf_1 (ho_0 _ _) rfl rfl ?_
  refine g_aload_n dX9_writeOf_4 rfl rfl rfl ?_
  refine g_get gClX9 10 (by decide) fl_X9_147 dX9_writeOf_5 (ho_0 _ _) rfl rfl ?_
  refine g_iload_n dX9_writeOf_8 rfl rfl rfl ?_
  refine g_iload_n dX9_writeOf_9 rfl rfl rfl ?_
  refine g_aload_n dX9_writeOf_10 rfl rfl rfl ?_
  refine g_get gClX8 0 (by decide) fl_X9_230 dX9_writeOf_11 (hS.o _ ζ) rfl rfl ?_
  refine g_aload_n dX9_writeOf_14 rfl rfl rfl ?_
  refine g_get gClX8 1 (by decide) fl_X9_235 dX9_writeOf_15 (hS.o _ ζ) rfl rfl ?_
  have o1 := hQ.1
  replace hQ := hQ.2
  refine g_callv mv_X3_write ml_X9_226 (c_X3_write l g _ _ _ _ _ o1) (ho_15 _ _) rfl rfl (Nat.le_of_ble_eq_true rfl) (Nat.le_of_ble_eq_true rfl) (Nat.le_of_ble_eq_true rfl) (Nat.le_of_ble_eq_true rfl) rfl (Nat.le_of_ble_eq_true rfl) dX9_writeOf_18 rfl (fun r2 hr2 pr2 => ?_)
  obtain ⟨rfl, rfl⟩ := pr2
  have o4 := hQ.1
  replace hQ := hQ.2
  subst hF
  exact g_zret rfl dX9_writeOf_21 (gz_n o4) (Nat.le_of_ble_eq_true rfl) (Nat.le_of_ble_eq_true rfl) ⟨rfl, rfl⟩
noncomputable def Fr_X9_openLatch (σ : gS)  : gS :=
  let s1 := (pf σ 18 0 (1 : Int32) : gS)
  let s2 := (pf s1 18 1 ((s1 0 10) + (s1 6 (ix (0 : Int32)))) : gS)
  let s3 := (pf s2 18 2 ((s2 18 1) + (s2 6 (ix (1 : Int32)))) : gS)
  let s4 := (pf s3 19 2 (7 : Int32) : gS)
  s4
noncomputable def F_X9_openLatch : gS → gS := Classical.choose (⟨Fr_X9_openLatch, rfl⟩ : ∃ f : gS → gS, f = Fr_X9_openLatch)
theorem F_X9_openLatch_eq : F_X9_openLatch = Fr_X9_openLatch := Classical.choose_spec (⟨Fr_X9_openLatch, rfl⟩ : ∃ f : gS → gS, f = Fr_X9_openLatch)
set_option maxHeartbeats 4000000 in
set_option maxRecDepth 100000 in
theorem c_X9_openLatch (l : Launch) (g : gE)  {σ : gS} {ζ : gQ}  : gC l g mX9_openLatch (rm 0 0) [.ref 0] (hp σ ζ) (fun r h => r = none ∧ h = hp (F_X9_openLatch σ ) ζ) := by
  refine gC_of (by decide) (Nat.le_of_ble_eq_true rfl) ?_
  generalize hF : (F_X9_openLatch σ ) = fr
  rw [F_X9_openLatch_eq] at hF
  unfold Fr_X9_openLatch at hF
  refine g_aload_n dX9_openLatch_0 rfl rfl rfl ?_
  refine g_get gClX9 16 (by decide) fl_X9_68 dX9_openLatch_1 (ho_0 _ _) rfl rfl ?_
  refine g_iconst (v := 1) dX9_openLatch_4 (by decide) rfl ?_
  refine g_put gClX5 0 (by decide) fl_X9_185 rfl dX9_openLatch_5 (ho_18 _ _) rfl rfl (Nat.le_of_ble_eq_true rfl) po_18_0 rfl ?_
  refine g_aload_n dX9_openLatch_8 rfl rfl rfl ?_
  refine g_get gClX9 16 (by decide) fl_X9_68 dX9_openLatch_9 (ho_0 _ _) rfl rfl ?_
  refine g_aload_n dX9_openLatch_12 rfl rfl rfl ?_
  refine g_get gClX9 10 (by decide) fl_X9_147 dX9_openLatch_13 (ho_0 _ _) rfl rfl ?_
  refine g_aload_n dX9_openLatch_16 rfl rfl rfl ?_
  refine g_get gClX9 12 (by decide) fl_X9_40 dX9_openLatch_17 (ho_0 _ _) rfl rfl ?_
  refine g_iconst (v := 0) dX9_openLatch_20 (by decide) rfl ?_
  refine g_iald (ha_6 _ _) (vinc (by decide)) dX9_openLatch_21 rfl ?_
  refine g_iadd dX9_openLatch_22 rfl ?_
  refine g_put gClX5 1 (by decide) fl_X9_257 rfl dX9_openLatch_23 (ho_18 _ _) rfl rfl (Nat.le_of_ble_eq_true rfl) po_18_1 rfl ?_
  refine g_aload_n dX9_openLatch_26 rfl rfl rfl ?_
  refine g_get gClX9 16 (by decide) fl_X9_68 dX9_openLatch_27 (ho_0 _ _) rfl rfl ?_
  refine g_aload_n dX9_openLatch_30 rfl rfl rfl ?_
  refine g_get gClX9 16 (by decide) fl_X9_68 dX9_openLatch_31 (ho_0 _ _) rfl rfl ?_
  refine g_get gClX5 1 (by decide) fl_X9_257 dX9_openLatch_34 (ho_18 _ _) rfl rfl ?_
  refine g_aload_n dX9_openLatch_37 rfl rfl rfl ?_
  refine g_get gClX9 12 (by decide) fl_X9_40 dX9_openLatch_38 (ho_0 _ _) rfl rfl ?_
  refine g_iconst (v := 1) dX9_openLatch_41 (by decide) rfl ?_
  refine g_iald (ha_6 _ _) (vinc (by decide)) dX9_openLatch_42 rfl ?_
  refine g_iadd dX9_openLatch_43 rfl ?_
  refine g_put gClX5 2 (by decide) fl_X9_260 rfl dX9_openLatch_44 (ho_18 _ _) rfl rfl (Nat.le_of_ble_eq_true rfl) po_18_2 rfl ?_
  refine g_aload_n dX9_openLatch_47 rfl rfl rfl ?_
  refine g_get gClX9 17 (by decide) fl_X9_75 dX9_openLatch_48 (ho_0 _ _) rfl rfl ?_
  refine g_bipush (v := 7) dX9_openLatch_51 (by decide) rfl ?_
  refine g_put gClX6 2 (by decide) fl_X9_192 rfl dX9_openLatch_53 (ho_19 _ _) rfl rfl (Nat.le_of_ble_eq_true rfl) po_19_2 rfl ?_
  subst hF
  exact g_vret rfl dX9_openLatch_56 (Nat.le_of_ble_eq_true rfl) (Nat.le_of_ble_eq_true rfl) ⟨rfl, rfl⟩
noncomputable def Fr_X9_unlock (σ : gS)  : Int32 × gS :=
  let f3 := (F_X9_writeOf σ 22 (61 : Int32) (0 : Int32))
  if f3.1 = 0 then
    ((1 : Int32), f3.2)
  else
    let f7 := (F_X9_stepInside f3.2 (22 : Int32) (0 : Int32) (2 : Int32) (5 : Int32))
    if f7.1 = 0 then
      ((1 : Int32), f7.2)
    else
      let s10 := (F_X9_openLatch f7.2 )
      ((1 : Int32), s10)
noncomputable def F_X9_unlock : gS → Int32 × gS := Classical.choose (⟨Fr_X9_unlock, rfl⟩ : ∃ f : gS → Int32 × gS, f = Fr_X9_unlock)
theorem F_X9_unlock_eq : F_X9_unlock = Fr_X9_unlock := Classical.choose_spec (⟨Fr_X9_unlock, rfl⟩ : ∃ f : gS → Int32 × gS, f = Fr_X9_unlock)
def Q_X9_unlock (σ : gS)  : Prop :=
  (Q_X9_writeOf σ 22 (61 : Int32) (0 : Int32)) ∧ (let f3 := (F_X9_writeOf σ 22 (61 : Int32) (0 : Int32))
  if f3.1 = 0 then
    (True)
  else
    ((Q_X9_stepInside f3.2 (22 : Int32) (0 : Int32) (2 : Int32) (5 : Int32)) ∧ (let f7 := (F_X9_stepInside f3.2 (22 : Int32) (0 : Int32) (2 : Int32) (5 : Int32))
    if f7.1 = 0 then
      (True)
    else
      (let s10 := (F_X9_openLatch f7.2 )
      True))))
set_option maxHeartbeats 4000000 in
set_option maxRecDepth 100000 in
theorem c_X9_unlock (l : Launch) (g : gE)  {σ : gS} {ζ : gQ}  (hQ : Q_X9_unlock σ ) : gC l g mX9_unlock (rm 4 113) [.ref 0] (hp σ ζ) (fun r h => r = some (.int (F_X9_unlock σ ).1) ∧ h = hp (F_X9_unlock σ ).2 ζ) := by
  refine gC_of (by decide) (Nat.le_of_ble_eq_true rfl) ?_
  generalize hF : (F_X9_unlock σ ) = fr
  rw [F_X9_unlock_eq] at hF
  unfold Fr_X9_unlock at hF
  unfold Q_X9_unlock at hQ
  refine g_aload_n dX9_unlock_0 rfl rfl rfl ?_
  refine g_aload_n dX9_unlock_1 rfl rfl rfl ?_
  refine g_get gClX9 18 (by decide) fl_X9_82 dX9_unlock_2 (ho_0 _ _) rfl rfl ?_
  refine g_get gClX2 0 (by decide) fl_X9_250 dX9_unlock_5 (ho_21 _ _) rfl rfl ?_
  refine g_bipush (v := 61) dX9_unlock_8 (by decide) rfl ?_
  refine g_iconst (v := 0) dX9_unlock_10 (by decide) rfl ?_
  have o1 := hQ.1
  replace hQ := hQ.2
  refine g_callv mv_X9_writeOf ml_X9_356 (c_X9_writeOf l g isS_in _ _ o1) (ho_0 _ _) rfl rfl (Nat.le_of_ble_eq_true rfl) (Nat.le_of_ble_eq_true rfl) (Nat.le_of_ble_eq_true rfl) (Nat.le_of_ble_eq_true rfl) rfl (Nat.le_of_ble_eq_true rfl) dX9_unlock_11 rfl (fun r2 hr2 pr2 => ?_)
  obtain ⟨rfl, rfl⟩ := pr2
  refine g_ifeq (tgt := 33) dX9_unlock_14 (by decide) rfl (fun c4 => ?_) (fun c4 => ?_)
  · replace hF := ite_p hF c4
    try replace hQ := ite_q hQ c4
    refine g_iconst (v := 1) dX9_unlock_33 (by decide) rfl ?_
    subst hF
    exact g_zret rfl dX9_unlock_34 (by decide) (Nat.le_of_ble_eq_true rfl) (Nat.le_of_ble_eq_true rfl) ⟨rfl, rfl⟩
  · replace hF := ite_n hF c4
    try replace hQ := ite_r hQ c4
    refine g_aload_n dX9_unlock_17 rfl rfl rfl ?_
    refine g_bipush (v := 22) dX9_unlock_18 (by decide) rfl ?_
    refine g_iconst (v := 0) dX9_unlock_20 (by decide) rfl ?_
    refine g_iconst (v := 2) dX9_unlock_21 (by decide) rfl ?_
    refine g_iconst (v := 5) dX9_unlock_22 (by decide) rfl ?_
    have o5 := hQ.1
    replace hQ := hQ.2
    refine g_callv mv_X9_stepInside ml_X9_397 (c_X9_stepInside l g _ _ _ _ o5) (ho_0 _ _) rfl rfl (Nat.le_of_ble_eq_true rfl) (Nat.le_of_ble_eq_true rfl) (Nat.le_of_ble_eq_true rfl) (Nat.le_of_ble_eq_true rfl) rfl (Nat.le_of_ble_eq_true rfl) dX9_unlock_23 rfl (fun r6 hr6 pr6 => ?_)
    obtain ⟨rfl, rfl⟩ := pr6
    refine g_ifeq (tgt := 33) dX9_unlock_26 (by decide) rfl (fun c8 => ?_) (fun c8 => ?_)
    · replace hF := ite_p hF c8
      try replace hQ := ite_q hQ c8
      refine g_iconst (v := 1) dX9_unlock_33 (by decide) rfl ?_
      subst hF
      exact g_zret rfl dX9_unlock_34 (by decide) (Nat.le_of_ble_eq_true rfl) (Nat.le_of_ble_eq_true rfl) ⟨rfl, rfl⟩
    · replace hF := ite_n hF c8
      try replace hQ := ite_r hQ c8
      refine g_aload_n dX9_unlock_29 rfl rfl rfl ?_
      refine g_callv mv_X9_openLatch ml_X9_360 (c_X9_openLatch l g) (ho_0 _ _) rfl rfl (Nat.le_of_ble_eq_true rfl) (Nat.le_of_ble_eq_true rfl) (Nat.le_of_ble_eq_true rfl) (Nat.le_of_ble_eq_true rfl) rfl (Nat.le_of_ble_eq_true rfl) dX9_unlock_30 rfl (fun r9 hr9 pr9 => ?_)
      obtain ⟨rfl, rfl⟩ := pr9
      refine g_iconst (v := 1) dX9_unlock_33 (by decide) rfl ?_
      subst hF
      exact g_zret rfl dX9_unlock_34 (by decide) (Nat.le_of_ble_eq_true rfl) (Nat.le_of_ble_eq_true rfl) ⟨rfl, rfl⟩
noncomputable def J_X9_shutDown_44  (u0 : Int32) (σ : gS) : Int32 × gS :=
  if u0 = 0 then
    ((1 : Int32), σ)
  else
    let f6 := (F_X9_stepInside σ (62 : Int32) (0 : Int32) (7 : Int32) (12 : Int32))
    if f6.1 = 0 then
      ((1 : Int32), f6.2)
    else
      let s8 := (pf f6.2 18 0 (0 : Int32) : gS)
      let s9 := (pf s8 18 3 (0 : Int32) : gS)
      let s10 := (pf s9 19 1 (0 : Int32) : gS)
      let s11 := (pf s10 19 2 (0 : Int32) : gS)
      let s12 := (pf s11 21 4 (-1 : Int32) : gS)
      ((1 : Int32), s12)
def QJ_X9_shutDown_44  (u0 : Int32) (σ : gS) : Prop :=
  if u0 = 0 then
    (True)
  else
    ((Q_X9_stepInside σ (62 : Int32) (0 : Int32) (7 : Int32) (12 : Int32)) ∧ (let f6 := (F_X9_stepInside σ (62 : Int32) (0 : Int32) (7 : Int32) (12 : Int32))
    if f6.1 = 0 then
      (True)
    else
      (let s8 := (pf f6.2 18 0 (0 : Int32) : gS)
      let s9 := (pf s8 18 3 (0 : Int32) : gS)
      let s10 := (pf s9 19 1 (0 : Int32) : gS)
      let s11 := (pf s10 19 2 (0 : Int32) : gS)
      let s12 := (pf s11 21 4 (-1 : Int32) : gS)
      True)))
set_option maxHeartbeats 4000000 in
set_option maxRecDepth 100000 in
theorem j_X9_shutDown_44 (l : Launch) (g : gE)  {ζ : gQ} {fr : Int32 × gS} : ∀ (u0 : Int32) (σ : gS), QJ_X9_shutDown_44  u0 σ → J_X9_shutDown_44  u0 σ = fr → gG l g mX9_shutDown (rm 4 113) (gZm g (rm 4 113) (fun r h => r = some (.int fr.1) ∧ h = hp fr.2 ζ)) 44 [(0, .ref 0)] [.int u0] (hp σ ζ) 0 0 := by
  intro u0 σ hQ hF
  unfold J_X9_shutDown_44 at hF
  unfold QJ_X9_shutDown_44 at hQ
  refine g_istoreL_n (L1 := [(0, _), (1, _)]) dX9_shutDown_44 rfl (by decide) rfl rfl ?_
  refine g_iload_n dX9_shutDown_45 rfl rfl rfl ?_
  refine g_ifeq (tgt := 103) dX9_shutDown_46 (by decide) rfl (fun c3 => ?_) (fun c3 => ?_)
  · replace hF := ite_p hF c3
    try replace hQ := ite_q hQ c3
    refine g_iconst (v := 1) dX9_shutDown_103 (by decide) rfl ?_
    subst hF
    exact g_zret rfl dX9_shutDown_104 (by decide) (Nat.le_of_ble_eq_true rfl) (Nat.le_of_ble_eq_true rfl) ⟨rfl, rfl⟩
  · replace hF := ite_n hF c3
    try replace hQ := ite_r hQ c3
    refine g_aload_n dX9_shutDown_49 rfl rfl rfl ?_
    refine g_bipush (v := 62) dX9_shutDown_50 (by decide) rfl ?_
    refine g_iconst (v := 0) dX9_shutDown_52 (by decide) rfl ?_
    refine g_bipush (v := 7) dX9_shutDown_53 (by decide) rfl ?_
    refine g_bipush (v := 12) dX9_shutDown_55 (by decide) rfl ?_
    have o4 := hQ.1
    replace hQ := hQ.2
    refine g_callv mv_X9_stepInside ml_X9_397 (c_X9_stepInside l g _ _ _ _ o4) (ho_0 _ _) rfl rfl (Nat.le_of_ble_eq_true rfl) (Nat.le_of_ble_eq_true rfl) (Nat.le_of_ble_eq_true rfl) (Nat.le_of_ble_eq_true rfl) rfl (Nat.le_of_ble_eq_true rfl) dX9_shutDown_57 rfl (fun r5 hr5 pr5 => ?_)
    obtain ⟨rfl, rfl⟩ := pr5
    refine g_ifeq (tgt := 103) dX9_shutDown_60 (by decide) rfl (fun c7 => ?_) (fun c7 => ?_)
    · replace hF := ite_p hF c7
      try replace hQ := ite_q hQ c7
      refine g_iconst (v := 1) dX9_shutDown_103 (by decide) rfl ?_
      subst hF
      exact g_zret rfl dX9_shutDown_104 (by decide) (Nat.le_of_ble_eq_true rfl) (Nat.le_of_ble_eq_true rfl) ⟨rfl, rfl⟩
    · replace hF := ite_n hF c7
      try replace hQ := ite_r hQ c7
      refine g_aload_n dX9_shutDown_63 rfl rfl rfl ?_
      refine g_get gClX9 16 (by decide) fl_X9_68 dX9_shutDown_64 (ho_0 _ _) rfl rfl ?_
      refine g_iconst (v := 0) dX9_shutDown_67 (by decide) rfl ?_
      refine g_put gClX5 0 (by decide) fl_X9_185 rfl dX9_shutDown_68 (ho_18 _ _) rfl rfl (Nat.le_of_ble_eq_true rfl) po_18_0 rfl ?_
      refine g_aload_n dX9_shutDown_71 rfl rfl rfl ?_
      refine g_get gClX9 16 (by decide) fl_X9_68 dX9_shutDown_72 (ho_0 _ _) rfl rfl ?_
      refine g_iconst (v := 0) dX9_shutDown_75 (by decide) rfl ?_
      refine g_put gClX5 3 (by decide) fl_X9_188 rfl dX9_shutDown_76 (ho_18 _ _) rfl rfl (Nat.le_of_ble_eq_true rfl) po_18_3 rfl ?_
      refine g_aload_n dX9_shutDown_79 rfl rfl rfl ?_
      refine g_get gClX9 17 (by decide) fl_X9_75 dX9_shutDown_80 (ho_0 _ _) rfl rfl ?_
      refine g_iconst (v := 0) dX9_shutDown_83 (by decide) rfl ?_
      refine g_put gClX6 1 (by decide) fl_X9_168 rfl dX9_shutDown_84 (ho_19 _ _) rfl rfl (Nat.le_of_ble_eq_true rfl) po_19_1 rfl ?_
      refine g_aload_n dX9_shutDown_87 rfl rfl rfl ?_
      refine g_get gClX9 17 (by decide) fl_X9_75 dX9_shutDown_88 (ho_0 _ _) rfl rfl ?_
      refine g_iconst (v := 0) dX9_shutDown_91 (by decide) rfl ?_
      refine g_put gClX6 2 (by decide) fl_X9_192 rfl dX9_shutDown_92 (ho_19 _ _) rfl rfl (Nat.le_of_ble_eq_true rfl) po_19_2 rfl ?_
      refine g_aload_n dX9_shutDown_95 rfl rfl rfl ?_
      refine g_get gClX9 18 (by decide) fl_X9_82 dX9_shutDown_96 (ho_0 _ _) rfl rfl ?_
      refine g_iconst (v := (-1)) dX9_shutDown_99 (by decide) rfl ?_
      refine g_put gClX2 4 (by decide) fl_X9_198 rfl dX9_shutDown_100 (ho_21 _ _) rfl rfl (Nat.le_of_ble_eq_true rfl) po_21_4 rfl ?_
      refine g_iconst (v := 1) dX9_shutDown_103 (by decide) rfl ?_
      subst hF
      exact g_zret rfl dX9_shutDown_104 (by decide) (Nat.le_of_ble_eq_true rfl) (Nat.le_of_ble_eq_true rfl) ⟨rfl, rfl⟩
noncomputable def J_X9_shutDown_39  (σ : gS) : Int32 × gS :=
  J_X9_shutDown_44  (1 : Int32) σ
def QJ_X9_shutDown_39  (σ : gS) : Prop :=
  QJ_X9_shutDown_44  (1 : Int32) σ
set_option maxHeartbeats 4000000 in
set_option maxRecDepth 100000 in
theorem j_X9_shutDown_39 (l : Launch) (g : gE)  {ζ : gQ} {fr : Int32 × gS} : ∀ (σ : gS), QJ_X9_shutDown_39  σ → J_X9_shutDown_39  σ = fr → gG l g mX9_shutDown (rm 4 113) (gZm g (rm 4 113) (fun r h => r = some (.int fr.1) ∧ h = hp fr.2 ζ)) 39 [(0, .ref 0)] [] (hp σ ζ) 0 0 := by
  intro σ hQ hF
  unfold J_X9_shutDown_39 at hF
  unfold QJ_X9_shutDown_39 at hQ
  refine g_iconst (v := 1) dX9_shutDown_39 (by decide) rfl ?_
  refine g_goto (tgt := 44) dX9_shutDown_40 (by decide) ?_
  refine g_sub [0] rfl ?_
  exact j_X9_shutDown_44 l g _ _ hQ hF
noncomputable def Fr_X9_shutDown (σ : gS)  : Int32 × gS :=
  if (σ 0 7) = 0 then
    if (σ 18 0) = 0 then
      J_X9_shutDown_39  σ
    else
      let f15 := (F_X9_write σ (23 : Int32) (0 : Int32))
      if f15.1 = 0 then
        J_X9_shutDown_44  (0 : Int32) f15.2
      else
        J_X9_shutDown_39  f15.2
  else
    let f19 := (F_X9_stepInside σ (63 : Int32) (1 : Int32) (2 : Int32) (5 : Int32))
    ((1 : Int32), f19.2)
noncomputable def F_X9_shutDown : gS → Int32 × gS := Classical.choose (⟨Fr_X9_shutDown, rfl⟩ : ∃ f : gS → Int32 × gS, f = Fr_X9_shutDown)
theorem F_X9_shutDown_eq : F_X9_shutDown = Fr_X9_shutDown := Classical.choose_spec (⟨Fr_X9_shutDown, rfl⟩ : ∃ f : gS → Int32 × gS, f = Fr_X9_shutDown)
def Q_X9_shutDown (σ : gS)  : Prop :=
  if (σ 0 7) = 0 then
    (if (σ 18 0) = 0 then
      (QJ_X9_shutDown_39  σ)
    else
      ((Q_X9_write σ (23 : Int32) (0 : Int32)) ∧ (let f15 := (F_X9_write σ (23 : Int32) (0 : Int32))
      if f15.1 = 0 then
        (QJ_X9_shutDown_44  (0 : Int32) f15.2)
      else
        (QJ_X9_shutDown_39  f15.2))))
  else
    ((Q_X9_stepInside σ (63 : Int32) (1 : Int32) (2 : Int32) (5 : Int32)) ∧ (let f19 := (F_X9_stepInside σ (63 : Int32) (1 : Int32) (2 : Int32) (5 : Int32))
    True))
set_option maxHeartbeats 4000000 in
set_option maxRecDepth 100000 in
theorem c_X9_shutDown (l : Launch) (g : gE)  {σ : gS} {ζ : gQ}  (hQ : Q_X9_shutDown σ ) : gC l g mX9_shutDown (rm 4 113) [.ref 0] (hp σ ζ) (fun r h => r = some (.int (F_X9_shutDown σ ).1) ∧ h = hp (F_X9_shutDown σ ).2 ζ) := by
  refine gC_of (by decide) (Nat.le_of_ble_eq_true rfl) ?_
  generalize hF : (F_X9_shutDown σ ) = fr
  rw [F_X9_shutDown_eq] at hF
  unfold Fr_X9_shutDown at hF
  unfold Q_X9_shutDown at hQ
  refine g_aload_n dX9_shutDown_0 rfl rfl rfl ?_
  refine g_get gClX9 7 (by decide) fl_X9_133 dX9_shutDown_1 (ho_0 _ _) rfl rfl ?_
  refine g_ifeq (tgt := 19) dX9_shutDown_4 (by decide) rfl (fun c1 => ?_) (fun c1 => ?_)
  · replace hF := ite_p hF c1
    try replace hQ := ite_q hQ c1
    refine g_aload_n dX9_shutDown_19 rfl rfl rfl ?_
    refine g_get gClX9 16 (by decide) fl_X9_68 dX9_shutDown_20 (ho_0 _ _) rfl rfl ?_
    refine g_get gClX5 0 (by decide) fl_X9_185 dX9_shutDown_23 (ho_18 _ _) rfl rfl ?_
    refine g_ifeq (tgt := 39) dX9_shutDown_26 (by decide) rfl (fun c2 => ?_) (fun c2 => ?_)
    · replace hF := ite_p hF c2
      try replace hQ := ite_q hQ c2
      refine g_sub [0] rfl ?_
      exact j_X9_shutDown_39 l g _ hQ hF
    · replace hF := ite_n hF c2
      try replace hQ := ite_r hQ c2
      refine g_aload_n dX9_shutDown_29 rfl rfl rfl ?_
      refine g_bipush (v := 23) dX9_shutDown_30 (by decide) rfl ?_
      refine g_iconst (v := 0) dX9_shutDown_32 (by decide) rfl ?_
      have o13 := hQ.1
      replace hQ := hQ.2
      refine g_callv mv_X9_write ml_X9_254 (c_X9_write l g _ _ o13) (ho_0 _ _) rfl rfl (Nat.le_of_ble_eq_true rfl) (Nat.le_of_ble_eq_true rfl) (Nat.le_of_ble_eq_true rfl) (Nat.le_of_ble_eq_true rfl) rfl (Nat.le_of_ble_eq_true rfl) dX9_shutDown_33 rfl (fun r14 hr14 pr14 => ?_)
      obtain ⟨rfl, rfl⟩ := pr14
      refine g_ifeq (tgt := 43) dX9_shutDown_36 (by decide) rfl (fun c16 => ?_) (fun c16 => ?_)
      · replace hF := ite_p hF c16
        try replace hQ := ite_q hQ c16
        refine g_iconst (v := 0) dX9_shutDown_43 (by decide) rfl ?_
        refine g_sub [0] rfl ?_
        exact j_X9_shutDown_44 l g _ _ hQ hF
      · replace hF := ite_n hF c16
        try replace hQ := ite_r hQ c16
        refine g_sub [0] rfl ?_
        exact j_X9_shutDown_39 l g _ hQ hF
  · replace hF := ite_n hF c1
    try replace hQ := ite_r hQ c1
    refine g_aload_n dX9_shutDown_7 rfl rfl rfl ?_
    refine g_bipush (v := 63) dX9_shutDown_8 (by decide) rfl ?_
    refine g_iconst (v := 1) dX9_shutDown_10 (by decide) rfl ?_
    refine g_iconst (v := 2) dX9_shutDown_11 (by decide) rfl ?_
    refine g_iconst (v := 5) dX9_shutDown_12 (by decide) rfl ?_
    have o17 := hQ.1
    replace hQ := hQ.2
    refine g_callv mv_X9_stepInside ml_X9_397 (c_X9_stepInside l g _ _ _ _ o17) (ho_0 _ _) rfl rfl (Nat.le_of_ble_eq_true rfl) (Nat.le_of_ble_eq_true rfl) (Nat.le_of_ble_eq_true rfl) (Nat.le_of_ble_eq_true rfl) rfl (Nat.le_of_ble_eq_true rfl) dX9_shutDown_13 rfl (fun r18 hr18 pr18 => ?_)
    obtain ⟨rfl, rfl⟩ := pr18
    refine g_pop dX9_shutDown_16 rfl rfl ?_
    refine g_iconst (v := 1) dX9_shutDown_17 (by decide) rfl ?_
    subst hF
    exact g_zret rfl dX9_shutDown_18 (by decide) (Nat.le_of_ble_eq_true rfl) (Nat.le_of_ble_eq_true rfl) ⟨rfl, rfl⟩
noncomputable def Fr_X9_startRequest (σ : gS)  : Int32 × gS :=
  if (σ 21 5) = 1 then
    if (σ 0 2) = 0 then
      let f5 := (F_X9_askForDisk σ )
      (f5.1, f5.2)
    else
      let f9 := (F_X9_startArchive σ )
      (f9.1, f9.2)
  else
    if (σ 21 5) = 2 then
      if (σ 0 2) = 0 then
        let f15 := (F_X9_askForDisk σ )
        (f15.1, f15.2)
      else
        let f19 := (F_X9_changeSettings σ )
        (f19.1, f19.2)
    else
      if (σ 21 5) = 3 then
        let f24 := (F_X9_unlock σ )
        (f24.1, f24.2)
      else
        if (σ 21 5) = 4 then
          let f29 := (F_X9_shutDown σ )
          (f29.1, f29.2)
        else
          ((0 : Int32), σ)
noncomputable def F_X9_startRequest : gS → Int32 × gS := Classical.choose (⟨Fr_X9_startRequest, rfl⟩ : ∃ f : gS → Int32 × gS, f = Fr_X9_startRequest)
theorem F_X9_startRequest_eq : F_X9_startRequest = Fr_X9_startRequest := Classical.choose_spec (⟨Fr_X9_startRequest, rfl⟩ : ∃ f : gS → Int32 × gS, f = Fr_X9_startRequest)
def Q_X9_startRequest (σ : gS)  : Prop :=
  if (σ 21 5) = 1 then
    (if (σ 0 2) = 0 then
      ((Q_X9_askForDisk σ ) ∧ (let f5 := (F_X9_askForDisk σ )
      (f5.1 = 0 ∨ f5.1 = 1) ∧ (True)))
    else
      ((Q_X9_startArchive σ ) ∧ (let f9 := (F_X9_startArchive σ )
      (f9.1 = 0 ∨ f9.1 = 1) ∧ (True))))
  else
    (if (σ 21 5) = 2 then
      (if (σ 0 2) = 0 then
        ((Q_X9_askForDisk σ ) ∧ (let f15 := (F_X9_askForDisk σ )
        (f15.1 = 0 ∨ f15.1 = 1) ∧ (True)))
      else
        ((Q_X9_changeSettings σ ) ∧ (let f19 := (F_X9_changeSettings σ )
        (f19.1 = 0 ∨ f19.1 = 1) ∧ (True))))
    else
      (if (σ 21 5) = 3 then
        ((Q_X9_unlock σ ) ∧ (let f24 := (F_X9_unlock σ )
        (f24.1 = 0 ∨ f24.1 = 1) ∧ (True)))
      else
        (if (σ 21 5) = 4 then
          ((Q_X9_shutDown σ ) ∧ (let f29 := (F_X9_shutDown σ )
          (f29.1 = 0 ∨ f29.1 = 1) ∧ (True)))
        else
          (True))))
set_option maxHeartbeats 4000000 in
set_option maxRecDepth 100000 in
theorem c_X9_startRequest (l : Launch) (g : gE)  (hT : gTab g) {σ : gS} {ζ : gQ}  (hQ : Q_X9_startRequest σ ) : gC l g mX9_startRequest (rm 5 134) [.ref 0] (hp σ ζ) (fun r h => r = some (.int (F_X9_startRequest σ ).1) ∧ h = hp (F_X9_startRequest σ ).2 ζ) := by
  refine gC_of (by decide) (Nat.le_of_ble_eq_true rfl) ?_
  generalize hF : (F_X9_startRequest σ ) = fr
  rw [F_X9_startRequest_eq] at hF
  unfold Fr_X9_startRequest at hF
  unfold Q_X9_startRequest at hQ
  refine g_aload_n dX9_startRequest_0 rfl rfl rfl ?_
  refine g_get gClX9 18 (by decide) fl_X9_82 dX9_startRequest_1 (ho_0 _ _) rfl rfl ?_
  refine g_get gClX2 5 (by decide) fl_X9_406 dX9_startRequest_4 (ho_21 _ _) rfl rfl ?_
  refine g_case 1 (fun c1 => ?_) (fun c1 => ?_)
  · replace hF := ite_p hF c1
    try replace hQ := ite_q hQ c1
    refine g_table (tgt := 36) dX9_startRequest_7 (by decide) (by decide) ?_
    refine g_aload_n dX9_startRequest_36 rfl rfl rfl ?_
    refine g_get gClX9 2 (by decide) fl_X9_139 dX9_startRequest_37 (ho_0 _ _) rfl rfl ?_
    refine g_ifeq (tgt := 50) dX9_startRequest_40 (by decide) rfl (fun c2 => ?_) (fun c2 => ?_)
    · replace hF := ite_p hF c2
      try replace hQ := ite_q hQ c2
      refine g_aload_n dX9_startRequest_50 rfl rfl rfl ?_
      have o3 := hQ.1
      replace hQ := hQ.2
      refine g_callv mv_X9_askForDisk ml_X9_412 (c_X9_askForDisk l g o3) (ho_0 _ _) rfl rfl (Nat.le_of_ble_eq_true rfl) (Nat.le_of_ble_eq_true rfl) (Nat.le_of_ble_eq_true rfl) (Nat.le_of_ble_eq_true rfl) rfl (Nat.le_of_ble_eq_true rfl) dX9_startRequest_51 rfl (fun r4 hr4 pr4 => ?_)
      obtain ⟨rfl, rfl⟩ := pr4
      have o6 := hQ.1
      replace hQ := hQ.2
      subst hF
      exact g_zret rfl dX9_startRequest_54 (gz_n o6) (Nat.le_of_ble_eq_true rfl) (Nat.le_of_ble_eq_true rfl) ⟨rfl, rfl⟩
    · replace hF := ite_n hF c2
      try replace hQ := ite_r hQ c2
      refine g_aload_n dX9_startRequest_43 rfl rfl rfl ?_
      have o7 := hQ.1
      replace hQ := hQ.2
      refine g_callv mv_X9_startArchive ml_X9_409 (c_X9_startArchive l g o7) (ho_0 _ _) rfl rfl (Nat.le_of_ble_eq_true rfl) (Nat.le_of_ble_eq_true rfl) (Nat.le_of_ble_eq_true rfl) (Nat.le_of_ble_eq_true rfl) rfl (Nat.le_of_ble_eq_true rfl) dX9_startRequest_44 rfl (fun r8 hr8 pr8 => ?_)
      obtain ⟨rfl, rfl⟩ := pr8
      refine g_goto (tgt := 54) dX9_startRequest_47 (by decide) ?_
      have o10 := hQ.1
      replace hQ := hQ.2
      subst hF
      exact g_zret rfl dX9_startRequest_54 (gz_n o10) (Nat.le_of_ble_eq_true rfl) (Nat.le_of_ble_eq_true rfl) ⟨rfl, rfl⟩
  · replace hF := ite_n hF c1
    try replace hQ := ite_r hQ c1
    refine g_case 2 (fun c11 => ?_) (fun c11 => ?_)
    · replace hF := ite_p hF c11
      try replace hQ := ite_q hQ c11
      refine g_table (tgt := 55) dX9_startRequest_7 (by decide) (by decide) ?_
      refine g_aload_n dX9_startRequest_55 rfl rfl rfl ?_
      refine g_get gClX9 2 (by decide) fl_X9_139 dX9_startRequest_56 (ho_0 _ _) rfl rfl ?_
      refine g_ifeq (tgt := 69) dX9_startRequest_59 (by decide) rfl (fun c12 => ?_) (fun c12 => ?_)
      · replace hF := ite_p hF c12
        try replace hQ := ite_q hQ c12
        refine g_aload_n dX9_startRequest_69 rfl rfl rfl ?_
        have o13 := hQ.1
        replace hQ := hQ.2
        refine g_callv mv_X9_askForDisk ml_X9_412 (c_X9_askForDisk l g o13) (ho_0 _ _) rfl rfl (Nat.le_of_ble_eq_true rfl) (Nat.le_of_ble_eq_true rfl) (Nat.le_of_ble_eq_true rfl) (Nat.le_of_ble_eq_true rfl) rfl (Nat.le_of_ble_eq_true rfl) dX9_startRequest_70 rfl (fun r14 hr14 pr14 => ?_)
        obtain ⟨rfl, rfl⟩ := pr14
        have o16 := hQ.1
        replace hQ := hQ.2
        subst hF
        exact g_zret rfl dX9_startRequest_73 (gz_n o16) (Nat.le_of_ble_eq_true rfl) (Nat.le_of_ble_eq_true rfl) ⟨rfl, rfl⟩
      · replace hF := ite_n hF c12
        try replace hQ := ite_r hQ c12
        refine g_aload_n dX9_startRequest_62 rfl rfl rfl ?_
        have o17 := hQ.1
        replace hQ := hQ.2
        refine g_callv mv_X9_changeSettings ml_X9_415 (c_X9_changeSettings l g hT o17) (ho_0 _ _) rfl rfl (Nat.le_of_ble_eq_true rfl) (Nat.le_of_ble_eq_true rfl) (Nat.le_of_ble_eq_true rfl) (Nat.le_of_ble_eq_true rfl) rfl (Nat.le_of_ble_eq_true rfl) dX9_startRequest_63 rfl (fun r18 hr18 pr18 => ?_)
        obtain ⟨rfl, rfl⟩ := pr18
        refine g_goto (tgt := 73) dX9_startRequest_66 (by decide) ?_
        have o20 := hQ.1
        replace hQ := hQ.2
        subst hF
        exact g_zret rfl dX9_startRequest_73 (gz_n o20) (Nat.le_of_ble_eq_true rfl) (Nat.le_of_ble_eq_true rfl) ⟨rfl, rfl⟩
    · replace hF := ite_n hF c11
      try replace hQ := ite_r hQ c11
      refine g_case 3 (fun c21 => ?_) (fun c21 => ?_)
      · replace hF := ite_p hF c21
        try replace hQ := ite_q hQ c21
        refine g_table (tgt := 74) dX9_startRequest_7 (by decide) (by decide) ?_
        refine g_aload_n dX9_startRequest_74 rfl rfl rfl ?_
        have o22 := hQ.1
        replace hQ := hQ.2
        refine g_callv mv_X9_unlock ml_X9_418 (c_X9_unlock l g o22) (ho_0 _ _) rfl rfl (Nat.le_of_ble_eq_true rfl) (Nat.le_of_ble_eq_true rfl) (Nat.le_of_ble_eq_true rfl) (Nat.le_of_ble_eq_true rfl) rfl (Nat.le_of_ble_eq_true rfl) dX9_startRequest_75 rfl (fun r23 hr23 pr23 => ?_)
        obtain ⟨rfl, rfl⟩ := pr23
        have o25 := hQ.1
        replace hQ := hQ.2
        subst hF
        exact g_zret rfl dX9_startRequest_78 (gz_n o25) (Nat.le_of_ble_eq_true rfl) (Nat.le_of_ble_eq_true rfl) ⟨rfl, rfl⟩
      · replace hF := ite_n hF c21
        try replace hQ := ite_r hQ c21
        refine g_case 4 (fun c26 => ?_) (fun c26 => ?_)
        · replace hF := ite_p hF c26
          try replace hQ := ite_q hQ c26
          refine g_table (tgt := 79) dX9_startRequest_7 (by decide) (by decide) ?_
          refine g_aload_n dX9_startRequest_79 rfl rfl rfl ?_
          have o27 := hQ.1
          replace hQ := hQ.2
          refine g_callv mv_X9_shutDown ml_X9_421 (c_X9_shutDown l g o27) (ho_0 _ _) rfl rfl (Nat.le_of_ble_eq_true rfl) (Nat.le_of_ble_eq_true rfl) (Nat.le_of_ble_eq_true rfl) (Nat.le_of_ble_eq_true rfl) rfl (Nat.le_of_ble_eq_true rfl) dX9_startRequest_80 rfl (fun r28 hr28 pr28 => ?_)
          obtain ⟨rfl, rfl⟩ := pr28
          have o30 := hQ.1
          replace hQ := hQ.2
          subst hF
          exact g_zret rfl dX9_startRequest_83 (gz_n o30) (Nat.le_of_ble_eq_true rfl) (Nat.le_of_ble_eq_true rfl) ⟨rfl, rfl⟩
        · replace hF := ite_n hF c26
          try replace hQ := ite_r hQ c26
          refine g_table (tgt := 84) dX9_startRequest_7 (by decide) (gt_out (lo := 1) (hi := 4) (by decide) (fun k h1 h2 => by rcases (show k = 1 ∨ k = 2 ∨ k = 3 ∨ k = 4 by omega) with rfl | rfl | rfl | rfl <;> first | exact c1 | exact c11 | exact c21 | exact c26) (by decide)) ?_
          refine g_iconst (v := 0) dX9_startRequest_84 (by decide) rfl ?_
          subst hF
          exact g_zret rfl dX9_startRequest_85 (by decide) (Nat.le_of_ble_eq_true rfl) (Nat.le_of_ble_eq_true rfl) ⟨rfl, rfl⟩
noncomputable def Fr_X9_isArchiveOnDisk (σ : gS)  : Int32 :=
  if (σ 0 2) = 0 then
    (0 : Int32)
  else
    if (F_X3_oldestNumber σ ) = (σ 21 6) then
      if (F_X0_byteOf σ 3 400 (0 : Int32)) = (82 : Int32) then
        if (F_X3_areOldest σ (σ 21 7) (1 : Int32)) = 0 then
          (0 : Int32)
        else
          (1 : Int32)
      else
        (0 : Int32)
    else
      (0 : Int32)
noncomputable def F_X9_isArchiveOnDisk : gS → Int32 := Classical.choose (⟨Fr_X9_isArchiveOnDisk, rfl⟩ : ∃ f : gS → Int32, f = Fr_X9_isArchiveOnDisk)
theorem F_X9_isArchiveOnDisk_eq : F_X9_isArchiveOnDisk = Fr_X9_isArchiveOnDisk := Classical.choose_spec (⟨Fr_X9_isArchiveOnDisk, rfl⟩ : ∃ f : gS → Int32, f = Fr_X9_isArchiveOnDisk)
def Q_X9_isArchiveOnDisk (σ : gS)  : Prop :=
  if (σ 0 2) = 0 then
    (True)
  else
    (if (F_X3_oldestNumber σ ) = (σ 21 6) then
      ((Q_X0_byteOf σ 3 400 (0 : Int32)) ∧ (if (F_X0_byteOf σ 3 400 (0 : Int32)) = (82 : Int32) then
        ((Q_X3_areOldest σ (σ 21 7) (1 : Int32)) ∧ (if (F_X3_areOldest σ (σ 21 7) (1 : Int32)) = 0 then
          (True)
        else
          (True)))
      else
        (True)))
    else
      (True))
set_option maxHeartbeats 4000000 in
set_option maxRecDepth 100000 in
theorem c_X9_isArchiveOnDisk (l : Launch) (g : gE)  {σ : gS} {ζ : gQ}  (hQ : Q_X9_isArchiveOnDisk σ ) : gC l g mX9_isArchiveOnDisk (rm 3 70) [.ref 0] (hp σ ζ) (fun r h => r = some (.int (F_X9_isArchiveOnDisk σ )) ∧ h = hp σ ζ) := by
  refine gC_of (by decide) (Nat.le_of_ble_eq_true rfl) ?_
  generalize hF : (F_X9_isArchiveOnDisk σ ) = fr
  rw [F_X9_isArchiveOnDisk_eq] at hF
  unfold Fr_X9_isArchiveOnDisk at hF
  unfold Q_X9_isArchiveOnDisk at hQ
  refine g_aload_n dX9_isArchiveOnDisk_0 rfl rfl rfl ?_
  refine g_get gClX9 2 (by decide) fl_X9_139 dX9_isArchiveOnDisk_1 (ho_0 _ _) rfl rfl ?_
  refine g_ifeq (tgt := 63) dX9_isArchiveOnDisk_4 (by decide) rfl (fun c1 => ?_) (fun c1 => ?_)
  · replace hF := ite_p hF c1
    try replace hQ := ite_q hQ c1
    refine g_iconst (v := 0) dX9_isArchiveOnDisk_63 (by decide) rfl ?_
    subst hF
    exact g_zret rfl dX9_isArchiveOnDisk_64 (by decide) (Nat.le_of_ble_eq_true rfl) (Nat.le_of_ble_eq_true rfl) ⟨rfl, rfl⟩
  · replace hF := ite_n hF c1
    try replace hQ := ite_r hQ c1
    refine g_aload_n dX9_isArchiveOnDisk_7 rfl rfl rfl ?_
    refine g_get gClX9 15 (by decide) fl_X9_61 dX9_isArchiveOnDisk_8 (ho_0 _ _) rfl rfl ?_
    refine g_callv mv_X3_oldestNumber ml_X9_424 (c_X3_oldestNumber l g) (ho_15 _ _) rfl rfl (Nat.le_of_ble_eq_true rfl) (Nat.le_of_ble_eq_true rfl) (Nat.le_of_ble_eq_true rfl) (Nat.le_of_ble_eq_true rfl) rfl (Nat.le_of_ble_eq_true rfl) dX9_isArchiveOnDisk_11 rfl (fun r2 hr2 pr2 => ?_)
    obtain ⟨rfl, rfl⟩ := pr2
    refine g_aload_n dX9_isArchiveOnDisk_14 rfl rfl rfl ?_
    refine g_get gClX9 18 (by decide) fl_X9_82 dX9_isArchiveOnDisk_15 (ho_0 _ _) rfl rfl ?_
    refine g_get gClX2 6 (by decide) fl_X9_427 dX9_isArchiveOnDisk_18 (ho_21 _ _) rfl rfl ?_
    refine g_icmpne (tgt := 63) dX9_isArchiveOnDisk_21 (by decide) rfl (fun c3 => ?_) (fun c3 => ?_)
    · replace hF := ite_n hF c3
      try replace hQ := ite_r hQ c3
      refine g_iconst (v := 0) dX9_isArchiveOnDisk_63 (by decide) rfl ?_
      subst hF
      exact g_zret rfl dX9_isArchiveOnDisk_64 (by decide) (Nat.le_of_ble_eq_true rfl) (Nat.le_of_ble_eq_true rfl) ⟨rfl, rfl⟩
    · replace hF := ite_p hF c3
      try replace hQ := ite_q hQ c3
      refine g_aload_n dX9_isArchiveOnDisk_24 rfl rfl rfl ?_
      refine g_get gClX9 1 (by decide) fl_X9_18 dX9_isArchiveOnDisk_25 (ho_0 _ _) rfl rfl ?_
      refine g_iconst (v := 0) dX9_isArchiveOnDisk_28 (by decide) rfl ?_
      have o4 := hQ.1
      replace hQ := hQ.2
      refine g_callv mv_X0_byteOf ml_X9_224 (c_X0_byteOf l g isB_disk _ o4) (ho_3 _ _) rfl rfl (Nat.le_of_ble_eq_true rfl) (Nat.le_of_ble_eq_true rfl) (Nat.le_of_ble_eq_true rfl) (Nat.le_of_ble_eq_true rfl) rfl (Nat.le_of_ble_eq_true rfl) dX9_isArchiveOnDisk_29 rfl (fun r5 hr5 pr5 => ?_)
      obtain ⟨rfl, rfl⟩ := pr5
      refine g_bipush (v := 82) dX9_isArchiveOnDisk_32 (by decide) rfl ?_
      refine g_icmpne (tgt := 63) dX9_isArchiveOnDisk_34 (by decide) rfl (fun c6 => ?_) (fun c6 => ?_)
      · replace hF := ite_n hF c6
        try replace hQ := ite_r hQ c6
        refine g_iconst (v := 0) dX9_isArchiveOnDisk_63 (by decide) rfl ?_
        subst hF
        exact g_zret rfl dX9_isArchiveOnDisk_64 (by decide) (Nat.le_of_ble_eq_true rfl) (Nat.le_of_ble_eq_true rfl) ⟨rfl, rfl⟩
      · replace hF := ite_p hF c6
        try replace hQ := ite_q hQ c6
        refine g_aload_n dX9_isArchiveOnDisk_37 rfl rfl rfl ?_
        refine g_get gClX9 15 (by decide) fl_X9_61 dX9_isArchiveOnDisk_38 (ho_0 _ _) rfl rfl ?_
        refine g_aload_n dX9_isArchiveOnDisk_41 rfl rfl rfl ?_
        refine g_get gClX9 18 (by decide) fl_X9_82 dX9_isArchiveOnDisk_42 (ho_0 _ _) rfl rfl ?_
        refine g_get gClX2 7 (by decide) fl_X9_435 dX9_isArchiveOnDisk_45 (ho_21 _ _) rfl rfl ?_
        refine g_aload_n dX9_isArchiveOnDisk_48 rfl rfl rfl ?_
        refine g_get gClX9 1 (by decide) fl_X9_18 dX9_isArchiveOnDisk_49 (ho_0 _ _) rfl rfl ?_
        refine g_iconst (v := 1) dX9_isArchiveOnDisk_52 (by decide) rfl ?_
        have o7 := hQ.1
        replace hQ := hQ.2
        refine g_callv mv_X3_areOldest ml_X9_447 (c_X3_areOldest l g _ _ o7) (ho_15 _ _) rfl rfl (Nat.le_of_ble_eq_true rfl) (Nat.le_of_ble_eq_true rfl) (Nat.le_of_ble_eq_true rfl) (Nat.le_of_ble_eq_true rfl) rfl (Nat.le_of_ble_eq_true rfl) dX9_isArchiveOnDisk_53 rfl (fun r8 hr8 pr8 => ?_)
        obtain ⟨rfl, rfl⟩ := pr8
        refine g_ifeq (tgt := 63) dX9_isArchiveOnDisk_56 (by decide) rfl (fun c9 => ?_) (fun c9 => ?_)
        · replace hF := ite_p hF c9
          try replace hQ := ite_q hQ c9
          refine g_iconst (v := 0) dX9_isArchiveOnDisk_63 (by decide) rfl ?_
          subst hF
          exact g_zret rfl dX9_isArchiveOnDisk_64 (by decide) (Nat.le_of_ble_eq_true rfl) (Nat.le_of_ble_eq_true rfl) ⟨rfl, rfl⟩
        · replace hF := ite_n hF c9
          try replace hQ := ite_r hQ c9
          refine g_iconst (v := 1) dX9_isArchiveOnDisk_59 (by decide) rfl ?_
          refine g_goto (tgt := 64) dX9_isArchiveOnDisk_60 (by decide) ?_
          subst hF
          exact g_zret rfl dX9_isArchiveOnDisk_64 (by decide) (Nat.le_of_ble_eq_true rfl) (Nat.le_of_ble_eq_true rfl) ⟨rfl, rfl⟩
noncomputable def Fr_X9_endArchive (σ : gS)  : Int32 × gS :=
  if (F_X9_isArchiveOnDisk σ ) = 0 then
    let f15 := (F_X9_stepInside σ (58 : Int32) (1 : Int32) (2 : Int32) (11 : Int32))
    ((1 : Int32), f15.2)
  else
    let f6 := (F_X9_stepInside σ (57 : Int32) (0 : Int32) (2 : Int32) (5 : Int32))
    if f6.1 = 0 then
      ((1 : Int32), f6.2)
    else
      let v9 := ((F_X3_oldestNumber f6.2 ) - (f6.2 21 6))
      let s12 := (F_X3_clearOldest f6.2 ((f6.2 21 7) - v9))
      ((1 : Int32), s12)
noncomputable def F_X9_endArchive : gS → Int32 × gS := Classical.choose (⟨Fr_X9_endArchive, rfl⟩ : ∃ f : gS → Int32 × gS, f = Fr_X9_endArchive)
theorem F_X9_endArchive_eq : F_X9_endArchive = Fr_X9_endArchive := Classical.choose_spec (⟨Fr_X9_endArchive, rfl⟩ : ∃ f : gS → Int32 × gS, f = Fr_X9_endArchive)
def Q_X9_endArchive (σ : gS)  : Prop :=
  (Q_X9_isArchiveOnDisk σ ) ∧ (if (F_X9_isArchiveOnDisk σ ) = 0 then
    ((Q_X9_stepInside σ (58 : Int32) (1 : Int32) (2 : Int32) (11 : Int32)) ∧ (let f15 := (F_X9_stepInside σ (58 : Int32) (1 : Int32) (2 : Int32) (11 : Int32))
    True))
  else
    ((Q_X9_stepInside σ (57 : Int32) (0 : Int32) (2 : Int32) (5 : Int32)) ∧ (let f6 := (F_X9_stepInside σ (57 : Int32) (0 : Int32) (2 : Int32) (5 : Int32))
    if f6.1 = 0 then
      (True)
    else
      (let v9 := ((F_X3_oldestNumber f6.2 ) - (f6.2 21 6))
      (Q_X3_clearOldest f6.2 ((f6.2 21 7) - v9)) ∧ (let s12 := (F_X3_clearOldest f6.2 ((f6.2 21 7) - v9))
      True)))))
set_option maxHeartbeats 4000000 in
set_option maxRecDepth 100000 in
theorem c_X9_endArchive (l : Launch) (g : gE)  {σ : gS} {ζ : gQ}  (hQ : Q_X9_endArchive σ ) : gC l g mX9_endArchive (rm 4 113) [.ref 0] (hp σ ζ) (fun r h => r = some (.int (F_X9_endArchive σ ).1) ∧ h = hp (F_X9_endArchive σ ).2 ζ) := by
  refine gC_of (by decide) (Nat.le_of_ble_eq_true rfl) ?_
  generalize hF : (F_X9_endArchive σ ) = fr
  rw [F_X9_endArchive_eq] at hF
  unfold Fr_X9_endArchive at hF
  unfold Q_X9_endArchive at hQ
  refine g_aload_n dX9_endArchive_0 rfl rfl rfl ?_
  have o1 := hQ.1
  replace hQ := hQ.2
  refine g_callv mv_X9_isArchiveOnDisk ml_X9_441 (c_X9_isArchiveOnDisk l g o1) (ho_0 _ _) rfl rfl (Nat.le_of_ble_eq_true rfl) (Nat.le_of_ble_eq_true rfl) (Nat.le_of_ble_eq_true rfl) (Nat.le_of_ble_eq_true rfl) rfl (Nat.le_of_ble_eq_true rfl) dX9_endArchive_1 rfl (fun r2 hr2 pr2 => ?_)
  obtain ⟨rfl, rfl⟩ := pr2
  refine g_ifne (tgt := 21) dX9_endArchive_4 (by decide) rfl (fun c3 => ?_) (fun c3 => ?_)
  · replace hF := ite_n hF c3
    try replace hQ := ite_r hQ c3
    refine g_aload_n dX9_endArchive_21 rfl rfl rfl ?_
    refine g_bipush (v := 57) dX9_endArchive_22 (by decide) rfl ?_
    refine g_iconst (v := 0) dX9_endArchive_24 (by decide) rfl ?_
    refine g_iconst (v := 2) dX9_endArchive_25 (by decide) rfl ?_
    refine g_iconst (v := 5) dX9_endArchive_26 (by decide) rfl ?_
    have o4 := hQ.1
    replace hQ := hQ.2
    refine g_callv mv_X9_stepInside ml_X9_397 (c_X9_stepInside l g _ _ _ _ o4) (ho_0 _ _) rfl rfl (Nat.le_of_ble_eq_true rfl) (Nat.le_of_ble_eq_true rfl) (Nat.le_of_ble_eq_true rfl) (Nat.le_of_ble_eq_true rfl) rfl (Nat.le_of_ble_eq_true rfl) dX9_endArchive_27 rfl (fun r5 hr5 pr5 => ?_)
    obtain ⟨rfl, rfl⟩ := pr5
    refine g_ifeq (tgt := 65) dX9_endArchive_30 (by decide) rfl (fun c7 => ?_) (fun c7 => ?_)
    · replace hF := ite_p hF c7
      try replace hQ := ite_q hQ c7
      refine g_iconst (v := 1) dX9_endArchive_65 (by decide) rfl ?_
      subst hF
      exact g_zret rfl dX9_endArchive_66 (by decide) (Nat.le_of_ble_eq_true rfl) (Nat.le_of_ble_eq_true rfl) ⟨rfl, rfl⟩
    · replace hF := ite_n hF c7
      try replace hQ := ite_r hQ c7
      refine g_aload_n dX9_endArchive_33 rfl rfl rfl ?_
      refine g_get gClX9 15 (by decide) fl_X9_61 dX9_endArchive_34 (ho_0 _ _) rfl rfl ?_
      refine g_callv mv_X3_oldestNumber ml_X9_424 (c_X3_oldestNumber l g) (ho_15 _ _) rfl rfl (Nat.le_of_ble_eq_true rfl) (Nat.le_of_ble_eq_true rfl) (Nat.le_of_ble_eq_true rfl) (Nat.le_of_ble_eq_true rfl) rfl (Nat.le_of_ble_eq_true rfl) dX9_endArchive_37 rfl (fun r8 hr8 pr8 => ?_)
      obtain ⟨rfl, rfl⟩ := pr8
      refine g_aload_n dX9_endArchive_40 rfl rfl rfl ?_
      refine g_get gClX9 18 (by decide) fl_X9_82 dX9_endArchive_41 (ho_0 _ _) rfl rfl ?_
      refine g_get gClX2 6 (by decide) fl_X9_427 dX9_endArchive_44 (ho_21 _ _) rfl rfl ?_
      refine g_isub dX9_endArchive_47 rfl ?_
      refine g_istoreL_n (L1 := [(0, _), (1, _)]) dX9_endArchive_48 rfl (by decide) rfl rfl ?_
      refine g_aload_n dX9_endArchive_49 rfl rfl rfl ?_
      refine g_get gClX9 15 (by decide) fl_X9_61 dX9_endArchive_50 (ho_0 _ _) rfl rfl ?_
      refine g_aload_n dX9_endArchive_53 rfl rfl rfl ?_
      refine g_get gClX9 18 (by decide) fl_X9_82 dX9_endArchive_54 (ho_0 _ _) rfl rfl ?_
      refine g_get gClX2 7 (by decide) fl_X9_435 dX9_endArchive_57 (ho_21 _ _) rfl rfl ?_
      refine g_iload_n dX9_endArchive_60 rfl rfl rfl ?_
      refine g_isub dX9_endArchive_61 rfl ?_
      have o10 := hQ.1
      replace hQ := hQ.2
      refine g_callv mv_X3_clearOldest ml_X9_444 (c_X3_clearOldest l g _ o10) (ho_15 _ _) rfl rfl (Nat.le_of_ble_eq_true rfl) (Nat.le_of_ble_eq_true rfl) (Nat.le_of_ble_eq_true rfl) (Nat.le_of_ble_eq_true rfl) rfl (Nat.le_of_ble_eq_true rfl) dX9_endArchive_62 rfl (fun r11 hr11 pr11 => ?_)
      obtain ⟨rfl, rfl⟩ := pr11
      refine g_iconst (v := 1) dX9_endArchive_65 (by decide) rfl ?_
      subst hF
      exact g_zret rfl dX9_endArchive_66 (by decide) (Nat.le_of_ble_eq_true rfl) (Nat.le_of_ble_eq_true rfl) ⟨rfl, rfl⟩
  · replace hF := ite_p hF c3
    try replace hQ := ite_q hQ c3
    refine g_aload_n dX9_endArchive_7 rfl rfl rfl ?_
    refine g_bipush (v := 58) dX9_endArchive_8 (by decide) rfl ?_
    refine g_iconst (v := 1) dX9_endArchive_10 (by decide) rfl ?_
    refine g_iconst (v := 2) dX9_endArchive_11 (by decide) rfl ?_
    refine g_bipush (v := 11) dX9_endArchive_12 (by decide) rfl ?_
    have o13 := hQ.1
    replace hQ := hQ.2
    refine g_callv mv_X9_stepInside ml_X9_397 (c_X9_stepInside l g _ _ _ _ o13) (ho_0 _ _) rfl rfl (Nat.le_of_ble_eq_true rfl) (Nat.le_of_ble_eq_true rfl) (Nat.le_of_ble_eq_true rfl) (Nat.le_of_ble_eq_true rfl) rfl (Nat.le_of_ble_eq_true rfl) dX9_endArchive_14 rfl (fun r14 hr14 pr14 => ?_)
    obtain ⟨rfl, rfl⟩ := pr14
    refine g_pop dX9_endArchive_17 rfl rfl ?_
    refine g_goto (tgt := 65) dX9_endArchive_18 (by decide) ?_
    refine g_iconst (v := 1) dX9_endArchive_65 (by decide) rfl ?_
    subst hF
    exact g_zret rfl dX9_endArchive_66 (by decide) (Nat.le_of_ble_eq_true rfl) (Nat.le_of_ble_eq_true rfl) ⟨rfl, rfl⟩
noncomputable def Fr_X9_actInside (σ : gS)  : Int32 × gS :=
  if (σ 15 6) = 0 then
    ((0 : Int32), σ)
  else
    if (σ 21 1) = 0 then
      if (σ 0 2) = 0 then
        ((0 : Int32), σ)
      else
        let f6 := (F_X9_enrol σ )
        if f6.1 = 0 then
          ((0 : Int32), f6.2)
        else
          ((1 : Int32), f6.2)
    else
      if (σ 21 1) = 1 then
        if (σ 0 2) = 0 then
          let f11 := (F_X9_awaitEnrolment σ )
          if f11.1 = 0 then
            ((0 : Int32), f11.2)
          else
            ((1 : Int32), f11.2)
        else
          ((0 : Int32), σ)
      else
        if (σ 21 1) = 2 then
          if (σ 21 4) = (-1 : Int32) then
            let f25 := (F_X9_meetInnerCard σ )
            (f25.1, f25.2)
          else
            let f17 := (F_X9_roleEnds σ )
            if f17.1 = 0 then
              let f21 := (F_X9_takeKey f17.2 )
              if f21.1 = 0 then
                ((0 : Int32), f21.2)
              else
                ((1 : Int32), f21.2)
            else
              ((1 : Int32), f17.2)
        else
          if (σ 21 1) = 3 then
            let f30 := (F_X9_judgeInnerCard σ )
            (f30.1, f30.2)
          else
            if (σ 21 1) = 4 then
              let f35 := (F_X9_endInnerVisit σ )
              (f35.1, f35.2)
            else
              if (σ 21 1) = 5 then
                let f40 := (F_X9_roleEnds σ )
                if f40.1 = 0 then
                  let f44 := (F_X9_startRequest f40.2 )
                  if f44.1 = 0 then
                    ((0 : Int32), f44.2)
                  else
                    ((1 : Int32), f44.2)
                else
                  ((1 : Int32), f40.2)
              else
                if (σ 21 1) = 6 then
                  let f49 := (F_X9_roleEnds σ )
                  if f49.1 = 0 then
                    let f53 := (F_X9_endArchive f49.2 )
                    if f53.1 = 0 then
                      ((0 : Int32), f53.2)
                    else
                      ((1 : Int32), f53.2)
                  else
                    ((1 : Int32), f49.2)
                else
                  ((0 : Int32), σ)
noncomputable def F_X9_actInside : gS → Int32 × gS := Classical.choose (⟨Fr_X9_actInside, rfl⟩ : ∃ f : gS → Int32 × gS, f = Fr_X9_actInside)
theorem F_X9_actInside_eq : F_X9_actInside = Fr_X9_actInside := Classical.choose_spec (⟨Fr_X9_actInside, rfl⟩ : ∃ f : gS → Int32 × gS, f = Fr_X9_actInside)
def Q_X9_actInside (σ : gS)  : Prop :=
  if (σ 15 6) = 0 then
    (True)
  else
    (if (σ 21 1) = 0 then
      (if (σ 0 2) = 0 then
        (True)
      else
        ((Q_X9_enrol σ ) ∧ (let f6 := (F_X9_enrol σ )
        if f6.1 = 0 then
          (True)
        else
          (True))))
    else
      (if (σ 21 1) = 1 then
        (if (σ 0 2) = 0 then
          (let f11 := (F_X9_awaitEnrolment σ )
          if f11.1 = 0 then
            (True)
          else
            (True))
        else
          (True))
      else
        (if (σ 21 1) = 2 then
          (if (σ 21 4) = (-1 : Int32) then
            ((Q_X9_meetInnerCard σ ) ∧ (let f25 := (F_X9_meetInnerCard σ )
            (f25.1 = 0 ∨ f25.1 = 1) ∧ (True)))
          else
            ((Q_X9_roleEnds σ ) ∧ (let f17 := (F_X9_roleEnds σ )
            if f17.1 = 0 then
              ((Q_X9_takeKey f17.2 ) ∧ (let f21 := (F_X9_takeKey f17.2 )
              if f21.1 = 0 then
                (True)
              else
                (True)))
            else
              (True))))
        else
          (if (σ 21 1) = 3 then
            ((Q_X9_judgeInnerCard σ ) ∧ (let f30 := (F_X9_judgeInnerCard σ )
            (f30.1 = 0 ∨ f30.1 = 1) ∧ (True)))
          else
            (if (σ 21 1) = 4 then
              ((Q_X9_endInnerVisit σ ) ∧ (let f35 := (F_X9_endInnerVisit σ )
              (f35.1 = 0 ∨ f35.1 = 1) ∧ (True)))
            else
              (if (σ 21 1) = 5 then
                ((Q_X9_roleEnds σ ) ∧ (let f40 := (F_X9_roleEnds σ )
                if f40.1 = 0 then
                  ((Q_X9_startRequest f40.2 ) ∧ (let f44 := (F_X9_startRequest f40.2 )
                  if f44.1 = 0 then
                    (True)
                  else
                    (True)))
                else
                  (True)))
              else
                (if (σ 21 1) = 6 then
                  ((Q_X9_roleEnds σ ) ∧ (let f49 := (F_X9_roleEnds σ )
                  if f49.1 = 0 then
                    ((Q_X9_endArchive f49.2 ) ∧ (let f53 := (F_X9_endArchive f49.2 )
                    if f53.1 = 0 then
                      (True)
                    else
                      (True)))
                  else
                    (True)))
                else
                  (True))))))))
set_option maxHeartbeats 4000000 in
set_option maxRecDepth 100000 in
theorem c_X9_actInside (l : Launch) (g : gE)  (hT : gTab g) {σ : gS} {ζ : gQ}  (hQ : Q_X9_actInside σ ) : gC l g mX9_actInside (rm 6 154) [.ref 0] (hp σ ζ) (fun r h => r = some (.int (F_X9_actInside σ ).1) ∧ h = hp (F_X9_actInside σ ).2 ζ) := by
  refine gC_of (by decide) (Nat.le_of_ble_eq_true rfl) ?_
  generalize hF : (F_X9_actInside σ ) = fr
  rw [F_X9_actInside_eq] at hF
  unfold Fr_X9_actInside at hF
  unfold Q_X9_actInside at hQ
  refine g_aload_n dX9_actInside_0 rfl rfl rfl ?_
  refine g_get gClX9 15 (by decide) fl_X9_61 dX9_actInside_1 (ho_0 _ _) rfl rfl ?_
  refine g_get gClX3 6 (by decide) fl_X9_263 dX9_actInside_4 (ho_15 _ _) rfl rfl ?_
  refine g_ifne (tgt := 12) dX9_actInside_7 (by decide) rfl (fun c1 => ?_) (fun c1 => ?_)
  · replace hF := ite_n hF c1
    try replace hQ := ite_r hQ c1
    refine g_aload_n dX9_actInside_12 rfl rfl rfl ?_
    refine g_get gClX9 18 (by decide) fl_X9_82 dX9_actInside_13 (ho_0 _ _) rfl rfl ?_
    refine g_get gClX2 1 (by decide) fl_X9_156 dX9_actInside_16 (ho_21 _ _) rfl rfl ?_
    refine g_case 0 (fun c2 => ?_) (fun c2 => ?_)
    · replace hF := ite_p hF c2
      try replace hQ := ite_q hQ c2
      refine g_table (tgt := 60) dX9_actInside_19 (by decide) (by decide) ?_
      refine g_aload_n dX9_actInside_60 rfl rfl rfl ?_
      refine g_get gClX9 2 (by decide) fl_X9_139 dX9_actInside_61 (ho_0 _ _) rfl rfl ?_
      refine g_ifeq (tgt := 78) dX9_actInside_64 (by decide) rfl (fun c3 => ?_) (fun c3 => ?_)
      · replace hF := ite_p hF c3
        try replace hQ := ite_q hQ c3
        refine g_iconst (v := 0) dX9_actInside_78 (by decide) rfl ?_
        subst hF
        exact g_zret rfl dX9_actInside_79 (by decide) (Nat.le_of_ble_eq_true rfl) (Nat.le_of_ble_eq_true rfl) ⟨rfl, rfl⟩
      · replace hF := ite_n hF c3
        try replace hQ := ite_r hQ c3
        refine g_aload_n dX9_actInside_67 rfl rfl rfl ?_
        have o4 := hQ.1
        replace hQ := hQ.2
        refine g_callv mv_X9_enrol ml_X9_363 (c_X9_enrol l g o4) (ho_0 _ _) rfl rfl (Nat.le_of_ble_eq_true rfl) (Nat.le_of_ble_eq_true rfl) (Nat.le_of_ble_eq_true rfl) (Nat.le_of_ble_eq_true rfl) rfl (Nat.le_of_ble_eq_true rfl) dX9_actInside_68 rfl (fun r5 hr5 pr5 => ?_)
        obtain ⟨rfl, rfl⟩ := pr5
        refine g_ifeq (tgt := 78) dX9_actInside_71 (by decide) rfl (fun c7 => ?_) (fun c7 => ?_)
        · replace hF := ite_p hF c7
          try replace hQ := ite_q hQ c7
          refine g_iconst (v := 0) dX9_actInside_78 (by decide) rfl ?_
          subst hF
          exact g_zret rfl dX9_actInside_79 (by decide) (Nat.le_of_ble_eq_true rfl) (Nat.le_of_ble_eq_true rfl) ⟨rfl, rfl⟩
        · replace hF := ite_n hF c7
          try replace hQ := ite_r hQ c7
          refine g_iconst (v := 1) dX9_actInside_74 (by decide) rfl ?_
          refine g_goto (tgt := 79) dX9_actInside_75 (by decide) ?_
          subst hF
          exact g_zret rfl dX9_actInside_79 (by decide) (Nat.le_of_ble_eq_true rfl) (Nat.le_of_ble_eq_true rfl) ⟨rfl, rfl⟩
    · replace hF := ite_n hF c2
      try replace hQ := ite_r hQ c2
      refine g_case 1 (fun c8 => ?_) (fun c8 => ?_)
      · replace hF := ite_p hF c8
        try replace hQ := ite_q hQ c8
        refine g_table (tgt := 80) dX9_actInside_19 (by decide) (by decide) ?_
        refine g_aload_n dX9_actInside_80 rfl rfl rfl ?_
        refine g_get gClX9 2 (by decide) fl_X9_139 dX9_actInside_81 (ho_0 _ _) rfl rfl ?_
        refine g_ifne (tgt := 98) dX9_actInside_84 (by decide) rfl (fun c9 => ?_) (fun c9 => ?_)
        · replace hF := ite_n hF c9
          try replace hQ := ite_r hQ c9
          refine g_iconst (v := 0) dX9_actInside_98 (by decide) rfl ?_
          subst hF
          exact g_zret rfl dX9_actInside_99 (by decide) (Nat.le_of_ble_eq_true rfl) (Nat.le_of_ble_eq_true rfl) ⟨rfl, rfl⟩
        · replace hF := ite_p hF c9
          try replace hQ := ite_q hQ c9
          refine g_aload_n dX9_actInside_87 rfl rfl rfl ?_
          refine g_callv mv_X9_awaitEnrolment ml_X9_366 (c_X9_awaitEnrolment l g) (ho_0 _ _) rfl rfl (Nat.le_of_ble_eq_true rfl) (Nat.le_of_ble_eq_true rfl) (Nat.le_of_ble_eq_true rfl) (Nat.le_of_ble_eq_true rfl) rfl (Nat.le_of_ble_eq_true rfl) dX9_actInside_88 rfl (fun r10 hr10 pr10 => ?_)
          obtain ⟨rfl, rfl⟩ := pr10
          refine g_ifeq (tgt := 98) dX9_actInside_91 (by decide) rfl (fun c12 => ?_) (fun c12 => ?_)
          · replace hF := ite_p hF c12
            try replace hQ := ite_q hQ c12
            refine g_iconst (v := 0) dX9_actInside_98 (by decide) rfl ?_
            subst hF
            exact g_zret rfl dX9_actInside_99 (by decide) (Nat.le_of_ble_eq_true rfl) (Nat.le_of_ble_eq_true rfl) ⟨rfl, rfl⟩
          · replace hF := ite_n hF c12
            try replace hQ := ite_r hQ c12
            refine g_iconst (v := 1) dX9_actInside_94 (by decide) rfl ?_
            refine g_goto (tgt := 99) dX9_actInside_95 (by decide) ?_
            subst hF
            exact g_zret rfl dX9_actInside_99 (by decide) (Nat.le_of_ble_eq_true rfl) (Nat.le_of_ble_eq_true rfl) ⟨rfl, rfl⟩
      · replace hF := ite_n hF c8
        try replace hQ := ite_r hQ c8
        refine g_case 2 (fun c13 => ?_) (fun c13 => ?_)
        · replace hF := ite_p hF c13
          try replace hQ := ite_q hQ c13
          refine g_table (tgt := 100) dX9_actInside_19 (by decide) (by decide) ?_
          refine g_aload_n dX9_actInside_100 rfl rfl rfl ?_
          refine g_get gClX9 18 (by decide) fl_X9_82 dX9_actInside_101 (ho_0 _ _) rfl rfl ?_
          refine g_get gClX2 4 (by decide) fl_X9_198 dX9_actInside_104 (ho_21 _ _) rfl rfl ?_
          refine g_iconst (v := (-1)) dX9_actInside_107 (by decide) rfl ?_
          refine g_icmpne (tgt := 118) dX9_actInside_108 (by decide) rfl (fun c14 => ?_) (fun c14 => ?_)
          · replace hF := ite_n hF c14
            try replace hQ := ite_r hQ c14
            refine g_aload_n dX9_actInside_118 rfl rfl rfl ?_
            have o15 := hQ.1
            replace hQ := hQ.2
            refine g_callv mv_X9_roleEnds ml_X9_372 (c_X9_roleEnds l g o15) (ho_0 _ _) rfl rfl (Nat.le_of_ble_eq_true rfl) (Nat.le_of_ble_eq_true rfl) (Nat.le_of_ble_eq_true rfl) (Nat.le_of_ble_eq_true rfl) rfl (Nat.le_of_ble_eq_true rfl) dX9_actInside_119 rfl (fun r16 hr16 pr16 => ?_)
            obtain ⟨rfl, rfl⟩ := pr16
            refine g_ifne (tgt := 132) dX9_actInside_122 (by decide) rfl (fun c18 => ?_) (fun c18 => ?_)
            · replace hF := ite_n hF c18
              try replace hQ := ite_r hQ c18
              refine g_iconst (v := 1) dX9_actInside_132 (by decide) rfl ?_
              refine g_goto (tgt := 137) dX9_actInside_133 (by decide) ?_
              subst hF
              exact g_zret rfl dX9_actInside_137 (by decide) (Nat.le_of_ble_eq_true rfl) (Nat.le_of_ble_eq_true rfl) ⟨rfl, rfl⟩
            · replace hF := ite_p hF c18
              try replace hQ := ite_q hQ c18
              refine g_aload_n dX9_actInside_125 rfl rfl rfl ?_
              have o19 := hQ.1
              replace hQ := hQ.2
              refine g_callv mv_X9_takeKey ml_X9_375 (c_X9_takeKey l g o19) (ho_0 _ _) rfl rfl (Nat.le_of_ble_eq_true rfl) (Nat.le_of_ble_eq_true rfl) (Nat.le_of_ble_eq_true rfl) (Nat.le_of_ble_eq_true rfl) rfl (Nat.le_of_ble_eq_true rfl) dX9_actInside_126 rfl (fun r20 hr20 pr20 => ?_)
              obtain ⟨rfl, rfl⟩ := pr20
              refine g_ifeq (tgt := 136) dX9_actInside_129 (by decide) rfl (fun c22 => ?_) (fun c22 => ?_)
              · replace hF := ite_p hF c22
                try replace hQ := ite_q hQ c22
                refine g_iconst (v := 0) dX9_actInside_136 (by decide) rfl ?_
                subst hF
                exact g_zret rfl dX9_actInside_137 (by decide) (Nat.le_of_ble_eq_true rfl) (Nat.le_of_ble_eq_true rfl) ⟨rfl, rfl⟩
              · replace hF := ite_n hF c22
                try replace hQ := ite_r hQ c22
                refine g_iconst (v := 1) dX9_actInside_132 (by decide) rfl ?_
                refine g_goto (tgt := 137) dX9_actInside_133 (by decide) ?_
                subst hF
                exact g_zret rfl dX9_actInside_137 (by decide) (Nat.le_of_ble_eq_true rfl) (Nat.le_of_ble_eq_true rfl) ⟨rfl, rfl⟩
          · replace hF := ite_p hF c14
            try replace hQ := ite_q hQ c14
            refine g_aload_n dX9_actInside_111 rfl rfl rfl ?_
            have o23 := hQ.1
            replace hQ := hQ.2
            refine g_callv mv_X9_meetInnerCard ml_X9_369 (c_X9_meetInnerCard l g o23) (ho_0 _ _) rfl rfl (Nat.le_of_ble_eq_true rfl) (Nat.le_of_ble_eq_true rfl) (Nat.le_of_ble_eq_true rfl) (Nat.le_of_ble_eq_true rfl) rfl (Nat.le_of_ble_eq_true rfl) dX9_actInside_112 rfl (fun r24 hr24 pr24 => ?_)
            obtain ⟨rfl, rfl⟩ := pr24
            refine g_goto (tgt := 137) dX9_actInside_115 (by decide) ?_
            have o26 := hQ.1
            replace hQ := hQ.2
            subst hF
            exact g_zret rfl dX9_actInside_137 (gz_n o26) (Nat.le_of_ble_eq_true rfl) (Nat.le_of_ble_eq_true rfl) ⟨rfl, rfl⟩
        · replace hF := ite_n hF c13
          try replace hQ := ite_r hQ c13
          refine g_case 3 (fun c27 => ?_) (fun c27 => ?_)
          · replace hF := ite_p hF c27
            try replace hQ := ite_q hQ c27
            refine g_table (tgt := 138) dX9_actInside_19 (by decide) (by decide) ?_
            refine g_aload_n dX9_actInside_138 rfl rfl rfl ?_
            have o28 := hQ.1
            replace hQ := hQ.2
            refine g_callv mv_X9_judgeInnerCard ml_X9_378 (c_X9_judgeInnerCard l g o28) (ho_0 _ _) rfl rfl (Nat.le_of_ble_eq_true rfl) (Nat.le_of_ble_eq_true rfl) (Nat.le_of_ble_eq_true rfl) (Nat.le_of_ble_eq_true rfl) rfl (Nat.le_of_ble_eq_true rfl) dX9_actInside_139 rfl (fun r29 hr29 pr29 => ?_)
            obtain ⟨rfl, rfl⟩ := pr29
            have o31 := hQ.1
            replace hQ := hQ.2
            subst hF
            exact g_zret rfl dX9_actInside_142 (gz_n o31) (Nat.le_of_ble_eq_true rfl) (Nat.le_of_ble_eq_true rfl) ⟨rfl, rfl⟩
          · replace hF := ite_n hF c27
            try replace hQ := ite_r hQ c27
            refine g_case 4 (fun c32 => ?_) (fun c32 => ?_)
            · replace hF := ite_p hF c32
              try replace hQ := ite_q hQ c32
              refine g_table (tgt := 143) dX9_actInside_19 (by decide) (by decide) ?_
              refine g_aload_n dX9_actInside_143 rfl rfl rfl ?_
              have o33 := hQ.1
              replace hQ := hQ.2
              refine g_callv mv_X9_endInnerVisit ml_X9_381 (c_X9_endInnerVisit l g o33) (ho_0 _ _) rfl rfl (Nat.le_of_ble_eq_true rfl) (Nat.le_of_ble_eq_true rfl) (Nat.le_of_ble_eq_true rfl) (Nat.le_of_ble_eq_true rfl) rfl (Nat.le_of_ble_eq_true rfl) dX9_actInside_144 rfl (fun r34 hr34 pr34 => ?_)
              obtain ⟨rfl, rfl⟩ := pr34
              have o36 := hQ.1
              replace hQ := hQ.2
              subst hF
              exact g_zret rfl dX9_actInside_147 (gz_n o36) (Nat.le_of_ble_eq_true rfl) (Nat.le_of_ble_eq_true rfl) ⟨rfl, rfl⟩
            · replace hF := ite_n hF c32
              try replace hQ := ite_r hQ c32
              refine g_case 5 (fun c37 => ?_) (fun c37 => ?_)
              · replace hF := ite_p hF c37
                try replace hQ := ite_q hQ c37
                refine g_table (tgt := 148) dX9_actInside_19 (by decide) (by decide) ?_
                refine g_aload_n dX9_actInside_148 rfl rfl rfl ?_
                have o38 := hQ.1
                replace hQ := hQ.2
                refine g_callv mv_X9_roleEnds ml_X9_372 (c_X9_roleEnds l g o38) (ho_0 _ _) rfl rfl (Nat.le_of_ble_eq_true rfl) (Nat.le_of_ble_eq_true rfl) (Nat.le_of_ble_eq_true rfl) (Nat.le_of_ble_eq_true rfl) rfl (Nat.le_of_ble_eq_true rfl) dX9_actInside_149 rfl (fun r39 hr39 pr39 => ?_)
                obtain ⟨rfl, rfl⟩ := pr39
                refine g_ifne (tgt := 162) dX9_actInside_152 (by decide) rfl (fun c41 => ?_) (fun c41 => ?_)
                · replace hF := ite_n hF c41
                  try replace hQ := ite_r hQ c41
                  refine g_iconst (v := 1) dX9_actInside_162 (by decide) rfl ?_
                  refine g_goto (tgt := 167) dX9_actInside_163 (by decide) ?_
                  subst hF
                  exact g_zret rfl dX9_actInside_167 (by decide) (Nat.le_of_ble_eq_true rfl) (Nat.le_of_ble_eq_true rfl) ⟨rfl, rfl⟩
                · replace hF := ite_p hF c41
                  try replace hQ := ite_q hQ c41
                  refine g_aload_n dX9_actInside_155 rfl rfl rfl ?_
                  have o42 := hQ.1
                  replace hQ := hQ.2
                  refine g_callv mv_X9_startRequest ml_X9_384 (c_X9_startRequest l g hT o42) (ho_0 _ _) rfl rfl (Nat.le_of_ble_eq_true rfl) (Nat.le_of_ble_eq_true rfl) (Nat.le_of_ble_eq_true rfl) (Nat.le_of_ble_eq_true rfl) rfl (Nat.le_of_ble_eq_true rfl) dX9_actInside_156 rfl (fun r43 hr43 pr43 => ?_)
                  obtain ⟨rfl, rfl⟩ := pr43
                  refine g_ifeq (tgt := 166) dX9_actInside_159 (by decide) rfl (fun c45 => ?_) (fun c45 => ?_)
                  · replace hF := ite_p hF c45
                    try replace hQ := ite_q hQ c45
                    refine g_iconst (v := 0) dX9_actInside_166 (by decide) rfl ?_
                    subst hF
                    exact g_zret rfl dX9_actInside_167 (by decide) (Nat.le_of_ble_eq_true rfl) (Nat.le_of_ble_eq_true rfl) ⟨rfl, rfl⟩
                  · replace hF := ite_n hF c45
                    try replace hQ := ite_r hQ c45
                    refine g_iconst (v := 1) dX9_actInside_162 (by decide) rfl ?_
                    refine g_goto (tgt := 167) dX9_actInside_163 (by decide) ?_
                    subst hF
                    exact g_zret rfl dX9_actInside_167 (by decide) (Nat.le_of_ble_eq_true rfl) (Nat.le_of_ble_eq_true rfl) ⟨rfl, rfl⟩
              · replace hF := ite_n hF c37
                try replace hQ := ite_r hQ c37
                refine g_case 6 (fun c46 => ?_) (fun c46 => ?_)
                · replace hF := ite_p hF c46
                  try replace hQ := ite_q hQ c46
                  refine g_table (tgt := 168) dX9_actInside_19 (by decide) (by decide) ?_
                  refine g_aload_n dX9_actInside_168 rfl rfl rfl ?_
                  have o47 := hQ.1
                  replace hQ := hQ.2
                  refine g_callv mv_X9_roleEnds ml_X9_372 (c_X9_roleEnds l g o47) (ho_0 _ _) rfl rfl (Nat.le_of_ble_eq_true rfl) (Nat.le_of_ble_eq_true rfl) (Nat.le_of_ble_eq_true rfl) (Nat.le_of_ble_eq_true rfl) rfl (Nat.le_of_ble_eq_true rfl) dX9_actInside_169 rfl (fun r48 hr48 pr48 => ?_)
                  obtain ⟨rfl, rfl⟩ := pr48
                  refine g_ifne (tgt := 182) dX9_actInside_172 (by decide) rfl (fun c50 => ?_) (fun c50 => ?_)
                  · replace hF := ite_n hF c50
                    try replace hQ := ite_r hQ c50
                    refine g_iconst (v := 1) dX9_actInside_182 (by decide) rfl ?_
                    refine g_goto (tgt := 187) dX9_actInside_183 (by decide) ?_
                    subst hF
                    exact g_zret rfl dX9_actInside_187 (by decide) (Nat.le_of_ble_eq_true rfl) (Nat.le_of_ble_eq_true rfl) ⟨rfl, rfl⟩
                  · replace hF := ite_p hF c50
                    try replace hQ := ite_q hQ c50
                    refine g_aload_n dX9_actInside_175 rfl rfl rfl ?_
                    have o51 := hQ.1
                    replace hQ := hQ.2
                    refine g_callv mv_X9_endArchive ml_X9_387 (c_X9_endArchive l g o51) (ho_0 _ _) rfl rfl (Nat.le_of_ble_eq_true rfl) (Nat.le_of_ble_eq_true rfl) (Nat.le_of_ble_eq_true rfl) (Nat.le_of_ble_eq_true rfl) rfl (Nat.le_of_ble_eq_true rfl) dX9_actInside_176 rfl (fun r52 hr52 pr52 => ?_)
                    obtain ⟨rfl, rfl⟩ := pr52
                    refine g_ifeq (tgt := 186) dX9_actInside_179 (by decide) rfl (fun c54 => ?_) (fun c54 => ?_)
                    · replace hF := ite_p hF c54
                      try replace hQ := ite_q hQ c54
                      refine g_iconst (v := 0) dX9_actInside_186 (by decide) rfl ?_
                      subst hF
                      exact g_zret rfl dX9_actInside_187 (by decide) (Nat.le_of_ble_eq_true rfl) (Nat.le_of_ble_eq_true rfl) ⟨rfl, rfl⟩
                    · replace hF := ite_n hF c54
                      try replace hQ := ite_r hQ c54
                      refine g_iconst (v := 1) dX9_actInside_182 (by decide) rfl ?_
                      refine g_goto (tgt := 187) dX9_actInside_183 (by decide) ?_
                      subst hF
                      exact g_zret rfl dX9_actInside_187 (by decide) (Nat.le_of_ble_eq_true rfl) (Nat.le_of_ble_eq_true rfl) ⟨rfl, rfl⟩
                · replace hF := ite_n hF c46
                  try replace hQ := ite_r hQ c46
                  refine g_table (tgt := 188) dX9_actInside_19 (by decide) (gt_out (lo := 0) (hi := 6) (by decide) (fun k h1 h2 => by rcases (show k = 0 ∨ k = 1 ∨ k = 2 ∨ k = 3 ∨ k = 4 ∨ k = 5 ∨ k = 6 by omega) with rfl | rfl | rfl | rfl | rfl | rfl | rfl <;> first | exact c2 | exact c8 | exact c13 | exact c27 | exact c32 | exact c37 | exact c46) (by decide)) ?_
                  refine g_iconst (v := 0) dX9_actInside_188 (by decide) rfl ?_
                  subst hF
                  exact g_zret rfl dX9_actInside_189 (by decide) (Nat.le_of_ble_eq_true rfl) (Nat.le_of_ble_eq_true rfl) ⟨rfl, rfl⟩
  · replace hF := ite_p hF c1
    try replace hQ := ite_q hQ c1
    refine g_iconst (v := 0) dX9_actInside_10 (by decide) rfl ?_
    subst hF
    exact g_zret rfl dX9_actInside_11 (by decide) (Nat.le_of_ble_eq_true rfl) (Nat.le_of_ble_eq_true rfl) ⟨rfl, rfl⟩
noncomputable def Fr_X9_stepOutside (σ : gS) (p0 : Int32) (p1 : Int32) (p2 : Int32) (p3 : Int32) : Int32 × gS :=
  let f3 := (F_X3_write σ (σ 0 10) p0 p1 (σ 20 0) (σ 20 1))
  if f3.1 = 0 then
    ((0 : Int32), f3.2)
  else
    let s5 := (pf f3.2 19 1 p2 : gS)
    let s6 := (pf s5 19 2 p3 : gS)
    ((1 : Int32), s6)
noncomputable def F_X9_stepOutside : gS → Int32 → Int32 → Int32 → Int32 → Int32 × gS := Classical.choose (⟨Fr_X9_stepOutside, rfl⟩ : ∃ f : gS → Int32 → Int32 → Int32 → Int32 → Int32 × gS, f = Fr_X9_stepOutside)
theorem F_X9_stepOutside_eq : F_X9_stepOutside = Fr_X9_stepOutside := Classical.choose_spec (⟨Fr_X9_stepOutside, rfl⟩ : ∃ f : gS → Int32 → Int32 → Int32 → Int32 → Int32 × gS, f = Fr_X9_stepOutside)
def Q_X9_stepOutside (σ : gS) (p0 : Int32) (p1 : Int32) (p2 : Int32) (p3 : Int32) : Prop :=
  (Q_X3_write σ (σ 0 10) p0 p1 (σ 20 0) (σ 20 1)) ∧ (let f3 := (F_X3_write σ (σ 0 10) p0 p1 (σ 20 0) (σ 20 1))
  if f3.1 = 0 then
    (True)
  else
    (let s5 := (pf f3.2 19 1 p2 : gS)
    let s6 := (pf s5 19 2 p3 : gS)
    True))
set_option maxHeartbeats 4000000 in
set_option maxRecDepth 100000 in
theorem c_X9_stepOutside (l : Launch) (g : gE)  {σ : gS} {ζ : gQ} (p0 : Int32) (p1 : Int32) (p2 : Int32) (p3 : Int32) (hQ : Q_X9_stepOutside σ p0 p1 p2 p3) : gC l g mX9_stepOutside (rm 3 88) [.ref 0, .int p0, .int p1, .int p2, .int p3] (hp σ ζ) (fun r h => r = some (.int (F_X9_stepOutside σ p0 p1 p2 p3).1) ∧ h = hp (F_X9_stepOutside σ p0 p1 p2 p3).2 ζ) := by
  refine gC_of (by decide) (Nat.le_of_ble_eq_true rfl) ?_
  generalize hF : (F_X9_stepOutside σ p0 p1 p2 p3) = fr
  rw [F_X9_stepOutside_eq] at hF
  unfold Fr_X9_stepOutside at hF
  unfold Q_X9_stepOutside at hQ
  refine g_aload_n dX9_stepOutside_0 rfl rfl rfl ?_
  refine g_get gClX9 17 (by decide) fl_X9_75 dX9_stepOutside_1 (ho_0 _ _) rfl rfl ?_
  refine g_get gClX6 0 (by decide) fl_X9_241 dX9_stepOutside_4 (ho_19 _ _) rfl rfl ?_
  refine g_astoreL (L1 := [(0, _), (1, _), (2, _), (3, _), (4, _), (5, _)]) dX9_stepOutside_7 (by decide) rfl rfl ?_
  refine g_aload_n dX9_stepOutside_9 rfl rfl rfl ?_
  refine g_get gClX9 15 (by decide) fl_X9_61 dX9_stepOutside_10 (ho_0 _ _) rfl rfl ?_
  refine g_aload_n dX9_stepOutside_13 rfl rfl rfl ?_
  refine g_get gClX9 10 (by decide) fl_X9_147 dX9_stepOutside_14 (ho_0 _ _) rfl rfl ?_
  refine g_iload_n dX9_stepOutside_17 rfl rfl rfl ?_
  refine g_iload_n dX9_stepOutside_18 rfl rfl rfl ?_
  refine g_aload dX9_stepOutside_19 rfl rfl ?_
  refine g_get gClX8 0 (by decide) fl_X9_230 dX9_stepOutside_21 (ho_20 _ _) rfl rfl ?_
  refine g_aload dX9_stepOutside_24 rfl rfl ?_
  refine g_get gClX8 1 (by decide) fl_X9_235 dX9_stepOutside_26 (ho_20 _ _) rfl rfl ?_
  have o1 := hQ.1
  replace hQ := hQ.2
  refine g_callv mv_X3_write ml_X9_226 (c_X3_write l g _ _ _ _ _ o1) (ho_15 _ _) rfl rfl (Nat.le_of_ble_eq_true rfl) (Nat.le_of_ble_eq_true rfl) (Nat.le_of_ble_eq_true rfl) (Nat.le_of_ble_eq_true rfl) rfl (Nat.le_of_ble_eq_true rfl) dX9_stepOutside_29 rfl (fun r2 hr2 pr2 => ?_)
  obtain ⟨rfl, rfl⟩ := pr2
  refine g_ifne (tgt := 37) dX9_stepOutside_32 (by decide) rfl (fun c4 => ?_) (fun c4 => ?_)
  · replace hF := ite_n hF c4
    try replace hQ := ite_r hQ c4
    refine g_aload_n dX9_stepOutside_37 rfl rfl rfl ?_
    refine g_get gClX9 17 (by decide) fl_X9_75 dX9_stepOutside_38 (ho_0 _ _) rfl rfl ?_
    refine g_iload_n dX9_stepOutside_41 rfl rfl rfl ?_
    refine g_put gClX6 1 (by decide) fl_X9_168 rfl dX9_stepOutside_42 (ho_19 _ _) rfl rfl (Nat.le_of_ble_eq_true rfl) po_19_1 rfl ?_
    refine g_aload_n dX9_stepOutside_45 rfl rfl rfl ?_
    refine g_get gClX9 17 (by decide) fl_X9_75 dX9_stepOutside_46 (ho_0 _ _) rfl rfl ?_
    refine g_iload dX9_stepOutside_49 rfl rfl ?_
    refine g_put gClX6 2 (by decide) fl_X9_192 rfl dX9_stepOutside_51 (ho_19 _ _) rfl rfl (Nat.le_of_ble_eq_true rfl) po_19_2 rfl ?_
    refine g_iconst (v := 1) dX9_stepOutside_54 (by decide) rfl ?_
    subst hF
    exact g_zret rfl dX9_stepOutside_55 (by decide) (Nat.le_of_ble_eq_true rfl) (Nat.le_of_ble_eq_true rfl) ⟨rfl, rfl⟩
  · replace hF := ite_p hF c4
    try replace hQ := ite_q hQ c4
    refine g_iconst (v := 0) dX9_stepOutside_35 (by decide) rfl ?_
    subst hF
    exact g_zret rfl dX9_stepOutside_36 (by decide) (Nat.le_of_ble_eq_true rfl) (Nat.le_of_ble_eq_true rfl) ⟨rfl, rfl⟩
