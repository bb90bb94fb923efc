/-! Keys: by program -/
noncomputable def Fr_X4_issuerPlace (p0 : Int32) : Int32 :=
  if p0 = 0 then
    (1 : Int32)
  else
    ((20 : Int32) + ((p0 - (1 : Int32)) * (18 : Int32)))
noncomputable def F_X4_issuerPlace : Int32 → Int32 := Classical.choose (⟨Fr_X4_issuerPlace, rfl⟩ : ∃ f : Int32 → Int32, f = Fr_X4_issuerPlace)
theorem F_X4_issuerPlace_eq : F_X4_issuerPlace = Fr_X4_issuerPlace := Classical.choose_spec (⟨Fr_X4_issuerPlace, rfl⟩ : ∃ f : Int32 → Int32, f = Fr_X4_issuerPlace)
set_option maxHeartbeats 4000000 in
set_option maxRecDepth 100000 in
theorem c_X4_issuerPlace (l : Launch) (g : gE)  {σ : gS} {ζ : gQ} (p0 : Int32) : gC l g mX4_issuerPlace (rm 0 0) [.int p0] (hp σ ζ) (fun r h => r = some (.int (F_X4_issuerPlace p0)) ∧ h = hp σ ζ) := by
  refine gC_of (by decide) (Nat.le_of_ble_eq_true rfl) ?_
  generalize hF : (F_X4_issuerPlace p0) = fr
  rw [F_X4_issuerPlace_eq] at hF
  unfold Fr_X4_issuerPlace at hF
  refine g_iload_n dX4_issuerPlace_0 rfl rfl rfl ?_
  refine g_ifne (tgt := 8) dX4_issuerPlace_1 (by decide) rfl (fun c1 => ?_) (fun c1 => ?_)
  · replace hF := ite_n hF c1
    refine g_bipush (v := 20) dX4_issuerPlace_8 (by decide) rfl ?_
    refine g_iload_n dX4_issuerPlace_10 rfl rfl rfl ?_
    refine g_iconst (v := 1) dX4_issuerPlace_11 (by decide) rfl ?_
    refine g_isub dX4_issuerPlace_12 rfl ?_
    refine g_bipush (v := 18) dX4_issuerPlace_13 (by decide) rfl ?_
    refine g_imul dX4_issuerPlace_15 rfl ?_
    refine g_iadd dX4_issuerPlace_16 rfl ?_
    subst hF
    exact g_iret rfl dX4_issuerPlace_17 (Nat.le_of_ble_eq_true rfl) (Nat.le_of_ble_eq_true rfl) ⟨rfl, rfl⟩
  · replace hF := ite_p hF c1
    refine g_iconst (v := 1) dX4_issuerPlace_4 (by decide) rfl ?_
    refine g_goto (tgt := 17) dX4_issuerPlace_5 (by decide) ?_
    subst hF
    exact g_iret rfl dX4_issuerPlace_17 (Nat.le_of_ble_eq_true rfl) (Nat.le_of_ble_eq_true rfl) ⟨rfl, rfl⟩
noncomputable def Fr_X4_isEnrolled (σ : gS)  : Int32 :=
  if (σ 12 2) ≤ 0 then
    (0 : Int32)
  else
    (1 : Int32)
noncomputable def F_X4_isEnrolled : gS → Int32 := Classical.choose (⟨Fr_X4_isEnrolled, rfl⟩ : ∃ f : gS → Int32, f = Fr_X4_isEnrolled)
theorem F_X4_isEnrolled_eq : F_X4_isEnrolled = Fr_X4_isEnrolled := Classical.choose_spec (⟨Fr_X4_isEnrolled, rfl⟩ : ∃ f : gS → Int32, f = Fr_X4_isEnrolled)
set_option maxHeartbeats 4000000 in
set_option maxRecDepth 100000 in
theorem c_X4_isEnrolled (l : Launch) (g : gE)  {σ : gS} {ζ : gQ}  : gC l g mX4_isEnrolled (rm 0 0) [.ref 12] (hp σ ζ) (fun r h => r = some (.int (F_X4_isEnrolled σ )) ∧ h = hp σ ζ) := by
  refine gC_of (by decide) (Nat.le_of_ble_eq_true rfl) ?_
  generalize hF : (F_X4_isEnrolled σ ) = fr
  rw [F_X4_isEnrolled_eq] at hF
  unfold Fr_X4_isEnrolled at hF
  refine g_aload_n dX4_isEnrolled_0 rfl rfl rfl ?_
  refine g_get gClX4 2 (by decide) fl_X4_47 dX4_isEnrolled_1 (ho_12 _ _) rfl rfl ?_
  refine g_ifle (tgt := 11) dX4_isEnrolled_4 (by decide) rfl (fun c1 => ?_) (fun c1 => ?_)
  · replace hF := ite_p hF c1
    refine g_iconst (v := 0) dX4_isEnrolled_11 (by decide) rfl ?_
    subst hF
    exact g_zret rfl dX4_isEnrolled_12 (by decide) (Nat.le_of_ble_eq_true rfl) (Nat.le_of_ble_eq_true rfl) ⟨rfl, rfl⟩
  · replace hF := ite_n hF c1
    refine g_iconst (v := 1) dX4_isEnrolled_7 (by decide) rfl ?_
    refine g_goto (tgt := 12) dX4_isEnrolled_8 (by decide) ?_
    subst hF
    exact g_zret rfl dX4_isEnrolled_12 (by decide) (Nat.le_of_ble_eq_true rfl) (Nat.le_of_ble_eq_true rfl) ⟨rfl, rfl⟩
noncomputable def Fr_X4_ownIssuer (σ : gS)  : Int32 :=
  if (σ 12 2) ≤ 0 then
    (-1 : Int32)
  else
    (σ 13 (ix (0 : Int32)))
noncomputable def F_X4_ownIssuer : gS → Int32 := Classical.choose (⟨Fr_X4_ownIssuer, rfl⟩ : ∃ f : gS → Int32, f = Fr_X4_ownIssuer)
theorem F_X4_ownIssuer_eq : F_X4_ownIssuer = Fr_X4_ownIssuer := Classical.choose_spec (⟨Fr_X4_ownIssuer, rfl⟩ : ∃ f : gS → Int32, f = Fr_X4_ownIssuer)
set_option maxHeartbeats 4000000 in
set_option maxRecDepth 100000 in
theorem c_X4_ownIssuer (l : Launch) (g : gE)  {σ : gS} {ζ : gQ}  : gC l g mX4_ownIssuer (rm 0 0) [.ref 12] (hp σ ζ) (fun r h => r = some (.int (F_X4_ownIssuer σ )) ∧ h = hp σ ζ) := by
  refine gC_of (by decide) (Nat.le_of_ble_eq_true rfl) ?_
  generalize hF : (F_X4_ownIssuer σ ) = fr
  rw [F_X4_ownIssuer_eq] at hF
  unfold Fr_X4_ownIssuer at hF
  refine g_aload_n dX4_ownIssuer_0 rfl rfl rfl ?_
  refine g_get gClX4 2 (by decide) fl_X4_47 dX4_ownIssuer_1 (ho_12 _ _) rfl rfl ?_
  refine g_ifle (tgt := 16) dX4_ownIssuer_4 (by decide) rfl (fun c1 => ?_) (fun c1 => ?_)
  · replace hF := ite_p hF c1
    refine g_iconst (v := (-1)) dX4_ownIssuer_16 (by decide) rfl ?_
    subst hF
    exact g_iret rfl dX4_ownIssuer_17 (Nat.le_of_ble_eq_true rfl) (Nat.le_of_ble_eq_true rfl) ⟨rfl, rfl⟩
  · replace hF := ite_n hF c1
    refine g_aload_n dX4_ownIssuer_7 rfl rfl rfl ?_
    refine g_get gClX4 0 (by decide) fl_X4_11 dX4_ownIssuer_8 (ho_12 _ _) rfl rfl ?_
    refine g_iconst (v := 0) dX4_ownIssuer_11 (by decide) rfl ?_
    refine g_iald (ha_13 _ _) (vinc (by decide)) dX4_ownIssuer_12 rfl ?_
    refine g_goto (tgt := 17) dX4_ownIssuer_13 (by decide) ?_
    subst hF
    exact g_iret rfl dX4_ownIssuer_17 (Nat.le_of_ble_eq_true rfl) (Nat.le_of_ble_eq_true rfl) ⟨rfl, rfl⟩
noncomputable def G_X4_find_L2 (p0 : Int32) (σ : gS) : Nat → Int32 → Int32
  | 0, _ => 0
  | n + 1, y2 =>
    if (σ 12 2) ≤ y2 then
      (-1 : Int32)
    else
      if (7 : Int32) ≤ y2 then
        (-1 : Int32)
      else
        if (σ 13 (ix y2)) = p0 then
          y2
        else
          G_X4_find_L2 p0 σ n (y2 + Int32.ofInt (1))
def QG_X4_find_L2 (p0 : Int32) (σ : gS) : Nat → Int32 → Prop
  | 0, _ => False
  | n + 1, y2 =>
    if (σ 12 2) ≤ y2 then
      (True)
    else
      (if (7 : Int32) ≤ y2 then
        (True)
      else
        (vp_in y2 7 ∧ (if (σ 13 (ix y2)) = p0 then
          (True)
        else
          (QG_X4_find_L2 p0 σ n (y2 + Int32.ofInt (1))))))
set_option maxHeartbeats 4000000 in
set_option maxRecDepth 100000 in
theorem t_X4_find_L2 (l : Launch) (g : gE) {p0 : Int32} {σ : gS} {ζ : gQ} {fr : Int32} : ∀ (n : Nat) (y2 : Int32), QG_X4_find_L2 p0 σ n y2 → G_X4_find_L2 p0 σ n y2 = fr → gG l g mX4_find (rm 0 0) (gZm g (rm 0 0) (fun r h => r = some (.int fr) ∧ h = hp σ ζ)) 2 [(0, .ref 12), (1, .int p0), (2, .int y2)] [] (hp σ ζ) 0 0 := by
  intro n
  induction n with
  | zero => intro y2 hQ; exact absurd hQ (by unfold QG_X4_find_L2; exact id)
  | succ n ihL2 =>
    intro y2 hQ hF
    unfold G_X4_find_L2 at hF
    unfold QG_X4_find_L2 at hQ
    refine g_iload_n dX4_find_2 rfl rfl rfl ?_
    refine g_aload_n dX4_find_3 rfl rfl rfl ?_
    refine g_get gClX4 2 (by decide) fl_X4_47 dX4_find_4 (ho_12 _ _) rfl rfl ?_
    refine g_icmpge (tgt := 34) dX4_find_7 (by decide) rfl (fun c1 => ?_) (fun c1 => ?_)
    · replace hF := ite_p hF c1
      try replace hQ := ite_q hQ c1
      refine g_iconst (v := (-1)) dX4_find_34 (by decide) rfl ?_
      subst hF
      exact g_iret rfl dX4_find_35 (Nat.le_of_ble_eq_true rfl) (Nat.le_of_ble_eq_true rfl) ⟨rfl, rfl⟩
    · replace hF := ite_n hF c1
      try replace hQ := ite_r hQ c1
      refine g_iload_n dX4_find_10 rfl rfl rfl ?_
      refine g_bipush (v := 7) dX4_find_11 (by decide) rfl ?_
      refine g_icmpge (tgt := 34) dX4_find_13 (by decide) rfl (fun c2 => ?_) (fun c2 => ?_)
      · replace hF := ite_p hF c2
        try replace hQ := ite_q hQ c2
        refine g_iconst (v := (-1)) dX4_find_34 (by decide) rfl ?_
        subst hF
        exact g_iret rfl dX4_find_35 (Nat.le_of_ble_eq_true rfl) (Nat.le_of_ble_eq_true rfl) ⟨rfl, rfl⟩
      · replace hF := ite_n hF c2
        try replace hQ := ite_r hQ c2
        refine g_aload_n dX4_find_16 rfl rfl rfl ?_
        refine g_get gClX4 0 (by decide) fl_X4_11 dX4_find_17 (ho_12 _ _) rfl rfl ?_
        refine g_iload_n dX4_find_20 rfl rfl rfl ?_
        have o3 := hQ.1
        replace hQ := hQ.2
        refine g_iald (ha_13 _ _) o3 dX4_find_21 rfl ?_
        refine g_iload_n dX4_find_22 rfl rfl rfl ?_
        refine g_icmpne (tgt := 28) dX4_find_23 (by decide) rfl (fun c4 => ?_) (fun c4 => ?_)
        · replace hF := ite_n hF c4
          try replace hQ := ite_r hQ c4
          refine g_iincL (L1 := [(0, _), (1, _), (2, _)]) dX4_find_28 rfl (by decide) rfl rfl ?_
          refine g_goto (tgt := 2) dX4_find_31 (by decide) ?_
          refine g_sub [0, 1, 2] rfl ?_
          exact ihL2 _ hQ hF
        · replace hF := ite_p hF c4
          try replace hQ := ite_q hQ c4
          refine g_iload_n dX4_find_26 rfl rfl rfl ?_
          subst hF
          exact g_iret rfl dX4_find_27 (Nat.le_of_ble_eq_true rfl) (Nat.le_of_ble_eq_true rfl) ⟨rfl, rfl⟩
noncomputable def Fr_X4_find (σ : gS) (p0 : Int32) : Int32 :=
  G_X4_find_L2 p0 σ 4000 (0 : Int32)
noncomputable def F_X4_find : gS → Int32 → Int32 := Classical.choose (⟨Fr_X4_find, rfl⟩ : ∃ f : gS → Int32 → Int32, f = Fr_X4_find)
theorem F_X4_find_eq : F_X4_find = Fr_X4_find := Classical.choose_spec (⟨Fr_X4_find, rfl⟩ : ∃ f : gS → Int32 → Int32, f = Fr_X4_find)
def Q_X4_find (σ : gS) (p0 : Int32) : Prop :=
  QG_X4_find_L2 p0 σ 4000 (0 : Int32)
set_option maxHeartbeats 4000000 in
set_option maxRecDepth 100000 in
theorem c_X4_find (l : Launch) (g : gE)  {σ : gS} {ζ : gQ} (p0 : Int32) (hQ : Q_X4_find σ p0) : gC l g mX4_find (rm 0 0) [.ref 12, .int p0] (hp σ ζ) (fun r h => r = some (.int (F_X4_find σ p0)) ∧ h = hp σ ζ) := by
  refine gC_of (by decide) (Nat.le_of_ble_eq_true rfl) ?_
  generalize hF : (F_X4_find σ p0) = fr
  rw [F_X4_find_eq] at hF
  unfold Fr_X4_find at hF
  unfold Q_X4_find at hQ
  refine g_iconst (v := 0) dX4_find_0 (by decide) rfl ?_
  refine g_istoreL_n (L1 := [(0, _), (1, _), (2, _)]) dX4_find_1 rfl (by decide) rfl rfl ?_
  refine g_sub [0, 1, 2] rfl ?_
  exact t_X4_find_L2 l g 4000 _ hQ hF
noncomputable def G_X4_areDifferent_L9 (p1 : Int32) (σ : gS) (kL2 : Int32 → Int32) : Nat → Int32 → Int32 → Int32
  | 0, _, _ => 0
  | n + 1, y2, y3 =>
    if y2 ≤ y3 then
      kL2 (y2 + Int32.ofInt (1))
    else
      if (F_X0_twoAt σ 3 400 (F_X4_issuerPlace y2)) = (F_X0_twoAt σ 3 400 (F_X4_issuerPlace y3)) then
        (0 : Int32)
      else
        G_X4_areDifferent_L9 p1 σ kL2 n y2 (y3 + Int32.ofInt (1))
def QG_X4_areDifferent_L9 (p1 : Int32) (σ : gS) (qL2 : Int32 → Prop) : Nat → Int32 → Int32 → Prop
  | 0, _, _ => False
  | n + 1, y2, y3 =>
    if y2 ≤ y3 then
      (qL2 (y2 + Int32.ofInt (1)))
    else
      ((Q_X0_twoAt σ 3 400 (F_X4_issuerPlace y2)) ∧ ((Q_X0_twoAt σ 3 400 (F_X4_issuerPlace y3)) ∧ (if (F_X0_twoAt σ 3 400 (F_X4_issuerPlace y2)) = (F_X0_twoAt σ 3 400 (F_X4_issuerPlace y3)) then
        (True)
      else
        (QG_X4_areDifferent_L9 p1 σ qL2 n y2 (y3 + Int32.ofInt (1))))))
set_option maxHeartbeats 4000000 in
set_option maxRecDepth 100000 in
theorem t_X4_areDifferent_L9 (l : Launch) (g : gE) {p1 : Int32} {σ : gS} {ζ : gQ} {fr : Int32} {kL2 : Int32 → Int32} {qL2 : Int32 → Prop} (hkL2 : ∀ (y2 : Int32), qL2 y2 → kL2 y2 = fr → gG l g mX4_areDifferent (rm 2 42) (gZm g (rm 2 42) (fun r h => r = some (.int fr) ∧ h = hp σ ζ)) 2 [(0, .ref 3), (1, .int p1), (2, .int y2)] [] (hp σ ζ) 0 0) : ∀ (n : Nat) (y2 : Int32) (y3 : Int32), QG_X4_areDifferent_L9 p1 σ qL2 n y2 y3 → G_X4_areDifferent_L9 p1 σ kL2 n y2 y3 = fr → gG l g mX4_areDifferent (rm 2 42) (gZm g (rm 2 42) (fun r h => r = some (.int fr) ∧ h = hp σ ζ)) 9 [(0, .ref 3), (1, .int p1), (2, .int y2), (3, .int y3)] [] (hp σ ζ) 0 0 := by
  intro n
  induction n with
  | zero => intro y2 y3 hQ; exact absurd hQ (by unfold QG_X4_areDifferent_L9; exact id)
  | succ n ihL9 =>
    intro y2 y3 hQ hF
    unfold G_X4_areDifferent_L9 at hF
    unfold QG_X4_areDifferent_L9 at hQ
    refine g_iload_n dX4_areDifferent_9 rfl rfl rfl ?_
    refine g_iload_n dX4_areDifferent_10 rfl rfl rfl ?_
    refine g_icmpge (tgt := 41) dX4_areDifferent_11 (by decide) rfl (fun c2 => ?_) (fun c2 => ?_)
    · replace hF := ite_p hF c2
      try replace hQ := ite_q hQ c2
      refine g_iincL (L1 := [(0, _), (1, _), (2, _), (3, _)]) dX4_areDifferent_41 rfl (by decide) rfl rfl ?_
      refine g_goto (tgt := 2) dX4_areDifferent_44 (by decide) ?_
      refine g_sub [0, 1, 2] rfl ?_
      exact hkL2 _ hQ hF
    · replace hF := ite_n hF c2
      try replace hQ := ite_r hQ c2
      refine g_aload_n dX4_areDifferent_14 rfl rfl rfl ?_
      refine g_iload_n dX4_areDifferent_15 rfl rfl rfl ?_
      refine g_calls mt_X4_issuerPlace ms_X4_issuerPlace ml_X4_32 (c_X4_issuerPlace l g _) rfl (Nat.le_of_ble_eq_true rfl) (Nat.le_of_ble_eq_true rfl) (Nat.le_of_ble_eq_true rfl) (Nat.le_of_ble_eq_true rfl) rfl (Nat.le_of_ble_eq_true rfl) dX4_areDifferent_16 rfl (fun r3 hr3 pr3 => ?_)
      obtain ⟨rfl, rfl⟩ := pr3
      have o4 := hQ.1
      replace hQ := hQ.2
      refine g_callv mv_X0_twoAt ml_X4_35 (c_X0_twoAt l g isB_disk _ o4) (ho_3 _ _) rfl rfl (Nat.le_of_ble_eq_true rfl) (Nat.le_of_ble_eq_true rfl) (Nat.le_of_ble_eq_true rfl) (Nat.le_of_ble_eq_true rfl) rfl (Nat.le_of_ble_eq_true rfl) dX4_areDifferent_19 rfl (fun r5 hr5 pr5 => ?_)
      obtain ⟨rfl, rfl⟩ := pr5
      refine g_aload_n dX4_areDifferent_22 rfl rfl rfl ?_
      refine g_iload_n dX4_areDifferent_23 rfl rfl rfl ?_
      refine g_calls mt_X4_issuerPlace ms_X4_issuerPlace ml_X4_32 (c_X4_issuerPlace l g _) rfl (Nat.le_of_ble_eq_true rfl) (Nat.le_of_ble_eq_true rfl) (Nat.le_of_ble_eq_true rfl) (Nat.le_of_ble_eq_true rfl) rfl (Nat.le_of_ble_eq_true rfl) dX4_areDifferent_24 rfl (fun r6 hr6 pr6 => ?_)
      obtain ⟨rfl, rfl⟩ := pr6
      have o7 := hQ.1
      replace hQ := hQ.2
      refine g_callv mv_X0_twoAt ml_X4_35 (c_X0_twoAt l g isB_disk _ o7) (ho_3 _ _) rfl rfl (Nat.le_of_ble_eq_true rfl) (Nat.le_of_ble_eq_true rfl) (Nat.le_of_ble_eq_true rfl) (Nat.le_of_ble_eq_true rfl) rfl (Nat.le_of_ble_eq_true rfl) dX4_areDifferent_27 rfl (fun r8 hr8 pr8 => ?_)
      obtain ⟨rfl, rfl⟩ := pr8
      refine g_icmpne (tgt := 35) dX4_areDifferent_30 (by decide) rfl (fun c9 => ?_) (fun c9 => ?_)
      · replace hF := ite_n hF c9
        try replace hQ := ite_r hQ c9
        refine g_iincL (L1 := [(0, _), (1, _), (2, _), (3, _)]) dX4_areDifferent_35 rfl (by decide) rfl rfl ?_
        refine g_goto (tgt := 9) dX4_areDifferent_38 (by decide) ?_
        refine g_sub [0, 1, 2, 3] rfl ?_
        exact ihL9 _ _ hQ hF
      · replace hF := ite_p hF c9
        try replace hQ := ite_q hQ c9
        refine g_iconst (v := 0) dX4_areDifferent_33 (by decide) rfl ?_
        subst hF
        exact g_zret rfl dX4_areDifferent_34 (by decide) (Nat.le_of_ble_eq_true rfl) (Nat.le_of_ble_eq_true rfl) ⟨rfl, rfl⟩
noncomputable def G_X4_areDifferent_L2 (p1 : Int32) (σ : gS) : Nat → Int32 → Int32
  | 0, _ => 0
  | n + 1, y2 =>
    if p1 ≤ y2 then
      (1 : Int32)
    else
      G_X4_areDifferent_L9 p1 σ (G_X4_areDifferent_L2 p1 σ n) 4000 y2 (0 : Int32)
def QG_X4_areDifferent_L2 (p1 : Int32) (σ : gS) : Nat → Int32 → Prop
  | 0, _ => False
  | n + 1, y2 =>
    if p1 ≤ y2 then
      (True)
    else
      (QG_X4_areDifferent_L9 p1 σ (QG_X4_areDifferent_L2 p1 σ n) 4000 y2 (0 : Int32))
set_option maxHeartbeats 4000000 in
set_option maxRecDepth 100000 in
theorem t_X4_areDifferent_L2 (l : Launch) (g : gE) {p1 : Int32} {σ : gS} {ζ : gQ} {fr : Int32} : ∀ (n : Nat) (y2 : Int32), QG_X4_areDifferent_L2 p1 σ n y2 → G_X4_areDifferent_L2 p1 σ n y2 = fr → gG l g mX4_areDifferent (rm 2 42) (gZm g (rm 2 42) (fun r h => r = some (.int fr) ∧ h = hp σ ζ)) 2 [(0, .ref 3), (1, .int p1), (2, .int y2)] [] (hp σ ζ) 0 0 := by
  intro n
  induction n with
  | zero => intro y2 hQ; exact absurd hQ (by unfold QG_X4_areDifferent_L2; exact id)
  | succ n ihL2 =>
    intro y2 hQ hF
    unfold G_X4_areDifferent_L2 at hF
    unfold QG_X4_areDifferent_L2 at hQ
    refine g_iload_n dX4_areDifferent_2 rfl rfl rfl ?_
    refine g_iload_n dX4_areDifferent_3 rfl rfl rfl ?_
    refine g_icmpge (tgt := 47) dX4_areDifferent_4 (by decide) rfl (fun c1 => ?_) (fun c1 => ?_)
    · replace hF := ite_p hF c1
      try replace hQ := ite_q hQ c1
      refine g_iconst (v := 1) dX4_areDifferent_47 (by decide) rfl ?_
      subst hF
      exact g_zret rfl dX4_areDifferent_48 (by decide) (Nat.le_of_ble_eq_true rfl) (Nat.le_of_ble_eq_true rfl) ⟨rfl, rfl⟩
    · replace hF := ite_n hF c1
      try replace hQ := ite_r hQ c1
      refine g_iconst (v := 0) dX4_areDifferent_7 (by decide) rfl ?_
      refine g_istoreL_n (L1 := [(0, _), (1, _), (2, _), (3, _)]) dX4_areDifferent_8 rfl (by decide) rfl rfl ?_
      refine g_sub [0, 1, 2, 3] rfl ?_
      exact t_X4_areDifferent_L9 l g ihL2 4000 _ _ hQ hF
noncomputable def Fr_X4_areDifferent (σ : gS) (p1 : Int32) : Int32 :=
  G_X4_areDifferent_L2 p1 σ 4000 (0 : Int32)
noncomputable def F_X4_areDifferent : gS → Int32 → Int32 := Classical.choose (⟨Fr_X4_areDifferent, rfl⟩ : ∃ f : gS → Int32 → Int32, f = Fr_X4_areDifferent)
theorem F_X4_areDifferent_eq : F_X4_areDifferent = Fr_X4_areDifferent := Classical.choose_spec (⟨Fr_X4_areDifferent, rfl⟩ : ∃ f : gS → Int32 → Int32, f = Fr_X4_areDifferent)
def Q_X4_areDifferent (σ : gS) (p1 : Int32) : Prop :=
  QG_X4_areDifferent_L2 p1 σ 4000 (0 : Int32)
set_option maxHeartbeats 4000000 in
set_option maxRecDepth 100000 in
theorem c_X4_areDifferent (l : Launch) (g : gE)  {σ : gS} {ζ : gQ} (p1 : Int32) (hQ : Q_X4_areDifferent σ p1) : gC l g mX4_areDifferent (rm 2 42) [.ref 3, .int p1] (hp σ ζ) (fun r h => r = some (.int (F_X4_areDifferent σ p1)) ∧ h = hp σ ζ) := by
  refine gC_of (by decide) (Nat.le_of_ble_eq_true rfl) ?_
  generalize hF : (F_X4_areDifferent σ p1) = fr
  rw [F_X4_areDifferent_eq] at hF
  unfold Fr_X4_areDifferent at hF
  unfold Q_X4_areDifferent at hQ
  refine g_iconst (v := 0) dX4_areDifferent_0 (by decide) rfl ?_
  refine g_istoreL_n (L1 := [(0, _), (1, _), (2, _)]) dX4_areDifferent_1 rfl (by decide) rfl rfl ?_
  refine g_sub [0, 1, 2] rfl ?_
  exact t_X4_areDifferent_L2 l g 4000 _ hQ hF
noncomputable def Fr_X4_areOn (σ : gS)  : Int32 :=
  let v3 := (F_X0_byteOf σ 3 400 (19 : Int32))
  if (F_X0_byteOf σ 3 400 (0 : Int32)) = (69 : Int32) then
    if v3 < 0 then
      (0 : Int32)
    else
      if v3 < (7 : Int32) then
        if (σ 3 1) = ((20 : Int32) + (v3 * (18 : Int32))) then
          if (F_X4_areDifferent σ (v3 + (1 : Int32))) = 0 then
            (0 : Int32)
          else
            (1 : Int32)
        else
          (0 : Int32)
      else
        (0 : Int32)
  else
    (0 : Int32)
noncomputable def F_X4_areOn : gS → Int32 := Classical.choose (⟨Fr_X4_areOn, rfl⟩ : ∃ f : gS → Int32, f = Fr_X4_areOn)
theorem F_X4_areOn_eq : F_X4_areOn = Fr_X4_areOn := Classical.choose_spec (⟨Fr_X4_areOn, rfl⟩ : ∃ f : gS → Int32, f = Fr_X4_areOn)
def Q_X4_areOn (σ : gS)  : Prop :=
  (Q_X0_byteOf σ 3 400 (19 : Int32)) ∧ (let v3 := (F_X0_byteOf σ 3 400 (19 : Int32))
  (Q_X0_byteOf σ 3 400 (0 : Int32)) ∧ (if (F_X0_byteOf σ 3 400 (0 : Int32)) = (69 : Int32) then
    (if v3 < 0 then
      (True)
    else
      (if v3 < (7 : Int32) then
        (if (σ 3 1) = ((20 : Int32) + (v3 * (18 : Int32))) then
          ((Q_X4_areDifferent σ (v3 + (1 : Int32))) ∧ (if (F_X4_areDifferent σ (v3 + (1 : Int32))) = 0 then
            (True)
          else
            (True)))
        else
          (True))
      else
        (True)))
  else
    (True)))
set_option maxHeartbeats 4000000 in
set_option maxRecDepth 100000 in
theorem c_X4_areOn (l : Launch) (g : gE)  {σ : gS} {ζ : gQ}  (hQ : Q_X4_areOn σ ) : gC l g mX4_areOn (rm 3 65) [.ref 3] (hp σ ζ) (fun r h => r = some (.int (F_X4_areOn σ )) ∧ h = hp σ ζ) := by
  refine gC_of (by decide) (Nat.le_of_ble_eq_true rfl) ?_
  generalize hF : (F_X4_areOn σ ) = fr
  rw [F_X4_areOn_eq] at hF
  unfold Fr_X4_areOn at hF
  unfold Q_X4_areOn at hQ
  refine g_aload_n dX4_areOn_0 rfl rfl rfl ?_
  refine g_bipush (v := 19) dX4_areOn_1 (by decide) rfl ?_
  have o1 := hQ.1
  replace hQ := hQ.2
  refine g_callv mv_X0_byteOf ml_X4_18 (c_X0_byteOf l g isB_disk _ o1) (ho_3 _ _) rfl rfl (Nat.le_of_ble_eq_true rfl) (Nat.le_of_ble_eq_true rfl) (Nat.le_of_ble_eq_true rfl) (Nat.le_of_ble_eq_true rfl) rfl (Nat.le_of_ble_eq_true rfl) dX4_areOn_3 rfl (fun r2 hr2 pr2 => ?_)
  obtain ⟨rfl, rfl⟩ := pr2
  refine g_istoreL_n (L1 := [(0, _), (1, _)]) dX4_areOn_6 rfl (by decide) rfl rfl ?_
  refine g_aload_n dX4_areOn_7 rfl rfl rfl ?_
  refine g_iconst (v := 0) dX4_areOn_8 (by decide) rfl ?_
  have o4 := hQ.1
  replace hQ := hQ.2
  refine g_callv mv_X0_byteOf ml_X4_18 (c_X0_byteOf l g isB_disk _ o4) (ho_3 _ _) rfl rfl (Nat.le_of_ble_eq_true rfl) (Nat.le_of_ble_eq_true rfl) (Nat.le_of_ble_eq_true rfl) (Nat.le_of_ble_eq_true rfl) rfl (Nat.le_of_ble_eq_true rfl) dX4_areOn_9 rfl (fun r5 hr5 pr5 => ?_)
  obtain ⟨rfl, rfl⟩ := pr5
  refine g_bipush (v := 69) dX4_areOn_12 (by decide) rfl ?_
  refine g_icmpne (tgt := 27) dX4_areOn_14 (by decide) rfl (fun c6 => ?_) (fun c6 => ?_)
  · replace hF := ite_n hF c6
    try replace hQ := ite_r hQ c6
    refine g_iconst (v := 0) dX4_areOn_27 (by decide) rfl ?_
    subst hF
    exact g_zret rfl dX4_areOn_28 (by decide) (Nat.le_of_ble_eq_true rfl) (Nat.le_of_ble_eq_true rfl) ⟨rfl, rfl⟩
  · replace hF := ite_p hF c6
    try replace hQ := ite_q hQ c6
    refine g_iload_n dX4_areOn_17 rfl rfl rfl ?_
    refine g_iflt (tgt := 27) dX4_areOn_18 (by decide) rfl (fun c7 => ?_) (fun c7 => ?_)
    · replace hF := ite_p hF c7
      try replace hQ := ite_q hQ c7
      refine g_iconst (v := 0) dX4_areOn_27 (by decide) rfl ?_
      subst hF
      exact g_zret rfl dX4_areOn_28 (by decide) (Nat.le_of_ble_eq_true rfl) (Nat.le_of_ble_eq_true rfl) ⟨rfl, rfl⟩
    · replace hF := ite_n hF c7
      try replace hQ := ite_r hQ c7
      refine g_iload_n dX4_areOn_21 rfl rfl rfl ?_
      refine g_bipush (v := 7) dX4_areOn_22 (by decide) rfl ?_
      refine g_icmplt (tgt := 29) dX4_areOn_24 (by decide) rfl (fun c8 => ?_) (fun c8 => ?_)
      · replace hF := ite_p hF c8
        try replace hQ := ite_q hQ c8
        refine g_aload_n dX4_areOn_29 rfl rfl rfl ?_
        refine g_get gClX0 1 (by decide) fl_X4_24 dX4_areOn_30 (ho_3 _ _) rfl rfl ?_
        refine g_bipush (v := 20) dX4_areOn_33 (by decide) rfl ?_
        refine g_iload_n dX4_areOn_35 rfl rfl rfl ?_
        refine g_bipush (v := 18) dX4_areOn_36 (by decide) rfl ?_
        refine g_imul dX4_areOn_38 rfl ?_
        refine g_iadd dX4_areOn_39 rfl ?_
        refine g_icmpne (tgt := 57) dX4_areOn_40 (by decide) rfl (fun c9 => ?_) (fun c9 => ?_)
        · replace hF := ite_n hF c9
          try replace hQ := ite_r hQ c9
          refine g_iconst (v := 0) dX4_areOn_57 (by decide) rfl ?_
          subst hF
          exact g_zret rfl dX4_areOn_58 (by decide) (Nat.le_of_ble_eq_true rfl) (Nat.le_of_ble_eq_true rfl) ⟨rfl, rfl⟩
        · replace hF := ite_p hF c9
          try replace hQ := ite_q hQ c9
          refine g_aload_n dX4_areOn_43 rfl rfl rfl ?_
          refine g_iload_n dX4_areOn_44 rfl rfl rfl ?_
          refine g_iconst (v := 1) dX4_areOn_45 (by decide) rfl ?_
          refine g_iadd dX4_areOn_46 rfl ?_
          have o10 := hQ.1
          replace hQ := hQ.2
          refine g_calls mt_X4_areDifferent ms_X4_areDifferent ml_X4_28 (c_X4_areDifferent l g _ o10) rfl (Nat.le_of_ble_eq_true rfl) (Nat.le_of_ble_eq_true rfl) (Nat.le_of_ble_eq_true rfl) (Nat.le_of_ble_eq_true rfl) rfl (Nat.le_of_ble_eq_true rfl) dX4_areOn_47 rfl (fun r11 hr11 pr11 => ?_)
          obtain ⟨rfl, rfl⟩ := pr11
          refine g_ifeq (tgt := 57) dX4_areOn_50 (by decide) rfl (fun c12 => ?_) (fun c12 => ?_)
          · replace hF := ite_p hF c12
            try replace hQ := ite_q hQ c12
            refine g_iconst (v := 0) dX4_areOn_57 (by decide) rfl ?_
            subst hF
            exact g_zret rfl dX4_areOn_58 (by decide) (Nat.le_of_ble_eq_true rfl) (Nat.le_of_ble_eq_true rfl) ⟨rfl, rfl⟩
          · replace hF := ite_n hF c12
            try replace hQ := ite_r hQ c12
            refine g_iconst (v := 1) dX4_areOn_53 (by decide) rfl ?_
            refine g_goto (tgt := 58) dX4_areOn_54 (by decide) ?_
            subst hF
            exact g_zret rfl dX4_areOn_58 (by decide) (Nat.le_of_ble_eq_true rfl) (Nat.le_of_ble_eq_true rfl) ⟨rfl, rfl⟩
      · replace hF := ite_n hF c8
        try replace hQ := ite_r hQ c8
        refine g_iconst (v := 0) dX4_areOn_27 (by decide) rfl ?_
        subst hF
        exact g_zret rfl dX4_areOn_28 (by decide) (Nat.le_of_ble_eq_true rfl) (Nat.le_of_ble_eq_true rfl) ⟨rfl, rfl⟩
noncomputable def G_X4_takeFrom_L50  (kL23 : Int32 → gS → gS) : Nat → Int32 → Int32 → Int32 → gS → gS
  | 0, _, _, _, σ => σ
  | n + 1, y2, y3, y4, σ =>
    if (4 : Int32) ≤ y4 then
      kL23 (y2 + Int32.ofInt (1)) σ
    else
      let s14 := (pf σ 14 (ix ((y2 * (4 : Int32)) + y4)) (F_X0_fourAt σ 3 400 ((y3 + (2 : Int32)) + (y4 * (4 : Int32)))) : gS)
      G_X4_takeFrom_L50  kL23 n y2 y3 (y4 + Int32.ofInt (1)) s14
def QG_X4_takeFrom_L50  (qL23 : Int32 → gS → Prop) : Nat → Int32 → Int32 → Int32 → gS → Prop
  | 0, _, _, _, _ => False
  | n + 1, y2, y3, y4, σ =>
    if (4 : Int32) ≤ y4 then
      (qL23 (y2 + Int32.ofInt (1)) σ)
    else
      ((Q_X0_fourAt σ 3 400 ((y3 + (2 : Int32)) + (y4 * (4 : Int32)))) ∧ (vp_in ((y2 * (4 : Int32)) + y4) 28 ∧ (let s14 := (pf σ 14 (ix ((y2 * (4 : Int32)) + y4)) (F_X0_fourAt σ 3 400 ((y3 + (2 : Int32)) + (y4 * (4 : Int32)))) : gS)
      QG_X4_takeFrom_L50  qL23 n y2 y3 (y4 + Int32.ofInt (1)) s14)))
set_option maxHeartbeats 4000000 in
set_option maxRecDepth 100000 in
theorem t_X4_takeFrom_L50 (l : Launch) (g : gE)  {ζ : gQ} {fr : gS} {kL23 : Int32 → gS → gS} {qL23 : Int32 → gS → Prop} (hkL23 : ∀ (y2 : Int32) (σ : gS), qL23 y2 σ → kL23 y2 σ = fr → gG l g mX4_takeFrom (rm 3 63) (gZm g (rm 3 63) (fun r h => r = none ∧ h = hp fr ζ)) 23 [(0, .ref 12), (1, .ref 3), (2, .int y2)] [] (hp σ ζ) 0 0) : ∀ (n : Nat) (y2 : Int32) (y3 : Int32) (y4 : Int32) (σ : gS), QG_X4_takeFrom_L50  qL23 n y2 y3 y4 σ → G_X4_takeFrom_L50  kL23 n y2 y3 y4 σ = fr → gG l g mX4_takeFrom (rm 3 63) (gZm g (rm 3 63) (fun r h => r = none ∧ h = hp fr ζ)) 50 [(0, .ref 12), (1, .ref 3), (2, .int y2), (3, .int y3), (4, .int y4)] [] (hp σ ζ) 0 0 := by
  intro n
  induction n with
  | zero => intro y2 y3 y4 σ hQ; exact absurd hQ (by unfold QG_X4_takeFrom_L50; exact id)
  | succ n ihL50 =>
    intro y2 y3 y4 σ hQ hF
    unfold G_X4_takeFrom_L50 at hF
    unfold QG_X4_takeFrom_L50 at hQ
    refine g_iload dX4_takeFrom_50 rfl rfl ?_
    refine g_iconst (v := 4) dX4_takeFrom_52 (by decide) rfl ?_
    refine g_icmpge (tgt := 85) dX4_takeFrom_53 (by decide) rfl (fun c10 => ?_) (fun c10 => ?_)
    · replace hF := ite_p hF c10
      try replace hQ := ite_q hQ c10
      refine g_iincL (L1 := [(0, _), (1, _), (2, _), (3, _), (4, _)]) dX4_takeFrom_85 rfl (by decide) rfl rfl ?_
      refine g_goto (tgt := 23) dX4_takeFrom_88 (by decide) ?_
      refine g_sub [0, 1, 2] rfl ?_
      exact hkL23 _ _ hQ hF
    · replace hF := ite_n hF c10
      try replace hQ := ite_r hQ c10
      refine g_aload_n dX4_takeFrom_56 rfl rfl rfl ?_
      refine g_get gClX4 1 (by decide) fl_X4_15 dX4_takeFrom_57 (ho_12 _ _) rfl rfl ?_
      refine g_iload_n dX4_takeFrom_60 rfl rfl rfl ?_
      refine g_iconst (v := 4) dX4_takeFrom_61 (by decide) rfl ?_
      refine g_imul dX4_takeFrom_62 rfl ?_
      refine g_iload dX4_takeFrom_63 rfl rfl ?_
      refine g_iadd dX4_takeFrom_65 rfl ?_
      refine g_aload_n dX4_takeFrom_66 rfl rfl rfl ?_
      refine g_iload_n dX4_takeFrom_67 rfl rfl rfl ?_
      refine g_iconst (v := 2) dX4_takeFrom_68 (by decide) rfl ?_
      refine g_iadd dX4_takeFrom_69 rfl ?_
      refine g_iload dX4_takeFrom_70 rfl rfl ?_
      refine g_iconst (v := 4) dX4_takeFrom_72 (by decide) rfl ?_
      refine g_imul dX4_takeFrom_73 rfl ?_
      refine g_iadd dX4_takeFrom_74 rfl ?_
      have o11 := hQ.1
      replace hQ := hQ.2
      refine g_callv mv_X0_fourAt ml_X4_50 (c_X0_fourAt l g isB_disk _ o11) (ho_3 _ _) rfl rfl (Nat.le_of_ble_eq_true rfl) (Nat.le_of_ble_eq_true rfl) (Nat.le_of_ble_eq_true rfl) (Nat.le_of_ble_eq_true rfl) rfl (Nat.le_of_ble_eq_true rfl) dX4_takeFrom_75 rfl (fun r12 hr12 pr12 => ?_)
      obtain ⟨rfl, rfl⟩ := pr12
      have o13 := hQ.1
      replace hQ := hQ.2
      refine g_iast (ha_14 _ _) o13 pa_14 dX4_takeFrom_78 rfl ?_
      refine g_iincL (L1 := [(0, _), (1, _), (2, _), (3, _), (4, _)]) dX4_takeFrom_79 rfl (by decide) rfl rfl ?_
      refine g_goto (tgt := 50) dX4_takeFrom_82 (by decide) ?_
      refine g_sub [0, 1, 2, 3, 4] rfl ?_
      exact ihL50 _ _ _ _ hQ hF
noncomputable def G_X4_takeFrom_L23  : Nat → Int32 → gS → gS
  | 0, _, σ => σ
  | n + 1, y2, σ =>
    if (σ 12 2) ≤ y2 then
      σ
    else
      let s9 := (pf σ 13 (ix y2) (F_X0_twoAt σ 3 400 (F_X4_issuerPlace y2)) : gS)
      G_X4_takeFrom_L50  (G_X4_takeFrom_L23  n) 4000 y2 (F_X4_issuerPlace y2) (0 : Int32) s9
def QG_X4_takeFrom_L23  : Nat → Int32 → gS → Prop
  | 0, _, _ => False
  | n + 1, y2, σ =>
    if (σ 12 2) ≤ y2 then
      (True)
    else
      ((Q_X0_twoAt σ 3 400 (F_X4_issuerPlace y2)) ∧ (vp_in y2 7 ∧ (let s9 := (pf σ 13 (ix y2) (F_X0_twoAt σ 3 400 (F_X4_issuerPlace y2)) : gS)
      QG_X4_takeFrom_L50  (QG_X4_takeFrom_L23  n) 4000 y2 (F_X4_issuerPlace y2) (0 : Int32) s9)))
set_option maxHeartbeats 4000000 in
set_option maxRecDepth 100000 in
theorem t_X4_takeFrom_L23 (l : Launch) (g : gE)  {ζ : gQ} {fr : gS} : ∀ (n : Nat) (y2 : Int32) (σ : gS), QG_X4_takeFrom_L23  n y2 σ → G_X4_takeFrom_L23  n y2 σ = fr → gG l g mX4_takeFrom (rm 3 63) (gZm g (rm 3 63) (fun r h => r = none ∧ h = hp fr ζ)) 23 [(0, .ref 12), (1, .ref 3), (2, .int y2)] [] (hp σ ζ) 0 0 := by
  intro n
  induction n with
  | zero => intro y2 σ hQ; exact absurd hQ (by unfold QG_X4_takeFrom_L23; exact id)
  | succ n ihL23 =>
    intro y2 σ hQ hF
    unfold G_X4_takeFrom_L23 at hF
    unfold QG_X4_takeFrom_L23 at hQ
    refine g_iload_n dX4_takeFrom_23 rfl rfl rfl ?_
    refine g_aload_n dX4_takeFrom_24 rfl rfl rfl ?_
    refine g_get gClX4 2 (by decide) fl_X4_47 dX4_takeFrom_25 (ho_12 _ _) rfl rfl ?_
    refine g_icmpge (tgt := 91) dX4_takeFrom_28 (by decide) rfl (fun c4 => ?_) (fun c4 => ?_)
    · replace hF := ite_p hF c4
      try replace hQ := ite_q hQ c4
      subst hF
      exact g_vret rfl dX4_takeFrom_91 (Nat.le_of_ble_eq_true rfl) (Nat.le_of_ble_eq_true rfl) ⟨rfl, rfl⟩
    · replace hF := ite_n hF c4
      try replace hQ := ite_r hQ c4
      refine g_iload_n dX4_takeFrom_31 rfl rfl rfl ?_
      refine g_calls mt_X4_issuerPlace ms_X4_issuerPlace ml_X4_32 (c_X4_issuerPlace l g _) rfl (Nat.le_of_ble_eq_true rfl) (Nat.le_of_ble_eq_true rfl) (Nat.le_of_ble_eq_true rfl) (Nat.le_of_ble_eq_true rfl) rfl (Nat.le_of_ble_eq_true rfl) dX4_takeFrom_32 rfl (fun r5 hr5 pr5 => ?_)
      obtain ⟨rfl, rfl⟩ := pr5
      refine g_istoreL_n (L1 := [(0, _), (1, _), (2, _), (3, _)]) dX4_takeFrom_35 rfl (by decide) rfl rfl ?_
      refine g_aload_n dX4_takeFrom_36 rfl rfl rfl ?_
      refine g_get gClX4 0 (by decide) fl_X4_11 dX4_takeFrom_37 (ho_12 _ _) rfl rfl ?_
      refine g_iload_n dX4_takeFrom_40 rfl rfl rfl ?_
      refine g_aload_n dX4_takeFrom_41 rfl rfl rfl ?_
      refine g_iload_n dX4_takeFrom_42 rfl rfl rfl ?_
      have o6 := hQ.1
      replace hQ := hQ.2
      refine g_callv mv_X0_twoAt ml_X4_35 (c_X0_twoAt l g isB_disk _ o6) (ho_3 _ _) rfl rfl (Nat.le_of_ble_eq_true rfl) (Nat.le_of_ble_eq_true rfl) (Nat.le_of_ble_eq_true rfl) (Nat.le_of_ble_eq_true rfl) rfl (Nat.le_of_ble_eq_true rfl) dX4_takeFrom_43 rfl (fun r7 hr7 pr7 => ?_)
      obtain ⟨rfl, rfl⟩ := pr7
      have o8 := hQ.1
      replace hQ := hQ.2
      refine g_iast (ha_13 _ _) o8 pa_13 dX4_takeFrom_46 rfl ?_
      refine g_iconst (v := 0) dX4_takeFrom_47 (by decide) rfl ?_
      refine g_istoreL (L1 := [(0, _), (1, _), (2, _), (3, _), (4, _)]) dX4_takeFrom_48 (by decide) rfl rfl ?_
      refine g_sub [0, 1, 2, 3, 4] rfl ?_
      exact t_X4_takeFrom_L50 l g ihL23 4000 _ _ _ _ hQ hF
noncomputable def Fr_X4_takeFrom (σ : gS)  : gS :=
  let s3 := (pf σ 12 2 (if (0 : Int32) < (if (7 : Int32) < ((F_X0_byteOf σ 3 400 (19 : Int32)) + (1 : Int32)) then (7 : Int32) else ((F_X0_byteOf σ 3 400 (19 : Int32)) + (1 : Int32))) then (if (7 : Int32) < ((F_X0_byteOf σ 3 400 (19 : Int32)) + (1 : Int32)) then (7 : Int32) else ((F_X0_byteOf σ 3 400 (19 : Int32)) + (1 : Int32))) else (0 : Int32)) : gS)
  G_X4_takeFrom_L23  4000 (0 : Int32) s3
noncomputable def F_X4_takeFrom : gS → gS := Classical.choose (⟨Fr_X4_takeFrom, rfl⟩ : ∃ f : gS → gS, f = Fr_X4_takeFrom)
theorem F_X4_takeFrom_eq : F_X4_takeFrom = Fr_X4_takeFrom := Classical.choose_spec (⟨Fr_X4_takeFrom, rfl⟩ : ∃ f : gS → gS, f = Fr_X4_takeFrom)
def Q_X4_takeFrom (σ : gS)  : Prop :=
  (Q_X0_byteOf σ 3 400 (19 : Int32)) ∧ (let s3 := (pf σ 12 2 (if (0 : Int32) < (if (7 : Int32) < ((F_X0_byteOf σ 3 400 (19 : Int32)) + (1 : Int32)) then (7 : Int32) else ((F_X0_byteOf σ 3 400 (19 : Int32)) + (1 : Int32))) then (if (7 : Int32) < ((F_X0_byteOf σ 3 400 (19 : Int32)) + (1 : Int32)) then (7 : Int32) else ((F_X0_byteOf σ 3 400 (19 : Int32)) + (1 : Int32))) else (0 : Int32)) : gS)
  QG_X4_takeFrom_L23  4000 (0 : Int32) s3)
set_option maxHeartbeats 4000000 in
set_option maxRecDepth 100000 in
theorem c_X4_takeFrom (l : Launch) (g : gE)  {σ : gS} {ζ : gQ}  (hQ : Q_X4_takeFrom σ ) : gC l g mX4_takeFrom (rm 3 63) [.ref 12, .ref 3] (hp σ ζ) (fun r h => r = none ∧ h = hp (F_X4_takeFrom σ ) ζ) := by
  refine gC_of (by decide) (Nat.le_of_ble_eq_true rfl) ?_
  generalize hF : (F_X4_takeFrom σ ) = fr
  rw [F_X4_takeFrom_eq] at hF
  unfold Fr_X4_takeFrom at hF
  unfold Q_X4_takeFrom at hQ
  refine g_aload_n dX4_takeFrom_0 rfl rfl rfl ?_
  refine g_iconst (v := 0) dX4_takeFrom_1 (by decide) rfl ?_
  refine g_aload_n dX4_takeFrom_2 rfl rfl rfl ?_
  refine g_bipush (v := 19) dX4_takeFrom_3 (by decide) rfl ?_
  have o1 := hQ.1
  replace hQ := hQ.2
  refine g_callv mv_X0_byteOf ml_X4_18 (c_X0_byteOf l g isB_disk _ o1) (ho_3 _ _) rfl rfl (Nat.le_of_ble_eq_true rfl) (Nat.le_of_ble_eq_true rfl) (Nat.le_of_ble_eq_true rfl) (Nat.le_of_ble_eq_true rfl) rfl (Nat.le_of_ble_eq_true rfl) dX4_takeFrom_5 rfl (fun r2 hr2 pr2 => ?_)
  obtain ⟨rfl, rfl⟩ := pr2
  refine g_iconst (v := 1) dX4_takeFrom_8 (by decide) rfl ?_
  refine g_iadd dX4_takeFrom_9 rfl ?_
  refine g_bipush (v := 7) dX4_takeFrom_10 (by decide) rfl ?_
  refine g_min ml_X4_38 st_min in_Math cd_min (Nat.le_of_ble_eq_true rfl) (Nat.le_of_ble_eq_true rfl) (Nat.le_of_ble_eq_true rfl) (Nat.le_of_ble_eq_true rfl) dX4_takeFrom_12 rfl ?_
  refine g_max ml_X4_44 st_max in_Math cd_max (Nat.le_of_ble_eq_true rfl) (Nat.le_of_ble_eq_true rfl) (Nat.le_of_ble_eq_true rfl) (Nat.le_of_ble_eq_true rfl) dX4_takeFrom_15 rfl ?_
  refine g_put gClX4 2 (by decide) fl_X4_47 rfl dX4_takeFrom_18 (ho_12 _ _) rfl rfl (Nat.le_of_ble_eq_true rfl) po_12_2 rfl ?_
  refine g_iconst (v := 0) dX4_takeFrom_21 (by decide) rfl ?_
  refine g_istoreL_n (L1 := [(0, _), (1, _), (2, _)]) dX4_takeFrom_22 rfl (by decide) rfl rfl ?_
  refine g_sub [0, 1, 2] rfl ?_
  exact t_X4_takeFrom_L23 l g 4000 _ _ hQ hF
noncomputable def Fr_X4_choose (σ : gS) (p0 : Int32) : gS :=
  if p0 < 0 then
    σ
  else
    if (7 : Int32) ≤ p0 then
      σ
    else
      let s8 := (F_X7_useKey σ (σ 14 (ix (p0 * (4 : Int32)))) (σ 14 (ix ((p0 * (4 : Int32)) + (1 : Int32)))) (σ 14 (ix ((p0 * (4 : Int32)) + (2 : Int32)))) (σ 14 (ix ((p0 * (4 : Int32)) + (3 : Int32)))))
      s8
noncomputable def F_X4_choose : gS → Int32 → gS := Classical.choose (⟨Fr_X4_choose, rfl⟩ : ∃ f : gS → Int32 → gS, f = Fr_X4_choose)
theorem F_X4_choose_eq : F_X4_choose = Fr_X4_choose := Classical.choose_spec (⟨Fr_X4_choose, rfl⟩ : ∃ f : gS → Int32 → gS, f = Fr_X4_choose)
def Q_X4_choose (σ : gS) (p0 : Int32) : Prop :=
  if p0 < 0 then
    (True)
  else
    (if (7 : Int32) ≤ p0 then
      (True)
    else
      (vp_in (p0 * (4 : Int32)) 28 ∧ (vp_in ((p0 * (4 : Int32)) + (1 : Int32)) 28 ∧ (vp_in ((p0 * (4 : Int32)) + (2 : Int32)) 28 ∧ (vp_in ((p0 * (4 : Int32)) + (3 : Int32)) 28 ∧ (let s8 := (F_X7_useKey σ (σ 14 (ix (p0 * (4 : Int32)))) (σ 14 (ix ((p0 * (4 : Int32)) + (1 : Int32)))) (σ 14 (ix ((p0 * (4 : Int32)) + (2 : Int32)))) (σ 14 (ix ((p0 * (4 : Int32)) + (3 : Int32)))))
      True))))))
set_option maxHeartbeats 4000000 in
set_option maxRecDepth 100000 in
theorem c_X4_choose (l : Launch) (g : gE)  {σ : gS} {ζ : gQ} (p0 : Int32) (hQ : Q_X4_choose σ p0) : gC l g mX4_choose (rm 1 24) [.ref 12, .int p0, .ref 7] (hp σ ζ) (fun r h => r = none ∧ h = hp (F_X4_choose σ p0) ζ) := by
  refine gC_of (by decide) (Nat.le_of_ble_eq_true rfl) ?_
  generalize hF : (F_X4_choose σ p0) = fr
  rw [F_X4_choose_eq] at hF
  unfold Fr_X4_choose at hF
  unfold Q_X4_choose at hQ
  refine g_iload_n dX4_choose_0 rfl rfl rfl ?_
  refine g_iflt (tgt := 48) dX4_choose_1 (by decide) rfl (fun c1 => ?_) (fun c1 => ?_)
  · replace hF := ite_p hF c1
    try replace hQ := ite_q hQ c1
    subst hF
    exact g_vret rfl dX4_choose_48 (Nat.le_of_ble_eq_true rfl) (Nat.le_of_ble_eq_true rfl) ⟨rfl, rfl⟩
  · replace hF := ite_n hF c1
    try replace hQ := ite_r hQ c1
    refine g_iload_n dX4_choose_4 rfl rfl rfl ?_
    refine g_bipush (v := 7) dX4_choose_5 (by decide) rfl ?_
    refine g_icmpge (tgt := 48) dX4_choose_7 (by decide) rfl (fun c2 => ?_) (fun c2 => ?_)
    · replace hF := ite_p hF c2
      try replace hQ := ite_q hQ c2
      subst hF
      exact g_vret rfl dX4_choose_48 (Nat.le_of_ble_eq_true rfl) (Nat.le_of_ble_eq_true rfl) ⟨rfl, rfl⟩
    · replace hF := ite_n hF c2
      try replace hQ := ite_r hQ c2
      refine g_iload_n dX4_choose_10 rfl rfl rfl ?_
      refine g_iconst (v := 4) dX4_choose_11 (by decide) rfl ?_
      refine g_imul dX4_choose_12 rfl ?_
      refine g_istoreL_n (L1 := [(0, _), (1, _), (2, _), (3, _)]) dX4_choose_13 rfl (by decide) rfl rfl ?_
      refine g_aload_n dX4_choose_14 rfl rfl rfl ?_
      refine g_aload_n dX4_choose_15 rfl rfl rfl ?_
      refine g_get gClX4 1 (by decide) fl_X4_15 dX4_choose_16 (ho_12 _ _) rfl rfl ?_
      refine g_iload_n dX4_choose_19 rfl rfl rfl ?_
      have o3 := hQ.1
      replace hQ := hQ.2
      refine g_iald (ha_14 _ _) o3 dX4_choose_20 rfl ?_
      refine g_aload_n dX4_choose_21 rfl rfl rfl ?_
      refine g_get gClX4 1 (by decide) fl_X4_15 dX4_choose_22 (ho_12 _ _) rfl rfl ?_
      refine g_iload_n dX4_choose_25 rfl rfl rfl ?_
      refine g_iconst (v := 1) dX4_choose_26 (by decide) rfl ?_
      refine g_iadd dX4_choose_27 rfl ?_
      have o4 := hQ.1
      replace hQ := hQ.2
      refine g_iald (ha_14 _ _) o4 dX4_choose_28 rfl ?_
      refine g_aload_n dX4_choose_29 rfl rfl rfl ?_
      refine g_get gClX4 1 (by decide) fl_X4_15 dX4_choose_30 (ho_12 _ _) rfl rfl ?_
      refine g_iload_n dX4_choose_33 rfl rfl rfl ?_
      refine g_iconst (v := 2) dX4_choose_34 (by decide) rfl ?_
      refine g_iadd dX4_choose_35 rfl ?_
      have o5 := hQ.1
      replace hQ := hQ.2
      refine g_iald (ha_14 _ _) o5 dX4_choose_36 rfl ?_
      refine g_aload_n dX4_choose_37 rfl rfl rfl ?_
      refine g_get gClX4 1 (by decide) fl_X4_15 dX4_choose_38 (ho_12 _ _) rfl rfl ?_
      refine g_iload_n dX4_choose_41 rfl rfl rfl ?_
      refine g_iconst (v := 3) dX4_choose_42 (by decide) rfl ?_
      refine g_iadd dX4_choose_43 rfl ?_
      have o6 := hQ.1
      replace hQ := hQ.2
      refine g_iald (ha_14 _ _) o6 dX4_choose_44 rfl ?_
      refine g_callv mv_X7_useKey ml_X4_53 (c_X7_useKey l g _ _ _ _) (ho_7 _ _) rfl rfl (Nat.le_of_ble_eq_true rfl) (Nat.le_of_ble_eq_true rfl) (Nat.le_of_ble_eq_true rfl) (Nat.le_of_ble_eq_true rfl) rfl (Nat.le_of_ble_eq_true rfl) dX4_choose_45 rfl (fun r7 hr7 pr7 => ?_)
      obtain ⟨rfl, rfl⟩ := pr7
      subst hF
      exact g_vret rfl dX4_choose_48 (Nat.le_of_ble_eq_true rfl) (Nat.le_of_ble_eq_true rfl) ⟨rfl, rfl⟩
