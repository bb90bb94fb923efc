/-! StationHouse: by program -/
noncomputable def J_X9_readCards_111  (u0 : Int32) (σ : gS) : gS :=
  if (F_X9_isCard u0) = 0 then
    let s11 := (F_X8_readN σ 22 u0 (σ 0 10))
    s11
  else
    let s15 := (F_X8_read σ 22 (ix u0) u0 (σ 0 10))
    s15
def QJ_X9_readCards_111  (u0 : Int32) (σ : gS) : Prop :=
  if (F_X9_isCard u0) = 0 then
    (let s11 := (F_X8_readN σ 22 u0 (σ 0 10))
    True)
  else
    (vp_in u0 16 ∧ ((Q_X8_read σ 22 (ix u0) u0 (σ 0 10)) ∧ (let s15 := (F_X8_read σ 22 (ix u0) u0 (σ 0 10))
    True)))
set_option maxHeartbeats 4000000 in
set_option maxRecDepth 100000 in
theorem j_X9_readCards_111 (l : Launch) (g : gE)  {ζ : gQ} {fr : gS} (hT : gTab g) : ∀ (u0 : Int32) (σ : gS), QJ_X9_readCards_111  u0 σ → J_X9_readCards_111  u0 σ = fr → gG l g mX9_readCards (rm 6 167) (gZm g (rm 6 167) (fun r h => r = none ∧ h = hp fr ζ)) 111 [(0, .ref 0)] [.int u0] (hp σ ζ) 0 0 := by
  intro u0 σ hQ hF
  unfold J_X9_readCards_111 at hF
  unfold QJ_X9_readCards_111 at hQ
  refine g_istoreL_n (L1 := [(0, _), (3, _)]) dX9_readCards_111 rfl (by decide) rfl rfl ?_
  refine g_aload_n dX9_readCards_112 rfl rfl rfl ?_
  refine g_get gClX9 18 (by decide) fl_X9_82 dX9_readCards_113 (ho_0 _ _) rfl rfl ?_
  refine g_get gClX2 0 (by decide) fl_X9_250 dX9_readCards_116 (ho_21 _ _) rfl rfl ?_
  refine g_iload_n dX9_readCards_119 rfl rfl rfl ?_
  refine g_iload_n dX9_readCards_120 rfl rfl rfl ?_
  refine g_calls mt_X9_isCard ms_X9_isCard ml_X9_118 (c_X9_isCard l g _) rfl (Nat.le_of_ble_eq_true rfl) (Nat.le_of_ble_eq_true rfl) (Nat.le_of_ble_eq_true rfl) (Nat.le_of_ble_eq_true rfl) rfl (Nat.le_of_ble_eq_true rfl) dX9_readCards_121 rfl (fun r8 hr8 pr8 => ?_)
  obtain ⟨rfl, rfl⟩ := pr8
  refine g_ifeq (tgt := 136) dX9_readCards_124 (by decide) rfl (fun c9 => ?_) (fun c9 => ?_)
  · replace hF := ite_p hF c9
    try replace hQ := ite_q hQ c9
    refine g_null dX9_readCards_136 rfl ?_
    refine g_aload_n dX9_readCards_137 rfl rfl rfl ?_
    refine g_get gClX9 14 (by decide) fl_X9_54 dX9_readCards_138 (ho_0 _ _) rfl rfl ?_
    refine g_aload_n dX9_readCards_141 rfl rfl rfl ?_
    refine g_get gClX9 13 (by decide) fl_X9_47 dX9_readCards_142 (ho_0 _ _) rfl rfl ?_
    refine g_aload_n dX9_readCards_145 rfl rfl rfl ?_
    refine g_get gClX9 10 (by decide) fl_X9_147 dX9_readCards_146 (ho_0 _ _) rfl rfl ?_
    refine g_callv mv_X8_read ml_X9_245 (c_X8_readN l g isS_in hT _ _) (ho_22 _ _) rfl rfl (Nat.le_of_ble_eq_true rfl) (Nat.le_of_ble_eq_true rfl) (Nat.le_of_ble_eq_true rfl) (Nat.le_of_ble_eq_true rfl) rfl (Nat.le_of_ble_eq_true rfl) dX9_readCards_149 rfl (fun r10 hr10 pr10 => ?_)
    obtain ⟨rfl, rfl⟩ := pr10
    subst hF
    exact g_vret rfl dX9_readCards_152 (Nat.le_of_ble_eq_true rfl) (Nat.le_of_ble_eq_true rfl) ⟨rfl, rfl⟩
  · replace hF := ite_n hF c9
    try replace hQ := ite_r hQ c9
    refine g_aload_n dX9_readCards_127 rfl rfl rfl ?_
    refine g_get gClX9 3 (by decide) fl_X9_23 dX9_readCards_128 (ho_0 _ _) rfl rfl ?_
    refine g_iload_n dX9_readCards_131 rfl rfl rfl ?_
    have o12 := hQ.1
    replace hQ := hQ.2
    refine g_aald3 (hp_at (by decide)) o12 (aa16 o12) dX9_readCards_132 rfl ?_
    refine g_goto (tgt := 137) dX9_readCards_133 (by decide) ?_
    refine g_aload_n dX9_readCards_137 rfl rfl rfl ?_
    refine g_get gClX9 14 (by decide) fl_X9_54 dX9_readCards_138 (ho_0 _ _) rfl rfl ?_
    refine g_aload_n dX9_readCards_141 rfl rfl rfl ?_
    refine g_get gClX9 13 (by decide) fl_X9_47 dX9_readCards_142 (ho_0 _ _) rfl rfl ?_
    refine g_aload_n dX9_readCards_145 rfl rfl rfl ?_
    refine g_get gClX9 10 (by decide) fl_X9_147 dX9_readCards_146 (ho_0 _ _) rfl rfl ?_
    have o13 := hQ.1
    replace hQ := hQ.2
    refine g_callv mv_X8_read ml_X9_245 (c_X8_read l g isS_in (vin_lt o12) hT _ _ o13) (ho_22 _ _) rfl rfl (Nat.le_of_ble_eq_true rfl) (Nat.le_of_ble_eq_true rfl) (Nat.le_of_ble_eq_true rfl) (Nat.le_of_ble_eq_true rfl) rfl (Nat.le_of_ble_eq_true rfl) dX9_readCards_149 rfl (fun r14 hr14 pr14 => ?_)
    obtain ⟨rfl, rfl⟩ := pr14
    subst hF
    exact g_vret rfl dX9_readCards_152 (Nat.le_of_ble_eq_true rfl) (Nat.le_of_ble_eq_true rfl) ⟨rfl, rfl⟩
noncomputable def J_X9_readCards_92  (u0 : Int32) (σ : gS) : gS :=
  if u0 = 0 then
    J_X9_readCards_111  (σ 21 3) σ
  else
    J_X9_readCards_111  (σ 0 5) σ
def QJ_X9_readCards_92  (u0 : Int32) (σ : gS) : Prop :=
  if u0 = 0 then
    (QJ_X9_readCards_111  (σ 21 3) σ)
  else
    (QJ_X9_readCards_111  (σ 0 5) σ)
set_option maxHeartbeats 4000000 in
set_option maxRecDepth 100000 in
theorem j_X9_readCards_92 (l : Launch) (g : gE)  {ζ : gQ} {fr : gS} (hT : gTab g) : ∀ (u0 : Int32) (σ : gS), QJ_X9_readCards_92  u0 σ → J_X9_readCards_92  u0 σ = fr → gG l g mX9_readCards (rm 6 167) (gZm g (rm 6 167) (fun r h => r = none ∧ h = hp fr ζ)) 92 [(0, .ref 0)] [.int u0] (hp σ ζ) 0 0 := by
  intro u0 σ hQ hF
  unfold J_X9_readCards_92 at hF
  unfold QJ_X9_readCards_92 at hQ
  refine g_istoreL_n (L1 := [(0, _), (2, _)]) dX9_readCards_92 rfl (by decide) rfl rfl ?_
  refine g_iload_n dX9_readCards_93 rfl rfl rfl ?_
  refine g_ifeq (tgt := 104) dX9_readCards_94 (by decide) rfl (fun c7 => ?_) (fun c7 => ?_)
  · replace hF := ite_p hF c7
    try replace hQ := ite_q hQ c7
    refine g_aload_n dX9_readCards_104 rfl rfl rfl ?_
    refine g_get gClX9 18 (by decide) fl_X9_82 dX9_readCards_105 (ho_0 _ _) rfl rfl ?_
    refine g_get gClX2 3 (by decide) fl_X9_249 dX9_readCards_108 (ho_21 _ _) rfl rfl ?_
    refine g_sub [0] rfl ?_
    exact j_X9_readCards_111 l g hT _ _ hQ hF
  · replace hF := ite_n hF c7
    try replace hQ := ite_r hQ c7
    refine g_aload_n dX9_readCards_97 rfl rfl rfl ?_
    refine g_get gClX9 5 (by decide) fl_X9_31 dX9_readCards_98 (ho_0 _ _) rfl rfl ?_
    refine g_goto (tgt := 111) dX9_readCards_101 (by decide) ?_
    refine g_sub [0] rfl ?_
    exact j_X9_readCards_111 l g hT _ _ hQ hF
noncomputable def J_X9_readCards_91  (σ : gS) : gS :=
  J_X9_readCards_92  (0 : Int32) σ
def QJ_X9_readCards_91  (σ : gS) : Prop :=
  QJ_X9_readCards_92  (0 : Int32) σ
set_option maxHeartbeats 4000000 in
set_option maxRecDepth 100000 in
theorem j_X9_readCards_91 (l : Launch) (g : gE)  {ζ : gQ} {fr : gS} (hT : gTab g) : ∀ (σ : gS), QJ_X9_readCards_91  σ → J_X9_readCards_91  σ = fr → gG l g mX9_readCards (rm 6 167) (gZm g (rm 6 167) (fun r h => r = none ∧ h = hp fr ζ)) 91 [(0, .ref 0)] [] (hp σ ζ) 0 0 := by
  intro σ hQ hF
  unfold J_X9_readCards_91 at hF
  unfold QJ_X9_readCards_91 at hQ
  refine g_iconst (v := 0) dX9_readCards_91 (by decide) rfl ?_
  refine g_sub [0] rfl ?_
  exact j_X9_readCards_92 l g hT _ _ hQ hF
noncomputable def J_X9_readCards_50  (u0 : Int32) (σ : gS) : gS :=
  let s5 := (F_X8_readN σ 20 u0 (σ 0 10))
  if (s5 21 1) = (2 : Int32) then
    if (s5 21 4) = (-1 : Int32) then
      J_X9_readCards_92  (1 : Int32) s5
    else
      J_X9_readCards_91  s5
  else
    J_X9_readCards_91  s5
def QJ_X9_readCards_50  (u0 : Int32) (σ : gS) : Prop :=
  let s5 := (F_X8_readN σ 20 u0 (σ 0 10))
  if (s5 21 1) = (2 : Int32) then
    (if (s5 21 4) = (-1 : Int32) then
      (QJ_X9_readCards_92  (1 : Int32) s5)
    else
      (QJ_X9_readCards_91  s5))
  else
    (QJ_X9_readCards_91  s5)
set_option maxHeartbeats 4000000 in
set_option maxRecDepth 100000 in
theorem j_X9_readCards_50 (l : Launch) (g : gE)  {ζ : gQ} {fr : gS} (hT : gTab g) : ∀ (u0 : Int32) (σ : gS), QJ_X9_readCards_50  u0 σ → J_X9_readCards_50  u0 σ = fr → gG l g mX9_readCards (rm 6 167) (gZm g (rm 6 167) (fun r h => r = none ∧ h = hp fr ζ)) 50 [(0, .ref 0)] [.null, .int u0, .ref 20] (hp σ ζ) 0 0 := by
  intro u0 σ hQ hF
  unfold J_X9_readCards_50 at hF
  unfold QJ_X9_readCards_50 at hQ
  refine g_aload_n dX9_readCards_50 rfl rfl rfl ?_
  refine g_get gClX9 14 (by decide) fl_X9_54 dX9_readCards_51 (ho_0 _ _) rfl rfl ?_
  refine g_aload_n dX9_readCards_54 rfl rfl rfl ?_
  refine g_get gClX9 13 (by decide) fl_X9_47 dX9_readCards_55 (ho_0 _ _) rfl rfl ?_
  refine g_aload_n dX9_readCards_58 rfl rfl rfl ?_
  refine g_get gClX9 10 (by decide) fl_X9_147 dX9_readCards_59 (ho_0 _ _) rfl rfl ?_
  refine g_callv mv_X8_read ml_X9_245 (c_X8_readN l g isS_out hT _ _) (ho_20 _ _) rfl rfl (Nat.le_of_ble_eq_true rfl) (Nat.le_of_ble_eq_true rfl) (Nat.le_of_ble_eq_true rfl) (Nat.le_of_ble_eq_true rfl) rfl (Nat.le_of_ble_eq_true rfl) dX9_readCards_62 rfl (fun r4 hr4 pr4 => ?_)
  obtain ⟨rfl, rfl⟩ := pr4
  refine g_aload_n dX9_readCards_65 rfl rfl rfl ?_
  refine g_get gClX9 18 (by decide) fl_X9_82 dX9_readCards_66 (ho_0 _ _) rfl rfl ?_
  refine g_get gClX2 1 (by decide) fl_X9_156 dX9_readCards_69 (ho_21 _ _) rfl rfl ?_
  refine g_iconst (v := 2) dX9_readCards_72 (by decide) rfl ?_
  refine g_icmpne (tgt := 91) dX9_readCards_73 (by decide) rfl (fun c6 => ?_) (fun c6 => ?_)
  · replace hF := ite_n hF c6
    try replace hQ := ite_r hQ c6
    refine g_sub [0] rfl ?_
    exact j_X9_readCards_91 l g hT _ hQ hF
  · replace hF := ite_p hF c6
    try replace hQ := ite_q hQ c6
    refine g_aload_n dX9_readCards_76 rfl rfl rfl ?_
    refine g_get gClX9 18 (by decide) fl_X9_82 dX9_readCards_77 (ho_0 _ _) rfl rfl ?_
    refine g_get gClX2 4 (by decide) fl_X9_198 dX9_readCards_80 (ho_21 _ _) rfl rfl ?_
    refine g_iconst (v := (-1)) dX9_readCards_83 (by decide) rfl ?_
    refine g_icmpne (tgt := 91) dX9_readCards_84 (by decide) rfl (fun c16 => ?_) (fun c16 => ?_)
    · replace hF := ite_n hF c16
      try replace hQ := ite_r hQ c16
      refine g_sub [0] rfl ?_
      exact j_X9_readCards_91 l g hT _ hQ hF
    · replace hF := ite_p hF c16
      try replace hQ := ite_q hQ c16
      refine g_iconst (v := 1) dX9_readCards_87 (by decide) rfl ?_
      refine g_goto (tgt := 92) dX9_readCards_88 (by decide) ?_
      refine g_sub [0] rfl ?_
      exact j_X9_readCards_92 l g hT _ _ hQ hF
noncomputable def J_X9_readCards_24  (u0 : Int32) (σ : gS) : gS :=
  if (F_X9_isCard u0) = 0 then
    J_X9_readCards_50  u0 σ
  else
    let s20 := (F_X8_read σ 20 (ix u0) u0 (σ 0 10))
    if (s20 21 1) = (2 : Int32) then
      if (s20 21 4) = (-1 : Int32) then
        J_X9_readCards_92  (1 : Int32) s20
      else
        J_X9_readCards_91  s20
    else
      J_X9_readCards_91  s20
def QJ_X9_readCards_24  (u0 : Int32) (σ : gS) : Prop :=
  if (F_X9_isCard u0) = 0 then
    (QJ_X9_readCards_50  u0 σ)
  else
    (vp_in u0 16 ∧ ((Q_X8_read σ 20 (ix u0) u0 (σ 0 10)) ∧ (let s20 := (F_X8_read σ 20 (ix u0) u0 (σ 0 10))
    if (s20 21 1) = (2 : Int32) then
      (if (s20 21 4) = (-1 : Int32) then
        (QJ_X9_readCards_92  (1 : Int32) s20)
      else
        (QJ_X9_readCards_91  s20))
    else
      (QJ_X9_readCards_91  s20))))
set_option maxHeartbeats 4000000 in
set_option maxRecDepth 100000 in
theorem j_X9_readCards_24 (l : Launch) (g : gE)  {ζ : gQ} {fr : gS} (hT : gTab g) : ∀ (u0 : Int32) (σ : gS), QJ_X9_readCards_24  u0 σ → J_X9_readCards_24  u0 σ = fr → gG l g mX9_readCards (rm 6 167) (gZm g (rm 6 167) (fun r h => r = none ∧ h = hp fr ζ)) 24 [(0, .ref 0)] [.int u0] (hp σ ζ) 0 0 := by
  intro u0 σ hQ hF
  unfold J_X9_readCards_24 at hF
  unfold QJ_X9_readCards_24 at hQ
  refine g_istoreL_n (L1 := [(0, _), (1, _)]) dX9_readCards_24 rfl (by decide) rfl rfl ?_
  refine g_aload_n dX9_readCards_25 rfl rfl rfl ?_
  refine g_get gClX9 17 (by decide) fl_X9_75 dX9_readCards_26 (ho_0 _ _) rfl rfl ?_
  refine g_get gClX6 0 (by decide) fl_X9_241 dX9_readCards_29 (ho_19 _ _) rfl rfl ?_
  refine g_iload_n dX9_readCards_32 rfl rfl rfl ?_
  refine g_iload_n dX9_readCards_33 rfl rfl rfl ?_
  refine g_calls mt_X9_isCard ms_X9_isCard ml_X9_118 (c_X9_isCard l g _) rfl (Nat.le_of_ble_eq_true rfl) (Nat.le_of_ble_eq_true rfl) (Nat.le_of_ble_eq_true rfl) (Nat.le_of_ble_eq_true rfl) rfl (Nat.le_of_ble_eq_true rfl) dX9_readCards_34 rfl (fun r2 hr2 pr2 => ?_)
  obtain ⟨rfl, rfl⟩ := pr2
  refine g_ifeq (tgt := 49) dX9_readCards_37 (by decide) rfl (fun c3 => ?_) (fun c3 => ?_)
  · replace hF := ite_p hF c3
    try replace hQ := ite_q hQ c3
    refine g_null dX9_readCards_49 rfl ?_
    refine g_sub [0] rfl ?_
    exact j_X9_readCards_50 l g hT _ _ hQ hF
  · replace hF := ite_n hF c3
    try replace hQ := ite_r hQ c3
    refine g_aload_n dX9_readCards_40 rfl rfl rfl ?_
    refine g_get gClX9 3 (by decide) fl_X9_23 dX9_readCards_41 (ho_0 _ _) rfl rfl ?_
    refine g_iload_n dX9_readCards_44 rfl rfl rfl ?_
    have o17 := hQ.1
    replace hQ := hQ.2
    refine g_aald3 (hp_at (by decide)) o17 (aa16 o17) dX9_readCards_45 rfl ?_
    refine g_goto (tgt := 50) dX9_readCards_46 (by decide) ?_
    refine g_aload_n dX9_readCards_50 rfl rfl rfl ?_
    refine g_get gClX9 14 (by decide) fl_X9_54 dX9_readCards_51 (ho_0 _ _) rfl rfl ?_
    refine g_aload_n dX9_readCards_54 rfl rfl rfl ?_
    refine g_get gClX9 13 (by decide) fl_X9_47 dX9_readCards_55 (ho_0 _ _) rfl rfl ?_
    refine g_aload_n dX9_readCards_58 rfl rfl rfl ?_
    refine g_get gClX9 10 (by decide) fl_X9_147 dX9_readCards_59 (ho_0 _ _) rfl rfl ?_
    have o18 := hQ.1
    replace hQ := hQ.2
    refine g_callv mv_X8_read ml_X9_245 (c_X8_read l g isS_out (vin_lt o17) hT _ _ o18) (ho_20 _ _) rfl rfl (Nat.le_of_ble_eq_true rfl) (Nat.le_of_ble_eq_true rfl) (Nat.le_of_ble_eq_true rfl) (Nat.le_of_ble_eq_true rfl) rfl (Nat.le_of_ble_eq_true rfl) dX9_readCards_62 rfl (fun r19 hr19 pr19 => ?_)
    obtain ⟨rfl, rfl⟩ := pr19
    refine g_aload_n dX9_readCards_65 rfl rfl rfl ?_
    refine g_get gClX9 18 (by decide) fl_X9_82 dX9_readCards_66 (ho_0 _ _) rfl rfl ?_
    refine g_get gClX2 1 (by decide) fl_X9_156 dX9_readCards_69 (ho_21 _ _) rfl rfl ?_
    refine g_iconst (v := 2) dX9_readCards_72 (by decide) rfl ?_
    refine g_icmpne (tgt := 91) dX9_readCards_73 (by decide) rfl (fun c21 => ?_) (fun c21 => ?_)
    · replace hF := ite_n hF c21
      try replace hQ := ite_r hQ c21
      refine g_sub [0] rfl ?_
      exact j_X9_readCards_91 l g hT _ hQ hF
    · replace hF := ite_p hF c21
      try replace hQ := ite_q hQ c21
      refine g_aload_n dX9_readCards_76 rfl rfl rfl ?_
      refine g_get gClX9 18 (by decide) fl_X9_82 dX9_readCards_77 (ho_0 _ _) rfl rfl ?_
      refine g_get gClX2 4 (by decide) fl_X9_198 dX9_readCards_80 (ho_21 _ _) rfl rfl ?_
      refine g_iconst (v := (-1)) dX9_readCards_83 (by decide) rfl ?_
      refine g_icmpne (tgt := 91) dX9_readCards_84 (by decide) rfl (fun c22 => ?_) (fun c22 => ?_)
      · replace hF := ite_n hF c22
        try replace hQ := ite_r hQ c22
        refine g_sub [0] rfl ?_
        exact j_X9_readCards_91 l g hT _ hQ hF
      · replace hF := ite_p hF c22
        try replace hQ := ite_q hQ c22
        refine g_iconst (v := 1) dX9_readCards_87 (by decide) rfl ?_
        refine g_goto (tgt := 92) dX9_readCards_88 (by decide) ?_
        refine g_sub [0] rfl ?_
        exact j_X9_readCards_92 l g hT _ _ hQ hF
noncomputable def Fr_X9_readCards (σ : gS)  : gS :=
  if (σ 19 1) = 0 then
    J_X9_readCards_24  (σ 0 4) σ
  else
    J_X9_readCards_24  (σ 19 3) σ
noncomputable def F_X9_readCards : gS → gS := Classical.choose (⟨Fr_X9_readCards, rfl⟩ : ∃ f : gS → gS, f = Fr_X9_readCards)
theorem F_X9_readCards_eq : F_X9_readCards = Fr_X9_readCards := Classical.choose_spec (⟨Fr_X9_readCards, rfl⟩ : ∃ f : gS → gS, f = Fr_X9_readCards)
def Q_X9_readCards (σ : gS)  : Prop :=
  if (σ 19 1) = 0 then
    (QJ_X9_readCards_24  (σ 0 4) σ)
  else
    (QJ_X9_readCards_24  (σ 19 3) σ)
set_option maxHeartbeats 4000000 in
set_option maxRecDepth 100000 in
theorem c_X9_readCards (l : Launch) (g : gE)  (hT : gTab g) {σ : gS} {ζ : gQ}  (hQ : Q_X9_readCards σ ) : gC l g mX9_readCards (rm 6 167) [.ref 0] (hp σ ζ) (fun r h => r = none ∧ h = hp (F_X9_readCards σ ) ζ) := by
  refine gC_of (by decide) (Nat.le_of_ble_eq_true rfl) ?_
  generalize hF : (F_X9_readCards σ ) = fr
  rw [F_X9_readCards_eq] at hF
  unfold Fr_X9_readCards at hF
  unfold Q_X9_readCards at hQ
  refine g_aload_n dX9_readCards_0 rfl rfl rfl ?_
  refine g_get gClX9 17 (by decide) fl_X9_75 dX9_readCards_1 (ho_0 _ _) rfl rfl ?_
  refine g_get gClX6 1 (by decide) fl_X9_168 dX9_readCards_4 (ho_19 _ _) rfl rfl ?_
  refine g_ifne (tgt := 17) dX9_readCards_7 (by decide) rfl (fun c1 => ?_) (fun c1 => ?_)
  · replace hF := ite_n hF c1
    try replace hQ := ite_r hQ c1
    refine g_aload_n dX9_readCards_17 rfl rfl rfl ?_
    refine g_get gClX9 17 (by decide) fl_X9_75 dX9_readCards_18 (ho_0 _ _) rfl rfl ?_
    refine g_get gClX6 3 (by decide) fl_X9_238 dX9_readCards_21 (ho_19 _ _) rfl rfl ?_
    refine g_sub [0] rfl ?_
    exact j_X9_readCards_24 l g hT _ _ hQ hF
  · replace hF := ite_p hF c1
    try replace hQ := ite_q hQ c1
    refine g_aload_n dX9_readCards_10 rfl rfl rfl ?_
    refine g_get gClX9 4 (by decide) fl_X9_27 dX9_readCards_11 (ho_0 _ _) rfl rfl ?_
    refine g_goto (tgt := 24) dX9_readCards_14 (by decide) ?_
    refine g_sub [0] rfl ?_
    exact j_X9_readCards_24 l g hT _ _ hQ hF
noncomputable def Fr_X9_seeDoor (σ : gS)  : gS :=
  if (σ 0 7) = (σ 0 8) then
    let s3 := (pf σ 0 8 (σ 0 7) : gS)
    s3
  else
    if (σ 0 7) = 0 then
      let f7 := (F_X9_write σ (21 : Int32) (0 : Int32))
      let s9 := (pf f7.2 0 8 (f7.2 0 7) : gS)
      s9
    else
      let f12 := (F_X9_write σ (20 : Int32) (0 : Int32))
      let s14 := (pf f12.2 0 8 (f12.2 0 7) : gS)
      s14
noncomputable def F_X9_seeDoor : gS → gS := Classical.choose (⟨Fr_X9_seeDoor, rfl⟩ : ∃ f : gS → gS, f = Fr_X9_seeDoor)
theorem F_X9_seeDoor_eq : F_X9_seeDoor = Fr_X9_seeDoor := Classical.choose_spec (⟨Fr_X9_seeDoor, rfl⟩ : ∃ f : gS → gS, f = Fr_X9_seeDoor)
def Q_X9_seeDoor (σ : gS)  : Prop :=
  if (σ 0 7) = (σ 0 8) then
    (((σ 0 7) = 0 ∨ (σ 0 7) = 1) ∧ (let s3 := (pf σ 0 8 (σ 0 7) : gS)
    True))
  else
    (if (σ 0 7) = 0 then
      ((Q_X9_write σ (21 : Int32) (0 : Int32)) ∧ (let f7 := (F_X9_write σ (21 : Int32) (0 : Int32))
      ((f7.2 0 7) = 0 ∨ (f7.2 0 7) = 1) ∧ (let s9 := (pf f7.2 0 8 (f7.2 0 7) : gS)
      True)))
    else
      ((Q_X9_write σ (20 : Int32) (0 : Int32)) ∧ (let f12 := (F_X9_write σ (20 : Int32) (0 : Int32))
      ((f12.2 0 7) = 0 ∨ (f12.2 0 7) = 1) ∧ (let s14 := (pf f12.2 0 8 (f12.2 0 7) : gS)
      True))))
set_option maxHeartbeats 4000000 in
set_option maxRecDepth 100000 in
theorem c_X9_seeDoor (l : Launch) (g : gE)  {σ : gS} {ζ : gQ}  (hQ : Q_X9_seeDoor σ ) : gC l g mX9_seeDoor (rm 4 110) [.ref 0] (hp σ ζ) (fun r h => r = none ∧ h = hp (F_X9_seeDoor σ ) ζ) := by
  refine gC_of (by decide) (Nat.le_of_ble_eq_true rfl) ?_
  generalize hF : (F_X9_seeDoor σ ) = fr
  rw [F_X9_seeDoor_eq] at hF
  unfold Fr_X9_seeDoor at hF
  unfold Q_X9_seeDoor at hQ
  refine g_aload_n dX9_seeDoor_0 rfl rfl rfl ?_
  refine g_get gClX9 7 (by decide) fl_X9_133 dX9_seeDoor_1 (ho_0 _ _) rfl rfl ?_
  refine g_aload_n dX9_seeDoor_4 rfl rfl rfl ?_
  refine g_get gClX9 8 (by decide) fl_X9_251 dX9_seeDoor_5 (ho_0 _ _) rfl rfl ?_
  refine g_icmpeq (tgt := 31) dX9_seeDoor_8 (by decide) rfl (fun c1 => ?_) (fun c1 => ?_)
  · replace hF := ite_p hF c1
    try replace hQ := ite_q hQ c1
    refine g_aload_n dX9_seeDoor_31 rfl rfl rfl ?_
    refine g_aload_n dX9_seeDoor_32 rfl rfl rfl ?_
    refine g_get gClX9 7 (by decide) fl_X9_133 dX9_seeDoor_33 (ho_0 _ _) rfl rfl ?_
    have o2 := hQ.1
    replace hQ := hQ.2
    refine g_put gClX9 8 (by decide) fl_X9_251 rfl dX9_seeDoor_36 (ho_0 _ _) (gz_n o2) (gz_f o2) (Nat.le_of_ble_eq_true rfl) po_0_8 rfl ?_
    subst hF
    exact g_vret rfl dX9_seeDoor_39 (Nat.le_of_ble_eq_true rfl) (Nat.le_of_ble_eq_true rfl) ⟨rfl, rfl⟩
  · replace hF := ite_n hF c1
    try replace hQ := ite_r hQ c1
    refine g_aload_n dX9_seeDoor_11 rfl rfl rfl ?_
    refine g_aload_n dX9_seeDoor_12 rfl rfl rfl ?_
    refine g_get gClX9 7 (by decide) fl_X9_133 dX9_seeDoor_13 (ho_0 _ _) rfl rfl ?_
    refine g_ifeq (tgt := 24) dX9_seeDoor_16 (by decide) rfl (fun c4 => ?_) (fun c4 => ?_)
    · replace hF := ite_p hF c4
      try replace hQ := ite_q hQ c4
      refine g_bipush (v := 21) dX9_seeDoor_24 (by decide) rfl ?_
      refine g_iconst (v := 0) dX9_seeDoor_26 (by decide) rfl ?_
      have o5 := hQ.1
      replace hQ := hQ.2
      refine g_callv mv_X9_write ml_X9_254 (c_X9_write l g _ _ o5) (ho_0 _ _) rfl rfl (Nat.le_of_ble_eq_true rfl) (Nat.le_of_ble_eq_true rfl) (Nat.le_of_ble_eq_true rfl) (Nat.le_of_ble_eq_true rfl) rfl (Nat.le_of_ble_eq_true rfl) dX9_seeDoor_27 rfl (fun r6 hr6 pr6 => ?_)
      obtain ⟨rfl, rfl⟩ := pr6
      refine g_pop dX9_seeDoor_30 rfl rfl ?_
      refine g_aload_n dX9_seeDoor_31 rfl rfl rfl ?_
      refine g_aload_n dX9_seeDoor_32 rfl rfl rfl ?_
      refine g_get gClX9 7 (by decide) fl_X9_133 dX9_seeDoor_33 (ho_0 _ _) rfl rfl ?_
      have o8 := hQ.1
      replace hQ := hQ.2
      refine g_put gClX9 8 (by decide) fl_X9_251 rfl dX9_seeDoor_36 (ho_0 _ _) (gz_n o8) (gz_f o8) (Nat.le_of_ble_eq_true rfl) po_0_8 rfl ?_
      subst hF
      exact g_vret rfl dX9_seeDoor_39 (Nat.le_of_ble_eq_true rfl) (Nat.le_of_ble_eq_true rfl) ⟨rfl, rfl⟩
    · replace hF := ite_n hF c4
      try replace hQ := ite_r hQ c4
      refine g_bipush (v := 20) dX9_seeDoor_19 (by decide) rfl ?_
      refine g_goto (tgt := 26) dX9_seeDoor_21 (by decide) ?_
      refine g_iconst (v := 0) dX9_seeDoor_26 (by decide) rfl ?_
      have o10 := hQ.1
      replace hQ := hQ.2
      refine g_callv mv_X9_write ml_X9_254 (c_X9_write l g _ _ o10) (ho_0 _ _) rfl rfl (Nat.le_of_ble_eq_true rfl) (Nat.le_of_ble_eq_true rfl) (Nat.le_of_ble_eq_true rfl) (Nat.le_of_ble_eq_true rfl) rfl (Nat.le_of_ble_eq_true rfl) dX9_seeDoor_27 rfl (fun r11 hr11 pr11 => ?_)
      obtain ⟨rfl, rfl⟩ := pr11
      refine g_pop dX9_seeDoor_30 rfl rfl ?_
      refine g_aload_n dX9_seeDoor_31 rfl rfl rfl ?_
      refine g_aload_n dX9_seeDoor_32 rfl rfl rfl ?_
      refine g_get gClX9 7 (by decide) fl_X9_133 dX9_seeDoor_33 (ho_0 _ _) rfl rfl ?_
      have o13 := hQ.1
      replace hQ := hQ.2
      refine g_put gClX9 8 (by decide) fl_X9_251 rfl dX9_seeDoor_36 (ho_0 _ _) (gz_n o13) (gz_f o13) (Nat.le_of_ble_eq_true rfl) po_0_8 rfl ?_
      subst hF
      exact g_vret rfl dX9_seeDoor_39 (Nat.le_of_ble_eq_true rfl) (Nat.le_of_ble_eq_true rfl) ⟨rfl, rfl⟩
noncomputable def J_X9_watchLatch_134  (y1 : Int32) (σ : gS) : gS :=
  if y1 = 0 then
    if (σ 18 3) = 0 then
      σ
    else
      let f8 := (F_X9_write σ (25 : Int32) (0 : Int32))
      if f8.1 = 0 then
        f8.2
      else
        let s10 := (pf f8.2 18 3 (0 : Int32) : gS)
        s10
  else
    σ
def QJ_X9_watchLatch_134  (y1 : Int32) (σ : gS) : Prop :=
  if y1 = 0 then
    (if (σ 18 3) = 0 then
      (True)
    else
      ((Q_X9_write σ (25 : Int32) (0 : Int32)) ∧ (let f8 := (F_X9_write σ (25 : Int32) (0 : Int32))
      if f8.1 = 0 then
        (True)
      else
        (let s10 := (pf f8.2 18 3 (0 : Int32) : gS)
        True))))
  else
    (True)
set_option maxHeartbeats 4000000 in
set_option maxRecDepth 100000 in
theorem j_X9_watchLatch_134 (l : Launch) (g : gE)  {ζ : gQ} {fr : gS} : ∀ (y1 : Int32) (σ : gS), QJ_X9_watchLatch_134  y1 σ → J_X9_watchLatch_134  y1 σ = fr → gG l g mX9_watchLatch (rm 4 110) (gZm g (rm 4 110) (fun r h => r = none ∧ h = hp fr ζ)) 134 [(0, .ref 0), (1, .int y1)] [] (hp σ ζ) 0 0 := by
  intro y1 σ hQ hF
  unfold J_X9_watchLatch_134 at hF
  unfold QJ_X9_watchLatch_134 at hQ
  refine g_iload_n dX9_watchLatch_134 rfl rfl rfl ?_
  refine g_ifne (tgt := 166) dX9_watchLatch_135 (by decide) rfl (fun c4 => ?_) (fun c4 => ?_)
  · replace hF := ite_n hF c4
    try replace hQ := ite_r hQ c4
    subst hF
    exact g_vret rfl dX9_watchLatch_166 (Nat.le_of_ble_eq_true rfl) (Nat.le_of_ble_eq_true rfl) ⟨rfl, rfl⟩
  · replace hF := ite_p hF c4
    try replace hQ := ite_q hQ c4
    refine g_aload_n dX9_watchLatch_138 rfl rfl rfl ?_
    refine g_get gClX9 16 (by decide) fl_X9_68 dX9_watchLatch_139 (ho_0 _ _) rfl rfl ?_
    refine g_get gClX5 3 (by decide) fl_X9_188 dX9_watchLatch_142 (ho_18 _ _) rfl rfl ?_
    refine g_ifeq (tgt := 166) dX9_watchLatch_145 (by decide) rfl (fun c5 => ?_) (fun c5 => ?_)
    · replace hF := ite_p hF c5
      try replace hQ := ite_q hQ c5
      subst hF
      exact g_vret rfl dX9_watchLatch_166 (Nat.le_of_ble_eq_true rfl) (Nat.le_of_ble_eq_true rfl) ⟨rfl, rfl⟩
    · replace hF := ite_n hF c5
      try replace hQ := ite_r hQ c5
      refine g_aload_n dX9_watchLatch_148 rfl rfl rfl ?_
      refine g_bipush (v := 25) dX9_watchLatch_149 (by decide) rfl ?_
      refine g_iconst (v := 0) dX9_watchLatch_151 (by decide) rfl ?_
      have o6 := hQ.1
      replace hQ := hQ.2
      refine g_callv mv_X9_write ml_X9_254 (c_X9_write l g _ _ o6) (ho_0 _ _) rfl rfl (Nat.le_of_ble_eq_true rfl) (Nat.le_of_ble_eq_true rfl) (Nat.le_of_ble_eq_true rfl) (Nat.le_of_ble_eq_true rfl) rfl (Nat.le_of_ble_eq_true rfl) dX9_watchLatch_152 rfl (fun r7 hr7 pr7 => ?_)
      obtain ⟨rfl, rfl⟩ := pr7
      refine g_ifeq (tgt := 166) dX9_watchLatch_155 (by decide) rfl (fun c9 => ?_) (fun c9 => ?_)
      · replace hF := ite_p hF c9
        try replace hQ := ite_q hQ c9
        subst hF
        exact g_vret rfl dX9_watchLatch_166 (Nat.le_of_ble_eq_true rfl) (Nat.le_of_ble_eq_true rfl) ⟨rfl, rfl⟩
      · replace hF := ite_n hF c9
        try replace hQ := ite_r hQ c9
        refine g_aload_n dX9_watchLatch_158 rfl rfl rfl ?_
        refine g_get gClX9 16 (by decide) fl_X9_68 dX9_watchLatch_159 (ho_0 _ _) rfl rfl ?_
        refine g_iconst (v := 0) dX9_watchLatch_162 (by decide) rfl ?_
        refine g_put gClX5 3 (by decide) fl_X9_188 rfl dX9_watchLatch_163 (ho_18 _ _) rfl rfl (Nat.le_of_ble_eq_true rfl) po_18_3 rfl ?_
        subst hF
        exact g_vret rfl dX9_watchLatch_166 (Nat.le_of_ble_eq_true rfl) (Nat.le_of_ble_eq_true rfl) ⟨rfl, rfl⟩
noncomputable def J_X9_watchLatch_98  (u0 : Int32) (σ : gS) : gS :=
  if u0 = 0 then
    J_X9_watchLatch_134  u0 σ
  else
    if (σ 18 3) = 0 then
      let f14 := (F_X9_write σ (24 : Int32) (2 : Int32))
      if f14.1 = 0 then
        J_X9_watchLatch_134  u0 f14.2
      else
        let s16 := (pf f14.2 18 3 (1 : Int32) : gS)
        s16
    else
      J_X9_watchLatch_134  u0 σ
def QJ_X9_watchLatch_98  (u0 : Int32) (σ : gS) : Prop :=
  if u0 = 0 then
    (QJ_X9_watchLatch_134  u0 σ)
  else
    (if (σ 18 3) = 0 then
      ((Q_X9_write σ (24 : Int32) (2 : Int32)) ∧ (let f14 := (F_X9_write σ (24 : Int32) (2 : Int32))
      if f14.1 = 0 then
        (QJ_X9_watchLatch_134  u0 f14.2)
      else
        (let s16 := (pf f14.2 18 3 (1 : Int32) : gS)
        True)))
    else
      (QJ_X9_watchLatch_134  u0 σ))
set_option maxHeartbeats 4000000 in
set_option maxRecDepth 100000 in
theorem j_X9_watchLatch_98 (l : Launch) (g : gE)  {ζ : gQ} {fr : gS} : ∀ (u0 : Int32) (σ : gS), QJ_X9_watchLatch_98  u0 σ → J_X9_watchLatch_98  u0 σ = fr → gG l g mX9_watchLatch (rm 4 110) (gZm g (rm 4 110) (fun r h => r = none ∧ h = hp fr ζ)) 98 [(0, .ref 0)] [.int u0] (hp σ ζ) 0 0 := by
  intro u0 σ hQ hF
  unfold J_X9_watchLatch_98 at hF
  unfold QJ_X9_watchLatch_98 at hQ
  refine g_istoreL_n (L1 := [(0, _), (1, _)]) dX9_watchLatch_98 rfl (by decide) rfl rfl ?_
  refine g_iload_n dX9_watchLatch_99 rfl rfl rfl ?_
  refine g_ifeq (tgt := 134) dX9_watchLatch_100 (by decide) rfl (fun c3 => ?_) (fun c3 => ?_)
  · replace hF := ite_p hF c3
    try replace hQ := ite_q hQ c3
    refine g_sub [0, 1] rfl ?_
    exact j_X9_watchLatch_134 l g _ _ hQ hF
  · replace hF := ite_n hF c3
    try replace hQ := ite_r hQ c3
    refine g_aload_n dX9_watchLatch_103 rfl rfl rfl ?_
    refine g_get gClX9 16 (by decide) fl_X9_68 dX9_watchLatch_104 (ho_0 _ _) rfl rfl ?_
    refine g_get gClX5 3 (by decide) fl_X9_188 dX9_watchLatch_107 (ho_18 _ _) rfl rfl ?_
    refine g_ifne (tgt := 134) dX9_watchLatch_110 (by decide) rfl (fun c11 => ?_) (fun c11 => ?_)
    · replace hF := ite_n hF c11
      try replace hQ := ite_r hQ c11
      refine g_sub [0, 1] rfl ?_
      exact j_X9_watchLatch_134 l g _ _ hQ hF
    · replace hF := ite_p hF c11
      try replace hQ := ite_q hQ c11
      refine g_aload_n dX9_watchLatch_113 rfl rfl rfl ?_
      refine g_bipush (v := 24) dX9_watchLatch_114 (by decide) rfl ?_
      refine g_iconst (v := 2) dX9_watchLatch_116 (by decide) rfl ?_
      have o12 := hQ.1
      replace hQ := hQ.2
      refine g_callv mv_X9_write ml_X9_254 (c_X9_write l g _ _ o12) (ho_0 _ _) rfl rfl (Nat.le_of_ble_eq_true rfl) (Nat.le_of_ble_eq_true rfl) (Nat.le_of_ble_eq_true rfl) (Nat.le_of_ble_eq_true rfl) rfl (Nat.le_of_ble_eq_true rfl) dX9_watchLatch_117 rfl (fun r13 hr13 pr13 => ?_)
      obtain ⟨rfl, rfl⟩ := pr13
      refine g_ifeq (tgt := 134) dX9_watchLatch_120 (by decide) rfl (fun c15 => ?_) (fun c15 => ?_)
      · replace hF := ite_p hF c15
        try replace hQ := ite_q hQ c15
        refine g_sub [0, 1] rfl ?_
        exact j_X9_watchLatch_134 l g _ _ hQ hF
      · replace hF := ite_n hF c15
        try replace hQ := ite_r hQ c15
        refine g_aload_n dX9_watchLatch_123 rfl rfl rfl ?_
        refine g_get gClX9 16 (by decide) fl_X9_68 dX9_watchLatch_124 (ho_0 _ _) rfl rfl ?_
        refine g_iconst (v := 1) dX9_watchLatch_127 (by decide) rfl ?_
        refine g_put gClX5 3 (by decide) fl_X9_188 rfl dX9_watchLatch_128 (ho_18 _ _) rfl rfl (Nat.le_of_ble_eq_true rfl) po_18_3 rfl ?_
        refine g_goto (tgt := 166) dX9_watchLatch_131 (by decide) ?_
        subst hF
        exact g_vret rfl dX9_watchLatch_166 (Nat.le_of_ble_eq_true rfl) (Nat.le_of_ble_eq_true rfl) ⟨rfl, rfl⟩
noncomputable def J_X9_watchLatch_97  (σ : gS) : gS :=
  J_X9_watchLatch_98  (0 : Int32) σ
def QJ_X9_watchLatch_97  (σ : gS) : Prop :=
  QJ_X9_watchLatch_98  (0 : Int32) σ
set_option maxHeartbeats 4000000 in
set_option maxRecDepth 100000 in
theorem j_X9_watchLatch_97 (l : Launch) (g : gE)  {ζ : gQ} {fr : gS} : ∀ (σ : gS), QJ_X9_watchLatch_97  σ → J_X9_watchLatch_97  σ = fr → gG l g mX9_watchLatch (rm 4 110) (gZm g (rm 4 110) (fun r h => r = none ∧ h = hp fr ζ)) 97 [(0, .ref 0)] [] (hp σ ζ) 0 0 := by
  intro σ hQ hF
  unfold J_X9_watchLatch_97 at hF
  unfold QJ_X9_watchLatch_97 at hQ
  refine g_iconst (v := 0) dX9_watchLatch_97 (by decide) rfl ?_
  refine g_sub [0] rfl ?_
  exact j_X9_watchLatch_98 l g _ _ hQ hF
noncomputable def J_X9_watchLatch_62  (σ : gS) : gS :=
  if (σ 0 7) = 0 then
    J_X9_watchLatch_97  σ
  else
    if (σ 18 0) = 0 then
      if (σ 0 10) < (σ 18 2) then
        J_X9_watchLatch_97  σ
      else
        J_X9_watchLatch_98  (1 : Int32) σ
    else
      J_X9_watchLatch_97  σ
def QJ_X9_watchLatch_62  (σ : gS) : Prop :=
  if (σ 0 7) = 0 then
    (QJ_X9_watchLatch_97  σ)
  else
    (if (σ 18 0) = 0 then
      (if (σ 0 10) < (σ 18 2) then
        (QJ_X9_watchLatch_97  σ)
      else
        (QJ_X9_watchLatch_98  (1 : Int32) σ))
    else
      (QJ_X9_watchLatch_97  σ))
set_option maxHeartbeats 4000000 in
set_option maxRecDepth 100000 in
theorem j_X9_watchLatch_62 (l : Launch) (g : gE)  {ζ : gQ} {fr : gS} : ∀ (σ : gS), QJ_X9_watchLatch_62  σ → J_X9_watchLatch_62  σ = fr → gG l g mX9_watchLatch (rm 4 110) (gZm g (rm 4 110) (fun r h => r = none ∧ h = hp fr ζ)) 62 [(0, .ref 0)] [] (hp σ ζ) 0 0 := by
  intro σ hQ hF
  unfold J_X9_watchLatch_62 at hF
  unfold QJ_X9_watchLatch_62 at hQ
  refine g_aload_n dX9_watchLatch_62 rfl rfl rfl ?_
  refine g_get gClX9 7 (by decide) fl_X9_133 dX9_watchLatch_63 (ho_0 _ _) rfl rfl ?_
  refine g_ifeq (tgt := 97) dX9_watchLatch_66 (by decide) rfl (fun c2 => ?_) (fun c2 => ?_)
  · replace hF := ite_p hF c2
    try replace hQ := ite_q hQ c2
    refine g_sub [0] rfl ?_
    exact j_X9_watchLatch_97 l g _ hQ hF
  · replace hF := ite_n hF c2
    try replace hQ := ite_r hQ c2
    refine g_aload_n dX9_watchLatch_69 rfl rfl rfl ?_
    refine g_get gClX9 16 (by decide) fl_X9_68 dX9_watchLatch_70 (ho_0 _ _) rfl rfl ?_
    refine g_get gClX5 0 (by decide) fl_X9_185 dX9_watchLatch_73 (ho_18 _ _) rfl rfl ?_
    refine g_ifne (tgt := 97) dX9_watchLatch_76 (by decide) rfl (fun c17 => ?_) (fun c17 => ?_)
    · replace hF := ite_n hF c17
      try replace hQ := ite_r hQ c17
      refine g_sub [0] rfl ?_
      exact j_X9_watchLatch_97 l g _ hQ hF
    · replace hF := ite_p hF c17
      try replace hQ := ite_q hQ c17
      refine g_aload_n dX9_watchLatch_79 rfl rfl rfl ?_
      refine g_get gClX9 10 (by decide) fl_X9_147 dX9_watchLatch_80 (ho_0 _ _) rfl rfl ?_
      refine g_aload_n dX9_watchLatch_83 rfl rfl rfl ?_
      refine g_get gClX9 16 (by decide) fl_X9_68 dX9_watchLatch_84 (ho_0 _ _) rfl rfl ?_
      refine g_get gClX5 2 (by decide) fl_X9_260 dX9_watchLatch_87 (ho_18 _ _) rfl rfl ?_
      refine g_icmplt (tgt := 97) dX9_watchLatch_90 (by decide) rfl (fun c18 => ?_) (fun c18 => ?_)
      · replace hF := ite_p hF c18
        try replace hQ := ite_q hQ c18
        refine g_sub [0] rfl ?_
        exact j_X9_watchLatch_97 l g _ hQ hF
      · replace hF := ite_n hF c18
        try replace hQ := ite_r hQ c18
        refine g_iconst (v := 1) dX9_watchLatch_93 (by decide) rfl ?_
        refine g_goto (tgt := 98) dX9_watchLatch_94 (by decide) ?_
        refine g_sub [0] rfl ?_
        exact j_X9_watchLatch_98 l g _ _ hQ hF
noncomputable def Fr_X9_watchLatch (σ : gS)  : gS :=
  if (σ 18 0) = 0 then
    J_X9_watchLatch_62  σ
  else
    if (σ 0 10) < (σ 18 1) then
      J_X9_watchLatch_62  σ
    else
      let f22 := (F_X9_write σ (23 : Int32) (0 : Int32))
      if f22.1 = 0 then
        J_X9_watchLatch_62  f22.2
      else
        let s24 := (pf f22.2 18 0 (0 : Int32) : gS)
        if (s24 19 2) = (7 : Int32) then
          let s26 := (pf s24 19 2 (1 : Int32) : gS)
          J_X9_watchLatch_62  s26
        else
          J_X9_watchLatch_62  s24
noncomputable def F_X9_watchLatch : gS → gS := Classical.choose (⟨Fr_X9_watchLatch, rfl⟩ : ∃ f : gS → gS, f = Fr_X9_watchLatch)
theorem F_X9_watchLatch_eq : F_X9_watchLatch = Fr_X9_watchLatch := Classical.choose_spec (⟨Fr_X9_watchLatch, rfl⟩ : ∃ f : gS → gS, f = Fr_X9_watchLatch)
def Q_X9_watchLatch (σ : gS)  : Prop :=
  if (σ 18 0) = 0 then
    (QJ_X9_watchLatch_62  σ)
  else
    (if (σ 0 10) < (σ 18 1) then
      (QJ_X9_watchLatch_62  σ)
    else
      ((Q_X9_write σ (23 : Int32) (0 : Int32)) ∧ (let f22 := (F_X9_write σ (23 : Int32) (0 : Int32))
      if f22.1 = 0 then
        (QJ_X9_watchLatch_62  f22.2)
      else
        (let s24 := (pf f22.2 18 0 (0 : Int32) : gS)
        if (s24 19 2) = (7 : Int32) then
          (let s26 := (pf s24 19 2 (1 : Int32) : gS)
          QJ_X9_watchLatch_62  s26)
        else
          (QJ_X9_watchLatch_62  s24)))))
set_option maxHeartbeats 4000000 in
set_option maxRecDepth 100000 in
theorem c_X9_watchLatch (l : Launch) (g : gE)  {σ : gS} {ζ : gQ}  (hQ : Q_X9_watchLatch σ ) : gC l g mX9_watchLatch (rm 4 110) [.ref 0] (hp σ ζ) (fun r h => r = none ∧ h = hp (F_X9_watchLatch σ ) ζ) := by
  refine gC_of (by decide) (Nat.le_of_ble_eq_true rfl) ?_
  generalize hF : (F_X9_watchLatch σ ) = fr
  rw [F_X9_watchLatch_eq] at hF
  unfold Fr_X9_watchLatch at hF
  unfold Q_X9_watchLatch at hQ
  refine g_aload_n dX9_watchLatch_0 rfl rfl rfl ?_
  refine g_get gClX9 16 (by decide) fl_X9_68 dX9_watchLatch_1 (ho_0 _ _) rfl rfl ?_
  refine g_get gClX5 0 (by decide) fl_X9_185 dX9_watchLatch_4 (ho_18 _ _) rfl rfl ?_
  refine g_ifeq (tgt := 62) dX9_watchLatch_7 (by decide) rfl (fun c1 => ?_) (fun c1 => ?_)
  · replace hF := ite_p hF c1
    try replace hQ := ite_q hQ c1
    refine g_sub [0] rfl ?_
    exact j_X9_watchLatch_62 l g _ hQ hF
  · replace hF := ite_n hF c1
    try replace hQ := ite_r hQ c1
    refine g_aload_n dX9_watchLatch_10 rfl rfl rfl ?_
    refine g_get gClX9 10 (by decide) fl_X9_147 dX9_watchLatch_11 (ho_0 _ _) rfl rfl ?_
    refine g_aload_n dX9_watchLatch_14 rfl rfl rfl ?_
    refine g_get gClX9 16 (by decide) fl_X9_68 dX9_watchLatch_15 (ho_0 _ _) rfl rfl ?_
    refine g_get gClX5 1 (by decide) fl_X9_257 dX9_watchLatch_18 (ho_18 _ _) rfl rfl ?_
    refine g_icmplt (tgt := 62) dX9_watchLatch_21 (by decide) rfl (fun c19 => ?_) (fun c19 => ?_)
    · replace hF := ite_p hF c19
      try replace hQ := ite_q hQ c19
      refine g_sub [0] rfl ?_
      exact j_X9_watchLatch_62 l g _ hQ hF
    · replace hF := ite_n hF c19
      try replace hQ := ite_r hQ c19
      refine g_aload_n dX9_watchLatch_24 rfl rfl rfl ?_
      refine g_bipush (v := 23) dX9_watchLatch_25 (by decide) rfl ?_
      refine g_iconst (v := 0) dX9_watchLatch_27 (by decide) rfl ?_
      have o20 := hQ.1
      replace hQ := hQ.2
      refine g_callv mv_X9_write ml_X9_254 (c_X9_write l g _ _ o20) (ho_0 _ _) rfl rfl (Nat.le_of_ble_eq_true rfl) (Nat.le_of_ble_eq_true rfl) (Nat.le_of_ble_eq_true rfl) (Nat.le_of_ble_eq_true rfl) rfl (Nat.le_of_ble_eq_true rfl) dX9_watchLatch_28 rfl (fun r21 hr21 pr21 => ?_)
      obtain ⟨rfl, rfl⟩ := pr21
      refine g_ifeq (tgt := 62) dX9_watchLatch_31 (by decide) rfl (fun c23 => ?_) (fun c23 => ?_)
      · replace hF := ite_p hF c23
        try replace hQ := ite_q hQ c23
        refine g_sub [0] rfl ?_
        exact j_X9_watchLatch_62 l g _ hQ hF
      · replace hF := ite_n hF c23
        try replace hQ := ite_r hQ c23
        refine g_aload_n dX9_watchLatch_34 rfl rfl rfl ?_
        refine g_get gClX9 16 (by decide) fl_X9_68 dX9_watchLatch_35 (ho_0 _ _) rfl rfl ?_
        refine g_iconst (v := 0) dX9_watchLatch_38 (by decide) rfl ?_
        refine g_put gClX5 0 (by decide) fl_X9_185 rfl dX9_watchLatch_39 (ho_18 _ _) rfl rfl (Nat.le_of_ble_eq_true rfl) po_18_0 rfl ?_
        refine g_aload_n dX9_watchLatch_42 rfl rfl rfl ?_
        refine g_get gClX9 17 (by decide) fl_X9_75 dX9_watchLatch_43 (ho_0 _ _) rfl rfl ?_
        refine g_get gClX6 2 (by decide) fl_X9_192 dX9_watchLatch_46 (ho_19 _ _) rfl rfl ?_
        refine g_bipush (v := 7) dX9_watchLatch_49 (by decide) rfl ?_
        refine g_icmpne (tgt := 62) dX9_watchLatch_51 (by decide) rfl (fun c25 => ?_) (fun c25 => ?_)
        · replace hF := ite_n hF c25
          try replace hQ := ite_r hQ c25
          refine g_sub [0] rfl ?_
          exact j_X9_watchLatch_62 l g _ hQ hF
        · replace hF := ite_p hF c25
          try replace hQ := ite_q hQ c25
          refine g_aload_n dX9_watchLatch_54 rfl rfl rfl ?_
          refine g_get gClX9 17 (by decide) fl_X9_75 dX9_watchLatch_55 (ho_0 _ _) rfl rfl ?_
          refine g_iconst (v := 1) dX9_watchLatch_58 (by decide) rfl ?_
          refine g_put gClX6 2 (by decide) fl_X9_192 rfl dX9_watchLatch_59 (ho_19 _ _) rfl rfl (Nat.le_of_ble_eq_true rfl) po_19_2 rfl ?_
          refine g_sub [0] rfl ?_
          exact j_X9_watchLatch_62 l g _ hQ hF
noncomputable def J_X9_restart_97  (y1 : Int32) (u0 : Int32) (σ : gS) : gS :=
  let s13 := (pf σ 21 2 u0 : gS)
  let s14 := (pf s13 21 4 (-1 : Int32) : gS)
  if y1 = 0 then
    s14
  else
    let f18 := (F_X9_write s14 (70 : Int32) (1 : Int32))
    f18.2
def QJ_X9_restart_97  (y1 : Int32) (u0 : Int32) (σ : gS) : Prop :=
  let s13 := (pf σ 21 2 u0 : gS)
  let s14 := (pf s13 21 4 (-1 : Int32) : gS)
  if y1 = 0 then
    (True)
  else
    ((Q_X9_write s14 (70 : Int32) (1 : Int32)) ∧ (let f18 := (F_X9_write s14 (70 : Int32) (1 : Int32))
    True))
set_option maxHeartbeats 4000000 in
set_option maxRecDepth 100000 in
theorem j_X9_restart_97 (l : Launch) (g : gE)  {ζ : gQ} {fr : gS} : ∀ (y1 : Int32) (u0 : Int32) (σ : gS), QJ_X9_restart_97  y1 u0 σ → J_X9_restart_97  y1 u0 σ = fr → gG l g mX9_restart (rm 4 110) (gZm g (rm 4 110) (fun r h => r = none ∧ h = hp fr ζ)) 97 [(0, .ref 0), (1, .int y1)] [.int u0, .ref 21] (hp σ ζ) 0 0 := by
  intro y1 u0 σ hQ hF
  unfold J_X9_restart_97 at hF
  unfold QJ_X9_restart_97 at hQ
  refine g_put gClX2 2 (by decide) fl_X9_195 rfl dX9_restart_97 (ho_21 _ _) rfl rfl (Nat.le_of_ble_eq_true rfl) po_21_2 rfl ?_
  refine g_aload_n dX9_restart_100 rfl rfl rfl ?_
  refine g_get gClX9 18 (by decide) fl_X9_82 dX9_restart_101 (ho_0 _ _) rfl rfl ?_
  refine g_iconst (v := (-1)) dX9_restart_104 (by decide) rfl ?_
  refine g_put gClX2 4 (by decide) fl_X9_198 rfl dX9_restart_105 (ho_21 _ _) rfl rfl (Nat.le_of_ble_eq_true rfl) po_21_4 rfl ?_
  refine g_iload_n dX9_restart_108 rfl rfl rfl ?_
  refine g_ifeq (tgt := 120) dX9_restart_109 (by decide) rfl (fun c15 => ?_) (fun c15 => ?_)
  · replace hF := ite_p hF c15
    try replace hQ := ite_q hQ c15
    subst hF
    exact g_vret rfl dX9_restart_120 (Nat.le_of_ble_eq_true rfl) (Nat.le_of_ble_eq_true rfl) ⟨rfl, rfl⟩
  · replace hF := ite_n hF c15
    try replace hQ := ite_r hQ c15
    refine g_aload_n dX9_restart_112 rfl rfl rfl ?_
    refine g_bipush (v := 70) dX9_restart_113 (by decide) rfl ?_
    refine g_iconst (v := 1) dX9_restart_115 (by decide) rfl ?_
    have o16 := hQ.1
    replace hQ := hQ.2
    refine g_callv mv_X9_write ml_X9_254 (c_X9_write l g _ _ o16) (ho_0 _ _) rfl rfl (Nat.le_of_ble_eq_true rfl) (Nat.le_of_ble_eq_true rfl) (Nat.le_of_ble_eq_true rfl) (Nat.le_of_ble_eq_true rfl) rfl (Nat.le_of_ble_eq_true rfl) dX9_restart_116 rfl (fun r17 hr17 pr17 => ?_)
    obtain ⟨rfl, rfl⟩ := pr17
    refine g_pop dX9_restart_119 rfl rfl ?_
    subst hF
    exact g_vret rfl dX9_restart_120 (Nat.le_of_ble_eq_true rfl) (Nat.le_of_ble_eq_true rfl) ⟨rfl, rfl⟩
noncomputable def J_X9_restart_80  (y1 : Int32) (u0 : Int32) (σ : gS) : gS :=
  let s11 := (pf σ 21 1 u0 : gS)
  if y1 = 0 then
    J_X9_restart_97  y1 (8 : Int32) s11
  else
    J_X9_restart_97  y1 (1 : Int32) s11
def QJ_X9_restart_80  (y1 : Int32) (u0 : Int32) (σ : gS) : Prop :=
  let s11 := (pf σ 21 1 u0 : gS)
  if y1 = 0 then
    (QJ_X9_restart_97  y1 (8 : Int32) s11)
  else
    (QJ_X9_restart_97  y1 (1 : Int32) s11)
set_option maxHeartbeats 4000000 in
set_option maxRecDepth 100000 in
theorem j_X9_restart_80 (l : Launch) (g : gE)  {ζ : gQ} {fr : gS} : ∀ (y1 : Int32) (u0 : Int32) (σ : gS), QJ_X9_restart_80  y1 u0 σ → J_X9_restart_80  y1 u0 σ = fr → gG l g mX9_restart (rm 4 110) (gZm g (rm 4 110) (fun r h => r = none ∧ h = hp fr ζ)) 80 [(0, .ref 0), (1, .int y1)] [.int u0, .ref 21] (hp σ ζ) 0 0 := by
  intro y1 u0 σ hQ hF
  unfold J_X9_restart_80 at hF
  unfold QJ_X9_restart_80 at hQ
  refine g_put gClX2 1 (by decide) fl_X9_156 rfl dX9_restart_80 (ho_21 _ _) rfl rfl (Nat.le_of_ble_eq_true rfl) po_21_1 rfl ?_
  refine g_aload_n dX9_restart_83 rfl rfl rfl ?_
  refine g_get gClX9 18 (by decide) fl_X9_82 dX9_restart_84 (ho_0 _ _) rfl rfl ?_
  refine g_iload_n dX9_restart_87 rfl rfl rfl ?_
  refine g_ifeq (tgt := 95) dX9_restart_88 (by decide) rfl (fun c12 => ?_) (fun c12 => ?_)
  · replace hF := ite_p hF c12
    try replace hQ := ite_q hQ c12
    refine g_bipush (v := 8) dX9_restart_95 (by decide) rfl ?_
    refine g_sub [0, 1] rfl ?_
    exact j_X9_restart_97 l g _ _ _ hQ hF
  · replace hF := ite_n hF c12
    try replace hQ := ite_r hQ c12
    refine g_iconst (v := 1) dX9_restart_91 (by decide) rfl ?_
    refine g_goto (tgt := 97) dX9_restart_92 (by decide) ?_
    refine g_sub [0, 1] rfl ?_
    exact j_X9_restart_97 l g _ _ _ hQ hF
noncomputable def J_X9_restart_64  (y1 : Int32) (u0 : Int32) (σ : gS) : gS :=
  let s9 := (pf σ 19 2 u0 : gS)
  if y1 = 0 then
    J_X9_restart_80  y1 (0 : Int32) s9
  else
    J_X9_restart_80  y1 (2 : Int32) s9
def QJ_X9_restart_64  (y1 : Int32) (u0 : Int32) (σ : gS) : Prop :=
  let s9 := (pf σ 19 2 u0 : gS)
  if y1 = 0 then
    (QJ_X9_restart_80  y1 (0 : Int32) s9)
  else
    (QJ_X9_restart_80  y1 (2 : Int32) s9)
set_option maxHeartbeats 4000000 in
set_option maxRecDepth 100000 in
theorem j_X9_restart_64 (l : Launch) (g : gE)  {ζ : gQ} {fr : gS} : ∀ (y1 : Int32) (u0 : Int32) (σ : gS), QJ_X9_restart_64  y1 u0 σ → J_X9_restart_64  y1 u0 σ = fr → gG l g mX9_restart (rm 4 110) (gZm g (rm 4 110) (fun r h => r = none ∧ h = hp fr ζ)) 64 [(0, .ref 0), (1, .int y1)] [.int u0, .ref 19] (hp σ ζ) 0 0 := by
  intro y1 u0 σ hQ hF
  unfold J_X9_restart_64 at hF
  unfold QJ_X9_restart_64 at hQ
  refine g_put gClX6 2 (by decide) fl_X9_192 rfl dX9_restart_64 (ho_19 _ _) rfl rfl (Nat.le_of_ble_eq_true rfl) po_19_2 rfl ?_
  refine g_aload_n dX9_restart_67 rfl rfl rfl ?_
  refine g_get gClX9 18 (by decide) fl_X9_82 dX9_restart_68 (ho_0 _ _) rfl rfl ?_
  refine g_iload_n dX9_restart_71 rfl rfl rfl ?_
  refine g_ifeq (tgt := 79) dX9_restart_72 (by decide) rfl (fun c10 => ?_) (fun c10 => ?_)
  · replace hF := ite_p hF c10
    try replace hQ := ite_q hQ c10
    refine g_iconst (v := 0) dX9_restart_79 (by decide) rfl ?_
    refine g_sub [0, 1] rfl ?_
    exact j_X9_restart_80 l g _ _ _ hQ hF
  · replace hF := ite_n hF c10
    try replace hQ := ite_r hQ c10
    refine g_iconst (v := 2) dX9_restart_75 (by decide) rfl ?_
    refine g_goto (tgt := 80) dX9_restart_76 (by decide) ?_
    refine g_sub [0, 1] rfl ?_
    exact j_X9_restart_80 l g _ _ _ hQ hF
noncomputable def Fr_X9_restart (σ : gS)  : gS :=
  let s2 := (pf σ 18 0 (0 : Int32) : gS)
  let s3 := (pf s2 18 3 (0 : Int32) : gS)
  let s4 := (pf s3 18 2 (s3 0 10) : gS)
  let s6 := (pf s4 0 8 (s4 0 7) : gS)
  let s7 := (pf s6 19 1 (0 : Int32) : gS)
  if (F_X4_isEnrolled σ ) = 0 then
    J_X9_restart_64  (F_X4_isEnrolled σ ) (0 : Int32) s7
  else
    J_X9_restart_64  (F_X4_isEnrolled σ ) (1 : Int32) s7
noncomputable def F_X9_restart : gS → gS := Classical.choose (⟨Fr_X9_restart, rfl⟩ : ∃ f : gS → gS, f = Fr_X9_restart)
theorem F_X9_restart_eq : F_X9_restart = Fr_X9_restart := Classical.choose_spec (⟨Fr_X9_restart, rfl⟩ : ∃ f : gS → gS, f = Fr_X9_restart)
def Q_X9_restart (σ : gS)  : Prop :=
  let s2 := (pf σ 18 0 (0 : Int32) : gS)
  let s3 := (pf s2 18 3 (0 : Int32) : gS)
  let s4 := (pf s3 18 2 (s3 0 10) : gS)
  ((s4 0 7) = 0 ∨ (s4 0 7) = 1) ∧ (let s6 := (pf s4 0 8 (s4 0 7) : gS)
  let s7 := (pf s6 19 1 (0 : Int32) : gS)
  if (F_X4_isEnrolled σ ) = 0 then
    (QJ_X9_restart_64  (F_X4_isEnrolled σ ) (0 : Int32) s7)
  else
    (QJ_X9_restart_64  (F_X4_isEnrolled σ ) (1 : Int32) s7))
set_option maxHeartbeats 4000000 in
set_option maxRecDepth 100000 in
theorem c_X9_restart (l : Launch) (g : gE)  {σ : gS} {ζ : gQ}  (hQ : Q_X9_restart σ ) : gC l g mX9_restart (rm 4 110) [.ref 0] (hp σ ζ) (fun r h => r = none ∧ h = hp (F_X9_restart σ ) ζ) := by
  refine gC_of (by decide) (Nat.le_of_ble_eq_true rfl) ?_
  generalize hF : (F_X9_restart σ ) = fr
  rw [F_X9_restart_eq] at hF
  unfold Fr_X9_restart at hF
  unfold Q_X9_restart at hQ
  refine g_aload_n dX9_restart_0 rfl rfl rfl ?_
  refine g_get gClX9 14 (by decide) fl_X9_54 dX9_restart_1 (ho_0 _ _) rfl rfl ?_
  refine g_callv mv_X4_isEnrolled ml_X9_266 (c_X4_isEnrolled l g) (ho_12 _ _) rfl rfl (Nat.le_of_ble_eq_true rfl) (Nat.le_of_ble_eq_true rfl) (Nat.le_of_ble_eq_true rfl) (Nat.le_of_ble_eq_true rfl) rfl (Nat.le_of_ble_eq_true rfl) dX9_restart_4 rfl (fun r1 hr1 pr1 => ?_)
  obtain ⟨rfl, rfl⟩ := pr1
  refine g_istoreL_n (L1 := [(0, _), (1, _)]) dX9_restart_7 rfl (by decide) rfl rfl ?_
  refine g_aload_n dX9_restart_8 rfl rfl rfl ?_
  refine g_get gClX9 16 (by decide) fl_X9_68 dX9_restart_9 (ho_0 _ _) rfl rfl ?_
  refine g_iconst (v := 0) dX9_restart_12 (by decide) rfl ?_
  refine g_put gClX5 0 (by decide) fl_X9_185 rfl dX9_restart_13 (ho_18 _ _) rfl rfl (Nat.le_of_ble_eq_true rfl) po_18_0 rfl ?_
  refine g_aload_n dX9_restart_16 rfl rfl rfl ?_
  refine g_get gClX9 16 (by decide) fl_X9_68 dX9_restart_17 (ho_0 _ _) rfl rfl ?_
  refine g_iconst (v := 0) dX9_restart_20 (by decide) rfl ?_
  refine g_put gClX5 3 (by decide) fl_X9_188 rfl dX9_restart_21 (ho_18 _ _) rfl rfl (Nat.le_of_ble_eq_true rfl) po_18_3 rfl ?_
  refine g_aload_n dX9_restart_24 rfl rfl rfl ?_
  refine g_get gClX9 16 (by decide) fl_X9_68 dX9_restart_25 (ho_0 _ _) rfl rfl ?_
  refine g_aload_n dX9_restart_28 rfl rfl rfl ?_
  refine g_get gClX9 10 (by decide) fl_X9_147 dX9_restart_29 (ho_0 _ _) rfl rfl ?_
  refine g_put gClX5 2 (by decide) fl_X9_260 rfl dX9_restart_32 (ho_18 _ _) rfl rfl (Nat.le_of_ble_eq_true rfl) po_18_2 rfl ?_
  refine g_aload_n dX9_restart_35 rfl rfl rfl ?_
  refine g_aload_n dX9_restart_36 rfl rfl rfl ?_
  refine g_get gClX9 7 (by decide) fl_X9_133 dX9_restart_37 (ho_0 _ _) rfl rfl ?_
  have o5 := hQ.1
  replace hQ := hQ.2
  refine g_put gClX9 8 (by decide) fl_X9_251 rfl dX9_restart_40 (ho_0 _ _) (gz_n o5) (gz_f o5) (Nat.le_of_ble_eq_true rfl) po_0_8 rfl ?_
  refine g_aload_n dX9_restart_43 rfl rfl rfl ?_
  refine g_get gClX9 17 (by decide) fl_X9_75 dX9_restart_44 (ho_0 _ _) rfl rfl ?_
  refine g_iconst (v := 0) dX9_restart_47 (by decide) rfl ?_
  refine g_put gClX6 1 (by decide) fl_X9_168 rfl dX9_restart_48 (ho_19 _ _) rfl rfl (Nat.le_of_ble_eq_true rfl) po_19_1 rfl ?_
  refine g_aload_n dX9_restart_51 rfl rfl rfl ?_
  refine g_get gClX9 17 (by decide) fl_X9_75 dX9_restart_52 (ho_0 _ _) rfl rfl ?_
  refine g_iload_n dX9_restart_55 rfl rfl rfl ?_
  refine g_ifeq (tgt := 63) dX9_restart_56 (by decide) rfl (fun c8 => ?_) (fun c8 => ?_)
  · replace hF := ite_p hF c8
    try replace hQ := ite_q hQ c8
    refine g_iconst (v := 0) dX9_restart_63 (by decide) rfl ?_
    refine g_sub [0, 1] rfl ?_
    exact j_X9_restart_64 l g _ _ _ hQ hF
  · replace hF := ite_n hF c8
    try replace hQ := ite_r hQ c8
    refine g_iconst (v := 1) dX9_restart_59 (by decide) rfl ?_
    refine g_goto (tgt := 64) dX9_restart_60 (by decide) ?_
    refine g_sub [0, 1] rfl ?_
    exact j_X9_restart_64 l g _ _ _ hQ hF
noncomputable def J_X9_poll_72  (σ : gS) : Int32 × gS :=
  let f5 := (F_X3_endLook σ )
  if f5.1 = 0 then
    ((σ 15 5), f5.2)
  else
    let s9 := (F_X9_restart f5.2 )
    (((-2 : Int32) - (σ 15 5)), s9)
def QJ_X9_poll_72  (σ : gS) : Prop :=
  let f5 := (F_X3_endLook σ )
  if f5.1 = 0 then
    (True)
  else
    ((Q_X9_restart f5.2 ) ∧ (let s9 := (F_X9_restart f5.2 )
    True))
set_option maxHeartbeats 4000000 in
set_option maxRecDepth 100000 in
theorem j_X9_poll_72 (l : Launch) (g : gE)  {ζ : gQ} {fr : Int32 × gS} (hT : gTab g) : ∀ (σ : gS), QJ_X9_poll_72  σ → J_X9_poll_72  σ = fr → gG l g mX9_poll (rm 7 190) (gZm g (rm 7 190) (fun r h => r = some (.int fr.1) ∧ h = hp fr.2 ζ)) 72 [(0, .ref 0)] [] (hp σ ζ) 0 0 := by
  intro σ hQ hF
  unfold J_X9_poll_72 at hF
  unfold QJ_X9_poll_72 at hQ
  refine g_aload_n dX9_poll_72 rfl rfl rfl ?_
  refine g_get gClX9 15 (by decide) fl_X9_61 dX9_poll_73 (ho_0 _ _) rfl rfl ?_
  refine g_get gClX3 5 (by decide) fl_X9_176 dX9_poll_76 (ho_15 _ _) rfl rfl ?_
  refine g_istoreL_n (L1 := [(0, _), (1, _)]) dX9_poll_79 rfl (by decide) rfl rfl ?_
  refine g_aload_n dX9_poll_80 rfl rfl rfl ?_
  refine g_get gClX9 15 (by decide) fl_X9_61 dX9_poll_81 (ho_0 _ _) rfl rfl ?_
  refine g_callv mv_X3_endLook ml_X9_179 (c_X3_endLook l g) (ho_15 _ _) rfl rfl (Nat.le_of_ble_eq_true rfl) (Nat.le_of_ble_eq_true rfl) (Nat.le_of_ble_eq_true rfl) (Nat.le_of_ble_eq_true rfl) rfl (Nat.le_of_ble_eq_true rfl) dX9_poll_84 rfl (fun r4 hr4 pr4 => ?_)
  obtain ⟨rfl, rfl⟩ := pr4
  refine g_ifne (tgt := 92) dX9_poll_87 (by decide) rfl (fun c6 => ?_) (fun c6 => ?_)
  · replace hF := ite_n hF c6
    try replace hQ := ite_r hQ c6
    refine g_aload_n dX9_poll_92 rfl rfl rfl ?_
    have o7 := hQ.1
    replace hQ := hQ.2
    refine g_callv mv_X9_restart ml_X9_182 (c_X9_restart l g o7) (ho_0 _ _) rfl rfl (Nat.le_of_ble_eq_true rfl) (Nat.le_of_ble_eq_true rfl) (Nat.le_of_ble_eq_true rfl) (Nat.le_of_ble_eq_true rfl) rfl (Nat.le_of_ble_eq_true rfl) dX9_poll_93 rfl (fun r8 hr8 pr8 => ?_)
    obtain ⟨rfl, rfl⟩ := pr8
    refine g_bipush (v := (-2)) dX9_poll_96 (by decide) rfl ?_
    refine g_iload_n dX9_poll_98 rfl rfl rfl ?_
    refine g_isub dX9_poll_99 rfl ?_
    subst hF
    exact g_iret rfl dX9_poll_100 (Nat.le_of_ble_eq_true rfl) (Nat.le_of_ble_eq_true rfl) ⟨rfl, rfl⟩
  · replace hF := ite_p hF c6
    try replace hQ := ite_q hQ c6
    refine g_iload_n dX9_poll_90 rfl rfl rfl ?_
    subst hF
    exact g_iret rfl dX9_poll_91 (Nat.le_of_ble_eq_true rfl) (Nat.le_of_ble_eq_true rfl) ⟨rfl, rfl⟩
noncomputable def J_X9_poll_68  (σ : gS) : Int32 × gS :=
  let s26 := (F_X9_watchLatch σ )
  J_X9_poll_72  s26
def QJ_X9_poll_68  (σ : gS) : Prop :=
  (Q_X9_watchLatch σ ) ∧ (let s26 := (F_X9_watchLatch σ )
  QJ_X9_poll_72  s26)
set_option maxHeartbeats 4000000 in
set_option maxRecDepth 100000 in
theorem j_X9_poll_68 (l : Launch) (g : gE)  {ζ : gQ} {fr : Int32 × gS} (hT : gTab g) : ∀ (σ : gS), QJ_X9_poll_68  σ → J_X9_poll_68  σ = fr → gG l g mX9_poll (rm 7 190) (gZm g (rm 7 190) (fun r h => r = some (.int fr.1) ∧ h = hp fr.2 ζ)) 68 [(0, .ref 0)] [] (hp σ ζ) 0 0 := by
  intro σ hQ hF
  unfold J_X9_poll_68 at hF
  unfold QJ_X9_poll_68 at hQ
  refine g_aload_n dX9_poll_68 rfl rfl rfl ?_
  have o24 := hQ.1
  replace hQ := hQ.2
  refine g_callv mv_X9_watchLatch ml_X9_165 (c_X9_watchLatch l g o24) (ho_0 _ _) rfl rfl (Nat.le_of_ble_eq_true rfl) (Nat.le_of_ble_eq_true rfl) (Nat.le_of_ble_eq_true rfl) (Nat.le_of_ble_eq_true rfl) rfl (Nat.le_of_ble_eq_true rfl) dX9_poll_69 rfl (fun r25 hr25 pr25 => ?_)
  obtain ⟨rfl, rfl⟩ := pr25
  refine g_sub [0] rfl ?_
  exact j_X9_poll_72 l g hT _ hQ hF
noncomputable def Fr_X9_poll (σ : gS)  : Int32 × gS :=
  let s2 := (F_X3_beginLook σ )
  if (s2 21 1) = (7 : Int32) then
    J_X9_poll_72  s2
  else
    let s12 := (F_X9_readCards s2 )
    let s15 := (F_X9_seeDoor s12 )
    let s18 := (F_X9_watchLatch s15 )
    if (s18 19 1) = 0 then
      let f32 := (F_X9_actInside s18 )
      if f32.1 = 0 then
        let f36 := (F_X9_actOutside f32.2 )
        J_X9_poll_68  f36.2
      else
        J_X9_poll_68  f32.2
    else
      let f22 := (F_X9_actOutside s18 )
      if f22.1 = 0 then
        let f29 := (F_X9_actInside f22.2 )
        J_X9_poll_68  f29.2
      else
        J_X9_poll_68  f22.2
noncomputable def F_X9_poll : gS → Int32 × gS := Classical.choose (⟨Fr_X9_poll, rfl⟩ : ∃ f : gS → Int32 × gS, f = Fr_X9_poll)
theorem F_X9_poll_eq : F_X9_poll = Fr_X9_poll := Classical.choose_spec (⟨Fr_X9_poll, rfl⟩ : ∃ f : gS → Int32 × gS, f = Fr_X9_poll)
def Q_X9_poll (σ : gS)  : Prop :=
  let s2 := (F_X3_beginLook σ )
  if (s2 21 1) = (7 : Int32) then
    (QJ_X9_poll_72  s2)
  else
    ((Q_X9_readCards s2 ) ∧ (let s12 := (F_X9_readCards s2 )
    (Q_X9_seeDoor s12 ) ∧ (let s15 := (F_X9_seeDoor s12 )
    (Q_X9_watchLatch s15 ) ∧ (let s18 := (F_X9_watchLatch s15 )
    if (s18 19 1) = 0 then
      ((Q_X9_actInside s18 ) ∧ (let f32 := (F_X9_actInside s18 )
      if f32.1 = 0 then
        ((Q_X9_actOutside f32.2 ) ∧ (let f36 := (F_X9_actOutside f32.2 )
        QJ_X9_poll_68  f36.2))
      else
        (QJ_X9_poll_68  f32.2)))
    else
      ((Q_X9_actOutside s18 ) ∧ (let f22 := (F_X9_actOutside s18 )
      if f22.1 = 0 then
        ((Q_X9_actInside f22.2 ) ∧ (let f29 := (F_X9_actInside f22.2 )
        QJ_X9_poll_68  f29.2))
      else
        (QJ_X9_poll_68  f22.2)))))))
set_option maxHeartbeats 4000000 in
set_option maxRecDepth 100000 in
theorem c_X9_poll (l : Launch) (g : gE)  (hT : gTab g) {σ : gS} {ζ : gQ}  (hQ : Q_X9_poll σ ) : gC l g mX9_poll (rm 7 190) [.ref 0] (hp σ ζ) (fun r h => r = some (.int (F_X9_poll σ ).1) ∧ h = hp (F_X9_poll σ ).2 ζ) := by
  refine gC_of (by decide) (Nat.le_of_ble_eq_true rfl) ?_
  generalize hF : (F_X9_poll σ ) = fr
  rw [F_X9_poll_eq] at hF
  unfold Fr_X9_poll at hF
  unfold Q_X9_poll at hQ
  refine g_aload_n dX9_poll_0 rfl rfl rfl ?_
  refine g_get gClX9 15 (by decide) fl_X9_61 dX9_poll_1 (ho_0 _ _) rfl rfl ?_
  refine g_callv mv_X3_beginLook ml_X9_153 (c_X3_beginLook l g) (ho_15 _ _) rfl rfl (Nat.le_of_ble_eq_true rfl) (Nat.le_of_ble_eq_true rfl) (Nat.le_of_ble_eq_true rfl) (Nat.le_of_ble_eq_true rfl) rfl (Nat.le_of_ble_eq_true rfl) dX9_poll_4 rfl (fun r1 hr1 pr1 => ?_)
  obtain ⟨rfl, rfl⟩ := pr1
  refine g_aload_n dX9_poll_7 rfl rfl rfl ?_
  refine g_get gClX9 18 (by decide) fl_X9_82 dX9_poll_8 (ho_0 _ _) rfl rfl ?_
  refine g_get gClX2 1 (by decide) fl_X9_156 dX9_poll_11 (ho_21 _ _) rfl rfl ?_
  refine g_bipush (v := 7) dX9_poll_14 (by decide) rfl ?_
  refine g_icmpeq (tgt := 72) dX9_poll_16 (by decide) rfl (fun c3 => ?_) (fun c3 => ?_)
  · replace hF := ite_p hF c3
    try replace hQ := ite_q hQ c3
    refine g_sub [0] rfl ?_
    exact j_X9_poll_72 l g hT _ hQ hF
  · replace hF := ite_n hF c3
    try replace hQ := ite_r hQ c3
    refine g_aload_n dX9_poll_19 rfl rfl rfl ?_
    have o10 := hQ.1
    replace hQ := hQ.2
    refine g_callv mv_X9_readCards ml_X9_159 (c_X9_readCards l g hT o10) (ho_0 _ _) rfl rfl (Nat.le_of_ble_eq_true rfl) (Nat.le_of_ble_eq_true rfl) (Nat.le_of_ble_eq_true rfl) (Nat.le_of_ble_eq_true rfl) rfl (Nat.le_of_ble_eq_true rfl) dX9_poll_20 rfl (fun r11 hr11 pr11 => ?_)
    obtain ⟨rfl, rfl⟩ := pr11
    refine g_aload_n dX9_poll_23 rfl rfl rfl ?_
    have o13 := hQ.1
    replace hQ := hQ.2
    refine g_callv mv_X9_seeDoor ml_X9_162 (c_X9_seeDoor l g o13) (ho_0 _ _) rfl rfl (Nat.le_of_ble_eq_true rfl) (Nat.le_of_ble_eq_true rfl) (Nat.le_of_ble_eq_true rfl) (Nat.le_of_ble_eq_true rfl) rfl (Nat.le_of_ble_eq_true rfl) dX9_poll_24 rfl (fun r14 hr14 pr14 => ?_)
    obtain ⟨rfl, rfl⟩ := pr14
    refine g_aload_n dX9_poll_27 rfl rfl rfl ?_
    have o16 := hQ.1
    replace hQ := hQ.2
    refine g_callv mv_X9_watchLatch ml_X9_165 (c_X9_watchLatch l g o16) (ho_0 _ _) rfl rfl (Nat.le_of_ble_eq_true rfl) (Nat.le_of_ble_eq_true rfl) (Nat.le_of_ble_eq_true rfl) (Nat.le_of_ble_eq_true rfl) rfl (Nat.le_of_ble_eq_true rfl) dX9_poll_28 rfl (fun r17 hr17 pr17 => ?_)
    obtain ⟨rfl, rfl⟩ := pr17
    refine g_aload_n dX9_poll_31 rfl rfl rfl ?_
    refine g_get gClX9 17 (by decide) fl_X9_75 dX9_poll_32 (ho_0 _ _) rfl rfl ?_
    refine g_get gClX6 1 (by decide) fl_X9_168 dX9_poll_35 (ho_19 _ _) rfl rfl ?_
    refine g_ifne (tgt := 56) dX9_poll_38 (by decide) rfl (fun c19 => ?_) (fun c19 => ?_)
    · replace hF := ite_n hF c19
      try replace hQ := ite_r hQ c19
      refine g_aload_n dX9_poll_56 rfl rfl rfl ?_
      have o20 := hQ.1
      replace hQ := hQ.2
      refine g_callv mv_X9_actOutside ml_X9_173 (c_X9_actOutside l g hT o20) (ho_0 _ _) rfl rfl (Nat.le_of_ble_eq_true rfl) (Nat.le_of_ble_eq_true rfl) (Nat.le_of_ble_eq_true rfl) (Nat.le_of_ble_eq_true rfl) rfl (Nat.le_of_ble_eq_true rfl) dX9_poll_57 rfl (fun r21 hr21 pr21 => ?_)
      obtain ⟨rfl, rfl⟩ := pr21
      refine g_ifne (tgt := 68) dX9_poll_60 (by decide) rfl (fun c23 => ?_) (fun c23 => ?_)
      · replace hF := ite_n hF c23
        try replace hQ := ite_r hQ c23
        refine g_sub [0] rfl ?_
        exact j_X9_poll_68 l g hT _ hQ hF
      · replace hF := ite_p hF c23
        try replace hQ := ite_q hQ c23
        refine g_aload_n dX9_poll_63 rfl rfl rfl ?_
        have o27 := hQ.1
        replace hQ := hQ.2
        refine g_callv mv_X9_actInside ml_X9_169 (c_X9_actInside l g hT o27) (ho_0 _ _) rfl rfl (Nat.le_of_ble_eq_true rfl) (Nat.le_of_ble_eq_true rfl) (Nat.le_of_ble_eq_true rfl) (Nat.le_of_ble_eq_true rfl) rfl (Nat.le_of_ble_eq_true rfl) dX9_poll_64 rfl (fun r28 hr28 pr28 => ?_)
        obtain ⟨rfl, rfl⟩ := pr28
        refine g_pop dX9_poll_67 rfl rfl ?_
        refine g_sub [0] rfl ?_
        exact j_X9_poll_68 l g hT _ hQ hF
    · replace hF := ite_p hF c19
      try replace hQ := ite_q hQ c19
      refine g_aload_n dX9_poll_41 rfl rfl rfl ?_
      have o30 := hQ.1
      replace hQ := hQ.2
      refine g_callv mv_X9_actInside ml_X9_169 (c_X9_actInside l g hT o30) (ho_0 _ _) rfl rfl (Nat.le_of_ble_eq_true rfl) (Nat.le_of_ble_eq_true rfl) (Nat.le_of_ble_eq_true rfl) (Nat.le_of_ble_eq_true rfl) rfl (Nat.le_of_ble_eq_true rfl) dX9_poll_42 rfl (fun r31 hr31 pr31 => ?_)
      obtain ⟨rfl, rfl⟩ := pr31
      refine g_ifne (tgt := 68) dX9_poll_45 (by decide) rfl (fun c33 => ?_) (fun c33 => ?_)
      · replace hF := ite_n hF c33
        try replace hQ := ite_r hQ c33
        refine g_sub [0] rfl ?_
        exact j_X9_poll_68 l g hT _ hQ hF
      · replace hF := ite_p hF c33
        try replace hQ := ite_q hQ c33
        refine g_aload_n dX9_poll_48 rfl rfl rfl ?_
        have o34 := hQ.1
        replace hQ := hQ.2
        refine g_callv mv_X9_actOutside ml_X9_173 (c_X9_actOutside l g hT o34) (ho_0 _ _) rfl rfl (Nat.le_of_ble_eq_true rfl) (Nat.le_of_ble_eq_true rfl) (Nat.le_of_ble_eq_true rfl) (Nat.le_of_ble_eq_true rfl) rfl (Nat.le_of_ble_eq_true rfl) dX9_poll_49 rfl (fun r35 hr35 pr35 => ?_)
        obtain ⟨rfl, rfl⟩ := pr35
        refine g_pop dX9_poll_52 rfl rfl ?_
        refine g_goto (tgt := 68) dX9_poll_53 (by decide) ?_
        refine g_sub [0] rfl ?_
        exact j_X9_poll_68 l g hT _ hQ hF
noncomputable def J_X9_put_38 (p0 : Int32) (p1 : Int32) (σ : gS) : Int32 × gS :=
  if p0 = (1 : Int32) then
    if p1 = (-1 : Int32) then
      let s5 := (pf σ 0 5 p1 : gS)
      ((1 : Int32), s5)
    else
      if p1 = (σ 0 4) then
        ((0 : Int32), σ)
      else
        let s7 := (pf σ 0 5 p1 : gS)
        ((1 : Int32), s7)
  else
    ((0 : Int32), σ)
def QJ_X9_put_38 (p0 : Int32) (p1 : Int32) (σ : gS) : Prop :=
  if p0 = (1 : Int32) then
    (if p1 = (-1 : Int32) then
      (let s5 := (pf σ 0 5 p1 : gS)
      True)
    else
      (if p1 = (σ 0 4) then
        (True)
      else
        (let s7 := (pf σ 0 5 p1 : gS)
        True)))
  else
    (True)
set_option maxHeartbeats 4000000 in
set_option maxRecDepth 100000 in
theorem j_X9_put_38 (l : Launch) (g : gE) {p0 : Int32} {p1 : Int32} {ζ : gQ} {fr : Int32 × gS} : ∀ (σ : gS), QJ_X9_put_38 p0 p1 σ → J_X9_put_38 p0 p1 σ = fr → gG l g mX9_put (rm 1 20) (gZm g (rm 1 20) (fun r h => r = some (.int fr.1) ∧ h = hp fr.2 ζ)) 38 [(0, .ref 0), (1, .int p0), (2, .int p1)] [] (hp σ ζ) 0 0 := by
  intro σ hQ hF
  unfold J_X9_put_38 at hF
  unfold QJ_X9_put_38 at hQ
  refine g_iload_n dX9_put_38 rfl rfl rfl ?_
  refine g_iconst (v := 1) dX9_put_39 (by decide) rfl ?_
  refine g_icmpne (tgt := 63) dX9_put_40 (by decide) rfl (fun c3 => ?_) (fun c3 => ?_)
  · replace hF := ite_n hF c3
    try replace hQ := ite_r hQ c3
    refine g_iconst (v := 0) dX9_put_63 (by decide) rfl ?_
    subst hF
    exact g_zret rfl dX9_put_64 (by decide) (Nat.le_of_ble_eq_true rfl) (Nat.le_of_ble_eq_true rfl) ⟨rfl, rfl⟩
  · replace hF := ite_p hF c3
    try replace hQ := ite_q hQ c3
    refine g_iload_n dX9_put_43 rfl rfl rfl ?_
    refine g_iconst (v := (-1)) dX9_put_44 (by decide) rfl ?_
    refine g_icmpeq (tgt := 56) dX9_put_45 (by decide) rfl (fun c4 => ?_) (fun c4 => ?_)
    · replace hF := ite_p hF c4
      try replace hQ := ite_q hQ c4
      refine g_aload_n dX9_put_56 rfl rfl rfl ?_
      refine g_iload_n dX9_put_57 rfl rfl rfl ?_
      refine g_put gClX9 5 (by decide) fl_X9_31 rfl dX9_put_58 (ho_0 _ _) rfl rfl (Nat.le_of_ble_eq_true rfl) po_0_5 rfl ?_
      refine g_iconst (v := 1) dX9_put_61 (by decide) rfl ?_
      subst hF
      exact g_zret rfl dX9_put_62 (by decide) (Nat.le_of_ble_eq_true rfl) (Nat.le_of_ble_eq_true rfl) ⟨rfl, rfl⟩
    · replace hF := ite_n hF c4
      try replace hQ := ite_r hQ c4
      refine g_iload_n dX9_put_48 rfl rfl rfl ?_
      refine g_aload_n dX9_put_49 rfl rfl rfl ?_
      refine g_get gClX9 4 (by decide) fl_X9_27 dX9_put_50 (ho_0 _ _) rfl rfl ?_
      refine g_icmpeq (tgt := 63) dX9_put_53 (by decide) rfl (fun c6 => ?_) (fun c6 => ?_)
      · replace hF := ite_p hF c6
        try replace hQ := ite_q hQ c6
        refine g_iconst (v := 0) dX9_put_63 (by decide) rfl ?_
        subst hF
        exact g_zret rfl dX9_put_64 (by decide) (Nat.le_of_ble_eq_true rfl) (Nat.le_of_ble_eq_true rfl) ⟨rfl, rfl⟩
      · replace hF := ite_n hF c6
        try replace hQ := ite_r hQ c6
        refine g_aload_n dX9_put_56 rfl rfl rfl ?_
        refine g_iload_n dX9_put_57 rfl rfl rfl ?_
        refine g_put gClX9 5 (by decide) fl_X9_31 rfl dX9_put_58 (ho_0 _ _) rfl rfl (Nat.le_of_ble_eq_true rfl) po_0_5 rfl ?_
        refine g_iconst (v := 1) dX9_put_61 (by decide) rfl ?_
        subst hF
        exact g_zret rfl dX9_put_62 (by decide) (Nat.le_of_ble_eq_true rfl) (Nat.le_of_ble_eq_true rfl) ⟨rfl, rfl⟩
noncomputable def J_X9_put_14 (p0 : Int32) (p1 : Int32) (σ : gS) : Int32 × gS :=
  if p0 = 0 then
    if p1 = (-1 : Int32) then
      let s9 := (pf σ 0 4 p1 : gS)
      ((1 : Int32), s9)
    else
      if p1 = (σ 0 5) then
        J_X9_put_38 p0 p1 σ
      else
        let s11 := (pf σ 0 4 p1 : gS)
        ((1 : Int32), s11)
  else
    J_X9_put_38 p0 p1 σ
def QJ_X9_put_14 (p0 : Int32) (p1 : Int32) (σ : gS) : Prop :=
  if p0 = 0 then
    (if p1 = (-1 : Int32) then
      (let s9 := (pf σ 0 4 p1 : gS)
      True)
    else
      (if p1 = (σ 0 5) then
        (QJ_X9_put_38 p0 p1 σ)
      else
        (let s11 := (pf σ 0 4 p1 : gS)
        True)))
  else
    (QJ_X9_put_38 p0 p1 σ)
set_option maxHeartbeats 4000000 in
set_option maxRecDepth 100000 in
theorem j_X9_put_14 (l : Launch) (g : gE) {p0 : Int32} {p1 : Int32} {ζ : gQ} {fr : Int32 × gS} : ∀ (σ : gS), QJ_X9_put_14 p0 p1 σ → J_X9_put_14 p0 p1 σ = fr → gG l g mX9_put (rm 1 20) (gZm g (rm 1 20) (fun r h => r = some (.int fr.1) ∧ h = hp fr.2 ζ)) 14 [(0, .ref 0), (1, .int p0), (2, .int p1)] [] (hp σ ζ) 0 0 := by
  intro σ hQ hF
  unfold J_X9_put_14 at hF
  unfold QJ_X9_put_14 at hQ
  refine g_iload_n dX9_put_14 rfl rfl rfl ?_
  refine g_ifne (tgt := 38) dX9_put_15 (by decide) rfl (fun c2 => ?_) (fun c2 => ?_)
  · replace hF := ite_n hF c2
    try replace hQ := ite_r hQ c2
    refine g_sub [0, 1, 2] rfl ?_
    exact j_X9_put_38 l g _ hQ hF
  · replace hF := ite_p hF c2
    try replace hQ := ite_q hQ c2
    refine g_iload_n dX9_put_18 rfl rfl rfl ?_
    refine g_iconst (v := (-1)) dX9_put_19 (by decide) rfl ?_
    refine g_icmpeq (tgt := 31) dX9_put_20 (by decide) rfl (fun c8 => ?_) (fun c8 => ?_)
    · replace hF := ite_p hF c8
      try replace hQ := ite_q hQ c8
      refine g_aload_n dX9_put_31 rfl rfl rfl ?_
      refine g_iload_n dX9_put_32 rfl rfl rfl ?_
      refine g_put gClX9 4 (by decide) fl_X9_27 rfl dX9_put_33 (ho_0 _ _) rfl rfl (Nat.le_of_ble_eq_true rfl) po_0_4 rfl ?_
      refine g_iconst (v := 1) dX9_put_36 (by decide) rfl ?_
      subst hF
      exact g_zret rfl dX9_put_37 (by decide) (Nat.le_of_ble_eq_true rfl) (Nat.le_of_ble_eq_true rfl) ⟨rfl, rfl⟩
    · replace hF := ite_n hF c8
      try replace hQ := ite_r hQ c8
      refine g_iload_n dX9_put_23 rfl rfl rfl ?_
      refine g_aload_n dX9_put_24 rfl rfl rfl ?_
      refine g_get gClX9 5 (by decide) fl_X9_31 dX9_put_25 (ho_0 _ _) rfl rfl ?_
      refine g_icmpeq (tgt := 38) dX9_put_28 (by decide) rfl (fun c10 => ?_) (fun c10 => ?_)
      · replace hF := ite_p hF c10
        try replace hQ := ite_q hQ c10
        refine g_sub [0, 1, 2] rfl ?_
        exact j_X9_put_38 l g _ hQ hF
      · replace hF := ite_n hF c10
        try replace hQ := ite_r hQ c10
        refine g_aload_n dX9_put_31 rfl rfl rfl ?_
        refine g_iload_n dX9_put_32 rfl rfl rfl ?_
        refine g_put gClX9 4 (by decide) fl_X9_27 rfl dX9_put_33 (ho_0 _ _) rfl rfl (Nat.le_of_ble_eq_true rfl) po_0_4 rfl ?_
        refine g_iconst (v := 1) dX9_put_36 (by decide) rfl ?_
        subst hF
        exact g_zret rfl dX9_put_37 (by decide) (Nat.le_of_ble_eq_true rfl) (Nat.le_of_ble_eq_true rfl) ⟨rfl, rfl⟩
noncomputable def Fr_X9_put (σ : gS) (p0 : Int32) (p1 : Int32) : Int32 × gS :=
  if p1 = (-1 : Int32) then
    J_X9_put_14 p0 p1 σ
  else
    if (F_X9_isCard p1) = 0 then
      ((0 : Int32), σ)
    else
      J_X9_put_14 p0 p1 σ
noncomputable def F_X9_put : gS → Int32 → Int32 → Int32 × gS := Classical.choose (⟨Fr_X9_put, rfl⟩ : ∃ f : gS → Int32 → Int32 → Int32 × gS, f = Fr_X9_put)
theorem F_X9_put_eq : F_X9_put = Fr_X9_put := Classical.choose_spec (⟨Fr_X9_put, rfl⟩ : ∃ f : gS → Int32 → Int32 → Int32 × gS, f = Fr_X9_put)
def Q_X9_put (σ : gS) (p0 : Int32) (p1 : Int32) : Prop :=
  if p1 = (-1 : Int32) then
    (QJ_X9_put_14 p0 p1 σ)
  else
    (if (F_X9_isCard p1) = 0 then
      (True)
    else
      (QJ_X9_put_14 p0 p1 σ))
set_option maxHeartbeats 4000000 in
set_option maxRecDepth 100000 in
theorem c_X9_put (l : Launch) (g : gE)  {σ : gS} {ζ : gQ} (p0 : Int32) (p1 : Int32) (hQ : Q_X9_put σ p0 p1) : gC l g mX9_put (rm 1 20) [.ref 0, .int p0, .int p1] (hp σ ζ) (fun r h => r = some (.int (F_X9_put σ p0 p1).1) ∧ h = hp (F_X9_put σ p0 p1).2 ζ) := by
  refine gC_of (by decide) (Nat.le_of_ble_eq_true rfl) ?_
  generalize hF : (F_X9_put σ p0 p1) = fr
  rw [F_X9_put_eq] at hF
  unfold Fr_X9_put at hF
  unfold Q_X9_put at hQ
  refine g_iload_n dX9_put_0 rfl rfl rfl ?_
  refine g_iconst (v := (-1)) dX9_put_1 (by decide) rfl ?_
  refine g_icmpeq (tgt := 14) dX9_put_2 (by decide) rfl (fun c1 => ?_) (fun c1 => ?_)
  · replace hF := ite_p hF c1
    try replace hQ := ite_q hQ c1
    refine g_sub [0, 1, 2] rfl ?_
    exact j_X9_put_14 l g _ hQ hF
  · replace hF := ite_n hF c1
    try replace hQ := ite_r hQ c1
    refine g_iload_n dX9_put_5 rfl rfl rfl ?_
    refine g_calls mt_X9_isCard ms_X9_isCard ml_X9_118 (c_X9_isCard l g _) rfl (Nat.le_of_ble_eq_true rfl) (Nat.le_of_ble_eq_true rfl) (Nat.le_of_ble_eq_true rfl) (Nat.le_of_ble_eq_true rfl) rfl (Nat.le_of_ble_eq_true rfl) dX9_put_6 rfl (fun r12 hr12 pr12 => ?_)
    obtain ⟨rfl, rfl⟩ := pr12
    refine g_ifne (tgt := 14) dX9_put_9 (by decide) rfl (fun c13 => ?_) (fun c13 => ?_)
    · replace hF := ite_n hF c13
      try replace hQ := ite_r hQ c13
      refine g_sub [0, 1, 2] rfl ?_
      exact j_X9_put_14 l g _ hQ hF
    · replace hF := ite_p hF c13
      try replace hQ := ite_q hQ c13
      refine g_iconst (v := 0) dX9_put_12 (by decide) rfl ?_
      subst hF
      exact g_zret rfl dX9_put_13 (by decide) (Nat.le_of_ble_eq_true rfl) (Nat.le_of_ble_eq_true rfl) ⟨rfl, rfl⟩
noncomputable def Fr_X9_record (σ : gS) (p0 : Int32) (p1 : Int32) : Int32 :=
  (F_X3_byteOf σ p0 p1)
noncomputable def F_X9_record : gS → Int32 → Int32 → Int32 := Classical.choose (⟨Fr_X9_record, rfl⟩ : ∃ f : gS → Int32 → Int32 → Int32, f = Fr_X9_record)
theorem F_X9_record_eq : F_X9_record = Fr_X9_record := Classical.choose_spec (⟨Fr_X9_record, rfl⟩ : ∃ f : gS → Int32 → Int32 → Int32, f = Fr_X9_record)
def Q_X9_record (σ : gS) (p0 : Int32) (p1 : Int32) : Prop :=
  (Q_X3_byteOf σ p0 p1) ∧ (True)
set_option maxHeartbeats 4000000 in
set_option maxRecDepth 100000 in
theorem c_X9_record (l : Launch) (g : gE)  {σ : gS} {ζ : gQ} (p0 : Int32) (p1 : Int32) (hQ : Q_X9_record σ p0 p1) : gC l g mX9_record (rm 2 43) [.ref 0, .int p0, .int p1] (hp σ ζ) (fun r h => r = some (.int (F_X9_record σ p0 p1)) ∧ h = hp σ ζ) := by
  refine gC_of (by decide) (Nat.le_of_ble_eq_true rfl) ?_
  generalize hF : (F_X9_record σ p0 p1) = fr
  rw [F_X9_record_eq] at hF
  unfold Fr_X9_record at hF
  unfold Q_X9_record at hQ
  refine g_aload_n dX9_record_0 rfl rfl rfl ?_
  refine g_get gClX9 15 (by decide) fl_X9_61 dX9_record_1 (ho_0 _ _) rfl rfl ?_
  refine g_iload_n dX9_record_4 rfl rfl rfl ?_
  refine g_iload_n dX9_record_5 rfl rfl rfl ?_
  have o1 := hQ.1
  replace hQ := hQ.2
  refine g_callv mv_X3_byteOf ml_X9_216 (c_X3_byteOf l g _ _ o1) (ho_15 _ _) rfl rfl (Nat.le_of_ble_eq_true rfl) (Nat.le_of_ble_eq_true rfl) (Nat.le_of_ble_eq_true rfl) (Nat.le_of_ble_eq_true rfl) rfl (Nat.le_of_ble_eq_true rfl) dX9_record_6 rfl (fun r2 hr2 pr2 => ?_)
  obtain ⟨rfl, rfl⟩ := pr2
  subst hF
  exact g_iret rfl dX9_record_9 (Nat.le_of_ble_eq_true rfl) (Nat.le_of_ble_eq_true rfl) ⟨rfl, rfl⟩
noncomputable def Fr_X9_seal (σ : gS) (p0 : Int32) (p1 : Int32) (p2 : Int32) (p3 : Int32) : Int32 × gS :=
  if (F_X0_hasRoom σ 1 400 (16 : Int32)) = 0 then
    ((-1 : Int32), σ)
  else
    let s4 := (F_X7_useKey σ p0 p1 p2 p3)
    let s7 := (F_X7_work s4 1 400 (s4 1 1))
    let s10 := (F_X7_addSealTo s7 1 400)
    ((s10 1 1), s10)
noncomputable def F_X9_seal : gS → Int32 → Int32 → Int32 → Int32 → Int32 × gS := Classical.choose (⟨Fr_X9_seal, rfl⟩ : ∃ f : gS → Int32 → Int32 → Int32 → Int32 → Int32 × gS, f = Fr_X9_seal)
theorem F_X9_seal_eq : F_X9_seal = Fr_X9_seal := Classical.choose_spec (⟨Fr_X9_seal, rfl⟩ : ∃ f : gS → Int32 → Int32 → Int32 → Int32 → Int32 × gS, f = Fr_X9_seal)
def Q_X9_seal (σ : gS) (p0 : Int32) (p1 : Int32) (p2 : Int32) (p3 : Int32) : Prop :=
  if (F_X0_hasRoom σ 1 400 (16 : Int32)) = 0 then
    (True)
  else
    (let s4 := (F_X7_useKey σ p0 p1 p2 p3)
    (Q_X7_work s4 1 400 (s4 1 1)) ∧ (let s7 := (F_X7_work s4 1 400 (s4 1 1))
    (Q_X7_addSealTo s7 1 400) ∧ (let s10 := (F_X7_addSealTo s7 1 400)
    True)))
set_option maxHeartbeats 4000000 in
set_option maxRecDepth 100000 in
theorem c_X9_seal (l : Launch) (g : gE)  (hT : gTab g) {σ : gS} {ζ : gQ} (p0 : Int32) (p1 : Int32) (p2 : Int32) (p3 : Int32) (hQ : Q_X9_seal σ p0 p1 p2 p3) : gC l g mX9_seal (rm 3 87) [.ref 0, .int p0, .int p1, .int p2, .int p3] (hp σ ζ) (fun r h => r = some (.int (F_X9_seal σ p0 p1 p2 p3).1) ∧ h = hp (F_X9_seal σ p0 p1 p2 p3).2 ζ) := by
  refine gC_of (by decide) (Nat.le_of_ble_eq_true rfl) ?_
  generalize hF : (F_X9_seal σ p0 p1 p2 p3) = fr
  rw [F_X9_seal_eq] at hF
  unfold Fr_X9_seal at hF
  unfold Q_X9_seal at hQ
  refine g_aload_n dX9_seal_0 rfl rfl rfl ?_
  refine g_get gClX9 0 (by decide) fl_X9_14 dX9_seal_1 (ho_0 _ _) rfl rfl ?_
  refine g_bipush (v := 16) dX9_seal_4 (by decide) rfl ?_
  refine g_callv mv_X0_hasRoom ml_X9_96 (c_X0_hasRoom l g isB_tape _) (ho_1 _ _) rfl rfl (Nat.le_of_ble_eq_true rfl) (Nat.le_of_ble_eq_true rfl) (Nat.le_of_ble_eq_true rfl) (Nat.le_of_ble_eq_true rfl) rfl (Nat.le_of_ble_eq_true rfl) dX9_seal_6 rfl (fun r1 hr1 pr1 => ?_)
  obtain ⟨rfl, rfl⟩ := pr1
  refine g_ifne (tgt := 14) dX9_seal_9 (by decide) rfl (fun c2 => ?_) (fun c2 => ?_)
  · replace hF := ite_n hF c2
    try replace hQ := ite_r hQ c2
    refine g_aload_n dX9_seal_14 rfl rfl rfl ?_
    refine g_get gClX9 13 (by decide) fl_X9_47 dX9_seal_15 (ho_0 _ _) rfl rfl ?_
    refine g_iload_n dX9_seal_18 rfl rfl rfl ?_
    refine g_iload_n dX9_seal_19 rfl rfl rfl ?_
    refine g_iload_n dX9_seal_20 rfl rfl rfl ?_
    refine g_iload dX9_seal_21 rfl rfl ?_
    refine g_callv mv_X7_useKey ml_X9_106 (c_X7_useKey l g _ _ _ _) (ho_7 _ _) rfl rfl (Nat.le_of_ble_eq_true rfl) (Nat.le_of_ble_eq_true rfl) (Nat.le_of_ble_eq_true rfl) (Nat.le_of_ble_eq_true rfl) rfl (Nat.le_of_ble_eq_true rfl) dX9_seal_23 rfl (fun r3 hr3 pr3 => ?_)
    obtain ⟨rfl, rfl⟩ := pr3
    refine g_aload_n dX9_seal_26 rfl rfl rfl ?_
    refine g_get gClX9 13 (by decide) fl_X9_47 dX9_seal_27 (ho_0 _ _) rfl rfl ?_
    refine g_aload_n dX9_seal_30 rfl rfl rfl ?_
    refine g_get gClX9 0 (by decide) fl_X9_14 dX9_seal_31 (ho_0 _ _) rfl rfl ?_
    refine g_aload_n dX9_seal_34 rfl rfl rfl ?_
    refine g_get gClX9 0 (by decide) fl_X9_14 dX9_seal_35 (ho_0 _ _) rfl rfl ?_
    refine g_get gClX0 1 (by decide) fl_X9_103 dX9_seal_38 (ho_1 _ _) rfl rfl ?_
    have o5 := hQ.1
    replace hQ := hQ.2
    refine g_callv mv_X7_work ml_X9_110 (c_X7_work l g isB_tape hT _ o5) (ho_7 _ _) rfl rfl (Nat.le_of_ble_eq_true rfl) (Nat.le_of_ble_eq_true rfl) (Nat.le_of_ble_eq_true rfl) (Nat.le_of_ble_eq_true rfl) rfl (Nat.le_of_ble_eq_true rfl) dX9_seal_41 rfl (fun r6 hr6 pr6 => ?_)
    obtain ⟨rfl, rfl⟩ := pr6
    refine g_aload_n dX9_seal_44 rfl rfl rfl ?_
    refine g_get gClX9 13 (by decide) fl_X9_47 dX9_seal_45 (ho_0 _ _) rfl rfl ?_
    refine g_aload_n dX9_seal_48 rfl rfl rfl ?_
    refine g_get gClX9 0 (by decide) fl_X9_14 dX9_seal_49 (ho_0 _ _) rfl rfl ?_
    have o8 := hQ.1
    replace hQ := hQ.2
    refine g_callv mv_X7_addSealTo ml_X9_114 (c_X7_addSealTo l g isB_tape o8) (ho_7 _ _) rfl rfl (Nat.le_of_ble_eq_true rfl) (Nat.le_of_ble_eq_true rfl) (Nat.le_of_ble_eq_true rfl) (Nat.le_of_ble_eq_true rfl) rfl (Nat.le_of_ble_eq_true rfl) dX9_seal_52 rfl (fun r9 hr9 pr9 => ?_)
    obtain ⟨rfl, rfl⟩ := pr9
    refine g_aload_n dX9_seal_55 rfl rfl rfl ?_
    refine g_get gClX9 0 (by decide) fl_X9_14 dX9_seal_56 (ho_0 _ _) rfl rfl ?_
    refine g_get gClX0 1 (by decide) fl_X9_103 dX9_seal_59 (ho_1 _ _) rfl rfl ?_
    subst hF
    exact g_iret rfl dX9_seal_62 (Nat.le_of_ble_eq_true rfl) (Nat.le_of_ble_eq_true rfl) ⟨rfl, rfl⟩
  · replace hF := ite_p hF c2
    try replace hQ := ite_q hQ c2
    refine g_iconst (v := (-1)) dX9_seal_12 (by decide) rfl ?_
    subst hF
    exact g_iret rfl dX9_seal_13 (Nat.le_of_ble_eq_true rfl) (Nat.le_of_ble_eq_true rfl) ⟨rfl, rfl⟩
noncomputable def Fr_X9_settingShown (σ : gS) (p0 : Int32) : Int32 :=
  if p0 < (14 : Int32) then
    (-1 : Int32)
  else
    if p0 < (23 : Int32) then
      (σ 6 (ix (p0 - (14 : Int32))))
    else
      (-1 : Int32)
noncomputable def F_X9_settingShown : gS → Int32 → Int32 := Classical.choose (⟨Fr_X9_settingShown, rfl⟩ : ∃ f : gS → Int32 → Int32, f = Fr_X9_settingShown)
theorem F_X9_settingShown_eq : F_X9_settingShown = Fr_X9_settingShown := Classical.choose_spec (⟨Fr_X9_settingShown, rfl⟩ : ∃ f : gS → Int32 → Int32, f = Fr_X9_settingShown)
def Q_X9_settingShown (σ : gS) (p0 : Int32) : Prop :=
  if p0 < (14 : Int32) then
    (True)
  else
    (if p0 < (23 : Int32) then
      (vp_in (p0 - (14 : Int32)) 9 ∧ (True))
    else
      (True))
set_option maxHeartbeats 4000000 in
set_option maxRecDepth 100000 in
theorem c_X9_settingShown (l : Launch) (g : gE)  {σ : gS} {ζ : gQ} (p0 : Int32) (hQ : Q_X9_settingShown σ p0) : gC l g mX9_settingShown (rm 0 0) [.ref 0, .int p0] (hp σ ζ) (fun r h => r = some (.int (F_X9_settingShown σ p0)) ∧ h = hp σ ζ) := by
  refine gC_of (by decide) (Nat.le_of_ble_eq_true rfl) ?_
  generalize hF : (F_X9_settingShown σ p0) = fr
  rw [F_X9_settingShown_eq] at hF
  unfold Fr_X9_settingShown at hF
  unfold Q_X9_settingShown at hQ
  refine g_iload_n dX9_settingShown_0 rfl rfl rfl ?_
  refine g_bipush (v := 14) dX9_settingShown_1 (by decide) rfl ?_
  refine g_icmplt (tgt := 12) dX9_settingShown_3 (by decide) rfl (fun c1 => ?_) (fun c1 => ?_)
  · replace hF := ite_p hF c1
    try replace hQ := ite_q hQ c1
    refine g_iconst (v := (-1)) dX9_settingShown_12 (by decide) rfl ?_
    subst hF
    exact g_iret rfl dX9_settingShown_13 (Nat.le_of_ble_eq_true rfl) (Nat.le_of_ble_eq_true rfl) ⟨rfl, rfl⟩
  · replace hF := ite_n hF c1
    try replace hQ := ite_r hQ c1
    refine g_iload_n dX9_settingShown_6 rfl rfl rfl ?_
    refine g_bipush (v := 23) dX9_settingShown_7 (by decide) rfl ?_
    refine g_icmplt (tgt := 14) dX9_settingShown_9 (by decide) rfl (fun c2 => ?_) (fun c2 => ?_)
    · replace hF := ite_p hF c2
      try replace hQ := ite_q hQ c2
      refine g_aload_n dX9_settingShown_14 rfl rfl rfl ?_
      refine g_get gClX9 12 (by decide) fl_X9_40 dX9_settingShown_15 (ho_0 _ _) rfl rfl ?_
      refine g_iload_n dX9_settingShown_18 rfl rfl rfl ?_
      refine g_bipush (v := 14) dX9_settingShown_19 (by decide) rfl ?_
      refine g_isub dX9_settingShown_21 rfl ?_
      have o3 := hQ.1
      replace hQ := hQ.2
      refine g_iald (ha_6 _ _) o3 dX9_settingShown_22 rfl ?_
      subst hF
      exact g_iret rfl dX9_settingShown_23 (Nat.le_of_ble_eq_true rfl) (Nat.le_of_ble_eq_true rfl) ⟨rfl, rfl⟩
    · replace hF := ite_n hF c2
      try replace hQ := ite_r hQ c2
      refine g_iconst (v := (-1)) dX9_settingShown_12 (by decide) rfl ?_
      subst hF
      exact g_iret rfl dX9_settingShown_13 (Nat.le_of_ble_eq_true rfl) (Nat.le_of_ble_eq_true rfl) ⟨rfl, rfl⟩
noncomputable def Fr_X9_show (σ : gS) (p0 : Int32) : Int32 :=
  if p0 = 0 then
    if (σ 18 0) = 0 then
      (0 : Int32)
    else
      (1 : Int32)
  else
    if p0 = 1 then
      if (σ 18 3) = 0 then
        (0 : Int32)
      else
        (1 : Int32)
    else
      if p0 = 2 then
        if (σ 15 3) = 0 then
          (0 : Int32)
        else
          (1 : Int32)
      else
        if p0 = 3 then
          (σ 19 2)
        else
          if p0 = 4 then
            (σ 21 2)
          else
            if p0 = 5 then
              (σ 19 1)
            else
              if p0 = 6 then
                (σ 21 1)
              else
                if p0 = 7 then
                  (σ 21 4)
                else
                  if p0 = 8 then
                    (σ 0 10)
                  else
                    if p0 = 9 then
                      (σ 15 1)
                    else
                      if p0 = 10 then
                        (σ 15 2)
                      else
                        if p0 = 11 then
                          (σ 0 11)
                        else
                          if p0 = 12 then
                            (F_X4_ownIssuer σ )
                          else
                            if p0 = 13 then
                              (σ 12 2)
                            else
                              (F_X9_settingShown σ p0)
noncomputable def F_X9_show : gS → Int32 → Int32 := Classical.choose (⟨Fr_X9_show, rfl⟩ : ∃ f : gS → Int32 → Int32, f = Fr_X9_show)
theorem F_X9_show_eq : F_X9_show = Fr_X9_show := Classical.choose_spec (⟨Fr_X9_show, rfl⟩ : ∃ f : gS → Int32 → Int32, f = Fr_X9_show)
def Q_X9_show (σ : gS) (p0 : Int32) : Prop :=
  if p0 = 0 then
    (if (σ 18 0) = 0 then
      (True)
    else
      (True))
  else
    (if p0 = 1 then
      (if (σ 18 3) = 0 then
        (True)
      else
        (True))
    else
      (if p0 = 2 then
        (if (σ 15 3) = 0 then
          (True)
        else
          (True))
      else
        (if p0 = 3 then
          (True)
        else
          (if p0 = 4 then
            (True)
          else
            (if p0 = 5 then
              (True)
            else
              (if p0 = 6 then
                (True)
              else
                (if p0 = 7 then
                  (True)
                else
                  (if p0 = 8 then
                    (True)
                  else
                    (if p0 = 9 then
                      (True)
                    else
                      (if p0 = 10 then
                        (True)
                      else
                        (if p0 = 11 then
                          (True)
                        else
                          (if p0 = 12 then
                            (True)
                          else
                            (if p0 = 13 then
                              (True)
                            else
                              ((Q_X9_settingShown σ p0) ∧ (True)))))))))))))))
set_option maxHeartbeats 4000000 in
set_option maxRecDepth 100000 in
theorem c_X9_show (l : Launch) (g : gE)  {σ : gS} {ζ : gQ} (p0 : Int32) (hQ : Q_X9_show σ p0) : gC l g mX9_show (rm 1 21) [.ref 0, .int p0] (hp σ ζ) (fun r h => r = some (.int (F_X9_show σ p0)) ∧ h = hp σ ζ) := by
  refine gC_of (by decide) (Nat.le_of_ble_eq_true rfl) ?_
  generalize hF : (F_X9_show σ p0) = fr
  rw [F_X9_show_eq] at hF
  unfold Fr_X9_show at hF
  unfold Q_X9_show at hQ
  refine g_iload_n dX9_show_0 rfl rfl rfl ?_
  refine g_case 0 (fun c1 => ?_) (fun c1 => ?_)
  · replace hF := ite_p hF c1
    try replace hQ := ite_q hQ c1
    refine g_table (tgt := 72) dX9_show_1 (by decide) (by decide) ?_
    refine g_aload_n dX9_show_72 rfl rfl rfl ?_
    refine g_get gClX9 16 (by decide) fl_X9_68 dX9_show_73 (ho_0 _ _) rfl rfl ?_
    refine g_get gClX5 0 (by decide) fl_X9_185 dX9_show_76 (ho_18 _ _) rfl rfl ?_
    refine g_ifeq (tgt := 86) dX9_show_79 (by decide) rfl (fun c2 => ?_) (fun c2 => ?_)
    · replace hF := ite_p hF c2
      try replace hQ := ite_q hQ c2
      refine g_iconst (v := 0) dX9_show_86 (by decide) rfl ?_
      subst hF
      exact g_iret rfl dX9_show_87 (Nat.le_of_ble_eq_true rfl) (Nat.le_of_ble_eq_true rfl) ⟨rfl, rfl⟩
    · replace hF := ite_n hF c2
      try replace hQ := ite_r hQ c2
      refine g_iconst (v := 1) dX9_show_82 (by decide) rfl ?_
      refine g_goto (tgt := 87) dX9_show_83 (by decide) ?_
      subst hF
      exact g_iret rfl dX9_show_87 (Nat.le_of_ble_eq_true rfl) (Nat.le_of_ble_eq_true rfl) ⟨rfl, rfl⟩
  · replace hF := ite_n hF c1
    try replace hQ := ite_r hQ c1
    refine g_case 1 (fun c3 => ?_) (fun c3 => ?_)
    · replace hF := ite_p hF c3
      try replace hQ := ite_q hQ c3
      refine g_table (tgt := 88) dX9_show_1 (by decide) (by decide) ?_
      refine g_aload_n dX9_show_88 rfl rfl rfl ?_
      refine g_get gClX9 16 (by decide) fl_X9_68 dX9_show_89 (ho_0 _ _) rfl rfl ?_
      refine g_get gClX5 3 (by decide) fl_X9_188 dX9_show_92 (ho_18 _ _) rfl rfl ?_
      refine g_ifeq (tgt := 102) dX9_show_95 (by decide) rfl (fun c4 => ?_) (fun c4 => ?_)
      · replace hF := ite_p hF c4
        try replace hQ := ite_q hQ c4
        refine g_iconst (v := 0) dX9_show_102 (by decide) rfl ?_
        subst hF
        exact g_iret rfl dX9_show_103 (Nat.le_of_ble_eq_true rfl) (Nat.le_of_ble_eq_true rfl) ⟨rfl, rfl⟩
      · replace hF := ite_n hF c4
        try replace hQ := ite_r hQ c4
        refine g_iconst (v := 1) dX9_show_98 (by decide) rfl ?_
        refine g_goto (tgt := 103) dX9_show_99 (by decide) ?_
        subst hF
        exact g_iret rfl dX9_show_103 (Nat.le_of_ble_eq_true rfl) (Nat.le_of_ble_eq_true rfl) ⟨rfl, rfl⟩
    · replace hF := ite_n hF c3
      try replace hQ := ite_r hQ c3
      refine g_case 2 (fun c5 => ?_) (fun c5 => ?_)
      · replace hF := ite_p hF c5
        try replace hQ := ite_q hQ c5
        refine g_table (tgt := 104) dX9_show_1 (by decide) (by decide) ?_
        refine g_aload_n dX9_show_104 rfl rfl rfl ?_
        refine g_get gClX9 15 (by decide) fl_X9_61 dX9_show_105 (ho_0 _ _) rfl rfl ?_
        refine g_get gClX3 3 (by decide) fl_X9_191 dX9_show_108 (ho_15 _ _) rfl rfl ?_
        refine g_ifeq (tgt := 118) dX9_show_111 (by decide) rfl (fun c6 => ?_) (fun c6 => ?_)
        · replace hF := ite_p hF c6
          try replace hQ := ite_q hQ c6
          refine g_iconst (v := 0) dX9_show_118 (by decide) rfl ?_
          subst hF
          exact g_iret rfl dX9_show_119 (Nat.le_of_ble_eq_true rfl) (Nat.le_of_ble_eq_true rfl) ⟨rfl, rfl⟩
        · replace hF := ite_n hF c6
          try replace hQ := ite_r hQ c6
          refine g_iconst (v := 1) dX9_show_114 (by decide) rfl ?_
          refine g_goto (tgt := 119) dX9_show_115 (by decide) ?_
          subst hF
          exact g_iret rfl dX9_show_119 (Nat.le_of_ble_eq_true rfl) (Nat.le_of_ble_eq_true rfl) ⟨rfl, rfl⟩
      · replace hF := ite_n hF c5
        try replace hQ := ite_r hQ c5
        refine g_case 3 (fun c7 => ?_) (fun c7 => ?_)
        · replace hF := ite_p hF c7
          try replace hQ := ite_q hQ c7
          refine g_table (tgt := 120) dX9_show_1 (by decide) (by decide) ?_
          refine g_aload_n dX9_show_120 rfl rfl rfl ?_
          refine g_get gClX9 17 (by decide) fl_X9_75 dX9_show_121 (ho_0 _ _) rfl rfl ?_
          refine g_get gClX6 2 (by decide) fl_X9_192 dX9_show_124 (ho_19 _ _) rfl rfl ?_
          subst hF
          exact g_iret rfl dX9_show_127 (Nat.le_of_ble_eq_true rfl) (Nat.le_of_ble_eq_true rfl) ⟨rfl, rfl⟩
        · replace hF := ite_n hF c7
          try replace hQ := ite_r hQ c7
          refine g_case 4 (fun c8 => ?_) (fun c8 => ?_)
          · replace hF := ite_p hF c8
            try replace hQ := ite_q hQ c8
            refine g_table (tgt := 128) dX9_show_1 (by decide) (by decide) ?_
            refine g_aload_n dX9_show_128 rfl rfl rfl ?_
            refine g_get gClX9 18 (by decide) fl_X9_82 dX9_show_129 (ho_0 _ _) rfl rfl ?_
            refine g_get gClX2 2 (by decide) fl_X9_195 dX9_show_132 (ho_21 _ _) rfl rfl ?_
            subst hF
            exact g_iret rfl dX9_show_135 (Nat.le_of_ble_eq_true rfl) (Nat.le_of_ble_eq_true rfl) ⟨rfl, rfl⟩
          · replace hF := ite_n hF c8
            try replace hQ := ite_r hQ c8
            refine g_case 5 (fun c9 => ?_) (fun c9 => ?_)
            · replace hF := ite_p hF c9
              try replace hQ := ite_q hQ c9
              refine g_table (tgt := 136) dX9_show_1 (by decide) (by decide) ?_
              refine g_aload_n dX9_show_136 rfl rfl rfl ?_
              refine g_get gClX9 17 (by decide) fl_X9_75 dX9_show_137 (ho_0 _ _) rfl rfl ?_
              refine g_get gClX6 1 (by decide) fl_X9_168 dX9_show_140 (ho_19 _ _) rfl rfl ?_
              subst hF
              exact g_iret rfl dX9_show_143 (Nat.le_of_ble_eq_true rfl) (Nat.le_of_ble_eq_true rfl) ⟨rfl, rfl⟩
            · replace hF := ite_n hF c9
              try replace hQ := ite_r hQ c9
              refine g_case 6 (fun c10 => ?_) (fun c10 => ?_)
              · replace hF := ite_p hF c10
                try replace hQ := ite_q hQ c10
                refine g_table (tgt := 144) dX9_show_1 (by decide) (by decide) ?_
                refine g_aload_n dX9_show_144 rfl rfl rfl ?_
                refine g_get gClX9 18 (by decide) fl_X9_82 dX9_show_145 (ho_0 _ _) rfl rfl ?_
                refine g_get gClX2 1 (by decide) fl_X9_156 dX9_show_148 (ho_21 _ _) rfl rfl ?_
                subst hF
                exact g_iret rfl dX9_show_151 (Nat.le_of_ble_eq_true rfl) (Nat.le_of_ble_eq_true rfl) ⟨rfl, rfl⟩
              · replace hF := ite_n hF c10
                try replace hQ := ite_r hQ c10
                refine g_case 7 (fun c11 => ?_) (fun c11 => ?_)
                · replace hF := ite_p hF c11
                  try replace hQ := ite_q hQ c11
                  refine g_table (tgt := 152) dX9_show_1 (by decide) (by decide) ?_
                  refine g_aload_n dX9_show_152 rfl rfl rfl ?_
                  refine g_get gClX9 18 (by decide) fl_X9_82 dX9_show_153 (ho_0 _ _) rfl rfl ?_
                  refine g_get gClX2 4 (by decide) fl_X9_198 dX9_show_156 (ho_21 _ _) rfl rfl ?_
                  subst hF
                  exact g_iret rfl dX9_show_159 (Nat.le_of_ble_eq_true rfl) (Nat.le_of_ble_eq_true rfl) ⟨rfl, rfl⟩
                · replace hF := ite_n hF c11
                  try replace hQ := ite_r hQ c11
                  refine g_case 8 (fun c12 => ?_) (fun c12 => ?_)
                  · replace hF := ite_p hF c12
                    try replace hQ := ite_q hQ c12
                    refine g_table (tgt := 160) dX9_show_1 (by decide) (by decide) ?_
                    refine g_aload_n dX9_show_160 rfl rfl rfl ?_
                    refine g_get gClX9 10 (by decide) fl_X9_147 dX9_show_161 (ho_0 _ _) rfl rfl ?_
                    subst hF
                    exact g_iret rfl dX9_show_164 (Nat.le_of_ble_eq_true rfl) (Nat.le_of_ble_eq_true rfl) ⟨rfl, rfl⟩
                  · replace hF := ite_n hF c12
                    try replace hQ := ite_r hQ c12
                    refine g_case 9 (fun c13 => ?_) (fun c13 => ?_)
                    · replace hF := ite_p hF c13
                      try replace hQ := ite_q hQ c13
                      refine g_table (tgt := 165) dX9_show_1 (by decide) (by decide) ?_
                      refine g_aload_n dX9_show_165 rfl rfl rfl ?_
                      refine g_get gClX9 15 (by decide) fl_X9_61 dX9_show_166 (ho_0 _ _) rfl rfl ?_
                      refine g_get gClX3 1 (by decide) fl_X9_201 dX9_show_169 (ho_15 _ _) rfl rfl ?_
                      subst hF
                      exact g_iret rfl dX9_show_172 (Nat.le_of_ble_eq_true rfl) (Nat.le_of_ble_eq_true rfl) ⟨rfl, rfl⟩
                    · replace hF := ite_n hF c13
                      try replace hQ := ite_r hQ c13
                      refine g_case 10 (fun c14 => ?_) (fun c14 => ?_)
                      · replace hF := ite_p hF c14
                        try replace hQ := ite_q hQ c14
                        refine g_table (tgt := 173) dX9_show_1 (by decide) (by decide) ?_
                        refine g_aload_n dX9_show_173 rfl rfl rfl ?_
                        refine g_get gClX9 15 (by decide) fl_X9_61 dX9_show_174 (ho_0 _ _) rfl rfl ?_
                        refine g_get gClX3 2 (by decide) fl_X9_204 dX9_show_177 (ho_15 _ _) rfl rfl ?_
                        subst hF
                        exact g_iret rfl dX9_show_180 (Nat.le_of_ble_eq_true rfl) (Nat.le_of_ble_eq_true rfl) ⟨rfl, rfl⟩
                      · replace hF := ite_n hF c14
                        try replace hQ := ite_r hQ c14
                        refine g_case 11 (fun c15 => ?_) (fun c15 => ?_)
                        · replace hF := ite_p hF c15
                          try replace hQ := ite_q hQ c15
                          refine g_table (tgt := 181) dX9_show_1 (by decide) (by decide) ?_
                          refine g_aload_n dX9_show_181 rfl rfl rfl ?_
                          refine g_get gClX9 11 (by decide) fl_X9_37 dX9_show_182 (ho_0 _ _) rfl rfl ?_
                          subst hF
                          exact g_iret rfl dX9_show_185 (Nat.le_of_ble_eq_true rfl) (Nat.le_of_ble_eq_true rfl) ⟨rfl, rfl⟩
                        · replace hF := ite_n hF c15
                          try replace hQ := ite_r hQ c15
                          refine g_case 12 (fun c16 => ?_) (fun c16 => ?_)
                          · replace hF := ite_p hF c16
                            try replace hQ := ite_q hQ c16
                            refine g_table (tgt := 186) dX9_show_1 (by decide) (by decide) ?_
                            refine g_aload_n dX9_show_186 rfl rfl rfl ?_
                            refine g_get gClX9 14 (by decide) fl_X9_54 dX9_show_187 (ho_0 _ _) rfl rfl ?_
                            refine g_callv mv_X4_ownIssuer ml_X9_207 (c_X4_ownIssuer l g) (ho_12 _ _) rfl rfl (Nat.le_of_ble_eq_true rfl) (Nat.le_of_ble_eq_true rfl) (Nat.le_of_ble_eq_true rfl) (Nat.le_of_ble_eq_true rfl) rfl (Nat.le_of_ble_eq_true rfl) dX9_show_190 rfl (fun r17 hr17 pr17 => ?_)
                            obtain ⟨rfl, rfl⟩ := pr17
                            subst hF
                            exact g_iret rfl dX9_show_193 (Nat.le_of_ble_eq_true rfl) (Nat.le_of_ble_eq_true rfl) ⟨rfl, rfl⟩
                          · replace hF := ite_n hF c16
                            try replace hQ := ite_r hQ c16
                            refine g_case 13 (fun c18 => ?_) (fun c18 => ?_)
                            · replace hF := ite_p hF c18
                              try replace hQ := ite_q hQ c18
                              refine g_table (tgt := 194) dX9_show_1 (by decide) (by decide) ?_
                              refine g_aload_n dX9_show_194 rfl rfl rfl ?_
                              refine g_get gClX9 14 (by decide) fl_X9_54 dX9_show_195 (ho_0 _ _) rfl rfl ?_
                              refine g_get gClX4 2 (by decide) fl_X9_211 dX9_show_198 (ho_12 _ _) rfl rfl ?_
                              subst hF
                              exact g_iret rfl dX9_show_201 (Nat.le_of_ble_eq_true rfl) (Nat.le_of_ble_eq_true rfl) ⟨rfl, rfl⟩
                            · replace hF := ite_n hF c18
                              try replace hQ := ite_r hQ c18
                              refine g_table (tgt := 202) dX9_show_1 (by decide) (gt_out (lo := 0) (hi := 13) (by decide) (fun k h1 h2 => by rcases (show k = 0 ∨ k = 1 ∨ k = 2 ∨ k = 3 ∨ k = 4 ∨ k = 5 ∨ k = 6 ∨ k = 7 ∨ k = 8 ∨ k = 9 ∨ k = 10 ∨ k = 11 ∨ k = 12 ∨ k = 13 by omega) with rfl | rfl | rfl | rfl | rfl | rfl | rfl | rfl | rfl | rfl | rfl | rfl | rfl | rfl <;> first | exact c1 | exact c3 | exact c5 | exact c7 | exact c8 | exact c9 | exact c10 | exact c11 | exact c12 | exact c13 | exact c14 | exact c15 | exact c16 | exact c18) (by decide)) ?_
                              refine g_aload_n dX9_show_202 rfl rfl rfl ?_
                              refine g_iload_n dX9_show_203 rfl rfl rfl ?_
                              have o19 := hQ.1
                              replace hQ := hQ.2
                              refine g_callv mv_X9_settingShown ml_X9_212 (c_X9_settingShown l g _ o19) (ho_0 _ _) rfl rfl (Nat.le_of_ble_eq_true rfl) (Nat.le_of_ble_eq_true rfl) (Nat.le_of_ble_eq_true rfl) (Nat.le_of_ble_eq_true rfl) rfl (Nat.le_of_ble_eq_true rfl) dX9_show_204 rfl (fun r20 hr20 pr20 => ?_)
                              obtain ⟨rfl, rfl⟩ := pr20
                              subst hF
                              exact g_iret rfl dX9_show_207 (Nat.le_of_ble_eq_true rfl) (Nat.le_of_ble_eq_true rfl) ⟨rfl, rfl⟩
noncomputable def Fr_X9_size (σ : gS) (p0 : Int32) (p1 : Int32) : Int32 :=
  if (F_X9_isCard p0) = 0 then
    (-1 : Int32)
  else
    if (F_X9_isPlace p1) = 0 then
      (-1 : Int32)
    else
      (σ (23 + 11 * ix p0 + 1 + 2 + 2 * ix p1) 1)
noncomputable def F_X9_size : gS → Int32 → Int32 → Int32 := Classical.choose (⟨Fr_X9_size, rfl⟩ : ∃ f : gS → Int32 → Int32 → Int32, f = Fr_X9_size)
theorem F_X9_size_eq : F_X9_size = Fr_X9_size := Classical.choose_spec (⟨Fr_X9_size, rfl⟩ : ∃ f : gS → Int32 → Int32 → Int32, f = Fr_X9_size)
def Q_X9_size (σ : gS) (p0 : Int32) (p1 : Int32) : Prop :=
  if (F_X9_isCard p0) = 0 then
    (True)
  else
    (if (F_X9_isPlace p1) = 0 then
      (True)
    else
      (vp_in p0 16 ∧ (vp_in p1 4 ∧ (True))))
set_option maxHeartbeats 4000000 in
set_option maxRecDepth 100000 in
theorem c_X9_size (l : Launch) (g : gE)  {σ : gS} {ζ : gQ} (p0 : Int32) (p1 : Int32) (hQ : Q_X9_size σ p0 p1) : gC l g mX9_size (rm 1 20) [.ref 0, .int p0, .int p1] (hp σ ζ) (fun r h => r = some (.int (F_X9_size σ p0 p1)) ∧ h = hp σ ζ) := by
  refine gC_of (by decide) (Nat.le_of_ble_eq_true rfl) ?_
  generalize hF : (F_X9_size σ p0 p1) = fr
  rw [F_X9_size_eq] at hF
  unfold Fr_X9_size at hF
  unfold Q_X9_size at hQ
  refine g_iload_n dX9_size_0 rfl rfl rfl ?_
  refine g_calls mt_X9_isCard ms_X9_isCard ml_X9_118 (c_X9_isCard l g _) rfl (Nat.le_of_ble_eq_true rfl) (Nat.le_of_ble_eq_true rfl) (Nat.le_of_ble_eq_true rfl) (Nat.le_of_ble_eq_true rfl) rfl (Nat.le_of_ble_eq_true rfl) dX9_size_1 rfl (fun r1 hr1 pr1 => ?_)
  obtain ⟨rfl, rfl⟩ := pr1
  refine g_ifeq (tgt := 31) dX9_size_4 (by decide) rfl (fun c2 => ?_) (fun c2 => ?_)
  · replace hF := ite_p hF c2
    try replace hQ := ite_q hQ c2
    refine g_iconst (v := (-1)) dX9_size_31 (by decide) rfl ?_
    subst hF
    exact g_iret rfl dX9_size_32 (Nat.le_of_ble_eq_true rfl) (Nat.le_of_ble_eq_true rfl) ⟨rfl, rfl⟩
  · replace hF := ite_n hF c2
    try replace hQ := ite_r hQ c2
    refine g_iload_n dX9_size_7 rfl rfl rfl ?_
    refine g_calls mt_X9_isPlace ms_X9_isPlace ml_X9_121 (c_X9_isPlace l g _) rfl (Nat.le_of_ble_eq_true rfl) (Nat.le_of_ble_eq_true rfl) (Nat.le_of_ble_eq_true rfl) (Nat.le_of_ble_eq_true rfl) rfl (Nat.le_of_ble_eq_true rfl) dX9_size_8 rfl (fun r3 hr3 pr3 => ?_)
    obtain ⟨rfl, rfl⟩ := pr3
    refine g_ifeq (tgt := 31) dX9_size_11 (by decide) rfl (fun c4 => ?_) (fun c4 => ?_)
    · replace hF := ite_p hF c4
      try replace hQ := ite_q hQ c4
      refine g_iconst (v := (-1)) dX9_size_31 (by decide) rfl ?_
      subst hF
      exact g_iret rfl dX9_size_32 (Nat.le_of_ble_eq_true rfl) (Nat.le_of_ble_eq_true rfl) ⟨rfl, rfl⟩
    · replace hF := ite_n hF c4
      try replace hQ := ite_r hQ c4
      refine g_aload_n dX9_size_14 rfl rfl rfl ?_
      refine g_get gClX9 3 (by decide) fl_X9_23 dX9_size_15 (ho_0 _ _) rfl rfl ?_
      refine g_iload_n dX9_size_18 rfl rfl rfl ?_
      have o5 := hQ.1
      replace hQ := hQ.2
      refine g_aald3 (hp_at (by decide)) o5 (aa16 o5) dX9_size_19 rfl ?_
      refine g_get gClX1 0 (by decide) fl_X9_220 dX9_size_20 (card_o (vin_lt o5)) rfl rfl ?_
      refine g_iload_n dX9_size_23 rfl rfl rfl ?_
      have o6 := hQ.1
      replace hQ := hQ.2
      refine g_aald4 (card_r (vin_lt o5)) o6 (aa4 o6) dX9_size_24 rfl ?_
      refine g_get gClX0 1 (by decide) fl_X9_103 dX9_size_25 ((isB_rw (vin_lt o5) (vin_lt o6)).o _ ζ) rfl rfl ?_
      refine g_goto (tgt := 32) dX9_size_28 (by decide) ?_
      subst hF
      exact g_iret rfl dX9_size_32 (Nat.le_of_ble_eq_true rfl) (Nat.le_of_ble_eq_true rfl) ⟨rfl, rfl⟩
noncomputable def Fr_X9_tick (σ : gS) (p0 : Int32) : Int32 × gS :=
  if p0 < 0 then
    ((0 : Int32), σ)
  else
    if (100000 : Int32) < p0 then
      ((0 : Int32), σ)
    else
      if p0 ≤ ((2000000000 : Int32) - (σ 0 10)) then
        let s4 := (pf σ 0 10 ((σ 0 10) + p0) : gS)
        ((1 : Int32), s4)
      else
        ((0 : Int32), σ)
noncomputable def F_X9_tick : gS → Int32 → Int32 × gS := Classical.choose (⟨Fr_X9_tick, rfl⟩ : ∃ f : gS → Int32 → Int32 × gS, f = Fr_X9_tick)
theorem F_X9_tick_eq : F_X9_tick = Fr_X9_tick := Classical.choose_spec (⟨Fr_X9_tick, rfl⟩ : ∃ f : gS → Int32 → Int32 × gS, f = Fr_X9_tick)
set_option maxHeartbeats 4000000 in
set_option maxRecDepth 100000 in
theorem c_X9_tick (l : Launch) (g : gE)  {σ : gS} {ζ : gQ} (p0 : Int32) : gC l g mX9_tick (rm 0 0) [.ref 0, .int p0] (hp σ ζ) (fun r h => r = some (.int (F_X9_tick σ p0).1) ∧ h = hp (F_X9_tick σ p0).2 ζ) := by
  refine gC_of (by decide) (Nat.le_of_ble_eq_true rfl) ?_
  generalize hF : (F_X9_tick σ p0) = fr
  rw [F_X9_tick_eq] at hF
  unfold Fr_X9_tick at hF
  refine g_iload_n dX9_tick_0 rfl rfl rfl ?_
  refine g_iflt (tgt := 21) dX9_tick_1 (by decide) rfl (fun c1 => ?_) (fun c1 => ?_)
  · replace hF := ite_p hF c1
    refine g_iconst (v := 0) dX9_tick_21 (by decide) rfl ?_
    subst hF
    exact g_zret rfl dX9_tick_22 (by decide) (Nat.le_of_ble_eq_true rfl) (Nat.le_of_ble_eq_true rfl) ⟨rfl, rfl⟩
  · replace hF := ite_n hF c1
    refine g_iload_n dX9_tick_4 rfl rfl rfl ?_
    refine g_ldc ki_X9_145 dX9_tick_5 rfl ?_
    refine g_icmpgt (tgt := 21) dX9_tick_7 (by decide) rfl (fun c2 => ?_) (fun c2 => ?_)
    · replace hF := ite_p hF c2
      refine g_iconst (v := 0) dX9_tick_21 (by decide) rfl ?_
      subst hF
      exact g_zret rfl dX9_tick_22 (by decide) (Nat.le_of_ble_eq_true rfl) (Nat.le_of_ble_eq_true rfl) ⟨rfl, rfl⟩
    · replace hF := ite_n hF c2
      refine g_iload_n dX9_tick_10 rfl rfl rfl ?_
      refine g_ldc ki_X9_146 dX9_tick_11 rfl ?_
      refine g_aload_n dX9_tick_13 rfl rfl rfl ?_
      refine g_get gClX9 10 (by decide) fl_X9_147 dX9_tick_14 (ho_0 _ _) rfl rfl ?_
      refine g_isub dX9_tick_17 rfl ?_
      refine g_icmple (tgt := 23) dX9_tick_18 (by decide) rfl (fun c3 => ?_) (fun c3 => ?_)
      · replace hF := ite_p hF c3
        refine g_aload_n dX9_tick_23 rfl rfl rfl ?_
        refine g_dup dX9_tick_24 rfl rfl ?_
        refine g_get gClX9 10 (by decide) fl_X9_147 dX9_tick_25 (ho_0 _ _) rfl rfl ?_
        refine g_iload_n dX9_tick_28 rfl rfl rfl ?_
        refine g_iadd dX9_tick_29 rfl ?_
        refine g_put gClX9 10 (by decide) fl_X9_147 rfl dX9_tick_30 (ho_0 _ _) rfl rfl (Nat.le_of_ble_eq_true rfl) po_0_10 rfl ?_
        refine g_iconst (v := 1) dX9_tick_33 (by decide) rfl ?_
        subst hF
        exact g_zret rfl dX9_tick_34 (by decide) (Nat.le_of_ble_eq_true rfl) (Nat.le_of_ble_eq_true rfl) ⟨rfl, rfl⟩
      · replace hF := ite_n hF c3
        refine g_iconst (v := 0) dX9_tick_21 (by decide) rfl ?_
        subst hF
        exact g_zret rfl dX9_tick_22 (by decide) (Nat.le_of_ble_eq_true rfl) (Nat.le_of_ble_eq_true rfl) ⟨rfl, rfl⟩
