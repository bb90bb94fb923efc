/-! StationHouseModel: by program -/
noncomputable def J_X10_asks_44 (p0 : Int32) (u0 : Int32) (σ : gS) (ζ : gQ) : Int32 × gS × gQ :=
  if (σ 199 48) = u0 then
    let f17 := (F_X10_put_ σ ζ ((50 : Int32) + (σ 199 26)) (0 : Int32) p0)
    if f17.1 = 0 then
      ((1 : Int32), f17.2.1, f17.2.2)
    else
      let s19 := (pf f17.2.1 199 49 (f17.2.1 199 26) : gS)
      let s20 := (pf s19 199 26 (0 : Int32) : gS)
      let s22 := (F_X10_insideTo s20 (5 : Int32) (6 : Int32))
      ((1 : Int32), s22, f17.2.2)
  else
    let f11 := (F_X10_put_ σ ζ (55 : Int32) (1 : Int32) p0)
    if f11.1 = 0 then
      ((1 : Int32), f11.2.1, f11.2.2)
    else
      let s13 := (pf f11.2.1 199 26 (0 : Int32) : gS)
      let s14 := (pf s13 199 41 (3 : Int32) : gS)
      ((1 : Int32), s14, f11.2.2)
def QJ_X10_asks_44 (p0 : Int32) (u0 : Int32) (σ : gS) (ζ : gQ) : Prop :=
  if (σ 199 48) = u0 then
    ((Q_X10_put_ σ ζ ((50 : Int32) + (σ 199 26)) (0 : Int32) p0) ∧ (let f17 := (F_X10_put_ σ ζ ((50 : Int32) + (σ 199 26)) (0 : Int32) p0)
    if f17.1 = 0 then
      (True)
    else
      (let s19 := (pf f17.2.1 199 49 (f17.2.1 199 26) : gS)
      let s20 := (pf s19 199 26 (0 : Int32) : gS)
      let s22 := (F_X10_insideTo s20 (5 : Int32) (6 : Int32))
      True)))
  else
    ((Q_X10_put_ σ ζ (55 : Int32) (1 : Int32) p0) ∧ (let f11 := (F_X10_put_ σ ζ (55 : Int32) (1 : Int32) p0)
    if f11.1 = 0 then
      (True)
    else
      (let s13 := (pf f11.2.1 199 26 (0 : Int32) : gS)
      let s14 := (pf s13 199 41 (3 : Int32) : gS)
      True)))
set_option maxHeartbeats 4000000 in
set_option maxRecDepth 100000 in
theorem j_X10_asks_44 (l : Launch) (g : gE) {p0 : Int32} {fr : Int32 × gS × gQ} : ∀ (u0 : Int32) (σ : gS) (ζ : gQ), QJ_X10_asks_44 p0 u0 σ ζ → J_X10_asks_44 p0 u0 σ ζ = fr → gG l g mX10_asks (rm 8 224) (gZm g (rm 8 224) (fun r h => r = some (.int fr.1) ∧ h = hp fr.2.1 fr.2.2)) 44 [(0, .ref 199), (1, .int p0)] [.int u0] (hp σ ζ) 0 0 := by
  intro u0 σ ζ hQ hF
  unfold J_X10_asks_44 at hF
  unfold QJ_X10_asks_44 at hQ
  refine g_istoreL_n (L1 := [(0, _), (1, _), (2, _)]) dX10_asks_44 rfl (by decide) rfl rfl ?_
  refine g_aload_n dX10_asks_45 rfl rfl rfl ?_
  refine g_get gClX10 48 (by decide) fl_X10_85 dX10_asks_46 (ho_199 _ _) rfl rfl ?_
  refine g_iload_n dX10_asks_49 rfl rfl rfl ?_
  refine g_icmpne (tgt := 92) dX10_asks_50 (by decide) rfl (fun c8 => ?_) (fun c8 => ?_)
  · replace hF := ite_n hF c8
    try replace hQ := ite_r hQ c8
    refine g_aload_n dX10_asks_92 rfl rfl rfl ?_
    refine g_bipush (v := 55) dX10_asks_93 (by decide) rfl ?_
    refine g_iconst (v := 1) dX10_asks_95 (by decide) rfl ?_
    refine g_iload_n dX10_asks_96 rfl rfl rfl ?_
    have o9 := hQ.1
    replace hQ := hQ.2
    refine g_callv mv_X10_put_ ml_X10_239 (c_X10_put_ l g _ _ _ o9) (ho_199 _ _) rfl rfl (Nat.le_of_ble_eq_true rfl) (Nat.le_of_ble_eq_true rfl) (Nat.le_of_ble_eq_true rfl) (Nat.le_of_ble_eq_true rfl) rfl (Nat.le_of_ble_eq_true rfl) dX10_asks_97 rfl (fun r10 hr10 pr10 => ?_)
    obtain ⟨rfl, rfl⟩ := pr10
    refine g_ifeq (tgt := 113) dX10_asks_100 (by decide) rfl (fun c12 => ?_) (fun c12 => ?_)
    · replace hF := ite_p hF c12
      try replace hQ := ite_q hQ c12
      refine g_iconst (v := 1) dX10_asks_113 (by decide) rfl ?_
      subst hF
      exact g_zret rfl dX10_asks_114 (by decide) (Nat.le_of_ble_eq_true rfl) (Nat.le_of_ble_eq_true rfl) ⟨rfl, rfl⟩
    · replace hF := ite_n hF c12
      try replace hQ := ite_r hQ c12
      refine g_aload_n dX10_asks_103 rfl rfl rfl ?_
      refine g_iconst (v := 0) dX10_asks_104 (by decide) rfl ?_
      refine g_put gClX10 26 (by decide) fl_X10_196 rfl dX10_asks_105 (ho_199 _ _) rfl rfl (Nat.le_of_ble_eq_true rfl) po_199_26 rfl ?_
      refine g_aload_n dX10_asks_108 rfl rfl rfl ?_
      refine g_iconst (v := 3) dX10_asks_109 (by decide) rfl ?_
      refine g_put gClX10 41 (by decide) fl_X10_82 rfl dX10_asks_110 (ho_199 _ _) rfl rfl (Nat.le_of_ble_eq_true rfl) po_199_41 rfl ?_
      refine g_iconst (v := 1) dX10_asks_113 (by decide) rfl ?_
      subst hF
      exact g_zret rfl dX10_asks_114 (by decide) (Nat.le_of_ble_eq_true rfl) (Nat.le_of_ble_eq_true rfl) ⟨rfl, rfl⟩
  · replace hF := ite_p hF c8
    try replace hQ := ite_q hQ c8
    refine g_aload_n dX10_asks_53 rfl rfl rfl ?_
    refine g_bipush (v := 50) dX10_asks_54 (by decide) rfl ?_
    refine g_aload_n dX10_asks_56 rfl rfl rfl ?_
    refine g_get gClX10 26 (by decide) fl_X10_196 dX10_asks_57 (ho_199 _ _) rfl rfl ?_
    refine g_iadd dX10_asks_60 rfl ?_
    refine g_iconst (v := 0) dX10_asks_61 (by decide) rfl ?_
    refine g_iload_n dX10_asks_62 rfl rfl rfl ?_
    have o15 := hQ.1
    replace hQ := hQ.2
    refine g_callv mv_X10_put_ ml_X10_239 (c_X10_put_ l g _ _ _ o15) (ho_199 _ _) rfl rfl (Nat.le_of_ble_eq_true rfl) (Nat.le_of_ble_eq_true rfl) (Nat.le_of_ble_eq_true rfl) (Nat.le_of_ble_eq_true rfl) rfl (Nat.le_of_ble_eq_true rfl) dX10_asks_63 rfl (fun r16 hr16 pr16 => ?_)
    obtain ⟨rfl, rfl⟩ := pr16
    refine g_ifeq (tgt := 113) dX10_asks_66 (by decide) rfl (fun c18 => ?_) (fun c18 => ?_)
    · replace hF := ite_p hF c18
      try replace hQ := ite_q hQ c18
      refine g_iconst (v := 1) dX10_asks_113 (by decide) rfl ?_
      subst hF
      exact g_zret rfl dX10_asks_114 (by decide) (Nat.le_of_ble_eq_true rfl) (Nat.le_of_ble_eq_true rfl) ⟨rfl, rfl⟩
    · replace hF := ite_n hF c18
      try replace hQ := ite_r hQ c18
      refine g_aload_n dX10_asks_69 rfl rfl rfl ?_
      refine g_aload_n dX10_asks_70 rfl rfl rfl ?_
      refine g_get gClX10 26 (by decide) fl_X10_196 dX10_asks_71 (ho_199 _ _) rfl rfl ?_
      refine g_put gClX10 49 (by decide) fl_X10_274 rfl dX10_asks_74 (ho_199 _ _) rfl rfl (Nat.le_of_ble_eq_true rfl) po_199_49 rfl ?_
      refine g_aload_n dX10_asks_77 rfl rfl rfl ?_
      refine g_iconst (v := 0) dX10_asks_78 (by decide) rfl ?_
      refine g_put gClX10 26 (by decide) fl_X10_196 rfl dX10_asks_79 (ho_199 _ _) rfl rfl (Nat.le_of_ble_eq_true rfl) po_199_26 rfl ?_
      refine g_aload_n dX10_asks_82 rfl rfl rfl ?_
      refine g_iconst (v := 5) dX10_asks_83 (by decide) rfl ?_
      refine g_bipush (v := 6) dX10_asks_84 (by decide) rfl ?_
      refine g_callv mv_X10_insideTo ml_X10_325 (c_X10_insideTo l g _ _) (ho_199 _ _) rfl rfl (Nat.le_of_ble_eq_true rfl) (Nat.le_of_ble_eq_true rfl) (Nat.le_of_ble_eq_true rfl) (Nat.le_of_ble_eq_true rfl) rfl (Nat.le_of_ble_eq_true rfl) dX10_asks_86 rfl (fun r21 hr21 pr21 => ?_)
      obtain ⟨rfl, rfl⟩ := pr21
      refine g_goto (tgt := 113) dX10_asks_89 (by decide) ?_
      refine g_iconst (v := 1) dX10_asks_113 (by decide) rfl ?_
      subst hF
      exact g_zret rfl dX10_asks_114 (by decide) (Nat.le_of_ble_eq_true rfl) (Nat.le_of_ble_eq_true rfl) ⟨rfl, rfl⟩
noncomputable def Fr_X10_asks (σ : gS) (ζ : gQ) (p0 : Int32) : Int32 × gS × gQ :=
  let f3 := (F_X10_isLost σ ζ p0)
  if f3.1 = 0 then
    if (f3.2.1 199 26) = 0 then
      ((0 : Int32), f3.2.1, f3.2.2)
    else
      if (f3.2.1 199 26) = (1 : Int32) then
        J_X10_asks_44 p0 (2 : Int32) f3.2.1 f3.2.2
      else
        if (f3.2.1 199 26) = (3 : Int32) then
          J_X10_asks_44 p0 (1 : Int32) f3.2.1 f3.2.2
        else
          J_X10_asks_44 p0 (3 : Int32) f3.2.1 f3.2.2
  else
    ((1 : Int32), f3.2.1, f3.2.2)
noncomputable def F_X10_asks : gS → gQ → Int32 → Int32 × gS × gQ := Classical.choose (⟨Fr_X10_asks, rfl⟩ : ∃ f : gS → gQ → Int32 → Int32 × gS × gQ, f = Fr_X10_asks)
theorem F_X10_asks_eq : F_X10_asks = Fr_X10_asks := Classical.choose_spec (⟨Fr_X10_asks, rfl⟩ : ∃ f : gS → gQ → Int32 → Int32 × gS × gQ, f = Fr_X10_asks)
def Q_X10_asks (σ : gS) (ζ : gQ) (p0 : Int32) : Prop :=
  (Q_X10_isLost σ ζ p0) ∧ (let f3 := (F_X10_isLost σ ζ p0)
  if f3.1 = 0 then
    (if (f3.2.1 199 26) = 0 then
      (True)
    else
      (if (f3.2.1 199 26) = (1 : Int32) then
        (QJ_X10_asks_44 p0 (2 : Int32) f3.2.1 f3.2.2)
      else
        (if (f3.2.1 199 26) = (3 : Int32) then
          (QJ_X10_asks_44 p0 (1 : Int32) f3.2.1 f3.2.2)
        else
          (QJ_X10_asks_44 p0 (3 : Int32) f3.2.1 f3.2.2))))
  else
    (True))
set_option maxHeartbeats 4000000 in
set_option maxRecDepth 100000 in
theorem c_X10_asks (l : Launch) (g : gE)  {σ : gS} {ζ : gQ} (p0 : Int32) (hQ : Q_X10_asks σ ζ p0) : gC l g mX10_asks (rm 8 224) [.ref 199, .int p0] (hp σ ζ) (fun r h => r = some (.int (F_X10_asks σ ζ p0).1) ∧ h = hp (F_X10_asks σ ζ p0).2.1 (F_X10_asks σ ζ p0).2.2) := by
  refine gC_of (by decide) (Nat.le_of_ble_eq_true rfl) ?_
  generalize hF : (F_X10_asks σ ζ p0) = fr
  rw [F_X10_asks_eq] at hF
  unfold Fr_X10_asks at hF
  unfold Q_X10_asks at hQ
  refine g_aload_n dX10_asks_0 rfl rfl rfl ?_
  refine g_iload_n dX10_asks_1 rfl rfl rfl ?_
  have o1 := hQ.1
  replace hQ := hQ.2
  refine g_callv mv_X10_isLost ml_X10_334 (c_X10_isLost l g _ o1) (ho_199 _ _) rfl rfl (Nat.le_of_ble_eq_true rfl) (Nat.le_of_ble_eq_true rfl) (Nat.le_of_ble_eq_true rfl) (Nat.le_of_ble_eq_true rfl) rfl (Nat.le_of_ble_eq_true rfl) dX10_asks_2 rfl (fun r2 hr2 pr2 => ?_)
  obtain ⟨rfl, rfl⟩ := pr2
  refine g_ifeq (tgt := 10) dX10_asks_5 (by decide) rfl (fun c4 => ?_) (fun c4 => ?_)
  · replace hF := ite_p hF c4
    try replace hQ := ite_q hQ c4
    refine g_aload_n dX10_asks_10 rfl rfl rfl ?_
    refine g_get gClX10 26 (by decide) fl_X10_196 dX10_asks_11 (ho_199 _ _) rfl rfl ?_
    refine g_ifne (tgt := 19) dX10_asks_14 (by decide) rfl (fun c5 => ?_) (fun c5 => ?_)
    · replace hF := ite_n hF c5
      try replace hQ := ite_r hQ c5
      refine g_aload_n dX10_asks_19 rfl rfl rfl ?_
      refine g_get gClX10 26 (by decide) fl_X10_196 dX10_asks_20 (ho_199 _ _) rfl rfl ?_
      refine g_iconst (v := 1) dX10_asks_23 (by decide) rfl ?_
      refine g_icmpne (tgt := 31) dX10_asks_24 (by decide) rfl (fun c6 => ?_) (fun c6 => ?_)
      · replace hF := ite_n hF c6
        try replace hQ := ite_r hQ c6
        refine g_aload_n dX10_asks_31 rfl rfl rfl ?_
        refine g_get gClX10 26 (by decide) fl_X10_196 dX10_asks_32 (ho_199 _ _) rfl rfl ?_
        refine g_iconst (v := 3) dX10_asks_35 (by decide) rfl ?_
        refine g_icmpne (tgt := 43) dX10_asks_36 (by decide) rfl (fun c7 => ?_) (fun c7 => ?_)
        · replace hF := ite_n hF c7
          try replace hQ := ite_r hQ c7
          refine g_iconst (v := 3) dX10_asks_43 (by decide) rfl ?_
          refine g_sub [0, 1] rfl ?_
          exact j_X10_asks_44 l g _ _ _ hQ hF
        · replace hF := ite_p hF c7
          try replace hQ := ite_q hQ c7
          refine g_iconst (v := 1) dX10_asks_39 (by decide) rfl ?_
          refine g_goto (tgt := 44) dX10_asks_40 (by decide) ?_
          refine g_sub [0, 1] rfl ?_
          exact j_X10_asks_44 l g _ _ _ hQ hF
      · replace hF := ite_p hF c6
        try replace hQ := ite_q hQ c6
        refine g_iconst (v := 2) dX10_asks_27 (by decide) rfl ?_
        refine g_goto (tgt := 44) dX10_asks_28 (by decide) ?_
        refine g_sub [0, 1] rfl ?_
        exact j_X10_asks_44 l g _ _ _ hQ hF
    · replace hF := ite_p hF c5
      try replace hQ := ite_q hQ c5
      refine g_iconst (v := 0) dX10_asks_17 (by decide) rfl ?_
      subst hF
      exact g_zret rfl dX10_asks_18 (by decide) (Nat.le_of_ble_eq_true rfl) (Nat.le_of_ble_eq_true rfl) ⟨rfl, rfl⟩
  · replace hF := ite_n hF c4
    try replace hQ := ite_r hQ c4
    refine g_iconst (v := 1) dX10_asks_8 (by decide) rfl ?_
    subst hF
    exact g_zret rfl dX10_asks_9 (by decide) (Nat.le_of_ble_eq_true rfl) (Nat.le_of_ble_eq_true rfl) ⟨rfl, rfl⟩
noncomputable def Fr_X10_numberOf (σ : gS) (p0 : Int32) : Int64 :=
  ((((((σ 216 (ix ((16 : Int32) * p0))).toInt64 &&& (255 : Int64)) <<< ((24 : Int32).toInt64 &&& 63)) ||| (((σ 216 (ix (((16 : Int32) * p0) + (1 : Int32)))) &&& (255 : Int32)) <<< ((16 : Int32) &&& 31)).toInt64) ||| (((σ 216 (ix (((16 : Int32) * p0) + (2 : Int32)))) &&& (255 : Int32)) <<< ((8 : Int32) &&& 31)).toInt64) ||| ((σ 216 (ix (((16 : Int32) * p0) + (3 : Int32)))) &&& (255 : Int32)).toInt64)
noncomputable def F_X10_numberOf : gS → Int32 → Int64 := Classical.choose (⟨Fr_X10_numberOf, rfl⟩ : ∃ f : gS → Int32 → Int64, f = Fr_X10_numberOf)
theorem F_X10_numberOf_eq : F_X10_numberOf = Fr_X10_numberOf := Classical.choose_spec (⟨Fr_X10_numberOf, rfl⟩ : ∃ f : gS → Int32 → Int64, f = Fr_X10_numberOf)
def Q_X10_numberOf (σ : gS) (p0 : Int32) : Prop :=
  vp_in ((16 : Int32) * p0) 1552 ∧ (vp_in (((16 : Int32) * p0) + (1 : Int32)) 1552 ∧ (vp_in (((16 : Int32) * p0) + (2 : Int32)) 1552 ∧ (vp_in (((16 : Int32) * p0) + (3 : Int32)) 1552 ∧ (True))))
set_option maxHeartbeats 4000000 in
set_option maxRecDepth 100000 in
theorem c_X10_numberOf (l : Launch) (g : gE)  {σ : gS} {ζ : gQ} (p0 : Int32) (hQ : Q_X10_numberOf σ p0) : gC l g mX10_numberOf (rm 0 0) [.ref 199, .int p0] (hp σ ζ) (fun r h => r = some (.long (F_X10_numberOf σ p0)) ∧ h = hp σ ζ) := by
  refine gC_of (by decide) (Nat.le_of_ble_eq_true rfl) ?_
  generalize hF : (F_X10_numberOf σ p0) = fr
  rw [F_X10_numberOf_eq] at hF
  unfold Fr_X10_numberOf at hF
  unfold Q_X10_numberOf at hQ
  refine g_aload_n dX10_numberOf_0 rfl rfl rfl ?_
  refine g_get gClX10 28 (by decide) fl_X10_60 dX10_numberOf_1 (ho_199 _ _) rfl rfl ?_
  refine g_bipush (v := 16) dX10_numberOf_4 (by decide) rfl ?_
  refine g_iload_n dX10_numberOf_6 rfl rfl rfl ?_
  refine g_imul dX10_numberOf_7 rfl ?_
  have o1 := hQ.1
  replace hQ := hQ.2
  refine g_bald (ha_216 _ _) o1 dX10_numberOf_8 rfl ?_
  refine g_i2l dX10_numberOf_9 rfl ?_
  refine g_ldc2 kl_X10_161 dX10_numberOf_10 rfl ?_
  refine g_land dX10_numberOf_13 rfl ?_
  refine g_bipush (v := 24) dX10_numberOf_14 (by decide) rfl ?_
  refine g_lshl dX10_numberOf_16 rfl ?_
  refine g_aload_n dX10_numberOf_17 rfl rfl rfl ?_
  refine g_get gClX10 28 (by decide) fl_X10_60 dX10_numberOf_18 (ho_199 _ _) rfl rfl ?_
  refine g_bipush (v := 16) dX10_numberOf_21 (by decide) rfl ?_
  refine g_iload_n dX10_numberOf_23 rfl rfl rfl ?_
  refine g_imul dX10_numberOf_24 rfl ?_
  refine g_iconst (v := 1) dX10_numberOf_25 (by decide) rfl ?_
  refine g_iadd dX10_numberOf_26 rfl ?_
  have o2 := hQ.1
  replace hQ := hQ.2
  refine g_bald (ha_216 _ _) o2 dX10_numberOf_27 rfl ?_
  refine g_sipush (v := 255) dX10_numberOf_28 (by decide) rfl ?_
  refine g_iand dX10_numberOf_31 rfl ?_
  refine g_bipush (v := 16) dX10_numberOf_32 (by decide) rfl ?_
  refine g_ishl dX10_numberOf_34 rfl ?_
  refine g_i2l dX10_numberOf_35 rfl ?_
  refine g_lor dX10_numberOf_36 rfl ?_
  refine g_aload_n dX10_numberOf_37 rfl rfl rfl ?_
  refine g_get gClX10 28 (by decide) fl_X10_60 dX10_numberOf_38 (ho_199 _ _) rfl rfl ?_
  refine g_bipush (v := 16) dX10_numberOf_41 (by decide) rfl ?_
  refine g_iload_n dX10_numberOf_43 rfl rfl rfl ?_
  refine g_imul dX10_numberOf_44 rfl ?_
  refine g_iconst (v := 2) dX10_numberOf_45 (by decide) rfl ?_
  refine g_iadd dX10_numberOf_46 rfl ?_
  have o3 := hQ.1
  replace hQ := hQ.2
  refine g_bald (ha_216 _ _) o3 dX10_numberOf_47 rfl ?_
  refine g_sipush (v := 255) dX10_numberOf_48 (by decide) rfl ?_
  refine g_iand dX10_numberOf_51 rfl ?_
  refine g_bipush (v := 8) dX10_numberOf_52 (by decide) rfl ?_
  refine g_ishl dX10_numberOf_54 rfl ?_
  refine g_i2l dX10_numberOf_55 rfl ?_
  refine g_lor dX10_numberOf_56 rfl ?_
  refine g_aload_n dX10_numberOf_57 rfl rfl rfl ?_
  refine g_get gClX10 28 (by decide) fl_X10_60 dX10_numberOf_58 (ho_199 _ _) rfl rfl ?_
  refine g_bipush (v := 16) dX10_numberOf_61 (by decide) rfl ?_
  refine g_iload_n dX10_numberOf_63 rfl rfl rfl ?_
  refine g_imul dX10_numberOf_64 rfl ?_
  refine g_iconst (v := 3) dX10_numberOf_65 (by decide) rfl ?_
  refine g_iadd dX10_numberOf_66 rfl ?_
  have o4 := hQ.1
  replace hQ := hQ.2
  refine g_bald (ha_216 _ _) o4 dX10_numberOf_67 rfl ?_
  refine g_sipush (v := 255) dX10_numberOf_68 (by decide) rfl ?_
  refine g_iand dX10_numberOf_71 rfl ?_
  refine g_i2l dX10_numberOf_72 rfl ?_
  refine g_lor dX10_numberOf_73 rfl ?_
  subst hF
  exact g_lret rfl dX10_numberOf_74 (Nat.le_of_ble_eq_true rfl) (Nat.le_of_ble_eq_true rfl) ⟨rfl, rfl⟩
noncomputable def G_X10_ends_L163 (p0 : Int32) : Nat → Int32 → Int64 → Int32 → gS → gQ → gS × gQ
  | 0, _, _, _, σ, ζ => (σ, ζ)
  | n + 1, y2, y3, y5, σ, ζ =>
    if (σ 199 29) ≤ y5 then
      let s15 := (F_X10_drop σ y5)
      if (s15 199 31) = 0 then
        let s17 := (pf s15 199 31 (0 : Int32) : gS)
        let s19 := (F_X10_insideTo s17 (2 : Int32) (5 : Int32))
        (s19, ζ)
      else
        if (s15 199 29) < (64 : Int32) then
          let s21 := (pf s15 199 31 (0 : Int32) : gS)
          let s23 := (F_X10_insideTo s21 (2 : Int32) (5 : Int32))
          (s23, ζ)
        else
          let s24 := (pf s15 199 31 (1 : Int32) : gS)
          let s26 := (F_X10_insideTo s24 (2 : Int32) (5 : Int32))
          (s26, ζ)
    else
      if 0 < (lg_cmp (F_X10_numberOf σ y5) y3) then
        let s32 := (F_X10_drop σ y5)
        if (s32 199 31) = 0 then
          let s34 := (pf s32 199 31 (0 : Int32) : gS)
          let s36 := (F_X10_insideTo s34 (2 : Int32) (5 : Int32))
          (s36, ζ)
        else
          if (s32 199 29) < (64 : Int32) then
            let s38 := (pf s32 199 31 (0 : Int32) : gS)
            let s40 := (F_X10_insideTo s38 (2 : Int32) (5 : Int32))
            (s40, ζ)
          else
            let s41 := (pf s32 199 31 (1 : Int32) : gS)
            let s43 := (F_X10_insideTo s41 (2 : Int32) (5 : Int32))
            (s43, ζ)
      else
        G_X10_ends_L163 p0 n y2 y3 (y5 + Int32.ofInt (1)) σ ζ
def QG_X10_ends_L163 (p0 : Int32) : Nat → Int32 → Int64 → Int32 → gS → gQ → Prop
  | 0, _, _, _, _, _ => False
  | n + 1, y2, y3, y5, σ, ζ =>
    if (σ 199 29) ≤ y5 then
      ((Q_X10_drop σ y5) ∧ (let s15 := (F_X10_drop σ y5)
      if (s15 199 31) = 0 then
        (let s17 := (pf s15 199 31 (0 : Int32) : gS)
        let s19 := (F_X10_insideTo s17 (2 : Int32) (5 : Int32))
        True)
      else
        (if (s15 199 29) < (64 : Int32) then
          (let s21 := (pf s15 199 31 (0 : Int32) : gS)
          let s23 := (F_X10_insideTo s21 (2 : Int32) (5 : Int32))
          True)
        else
          (let s24 := (pf s15 199 31 (1 : Int32) : gS)
          let s26 := (F_X10_insideTo s24 (2 : Int32) (5 : Int32))
          True))))
    else
      ((Q_X10_numberOf σ y5) ∧ (if 0 < (lg_cmp (F_X10_numberOf σ y5) y3) then
        ((Q_X10_drop σ y5) ∧ (let s32 := (F_X10_drop σ y5)
        if (s32 199 31) = 0 then
          (let s34 := (pf s32 199 31 (0 : Int32) : gS)
          let s36 := (F_X10_insideTo s34 (2 : Int32) (5 : Int32))
          True)
        else
          (if (s32 199 29) < (64 : Int32) then
            (let s38 := (pf s32 199 31 (0 : Int32) : gS)
            let s40 := (F_X10_insideTo s38 (2 : Int32) (5 : Int32))
            True)
          else
            (let s41 := (pf s32 199 31 (1 : Int32) : gS)
            let s43 := (F_X10_insideTo s41 (2 : Int32) (5 : Int32))
            True))))
      else
        (QG_X10_ends_L163 p0 n y2 y3 (y5 + Int32.ofInt (1)) σ ζ)))
set_option maxHeartbeats 4000000 in
set_option maxRecDepth 100000 in
theorem t_X10_ends_L163 (l : Launch) (g : gE) {p0 : Int32} {fr : gS × gQ} : ∀ (n : Nat) (y2 : Int32) (y3 : Int64) (y5 : Int32) (σ : gS) (ζ : gQ), QG_X10_ends_L163 p0 n y2 y3 y5 σ ζ → G_X10_ends_L163 p0 n y2 y3 y5 σ ζ = fr → gG l g mX10_ends (rm 7 203) (gZm g (rm 7 203) (fun r h => r = none ∧ h = hp fr.1 fr.2)) 163 [(0, .ref 199), (1, .int p0), (2, .int y2), (3, .long y3), (5, .int y5)] [] (hp σ ζ) 0 0 := by
  intro n
  induction n with
  | zero => intro y2 y3 y5 σ ζ hQ; exact absurd hQ (by unfold QG_X10_ends_L163; exact id)
  | succ n ihL163 =>
    intro y2 y3 y5 σ ζ hQ hF
    unfold G_X10_ends_L163 at hF
    unfold QG_X10_ends_L163 at hQ
    refine g_iload dX10_ends_163 rfl rfl ?_
    refine g_aload_n dX10_ends_165 rfl rfl rfl ?_
    refine g_get gClX10 29 (by decide) fl_X10_202 dX10_ends_166 (ho_199 _ _) rfl rfl ?_
    refine g_icmpge (tgt := 189) dX10_ends_169 (by decide) rfl (fun c12 => ?_) (fun c12 => ?_)
    · replace hF := ite_p hF c12
      try replace hQ := ite_q hQ c12
      refine g_aload_n dX10_ends_189 rfl rfl rfl ?_
      refine g_iload dX10_ends_190 rfl rfl ?_
      have o13 := hQ.1
      replace hQ := hQ.2
      refine g_callv mv_X10_drop ml_X10_215 (c_X10_drop l g _ o13) (ho_199 _ _) rfl rfl (Nat.le_of_ble_eq_true rfl) (Nat.le_of_ble_eq_true rfl) (Nat.le_of_ble_eq_true rfl) (Nat.le_of_ble_eq_true rfl) rfl (Nat.le_of_ble_eq_true rfl) dX10_ends_192 rfl (fun r14 hr14 pr14 => ?_)
      obtain ⟨rfl, rfl⟩ := pr14
      refine g_aload_n dX10_ends_195 rfl rfl rfl ?_
      refine g_aload_n dX10_ends_196 rfl rfl rfl ?_
      refine g_get gClX10 31 (by decide) fl_X10_221 dX10_ends_197 (ho_199 _ _) rfl rfl ?_
      refine g_ifeq (tgt := 216) dX10_ends_200 (by decide) rfl (fun c16 => ?_) (fun c16 => ?_)
      · replace hF := ite_p hF c16
        try replace hQ := ite_q hQ c16
        refine g_iconst (v := 0) dX10_ends_216 (by decide) rfl ?_
        refine g_put gClX10 31 (by decide) fl_X10_221 rfl dX10_ends_217 (ho_199 _ _) rfl rfl (Nat.le_of_ble_eq_true rfl) po_199_31 rfl ?_
        refine g_aload_n dX10_ends_220 rfl rfl rfl ?_
        refine g_iconst (v := 2) dX10_ends_221 (by decide) rfl ?_
        refine g_iconst (v := 5) dX10_ends_222 (by decide) rfl ?_
        refine g_callv mv_X10_insideTo ml_X10_325 (c_X10_insideTo l g _ _) (ho_199 _ _) rfl rfl (Nat.le_of_ble_eq_true rfl) (Nat.le_of_ble_eq_true rfl) (Nat.le_of_ble_eq_true rfl) (Nat.le_of_ble_eq_true rfl) rfl (Nat.le_of_ble_eq_true rfl) dX10_ends_223 rfl (fun r18 hr18 pr18 => ?_)
        obtain ⟨rfl, rfl⟩ := pr18
        subst hF
        exact g_vret rfl dX10_ends_226 (Nat.le_of_ble_eq_true rfl) (Nat.le_of_ble_eq_true rfl) ⟨rfl, rfl⟩
      · replace hF := ite_n hF c16
        try replace hQ := ite_r hQ c16
        refine g_aload_n dX10_ends_203 rfl rfl rfl ?_
        refine g_get gClX10 29 (by decide) fl_X10_202 dX10_ends_204 (ho_199 _ _) rfl rfl ?_
        refine g_bipush (v := 64) dX10_ends_207 (by decide) rfl ?_
        refine g_icmplt (tgt := 216) dX10_ends_209 (by decide) rfl (fun c20 => ?_) (fun c20 => ?_)
        · replace hF := ite_p hF c20
          try replace hQ := ite_q hQ c20
          refine g_iconst (v := 0) dX10_ends_216 (by decide) rfl ?_
          refine g_put gClX10 31 (by decide) fl_X10_221 rfl dX10_ends_217 (ho_199 _ _) rfl rfl (Nat.le_of_ble_eq_true rfl) po_199_31 rfl ?_
          refine g_aload_n dX10_ends_220 rfl rfl rfl ?_
          refine g_iconst (v := 2) dX10_ends_221 (by decide) rfl ?_
          refine g_iconst (v := 5) dX10_ends_222 (by decide) rfl ?_
          refine g_callv mv_X10_insideTo ml_X10_325 (c_X10_insideTo l g _ _) (ho_199 _ _) rfl rfl (Nat.le_of_ble_eq_true rfl) (Nat.le_of_ble_eq_true rfl) (Nat.le_of_ble_eq_true rfl) (Nat.le_of_ble_eq_true rfl) rfl (Nat.le_of_ble_eq_true rfl) dX10_ends_223 rfl (fun r22 hr22 pr22 => ?_)
          obtain ⟨rfl, rfl⟩ := pr22
          subst hF
          exact g_vret rfl dX10_ends_226 (Nat.le_of_ble_eq_true rfl) (Nat.le_of_ble_eq_true rfl) ⟨rfl, rfl⟩
        · replace hF := ite_n hF c20
          try replace hQ := ite_r hQ c20
          refine g_iconst (v := 1) dX10_ends_212 (by decide) rfl ?_
          refine g_goto (tgt := 217) dX10_ends_213 (by decide) ?_
          refine g_put gClX10 31 (by decide) fl_X10_221 rfl dX10_ends_217 (ho_199 _ _) rfl rfl (Nat.le_of_ble_eq_true rfl) po_199_31 rfl ?_
          refine g_aload_n dX10_ends_220 rfl rfl rfl ?_
          refine g_iconst (v := 2) dX10_ends_221 (by decide) rfl ?_
          refine g_iconst (v := 5) dX10_ends_222 (by decide) rfl ?_
          refine g_callv mv_X10_insideTo ml_X10_325 (c_X10_insideTo l g _ _) (ho_199 _ _) rfl rfl (Nat.le_of_ble_eq_true rfl) (Nat.le_of_ble_eq_true rfl) (Nat.le_of_ble_eq_true rfl) (Nat.le_of_ble_eq_true rfl) rfl (Nat.le_of_ble_eq_true rfl) dX10_ends_223 rfl (fun r25 hr25 pr25 => ?_)
          obtain ⟨rfl, rfl⟩ := pr25
          subst hF
          exact g_vret rfl dX10_ends_226 (Nat.le_of_ble_eq_true rfl) (Nat.le_of_ble_eq_true rfl) ⟨rfl, rfl⟩
    · replace hF := ite_n hF c12
      try replace hQ := ite_r hQ c12
      refine g_aload_n dX10_ends_172 rfl rfl rfl ?_
      refine g_iload dX10_ends_173 rfl rfl ?_
      have o27 := hQ.1
      replace hQ := hQ.2
      refine g_callv mv_X10_numberOf ml_X10_361 (c_X10_numberOf l g _ o27) (ho_199 _ _) rfl rfl (Nat.le_of_ble_eq_true rfl) (Nat.le_of_ble_eq_true rfl) (Nat.le_of_ble_eq_true rfl) (Nat.le_of_ble_eq_true rfl) rfl (Nat.le_of_ble_eq_true rfl) dX10_ends_175 rfl (fun r28 hr28 pr28 => ?_)
      obtain ⟨rfl, rfl⟩ := pr28
      refine g_lload_n dX10_ends_178 rfl rfl rfl ?_
      refine g_lcmp dX10_ends_179 rfl ?_
      refine g_ifgt (tgt := 189) dX10_ends_180 (by decide) rfl (fun c29 => ?_) (fun c29 => ?_)
      · replace hF := ite_p hF c29
        try replace hQ := ite_q hQ c29
        refine g_aload_n dX10_ends_189 rfl rfl rfl ?_
        refine g_iload dX10_ends_190 rfl rfl ?_
        have o30 := hQ.1
        replace hQ := hQ.2
        refine g_callv mv_X10_drop ml_X10_215 (c_X10_drop l g _ o30) (ho_199 _ _) rfl rfl (Nat.le_of_ble_eq_true rfl) (Nat.le_of_ble_eq_true rfl) (Nat.le_of_ble_eq_true rfl) (Nat.le_of_ble_eq_true rfl) rfl (Nat.le_of_ble_eq_true rfl) dX10_ends_192 rfl (fun r31 hr31 pr31 => ?_)
        obtain ⟨rfl, rfl⟩ := pr31
        refine g_aload_n dX10_ends_195 rfl rfl rfl ?_
        refine g_aload_n dX10_ends_196 rfl rfl rfl ?_
        refine g_get gClX10 31 (by decide) fl_X10_221 dX10_ends_197 (ho_199 _ _) rfl rfl ?_
        refine g_ifeq (tgt := 216) dX10_ends_200 (by decide) rfl (fun c33 => ?_) (fun c33 => ?_)
        · replace hF := ite_p hF c33
          try replace hQ := ite_q hQ c33
          refine g_iconst (v := 0) dX10_ends_216 (by decide) rfl ?_
          refine g_put gClX10 31 (by decide) fl_X10_221 rfl dX10_ends_217 (ho_199 _ _) rfl rfl (Nat.le_of_ble_eq_true rfl) po_199_31 rfl ?_
          refine g_aload_n dX10_ends_220 rfl rfl rfl ?_
          refine g_iconst (v := 2) dX10_ends_221 (by decide) rfl ?_
          refine g_iconst (v := 5) dX10_ends_222 (by decide) rfl ?_
          refine g_callv mv_X10_insideTo ml_X10_325 (c_X10_insideTo l g _ _) (ho_199 _ _) rfl rfl (Nat.le_of_ble_eq_true rfl) (Nat.le_of_ble_eq_true rfl) (Nat.le_of_ble_eq_true rfl) (Nat.le_of_ble_eq_true rfl) rfl (Nat.le_of_ble_eq_true rfl) dX10_ends_223 rfl (fun r35 hr35 pr35 => ?_)
          obtain ⟨rfl, rfl⟩ := pr35
          subst hF
          exact g_vret rfl dX10_ends_226 (Nat.le_of_ble_eq_true rfl) (Nat.le_of_ble_eq_true rfl) ⟨rfl, rfl⟩
        · replace hF := ite_n hF c33
          try replace hQ := ite_r hQ c33
          refine g_aload_n dX10_ends_203 rfl rfl rfl ?_
          refine g_get gClX10 29 (by decide) fl_X10_202 dX10_ends_204 (ho_199 _ _) rfl rfl ?_
          refine g_bipush (v := 64) dX10_ends_207 (by decide) rfl ?_
          refine g_icmplt (tgt := 216) dX10_ends_209 (by decide) rfl (fun c37 => ?_) (fun c37 => ?_)
          · replace hF := ite_p hF c37
            try replace hQ := ite_q hQ c37
            refine g_iconst (v := 0) dX10_ends_216 (by decide) rfl ?_
            refine g_put gClX10 31 (by decide) fl_X10_221 rfl dX10_ends_217 (ho_199 _ _) rfl rfl (Nat.le_of_ble_eq_true rfl) po_199_31 rfl ?_
            refine g_aload_n dX10_ends_220 rfl rfl rfl ?_
            refine g_iconst (v := 2) dX10_ends_221 (by decide) rfl ?_
            refine g_iconst (v := 5) dX10_ends_222 (by decide) rfl ?_
            refine g_callv mv_X10_insideTo ml_X10_325 (c_X10_insideTo l g _ _) (ho_199 _ _) rfl rfl (Nat.le_of_ble_eq_true rfl) (Nat.le_of_ble_eq_true rfl) (Nat.le_of_ble_eq_true rfl) (Nat.le_of_ble_eq_true rfl) rfl (Nat.le_of_ble_eq_true rfl) dX10_ends_223 rfl (fun r39 hr39 pr39 => ?_)
            obtain ⟨rfl, rfl⟩ := pr39
            subst hF
            exact g_vret rfl dX10_ends_226 (Nat.le_of_ble_eq_true rfl) (Nat.le_of_ble_eq_true rfl) ⟨rfl, rfl⟩
          · replace hF := ite_n hF c37
            try replace hQ := ite_r hQ c37
            refine g_iconst (v := 1) dX10_ends_212 (by decide) rfl ?_
            refine g_goto (tgt := 217) dX10_ends_213 (by decide) ?_
            refine g_put gClX10 31 (by decide) fl_X10_221 rfl dX10_ends_217 (ho_199 _ _) rfl rfl (Nat.le_of_ble_eq_true rfl) po_199_31 rfl ?_
            refine g_aload_n dX10_ends_220 rfl rfl rfl ?_
            refine g_iconst (v := 2) dX10_ends_221 (by decide) rfl ?_
            refine g_iconst (v := 5) dX10_ends_222 (by decide) rfl ?_
            refine g_callv mv_X10_insideTo ml_X10_325 (c_X10_insideTo l g _ _) (ho_199 _ _) rfl rfl (Nat.le_of_ble_eq_true rfl) (Nat.le_of_ble_eq_true rfl) (Nat.le_of_ble_eq_true rfl) (Nat.le_of_ble_eq_true rfl) rfl (Nat.le_of_ble_eq_true rfl) dX10_ends_223 rfl (fun r42 hr42 pr42 => ?_)
            obtain ⟨rfl, rfl⟩ := pr42
            subst hF
            exact g_vret rfl dX10_ends_226 (Nat.le_of_ble_eq_true rfl) (Nat.le_of_ble_eq_true rfl) ⟨rfl, rfl⟩
      · replace hF := ite_n hF c29
        try replace hQ := ite_r hQ c29
        refine g_iincL (L1 := [(0, _), (1, _), (2, _), (3, _), (5, _)]) dX10_ends_183 rfl (by decide) rfl rfl ?_
        refine g_goto (tgt := 163) dX10_ends_186 (by decide) ?_
        refine g_sub [0, 1, 2, 3, 4] rfl ?_
        exact ihL163 _ _ _ _ _ hQ hF
noncomputable def G_X10_ends_L71 (p0 : Int32) : Nat → Int32 → Int32 → gS → gQ → gS × gQ
  | 0, _, _, σ, ζ => (σ, ζ)
  | n + 1, y2, y3, σ, ζ =>
    if ((16 : Int32) * (σ 199 50)) ≤ y3 then
      if y2 = 0 then
        let f46 := (F_X10_put_ σ ζ (58 : Int32) (1 : Int32) p0)
        if f46.1 = 0 then
          (f46.2.1, f46.2.2)
        else
          let s49 := (F_X10_insideTo f46.2.1 (2 : Int32) (11 : Int32))
          (s49, f46.2.2)
      else
        let v7 := (F_X10_numberOf σ ((σ 199 50) - (1 : Int32)))
        let f10 := (F_X10_put_ σ ζ (57 : Int32) (0 : Int32) p0)
        if f10.1 = 0 then
          (f10.2.1, f10.2.2)
        else
          G_X10_ends_L163 p0 4000 y2 v7 (0 : Int32) f10.2.1 f10.2.2
    else
      if y2 = 0 then
        if y2 = 0 then
          let f61 := (F_X10_put_ σ ζ (58 : Int32) (1 : Int32) p0)
          if f61.1 = 0 then
            (f61.2.1, f61.2.2)
          else
            let s64 := (F_X10_insideTo f61.2.1 (2 : Int32) (11 : Int32))
            (s64, f61.2.2)
        else
          let v54 := (F_X10_numberOf σ ((σ 199 50) - (1 : Int32)))
          let f57 := (F_X10_put_ σ ζ (57 : Int32) (0 : Int32) p0)
          if f57.1 = 0 then
            (f57.2.1, f57.2.2)
          else
            G_X10_ends_L163 p0 4000 y2 v54 (0 : Int32) f57.2.1 f57.2.2
      else
        if (σ 216 (ix y3)) = (σ 218 (ix ((1 : Int32) + y3))) then
          G_X10_ends_L71 p0 n (1 : Int32) (y3 + Int32.ofInt (1)) σ ζ
        else
          G_X10_ends_L71 p0 n (0 : Int32) (y3 + Int32.ofInt (1)) σ ζ
def QG_X10_ends_L71 (p0 : Int32) : Nat → Int32 → Int32 → gS → gQ → Prop
  | 0, _, _, _, _ => False
  | n + 1, y2, y3, σ, ζ =>
    if ((16 : Int32) * (σ 199 50)) ≤ y3 then
      (if y2 = 0 then
        ((Q_X10_put_ σ ζ (58 : Int32) (1 : Int32) p0) ∧ (let f46 := (F_X10_put_ σ ζ (58 : Int32) (1 : Int32) p0)
        if f46.1 = 0 then
          (True)
        else
          (let s49 := (F_X10_insideTo f46.2.1 (2 : Int32) (11 : Int32))
          True)))
      else
        ((Q_X10_numberOf σ ((σ 199 50) - (1 : Int32))) ∧ (let v7 := (F_X10_numberOf σ ((σ 199 50) - (1 : Int32)))
        (Q_X10_put_ σ ζ (57 : Int32) (0 : Int32) p0) ∧ (let f10 := (F_X10_put_ σ ζ (57 : Int32) (0 : Int32) p0)
        if f10.1 = 0 then
          (True)
        else
          (QG_X10_ends_L163 p0 4000 y2 v7 (0 : Int32) f10.2.1 f10.2.2)))))
    else
      (if y2 = 0 then
        (if y2 = 0 then
          ((Q_X10_put_ σ ζ (58 : Int32) (1 : Int32) p0) ∧ (let f61 := (F_X10_put_ σ ζ (58 : Int32) (1 : Int32) p0)
          if f61.1 = 0 then
            (True)
          else
            (let s64 := (F_X10_insideTo f61.2.1 (2 : Int32) (11 : Int32))
            True)))
        else
          ((Q_X10_numberOf σ ((σ 199 50) - (1 : Int32))) ∧ (let v54 := (F_X10_numberOf σ ((σ 199 50) - (1 : Int32)))
          (Q_X10_put_ σ ζ (57 : Int32) (0 : Int32) p0) ∧ (let f57 := (F_X10_put_ σ ζ (57 : Int32) (0 : Int32) p0)
          if f57.1 = 0 then
            (True)
          else
            (QG_X10_ends_L163 p0 4000 y2 v54 (0 : Int32) f57.2.1 f57.2.2)))))
      else
        (vp_in y3 1552 ∧ (vp_in ((1 : Int32) + y3) 385 ∧ (if (σ 216 (ix y3)) = (σ 218 (ix ((1 : Int32) + y3))) then
          (QG_X10_ends_L71 p0 n (1 : Int32) (y3 + Int32.ofInt (1)) σ ζ)
        else
          (QG_X10_ends_L71 p0 n (0 : Int32) (y3 + Int32.ofInt (1)) σ ζ)))))
set_option maxHeartbeats 4000000 in
set_option maxRecDepth 100000 in
theorem t_X10_ends_L71 (l : Launch) (g : gE) {p0 : Int32} {fr : gS × gQ} : ∀ (n : Nat) (y2 : Int32) (y3 : Int32) (σ : gS) (ζ : gQ), QG_X10_ends_L71 p0 n y2 y3 σ ζ → G_X10_ends_L71 p0 n y2 y3 σ ζ = fr → gG l g mX10_ends (rm 7 203) (gZm g (rm 7 203) (fun r h => r = none ∧ h = hp fr.1 fr.2)) 71 [(0, .ref 199), (1, .int p0), (2, .int y2), (3, .int y3)] [] (hp σ ζ) 0 0 := by
  intro n
  induction n with
  | zero => intro y2 y3 σ ζ hQ; exact absurd hQ (by unfold QG_X10_ends_L71; exact id)
  | succ n ihL71 =>
    intro y2 y3 σ ζ hQ hF
    unfold G_X10_ends_L71 at hF
    unfold QG_X10_ends_L71 at hQ
    refine g_iload_n dX10_ends_71 rfl rfl rfl ?_
    refine g_bipush (v := 16) dX10_ends_72 (by decide) rfl ?_
    refine g_aload_n dX10_ends_74 rfl rfl rfl ?_
    refine g_get gClX10 50 (by decide) fl_X10_355 dX10_ends_75 (ho_199 _ _) rfl rfl ?_
    refine g_imul dX10_ends_78 rfl ?_
    refine g_icmpge (tgt := 115) dX10_ends_79 (by decide) rfl (fun c3 => ?_) (fun c3 => ?_)
    · replace hF := ite_p hF c3
      try replace hQ := ite_q hQ c3
      refine g_iload_n dX10_ends_115 rfl rfl rfl ?_
      refine g_ifne (tgt := 138) dX10_ends_116 (by decide) rfl (fun c4 => ?_) (fun c4 => ?_)
      · replace hF := ite_n hF c4
        try replace hQ := ite_r hQ c4
        refine g_aload_n dX10_ends_138 rfl rfl rfl ?_
        refine g_aload_n dX10_ends_139 rfl rfl rfl ?_
        refine g_get gClX10 50 (by decide) fl_X10_355 dX10_ends_140 (ho_199 _ _) rfl rfl ?_
        refine g_iconst (v := 1) dX10_ends_143 (by decide) rfl ?_
        refine g_isub dX10_ends_144 rfl ?_
        have o5 := hQ.1
        replace hQ := hQ.2
        refine g_callv mv_X10_numberOf ml_X10_361 (c_X10_numberOf l g _ o5) (ho_199 _ _) rfl rfl (Nat.le_of_ble_eq_true rfl) (Nat.le_of_ble_eq_true rfl) (Nat.le_of_ble_eq_true rfl) (Nat.le_of_ble_eq_true rfl) rfl (Nat.le_of_ble_eq_true rfl) dX10_ends_145 rfl (fun r6 hr6 pr6 => ?_)
        obtain ⟨rfl, rfl⟩ := pr6
        refine g_lstoreL_n (L1 := [(0, _), (1, _), (2, _), (3, _)]) dX10_ends_148 rfl (by decide) rfl rfl ?_
        refine g_aload_n dX10_ends_149 rfl rfl rfl ?_
        refine g_bipush (v := 57) dX10_ends_150 (by decide) rfl ?_
        refine g_iconst (v := 0) dX10_ends_152 (by decide) rfl ?_
        refine g_iload_n dX10_ends_153 rfl rfl rfl ?_
        have o8 := hQ.1
        replace hQ := hQ.2
        refine g_callv mv_X10_put_ ml_X10_239 (c_X10_put_ l g _ _ _ o8) (ho_199 _ _) rfl rfl (Nat.le_of_ble_eq_true rfl) (Nat.le_of_ble_eq_true rfl) (Nat.le_of_ble_eq_true rfl) (Nat.le_of_ble_eq_true rfl) rfl (Nat.le_of_ble_eq_true rfl) dX10_ends_154 rfl (fun r9 hr9 pr9 => ?_)
        obtain ⟨rfl, rfl⟩ := pr9
        refine g_ifeq (tgt := 226) dX10_ends_157 (by decide) rfl (fun c11 => ?_) (fun c11 => ?_)
        · replace hF := ite_p hF c11
          try replace hQ := ite_q hQ c11
          subst hF
          exact g_vret rfl dX10_ends_226 (Nat.le_of_ble_eq_true rfl) (Nat.le_of_ble_eq_true rfl) ⟨rfl, rfl⟩
        · replace hF := ite_n hF c11
          try replace hQ := ite_r hQ c11
          refine g_iconst (v := 0) dX10_ends_160 (by decide) rfl ?_
          refine g_istoreL (L1 := [(0, _), (1, _), (2, _), (3, _), (5, _)]) dX10_ends_161 (by decide) rfl rfl ?_
          refine g_sub [0, 1, 2, 3, 4] rfl ?_
          exact t_X10_ends_L163 l g 4000 _ _ _ _ _ hQ hF
      · replace hF := ite_p hF c4
        try replace hQ := ite_q hQ c4
        refine g_aload_n dX10_ends_119 rfl rfl rfl ?_
        refine g_bipush (v := 58) dX10_ends_120 (by decide) rfl ?_
        refine g_iconst (v := 1) dX10_ends_122 (by decide) rfl ?_
        refine g_iload_n dX10_ends_123 rfl rfl rfl ?_
        have o44 := hQ.1
        replace hQ := hQ.2
        refine g_callv mv_X10_put_ ml_X10_239 (c_X10_put_ l g _ _ _ o44) (ho_199 _ _) rfl rfl (Nat.le_of_ble_eq_true rfl) (Nat.le_of_ble_eq_true rfl) (Nat.le_of_ble_eq_true rfl) (Nat.le_of_ble_eq_true rfl) rfl (Nat.le_of_ble_eq_true rfl) dX10_ends_124 rfl (fun r45 hr45 pr45 => ?_)
        obtain ⟨rfl, rfl⟩ := pr45
        refine g_ifeq (tgt := 137) dX10_ends_127 (by decide) rfl (fun c47 => ?_) (fun c47 => ?_)
        · replace hF := ite_p hF c47
          try replace hQ := ite_q hQ c47
          subst hF
          exact g_vret rfl dX10_ends_137 (Nat.le_of_ble_eq_true rfl) (Nat.le_of_ble_eq_true rfl) ⟨rfl, rfl⟩
        · replace hF := ite_n hF c47
          try replace hQ := ite_r hQ c47
          refine g_aload_n dX10_ends_130 rfl rfl rfl ?_
          refine g_iconst (v := 2) dX10_ends_131 (by decide) rfl ?_
          refine g_bipush (v := 11) dX10_ends_132 (by decide) rfl ?_
          refine g_callv mv_X10_insideTo ml_X10_325 (c_X10_insideTo l g _ _) (ho_199 _ _) rfl rfl (Nat.le_of_ble_eq_true rfl) (Nat.le_of_ble_eq_true rfl) (Nat.le_of_ble_eq_true rfl) (Nat.le_of_ble_eq_true rfl) rfl (Nat.le_of_ble_eq_true rfl) dX10_ends_134 rfl (fun r48 hr48 pr48 => ?_)
          obtain ⟨rfl, rfl⟩ := pr48
          subst hF
          exact g_vret rfl dX10_ends_137 (Nat.le_of_ble_eq_true rfl) (Nat.le_of_ble_eq_true rfl) ⟨rfl, rfl⟩
    · replace hF := ite_n hF c3
      try replace hQ := ite_r hQ c3
      refine g_iload_n dX10_ends_82 rfl rfl rfl ?_
      refine g_ifeq (tgt := 115) dX10_ends_83 (by decide) rfl (fun c50 => ?_) (fun c50 => ?_)
      · replace hF := ite_p hF c50
        try replace hQ := ite_q hQ c50
        refine g_iload_n dX10_ends_115 rfl rfl rfl ?_
        refine g_ifne (tgt := 138) dX10_ends_116 (by decide) rfl (fun c51 => ?_) (fun c51 => ?_)
        · replace hF := ite_n hF c51
          try replace hQ := ite_r hQ c51
          refine g_aload_n dX10_ends_138 rfl rfl rfl ?_
          refine g_aload_n dX10_ends_139 rfl rfl rfl ?_
          refine g_get gClX10 50 (by decide) fl_X10_355 dX10_ends_140 (ho_199 _ _) rfl rfl ?_
          refine g_iconst (v := 1) dX10_ends_143 (by decide) rfl ?_
          refine g_isub dX10_ends_144 rfl ?_
          have o52 := hQ.1
          replace hQ := hQ.2
          refine g_callv mv_X10_numberOf ml_X10_361 (c_X10_numberOf l g _ o52) (ho_199 _ _) rfl rfl (Nat.le_of_ble_eq_true rfl) (Nat.le_of_ble_eq_true rfl) (Nat.le_of_ble_eq_true rfl) (Nat.le_of_ble_eq_true rfl) rfl (Nat.le_of_ble_eq_true rfl) dX10_ends_145 rfl (fun r53 hr53 pr53 => ?_)
          obtain ⟨rfl, rfl⟩ := pr53
          refine g_lstoreL_n (L1 := [(0, _), (1, _), (2, _), (3, _)]) dX10_ends_148 rfl (by decide) rfl rfl ?_
          refine g_aload_n dX10_ends_149 rfl rfl rfl ?_
          refine g_bipush (v := 57) dX10_ends_150 (by decide) rfl ?_
          refine g_iconst (v := 0) dX10_ends_152 (by decide) rfl ?_
          refine g_iload_n dX10_ends_153 rfl rfl rfl ?_
          have o55 := hQ.1
          replace hQ := hQ.2
          refine g_callv mv_X10_put_ ml_X10_239 (c_X10_put_ l g _ _ _ o55) (ho_199 _ _) rfl rfl (Nat.le_of_ble_eq_true rfl) (Nat.le_of_ble_eq_true rfl) (Nat.le_of_ble_eq_true rfl) (Nat.le_of_ble_eq_true rfl) rfl (Nat.le_of_ble_eq_true rfl) dX10_ends_154 rfl (fun r56 hr56 pr56 => ?_)
          obtain ⟨rfl, rfl⟩ := pr56
          refine g_ifeq (tgt := 226) dX10_ends_157 (by decide) rfl (fun c58 => ?_) (fun c58 => ?_)
          · replace hF := ite_p hF c58
            try replace hQ := ite_q hQ c58
            subst hF
            exact g_vret rfl dX10_ends_226 (Nat.le_of_ble_eq_true rfl) (Nat.le_of_ble_eq_true rfl) ⟨rfl, rfl⟩
          · replace hF := ite_n hF c58
            try replace hQ := ite_r hQ c58
            refine g_iconst (v := 0) dX10_ends_160 (by decide) rfl ?_
            refine g_istoreL (L1 := [(0, _), (1, _), (2, _), (3, _), (5, _)]) dX10_ends_161 (by decide) rfl rfl ?_
            refine g_sub [0, 1, 2, 3, 4] rfl ?_
            exact t_X10_ends_L163 l g 4000 _ _ _ _ _ hQ hF
        · replace hF := ite_p hF c51
          try replace hQ := ite_q hQ c51
          refine g_aload_n dX10_ends_119 rfl rfl rfl ?_
          refine g_bipush (v := 58) dX10_ends_120 (by decide) rfl ?_
          refine g_iconst (v := 1) dX10_ends_122 (by decide) rfl ?_
          refine g_iload_n dX10_ends_123 rfl rfl rfl ?_
          have o59 := hQ.1
          replace hQ := hQ.2
          refine g_callv mv_X10_put_ ml_X10_239 (c_X10_put_ l g _ _ _ o59) (ho_199 _ _) rfl rfl (Nat.le_of_ble_eq_true rfl) (Nat.le_of_ble_eq_true rfl) (Nat.le_of_ble_eq_true rfl) (Nat.le_of_ble_eq_true rfl) rfl (Nat.le_of_ble_eq_true rfl) dX10_ends_124 rfl (fun r60 hr60 pr60 => ?_)
          obtain ⟨rfl, rfl⟩ := pr60
          refine g_ifeq (tgt := 137) dX10_ends_127 (by decide) rfl (fun c62 => ?_) (fun c62 => ?_)
          · replace hF := ite_p hF c62
            try replace hQ := ite_q hQ c62
            subst hF
            exact g_vret rfl dX10_ends_137 (Nat.le_of_ble_eq_true rfl) (Nat.le_of_ble_eq_true rfl) ⟨rfl, rfl⟩
          · replace hF := ite_n hF c62
            try replace hQ := ite_r hQ c62
            refine g_aload_n dX10_ends_130 rfl rfl rfl ?_
            refine g_iconst (v := 2) dX10_ends_131 (by decide) rfl ?_
            refine g_bipush (v := 11) dX10_ends_132 (by decide) rfl ?_
            refine g_callv mv_X10_insideTo ml_X10_325 (c_X10_insideTo l g _ _) (ho_199 _ _) rfl rfl (Nat.le_of_ble_eq_true rfl) (Nat.le_of_ble_eq_true rfl) (Nat.le_of_ble_eq_true rfl) (Nat.le_of_ble_eq_true rfl) rfl (Nat.le_of_ble_eq_true rfl) dX10_ends_134 rfl (fun r63 hr63 pr63 => ?_)
            obtain ⟨rfl, rfl⟩ := pr63
            subst hF
            exact g_vret rfl dX10_ends_137 (Nat.le_of_ble_eq_true rfl) (Nat.le_of_ble_eq_true rfl) ⟨rfl, rfl⟩
      · replace hF := ite_n hF c50
        try replace hQ := ite_r hQ c50
        refine g_aload_n dX10_ends_86 rfl rfl rfl ?_
        refine g_get gClX10 28 (by decide) fl_X10_60 dX10_ends_87 (ho_199 _ _) rfl rfl ?_
        refine g_iload_n dX10_ends_90 rfl rfl rfl ?_
        have o65 := hQ.1
        replace hQ := hQ.2
        refine g_bald (ha_216 _ _) o65 dX10_ends_91 rfl ?_
        refine g_aload_n dX10_ends_92 rfl rfl rfl ?_
        refine g_get gClX10 51 (by decide) fl_X10_66 dX10_ends_93 (ho_199 _ _) rfl rfl ?_
        refine g_iconst (v := 1) dX10_ends_96 (by decide) rfl ?_
        refine g_iload_n dX10_ends_97 rfl rfl rfl ?_
        refine g_iadd dX10_ends_98 rfl ?_
        have o66 := hQ.1
        replace hQ := hQ.2
        refine g_bald (ha_218 _ _) o66 dX10_ends_99 rfl ?_
        refine g_icmpne (tgt := 107) dX10_ends_100 (by decide) rfl (fun c67 => ?_) (fun c67 => ?_)
        · replace hF := ite_n hF c67
          try replace hQ := ite_r hQ c67
          refine g_iconst (v := 0) dX10_ends_107 (by decide) rfl ?_
          refine g_istoreL_n (L1 := [(0, _), (1, _), (2, _), (3, _)]) dX10_ends_108 rfl (by decide) rfl rfl ?_
          refine g_iincL (L1 := [(0, _), (1, _), (2, _), (3, _)]) dX10_ends_109 rfl (by decide) rfl rfl ?_
          refine g_goto (tgt := 71) dX10_ends_112 (by decide) ?_
          refine g_sub [0, 1, 2, 3] rfl ?_
          exact ihL71 _ _ _ _ hQ hF
        · replace hF := ite_p hF c67
          try replace hQ := ite_q hQ c67
          refine g_iconst (v := 1) dX10_ends_103 (by decide) rfl ?_
          refine g_goto (tgt := 108) dX10_ends_104 (by decide) ?_
          refine g_istoreL_n (L1 := [(0, _), (1, _), (2, _), (3, _)]) dX10_ends_108 rfl (by decide) rfl rfl ?_
          refine g_iincL (L1 := [(0, _), (1, _), (2, _), (3, _)]) dX10_ends_109 rfl (by decide) rfl rfl ?_
          refine g_goto (tgt := 71) dX10_ends_112 (by decide) ?_
          refine g_sub [0, 1, 2, 3] rfl ?_
          exact ihL71 _ _ _ _ hQ hF
noncomputable def G_X10_ends_L30 (p0 : Int32) : Nat → Int32 → Int32 → gS → gQ → gS × gQ
  | 0, _, _, σ, ζ => (σ, ζ)
  | n + 1, y2, y3, σ, ζ =>
    if (σ 199 52) ≤ y3 then
      G_X10_ends_L71 p0 4000 y2 (0 : Int32) σ ζ
    else
      if y2 = 0 then
        G_X10_ends_L71 p0 4000 y2 (0 : Int32) σ ζ
      else
        if (σ 215 (ix y3)) = (σ 218 (ix y3)) then
          G_X10_ends_L30 p0 n (1 : Int32) (y3 + Int32.ofInt (1)) σ ζ
        else
          G_X10_ends_L30 p0 n (0 : Int32) (y3 + Int32.ofInt (1)) σ ζ
def QG_X10_ends_L30 (p0 : Int32) : Nat → Int32 → Int32 → gS → gQ → Prop
  | 0, _, _, _, _ => False
  | n + 1, y2, y3, σ, ζ =>
    if (σ 199 52) ≤ y3 then
      (QG_X10_ends_L71 p0 4000 y2 (0 : Int32) σ ζ)
    else
      (if y2 = 0 then
        (QG_X10_ends_L71 p0 4000 y2 (0 : Int32) σ ζ)
      else
        (vp_in y3 400 ∧ (vp_in y3 385 ∧ (if (σ 215 (ix y3)) = (σ 218 (ix y3)) then
          (QG_X10_ends_L30 p0 n (1 : Int32) (y3 + Int32.ofInt (1)) σ ζ)
        else
          (QG_X10_ends_L30 p0 n (0 : Int32) (y3 + Int32.ofInt (1)) σ ζ)))))
set_option maxHeartbeats 4000000 in
set_option maxRecDepth 100000 in
theorem t_X10_ends_L30 (l : Launch) (g : gE) {p0 : Int32} {fr : gS × gQ} : ∀ (n : Nat) (y2 : Int32) (y3 : Int32) (σ : gS) (ζ : gQ), QG_X10_ends_L30 p0 n y2 y3 σ ζ → G_X10_ends_L30 p0 n y2 y3 σ ζ = fr → gG l g mX10_ends (rm 7 203) (gZm g (rm 7 203) (fun r h => r = none ∧ h = hp fr.1 fr.2)) 30 [(0, .ref 199), (1, .int p0), (2, .int y2), (3, .int y3)] [] (hp σ ζ) 0 0 := by
  intro n
  induction n with
  | zero => intro y2 y3 σ ζ hQ; exact absurd hQ (by unfold QG_X10_ends_L30; exact id)
  | succ n ihL30 =>
    intro y2 y3 σ ζ hQ hF
    unfold G_X10_ends_L30 at hF
    unfold QG_X10_ends_L30 at hQ
    refine g_iload_n dX10_ends_30 rfl rfl rfl ?_
    refine g_aload_n dX10_ends_31 rfl rfl rfl ?_
    refine g_get gClX10 52 (by decide) fl_X10_358 dX10_ends_32 (ho_199 _ _) rfl rfl ?_
    refine g_icmpge (tgt := 69) dX10_ends_35 (by decide) rfl (fun c2 => ?_) (fun c2 => ?_)
    · replace hF := ite_p hF c2
      try replace hQ := ite_q hQ c2
      refine g_iconst (v := 0) dX10_ends_69 (by decide) rfl ?_
      refine g_istoreL_n (L1 := [(0, _), (1, _), (2, _), (3, _)]) dX10_ends_70 rfl (by decide) rfl rfl ?_
      refine g_sub [0, 1, 2, 3] rfl ?_
      exact t_X10_ends_L71 l g 4000 _ _ _ _ hQ hF
    · replace hF := ite_n hF c2
      try replace hQ := ite_r hQ c2
      refine g_iload_n dX10_ends_38 rfl rfl rfl ?_
      refine g_ifeq (tgt := 69) dX10_ends_39 (by decide) rfl (fun c68 => ?_) (fun c68 => ?_)
      · replace hF := ite_p hF c68
        try replace hQ := ite_q hQ c68
        refine g_iconst (v := 0) dX10_ends_69 (by decide) rfl ?_
        refine g_istoreL_n (L1 := [(0, _), (1, _), (2, _), (3, _)]) dX10_ends_70 rfl (by decide) rfl rfl ?_
        refine g_sub [0, 1, 2, 3] rfl ?_
        exact t_X10_ends_L71 l g 4000 _ _ _ _ hQ hF
      · replace hF := ite_n hF c68
        try replace hQ := ite_r hQ c68
        refine g_aload_n dX10_ends_42 rfl rfl rfl ?_
        refine g_get gClX10 24 (by decide) fl_X10_57 dX10_ends_43 (ho_199 _ _) rfl rfl ?_
        refine g_iload_n dX10_ends_46 rfl rfl rfl ?_
        have o69 := hQ.1
        replace hQ := hQ.2
        refine g_bald (ha_215 _ _) o69 dX10_ends_47 rfl ?_
        refine g_aload_n dX10_ends_48 rfl rfl rfl ?_
        refine g_get gClX10 51 (by decide) fl_X10_66 dX10_ends_49 (ho_199 _ _) rfl rfl ?_
        refine g_iload_n dX10_ends_52 rfl rfl rfl ?_
        have o70 := hQ.1
        replace hQ := hQ.2
        refine g_bald (ha_218 _ _) o70 dX10_ends_53 rfl ?_
        refine g_icmpne (tgt := 61) dX10_ends_54 (by decide) rfl (fun c71 => ?_) (fun c71 => ?_)
        · replace hF := ite_n hF c71
          try replace hQ := ite_r hQ c71
          refine g_iconst (v := 0) dX10_ends_61 (by decide) rfl ?_
          refine g_istoreL_n (L1 := [(0, _), (1, _), (2, _), (3, _)]) dX10_ends_62 rfl (by decide) rfl rfl ?_
          refine g_iincL (L1 := [(0, _), (1, _), (2, _), (3, _)]) dX10_ends_63 rfl (by decide) rfl rfl ?_
          refine g_goto (tgt := 30) dX10_ends_66 (by decide) ?_
          refine g_sub [0, 1, 2, 3] rfl ?_
          exact ihL30 _ _ _ _ hQ hF
        · replace hF := ite_p hF c71
          try replace hQ := ite_q hQ c71
          refine g_iconst (v := 1) dX10_ends_57 (by decide) rfl ?_
          refine g_goto (tgt := 62) dX10_ends_58 (by decide) ?_
          refine g_istoreL_n (L1 := [(0, _), (1, _), (2, _), (3, _)]) dX10_ends_62 rfl (by decide) rfl rfl ?_
          refine g_iincL (L1 := [(0, _), (1, _), (2, _), (3, _)]) dX10_ends_63 rfl (by decide) rfl rfl ?_
          refine g_goto (tgt := 30) dX10_ends_66 (by decide) ?_
          refine g_sub [0, 1, 2, 3] rfl ?_
          exact ihL30 _ _ _ _ hQ hF
noncomputable def J_X10_ends_27 (p0 : Int32) (u0 : Int32) (σ : gS) (ζ : gQ) : gS × gQ :=
  G_X10_ends_L30 p0 4000 u0 (0 : Int32) σ ζ
def QJ_X10_ends_27 (p0 : Int32) (u0 : Int32) (σ : gS) (ζ : gQ) : Prop :=
  QG_X10_ends_L30 p0 4000 u0 (0 : Int32) σ ζ
set_option maxHeartbeats 4000000 in
set_option maxRecDepth 100000 in
theorem j_X10_ends_27 (l : Launch) (g : gE) {p0 : Int32} {fr : gS × gQ} : ∀ (u0 : Int32) (σ : gS) (ζ : gQ), QJ_X10_ends_27 p0 u0 σ ζ → J_X10_ends_27 p0 u0 σ ζ = fr → gG l g mX10_ends (rm 7 203) (gZm g (rm 7 203) (fun r h => r = none ∧ h = hp fr.1 fr.2)) 27 [(0, .ref 199), (1, .int p0)] [.int u0] (hp σ ζ) 0 0 := by
  intro u0 σ ζ hQ hF
  unfold J_X10_ends_27 at hF
  unfold QJ_X10_ends_27 at hQ
  refine g_istoreL_n (L1 := [(0, _), (1, _), (2, _)]) dX10_ends_27 rfl (by decide) rfl rfl ?_
  refine g_iconst (v := 0) dX10_ends_28 (by decide) rfl ?_
  refine g_istoreL_n (L1 := [(0, _), (1, _), (2, _), (3, _)]) dX10_ends_29 rfl (by decide) rfl rfl ?_
  refine g_sub [0, 1, 2, 3] rfl ?_
  exact t_X10_ends_L30 l g 4000 _ _ _ _ hQ hF
noncomputable def J_X10_ends_26 (p0 : Int32) (σ : gS) (ζ : gQ) : gS × gQ :=
  J_X10_ends_27 p0 (0 : Int32) σ ζ
def QJ_X10_ends_26 (p0 : Int32) (σ : gS) (ζ : gQ) : Prop :=
  QJ_X10_ends_27 p0 (0 : Int32) σ ζ
set_option maxHeartbeats 4000000 in
set_option maxRecDepth 100000 in
theorem j_X10_ends_26 (l : Launch) (g : gE) {p0 : Int32} {fr : gS × gQ} : ∀ (σ : gS) (ζ : gQ), QJ_X10_ends_26 p0 σ ζ → J_X10_ends_26 p0 σ ζ = fr → gG l g mX10_ends (rm 7 203) (gZm g (rm 7 203) (fun r h => r = none ∧ h = hp fr.1 fr.2)) 26 [(0, .ref 199), (1, .int p0)] [] (hp σ ζ) 0 0 := by
  intro σ ζ hQ hF
  unfold J_X10_ends_26 at hF
  unfold QJ_X10_ends_26 at hQ
  refine g_iconst (v := 0) dX10_ends_26 (by decide) rfl ?_
  refine g_sub [0, 1] rfl ?_
  exact j_X10_ends_27 l g _ _ _ hQ hF
noncomputable def Fr_X10_ends (σ : gS) (ζ : gQ) (p0 : Int32) : gS × gQ :=
  if (σ 199 25) = (σ 199 52) then
    if (σ 199 29) < (σ 199 50) then
      J_X10_ends_26 p0 σ ζ
    else
      J_X10_ends_27 p0 (1 : Int32) σ ζ
  else
    J_X10_ends_26 p0 σ ζ
noncomputable def F_X10_ends : gS → gQ → Int32 → gS × gQ := Classical.choose (⟨Fr_X10_ends, rfl⟩ : ∃ f : gS → gQ → Int32 → gS × gQ, f = Fr_X10_ends)
theorem F_X10_ends_eq : F_X10_ends = Fr_X10_ends := Classical.choose_spec (⟨Fr_X10_ends, rfl⟩ : ∃ f : gS → gQ → Int32 → gS × gQ, f = Fr_X10_ends)
def Q_X10_ends (σ : gS) (ζ : gQ) (p0 : Int32) : Prop :=
  if (σ 199 25) = (σ 199 52) then
    (if (σ 199 29) < (σ 199 50) then
      (QJ_X10_ends_26 p0 σ ζ)
    else
      (QJ_X10_ends_27 p0 (1 : Int32) σ ζ))
  else
    (QJ_X10_ends_26 p0 σ ζ)
set_option maxHeartbeats 4000000 in
set_option maxRecDepth 100000 in
theorem c_X10_ends (l : Launch) (g : gE)  {σ : gS} {ζ : gQ} (p0 : Int32) (hQ : Q_X10_ends σ ζ p0) : gC l g mX10_ends (rm 7 203) [.ref 199, .int p0] (hp σ ζ) (fun r h => r = none ∧ h = hp (F_X10_ends σ ζ p0).1 (F_X10_ends σ ζ p0).2) := by
  refine gC_of (by decide) (Nat.le_of_ble_eq_true rfl) ?_
  generalize hF : (F_X10_ends σ ζ p0) = fr
  rw [F_X10_ends_eq] at hF
  unfold Fr_X10_ends at hF
  unfold Q_X10_ends at hQ
  refine g_aload_n dX10_ends_0 rfl rfl rfl ?_
  refine g_get gClX10 25 (by decide) fl_X10_79 dX10_ends_1 (ho_199 _ _) rfl rfl ?_
  refine g_aload_n dX10_ends_4 rfl rfl rfl ?_
  refine g_get gClX10 52 (by decide) fl_X10_358 dX10_ends_5 (ho_199 _ _) rfl rfl ?_
  refine g_icmpne (tgt := 26) dX10_ends_8 (by decide) rfl (fun c1 => ?_) (fun c1 => ?_)
  · replace hF := ite_n hF c1
    try replace hQ := ite_r hQ c1
    refine g_sub [0, 1] rfl ?_
    exact j_X10_ends_26 l g _ _ hQ hF
  · replace hF := ite_p hF c1
    try replace hQ := ite_q hQ c1
    refine g_aload_n dX10_ends_11 rfl rfl rfl ?_
    refine g_get gClX10 29 (by decide) fl_X10_202 dX10_ends_12 (ho_199 _ _) rfl rfl ?_
    refine g_aload_n dX10_ends_15 rfl rfl rfl ?_
    refine g_get gClX10 50 (by decide) fl_X10_355 dX10_ends_16 (ho_199 _ _) rfl rfl ?_
    refine g_icmplt (tgt := 26) dX10_ends_19 (by decide) rfl (fun c72 => ?_) (fun c72 => ?_)
    · replace hF := ite_p hF c72
      try replace hQ := ite_q hQ c72
      refine g_sub [0, 1] rfl ?_
      exact j_X10_ends_26 l g _ _ hQ hF
    · replace hF := ite_n hF c72
      try replace hQ := ite_r hQ c72
      refine g_iconst (v := 1) dX10_ends_22 (by decide) rfl ?_
      refine g_goto (tgt := 27) dX10_ends_23 (by decide) ?_
      refine g_sub [0, 1] rfl ?_
      exact j_X10_ends_27 l g _ _ _ hQ hF
noncomputable def G_X10_archives_L90 (p0 : Int32) : Nat → Int32 → gS → gQ → gS × gQ
  | 0, _, σ, ζ => (σ, ζ)
  | n + 1, y2, σ, ζ =>
    if (σ 199 52) ≤ y2 then
      let s11 := (pf σ 199 25 (σ 199 52) : gS)
      let s13 := (F_X10_insideTo s11 (6 : Int32) (6 : Int32))
      (s13, ζ)
    else
      let s16 := (pf σ 215 (ix y2) (σ 218 (ix y2)).toInt8.toInt32 : gS)
      G_X10_archives_L90 p0 n (y2 + Int32.ofInt (1)) s16 ζ
def QG_X10_archives_L90 (p0 : Int32) : Nat → Int32 → gS → gQ → Prop
  | 0, _, _, _ => False
  | n + 1, y2, σ, ζ =>
    if (σ 199 52) ≤ y2 then
      (let s11 := (pf σ 199 25 (σ 199 52) : gS)
      let s13 := (F_X10_insideTo s11 (6 : Int32) (6 : Int32))
      True)
    else
      (vp_in y2 385 ∧ (vp_in y2 400 ∧ (let s16 := (pf σ 215 (ix y2) (σ 218 (ix y2)).toInt8.toInt32 : gS)
      QG_X10_archives_L90 p0 n (y2 + Int32.ofInt (1)) s16 ζ)))
set_option maxHeartbeats 4000000 in
set_option maxRecDepth 100000 in
theorem t_X10_archives_L90 (l : Launch) (g : gE) {p0 : Int32} {fr : gS × gQ} : ∀ (n : Nat) (y2 : Int32) (σ : gS) (ζ : gQ), QG_X10_archives_L90 p0 n y2 σ ζ → G_X10_archives_L90 p0 n y2 σ ζ = fr → gG l g mX10_archives (rm 7 203) (gZm g (rm 7 203) (fun r h => r = none ∧ h = hp fr.1 fr.2)) 90 [(0, .ref 199), (2, .int y2)] [] (hp σ ζ) 0 0 := by
  intro n
  induction n with
  | zero => intro y2 σ ζ hQ; exact absurd hQ (by unfold QG_X10_archives_L90; exact id)
  | succ n ihL90 =>
    intro y2 σ ζ hQ hF
    unfold G_X10_archives_L90 at hF
    unfold QG_X10_archives_L90 at hQ
    refine g_iload_n dX10_archives_90 rfl rfl rfl ?_
    refine g_aload_n dX10_archives_91 rfl rfl rfl ?_
    refine g_get gClX10 52 (by decide) fl_X10_358 dX10_archives_92 (ho_199 _ _) rfl rfl ?_
    refine g_icmpge (tgt := 116) dX10_archives_95 (by decide) rfl (fun c10 => ?_) (fun c10 => ?_)
    · replace hF := ite_p hF c10
      try replace hQ := ite_q hQ c10
      refine g_aload_n dX10_archives_116 rfl rfl rfl ?_
      refine g_aload_n dX10_archives_117 rfl rfl rfl ?_
      refine g_get gClX10 52 (by decide) fl_X10_358 dX10_archives_118 (ho_199 _ _) rfl rfl ?_
      refine g_put gClX10 25 (by decide) fl_X10_79 rfl dX10_archives_121 (ho_199 _ _) rfl rfl (Nat.le_of_ble_eq_true rfl) po_199_25 rfl ?_
      refine g_aload_n dX10_archives_124 rfl rfl rfl ?_
      refine g_bipush (v := 6) dX10_archives_125 (by decide) rfl ?_
      refine g_bipush (v := 6) dX10_archives_127 (by decide) rfl ?_
      refine g_callv mv_X10_insideTo ml_X10_325 (c_X10_insideTo l g _ _) (ho_199 _ _) rfl rfl (Nat.le_of_ble_eq_true rfl) (Nat.le_of_ble_eq_true rfl) (Nat.le_of_ble_eq_true rfl) (Nat.le_of_ble_eq_true rfl) rfl (Nat.le_of_ble_eq_true rfl) dX10_archives_129 rfl (fun r12 hr12 pr12 => ?_)
      obtain ⟨rfl, rfl⟩ := pr12
      subst hF
      exact g_vret rfl dX10_archives_132 (Nat.le_of_ble_eq_true rfl) (Nat.le_of_ble_eq_true rfl) ⟨rfl, rfl⟩
    · replace hF := ite_n hF c10
      try replace hQ := ite_r hQ c10
      refine g_aload_n dX10_archives_98 rfl rfl rfl ?_
      refine g_get gClX10 24 (by decide) fl_X10_57 dX10_archives_99 (ho_199 _ _) rfl rfl ?_
      refine g_iload_n dX10_archives_102 rfl rfl rfl ?_
      refine g_aload_n dX10_archives_103 rfl rfl rfl ?_
      refine g_get gClX10 51 (by decide) fl_X10_66 dX10_archives_104 (ho_199 _ _) rfl rfl ?_
      refine g_iload_n dX10_archives_107 rfl rfl rfl ?_
      have o14 := hQ.1
      replace hQ := hQ.2
      refine g_bald (ha_218 _ _) o14 dX10_archives_108 rfl ?_
      have o15 := hQ.1
      replace hQ := hQ.2
      refine g_bast (ha_215 _ _) o15 pa_215 dX10_archives_109 rfl ?_
      refine g_iincL (L1 := [(0, _), (2, _)]) dX10_archives_110 rfl (by decide) rfl rfl ?_
      refine g_goto (tgt := 90) dX10_archives_113 (by decide) ?_
      refine g_sub [0, 1] rfl ?_
      exact ihL90 _ _ _ hQ hF
noncomputable def G_X10_archives_L57 (p0 : Int32) : Nat → Int32 → gS → gQ → gS × gQ
  | 0, _, σ, ζ => (σ, ζ)
  | n + 1, y2, σ, ζ =>
    if ((16 : Int32) * (σ 199 50)) ≤ y2 then
      G_X10_archives_L90 p0 4000 (0 : Int32) σ ζ
    else
      let s19 := (pf σ 218 (ix ((1 : Int32) + y2)) (σ 216 (ix y2)).toInt8.toInt32 : gS)
      G_X10_archives_L57 p0 n (y2 + Int32.ofInt (1)) s19 ζ
def QG_X10_archives_L57 (p0 : Int32) : Nat → Int32 → gS → gQ → Prop
  | 0, _, _, _ => False
  | n + 1, y2, σ, ζ =>
    if ((16 : Int32) * (σ 199 50)) ≤ y2 then
      (QG_X10_archives_L90 p0 4000 (0 : Int32) σ ζ)
    else
      (vp_in y2 1552 ∧ (vp_in ((1 : Int32) + y2) 385 ∧ (let s19 := (pf σ 218 (ix ((1 : Int32) + y2)) (σ 216 (ix y2)).toInt8.toInt32 : gS)
      QG_X10_archives_L57 p0 n (y2 + Int32.ofInt (1)) s19 ζ)))
set_option maxHeartbeats 4000000 in
set_option maxRecDepth 100000 in
theorem t_X10_archives_L57 (l : Launch) (g : gE) {p0 : Int32} {fr : gS × gQ} : ∀ (n : Nat) (y2 : Int32) (σ : gS) (ζ : gQ), QG_X10_archives_L57 p0 n y2 σ ζ → G_X10_archives_L57 p0 n y2 σ ζ = fr → gG l g mX10_archives (rm 7 203) (gZm g (rm 7 203) (fun r h => r = none ∧ h = hp fr.1 fr.2)) 57 [(0, .ref 199), (2, .int y2)] [] (hp σ ζ) 0 0 := by
  intro n
  induction n with
  | zero => intro y2 σ ζ hQ; exact absurd hQ (by unfold QG_X10_archives_L57; exact id)
  | succ n ihL57 =>
    intro y2 σ ζ hQ hF
    unfold G_X10_archives_L57 at hF
    unfold QG_X10_archives_L57 at hQ
    refine g_iload_n dX10_archives_57 rfl rfl rfl ?_
    refine g_bipush (v := 16) dX10_archives_58 (by decide) rfl ?_
    refine g_aload_n dX10_archives_60 rfl rfl rfl ?_
    refine g_get gClX10 50 (by decide) fl_X10_355 dX10_archives_61 (ho_199 _ _) rfl rfl ?_
    refine g_imul dX10_archives_64 rfl ?_
    refine g_icmpge (tgt := 88) dX10_archives_65 (by decide) rfl (fun c9 => ?_) (fun c9 => ?_)
    · replace hF := ite_p hF c9
      try replace hQ := ite_q hQ c9
      refine g_iconst (v := 0) dX10_archives_88 (by decide) rfl ?_
      refine g_istoreL_n (L1 := [(0, _), (2, _)]) dX10_archives_89 rfl (by decide) rfl rfl ?_
      refine g_sub [0, 1] rfl ?_
      exact t_X10_archives_L90 l g 4000 _ _ _ hQ hF
    · replace hF := ite_n hF c9
      try replace hQ := ite_r hQ c9
      refine g_aload_n dX10_archives_68 rfl rfl rfl ?_
      refine g_get gClX10 51 (by decide) fl_X10_66 dX10_archives_69 (ho_199 _ _) rfl rfl ?_
      refine g_iconst (v := 1) dX10_archives_72 (by decide) rfl ?_
      refine g_iload_n dX10_archives_73 rfl rfl rfl ?_
      refine g_iadd dX10_archives_74 rfl ?_
      refine g_aload_n dX10_archives_75 rfl rfl rfl ?_
      refine g_get gClX10 28 (by decide) fl_X10_60 dX10_archives_76 (ho_199 _ _) rfl rfl ?_
      refine g_iload_n dX10_archives_79 rfl rfl rfl ?_
      have o17 := hQ.1
      replace hQ := hQ.2
      refine g_bald (ha_216 _ _) o17 dX10_archives_80 rfl ?_
      have o18 := hQ.1
      replace hQ := hQ.2
      refine g_bast (ha_218 _ _) o18 pa_218 dX10_archives_81 rfl ?_
      refine g_iincL (L1 := [(0, _), (2, _)]) dX10_archives_82 rfl (by decide) rfl rfl ?_
      refine g_goto (tgt := 57) dX10_archives_85 (by decide) ?_
      refine g_sub [0, 1] rfl ?_
      exact ihL57 _ _ _ hQ hF
noncomputable def J_X10_archives_31 (p0 : Int32) (u0 : Int32) (σ : gS) (ζ : gQ) : gS × gQ :=
  let s6 := (pf σ 199 50 u0 : gS)
  let s7 := (pf s6 199 52 ((1 : Int32) + ((16 : Int32) * (s6 199 50))) : gS)
  let s8 := (pf s7 218 (ix (0 : Int32)) (82 : Int32).toInt8.toInt32 : gS)
  G_X10_archives_L57 p0 4000 (0 : Int32) s8 ζ
def QJ_X10_archives_31 (p0 : Int32) (u0 : Int32) (σ : gS) (ζ : gQ) : Prop :=
  let s6 := (pf σ 199 50 u0 : gS)
  let s7 := (pf s6 199 52 ((1 : Int32) + ((16 : Int32) * (s6 199 50))) : gS)
  let s8 := (pf s7 218 (ix (0 : Int32)) (82 : Int32).toInt8.toInt32 : gS)
  QG_X10_archives_L57 p0 4000 (0 : Int32) s8 ζ
set_option maxHeartbeats 4000000 in
set_option maxRecDepth 100000 in
theorem j_X10_archives_31 (l : Launch) (g : gE) {p0 : Int32} {fr : gS × gQ} : ∀ (u0 : Int32) (σ : gS) (ζ : gQ), QJ_X10_archives_31 p0 u0 σ ζ → J_X10_archives_31 p0 u0 σ ζ = fr → gG l g mX10_archives (rm 7 203) (gZm g (rm 7 203) (fun r h => r = none ∧ h = hp fr.1 fr.2)) 31 [(0, .ref 199)] [.int u0, .ref 199] (hp σ ζ) 0 0 := by
  intro u0 σ ζ hQ hF
  unfold J_X10_archives_31 at hF
  unfold QJ_X10_archives_31 at hQ
  refine g_put gClX10 50 (by decide) fl_X10_355 rfl dX10_archives_31 (ho_199 _ _) rfl rfl (Nat.le_of_ble_eq_true rfl) po_199_50 rfl ?_
  refine g_aload_n dX10_archives_34 rfl rfl rfl ?_
  refine g_iconst (v := 1) dX10_archives_35 (by decide) rfl ?_
  refine g_bipush (v := 16) dX10_archives_36 (by decide) rfl ?_
  refine g_aload_n dX10_archives_38 rfl rfl rfl ?_
  refine g_get gClX10 50 (by decide) fl_X10_355 dX10_archives_39 (ho_199 _ _) rfl rfl ?_
  refine g_imul dX10_archives_42 rfl ?_
  refine g_iadd dX10_archives_43 rfl ?_
  refine g_put gClX10 52 (by decide) fl_X10_358 rfl dX10_archives_44 (ho_199 _ _) rfl rfl (Nat.le_of_ble_eq_true rfl) po_199_52 rfl ?_
  refine g_aload_n dX10_archives_47 rfl rfl rfl ?_
  refine g_get gClX10 51 (by decide) fl_X10_66 dX10_archives_48 (ho_199 _ _) rfl rfl ?_
  refine g_iconst (v := 0) dX10_archives_51 (by decide) rfl ?_
  refine g_bipush (v := 82) dX10_archives_52 (by decide) rfl ?_
  refine g_bast (ha_218 _ _) (vinc (by decide)) pa_218 dX10_archives_54 rfl ?_
  refine g_iconst (v := 0) dX10_archives_55 (by decide) rfl ?_
  refine g_istoreL_n (L1 := [(0, _), (2, _)]) dX10_archives_56 rfl (by decide) rfl rfl ?_
  refine g_sub [0, 1] rfl ?_
  exact t_X10_archives_L57 l g 4000 _ _ _ hQ hF
noncomputable def Fr_X10_archives (σ : gS) (ζ : gQ) (p0 : Int32) : gS × gQ :=
  let f3 := (F_X10_put_ σ ζ (56 : Int32) (0 : Int32) p0)
  if f3.1 = 0 then
    (f3.2.1, f3.2.2)
  else
    if (24 : Int32) ≤ (f3.2.1 199 29) then
      J_X10_archives_31 p0 (24 : Int32) f3.2.1 f3.2.2
    else
      J_X10_archives_31 p0 (f3.2.1 199 29) f3.2.1 f3.2.2
noncomputable def F_X10_archives : gS → gQ → Int32 → gS × gQ := Classical.choose (⟨Fr_X10_archives, rfl⟩ : ∃ f : gS → gQ → Int32 → gS × gQ, f = Fr_X10_archives)
theorem F_X10_archives_eq : F_X10_archives = Fr_X10_archives := Classical.choose_spec (⟨Fr_X10_archives, rfl⟩ : ∃ f : gS → gQ → Int32 → gS × gQ, f = Fr_X10_archives)
def Q_X10_archives (σ : gS) (ζ : gQ) (p0 : Int32) : Prop :=
  (Q_X10_put_ σ ζ (56 : Int32) (0 : Int32) p0) ∧ (let f3 := (F_X10_put_ σ ζ (56 : Int32) (0 : Int32) p0)
  if f3.1 = 0 then
    (True)
  else
    (if (24 : Int32) ≤ (f3.2.1 199 29) then
      (QJ_X10_archives_31 p0 (24 : Int32) f3.2.1 f3.2.2)
    else
      (QJ_X10_archives_31 p0 (f3.2.1 199 29) f3.2.1 f3.2.2)))
set_option maxHeartbeats 4000000 in
set_option maxRecDepth 100000 in
theorem c_X10_archives (l : Launch) (g : gE)  {σ : gS} {ζ : gQ} (p0 : Int32) (hQ : Q_X10_archives σ ζ p0) : gC l g mX10_archives (rm 7 203) [.ref 199, .int p0] (hp σ ζ) (fun r h => r = none ∧ h = hp (F_X10_archives σ ζ p0).1 (F_X10_archives σ ζ p0).2) := by
  refine gC_of (by decide) (Nat.le_of_ble_eq_true rfl) ?_
  generalize hF : (F_X10_archives σ ζ p0) = fr
  rw [F_X10_archives_eq] at hF
  unfold Fr_X10_archives at hF
  unfold Q_X10_archives at hQ
  refine g_aload_n dX10_archives_0 rfl rfl rfl ?_
  refine g_bipush (v := 56) dX10_archives_1 (by decide) rfl ?_
  refine g_iconst (v := 0) dX10_archives_3 (by decide) rfl ?_
  refine g_iload_n dX10_archives_4 rfl rfl rfl ?_
  have o1 := hQ.1
  replace hQ := hQ.2
  refine g_callv mv_X10_put_ ml_X10_239 (c_X10_put_ l g _ _ _ o1) (ho_199 _ _) rfl rfl (Nat.le_of_ble_eq_true rfl) (Nat.le_of_ble_eq_true rfl) (Nat.le_of_ble_eq_true rfl) (Nat.le_of_ble_eq_true rfl) rfl (Nat.le_of_ble_eq_true rfl) dX10_archives_5 rfl (fun r2 hr2 pr2 => ?_)
  obtain ⟨rfl, rfl⟩ := pr2
  refine g_ifne (tgt := 12) dX10_archives_8 (by decide) rfl (fun c4 => ?_) (fun c4 => ?_)
  · replace hF := ite_n hF c4
    try replace hQ := ite_r hQ c4
    refine g_aload_n dX10_archives_12 rfl rfl rfl ?_
    refine g_aload_n dX10_archives_13 rfl rfl rfl ?_
    refine g_get gClX10 29 (by decide) fl_X10_202 dX10_archives_14 (ho_199 _ _) rfl rfl ?_
    refine g_bipush (v := 24) dX10_archives_17 (by decide) rfl ?_
    refine g_icmpge (tgt := 29) dX10_archives_19 (by decide) rfl (fun c5 => ?_) (fun c5 => ?_)
    · replace hF := ite_p hF c5
      try replace hQ := ite_q hQ c5
      refine g_bipush (v := 24) dX10_archives_29 (by decide) rfl ?_
      refine g_sub [0] rfl ?_
      exact j_X10_archives_31 l g _ _ _ hQ hF
    · replace hF := ite_n hF c5
      try replace hQ := ite_r hQ c5
      refine g_aload_n dX10_archives_22 rfl rfl rfl ?_
      refine g_get gClX10 29 (by decide) fl_X10_202 dX10_archives_23 (ho_199 _ _) rfl rfl ?_
      refine g_goto (tgt := 31) dX10_archives_26 (by decide) ?_
      refine g_sub [0] rfl ?_
      exact j_X10_archives_31 l g _ _ _ hQ hF
  · replace hF := ite_p hF c4
    try replace hQ := ite_q hQ c4
    subst hF
    exact g_vret rfl dX10_archives_11 (Nat.le_of_ble_eq_true rfl) (Nat.le_of_ble_eq_true rfl) ⟨rfl, rfl⟩
noncomputable def Fr_X10_widthOf (p0 : Int32) : Int32 :=
  if p0 = (5 : Int32) then
    (1 : Int32)
  else
    if p0 = (6 : Int32) then
      (1 : Int32)
    else
      (2 : Int32)
noncomputable def F_X10_widthOf : Int32 → Int32 := Classical.choose (⟨Fr_X10_widthOf, rfl⟩ : ∃ f : Int32 → Int32, f = Fr_X10_widthOf)
theorem F_X10_widthOf_eq : F_X10_widthOf = Fr_X10_widthOf := Classical.choose_spec (⟨Fr_X10_widthOf, rfl⟩ : ∃ f : Int32 → Int32, f = Fr_X10_widthOf)
set_option maxHeartbeats 4000000 in
set_option maxRecDepth 100000 in
theorem c_X10_widthOf (l : Launch) (g : gE)  {σ : gS} {ζ : gQ} (p0 : Int32) : gC l g mX10_widthOf (rm 0 0) [.int p0] (hp σ ζ) (fun r h => r = some (.int (F_X10_widthOf p0)) ∧ h = hp σ ζ) := by
  refine gC_of (by decide) (Nat.le_of_ble_eq_true rfl) ?_
  generalize hF : (F_X10_widthOf p0) = fr
  rw [F_X10_widthOf_eq] at hF
  unfold Fr_X10_widthOf at hF
  refine g_iload_n dX10_widthOf_0 rfl rfl rfl ?_
  refine g_iconst (v := 5) dX10_widthOf_1 (by decide) rfl ?_
  refine g_icmpeq (tgt := 11) dX10_widthOf_2 (by decide) rfl (fun c1 => ?_) (fun c1 => ?_)
  · replace hF := ite_p hF c1
    refine g_iconst (v := 1) dX10_widthOf_11 (by decide) rfl ?_
    refine g_goto (tgt := 16) dX10_widthOf_12 (by decide) ?_
    subst hF
    exact g_iret rfl dX10_widthOf_16 (Nat.le_of_ble_eq_true rfl) (Nat.le_of_ble_eq_true rfl) ⟨rfl, rfl⟩
  · replace hF := ite_n hF c1
    refine g_iload_n dX10_widthOf_5 rfl rfl rfl ?_
    refine g_bipush (v := 6) dX10_widthOf_6 (by decide) rfl ?_
    refine g_icmpne (tgt := 15) dX10_widthOf_8 (by decide) rfl (fun c2 => ?_) (fun c2 => ?_)
    · replace hF := ite_n hF c2
      refine g_iconst (v := 2) dX10_widthOf_15 (by decide) rfl ?_
      subst hF
      exact g_iret rfl dX10_widthOf_16 (Nat.le_of_ble_eq_true rfl) (Nat.le_of_ble_eq_true rfl) ⟨rfl, rfl⟩
    · replace hF := ite_p hF c2
      refine g_iconst (v := 1) dX10_widthOf_11 (by decide) rfl ?_
      refine g_goto (tgt := 16) dX10_widthOf_12 (by decide) ?_
      subst hF
      exact g_iret rfl dX10_widthOf_16 (Nat.le_of_ble_eq_true rfl) (Nat.le_of_ble_eq_true rfl) ⟨rfl, rfl⟩
noncomputable def G_X10_isSettings_L28 (σ : gS) : Nat → Int32 → Int32 → Int32 → Int32
  | 0, _, _, _ => 0
  | n + 1, y1, y2, y3 =>
    if (9 : Int32) ≤ y3 then
      y1
    else
      let v8 := (F_X10_diskField σ y2 (F_X10_widthOf y3))
      let v10 := (y2 + (F_X10_widthOf y3))
      if y1 = 0 then
        G_X10_isSettings_L28 σ n (0 : Int32) v10 (y3 + Int32.ofInt (1))
      else
        if (4 : Int32) < y3 then
          if y3 = (5 : Int32) then
            if 0 < (lg_cmp v8 (5 : Int64)) then
              G_X10_isSettings_L28 σ n (0 : Int32) v10 (y3 + Int32.ofInt (1))
            else
              G_X10_isSettings_L28 σ n (1 : Int32) v10 (y3 + Int32.ofInt (1))
          else
            if y3 = (6 : Int32) then
              if 0 < (lg_cmp v8 (16 : Int64)) then
                G_X10_isSettings_L28 σ n (0 : Int32) v10 (y3 + Int32.ofInt (1))
              else
                G_X10_isSettings_L28 σ n (1 : Int32) v10 (y3 + Int32.ofInt (1))
            else
              if 0 < (lg_cmp v8 (999 : Int64)) then
                G_X10_isSettings_L28 σ n (0 : Int32) v10 (y3 + Int32.ofInt (1))
              else
                G_X10_isSettings_L28 σ n (1 : Int32) v10 (y3 + Int32.ofInt (1))
        else
          if (lg_cmp v8 (1 : Int64)) < 0 then
            G_X10_isSettings_L28 σ n (0 : Int32) v10 (y3 + Int32.ofInt (1))
          else
            if 0 < (lg_cmp v8 (10000 : Int64)) then
              G_X10_isSettings_L28 σ n (0 : Int32) v10 (y3 + Int32.ofInt (1))
            else
              G_X10_isSettings_L28 σ n (1 : Int32) v10 (y3 + Int32.ofInt (1))
def QG_X10_isSettings_L28 (σ : gS) : Nat → Int32 → Int32 → Int32 → Prop
  | 0, _, _, _ => False
  | n + 1, y1, y2, y3 =>
    if (9 : Int32) ≤ y3 then
      ((y1 = 0 ∨ y1 = 1) ∧ (True))
    else
      ((Q_X10_diskField σ y2 (F_X10_widthOf y3)) ∧ (let v8 := (F_X10_diskField σ y2 (F_X10_widthOf y3))
      let v10 := (y2 + (F_X10_widthOf y3))
      if y1 = 0 then
        (QG_X10_isSettings_L28 σ n (0 : Int32) v10 (y3 + Int32.ofInt (1)))
      else
        (if (4 : Int32) < y3 then
          (if y3 = (5 : Int32) then
            (if 0 < (lg_cmp v8 (5 : Int64)) then
              (QG_X10_isSettings_L28 σ n (0 : Int32) v10 (y3 + Int32.ofInt (1)))
            else
              (QG_X10_isSettings_L28 σ n (1 : Int32) v10 (y3 + Int32.ofInt (1))))
          else
            (if y3 = (6 : Int32) then
              (if 0 < (lg_cmp v8 (16 : Int64)) then
                (QG_X10_isSettings_L28 σ n (0 : Int32) v10 (y3 + Int32.ofInt (1)))
              else
                (QG_X10_isSettings_L28 σ n (1 : Int32) v10 (y3 + Int32.ofInt (1))))
            else
              (if 0 < (lg_cmp v8 (999 : Int64)) then
                (QG_X10_isSettings_L28 σ n (0 : Int32) v10 (y3 + Int32.ofInt (1)))
              else
                (QG_X10_isSettings_L28 σ n (1 : Int32) v10 (y3 + Int32.ofInt (1))))))
        else
          (if (lg_cmp v8 (1 : Int64)) < 0 then
            (QG_X10_isSettings_L28 σ n (0 : Int32) v10 (y3 + Int32.ofInt (1)))
          else
            (if 0 < (lg_cmp v8 (10000 : Int64)) then
              (QG_X10_isSettings_L28 σ n (0 : Int32) v10 (y3 + Int32.ofInt (1)))
            else
              (QG_X10_isSettings_L28 σ n (1 : Int32) v10 (y3 + Int32.ofInt (1))))))))
set_option maxHeartbeats 4000000 in
set_option maxRecDepth 100000 in
theorem t_X10_isSettings_L28 (l : Launch) (g : gE) {σ : gS} {ζ : gQ} {fr : Int32} : ∀ (n : Nat) (y1 : Int32) (y2 : Int32) (y3 : Int32), QG_X10_isSettings_L28 σ n y1 y2 y3 → G_X10_isSettings_L28 σ n y1 y2 y3 = fr → gG l g mX10_isSettings (rm 1 25) (gZm g (rm 1 25) (fun r h => r = some (.int fr) ∧ h = hp σ ζ)) 28 [(0, .ref 199), (1, .int y1), (2, .int y2), (3, .int y3)] [] (hp σ ζ) 0 0 := by
  intro n
  induction n with
  | zero => intro y1 y2 y3 hQ; exact absurd hQ (by unfold QG_X10_isSettings_L28; exact id)
  | succ n ihL28 =>
    intro y1 y2 y3 hQ hF
    unfold G_X10_isSettings_L28 at hF
    unfold QG_X10_isSettings_L28 at hQ
    refine g_iload_n dX10_isSettings_28 rfl rfl rfl ?_
    refine g_bipush (v := 9) dX10_isSettings_29 (by decide) rfl ?_
    refine g_icmpge (tgt := 136) dX10_isSettings_31 (by decide) rfl (fun c3 => ?_) (fun c3 => ?_)
    · replace hF := ite_p hF c3
      try replace hQ := ite_q hQ c3
      refine g_iload_n dX10_isSettings_136 rfl rfl rfl ?_
      have o4 := hQ.1
      replace hQ := hQ.2
      subst hF
      exact g_zret rfl dX10_isSettings_137 (gz_n o4) (Nat.le_of_ble_eq_true rfl) (Nat.le_of_ble_eq_true rfl) ⟨rfl, rfl⟩
    · replace hF := ite_n hF c3
      try replace hQ := ite_r hQ c3
      refine g_aload_n dX10_isSettings_34 rfl rfl rfl ?_
      refine g_iload_n dX10_isSettings_35 rfl rfl rfl ?_
      refine g_iload_n dX10_isSettings_36 rfl rfl rfl ?_
      refine g_calls mt_X10_widthOf ms_X10_widthOf ml_X10_372 (c_X10_widthOf l g _) rfl (Nat.le_of_ble_eq_true rfl) (Nat.le_of_ble_eq_true rfl) (Nat.le_of_ble_eq_true rfl) (Nat.le_of_ble_eq_true rfl) rfl (Nat.le_of_ble_eq_true rfl) dX10_isSettings_37 rfl (fun r5 hr5 pr5 => ?_)
      obtain ⟨rfl, rfl⟩ := pr5
      have o6 := hQ.1
      replace hQ := hQ.2
      refine g_callv mv_X10_diskField ml_X10_365 (c_X10_diskField l g _ _ o6) (ho_199 _ _) rfl rfl (Nat.le_of_ble_eq_true rfl) (Nat.le_of_ble_eq_true rfl) (Nat.le_of_ble_eq_true rfl) (Nat.le_of_ble_eq_true rfl) rfl (Nat.le_of_ble_eq_true rfl) dX10_isSettings_40 rfl (fun r7 hr7 pr7 => ?_)
      obtain ⟨rfl, rfl⟩ := pr7
      refine g_lstoreL (L1 := [(0, _), (1, _), (2, _), (3, _), (4, _)]) dX10_isSettings_43 (by decide) rfl rfl ?_
      refine g_iload_n dX10_isSettings_45 rfl rfl rfl ?_
      refine g_iload_n dX10_isSettings_46 rfl rfl rfl ?_
      refine g_calls mt_X10_widthOf ms_X10_widthOf ml_X10_372 (c_X10_widthOf l g _) rfl (Nat.le_of_ble_eq_true rfl) (Nat.le_of_ble_eq_true rfl) (Nat.le_of_ble_eq_true rfl) (Nat.le_of_ble_eq_true rfl) rfl (Nat.le_of_ble_eq_true rfl) dX10_isSettings_47 rfl (fun r9 hr9 pr9 => ?_)
      obtain ⟨rfl, rfl⟩ := pr9
      refine g_iadd dX10_isSettings_50 rfl ?_
      refine g_istoreL_n (L1 := [(0, _), (1, _), (2, _), (3, _), (4, _)]) dX10_isSettings_51 rfl (by decide) rfl rfl ?_
      refine g_iload_n dX10_isSettings_52 rfl rfl rfl ?_
      refine g_ifeq (tgt := 128) dX10_isSettings_53 (by decide) rfl (fun c11 => ?_) (fun c11 => ?_)
      · replace hF := ite_p hF c11
        try replace hQ := ite_q hQ c11
        refine g_iconst (v := 0) dX10_isSettings_128 (by decide) rfl ?_
        refine g_istoreL_n (L1 := [(0, _), (1, _), (2, _), (3, _), (4, _)]) dX10_isSettings_129 rfl (by decide) rfl rfl ?_
        refine g_iincL (L1 := [(0, _), (1, _), (2, _), (3, _), (4, _)]) dX10_isSettings_130 rfl (by decide) rfl rfl ?_
        refine g_goto (tgt := 28) dX10_isSettings_133 (by decide) ?_
        refine g_sub [0, 1, 2, 3] rfl ?_
        exact ihL28 _ _ _ hQ hF
      · replace hF := ite_n hF c11
        try replace hQ := ite_r hQ c11
        refine g_iload_n dX10_isSettings_56 rfl rfl rfl ?_
        refine g_iconst (v := 4) dX10_isSettings_57 (by decide) rfl ?_
        refine g_icmpgt (tgt := 80) dX10_isSettings_58 (by decide) rfl (fun c12 => ?_) (fun c12 => ?_)
        · replace hF := ite_p hF c12
          try replace hQ := ite_q hQ c12
          refine g_iload_n dX10_isSettings_80 rfl rfl rfl ?_
          refine g_iconst (v := 5) dX10_isSettings_81 (by decide) rfl ?_
          refine g_icmpne (tgt := 97) dX10_isSettings_82 (by decide) rfl (fun c13 => ?_) (fun c13 => ?_)
          · replace hF := ite_n hF c13
            try replace hQ := ite_r hQ c13
            refine g_iload_n dX10_isSettings_97 rfl rfl rfl ?_
            refine g_bipush (v := 6) dX10_isSettings_98 (by decide) rfl ?_
            refine g_icmpne (tgt := 115) dX10_isSettings_100 (by decide) rfl (fun c14 => ?_) (fun c14 => ?_)
            · replace hF := ite_n hF c14
              try replace hQ := ite_r hQ c14
              refine g_lload dX10_isSettings_115 rfl rfl ?_
              refine g_ldc2 kl_X10_379 dX10_isSettings_117 rfl ?_
              refine g_lcmp dX10_isSettings_120 rfl ?_
              refine g_ifgt (tgt := 128) dX10_isSettings_121 (by decide) rfl (fun c15 => ?_) (fun c15 => ?_)
              · replace hF := ite_p hF c15
                try replace hQ := ite_q hQ c15
                refine g_iconst (v := 0) dX10_isSettings_128 (by decide) rfl ?_
                refine g_istoreL_n (L1 := [(0, _), (1, _), (2, _), (3, _), (4, _)]) dX10_isSettings_129 rfl (by decide) rfl rfl ?_
                refine g_iincL (L1 := [(0, _), (1, _), (2, _), (3, _), (4, _)]) dX10_isSettings_130 rfl (by decide) rfl rfl ?_
                refine g_goto (tgt := 28) dX10_isSettings_133 (by decide) ?_
                refine g_sub [0, 1, 2, 3] rfl ?_
                exact ihL28 _ _ _ hQ hF
              · replace hF := ite_n hF c15
                try replace hQ := ite_r hQ c15
                refine g_iconst (v := 1) dX10_isSettings_124 (by decide) rfl ?_
                refine g_goto (tgt := 129) dX10_isSettings_125 (by decide) ?_
                refine g_istoreL_n (L1 := [(0, _), (1, _), (2, _), (3, _), (4, _)]) dX10_isSettings_129 rfl (by decide) rfl rfl ?_
                refine g_iincL (L1 := [(0, _), (1, _), (2, _), (3, _), (4, _)]) dX10_isSettings_130 rfl (by decide) rfl rfl ?_
                refine g_goto (tgt := 28) dX10_isSettings_133 (by decide) ?_
                refine g_sub [0, 1, 2, 3] rfl ?_
                exact ihL28 _ _ _ hQ hF
            · replace hF := ite_p hF c14
              try replace hQ := ite_q hQ c14
              refine g_lload dX10_isSettings_103 rfl rfl ?_
              refine g_ldc2 kl_X10_377 dX10_isSettings_105 rfl ?_
              refine g_lcmp dX10_isSettings_108 rfl ?_
              refine g_ifgt (tgt := 128) dX10_isSettings_109 (by decide) rfl (fun c16 => ?_) (fun c16 => ?_)
              · replace hF := ite_p hF c16
                try replace hQ := ite_q hQ c16
                refine g_iconst (v := 0) dX10_isSettings_128 (by decide) rfl ?_
                refine g_istoreL_n (L1 := [(0, _), (1, _), (2, _), (3, _), (4, _)]) dX10_isSettings_129 rfl (by decide) rfl rfl ?_
                refine g_iincL (L1 := [(0, _), (1, _), (2, _), (3, _), (4, _)]) dX10_isSettings_130 rfl (by decide) rfl rfl ?_
                refine g_goto (tgt := 28) dX10_isSettings_133 (by decide) ?_
                refine g_sub [0, 1, 2, 3] rfl ?_
                exact ihL28 _ _ _ hQ hF
              · replace hF := ite_n hF c16
                try replace hQ := ite_r hQ c16
                refine g_goto (tgt := 124) dX10_isSettings_112 (by decide) ?_
                refine g_iconst (v := 1) dX10_isSettings_124 (by decide) rfl ?_
                refine g_goto (tgt := 129) dX10_isSettings_125 (by decide) ?_
                refine g_istoreL_n (L1 := [(0, _), (1, _), (2, _), (3, _), (4, _)]) dX10_isSettings_129 rfl (by decide) rfl rfl ?_
                refine g_iincL (L1 := [(0, _), (1, _), (2, _), (3, _), (4, _)]) dX10_isSettings_130 rfl (by decide) rfl rfl ?_
                refine g_goto (tgt := 28) dX10_isSettings_133 (by decide) ?_
                refine g_sub [0, 1, 2, 3] rfl ?_
                exact ihL28 _ _ _ hQ hF
          · replace hF := ite_p hF c13
            try replace hQ := ite_q hQ c13
            refine g_lload dX10_isSettings_85 rfl rfl ?_
            refine g_ldc2 kl_X10_176 dX10_isSettings_87 rfl ?_
            refine g_lcmp dX10_isSettings_90 rfl ?_
            refine g_ifgt (tgt := 128) dX10_isSettings_91 (by decide) rfl (fun c17 => ?_) (fun c17 => ?_)
            · replace hF := ite_p hF c17
              try replace hQ := ite_q hQ c17
              refine g_iconst (v := 0) dX10_isSettings_128 (by decide) rfl ?_
              refine g_istoreL_n (L1 := [(0, _), (1, _), (2, _), (3, _), (4, _)]) dX10_isSettings_129 rfl (by decide) rfl rfl ?_
              refine g_iincL (L1 := [(0, _), (1, _), (2, _), (3, _), (4, _)]) dX10_isSettings_130 rfl (by decide) rfl rfl ?_
              refine g_goto (tgt := 28) dX10_isSettings_133 (by decide) ?_
              refine g_sub [0, 1, 2, 3] rfl ?_
              exact ihL28 _ _ _ hQ hF
            · replace hF := ite_n hF c17
              try replace hQ := ite_r hQ c17
              refine g_goto (tgt := 124) dX10_isSettings_94 (by decide) ?_
              refine g_iconst (v := 1) dX10_isSettings_124 (by decide) rfl ?_
              refine g_goto (tgt := 129) dX10_isSettings_125 (by decide) ?_
              refine g_istoreL_n (L1 := [(0, _), (1, _), (2, _), (3, _), (4, _)]) dX10_isSettings_129 rfl (by decide) rfl rfl ?_
              refine g_iincL (L1 := [(0, _), (1, _), (2, _), (3, _), (4, _)]) dX10_isSettings_130 rfl (by decide) rfl rfl ?_
              refine g_goto (tgt := 28) dX10_isSettings_133 (by decide) ?_
              refine g_sub [0, 1, 2, 3] rfl ?_
              exact ihL28 _ _ _ hQ hF
        · replace hF := ite_n hF c12
          try replace hQ := ite_r hQ c12
          refine g_lload dX10_isSettings_61 rfl rfl ?_
          refine g_lconst (v := 1) dX10_isSettings_63 (by decide) rfl ?_
          refine g_lcmp dX10_isSettings_64 rfl ?_
          refine g_iflt (tgt := 128) dX10_isSettings_65 (by decide) rfl (fun c18 => ?_) (fun c18 => ?_)
          · replace hF := ite_p hF c18
            try replace hQ := ite_q hQ c18
            refine g_iconst (v := 0) dX10_isSettings_128 (by decide) rfl ?_
            refine g_istoreL_n (L1 := [(0, _), (1, _), (2, _), (3, _), (4, _)]) dX10_isSettings_129 rfl (by decide) rfl rfl ?_
            refine g_iincL (L1 := [(0, _), (1, _), (2, _), (3, _), (4, _)]) dX10_isSettings_130 rfl (by decide) rfl rfl ?_
            refine g_goto (tgt := 28) dX10_isSettings_133 (by decide) ?_
            refine g_sub [0, 1, 2, 3] rfl ?_
            exact ihL28 _ _ _ hQ hF
          · replace hF := ite_n hF c18
            try replace hQ := ite_r hQ c18
            refine g_lload dX10_isSettings_68 rfl rfl ?_
            refine g_ldc2 kl_X10_375 dX10_isSettings_70 rfl ?_
            refine g_lcmp dX10_isSettings_73 rfl ?_
            refine g_ifgt (tgt := 128) dX10_isSettings_74 (by decide) rfl (fun c19 => ?_) (fun c19 => ?_)
            · replace hF := ite_p hF c19
              try replace hQ := ite_q hQ c19
              refine g_iconst (v := 0) dX10_isSettings_128 (by decide) rfl ?_
              refine g_istoreL_n (L1 := [(0, _), (1, _), (2, _), (3, _), (4, _)]) dX10_isSettings_129 rfl (by decide) rfl rfl ?_
              refine g_iincL (L1 := [(0, _), (1, _), (2, _), (3, _), (4, _)]) dX10_isSettings_130 rfl (by decide) rfl rfl ?_
              refine g_goto (tgt := 28) dX10_isSettings_133 (by decide) ?_
              refine g_sub [0, 1, 2, 3] rfl ?_
              exact ihL28 _ _ _ hQ hF
            · replace hF := ite_n hF c19
              try replace hQ := ite_r hQ c19
              refine g_goto (tgt := 124) dX10_isSettings_77 (by decide) ?_
              refine g_iconst (v := 1) dX10_isSettings_124 (by decide) rfl ?_
              refine g_goto (tgt := 129) dX10_isSettings_125 (by decide) ?_
              refine g_istoreL_n (L1 := [(0, _), (1, _), (2, _), (3, _), (4, _)]) dX10_isSettings_129 rfl (by decide) rfl rfl ?_
              refine g_iincL (L1 := [(0, _), (1, _), (2, _), (3, _), (4, _)]) dX10_isSettings_130 rfl (by decide) rfl rfl ?_
              refine g_goto (tgt := 28) dX10_isSettings_133 (by decide) ?_
              refine g_sub [0, 1, 2, 3] rfl ?_
              exact ihL28 _ _ _ hQ hF
noncomputable def Fr_X10_isSettings (σ : gS)  : Int32 :=
  if (σ 199 25) = (17 : Int32) then
    if (σ 215 (ix (0 : Int32))) = (83 : Int32) then
      G_X10_isSettings_L28 σ 4000 (1 : Int32) (1 : Int32) (0 : Int32)
    else
      (0 : Int32)
  else
    (0 : Int32)
noncomputable def F_X10_isSettings : gS → Int32 := Classical.choose (⟨Fr_X10_isSettings, rfl⟩ : ∃ f : gS → Int32, f = Fr_X10_isSettings)
theorem F_X10_isSettings_eq : F_X10_isSettings = Fr_X10_isSettings := Classical.choose_spec (⟨Fr_X10_isSettings, rfl⟩ : ∃ f : gS → Int32, f = Fr_X10_isSettings)
def Q_X10_isSettings (σ : gS)  : Prop :=
  if (σ 199 25) = (17 : Int32) then
    (if (σ 215 (ix (0 : Int32))) = (83 : Int32) then
      (QG_X10_isSettings_L28 σ 4000 (1 : Int32) (1 : Int32) (0 : Int32))
    else
      (True))
  else
    (True)
set_option maxHeartbeats 4000000 in
set_option maxRecDepth 100000 in
theorem c_X10_isSettings (l : Launch) (g : gE)  {σ : gS} {ζ : gQ}  (hQ : Q_X10_isSettings σ ) : gC l g mX10_isSettings (rm 1 25) [.ref 199] (hp σ ζ) (fun r h => r = some (.int (F_X10_isSettings σ )) ∧ h = hp σ ζ) := by
  refine gC_of (by decide) (Nat.le_of_ble_eq_true rfl) ?_
  generalize hF : (F_X10_isSettings σ ) = fr
  rw [F_X10_isSettings_eq] at hF
  unfold Fr_X10_isSettings at hF
  unfold Q_X10_isSettings at hQ
  refine g_aload_n dX10_isSettings_0 rfl rfl rfl ?_
  refine g_get gClX10 25 (by decide) fl_X10_79 dX10_isSettings_1 (ho_199 _ _) rfl rfl ?_
  refine g_bipush (v := 17) dX10_isSettings_4 (by decide) rfl ?_
  refine g_icmpne (tgt := 20) dX10_isSettings_6 (by decide) rfl (fun c1 => ?_) (fun c1 => ?_)
  · replace hF := ite_n hF c1
    try replace hQ := ite_r hQ c1
    refine g_iconst (v := 0) dX10_isSettings_20 (by decide) rfl ?_
    subst hF
    exact g_zret rfl dX10_isSettings_21 (by decide) (Nat.le_of_ble_eq_true rfl) (Nat.le_of_ble_eq_true rfl) ⟨rfl, rfl⟩
  · replace hF := ite_p hF c1
    try replace hQ := ite_q hQ c1
    refine g_aload_n dX10_isSettings_9 rfl rfl rfl ?_
    refine g_get gClX10 24 (by decide) fl_X10_57 dX10_isSettings_10 (ho_199 _ _) rfl rfl ?_
    refine g_iconst (v := 0) dX10_isSettings_13 (by decide) rfl ?_
    refine g_bald (ha_215 _ _) (vinc (by decide)) dX10_isSettings_14 rfl ?_
    refine g_bipush (v := 83) dX10_isSettings_15 (by decide) rfl ?_
    refine g_icmpeq (tgt := 22) dX10_isSettings_17 (by decide) rfl (fun c2 => ?_) (fun c2 => ?_)
    · replace hF := ite_p hF c2
      try replace hQ := ite_q hQ c2
      refine g_iconst (v := 1) dX10_isSettings_22 (by decide) rfl ?_
      refine g_istoreL_n (L1 := [(0, _), (1, _)]) dX10_isSettings_23 rfl (by decide) rfl rfl ?_
      refine g_iconst (v := 1) dX10_isSettings_24 (by decide) rfl ?_
      refine g_istoreL_n (L1 := [(0, _), (1, _), (2, _)]) dX10_isSettings_25 rfl (by decide) rfl rfl ?_
      refine g_iconst (v := 0) dX10_isSettings_26 (by decide) rfl ?_
      refine g_istoreL_n (L1 := [(0, _), (1, _), (2, _), (3, _)]) dX10_isSettings_27 rfl (by decide) rfl rfl ?_
      refine g_sub [0, 1, 2, 3] rfl ?_
      exact t_X10_isSettings_L28 l g 4000 _ _ _ hQ hF
    · replace hF := ite_n hF c2
      try replace hQ := ite_r hQ c2
      refine g_iconst (v := 0) dX10_isSettings_20 (by decide) rfl ?_
      subst hF
      exact g_zret rfl dX10_isSettings_21 (by decide) (Nat.le_of_ble_eq_true rfl) (Nat.le_of_ble_eq_true rfl) ⟨rfl, rfl⟩
noncomputable def G_X10_takeSettings_L4  : Nat → Int32 → Int32 → gS → gS
  | 0, _, _, σ => σ
  | n + 1, y1, y2, σ =>
    if (9 : Int32) ≤ y2 then
      σ
    else
      let s6 := (pf σ 217 (ix y2) (F_X10_diskField σ y1 (F_X10_widthOf y2)).toInt32 : gS)
      let v8 := (y1 + (F_X10_widthOf y2))
      G_X10_takeSettings_L4  n v8 (y2 + Int32.ofInt (1)) s6
def QG_X10_takeSettings_L4  : Nat → Int32 → Int32 → gS → Prop
  | 0, _, _, _ => False
  | n + 1, y1, y2, σ =>
    if (9 : Int32) ≤ y2 then
      (True)
    else
      ((Q_X10_diskField σ y1 (F_X10_widthOf y2)) ∧ (vp_in y2 9 ∧ (let s6 := (pf σ 217 (ix y2) (F_X10_diskField σ y1 (F_X10_widthOf y2)).toInt32 : gS)
      let v8 := (y1 + (F_X10_widthOf y2))
      QG_X10_takeSettings_L4  n v8 (y2 + Int32.ofInt (1)) s6)))
set_option maxHeartbeats 4000000 in
set_option maxRecDepth 100000 in
theorem t_X10_takeSettings_L4 (l : Launch) (g : gE)  {ζ : gQ} {fr : gS} : ∀ (n : Nat) (y1 : Int32) (y2 : Int32) (σ : gS), QG_X10_takeSettings_L4  n y1 y2 σ → G_X10_takeSettings_L4  n y1 y2 σ = fr → gG l g mX10_takeSettings (rm 1 25) (gZm g (rm 1 25) (fun r h => r = none ∧ h = hp fr ζ)) 4 [(0, .ref 199), (1, .int y1), (2, .int y2)] [] (hp σ ζ) 0 0 := by
  intro n
  induction n with
  | zero => intro y1 y2 σ hQ; exact absurd hQ (by unfold QG_X10_takeSettings_L4; exact id)
  | succ n ihL4 =>
    intro y1 y2 σ hQ hF
    unfold G_X10_takeSettings_L4 at hF
    unfold QG_X10_takeSettings_L4 at hQ
    refine g_iload_n dX10_takeSettings_4 rfl rfl rfl ?_
    refine g_bipush (v := 9) dX10_takeSettings_5 (by decide) rfl ?_
    refine g_icmpge (tgt := 39) dX10_takeSettings_7 (by decide) rfl (fun c1 => ?_) (fun c1 => ?_)
    · replace hF := ite_p hF c1
      try replace hQ := ite_q hQ c1
      subst hF
      exact g_vret rfl dX10_takeSettings_39 (Nat.le_of_ble_eq_true rfl) (Nat.le_of_ble_eq_true rfl) ⟨rfl, rfl⟩
    · replace hF := ite_n hF c1
      try replace hQ := ite_r hQ c1
      refine g_aload_n dX10_takeSettings_10 rfl rfl rfl ?_
      refine g_get gClX10 34 (by decide) fl_X10_63 dX10_takeSettings_11 (ho_199 _ _) rfl rfl ?_
      refine g_iload_n dX10_takeSettings_14 rfl rfl rfl ?_
      refine g_aload_n dX10_takeSettings_15 rfl rfl rfl ?_
      refine g_iload_n dX10_takeSettings_16 rfl rfl rfl ?_
      refine g_iload_n dX10_takeSettings_17 rfl rfl rfl ?_
      refine g_calls mt_X10_widthOf ms_X10_widthOf ml_X10_372 (c_X10_widthOf l g _) rfl (Nat.le_of_ble_eq_true rfl) (Nat.le_of_ble_eq_true rfl) (Nat.le_of_ble_eq_true rfl) (Nat.le_of_ble_eq_true rfl) rfl (Nat.le_of_ble_eq_true rfl) dX10_takeSettings_18 rfl (fun r2 hr2 pr2 => ?_)
      obtain ⟨rfl, rfl⟩ := pr2
      have o3 := hQ.1
      replace hQ := hQ.2
      refine g_callv mv_X10_diskField ml_X10_365 (c_X10_diskField l g _ _ o3) (ho_199 _ _) rfl rfl (Nat.le_of_ble_eq_true rfl) (Nat.le_of_ble_eq_true rfl) (Nat.le_of_ble_eq_true rfl) (Nat.le_of_ble_eq_true rfl) rfl (Nat.le_of_ble_eq_true rfl) dX10_takeSettings_21 rfl (fun r4 hr4 pr4 => ?_)
      obtain ⟨rfl, rfl⟩ := pr4
      refine g_l2i dX10_takeSettings_24 rfl ?_
      have o5 := hQ.1
      replace hQ := hQ.2
      refine g_iast (ha_217 _ _) o5 pa_217 dX10_takeSettings_25 rfl ?_
      refine g_iload_n dX10_takeSettings_26 rfl rfl rfl ?_
      refine g_iload_n dX10_takeSettings_27 rfl rfl rfl ?_
      refine g_calls mt_X10_widthOf ms_X10_widthOf ml_X10_372 (c_X10_widthOf l g _) rfl (Nat.le_of_ble_eq_true rfl) (Nat.le_of_ble_eq_true rfl) (Nat.le_of_ble_eq_true rfl) (Nat.le_of_ble_eq_true rfl) rfl (Nat.le_of_ble_eq_true rfl) dX10_takeSettings_28 rfl (fun r7 hr7 pr7 => ?_)
      obtain ⟨rfl, rfl⟩ := pr7
      refine g_iadd dX10_takeSettings_31 rfl ?_
      refine g_istoreL_n (L1 := [(0, _), (1, _), (2, _)]) dX10_takeSettings_32 rfl (by decide) rfl rfl ?_
      refine g_iincL (L1 := [(0, _), (1, _), (2, _)]) dX10_takeSettings_33 rfl (by decide) rfl rfl ?_
      refine g_goto (tgt := 4) dX10_takeSettings_36 (by decide) ?_
      refine g_sub [0, 1, 2] rfl ?_
      exact ihL4 _ _ _ hQ hF
noncomputable def Fr_X10_takeSettings (σ : gS)  : gS :=
  G_X10_takeSettings_L4  4000 (1 : Int32) (0 : Int32) σ
noncomputable def F_X10_takeSettings : gS → gS := Classical.choose (⟨Fr_X10_takeSettings, rfl⟩ : ∃ f : gS → gS, f = Fr_X10_takeSettings)
theorem F_X10_takeSettings_eq : F_X10_takeSettings = Fr_X10_takeSettings := Classical.choose_spec (⟨Fr_X10_takeSettings, rfl⟩ : ∃ f : gS → gS, f = Fr_X10_takeSettings)
def Q_X10_takeSettings (σ : gS)  : Prop :=
  QG_X10_takeSettings_L4  4000 (1 : Int32) (0 : Int32) σ
set_option maxHeartbeats 4000000 in
set_option maxRecDepth 100000 in
theorem c_X10_takeSettings (l : Launch) (g : gE)  {σ : gS} {ζ : gQ}  (hQ : Q_X10_takeSettings σ ) : gC l g mX10_takeSettings (rm 1 25) [.ref 199] (hp σ ζ) (fun r h => r = none ∧ h = hp (F_X10_takeSettings σ ) ζ) := by
  refine gC_of (by decide) (Nat.le_of_ble_eq_true rfl) ?_
  generalize hF : (F_X10_takeSettings σ ) = fr
  rw [F_X10_takeSettings_eq] at hF
  unfold Fr_X10_takeSettings at hF
  unfold Q_X10_takeSettings at hQ
  refine g_iconst (v := 1) dX10_takeSettings_0 (by decide) rfl ?_
  refine g_istoreL_n (L1 := [(0, _), (1, _)]) dX10_takeSettings_1 rfl (by decide) rfl rfl ?_
  refine g_iconst (v := 0) dX10_takeSettings_2 (by decide) rfl ?_
  refine g_istoreL_n (L1 := [(0, _), (1, _), (2, _)]) dX10_takeSettings_3 rfl (by decide) rfl rfl ?_
  refine g_sub [0, 1, 2] rfl ?_
  exact t_X10_takeSettings_L4 l g 4000 _ _ _ hQ hF
noncomputable def Fr_X10_opens (σ : gS) (ζ : gQ)  : gS × gQ :=
  let s1 := (pf σ 199 35 (1 : Int32) : gS)
  let z2 := (vp_updL ζ 36 ((ζ 19) + (s1 217 (ix (0 : Int32))).toInt64) : gQ)
  let z3 := (vp_updL z2 37 ((z2 36) + (s1 217 (ix (1 : Int32))).toInt64) : gQ)
  let s4 := (pf s1 199 40 (7 : Int32) : gS)
  (s4, z3)
noncomputable def F_X10_opens : gS → gQ → gS × gQ := Classical.choose (⟨Fr_X10_opens, rfl⟩ : ∃ f : gS → gQ → gS × gQ, f = Fr_X10_opens)
theorem F_X10_opens_eq : F_X10_opens = Fr_X10_opens := Classical.choose_spec (⟨Fr_X10_opens, rfl⟩ : ∃ f : gS → gQ → gS × gQ, f = Fr_X10_opens)
set_option maxHeartbeats 4000000 in
set_option maxRecDepth 100000 in
theorem c_X10_opens (l : Launch) (g : gE)  {σ : gS} {ζ : gQ}  : gC l g mX10_opens (rm 0 0) [.ref 199] (hp σ ζ) (fun r h => r = none ∧ h = hp (F_X10_opens σ ζ ).1 (F_X10_opens σ ζ ).2) := by
  refine gC_of (by decide) (Nat.le_of_ble_eq_true rfl) ?_
  generalize hF : (F_X10_opens σ ζ ) = fr
  rw [F_X10_opens_eq] at hF
  unfold Fr_X10_opens at hF
  refine g_aload_n dX10_opens_0 rfl rfl rfl ?_
  refine g_iconst (v := 1) dX10_opens_1 (by decide) rfl ?_
  refine g_put gClX10 35 (by decide) fl_X10_256 rfl dX10_opens_2 (ho_199 _ _) rfl rfl (Nat.le_of_ble_eq_true rfl) po_199_35 rfl ?_
  refine g_aload_n dX10_opens_5 rfl rfl rfl ?_
  refine g_aload_n dX10_opens_6 rfl rfl rfl ?_
  refine g_get gClX10 19 (by decide) fl_X10_182 dX10_opens_7 (ho_199 _ _) rfl rfl ?_
  refine g_aload_n dX10_opens_10 rfl rfl rfl ?_
  refine g_get gClX10 34 (by decide) fl_X10_63 dX10_opens_11 (ho_199 _ _) rfl rfl ?_
  refine g_iconst (v := 0) dX10_opens_14 (by decide) rfl ?_
  refine g_iald (ha_217 _ _) (vinc (by decide)) dX10_opens_15 rfl ?_
  refine g_i2l dX10_opens_16 rfl ?_
  refine g_ladd dX10_opens_17 rfl ?_
  refine g_put gClX10 36 (by decide) fl_X10_259 rfl dX10_opens_18 (ho_199 _ _) rfl rfl (Nat.le_of_ble_eq_true rfl) pz_36 rfl ?_
  refine g_aload_n dX10_opens_21 rfl rfl rfl ?_
  refine g_aload_n dX10_opens_22 rfl rfl rfl ?_
  refine g_get gClX10 36 (by decide) fl_X10_259 dX10_opens_23 (ho_199 _ _) rfl rfl ?_
  refine g_aload_n dX10_opens_26 rfl rfl rfl ?_
  refine g_get gClX10 34 (by decide) fl_X10_63 dX10_opens_27 (ho_199 _ _) rfl rfl ?_
  refine g_iconst (v := 1) dX10_opens_30 (by decide) rfl ?_
  refine g_iald (ha_217 _ _) (vinc (by decide)) dX10_opens_31 rfl ?_
  refine g_i2l dX10_opens_32 rfl ?_
  refine g_ladd dX10_opens_33 rfl ?_
  refine g_put gClX10 37 (by decide) fl_X10_265 rfl dX10_opens_34 (ho_199 _ _) rfl rfl (Nat.le_of_ble_eq_true rfl) pz_37 rfl ?_
  refine g_aload_n dX10_opens_37 rfl rfl rfl ?_
  refine g_bipush (v := 7) dX10_opens_38 (by decide) rfl ?_
  refine g_put gClX10 40 (by decide) fl_X10_271 rfl dX10_opens_40 (ho_199 _ _) rfl rfl (Nat.le_of_ble_eq_true rfl) po_199_40 rfl ?_
  subst hF
  exact g_vret rfl dX10_opens_43 (Nat.le_of_ble_eq_true rfl) (Nat.le_of_ble_eq_true rfl) ⟨rfl, rfl⟩
noncomputable def J_X10_shuts_48 (p0 : Int32) (u0 : Int32) (σ : gS) (ζ : gQ) : gS × gQ :=
  if u0 = 0 then
    (σ, ζ)
  else
    let f6 := (F_X10_put_ σ ζ (62 : Int32) (0 : Int32) p0)
    if f6.1 = 0 then
      (f6.2.1, f6.2.2)
    else
      let s8 := (pf f6.2.1 199 35 (0 : Int32) : gS)
      let s9 := (pf s8 199 38 (0 : Int32) : gS)
      let s10 := (pf s9 199 48 (-1 : Int32) : gS)
      let s11 := (pf s10 199 47 (-1 : Int32) : gS)
      let s12 := (pf s11 199 42 (0 : Int32) : gS)
      let s13 := (pf s12 199 40 (0 : Int32) : gS)
      let s15 := (F_X10_insideTo s13 (7 : Int32) (12 : Int32))
      (s15, f6.2.2)
def QJ_X10_shuts_48 (p0 : Int32) (u0 : Int32) (σ : gS) (ζ : gQ) : Prop :=
  if u0 = 0 then
    (True)
  else
    ((Q_X10_put_ σ ζ (62 : Int32) (0 : Int32) p0) ∧ (let f6 := (F_X10_put_ σ ζ (62 : Int32) (0 : Int32) p0)
    if f6.1 = 0 then
      (True)
    else
      (let s8 := (pf f6.2.1 199 35 (0 : Int32) : gS)
      let s9 := (pf s8 199 38 (0 : Int32) : gS)
      let s10 := (pf s9 199 48 (-1 : Int32) : gS)
      let s11 := (pf s10 199 47 (-1 : Int32) : gS)
      let s12 := (pf s11 199 42 (0 : Int32) : gS)
      let s13 := (pf s12 199 40 (0 : Int32) : gS)
      let s15 := (F_X10_insideTo s13 (7 : Int32) (12 : Int32))
      True)))
set_option maxHeartbeats 4000000 in
set_option maxRecDepth 100000 in
theorem j_X10_shuts_48 (l : Launch) (g : gE) {p0 : Int32} {fr : gS × gQ} : ∀ (u0 : Int32) (σ : gS) (ζ : gQ), QJ_X10_shuts_48 p0 u0 σ ζ → J_X10_shuts_48 p0 u0 σ ζ = fr → gG l g mX10_shuts (rm 7 203) (gZm g (rm 7 203) (fun r h => r = none ∧ h = hp fr.1 fr.2)) 48 [(0, .ref 199), (1, .int p0)] [.int u0] (hp σ ζ) 0 0 := by
  intro u0 σ ζ hQ hF
  unfold J_X10_shuts_48 at hF
  unfold QJ_X10_shuts_48 at hQ
  refine g_istoreL_n (L1 := [(0, _), (1, _), (2, _)]) dX10_shuts_48 rfl (by decide) rfl rfl ?_
  refine g_iload_n dX10_shuts_49 rfl rfl rfl ?_
  refine g_ifeq (tgt := 102) dX10_shuts_50 (by decide) rfl (fun c3 => ?_) (fun c3 => ?_)
  · replace hF := ite_p hF c3
    try replace hQ := ite_q hQ c3
    subst hF
    exact g_vret rfl dX10_shuts_102 (Nat.le_of_ble_eq_true rfl) (Nat.le_of_ble_eq_true rfl) ⟨rfl, rfl⟩
  · replace hF := ite_n hF c3
    try replace hQ := ite_r hQ c3
    refine g_aload_n dX10_shuts_53 rfl rfl rfl ?_
    refine g_bipush (v := 62) dX10_shuts_54 (by decide) rfl ?_
    refine g_iconst (v := 0) dX10_shuts_56 (by decide) rfl ?_
    refine g_iload_n dX10_shuts_57 rfl rfl rfl ?_
    have o4 := hQ.1
    replace hQ := hQ.2
    refine g_callv mv_X10_put_ ml_X10_239 (c_X10_put_ l g _ _ _ o4) (ho_199 _ _) rfl rfl (Nat.le_of_ble_eq_true rfl) (Nat.le_of_ble_eq_true rfl) (Nat.le_of_ble_eq_true rfl) (Nat.le_of_ble_eq_true rfl) rfl (Nat.le_of_ble_eq_true rfl) dX10_shuts_58 rfl (fun r5 hr5 pr5 => ?_)
    obtain ⟨rfl, rfl⟩ := pr5
    refine g_ifeq (tgt := 102) dX10_shuts_61 (by decide) rfl (fun c7 => ?_) (fun c7 => ?_)
    · replace hF := ite_p hF c7
      try replace hQ := ite_q hQ c7
      subst hF
      exact g_vret rfl dX10_shuts_102 (Nat.le_of_ble_eq_true rfl) (Nat.le_of_ble_eq_true rfl) ⟨rfl, rfl⟩
    · replace hF := ite_n hF c7
      try replace hQ := ite_r hQ c7
      refine g_aload_n dX10_shuts_64 rfl rfl rfl ?_
      refine g_iconst (v := 0) dX10_shuts_65 (by decide) rfl ?_
      refine g_put gClX10 35 (by decide) fl_X10_256 rfl dX10_shuts_66 (ho_199 _ _) rfl rfl (Nat.le_of_ble_eq_true rfl) po_199_35 rfl ?_
      refine g_aload_n dX10_shuts_69 rfl rfl rfl ?_
      refine g_iconst (v := 0) dX10_shuts_70 (by decide) rfl ?_
      refine g_put gClX10 38 (by decide) fl_X10_268 rfl dX10_shuts_71 (ho_199 _ _) rfl rfl (Nat.le_of_ble_eq_true rfl) po_199_38 rfl ?_
      refine g_aload_n dX10_shuts_74 rfl rfl rfl ?_
      refine g_iconst (v := (-1)) dX10_shuts_75 (by decide) rfl ?_
      refine g_put gClX10 48 (by decide) fl_X10_85 rfl dX10_shuts_76 (ho_199 _ _) rfl rfl (Nat.le_of_ble_eq_true rfl) po_199_48 rfl ?_
      refine g_aload_n dX10_shuts_79 rfl rfl rfl ?_
      refine g_iconst (v := (-1)) dX10_shuts_80 (by decide) rfl ?_
      refine g_put gClX10 47 (by decide) fl_X10_94 rfl dX10_shuts_81 (ho_199 _ _) rfl rfl (Nat.le_of_ble_eq_true rfl) po_199_47 rfl ?_
      refine g_aload_n dX10_shuts_84 rfl rfl rfl ?_
      refine g_iconst (v := 0) dX10_shuts_85 (by decide) rfl ?_
      refine g_put gClX10 42 (by decide) fl_X10_246 rfl dX10_shuts_86 (ho_199 _ _) rfl rfl (Nat.le_of_ble_eq_true rfl) po_199_42 rfl ?_
      refine g_aload_n dX10_shuts_89 rfl rfl rfl ?_
      refine g_iconst (v := 0) dX10_shuts_90 (by decide) rfl ?_
      refine g_put gClX10 40 (by decide) fl_X10_271 rfl dX10_shuts_91 (ho_199 _ _) rfl rfl (Nat.le_of_ble_eq_true rfl) po_199_40 rfl ?_
      refine g_aload_n dX10_shuts_94 rfl rfl rfl ?_
      refine g_bipush (v := 7) dX10_shuts_95 (by decide) rfl ?_
      refine g_bipush (v := 12) dX10_shuts_97 (by decide) rfl ?_
      refine g_callv mv_X10_insideTo ml_X10_325 (c_X10_insideTo l g _ _) (ho_199 _ _) rfl rfl (Nat.le_of_ble_eq_true rfl) (Nat.le_of_ble_eq_true rfl) (Nat.le_of_ble_eq_true rfl) (Nat.le_of_ble_eq_true rfl) rfl (Nat.le_of_ble_eq_true rfl) dX10_shuts_99 rfl (fun r14 hr14 pr14 => ?_)
      obtain ⟨rfl, rfl⟩ := pr14
      subst hF
      exact g_vret rfl dX10_shuts_102 (Nat.le_of_ble_eq_true rfl) (Nat.le_of_ble_eq_true rfl) ⟨rfl, rfl⟩
noncomputable def J_X10_shuts_43 (p0 : Int32) (σ : gS) (ζ : gQ) : gS × gQ :=
  J_X10_shuts_48 p0 (1 : Int32) σ ζ
def QJ_X10_shuts_43 (p0 : Int32) (σ : gS) (ζ : gQ) : Prop :=
  QJ_X10_shuts_48 p0 (1 : Int32) σ ζ
set_option maxHeartbeats 4000000 in
set_option maxRecDepth 100000 in
theorem j_X10_shuts_43 (l : Launch) (g : gE) {p0 : Int32} {fr : gS × gQ} : ∀ (σ : gS) (ζ : gQ), QJ_X10_shuts_43 p0 σ ζ → J_X10_shuts_43 p0 σ ζ = fr → gG l g mX10_shuts (rm 7 203) (gZm g (rm 7 203) (fun r h => r = none ∧ h = hp fr.1 fr.2)) 43 [(0, .ref 199), (1, .int p0)] [] (hp σ ζ) 0 0 := by
  intro σ ζ hQ hF
  unfold J_X10_shuts_43 at hF
  unfold QJ_X10_shuts_43 at hQ
  refine g_iconst (v := 1) dX10_shuts_43 (by decide) rfl ?_
  refine g_goto (tgt := 48) dX10_shuts_44 (by decide) ?_
  refine g_sub [0, 1] rfl ?_
  exact j_X10_shuts_48 l g _ _ _ hQ hF
noncomputable def Fr_X10_shuts (σ : gS) (ζ : gQ) (p0 : Int32) : gS × gQ :=
  if (σ 199 23) = 0 then
    if (σ 199 35) = 0 then
      J_X10_shuts_43 p0 σ ζ
    else
      let f18 := (F_X10_put_ σ ζ (23 : Int32) (0 : Int32) (-1 : Int32))
      if f18.1 = 0 then
        J_X10_shuts_48 p0 (0 : Int32) f18.2.1 f18.2.2
      else
        J_X10_shuts_43 p0 f18.2.1 f18.2.2
  else
    let f22 := (F_X10_put_ σ ζ (63 : Int32) (1 : Int32) p0)
    if f22.1 = 0 then
      (f22.2.1, f22.2.2)
    else
      let s25 := (F_X10_insideTo f22.2.1 (2 : Int32) (5 : Int32))
      (s25, f22.2.2)
noncomputable def F_X10_shuts : gS → gQ → Int32 → gS × gQ := Classical.choose (⟨Fr_X10_shuts, rfl⟩ : ∃ f : gS → gQ → Int32 → gS × gQ, f = Fr_X10_shuts)
theorem F_X10_shuts_eq : F_X10_shuts = Fr_X10_shuts := Classical.choose_spec (⟨Fr_X10_shuts, rfl⟩ : ∃ f : gS → gQ → Int32 → gS × gQ, f = Fr_X10_shuts)
def Q_X10_shuts (σ : gS) (ζ : gQ) (p0 : Int32) : Prop :=
  if (σ 199 23) = 0 then
    (if (σ 199 35) = 0 then
      (QJ_X10_shuts_43 p0 σ ζ)
    else
      ((Q_X10_put_ σ ζ (23 : Int32) (0 : Int32) (-1 : Int32)) ∧ (let f18 := (F_X10_put_ σ ζ (23 : Int32) (0 : Int32) (-1 : Int32))
      if f18.1 = 0 then
        (QJ_X10_shuts_48 p0 (0 : Int32) f18.2.1 f18.2.2)
      else
        (QJ_X10_shuts_43 p0 f18.2.1 f18.2.2))))
  else
    ((Q_X10_put_ σ ζ (63 : Int32) (1 : Int32) p0) ∧ (let f22 := (F_X10_put_ σ ζ (63 : Int32) (1 : Int32) p0)
    if f22.1 = 0 then
      (True)
    else
      (let s25 := (F_X10_insideTo f22.2.1 (2 : Int32) (5 : Int32))
      True)))
set_option maxHeartbeats 4000000 in
set_option maxRecDepth 100000 in
theorem c_X10_shuts (l : Launch) (g : gE)  {σ : gS} {ζ : gQ} (p0 : Int32) (hQ : Q_X10_shuts σ ζ p0) : gC l g mX10_shuts (rm 7 203) [.ref 199, .int p0] (hp σ ζ) (fun r h => r = none ∧ h = hp (F_X10_shuts σ ζ p0).1 (F_X10_shuts σ ζ p0).2) := by
  refine gC_of (by decide) (Nat.le_of_ble_eq_true rfl) ?_
  generalize hF : (F_X10_shuts σ ζ p0) = fr
  rw [F_X10_shuts_eq] at hF
  unfold Fr_X10_shuts at hF
  unfold Q_X10_shuts at hQ
  refine g_aload_n dX10_shuts_0 rfl rfl rfl ?_
  refine g_get gClX10 23 (by decide) fl_X10_193 dX10_shuts_1 (ho_199 _ _) rfl rfl ?_
  refine g_ifeq (tgt := 25) dX10_shuts_4 (by decide) rfl (fun c1 => ?_) (fun c1 => ?_)
  · replace hF := ite_p hF c1
    try replace hQ := ite_q hQ c1
    refine g_aload_n dX10_shuts_25 rfl rfl rfl ?_
    refine g_get gClX10 35 (by decide) fl_X10_256 dX10_shuts_26 (ho_199 _ _) rfl rfl ?_
    refine g_ifeq (tgt := 43) dX10_shuts_29 (by decide) rfl (fun c2 => ?_) (fun c2 => ?_)
    · replace hF := ite_p hF c2
      try replace hQ := ite_q hQ c2
      refine g_sub [0, 1] rfl ?_
      exact j_X10_shuts_43 l g _ _ hQ hF
    · replace hF := ite_n hF c2
      try replace hQ := ite_r hQ c2
      refine g_aload_n dX10_shuts_32 rfl rfl rfl ?_
      refine g_bipush (v := 23) dX10_shuts_33 (by decide) rfl ?_
      refine g_iconst (v := 0) dX10_shuts_35 (by decide) rfl ?_
      refine g_iconst (v := (-1)) dX10_shuts_36 (by decide) rfl ?_
      have o16 := hQ.1
      replace hQ := hQ.2
      refine g_callv mv_X10_put_ ml_X10_239 (c_X10_put_ l g _ _ _ o16) (ho_199 _ _) rfl rfl (Nat.le_of_ble_eq_true rfl) (Nat.le_of_ble_eq_true rfl) (Nat.le_of_ble_eq_true rfl) (Nat.le_of_ble_eq_true rfl) rfl (Nat.le_of_ble_eq_true rfl) dX10_shuts_37 rfl (fun r17 hr17 pr17 => ?_)
      obtain ⟨rfl, rfl⟩ := pr17
      refine g_ifeq (tgt := 47) dX10_shuts_40 (by decide) rfl (fun c19 => ?_) (fun c19 => ?_)
      · replace hF := ite_p hF c19
        try replace hQ := ite_q hQ c19
        refine g_iconst (v := 0) dX10_shuts_47 (by decide) rfl ?_
        refine g_sub [0, 1] rfl ?_
        exact j_X10_shuts_48 l g _ _ _ hQ hF
      · replace hF := ite_n hF c19
        try replace hQ := ite_r hQ c19
        refine g_sub [0, 1] rfl ?_
        exact j_X10_shuts_43 l g _ _ hQ hF
  · replace hF := ite_n hF c1
    try replace hQ := ite_r hQ c1
    refine g_aload_n dX10_shuts_7 rfl rfl rfl ?_
    refine g_bipush (v := 63) dX10_shuts_8 (by decide) rfl ?_
    refine g_iconst (v := 1) dX10_shuts_10 (by decide) rfl ?_
    refine g_iload_n dX10_shuts_11 rfl rfl rfl ?_
    have o20 := hQ.1
    replace hQ := hQ.2
    refine g_callv mv_X10_put_ ml_X10_239 (c_X10_put_ l g _ _ _ o20) (ho_199 _ _) rfl rfl (Nat.le_of_ble_eq_true rfl) (Nat.le_of_ble_eq_true rfl) (Nat.le_of_ble_eq_true rfl) (Nat.le_of_ble_eq_true rfl) rfl (Nat.le_of_ble_eq_true rfl) dX10_shuts_12 rfl (fun r21 hr21 pr21 => ?_)
    obtain ⟨rfl, rfl⟩ := pr21
    refine g_ifeq (tgt := 24) dX10_shuts_15 (by decide) rfl (fun c23 => ?_) (fun c23 => ?_)
    · replace hF := ite_p hF c23
      try replace hQ := ite_q hQ c23
      subst hF
      exact g_vret rfl dX10_shuts_24 (Nat.le_of_ble_eq_true rfl) (Nat.le_of_ble_eq_true rfl) ⟨rfl, rfl⟩
    · replace hF := ite_n hF c23
      try replace hQ := ite_r hQ c23
      refine g_aload_n dX10_shuts_18 rfl rfl rfl ?_
      refine g_iconst (v := 2) dX10_shuts_19 (by decide) rfl ?_
      refine g_iconst (v := 5) dX10_shuts_20 (by decide) rfl ?_
      refine g_callv mv_X10_insideTo ml_X10_325 (c_X10_insideTo l g _ _) (ho_199 _ _) rfl rfl (Nat.le_of_ble_eq_true rfl) (Nat.le_of_ble_eq_true rfl) (Nat.le_of_ble_eq_true rfl) (Nat.le_of_ble_eq_true rfl) rfl (Nat.le_of_ble_eq_true rfl) dX10_shuts_21 rfl (fun r24 hr24 pr24 => ?_)
      obtain ⟨rfl, rfl⟩ := pr24
      subst hF
      exact g_vret rfl dX10_shuts_24 (Nat.le_of_ble_eq_true rfl) (Nat.le_of_ble_eq_true rfl) ⟨rfl, rfl⟩
noncomputable def J_X10_works_141 (p0 : Int32) (y2 : Int32) (σ : gS) (ζ : gQ) : Int32 × gS × gQ :=
  if y2 = 0 then
    let s19 := (F_X10_insideTo σ (2 : Int32) (10 : Int32))
    ((1 : Int32), s19, ζ)
  else
    let s21 := (F_X10_insideTo σ (2 : Int32) (5 : Int32))
    ((1 : Int32), s21, ζ)
def QJ_X10_works_141 (p0 : Int32) (y2 : Int32) (σ : gS) (ζ : gQ) : Prop :=
  if y2 = 0 then
    (let s19 := (F_X10_insideTo σ (2 : Int32) (10 : Int32))
    True)
  else
    (let s21 := (F_X10_insideTo σ (2 : Int32) (5 : Int32))
    True)
set_option maxHeartbeats 4000000 in
set_option maxRecDepth 100000 in
theorem j_X10_works_141 (l : Launch) (g : gE) {p0 : Int32} {fr : Int32 × gS × gQ} : ∀ (y2 : Int32) (σ : gS) (ζ : gQ), QJ_X10_works_141 p0 y2 σ ζ → J_X10_works_141 p0 y2 σ ζ = fr → gG l g mX10_works (rm 8 228) (gZm g (rm 8 228) (fun r h => r = some (.int fr.1) ∧ h = hp fr.2.1 fr.2.2)) 141 [(0, .ref 199), (2, .int y2)] [] (hp σ ζ) 0 0 := by
  intro y2 σ ζ hQ hF
  unfold J_X10_works_141 at hF
  unfold QJ_X10_works_141 at hQ
  refine g_aload_n dX10_works_141 rfl rfl rfl ?_
  refine g_iconst (v := 2) dX10_works_142 (by decide) rfl ?_
  refine g_iload_n dX10_works_143 rfl rfl rfl ?_
  refine g_ifeq (tgt := 151) dX10_works_144 (by decide) rfl (fun c17 => ?_) (fun c17 => ?_)
  · replace hF := ite_p hF c17
    try replace hQ := ite_q hQ c17
    refine g_bipush (v := 10) dX10_works_151 (by decide) rfl ?_
    refine g_callv mv_X10_insideTo ml_X10_325 (c_X10_insideTo l g _ _) (ho_199 _ _) rfl rfl (Nat.le_of_ble_eq_true rfl) (Nat.le_of_ble_eq_true rfl) (Nat.le_of_ble_eq_true rfl) (Nat.le_of_ble_eq_true rfl) rfl (Nat.le_of_ble_eq_true rfl) dX10_works_153 rfl (fun r18 hr18 pr18 => ?_)
    obtain ⟨rfl, rfl⟩ := pr18
    refine g_goto (tgt := 199) dX10_works_156 (by decide) ?_
    refine g_iconst (v := 1) dX10_works_199 (by decide) rfl ?_
    subst hF
    exact g_zret rfl dX10_works_200 (by decide) (Nat.le_of_ble_eq_true rfl) (Nat.le_of_ble_eq_true rfl) ⟨rfl, rfl⟩
  · replace hF := ite_n hF c17
    try replace hQ := ite_r hQ c17
    refine g_iconst (v := 5) dX10_works_147 (by decide) rfl ?_
    refine g_goto (tgt := 153) dX10_works_148 (by decide) ?_
    refine g_callv mv_X10_insideTo ml_X10_325 (c_X10_insideTo l g _ _) (ho_199 _ _) rfl rfl (Nat.le_of_ble_eq_true rfl) (Nat.le_of_ble_eq_true rfl) (Nat.le_of_ble_eq_true rfl) (Nat.le_of_ble_eq_true rfl) rfl (Nat.le_of_ble_eq_true rfl) dX10_works_153 rfl (fun r20 hr20 pr20 => ?_)
    obtain ⟨rfl, rfl⟩ := pr20
    refine g_goto (tgt := 199) dX10_works_156 (by decide) ?_
    refine g_iconst (v := 1) dX10_works_199 (by decide) rfl ?_
    subst hF
    exact g_zret rfl dX10_works_200 (by decide) (Nat.le_of_ble_eq_true rfl) (Nat.le_of_ble_eq_true rfl) ⟨rfl, rfl⟩
noncomputable def J_X10_works_126 (p0 : Int32) (y2 : Int32) (u0 : Int32) (u1 : Int32) (σ : gS) (ζ : gQ) : Int32 × gS × gQ :=
  let f14 := (F_X10_put_ σ ζ u0 u1 p0)
  if f14.1 = 0 then
    ((1 : Int32), f14.2.1, f14.2.2)
  else
    if y2 = 0 then
      J_X10_works_141 p0 y2 f14.2.1 f14.2.2
    else
      let s24 := (F_X10_takeSettings f14.2.1 )
      J_X10_works_141 p0 y2 s24 f14.2.2
def QJ_X10_works_126 (p0 : Int32) (y2 : Int32) (u0 : Int32) (u1 : Int32) (σ : gS) (ζ : gQ) : Prop :=
  (Q_X10_put_ σ ζ u0 u1 p0) ∧ (let f14 := (F_X10_put_ σ ζ u0 u1 p0)
  if f14.1 = 0 then
    (True)
  else
    (if y2 = 0 then
      (QJ_X10_works_141 p0 y2 f14.2.1 f14.2.2)
    else
      ((Q_X10_takeSettings f14.2.1 ) ∧ (let s24 := (F_X10_takeSettings f14.2.1 )
      QJ_X10_works_141 p0 y2 s24 f14.2.2))))
set_option maxHeartbeats 4000000 in
set_option maxRecDepth 100000 in
theorem j_X10_works_126 (l : Launch) (g : gE) {p0 : Int32} {fr : Int32 × gS × gQ} : ∀ (y2 : Int32) (u0 : Int32) (u1 : Int32) (σ : gS) (ζ : gQ), QJ_X10_works_126 p0 y2 u0 u1 σ ζ → J_X10_works_126 p0 y2 u0 u1 σ ζ = fr → gG l g mX10_works (rm 8 228) (gZm g (rm 8 228) (fun r h => r = some (.int fr.1) ∧ h = hp fr.2.1 fr.2.2)) 126 [(0, .ref 199), (1, .int p0), (2, .int y2)] [.int u1, .int u0, .ref 199] (hp σ ζ) 0 0 := by
  intro y2 u0 u1 σ ζ hQ hF
  unfold J_X10_works_126 at hF
  unfold QJ_X10_works_126 at hQ
  refine g_iload_n dX10_works_126 rfl rfl rfl ?_
  have o12 := hQ.1
  replace hQ := hQ.2
  refine g_callv mv_X10_put_ ml_X10_239 (c_X10_put_ l g _ _ _ o12) (ho_199 _ _) rfl rfl (Nat.le_of_ble_eq_true rfl) (Nat.le_of_ble_eq_true rfl) (Nat.le_of_ble_eq_true rfl) (Nat.le_of_ble_eq_true rfl) rfl (Nat.le_of_ble_eq_true rfl) dX10_works_127 rfl (fun r13 hr13 pr13 => ?_)
  obtain ⟨rfl, rfl⟩ := pr13
  refine g_ifeq (tgt := 199) dX10_works_130 (by decide) rfl (fun c15 => ?_) (fun c15 => ?_)
  · replace hF := ite_p hF c15
    try replace hQ := ite_q hQ c15
    refine g_iconst (v := 1) dX10_works_199 (by decide) rfl ?_
    subst hF
    exact g_zret rfl dX10_works_200 (by decide) (Nat.le_of_ble_eq_true rfl) (Nat.le_of_ble_eq_true rfl) ⟨rfl, rfl⟩
  · replace hF := ite_n hF c15
    try replace hQ := ite_r hQ c15
    refine g_iload_n dX10_works_133 rfl rfl rfl ?_
    refine g_ifeq (tgt := 141) dX10_works_134 (by decide) rfl (fun c16 => ?_) (fun c16 => ?_)
    · replace hF := ite_p hF c16
      try replace hQ := ite_q hQ c16
      refine g_sub [0, 2] rfl ?_
      exact j_X10_works_141 l g _ _ _ hQ hF
    · replace hF := ite_n hF c16
      try replace hQ := ite_r hQ c16
      refine g_aload_n dX10_works_137 rfl rfl rfl ?_
      have o22 := hQ.1
      replace hQ := hQ.2
      refine g_callv mv_X10_takeSettings ml_X10_349 (c_X10_takeSettings l g o22) (ho_199 _ _) rfl rfl (Nat.le_of_ble_eq_true rfl) (Nat.le_of_ble_eq_true rfl) (Nat.le_of_ble_eq_true rfl) (Nat.le_of_ble_eq_true rfl) rfl (Nat.le_of_ble_eq_true rfl) dX10_works_138 rfl (fun r23 hr23 pr23 => ?_)
      obtain ⟨rfl, rfl⟩ := pr23
      refine g_sub [0, 2] rfl ?_
      exact j_X10_works_141 l g _ _ _ hQ hF
noncomputable def J_X10_works_117 (p0 : Int32) (y2 : Int32) (u0 : Int32) (σ : gS) (ζ : gQ) : Int32 × gS × gQ :=
  if y2 = 0 then
    J_X10_works_126 p0 y2 u0 (1 : Int32) σ ζ
  else
    J_X10_works_126 p0 y2 u0 (0 : Int32) σ ζ
def QJ_X10_works_117 (p0 : Int32) (y2 : Int32) (u0 : Int32) (σ : gS) (ζ : gQ) : Prop :=
  if y2 = 0 then
    (QJ_X10_works_126 p0 y2 u0 (1 : Int32) σ ζ)
  else
    (QJ_X10_works_126 p0 y2 u0 (0 : Int32) σ ζ)
set_option maxHeartbeats 4000000 in
set_option maxRecDepth 100000 in
theorem j_X10_works_117 (l : Launch) (g : gE) {p0 : Int32} {fr : Int32 × gS × gQ} : ∀ (y2 : Int32) (u0 : Int32) (σ : gS) (ζ : gQ), QJ_X10_works_117 p0 y2 u0 σ ζ → J_X10_works_117 p0 y2 u0 σ ζ = fr → gG l g mX10_works (rm 8 228) (gZm g (rm 8 228) (fun r h => r = some (.int fr.1) ∧ h = hp fr.2.1 fr.2.2)) 117 [(0, .ref 199), (1, .int p0), (2, .int y2)] [.int u0, .ref 199] (hp σ ζ) 0 0 := by
  intro y2 u0 σ ζ hQ hF
  unfold J_X10_works_117 at hF
  unfold QJ_X10_works_117 at hQ
  refine g_iload_n dX10_works_117 rfl rfl rfl ?_
  refine g_ifeq (tgt := 125) dX10_works_118 (by decide) rfl (fun c11 => ?_) (fun c11 => ?_)
  · replace hF := ite_p hF c11
    try replace hQ := ite_q hQ c11
    refine g_iconst (v := 1) dX10_works_125 (by decide) rfl ?_
    refine g_sub [0, 1, 2] rfl ?_
    exact j_X10_works_126 l g _ _ _ _ _ hQ hF
  · replace hF := ite_n hF c11
    try replace hQ := ite_r hQ c11
    refine g_iconst (v := 0) dX10_works_121 (by decide) rfl ?_
    refine g_goto (tgt := 126) dX10_works_122 (by decide) ?_
    refine g_sub [0, 1, 2] rfl ?_
    exact j_X10_works_126 l g _ _ _ _ _ hQ hF
noncomputable def J_X10_works_62 (p0 : Int32) (σ : gS) (ζ : gQ) : Int32 × gS × gQ :=
  if (σ 199 49) = 1 then
    let f6 := (F_X10_archives σ ζ p0)
    ((1 : Int32), f6.1, f6.2)
  else
    if (σ 199 49) = 2 then
      if (F_X10_isSettings σ ) = 0 then
        J_X10_works_117 p0 (F_X10_isSettings σ ) (60 : Int32) σ ζ
      else
        J_X10_works_117 p0 (F_X10_isSettings σ ) (59 : Int32) σ ζ
    else
      if (σ 199 49) = 3 then
        let f28 := (F_X10_put_ σ ζ (61 : Int32) (0 : Int32) p0)
        if f28.1 = 0 then
          ((1 : Int32), f28.2.1, f28.2.2)
        else
          let f32 := (F_X10_put_ f28.2.1 f28.2.2 (22 : Int32) (0 : Int32) p0)
          if f32.1 = 0 then
            ((1 : Int32), f32.2.1, f32.2.2)
          else
            let f35 := (F_X10_opens f32.2.1 f32.2.2 )
            let s37 := (F_X10_insideTo f35.1 (2 : Int32) (5 : Int32))
            ((1 : Int32), s37, f35.2)
      else
        let f40 := (F_X10_shuts σ ζ p0)
        ((1 : Int32), f40.1, f40.2)
def QJ_X10_works_62 (p0 : Int32) (σ : gS) (ζ : gQ) : Prop :=
  if (σ 199 49) = 1 then
    ((Q_X10_archives σ ζ p0) ∧ (let f6 := (F_X10_archives σ ζ p0)
    True))
  else
    (if (σ 199 49) = 2 then
      ((Q_X10_isSettings σ ) ∧ (if (F_X10_isSettings σ ) = 0 then
        (QJ_X10_works_117 p0 (F_X10_isSettings σ ) (60 : Int32) σ ζ)
      else
        (QJ_X10_works_117 p0 (F_X10_isSettings σ ) (59 : Int32) σ ζ)))
    else
      (if (σ 199 49) = 3 then
        ((Q_X10_put_ σ ζ (61 : Int32) (0 : Int32) p0) ∧ (let f28 := (F_X10_put_ σ ζ (61 : Int32) (0 : Int32) p0)
        if f28.1 = 0 then
          (True)
        else
          ((Q_X10_put_ f28.2.1 f28.2.2 (22 : Int32) (0 : Int32) p0) ∧ (let f32 := (F_X10_put_ f28.2.1 f28.2.2 (22 : Int32) (0 : Int32) p0)
          if f32.1 = 0 then
            (True)
          else
            (let f35 := (F_X10_opens f32.2.1 f32.2.2 )
            let s37 := (F_X10_insideTo f35.1 (2 : Int32) (5 : Int32))
            True)))))
      else
        ((Q_X10_shuts σ ζ p0) ∧ (let f40 := (F_X10_shuts σ ζ p0)
        True))))
set_option maxHeartbeats 4000000 in
set_option maxRecDepth 100000 in
theorem j_X10_works_62 (l : Launch) (g : gE) {p0 : Int32} {fr : Int32 × gS × gQ} : ∀ (σ : gS) (ζ : gQ), QJ_X10_works_62 p0 σ ζ → J_X10_works_62 p0 σ ζ = fr → gG l g mX10_works (rm 8 228) (gZm g (rm 8 228) (fun r h => r = some (.int fr.1) ∧ h = hp fr.2.1 fr.2.2)) 62 [(0, .ref 199), (1, .int p0)] [] (hp σ ζ) 0 0 := by
  intro σ ζ hQ hF
  unfold J_X10_works_62 at hF
  unfold QJ_X10_works_62 at hQ
  refine g_aload_n dX10_works_62 rfl rfl rfl ?_
  refine g_get gClX10 49 (by decide) fl_X10_274 dX10_works_63 (ho_199 _ _) rfl rfl ?_
  refine g_case 1 (fun c3 => ?_) (fun c3 => ?_)
  · replace hF := ite_p hF c3
    try replace hQ := ite_q hQ c3
    refine g_table (tgt := 92) dX10_works_66 (by decide) (by decide) ?_
    refine g_aload_n dX10_works_92 rfl rfl rfl ?_
    refine g_iload_n dX10_works_93 rfl rfl rfl ?_
    have o4 := hQ.1
    replace hQ := hQ.2
    refine g_callv mv_X10_archives ml_X10_343 (c_X10_archives l g _ o4) (ho_199 _ _) rfl rfl (Nat.le_of_ble_eq_true rfl) (Nat.le_of_ble_eq_true rfl) (Nat.le_of_ble_eq_true rfl) (Nat.le_of_ble_eq_true rfl) rfl (Nat.le_of_ble_eq_true rfl) dX10_works_94 rfl (fun r5 hr5 pr5 => ?_)
    obtain ⟨rfl, rfl⟩ := pr5
    refine g_goto (tgt := 199) dX10_works_97 (by decide) ?_
    refine g_iconst (v := 1) dX10_works_199 (by decide) rfl ?_
    subst hF
    exact g_zret rfl dX10_works_200 (by decide) (Nat.le_of_ble_eq_true rfl) (Nat.le_of_ble_eq_true rfl) ⟨rfl, rfl⟩
  · replace hF := ite_n hF c3
    try replace hQ := ite_r hQ c3
    refine g_case 2 (fun c7 => ?_) (fun c7 => ?_)
    · replace hF := ite_p hF c7
      try replace hQ := ite_q hQ c7
      refine g_table (tgt := 100) dX10_works_66 (by decide) (by decide) ?_
      refine g_aload_n dX10_works_100 rfl rfl rfl ?_
      have o8 := hQ.1
      replace hQ := hQ.2
      refine g_callv mv_X10_isSettings ml_X10_346 (c_X10_isSettings l g o8) (ho_199 _ _) rfl rfl (Nat.le_of_ble_eq_true rfl) (Nat.le_of_ble_eq_true rfl) (Nat.le_of_ble_eq_true rfl) (Nat.le_of_ble_eq_true rfl) rfl (Nat.le_of_ble_eq_true rfl) dX10_works_101 rfl (fun r9 hr9 pr9 => ?_)
      obtain ⟨rfl, rfl⟩ := pr9
      refine g_istoreL_n (L1 := [(0, _), (1, _), (2, _)]) dX10_works_104 rfl (by decide) rfl rfl ?_
      refine g_aload_n dX10_works_105 rfl rfl rfl ?_
      refine g_iload_n dX10_works_106 rfl rfl rfl ?_
      refine g_ifeq (tgt := 115) dX10_works_107 (by decide) rfl (fun c10 => ?_) (fun c10 => ?_)
      · replace hF := ite_p hF c10
        try replace hQ := ite_q hQ c10
        refine g_bipush (v := 60) dX10_works_115 (by decide) rfl ?_
        refine g_sub [0, 1, 2] rfl ?_
        exact j_X10_works_117 l g _ _ _ _ hQ hF
      · replace hF := ite_n hF c10
        try replace hQ := ite_r hQ c10
        refine g_bipush (v := 59) dX10_works_110 (by decide) rfl ?_
        refine g_goto (tgt := 117) dX10_works_112 (by decide) ?_
        refine g_sub [0, 1, 2] rfl ?_
        exact j_X10_works_117 l g _ _ _ _ hQ hF
    · replace hF := ite_n hF c7
      try replace hQ := ite_r hQ c7
      refine g_case 3 (fun c25 => ?_) (fun c25 => ?_)
      · replace hF := ite_p hF c25
        try replace hQ := ite_q hQ c25
        refine g_table (tgt := 159) dX10_works_66 (by decide) (by decide) ?_
        refine g_aload_n dX10_works_159 rfl rfl rfl ?_
        refine g_bipush (v := 61) dX10_works_160 (by decide) rfl ?_
        refine g_iconst (v := 0) dX10_works_162 (by decide) rfl ?_
        refine g_iload_n dX10_works_163 rfl rfl rfl ?_
        have o26 := hQ.1
        replace hQ := hQ.2
        refine g_callv mv_X10_put_ ml_X10_239 (c_X10_put_ l g _ _ _ o26) (ho_199 _ _) rfl rfl (Nat.le_of_ble_eq_true rfl) (Nat.le_of_ble_eq_true rfl) (Nat.le_of_ble_eq_true rfl) (Nat.le_of_ble_eq_true rfl) rfl (Nat.le_of_ble_eq_true rfl) dX10_works_164 rfl (fun r27 hr27 pr27 => ?_)
        obtain ⟨rfl, rfl⟩ := pr27
        refine g_ifeq (tgt := 199) dX10_works_167 (by decide) rfl (fun c29 => ?_) (fun c29 => ?_)
        · replace hF := ite_p hF c29
          try replace hQ := ite_q hQ c29
          refine g_iconst (v := 1) dX10_works_199 (by decide) rfl ?_
          subst hF
          exact g_zret rfl dX10_works_200 (by decide) (Nat.le_of_ble_eq_true rfl) (Nat.le_of_ble_eq_true rfl) ⟨rfl, rfl⟩
        · replace hF := ite_n hF c29
          try replace hQ := ite_r hQ c29
          refine g_aload_n dX10_works_170 rfl rfl rfl ?_
          refine g_bipush (v := 22) dX10_works_171 (by decide) rfl ?_
          refine g_iconst (v := 0) dX10_works_173 (by decide) rfl ?_
          refine g_iload_n dX10_works_174 rfl rfl rfl ?_
          have o30 := hQ.1
          replace hQ := hQ.2
          refine g_callv mv_X10_put_ ml_X10_239 (c_X10_put_ l g _ _ _ o30) (ho_199 _ _) rfl rfl (Nat.le_of_ble_eq_true rfl) (Nat.le_of_ble_eq_true rfl) (Nat.le_of_ble_eq_true rfl) (Nat.le_of_ble_eq_true rfl) rfl (Nat.le_of_ble_eq_true rfl) dX10_works_175 rfl (fun r31 hr31 pr31 => ?_)
          obtain ⟨rfl, rfl⟩ := pr31
          refine g_ifeq (tgt := 199) dX10_works_178 (by decide) rfl (fun c33 => ?_) (fun c33 => ?_)
          · replace hF := ite_p hF c33
            try replace hQ := ite_q hQ c33
            refine g_iconst (v := 1) dX10_works_199 (by decide) rfl ?_
            subst hF
            exact g_zret rfl dX10_works_200 (by decide) (Nat.le_of_ble_eq_true rfl) (Nat.le_of_ble_eq_true rfl) ⟨rfl, rfl⟩
          · replace hF := ite_n hF c33
            try replace hQ := ite_r hQ c33
            refine g_aload_n dX10_works_181 rfl rfl rfl ?_
            refine g_callv mv_X10_opens ml_X10_319 (c_X10_opens l g) (ho_199 _ _) rfl rfl (Nat.le_of_ble_eq_true rfl) (Nat.le_of_ble_eq_true rfl) (Nat.le_of_ble_eq_true rfl) (Nat.le_of_ble_eq_true rfl) rfl (Nat.le_of_ble_eq_true rfl) dX10_works_182 rfl (fun r34 hr34 pr34 => ?_)
            obtain ⟨rfl, rfl⟩ := pr34
            refine g_aload_n dX10_works_185 rfl rfl rfl ?_
            refine g_iconst (v := 2) dX10_works_186 (by decide) rfl ?_
            refine g_iconst (v := 5) dX10_works_187 (by decide) rfl ?_
            refine g_callv mv_X10_insideTo ml_X10_325 (c_X10_insideTo l g _ _) (ho_199 _ _) rfl rfl (Nat.le_of_ble_eq_true rfl) (Nat.le_of_ble_eq_true rfl) (Nat.le_of_ble_eq_true rfl) (Nat.le_of_ble_eq_true rfl) rfl (Nat.le_of_ble_eq_true rfl) dX10_works_188 rfl (fun r36 hr36 pr36 => ?_)
            obtain ⟨rfl, rfl⟩ := pr36
            refine g_goto (tgt := 199) dX10_works_191 (by decide) ?_
            refine g_iconst (v := 1) dX10_works_199 (by decide) rfl ?_
            subst hF
            exact g_zret rfl dX10_works_200 (by decide) (Nat.le_of_ble_eq_true rfl) (Nat.le_of_ble_eq_true rfl) ⟨rfl, rfl⟩
      · replace hF := ite_n hF c25
        try replace hQ := ite_r hQ c25
        refine g_table (tgt := 194) dX10_works_66 (by decide) (gt_out (lo := 1) (hi := 3) (by decide) (fun k h1 h2 => by rcases (show k = 1 ∨ k = 2 ∨ k = 3 by omega) with rfl | rfl | rfl <;> first | exact c3 | exact c7 | exact c25) (by decide)) ?_
        refine g_aload_n dX10_works_194 rfl rfl rfl ?_
        refine g_iload_n dX10_works_195 rfl rfl rfl ?_
        have o38 := hQ.1
        replace hQ := hQ.2
        refine g_callv mv_X10_shuts ml_X10_352 (c_X10_shuts l g _ o38) (ho_199 _ _) rfl rfl (Nat.le_of_ble_eq_true rfl) (Nat.le_of_ble_eq_true rfl) (Nat.le_of_ble_eq_true rfl) (Nat.le_of_ble_eq_true rfl) rfl (Nat.le_of_ble_eq_true rfl) dX10_works_196 rfl (fun r39 hr39 pr39 => ?_)
        obtain ⟨rfl, rfl⟩ := pr39
        refine g_iconst (v := 1) dX10_works_199 (by decide) rfl ?_
        subst hF
        exact g_zret rfl dX10_works_200 (by decide) (Nat.le_of_ble_eq_true rfl) (Nat.le_of_ble_eq_true rfl) ⟨rfl, rfl⟩
noncomputable def J_X10_works_24 (p0 : Int32) (σ : gS) (ζ : gQ) : Int32 × gS × gQ :=
  if (2 : Int32) < (σ 199 49) then
    J_X10_works_62 p0 σ ζ
  else
    if 0 ≤ (σ 199 25) then
      J_X10_works_62 p0 σ ζ
    else
      if (σ 199 41) = (7 : Int32) then
        let s43 := (pf σ 199 41 (7 : Int32) : gS)
        ((0 : Int32), s43, ζ)
      else
        let s44 := (pf σ 199 41 (7 : Int32) : gS)
        ((1 : Int32), s44, ζ)
def QJ_X10_works_24 (p0 : Int32) (σ : gS) (ζ : gQ) : Prop :=
  if (2 : Int32) < (σ 199 49) then
    (QJ_X10_works_62 p0 σ ζ)
  else
    (if 0 ≤ (σ 199 25) then
      (QJ_X10_works_62 p0 σ ζ)
    else
      (if (σ 199 41) = (7 : Int32) then
        (let s43 := (pf σ 199 41 (7 : Int32) : gS)
        True)
      else
        (let s44 := (pf σ 199 41 (7 : Int32) : gS)
        True)))
set_option maxHeartbeats 4000000 in
set_option maxRecDepth 100000 in
theorem j_X10_works_24 (l : Launch) (g : gE) {p0 : Int32} {fr : Int32 × gS × gQ} : ∀ (σ : gS) (ζ : gQ), QJ_X10_works_24 p0 σ ζ → J_X10_works_24 p0 σ ζ = fr → gG l g mX10_works (rm 8 228) (gZm g (rm 8 228) (fun r h => r = some (.int fr.1) ∧ h = hp fr.2.1 fr.2.2)) 24 [(0, .ref 199), (1, .int p0)] [] (hp σ ζ) 0 0 := by
  intro σ ζ hQ hF
  unfold J_X10_works_24 at hF
  unfold QJ_X10_works_24 at hQ
  refine g_aload_n dX10_works_24 rfl rfl rfl ?_
  refine g_get gClX10 49 (by decide) fl_X10_274 dX10_works_25 (ho_199 _ _) rfl rfl ?_
  refine g_iconst (v := 2) dX10_works_28 (by decide) rfl ?_
  refine g_icmpgt (tgt := 62) dX10_works_29 (by decide) rfl (fun c2 => ?_) (fun c2 => ?_)
  · replace hF := ite_p hF c2
    try replace hQ := ite_q hQ c2
    refine g_sub [0, 1] rfl ?_
    exact j_X10_works_62 l g _ _ hQ hF
  · replace hF := ite_n hF c2
    try replace hQ := ite_r hQ c2
    refine g_aload_n dX10_works_32 rfl rfl rfl ?_
    refine g_get gClX10 25 (by decide) fl_X10_79 dX10_works_33 (ho_199 _ _) rfl rfl ?_
    refine g_ifge (tgt := 62) dX10_works_36 (by decide) rfl (fun c41 => ?_) (fun c41 => ?_)
    · replace hF := ite_p hF c41
      try replace hQ := ite_q hQ c41
      refine g_sub [0, 1] rfl ?_
      exact j_X10_works_62 l g _ _ hQ hF
    · replace hF := ite_n hF c41
      try replace hQ := ite_r hQ c41
      refine g_aload_n dX10_works_39 rfl rfl rfl ?_
      refine g_get gClX10 41 (by decide) fl_X10_82 dX10_works_40 (ho_199 _ _) rfl rfl ?_
      refine g_bipush (v := 7) dX10_works_43 (by decide) rfl ?_
      refine g_icmpeq (tgt := 52) dX10_works_45 (by decide) rfl (fun c42 => ?_) (fun c42 => ?_)
      · replace hF := ite_p hF c42
        try replace hQ := ite_q hQ c42
        refine g_iconst (v := 0) dX10_works_52 (by decide) rfl ?_
        refine g_istoreL_n (L1 := [(0, _), (1, _), (2, _)]) dX10_works_53 rfl (by decide) rfl rfl ?_
        refine g_aload_n dX10_works_54 rfl rfl rfl ?_
        refine g_bipush (v := 7) dX10_works_55 (by decide) rfl ?_
        refine g_put gClX10 41 (by decide) fl_X10_82 rfl dX10_works_57 (ho_199 _ _) rfl rfl (Nat.le_of_ble_eq_true rfl) po_199_41 rfl ?_
        refine g_iload_n dX10_works_60 rfl rfl rfl ?_
        subst hF
        exact g_zret rfl dX10_works_61 (by decide) (Nat.le_of_ble_eq_true rfl) (Nat.le_of_ble_eq_true rfl) ⟨rfl, rfl⟩
      · replace hF := ite_n hF c42
        try replace hQ := ite_r hQ c42
        refine g_iconst (v := 1) dX10_works_48 (by decide) rfl ?_
        refine g_goto (tgt := 53) dX10_works_49 (by decide) ?_
        refine g_istoreL_n (L1 := [(0, _), (1, _), (2, _)]) dX10_works_53 rfl (by decide) rfl rfl ?_
        refine g_aload_n dX10_works_54 rfl rfl rfl ?_
        refine g_bipush (v := 7) dX10_works_55 (by decide) rfl ?_
        refine g_put gClX10 41 (by decide) fl_X10_82 rfl dX10_works_57 (ho_199 _ _) rfl rfl (Nat.le_of_ble_eq_true rfl) po_199_41 rfl ?_
        refine g_iload_n dX10_works_60 rfl rfl rfl ?_
        subst hF
        exact g_zret rfl dX10_works_61 (by decide) (Nat.le_of_ble_eq_true rfl) (Nat.le_of_ble_eq_true rfl) ⟨rfl, rfl⟩
noncomputable def Fr_X10_works (σ : gS) (ζ : gQ) (p0 : Int32) : Int32 × gS × gQ :=
  if (σ 199 49) = (1 : Int32) then
    if (σ 199 46) = (6 : Int32) then
      let f48 := (F_X10_ends σ ζ p0)
      ((1 : Int32), f48.1, f48.2)
    else
      J_X10_works_24 p0 σ ζ
  else
    J_X10_works_24 p0 σ ζ
noncomputable def F_X10_works : gS → gQ → Int32 → Int32 × gS × gQ := Classical.choose (⟨Fr_X10_works, rfl⟩ : ∃ f : gS → gQ → Int32 → Int32 × gS × gQ, f = Fr_X10_works)
theorem F_X10_works_eq : F_X10_works = Fr_X10_works := Classical.choose_spec (⟨Fr_X10_works, rfl⟩ : ∃ f : gS → gQ → Int32 → Int32 × gS × gQ, f = Fr_X10_works)
def Q_X10_works (σ : gS) (ζ : gQ) (p0 : Int32) : Prop :=
  if (σ 199 49) = (1 : Int32) then
    (if (σ 199 46) = (6 : Int32) then
      ((Q_X10_ends σ ζ p0) ∧ (let f48 := (F_X10_ends σ ζ p0)
      True))
    else
      (QJ_X10_works_24 p0 σ ζ))
  else
    (QJ_X10_works_24 p0 σ ζ)
set_option maxHeartbeats 4000000 in
set_option maxRecDepth 100000 in
theorem c_X10_works (l : Launch) (g : gE)  {σ : gS} {ζ : gQ} (p0 : Int32) (hQ : Q_X10_works σ ζ p0) : gC l g mX10_works (rm 8 228) [.ref 199, .int p0] (hp σ ζ) (fun r h => r = some (.int (F_X10_works σ ζ p0).1) ∧ h = hp (F_X10_works σ ζ p0).2.1 (F_X10_works σ ζ p0).2.2) := by
  refine gC_of (by decide) (Nat.le_of_ble_eq_true rfl) ?_
  generalize hF : (F_X10_works σ ζ p0) = fr
  rw [F_X10_works_eq] at hF
  unfold Fr_X10_works at hF
  unfold Q_X10_works at hQ
  refine g_aload_n dX10_works_0 rfl rfl rfl ?_
  refine g_get gClX10 49 (by decide) fl_X10_274 dX10_works_1 (ho_199 _ _) rfl rfl ?_
  refine g_iconst (v := 1) dX10_works_4 (by decide) rfl ?_
  refine g_icmpne (tgt := 24) dX10_works_5 (by decide) rfl (fun c1 => ?_) (fun c1 => ?_)
  · replace hF := ite_n hF c1
    try replace hQ := ite_r hQ c1
    refine g_sub [0, 1] rfl ?_
    exact j_X10_works_24 l g _ _ hQ hF
  · replace hF := ite_p hF c1
    try replace hQ := ite_q hQ c1
    refine g_aload_n dX10_works_8 rfl rfl rfl ?_
    refine g_get gClX10 46 (by decide) fl_X10_227 dX10_works_9 (ho_199 _ _) rfl rfl ?_
    refine g_bipush (v := 6) dX10_works_12 (by decide) rfl ?_
    refine g_icmpne (tgt := 24) dX10_works_14 (by decide) rfl (fun c45 => ?_) (fun c45 => ?_)
    · replace hF := ite_n hF c45
      try replace hQ := ite_r hQ c45
      refine g_sub [0, 1] rfl ?_
      exact j_X10_works_24 l g _ _ hQ hF
    · replace hF := ite_p hF c45
      try replace hQ := ite_q hQ c45
      refine g_aload_n dX10_works_17 rfl rfl rfl ?_
      refine g_iload_n dX10_works_18 rfl rfl rfl ?_
      have o46 := hQ.1
      replace hQ := hQ.2
      refine g_callv mv_X10_ends ml_X10_340 (c_X10_ends l g _ o46) (ho_199 _ _) rfl rfl (Nat.le_of_ble_eq_true rfl) (Nat.le_of_ble_eq_true rfl) (Nat.le_of_ble_eq_true rfl) (Nat.le_of_ble_eq_true rfl) rfl (Nat.le_of_ble_eq_true rfl) dX10_works_19 rfl (fun r47 hr47 pr47 => ?_)
      obtain ⟨rfl, rfl⟩ := pr47
      refine g_iconst (v := 1) dX10_works_22 (by decide) rfl ?_
      subst hF
      exact g_zret rfl dX10_works_23 (by decide) (Nat.le_of_ble_eq_true rfl) (Nat.le_of_ble_eq_true rfl) ⟨rfl, rfl⟩
noncomputable def J_X10_actInside_190  (y1 : Int32) (σ : gS) (ζ : gQ) : Int32 × gS × gQ :=
  let f28 := (F_X10_put_ σ ζ (45 : Int32) (1 : Int32) y1)
  if f28.1 = 0 then
    ((1 : Int32), f28.2.1, f28.2.2)
  else
    let s31 := (F_X10_insideTo f28.2.1 (4 : Int32) (4 : Int32))
    ((1 : Int32), s31, f28.2.2)
def QJ_X10_actInside_190  (y1 : Int32) (σ : gS) (ζ : gQ) : Prop :=
  (Q_X10_put_ σ ζ (45 : Int32) (1 : Int32) y1) ∧ (let f28 := (F_X10_put_ σ ζ (45 : Int32) (1 : Int32) y1)
  if f28.1 = 0 then
    (True)
  else
    (let s31 := (F_X10_insideTo f28.2.1 (4 : Int32) (4 : Int32))
    True))
set_option maxHeartbeats 4000000 in
set_option maxRecDepth 100000 in
theorem j_X10_actInside_190 (l : Launch) (g : gE)  {fr : Int32 × gS × gQ} : ∀ (y1 : Int32) (σ : gS) (ζ : gQ), QJ_X10_actInside_190  y1 σ ζ → J_X10_actInside_190  y1 σ ζ = fr → gG l g mX10_actInside (rm 9 250) (gZm g (rm 9 250) (fun r h => r = some (.int fr.1) ∧ h = hp fr.2.1 fr.2.2)) 190 [(0, .ref 199), (1, .int y1)] [] (hp σ ζ) 0 0 := by
  intro y1 σ ζ hQ hF
  unfold J_X10_actInside_190 at hF
  unfold QJ_X10_actInside_190 at hQ
  refine g_aload_n dX10_actInside_190 rfl rfl rfl ?_
  refine g_bipush (v := 45) dX10_actInside_191 (by decide) rfl ?_
  refine g_iconst (v := 1) dX10_actInside_193 (by decide) rfl ?_
  refine g_iload_n dX10_actInside_194 rfl rfl rfl ?_
  have o26 := hQ.1
  replace hQ := hQ.2
  refine g_callv mv_X10_put_ ml_X10_239 (c_X10_put_ l g _ _ _ o26) (ho_199 _ _) rfl rfl (Nat.le_of_ble_eq_true rfl) (Nat.le_of_ble_eq_true rfl) (Nat.le_of_ble_eq_true rfl) (Nat.le_of_ble_eq_true rfl) rfl (Nat.le_of_ble_eq_true rfl) dX10_actInside_195 rfl (fun r27 hr27 pr27 => ?_)
  obtain ⟨rfl, rfl⟩ := pr27
  refine g_ifeq (tgt := 207) dX10_actInside_198 (by decide) rfl (fun c29 => ?_) (fun c29 => ?_)
  · replace hF := ite_p hF c29
    try replace hQ := ite_q hQ c29
    refine g_iconst (v := 1) dX10_actInside_207 (by decide) rfl ?_
    subst hF
    exact g_zret rfl dX10_actInside_208 (by decide) (Nat.le_of_ble_eq_true rfl) (Nat.le_of_ble_eq_true rfl) ⟨rfl, rfl⟩
  · replace hF := ite_n hF c29
    try replace hQ := ite_r hQ c29
    refine g_aload_n dX10_actInside_201 rfl rfl rfl ?_
    refine g_iconst (v := 4) dX10_actInside_202 (by decide) rfl ?_
    refine g_iconst (v := 4) dX10_actInside_203 (by decide) rfl ?_
    refine g_callv mv_X10_insideTo ml_X10_325 (c_X10_insideTo l g _ _) (ho_199 _ _) rfl rfl (Nat.le_of_ble_eq_true rfl) (Nat.le_of_ble_eq_true rfl) (Nat.le_of_ble_eq_true rfl) (Nat.le_of_ble_eq_true rfl) rfl (Nat.le_of_ble_eq_true rfl) dX10_actInside_204 rfl (fun r30 hr30 pr30 => ?_)
    obtain ⟨rfl, rfl⟩ := pr30
    refine g_iconst (v := 1) dX10_actInside_207 (by decide) rfl ?_
    subst hF
    exact g_zret rfl dX10_actInside_208 (by decide) (Nat.le_of_ble_eq_true rfl) (Nat.le_of_ble_eq_true rfl) ⟨rfl, rfl⟩
noncomputable def Fr_X10_actInside (σ : gS) (ζ : gQ)  : Int32 × gS × gQ :=
  if (σ 199 46) = 0 then
    if 0 ≤ (σ 199 25) then
      let f5 := (F_X10_enrols σ ζ (-1 : Int32))
      ((1 : Int32), f5.1, f5.2)
    else
      ((0 : Int32), σ, ζ)
  else
    if (σ 199 46) = 1 then
      if (σ 199 25) < 0 then
        let s9 := (F_X10_insideTo σ (0 : Int32) (8 : Int32))
        ((1 : Int32), s9, ζ)
      else
        ((0 : Int32), σ, ζ)
    else
      if (σ 199 46) = 2 then
        if 0 ≤ (σ 199 48) then
          let f14 := (F_X10_asks σ ζ (σ 199 47))
          (f14.1, f14.2.1, f14.2.2)
        else
          let f18 := (F_X10_sees σ ζ )
          (f18.1, f18.2.1, f18.2.2)
      else
        if (σ 199 46) = 3 then
          if (σ 199 21) = (σ 199 47) then
            let f24 := (F_X10_hasPass σ ζ (σ 199 47))
            if f24.1 = 0 then
              J_X10_actInside_190  (σ 199 47) f24.2 ζ
            else
              if (lg_cmp (F_X10_field f24.2 (σ 199 47) (3 : Int32) (21 : Int32) (1 : Int32)) (0 : Int64)) ≤ 0 then
                J_X10_actInside_190  (σ 199 47) f24.2 ζ
              else
                let f37 := (F_X10_put_ f24.2 ζ (44 : Int32) (0 : Int32) (σ 199 47))
                if f37.1 = 0 then
                  ((1 : Int32), f37.2.1, f37.2.2)
                else
                  let s40 := (F_X10_insideTo f37.2.1 (2 : Int32) (5 : Int32))
                  let s43 := (pf s40 199 48 (F_X10_field s40 (σ 199 47) (3 : Int32) (21 : Int32) (1 : Int32)).toInt32 : gS)
                  ((1 : Int32), s43, f37.2.2)
          else
            let f46 := (F_X10_put_ σ ζ (43 : Int32) (1 : Int32) (σ 199 47))
            if f46.1 = 0 then
              ((1 : Int32), f46.2.1, f46.2.2)
            else
              let s49 := (F_X10_insideTo f46.2.1 (2 : Int32) (1 : Int32))
              let s50 := (pf s49 199 47 (-1 : Int32) : gS)
              ((1 : Int32), s50, f46.2.2)
        else
          if (σ 199 46) = 4 then
            if (σ 199 21) < 0 then
              let f55 := (F_X10_put_ σ ζ (46 : Int32) (0 : Int32) (σ 199 47))
              if f55.1 = 0 then
                ((1 : Int32), f55.2.1, f55.2.2)
              else
                let s58 := (F_X10_insideTo f55.2.1 (2 : Int32) (1 : Int32))
                let s59 := (pf s58 199 47 (-1 : Int32) : gS)
                ((1 : Int32), s59, f55.2.2)
            else
              ((0 : Int32), σ, ζ)
          else
            let f62 := (F_X10_isLost σ ζ (σ 199 47))
            if f62.1 = 0 then
              let f66 := (F_X10_works f62.2.1 f62.2.2 (σ 199 47))
              if f66.1 = 0 then
                ((0 : Int32), f66.2.1, f66.2.2)
              else
                ((1 : Int32), f66.2.1, f66.2.2)
            else
              ((1 : Int32), f62.2.1, f62.2.2)
noncomputable def F_X10_actInside : gS → gQ → Int32 × gS × gQ := Classical.choose (⟨Fr_X10_actInside, rfl⟩ : ∃ f : gS → gQ → Int32 × gS × gQ, f = Fr_X10_actInside)
theorem F_X10_actInside_eq : F_X10_actInside = Fr_X10_actInside := Classical.choose_spec (⟨Fr_X10_actInside, rfl⟩ : ∃ f : gS → gQ → Int32 × gS × gQ, f = Fr_X10_actInside)
def Q_X10_actInside (σ : gS) (ζ : gQ)  : Prop :=
  if (σ 199 46) = 0 then
    (if 0 ≤ (σ 199 25) then
      ((Q_X10_enrols σ ζ (-1 : Int32)) ∧ (let f5 := (F_X10_enrols σ ζ (-1 : Int32))
      True))
    else
      (True))
  else
    (if (σ 199 46) = 1 then
      (if (σ 199 25) < 0 then
        (let s9 := (F_X10_insideTo σ (0 : Int32) (8 : Int32))
        True)
      else
        (True))
    else
      (if (σ 199 46) = 2 then
        (if 0 ≤ (σ 199 48) then
          ((Q_X10_asks σ ζ (σ 199 47)) ∧ (let f14 := (F_X10_asks σ ζ (σ 199 47))
          (f14.1 = 0 ∨ f14.1 = 1) ∧ (True)))
        else
          ((Q_X10_sees σ ζ ) ∧ (let f18 := (F_X10_sees σ ζ )
          (f18.1 = 0 ∨ f18.1 = 1) ∧ (True))))
      else
        (if (σ 199 46) = 3 then
          (if (σ 199 21) = (σ 199 47) then
            ((Q_X10_hasPass σ ζ (σ 199 47)) ∧ (let f24 := (F_X10_hasPass σ ζ (σ 199 47))
            if f24.1 = 0 then
              (QJ_X10_actInside_190  (σ 199 47) f24.2 ζ)
            else
              ((Q_X10_field f24.2 (σ 199 47) (3 : Int32) (21 : Int32) (1 : Int32)) ∧ (if (lg_cmp (F_X10_field f24.2 (σ 199 47) (3 : Int32) (21 : Int32) (1 : Int32)) (0 : Int64)) ≤ 0 then
                (QJ_X10_actInside_190  (σ 199 47) f24.2 ζ)
              else
                ((Q_X10_put_ f24.2 ζ (44 : Int32) (0 : Int32) (σ 199 47)) ∧ (let f37 := (F_X10_put_ f24.2 ζ (44 : Int32) (0 : Int32) (σ 199 47))
                if f37.1 = 0 then
                  (True)
                else
                  (let s40 := (F_X10_insideTo f37.2.1 (2 : Int32) (5 : Int32))
                  (Q_X10_field s40 (σ 199 47) (3 : Int32) (21 : Int32) (1 : Int32)) ∧ (let s43 := (pf s40 199 48 (F_X10_field s40 (σ 199 47) (3 : Int32) (21 : Int32) (1 : Int32)).toInt32 : gS)
                  True))))))))
          else
            ((Q_X10_put_ σ ζ (43 : Int32) (1 : Int32) (σ 199 47)) ∧ (let f46 := (F_X10_put_ σ ζ (43 : Int32) (1 : Int32) (σ 199 47))
            if f46.1 = 0 then
              (True)
            else
              (let s49 := (F_X10_insideTo f46.2.1 (2 : Int32) (1 : Int32))
              let s50 := (pf s49 199 47 (-1 : Int32) : gS)
              True))))
        else
          (if (σ 199 46) = 4 then
            (if (σ 199 21) < 0 then
              ((Q_X10_put_ σ ζ (46 : Int32) (0 : Int32) (σ 199 47)) ∧ (let f55 := (F_X10_put_ σ ζ (46 : Int32) (0 : Int32) (σ 199 47))
              if f55.1 = 0 then
                (True)
              else
                (let s58 := (F_X10_insideTo f55.2.1 (2 : Int32) (1 : Int32))
                let s59 := (pf s58 199 47 (-1 : Int32) : gS)
                True)))
            else
              (True))
          else
            ((Q_X10_isLost σ ζ (σ 199 47)) ∧ (let f62 := (F_X10_isLost σ ζ (σ 199 47))
            if f62.1 = 0 then
              ((Q_X10_works f62.2.1 f62.2.2 (σ 199 47)) ∧ (let f66 := (F_X10_works f62.2.1 f62.2.2 (σ 199 47))
              if f66.1 = 0 then
                (True)
              else
                (True)))
            else
              (True)))))))
set_option maxHeartbeats 4000000 in
set_option maxRecDepth 100000 in
theorem c_X10_actInside (l : Launch) (g : gE)  {σ : gS} {ζ : gQ}  (hQ : Q_X10_actInside σ ζ ) : gC l g mX10_actInside (rm 9 250) [.ref 199] (hp σ ζ) (fun r h => r = some (.int (F_X10_actInside σ ζ ).1) ∧ h = hp (F_X10_actInside σ ζ ).2.1 (F_X10_actInside σ ζ ).2.2) := by
  refine gC_of (by decide) (Nat.le_of_ble_eq_true rfl) ?_
  generalize hF : (F_X10_actInside σ ζ ) = fr
  rw [F_X10_actInside_eq] at hF
  unfold Fr_X10_actInside at hF
  unfold Q_X10_actInside at hQ
  refine g_aload_n dX10_actInside_0 rfl rfl rfl ?_
  refine g_get gClX10 47 (by decide) fl_X10_94 dX10_actInside_1 (ho_199 _ _) rfl rfl ?_
  refine g_istoreL_n (L1 := [(0, _), (1, _)]) dX10_actInside_4 rfl (by decide) rfl rfl ?_
  refine g_aload_n dX10_actInside_5 rfl rfl rfl ?_
  refine g_get gClX10 46 (by decide) fl_X10_227 dX10_actInside_6 (ho_199 _ _) rfl rfl ?_
  refine g_case 0 (fun c1 => ?_) (fun c1 => ?_)
  · replace hF := ite_p hF c1
    try replace hQ := ite_q hQ c1
    refine g_table (tgt := 44) dX10_actInside_9 (by decide) (by decide) ?_
    refine g_aload_n dX10_actInside_44 rfl rfl rfl ?_
    refine g_get gClX10 25 (by decide) fl_X10_79 dX10_actInside_45 (ho_199 _ _) rfl rfl ?_
    refine g_ifge (tgt := 53) dX10_actInside_48 (by decide) rfl (fun c2 => ?_) (fun c2 => ?_)
    · replace hF := ite_p hF c2
      try replace hQ := ite_q hQ c2
      refine g_aload_n dX10_actInside_53 rfl rfl rfl ?_
      refine g_iconst (v := (-1)) dX10_actInside_54 (by decide) rfl ?_
      have o3 := hQ.1
      replace hQ := hQ.2
      refine g_callv mv_X10_enrols ml_X10_322 (c_X10_enrols l g _ o3) (ho_199 _ _) rfl rfl (Nat.le_of_ble_eq_true rfl) (Nat.le_of_ble_eq_true rfl) (Nat.le_of_ble_eq_true rfl) (Nat.le_of_ble_eq_true rfl) rfl (Nat.le_of_ble_eq_true rfl) dX10_actInside_55 rfl (fun r4 hr4 pr4 => ?_)
      obtain ⟨rfl, rfl⟩ := pr4
      refine g_iconst (v := 1) dX10_actInside_58 (by decide) rfl ?_
      subst hF
      exact g_zret rfl dX10_actInside_59 (by decide) (Nat.le_of_ble_eq_true rfl) (Nat.le_of_ble_eq_true rfl) ⟨rfl, rfl⟩
    · replace hF := ite_n hF c2
      try replace hQ := ite_r hQ c2
      refine g_iconst (v := 0) dX10_actInside_51 (by decide) rfl ?_
      subst hF
      exact g_zret rfl dX10_actInside_52 (by decide) (Nat.le_of_ble_eq_true rfl) (Nat.le_of_ble_eq_true rfl) ⟨rfl, rfl⟩
  · replace hF := ite_n hF c1
    try replace hQ := ite_r hQ c1
    refine g_case 1 (fun c6 => ?_) (fun c6 => ?_)
    · replace hF := ite_p hF c6
      try replace hQ := ite_q hQ c6
      refine g_table (tgt := 60) dX10_actInside_9 (by decide) (by decide) ?_
      refine g_aload_n dX10_actInside_60 rfl rfl rfl ?_
      refine g_get gClX10 25 (by decide) fl_X10_79 dX10_actInside_61 (ho_199 _ _) rfl rfl ?_
      refine g_iflt (tgt := 69) dX10_actInside_64 (by decide) rfl (fun c7 => ?_) (fun c7 => ?_)
      · replace hF := ite_p hF c7
        try replace hQ := ite_q hQ c7
        refine g_aload_n dX10_actInside_69 rfl rfl rfl ?_
        refine g_iconst (v := 0) dX10_actInside_70 (by decide) rfl ?_
        refine g_bipush (v := 8) dX10_actInside_71 (by decide) rfl ?_
        refine g_callv mv_X10_insideTo ml_X10_325 (c_X10_insideTo l g _ _) (ho_199 _ _) rfl rfl (Nat.le_of_ble_eq_true rfl) (Nat.le_of_ble_eq_true rfl) (Nat.le_of_ble_eq_true rfl) (Nat.le_of_ble_eq_true rfl) rfl (Nat.le_of_ble_eq_true rfl) dX10_actInside_73 rfl (fun r8 hr8 pr8 => ?_)
        obtain ⟨rfl, rfl⟩ := pr8
        refine g_iconst (v := 1) dX10_actInside_76 (by decide) rfl ?_
        subst hF
        exact g_zret rfl dX10_actInside_77 (by decide) (Nat.le_of_ble_eq_true rfl) (Nat.le_of_ble_eq_true rfl) ⟨rfl, rfl⟩
      · replace hF := ite_n hF c7
        try replace hQ := ite_r hQ c7
        refine g_iconst (v := 0) dX10_actInside_67 (by decide) rfl ?_
        subst hF
        exact g_zret rfl dX10_actInside_68 (by decide) (Nat.le_of_ble_eq_true rfl) (Nat.le_of_ble_eq_true rfl) ⟨rfl, rfl⟩
    · replace hF := ite_n hF c6
      try replace hQ := ite_r hQ c6
      refine g_case 2 (fun c10 => ?_) (fun c10 => ?_)
      · replace hF := ite_p hF c10
        try replace hQ := ite_q hQ c10
        refine g_table (tgt := 78) dX10_actInside_9 (by decide) (by decide) ?_
        refine g_aload_n dX10_actInside_78 rfl rfl rfl ?_
        refine g_get gClX10 48 (by decide) fl_X10_85 dX10_actInside_79 (ho_199 _ _) rfl rfl ?_
        refine g_ifge (tgt := 92) dX10_actInside_82 (by decide) rfl (fun c11 => ?_) (fun c11 => ?_)
        · replace hF := ite_p hF c11
          try replace hQ := ite_q hQ c11
          refine g_aload_n dX10_actInside_92 rfl rfl rfl ?_
          refine g_iload_n dX10_actInside_93 rfl rfl rfl ?_
          have o12 := hQ.1
          replace hQ := hQ.2
          refine g_callv mv_X10_asks ml_X10_331 (c_X10_asks l g _ o12) (ho_199 _ _) rfl rfl (Nat.le_of_ble_eq_true rfl) (Nat.le_of_ble_eq_true rfl) (Nat.le_of_ble_eq_true rfl) (Nat.le_of_ble_eq_true rfl) rfl (Nat.le_of_ble_eq_true rfl) dX10_actInside_94 rfl (fun r13 hr13 pr13 => ?_)
          obtain ⟨rfl, rfl⟩ := pr13
          have o15 := hQ.1
          replace hQ := hQ.2
          subst hF
          exact g_zret rfl dX10_actInside_97 (gz_n o15) (Nat.le_of_ble_eq_true rfl) (Nat.le_of_ble_eq_true rfl) ⟨rfl, rfl⟩
        · replace hF := ite_n hF c11
          try replace hQ := ite_r hQ c11
          refine g_aload_n dX10_actInside_85 rfl rfl rfl ?_
          have o16 := hQ.1
          replace hQ := hQ.2
          refine g_callv mv_X10_sees ml_X10_328 (c_X10_sees l g o16) (ho_199 _ _) rfl rfl (Nat.le_of_ble_eq_true rfl) (Nat.le_of_ble_eq_true rfl) (Nat.le_of_ble_eq_true rfl) (Nat.le_of_ble_eq_true rfl) rfl (Nat.le_of_ble_eq_true rfl) dX10_actInside_86 rfl (fun r17 hr17 pr17 => ?_)
          obtain ⟨rfl, rfl⟩ := pr17
          refine g_goto (tgt := 97) dX10_actInside_89 (by decide) ?_
          have o19 := hQ.1
          replace hQ := hQ.2
          subst hF
          exact g_zret rfl dX10_actInside_97 (gz_n o19) (Nat.le_of_ble_eq_true rfl) (Nat.le_of_ble_eq_true rfl) ⟨rfl, rfl⟩
      · replace hF := ite_n hF c10
        try replace hQ := ite_r hQ c10
        refine g_case 3 (fun c20 => ?_) (fun c20 => ?_)
        · replace hF := ite_p hF c20
          try replace hQ := ite_q hQ c20
          refine g_table (tgt := 98) dX10_actInside_9 (by decide) (by decide) ?_
          refine g_aload_n dX10_actInside_98 rfl rfl rfl ?_
          refine g_get gClX10 21 (by decide) fl_X10_73 dX10_actInside_99 (ho_199 _ _) rfl rfl ?_
          refine g_aload_n dX10_actInside_102 rfl rfl rfl ?_
          refine g_get gClX10 47 (by decide) fl_X10_94 dX10_actInside_103 (ho_199 _ _) rfl rfl ?_
          refine g_icmpeq (tgt := 134) dX10_actInside_106 (by decide) rfl (fun c21 => ?_) (fun c21 => ?_)
          · replace hF := ite_p hF c21
            try replace hQ := ite_q hQ c21
            refine g_aload_n dX10_actInside_134 rfl rfl rfl ?_
            refine g_iload_n dX10_actInside_135 rfl rfl rfl ?_
            have o22 := hQ.1
            replace hQ := hQ.2
            refine g_callv mv_X10_hasPass ml_X10_293 (c_X10_hasPass l g _ o22) (ho_199 _ _) rfl rfl (Nat.le_of_ble_eq_true rfl) (Nat.le_of_ble_eq_true rfl) (Nat.le_of_ble_eq_true rfl) (Nat.le_of_ble_eq_true rfl) rfl (Nat.le_of_ble_eq_true rfl) dX10_actInside_136 rfl (fun r23 hr23 pr23 => ?_)
            obtain ⟨rfl, rfl⟩ := pr23
            refine g_ifeq (tgt := 190) dX10_actInside_139 (by decide) rfl (fun c25 => ?_) (fun c25 => ?_)
            · replace hF := ite_p hF c25
              try replace hQ := ite_q hQ c25
              refine g_sub [0, 1] rfl ?_
              exact j_X10_actInside_190 l g _ _ _ hQ hF
            · replace hF := ite_n hF c25
              try replace hQ := ite_r hQ c25
              refine g_aload_n dX10_actInside_142 rfl rfl rfl ?_
              refine g_iload_n dX10_actInside_143 rfl rfl rfl ?_
              refine g_iconst (v := 3) dX10_actInside_144 (by decide) rfl ?_
              refine g_bipush (v := 21) dX10_actInside_145 (by decide) rfl ?_
              refine g_iconst (v := 1) dX10_actInside_147 (by decide) rfl ?_
              have o32 := hQ.1
              replace hQ := hQ.2
              refine g_callv mv_X10_field ml_X10_170 (c_X10_field l g _ _ _ _ o32) (ho_199 _ _) rfl rfl (Nat.le_of_ble_eq_true rfl) (Nat.le_of_ble_eq_true rfl) (Nat.le_of_ble_eq_true rfl) (Nat.le_of_ble_eq_true rfl) rfl (Nat.le_of_ble_eq_true rfl) dX10_actInside_148 rfl (fun r33 hr33 pr33 => ?_)
              obtain ⟨rfl, rfl⟩ := pr33
              refine g_lconst (v := 0) dX10_actInside_151 (by decide) rfl ?_
              refine g_lcmp dX10_actInside_152 rfl ?_
              refine g_ifle (tgt := 190) dX10_actInside_153 (by decide) rfl (fun c34 => ?_) (fun c34 => ?_)
              · replace hF := ite_p hF c34
                try replace hQ := ite_q hQ c34
                refine g_sub [0, 1] rfl ?_
                exact j_X10_actInside_190 l g _ _ _ hQ hF
              · replace hF := ite_n hF c34
                try replace hQ := ite_r hQ c34
                refine g_aload_n dX10_actInside_156 rfl rfl rfl ?_
                refine g_bipush (v := 44) dX10_actInside_157 (by decide) rfl ?_
                refine g_iconst (v := 0) dX10_actInside_159 (by decide) rfl ?_
                refine g_iload_n dX10_actInside_160 rfl rfl rfl ?_
                have o35 := hQ.1
                replace hQ := hQ.2
                refine g_callv mv_X10_put_ ml_X10_239 (c_X10_put_ l g _ _ _ o35) (ho_199 _ _) rfl rfl (Nat.le_of_ble_eq_true rfl) (Nat.le_of_ble_eq_true rfl) (Nat.le_of_ble_eq_true rfl) (Nat.le_of_ble_eq_true rfl) rfl (Nat.le_of_ble_eq_true rfl) dX10_actInside_161 rfl (fun r36 hr36 pr36 => ?_)
                obtain ⟨rfl, rfl⟩ := pr36
                refine g_ifeq (tgt := 207) dX10_actInside_164 (by decide) rfl (fun c38 => ?_) (fun c38 => ?_)
                · replace hF := ite_p hF c38
                  try replace hQ := ite_q hQ c38
                  refine g_iconst (v := 1) dX10_actInside_207 (by decide) rfl ?_
                  subst hF
                  exact g_zret rfl dX10_actInside_208 (by decide) (Nat.le_of_ble_eq_true rfl) (Nat.le_of_ble_eq_true rfl) ⟨rfl, rfl⟩
                · replace hF := ite_n hF c38
                  try replace hQ := ite_r hQ c38
                  refine g_aload_n dX10_actInside_167 rfl rfl rfl ?_
                  refine g_iconst (v := 2) dX10_actInside_168 (by decide) rfl ?_
                  refine g_iconst (v := 5) dX10_actInside_169 (by decide) rfl ?_
                  refine g_callv mv_X10_insideTo ml_X10_325 (c_X10_insideTo l g _ _) (ho_199 _ _) rfl rfl (Nat.le_of_ble_eq_true rfl) (Nat.le_of_ble_eq_true rfl) (Nat.le_of_ble_eq_true rfl) (Nat.le_of_ble_eq_true rfl) rfl (Nat.le_of_ble_eq_true rfl) dX10_actInside_170 rfl (fun r39 hr39 pr39 => ?_)
                  obtain ⟨rfl, rfl⟩ := pr39
                  refine g_aload_n dX10_actInside_173 rfl rfl rfl ?_
                  refine g_aload_n dX10_actInside_174 rfl rfl rfl ?_
                  refine g_iload_n dX10_actInside_175 rfl rfl rfl ?_
                  refine g_iconst (v := 3) dX10_actInside_176 (by decide) rfl ?_
                  refine g_bipush (v := 21) dX10_actInside_177 (by decide) rfl ?_
                  refine g_iconst (v := 1) dX10_actInside_179 (by decide) rfl ?_
                  have o41 := hQ.1
                  replace hQ := hQ.2
                  refine g_callv mv_X10_field ml_X10_170 (c_X10_field l g _ _ _ _ o41) (ho_199 _ _) rfl rfl (Nat.le_of_ble_eq_true rfl) (Nat.le_of_ble_eq_true rfl) (Nat.le_of_ble_eq_true rfl) (Nat.le_of_ble_eq_true rfl) rfl (Nat.le_of_ble_eq_true rfl) dX10_actInside_180 rfl (fun r42 hr42 pr42 => ?_)
                  obtain ⟨rfl, rfl⟩ := pr42
                  refine g_l2i dX10_actInside_183 rfl ?_
                  refine g_put gClX10 48 (by decide) fl_X10_85 rfl dX10_actInside_184 (ho_199 _ _) rfl rfl (Nat.le_of_ble_eq_true rfl) po_199_48 rfl ?_
                  refine g_goto (tgt := 207) dX10_actInside_187 (by decide) ?_
                  refine g_iconst (v := 1) dX10_actInside_207 (by decide) rfl ?_
                  subst hF
                  exact g_zret rfl dX10_actInside_208 (by decide) (Nat.le_of_ble_eq_true rfl) (Nat.le_of_ble_eq_true rfl) ⟨rfl, rfl⟩
          · replace hF := ite_n hF c21
            try replace hQ := ite_r hQ c21
            refine g_aload_n dX10_actInside_109 rfl rfl rfl ?_
            refine g_bipush (v := 43) dX10_actInside_110 (by decide) rfl ?_
            refine g_iconst (v := 1) dX10_actInside_112 (by decide) rfl ?_
            refine g_iload_n dX10_actInside_113 rfl rfl rfl ?_
            have o44 := hQ.1
            replace hQ := hQ.2
            refine g_callv mv_X10_put_ ml_X10_239 (c_X10_put_ l g _ _ _ o44) (ho_199 _ _) rfl rfl (Nat.le_of_ble_eq_true rfl) (Nat.le_of_ble_eq_true rfl) (Nat.le_of_ble_eq_true rfl) (Nat.le_of_ble_eq_true rfl) rfl (Nat.le_of_ble_eq_true rfl) dX10_actInside_114 rfl (fun r45 hr45 pr45 => ?_)
            obtain ⟨rfl, rfl⟩ := pr45
            refine g_ifeq (tgt := 207) dX10_actInside_117 (by decide) rfl (fun c47 => ?_) (fun c47 => ?_)
            · replace hF := ite_p hF c47
              try replace hQ := ite_q hQ c47
              refine g_iconst (v := 1) dX10_actInside_207 (by decide) rfl ?_
              subst hF
              exact g_zret rfl dX10_actInside_208 (by decide) (Nat.le_of_ble_eq_true rfl) (Nat.le_of_ble_eq_true rfl) ⟨rfl, rfl⟩
            · replace hF := ite_n hF c47
              try replace hQ := ite_r hQ c47
              refine g_aload_n dX10_actInside_120 rfl rfl rfl ?_
              refine g_iconst (v := 2) dX10_actInside_121 (by decide) rfl ?_
              refine g_iconst (v := 1) dX10_actInside_122 (by decide) rfl ?_
              refine g_callv mv_X10_insideTo ml_X10_325 (c_X10_insideTo l g _ _) (ho_199 _ _) rfl rfl (Nat.le_of_ble_eq_true rfl) (Nat.le_of_ble_eq_true rfl) (Nat.le_of_ble_eq_true rfl) (Nat.le_of_ble_eq_true rfl) rfl (Nat.le_of_ble_eq_true rfl) dX10_actInside_123 rfl (fun r48 hr48 pr48 => ?_)
              obtain ⟨rfl, rfl⟩ := pr48
              refine g_aload_n dX10_actInside_126 rfl rfl rfl ?_
              refine g_iconst (v := (-1)) dX10_actInside_127 (by decide) rfl ?_
              refine g_put gClX10 47 (by decide) fl_X10_94 rfl dX10_actInside_128 (ho_199 _ _) rfl rfl (Nat.le_of_ble_eq_true rfl) po_199_47 rfl ?_
              refine g_goto (tgt := 207) dX10_actInside_131 (by decide) ?_
              refine g_iconst (v := 1) dX10_actInside_207 (by decide) rfl ?_
              subst hF
              exact g_zret rfl dX10_actInside_208 (by decide) (Nat.le_of_ble_eq_true rfl) (Nat.le_of_ble_eq_true rfl) ⟨rfl, rfl⟩
        · replace hF := ite_n hF c20
          try replace hQ := ite_r hQ c20
          refine g_case 4 (fun c51 => ?_) (fun c51 => ?_)
          · replace hF := ite_p hF c51
            try replace hQ := ite_q hQ c51
            refine g_table (tgt := 209) dX10_actInside_9 (by decide) (by decide) ?_
            refine g_aload_n dX10_actInside_209 rfl rfl rfl ?_
            refine g_get gClX10 21 (by decide) fl_X10_73 dX10_actInside_210 (ho_199 _ _) rfl rfl ?_
            refine g_iflt (tgt := 218) dX10_actInside_213 (by decide) rfl (fun c52 => ?_) (fun c52 => ?_)
            · replace hF := ite_p hF c52
              try replace hQ := ite_q hQ c52
              refine g_aload_n dX10_actInside_218 rfl rfl rfl ?_
              refine g_bipush (v := 46) dX10_actInside_219 (by decide) rfl ?_
              refine g_iconst (v := 0) dX10_actInside_221 (by decide) rfl ?_
              refine g_iload_n dX10_actInside_222 rfl rfl rfl ?_
              have o53 := hQ.1
              replace hQ := hQ.2
              refine g_callv mv_X10_put_ ml_X10_239 (c_X10_put_ l g _ _ _ o53) (ho_199 _ _) rfl rfl (Nat.le_of_ble_eq_true rfl) (Nat.le_of_ble_eq_true rfl) (Nat.le_of_ble_eq_true rfl) (Nat.le_of_ble_eq_true rfl) rfl (Nat.le_of_ble_eq_true rfl) dX10_actInside_223 rfl (fun r54 hr54 pr54 => ?_)
              obtain ⟨rfl, rfl⟩ := pr54
              refine g_ifeq (tgt := 240) dX10_actInside_226 (by decide) rfl (fun c56 => ?_) (fun c56 => ?_)
              · replace hF := ite_p hF c56
                try replace hQ := ite_q hQ c56
                refine g_iconst (v := 1) dX10_actInside_240 (by decide) rfl ?_
                subst hF
                exact g_zret rfl dX10_actInside_241 (by decide) (Nat.le_of_ble_eq_true rfl) (Nat.le_of_ble_eq_true rfl) ⟨rfl, rfl⟩
              · replace hF := ite_n hF c56
                try replace hQ := ite_r hQ c56
                refine g_aload_n dX10_actInside_229 rfl rfl rfl ?_
                refine g_iconst (v := 2) dX10_actInside_230 (by decide) rfl ?_
                refine g_iconst (v := 1) dX10_actInside_231 (by decide) rfl ?_
                refine g_callv mv_X10_insideTo ml_X10_325 (c_X10_insideTo l g _ _) (ho_199 _ _) rfl rfl (Nat.le_of_ble_eq_true rfl) (Nat.le_of_ble_eq_true rfl) (Nat.le_of_ble_eq_true rfl) (Nat.le_of_ble_eq_true rfl) rfl (Nat.le_of_ble_eq_true rfl) dX10_actInside_232 rfl (fun r57 hr57 pr57 => ?_)
                obtain ⟨rfl, rfl⟩ := pr57
                refine g_aload_n dX10_actInside_235 rfl rfl rfl ?_
                refine g_iconst (v := (-1)) dX10_actInside_236 (by decide) rfl ?_
                refine g_put gClX10 47 (by decide) fl_X10_94 rfl dX10_actInside_237 (ho_199 _ _) rfl rfl (Nat.le_of_ble_eq_true rfl) po_199_47 rfl ?_
                refine g_iconst (v := 1) dX10_actInside_240 (by decide) rfl ?_
                subst hF
                exact g_zret rfl dX10_actInside_241 (by decide) (Nat.le_of_ble_eq_true rfl) (Nat.le_of_ble_eq_true rfl) ⟨rfl, rfl⟩
            · replace hF := ite_n hF c52
              try replace hQ := ite_r hQ c52
              refine g_iconst (v := 0) dX10_actInside_216 (by decide) rfl ?_
              subst hF
              exact g_zret rfl dX10_actInside_217 (by decide) (Nat.le_of_ble_eq_true rfl) (Nat.le_of_ble_eq_true rfl) ⟨rfl, rfl⟩
          · replace hF := ite_n hF c51
            try replace hQ := ite_r hQ c51
            refine g_table (tgt := 242) dX10_actInside_9 (by decide) (gt_out (lo := 0) (hi := 4) (by decide) (fun k h1 h2 => by rcases (show k = 0 ∨ k = 1 ∨ k = 2 ∨ k = 3 ∨ k = 4 by omega) with rfl | rfl | rfl | rfl | rfl <;> first | exact c1 | exact c6 | exact c10 | exact c20 | exact c51) (by decide)) ?_
            refine g_aload_n dX10_actInside_242 rfl rfl rfl ?_
            refine g_iload_n dX10_actInside_243 rfl rfl rfl ?_
            have o60 := hQ.1
            replace hQ := hQ.2
            refine g_callv mv_X10_isLost ml_X10_334 (c_X10_isLost l g _ o60) (ho_199 _ _) rfl rfl (Nat.le_of_ble_eq_true rfl) (Nat.le_of_ble_eq_true rfl) (Nat.le_of_ble_eq_true rfl) (Nat.le_of_ble_eq_true rfl) rfl (Nat.le_of_ble_eq_true rfl) dX10_actInside_244 rfl (fun r61 hr61 pr61 => ?_)
            obtain ⟨rfl, rfl⟩ := pr61
            refine g_ifne (tgt := 258) dX10_actInside_247 (by decide) rfl (fun c63 => ?_) (fun c63 => ?_)
            · replace hF := ite_n hF c63
              try replace hQ := ite_r hQ c63
              refine g_iconst (v := 1) dX10_actInside_258 (by decide) rfl ?_
              refine g_goto (tgt := 263) dX10_actInside_259 (by decide) ?_
              subst hF
              exact g_zret rfl dX10_actInside_263 (by decide) (Nat.le_of_ble_eq_true rfl) (Nat.le_of_ble_eq_true rfl) ⟨rfl, rfl⟩
            · replace hF := ite_p hF c63
              try replace hQ := ite_q hQ c63
              refine g_aload_n dX10_actInside_250 rfl rfl rfl ?_
              refine g_iload_n dX10_actInside_251 rfl rfl rfl ?_
              have o64 := hQ.1
              replace hQ := hQ.2
              refine g_callv mv_X10_works ml_X10_337 (c_X10_works l g _ o64) (ho_199 _ _) rfl rfl (Nat.le_of_ble_eq_true rfl) (Nat.le_of_ble_eq_true rfl) (Nat.le_of_ble_eq_true rfl) (Nat.le_of_ble_eq_true rfl) rfl (Nat.le_of_ble_eq_true rfl) dX10_actInside_252 rfl (fun r65 hr65 pr65 => ?_)
              obtain ⟨rfl, rfl⟩ := pr65
              refine g_ifeq (tgt := 262) dX10_actInside_255 (by decide) rfl (fun c67 => ?_) (fun c67 => ?_)
              · replace hF := ite_p hF c67
                try replace hQ := ite_q hQ c67
                refine g_iconst (v := 0) dX10_actInside_262 (by decide) rfl ?_
                subst hF
                exact g_zret rfl dX10_actInside_263 (by decide) (Nat.le_of_ble_eq_true rfl) (Nat.le_of_ble_eq_true rfl) ⟨rfl, rfl⟩
              · replace hF := ite_n hF c67
                try replace hQ := ite_r hQ c67
                refine g_iconst (v := 1) dX10_actInside_258 (by decide) rfl ?_
                refine g_goto (tgt := 263) dX10_actInside_259 (by decide) ?_
                subst hF
                exact g_zret rfl dX10_actInside_263 (by decide) (Nat.le_of_ble_eq_true rfl) (Nat.le_of_ble_eq_true rfl) ⟨rfl, rfl⟩
noncomputable def Fr_X10_outsideTo (σ : gS) (p0 : Int32) (p1 : Int32) : gS :=
  let s1 := (pf σ 199 42 p0 : gS)
  let s2 := (pf s1 199 40 p1 : gS)
  s2
noncomputable def F_X10_outsideTo : gS → Int32 → Int32 → gS := Classical.choose (⟨Fr_X10_outsideTo, rfl⟩ : ∃ f : gS → Int32 → Int32 → gS, f = Fr_X10_outsideTo)
theorem F_X10_outsideTo_eq : F_X10_outsideTo = Fr_X10_outsideTo := Classical.choose_spec (⟨Fr_X10_outsideTo, rfl⟩ : ∃ f : gS → Int32 → Int32 → gS, f = Fr_X10_outsideTo)
set_option maxHeartbeats 4000000 in
set_option maxRecDepth 100000 in
theorem c_X10_outsideTo (l : Launch) (g : gE)  {σ : gS} {ζ : gQ} (p0 : Int32) (p1 : Int32) : gC l g mX10_outsideTo (rm 0 0) [.ref 199, .int p0, .int p1] (hp σ ζ) (fun r h => r = none ∧ h = hp (F_X10_outsideTo σ p0 p1) ζ) := by
  refine gC_of (by decide) (Nat.le_of_ble_eq_true rfl) ?_
  generalize hF : (F_X10_outsideTo σ p0 p1) = fr
  rw [F_X10_outsideTo_eq] at hF
  unfold Fr_X10_outsideTo at hF
  refine g_aload_n dX10_outsideTo_0 rfl rfl rfl ?_
  refine g_iload_n dX10_outsideTo_1 rfl rfl rfl ?_
  refine g_put gClX10 42 (by decide) fl_X10_246 rfl dX10_outsideTo_2 (ho_199 _ _) rfl rfl (Nat.le_of_ble_eq_true rfl) po_199_42 rfl ?_
  refine g_aload_n dX10_outsideTo_5 rfl rfl rfl ?_
  refine g_iload_n dX10_outsideTo_6 rfl rfl rfl ?_
  refine g_put gClX10 40 (by decide) fl_X10_271 rfl dX10_outsideTo_7 (ho_199 _ _) rfl rfl (Nat.le_of_ble_eq_true rfl) po_199_40 rfl ?_
  subst hF
  exact g_vret rfl dX10_outsideTo_10 (Nat.le_of_ble_eq_true rfl) (Nat.le_of_ble_eq_true rfl) ⟨rfl, rfl⟩
