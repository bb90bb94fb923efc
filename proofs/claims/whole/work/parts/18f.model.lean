/-! StationHouseModel: by program -/
noncomputable def J_X10_look_95  (y1 : Int32) (σ : gS) (ζ : gQ) : gS × gQ :=
  let f13 := (F_X10_actInside σ ζ )
  if f13.1 = 0 then
    if y1 = 0 then
      let f21 := (F_X10_latch f13.2.1 f13.2.2 )
      (f21.1, f21.2)
    else
      let f24 := (F_X10_actOutside f13.2.1 f13.2.2 )
      let f27 := (F_X10_latch f24.2.1 f24.2.2 )
      (f27.1, f27.2)
  else
    let f17 := (F_X10_latch f13.2.1 f13.2.2 )
    (f17.1, f17.2)
def QJ_X10_look_95  (y1 : Int32) (σ : gS) (ζ : gQ) : Prop :=
  (Q_X10_actInside σ ζ ) ∧ (let f13 := (F_X10_actInside σ ζ )
  if f13.1 = 0 then
    (if y1 = 0 then
      ((Q_X10_latch f13.2.1 f13.2.2 ) ∧ (let f21 := (F_X10_latch f13.2.1 f13.2.2 )
      True))
    else
      ((Q_X10_actOutside f13.2.1 f13.2.2 ) ∧ (let f24 := (F_X10_actOutside f13.2.1 f13.2.2 )
      (Q_X10_latch f24.2.1 f24.2.2 ) ∧ (let f27 := (F_X10_latch f24.2.1 f24.2.2 )
      True))))
  else
    ((Q_X10_latch f13.2.1 f13.2.2 ) ∧ (let f17 := (F_X10_latch f13.2.1 f13.2.2 )
    True)))
set_option maxHeartbeats 4000000 in
set_option maxRecDepth 100000 in
theorem j_X10_look_95 (l : Launch) (g : gE)  {fr : gS × gQ} : ∀ (y1 : Int32) (σ : gS) (ζ : gQ), QJ_X10_look_95  y1 σ ζ → J_X10_look_95  y1 σ ζ = fr → gG l g mX10_look (rm 10 271) (gZm g (rm 10 271) (fun r h => r = none ∧ h = hp fr.1 fr.2)) 95 [(0, .ref 199), (1, .int y1)] [] (hp σ ζ) 0 0 := by
  intro y1 σ ζ hQ hF
  unfold J_X10_look_95 at hF
  unfold QJ_X10_look_95 at hQ
  refine g_aload_n dX10_look_95 rfl rfl rfl ?_
  have o11 := hQ.1
  replace hQ := hQ.2
  refine g_callv mv_X10_actInside ml_X10_253 (c_X10_actInside l g o11) (ho_199 _ _) rfl rfl (Nat.le_of_ble_eq_true rfl) (Nat.le_of_ble_eq_true rfl) (Nat.le_of_ble_eq_true rfl) (Nat.le_of_ble_eq_true rfl) rfl (Nat.le_of_ble_eq_true rfl) dX10_look_96 rfl (fun r12 hr12 pr12 => ?_)
  obtain ⟨rfl, rfl⟩ := pr12
  refine g_istoreL_n (L1 := [(0, _), (1, _), (2, _)]) dX10_look_99 rfl (by decide) rfl rfl ?_
  refine g_iload_n dX10_look_100 rfl rfl rfl ?_
  refine g_ifne (tgt := 113) dX10_look_101 (by decide) rfl (fun c14 => ?_) (fun c14 => ?_)
  · replace hF := ite_n hF c14
    try replace hQ := ite_r hQ c14
    refine g_aload_n dX10_look_113 rfl rfl rfl ?_
    have o15 := hQ.1
    replace hQ := hQ.2
    refine g_callv mv_X10_latch ml_X10_243 (c_X10_latch l g o15) (ho_199 _ _) rfl rfl (Nat.le_of_ble_eq_true rfl) (Nat.le_of_ble_eq_true rfl) (Nat.le_of_ble_eq_true rfl) (Nat.le_of_ble_eq_true rfl) rfl (Nat.le_of_ble_eq_true rfl) dX10_look_114 rfl (fun r16 hr16 pr16 => ?_)
    obtain ⟨rfl, rfl⟩ := pr16
    subst hF
    exact g_vret rfl dX10_look_117 (Nat.le_of_ble_eq_true rfl) (Nat.le_of_ble_eq_true rfl) ⟨rfl, rfl⟩
  · replace hF := ite_p hF c14
    try replace hQ := ite_q hQ c14
    refine g_iload_n dX10_look_104 rfl rfl rfl ?_
    refine g_ifeq (tgt := 113) dX10_look_105 (by decide) rfl (fun c18 => ?_) (fun c18 => ?_)
    · replace hF := ite_p hF c18
      try replace hQ := ite_q hQ c18
      refine g_aload_n dX10_look_113 rfl rfl rfl ?_
      have o19 := hQ.1
      replace hQ := hQ.2
      refine g_callv mv_X10_latch ml_X10_243 (c_X10_latch l g o19) (ho_199 _ _) rfl rfl (Nat.le_of_ble_eq_true rfl) (Nat.le_of_ble_eq_true rfl) (Nat.le_of_ble_eq_true rfl) (Nat.le_of_ble_eq_true rfl) rfl (Nat.le_of_ble_eq_true rfl) dX10_look_114 rfl (fun r20 hr20 pr20 => ?_)
      obtain ⟨rfl, rfl⟩ := pr20
      subst hF
      exact g_vret rfl dX10_look_117 (Nat.le_of_ble_eq_true rfl) (Nat.le_of_ble_eq_true rfl) ⟨rfl, rfl⟩
    · replace hF := ite_n hF c18
      try replace hQ := ite_r hQ c18
      refine g_aload_n dX10_look_108 rfl rfl rfl ?_
      have o22 := hQ.1
      replace hQ := hQ.2
      refine g_callv mv_X10_actOutside ml_X10_249 (c_X10_actOutside l g o22) (ho_199 _ _) rfl rfl (Nat.le_of_ble_eq_true rfl) (Nat.le_of_ble_eq_true rfl) (Nat.le_of_ble_eq_true rfl) (Nat.le_of_ble_eq_true rfl) rfl (Nat.le_of_ble_eq_true rfl) dX10_look_109 rfl (fun r23 hr23 pr23 => ?_)
      obtain ⟨rfl, rfl⟩ := pr23
      refine g_pop dX10_look_112 rfl rfl ?_
      refine g_aload_n dX10_look_113 rfl rfl rfl ?_
      have o25 := hQ.1
      replace hQ := hQ.2
      refine g_callv mv_X10_latch ml_X10_243 (c_X10_latch l g o25) (ho_199 _ _) rfl rfl (Nat.le_of_ble_eq_true rfl) (Nat.le_of_ble_eq_true rfl) (Nat.le_of_ble_eq_true rfl) (Nat.le_of_ble_eq_true rfl) rfl (Nat.le_of_ble_eq_true rfl) dX10_look_114 rfl (fun r26 hr26 pr26 => ?_)
      obtain ⟨rfl, rfl⟩ := pr26
      subst hF
      exact g_vret rfl dX10_look_117 (Nat.le_of_ble_eq_true rfl) (Nat.le_of_ble_eq_true rfl) ⟨rfl, rfl⟩
noncomputable def J_X10_look_57  (u0 : Int32) (σ : gS) (ζ : gQ) : gS × gQ :=
  if (σ 199 33) = 0 then
    if u0 = 0 then
      J_X10_look_95  u0 σ ζ
    else
      if (σ 199 42) = 0 then
        J_X10_look_95  u0 σ ζ
      else
        let f31 := (F_X10_actOutside σ ζ )
        if f31.1 = 0 then
          let f38 := (F_X10_actInside f31.2.1 f31.2.2 )
          let f41 := (F_X10_latch f38.2.1 f38.2.2 )
          (f41.1, f41.2)
        else
          let f35 := (F_X10_latch f31.2.1 f31.2.2 )
          (f35.1, f35.2)
  else
    let f9 := (F_X10_latch σ ζ )
    (f9.1, f9.2)
def QJ_X10_look_57  (u0 : Int32) (σ : gS) (ζ : gQ) : Prop :=
  if (σ 199 33) = 0 then
    (if u0 = 0 then
      (QJ_X10_look_95  u0 σ ζ)
    else
      (if (σ 199 42) = 0 then
        (QJ_X10_look_95  u0 σ ζ)
      else
        ((Q_X10_actOutside σ ζ ) ∧ (let f31 := (F_X10_actOutside σ ζ )
        if f31.1 = 0 then
          ((Q_X10_actInside f31.2.1 f31.2.2 ) ∧ (let f38 := (F_X10_actInside f31.2.1 f31.2.2 )
          (Q_X10_latch f38.2.1 f38.2.2 ) ∧ (let f41 := (F_X10_latch f38.2.1 f38.2.2 )
          True)))
        else
          ((Q_X10_latch f31.2.1 f31.2.2 ) ∧ (let f35 := (F_X10_latch f31.2.1 f31.2.2 )
          True))))))
  else
    ((Q_X10_latch σ ζ ) ∧ (let f9 := (F_X10_latch σ ζ )
    True))
set_option maxHeartbeats 4000000 in
set_option maxRecDepth 100000 in
theorem j_X10_look_57 (l : Launch) (g : gE)  {fr : gS × gQ} : ∀ (u0 : Int32) (σ : gS) (ζ : gQ), QJ_X10_look_57  u0 σ ζ → J_X10_look_57  u0 σ ζ = fr → gG l g mX10_look (rm 10 271) (gZm g (rm 10 271) (fun r h => r = none ∧ h = hp fr.1 fr.2)) 57 [(0, .ref 199)] [.int u0] (hp σ ζ) 0 0 := by
  intro u0 σ ζ hQ hF
  unfold J_X10_look_57 at hF
  unfold QJ_X10_look_57 at hQ
  refine g_istoreL_n (L1 := [(0, _), (1, _)]) dX10_look_57 rfl (by decide) rfl rfl ?_
  refine g_iconst (v := 0) dX10_look_58 (by decide) rfl ?_
  refine g_istoreL_n (L1 := [(0, _), (1, _), (2, _)]) dX10_look_59 rfl (by decide) rfl rfl ?_
  refine g_aload_n dX10_look_60 rfl rfl rfl ?_
  refine g_get gClX10 33 (by decide) fl_X10_212 dX10_look_61 (ho_199 _ _) rfl rfl ?_
  refine g_ifne (tgt := 113) dX10_look_64 (by decide) rfl (fun c6 => ?_) (fun c6 => ?_)
  · replace hF := ite_n hF c6
    try replace hQ := ite_r hQ c6
    refine g_aload_n dX10_look_113 rfl rfl rfl ?_
    have o7 := hQ.1
    replace hQ := hQ.2
    refine g_callv mv_X10_latch ml_X10_243 (c_X10_latch l g o7) (ho_199 _ _) rfl rfl (Nat.le_of_ble_eq_true rfl) (Nat.le_of_ble_eq_true rfl) (Nat.le_of_ble_eq_true rfl) (Nat.le_of_ble_eq_true rfl) rfl (Nat.le_of_ble_eq_true rfl) dX10_look_114 rfl (fun r8 hr8 pr8 => ?_)
    obtain ⟨rfl, rfl⟩ := pr8
    subst hF
    exact g_vret rfl dX10_look_117 (Nat.le_of_ble_eq_true rfl) (Nat.le_of_ble_eq_true rfl) ⟨rfl, rfl⟩
  · replace hF := ite_p hF c6
    try replace hQ := ite_q hQ c6
    refine g_iload_n dX10_look_67 rfl rfl rfl ?_
    refine g_ifeq (tgt := 95) dX10_look_68 (by decide) rfl (fun c10 => ?_) (fun c10 => ?_)
    · replace hF := ite_p hF c10
      try replace hQ := ite_q hQ c10
      refine g_sub [0, 1] rfl ?_
      exact j_X10_look_95 l g _ _ _ hQ hF
    · replace hF := ite_n hF c10
      try replace hQ := ite_r hQ c10
      refine g_aload_n dX10_look_71 rfl rfl rfl ?_
      refine g_get gClX10 42 (by decide) fl_X10_246 dX10_look_72 (ho_199 _ _) rfl rfl ?_
      refine g_ifeq (tgt := 95) dX10_look_75 (by decide) rfl (fun c28 => ?_) (fun c28 => ?_)
      · replace hF := ite_p hF c28
        try replace hQ := ite_q hQ c28
        refine g_sub [0, 1] rfl ?_
        exact j_X10_look_95 l g _ _ _ hQ hF
      · replace hF := ite_n hF c28
        try replace hQ := ite_r hQ c28
        refine g_aload_n dX10_look_78 rfl rfl rfl ?_
        have o29 := hQ.1
        replace hQ := hQ.2
        refine g_callv mv_X10_actOutside ml_X10_249 (c_X10_actOutside l g o29) (ho_199 _ _) rfl rfl (Nat.le_of_ble_eq_true rfl) (Nat.le_of_ble_eq_true rfl) (Nat.le_of_ble_eq_true rfl) (Nat.le_of_ble_eq_true rfl) rfl (Nat.le_of_ble_eq_true rfl) dX10_look_79 rfl (fun r30 hr30 pr30 => ?_)
        obtain ⟨rfl, rfl⟩ := pr30
        refine g_istoreL_n (L1 := [(0, _), (1, _), (2, _)]) dX10_look_82 rfl (by decide) rfl rfl ?_
        refine g_iload_n dX10_look_83 rfl rfl rfl ?_
        refine g_ifne (tgt := 113) dX10_look_84 (by decide) rfl (fun c32 => ?_) (fun c32 => ?_)
        · replace hF := ite_n hF c32
          try replace hQ := ite_r hQ c32
          refine g_aload_n dX10_look_113 rfl rfl rfl ?_
          have o33 := hQ.1
          replace hQ := hQ.2
          refine g_callv mv_X10_latch ml_X10_243 (c_X10_latch l g o33) (ho_199 _ _) rfl rfl (Nat.le_of_ble_eq_true rfl) (Nat.le_of_ble_eq_true rfl) (Nat.le_of_ble_eq_true rfl) (Nat.le_of_ble_eq_true rfl) rfl (Nat.le_of_ble_eq_true rfl) dX10_look_114 rfl (fun r34 hr34 pr34 => ?_)
          obtain ⟨rfl, rfl⟩ := pr34
          subst hF
          exact g_vret rfl dX10_look_117 (Nat.le_of_ble_eq_true rfl) (Nat.le_of_ble_eq_true rfl) ⟨rfl, rfl⟩
        · replace hF := ite_p hF c32
          try replace hQ := ite_q hQ c32
          refine g_aload_n dX10_look_87 rfl rfl rfl ?_
          have o36 := hQ.1
          replace hQ := hQ.2
          refine g_callv mv_X10_actInside ml_X10_253 (c_X10_actInside l g o36) (ho_199 _ _) rfl rfl (Nat.le_of_ble_eq_true rfl) (Nat.le_of_ble_eq_true rfl) (Nat.le_of_ble_eq_true rfl) (Nat.le_of_ble_eq_true rfl) rfl (Nat.le_of_ble_eq_true rfl) dX10_look_88 rfl (fun r37 hr37 pr37 => ?_)
          obtain ⟨rfl, rfl⟩ := pr37
          refine g_pop dX10_look_91 rfl rfl ?_
          refine g_goto (tgt := 113) dX10_look_92 (by decide) ?_
          refine g_aload_n dX10_look_113 rfl rfl rfl ?_
          have o39 := hQ.1
          replace hQ := hQ.2
          refine g_callv mv_X10_latch ml_X10_243 (c_X10_latch l g o39) (ho_199 _ _) rfl rfl (Nat.le_of_ble_eq_true rfl) (Nat.le_of_ble_eq_true rfl) (Nat.le_of_ble_eq_true rfl) (Nat.le_of_ble_eq_true rfl) rfl (Nat.le_of_ble_eq_true rfl) dX10_look_114 rfl (fun r40 hr40 pr40 => ?_)
          obtain ⟨rfl, rfl⟩ := pr40
          subst hF
          exact g_vret rfl dX10_look_117 (Nat.le_of_ble_eq_true rfl) (Nat.le_of_ble_eq_true rfl) ⟨rfl, rfl⟩
noncomputable def J_X10_look_40  (σ : gS) (ζ : gQ) : gS × gQ :=
  let f4 := (F_X10_latch σ ζ )
  if (f4.1 199 46) ≤ (1 : Int32) then
    J_X10_look_57  (0 : Int32) f4.1 f4.2
  else
    J_X10_look_57  (1 : Int32) f4.1 f4.2
def QJ_X10_look_40  (σ : gS) (ζ : gQ) : Prop :=
  (Q_X10_latch σ ζ ) ∧ (let f4 := (F_X10_latch σ ζ )
  if (f4.1 199 46) ≤ (1 : Int32) then
    (QJ_X10_look_57  (0 : Int32) f4.1 f4.2)
  else
    (QJ_X10_look_57  (1 : Int32) f4.1 f4.2))
set_option maxHeartbeats 4000000 in
set_option maxRecDepth 100000 in
theorem j_X10_look_40 (l : Launch) (g : gE)  {fr : gS × gQ} : ∀ (σ : gS) (ζ : gQ), QJ_X10_look_40  σ ζ → J_X10_look_40  σ ζ = fr → gG l g mX10_look (rm 10 271) (gZm g (rm 10 271) (fun r h => r = none ∧ h = hp fr.1 fr.2)) 40 [(0, .ref 199)] [] (hp σ ζ) 0 0 := by
  intro σ ζ hQ hF
  unfold J_X10_look_40 at hF
  unfold QJ_X10_look_40 at hQ
  refine g_aload_n dX10_look_40 rfl rfl rfl ?_
  have o2 := hQ.1
  replace hQ := hQ.2
  refine g_callv mv_X10_latch ml_X10_243 (c_X10_latch l g o2) (ho_199 _ _) rfl rfl (Nat.le_of_ble_eq_true rfl) (Nat.le_of_ble_eq_true rfl) (Nat.le_of_ble_eq_true rfl) (Nat.le_of_ble_eq_true rfl) rfl (Nat.le_of_ble_eq_true rfl) dX10_look_41 rfl (fun r3 hr3 pr3 => ?_)
  obtain ⟨rfl, rfl⟩ := pr3
  refine g_aload_n dX10_look_44 rfl rfl rfl ?_
  refine g_get gClX10 46 (by decide) fl_X10_227 dX10_look_45 (ho_199 _ _) rfl rfl ?_
  refine g_iconst (v := 1) dX10_look_48 (by decide) rfl ?_
  refine g_icmple (tgt := 56) dX10_look_49 (by decide) rfl (fun c5 => ?_) (fun c5 => ?_)
  · replace hF := ite_p hF c5
    try replace hQ := ite_q hQ c5
    refine g_iconst (v := 0) dX10_look_56 (by decide) rfl ?_
    refine g_sub [0] rfl ?_
    exact j_X10_look_57 l g _ _ _ hQ hF
  · replace hF := ite_n hF c5
    try replace hQ := ite_r hQ c5
    refine g_iconst (v := 1) dX10_look_52 (by decide) rfl ?_
    refine g_goto (tgt := 57) dX10_look_53 (by decide) ?_
    refine g_sub [0] rfl ?_
    exact j_X10_look_57 l g _ _ _ hQ hF
noncomputable def J_X10_look_34  (u0 : Int32) (σ : gS) (ζ : gQ) : gS × gQ :=
  let f47 := (F_X10_put_ σ ζ u0 (0 : Int32) (-1 : Int32))
  J_X10_look_40  f47.2.1 f47.2.2
def QJ_X10_look_34  (u0 : Int32) (σ : gS) (ζ : gQ) : Prop :=
  (Q_X10_put_ σ ζ u0 (0 : Int32) (-1 : Int32)) ∧ (let f47 := (F_X10_put_ σ ζ u0 (0 : Int32) (-1 : Int32))
  QJ_X10_look_40  f47.2.1 f47.2.2)
set_option maxHeartbeats 4000000 in
set_option maxRecDepth 100000 in
theorem j_X10_look_34 (l : Launch) (g : gE)  {fr : gS × gQ} : ∀ (u0 : Int32) (σ : gS) (ζ : gQ), QJ_X10_look_34  u0 σ ζ → J_X10_look_34  u0 σ ζ = fr → gG l g mX10_look (rm 10 271) (gZm g (rm 10 271) (fun r h => r = none ∧ h = hp fr.1 fr.2)) 34 [(0, .ref 199)] [.int u0, .ref 199] (hp σ ζ) 0 0 := by
  intro u0 σ ζ hQ hF
  unfold J_X10_look_34 at hF
  unfold QJ_X10_look_34 at hQ
  refine g_iconst (v := 0) dX10_look_34 (by decide) rfl ?_
  refine g_iconst (v := (-1)) dX10_look_35 (by decide) rfl ?_
  have o45 := hQ.1
  replace hQ := hQ.2
  refine g_callv mv_X10_put_ ml_X10_239 (c_X10_put_ l g _ _ _ o45) (ho_199 _ _) rfl rfl (Nat.le_of_ble_eq_true rfl) (Nat.le_of_ble_eq_true rfl) (Nat.le_of_ble_eq_true rfl) (Nat.le_of_ble_eq_true rfl) rfl (Nat.le_of_ble_eq_true rfl) dX10_look_36 rfl (fun r46 hr46 pr46 => ?_)
  obtain ⟨rfl, rfl⟩ := pr46
  refine g_pop dX10_look_39 rfl rfl ?_
  refine g_sub [0] rfl ?_
  exact j_X10_look_40 l g _ _ hQ hF
noncomputable def Fr_X10_look (σ : gS) (ζ : gQ)  : gS × gQ :=
  if (σ 199 39) = (σ 199 23) then
    J_X10_look_40  σ ζ
  else
    let s43 := (pf σ 199 39 (σ 199 23) : gS)
    if (s43 199 23) = 0 then
      J_X10_look_34  (21 : Int32) s43 ζ
    else
      J_X10_look_34  (20 : Int32) s43 ζ
noncomputable def F_X10_look : gS → gQ → gS × gQ := Classical.choose (⟨Fr_X10_look, rfl⟩ : ∃ f : gS → gQ → gS × gQ, f = Fr_X10_look)
theorem F_X10_look_eq : F_X10_look = Fr_X10_look := Classical.choose_spec (⟨Fr_X10_look, rfl⟩ : ∃ f : gS → gQ → gS × gQ, f = Fr_X10_look)
def Q_X10_look (σ : gS) (ζ : gQ)  : Prop :=
  if (σ 199 39) = (σ 199 23) then
    (QJ_X10_look_40  σ ζ)
  else
    (((σ 199 23) = 0 ∨ (σ 199 23) = 1) ∧ (let s43 := (pf σ 199 39 (σ 199 23) : gS)
    if (s43 199 23) = 0 then
      (QJ_X10_look_34  (21 : Int32) s43 ζ)
    else
      (QJ_X10_look_34  (20 : Int32) s43 ζ)))
set_option maxHeartbeats 4000000 in
set_option maxRecDepth 100000 in
theorem c_X10_look (l : Launch) (g : gE)  {σ : gS} {ζ : gQ}  (hQ : Q_X10_look σ ζ ) : gC l g mX10_look (rm 10 271) [.ref 199] (hp σ ζ) (fun r h => r = none ∧ h = hp (F_X10_look σ ζ ).1 (F_X10_look σ ζ ).2) := by
  refine gC_of (by decide) (Nat.le_of_ble_eq_true rfl) ?_
  generalize hF : (F_X10_look σ ζ ) = fr
  rw [F_X10_look_eq] at hF
  unfold Fr_X10_look at hF
  unfold Q_X10_look at hQ
  refine g_aload_n dX10_look_0 rfl rfl rfl ?_
  refine g_get gClX10 39 (by decide) fl_X10_236 dX10_look_1 (ho_199 _ _) rfl rfl ?_
  refine g_aload_n dX10_look_4 rfl rfl rfl ?_
  refine g_get gClX10 23 (by decide) fl_X10_193 dX10_look_5 (ho_199 _ _) rfl rfl ?_
  refine g_icmpeq (tgt := 40) dX10_look_8 (by decide) rfl (fun c1 => ?_) (fun c1 => ?_)
  · replace hF := ite_p hF c1
    try replace hQ := ite_q hQ c1
    refine g_sub [0] rfl ?_
    exact j_X10_look_40 l g _ _ hQ hF
  · replace hF := ite_n hF c1
    try replace hQ := ite_r hQ c1
    refine g_aload_n dX10_look_11 rfl rfl rfl ?_
    refine g_aload_n dX10_look_12 rfl rfl rfl ?_
    refine g_get gClX10 23 (by decide) fl_X10_193 dX10_look_13 (ho_199 _ _) rfl rfl ?_
    have o42 := hQ.1
    replace hQ := hQ.2
    refine g_put gClX10 39 (by decide) fl_X10_236 rfl dX10_look_16 (ho_199 _ _) (gz_n o42) (gz_f o42) (Nat.le_of_ble_eq_true rfl) po_199_39 rfl ?_
    refine g_aload_n dX10_look_19 rfl rfl rfl ?_
    refine g_aload_n dX10_look_20 rfl rfl rfl ?_
    refine g_get gClX10 23 (by decide) fl_X10_193 dX10_look_21 (ho_199 _ _) rfl rfl ?_
    refine g_ifeq (tgt := 32) dX10_look_24 (by decide) rfl (fun c44 => ?_) (fun c44 => ?_)
    · replace hF := ite_p hF c44
      try replace hQ := ite_q hQ c44
      refine g_bipush (v := 21) dX10_look_32 (by decide) rfl ?_
      refine g_sub [0] rfl ?_
      exact j_X10_look_34 l g _ _ _ hQ hF
    · replace hF := ite_n hF c44
      try replace hQ := ite_r hQ c44
      refine g_bipush (v := 20) dX10_look_27 (by decide) rfl ?_
      refine g_goto (tgt := 34) dX10_look_29 (by decide) ?_
      refine g_sub [0] rfl ?_
      exact j_X10_look_34 l g _ _ _ hQ hF
noncomputable def Fr_X10_noDisk (σ : gS)  : Int32 × gS :=
  if (σ 199 25) < 0 then
    let s2 := (pf σ 199 25 (-1 : Int32) : gS)
    ((0 : Int32), s2)
  else
    let s3 := (pf σ 199 25 (-1 : Int32) : gS)
    ((1 : Int32), s3)
noncomputable def F_X10_noDisk : gS → Int32 × gS := Classical.choose (⟨Fr_X10_noDisk, rfl⟩ : ∃ f : gS → Int32 × gS, f = Fr_X10_noDisk)
theorem F_X10_noDisk_eq : F_X10_noDisk = Fr_X10_noDisk := Classical.choose_spec (⟨Fr_X10_noDisk, rfl⟩ : ∃ f : gS → Int32 × gS, f = Fr_X10_noDisk)
set_option maxHeartbeats 4000000 in
set_option maxRecDepth 100000 in
theorem c_X10_noDisk (l : Launch) (g : gE)  {σ : gS} {ζ : gQ}  : gC l g mX10_noDisk (rm 0 0) [.ref 199] (hp σ ζ) (fun r h => r = some (.int (F_X10_noDisk σ ).1) ∧ h = hp (F_X10_noDisk σ ).2 ζ) := by
  refine gC_of (by decide) (Nat.le_of_ble_eq_true rfl) ?_
  generalize hF : (F_X10_noDisk σ ) = fr
  rw [F_X10_noDisk_eq] at hF
  unfold Fr_X10_noDisk at hF
  refine g_aload_n dX10_noDisk_0 rfl rfl rfl ?_
  refine g_get gClX10 25 (by decide) fl_X10_79 dX10_noDisk_1 (ho_199 _ _) rfl rfl ?_
  refine g_iflt (tgt := 11) dX10_noDisk_4 (by decide) rfl (fun c1 => ?_) (fun c1 => ?_)
  · replace hF := ite_p hF c1
    refine g_iconst (v := 0) dX10_noDisk_11 (by decide) rfl ?_
    refine g_istoreL_n (L1 := [(0, _), (1, _)]) dX10_noDisk_12 rfl (by decide) rfl rfl ?_
    refine g_aload_n dX10_noDisk_13 rfl rfl rfl ?_
    refine g_iconst (v := (-1)) dX10_noDisk_14 (by decide) rfl ?_
    refine g_put gClX10 25 (by decide) fl_X10_79 rfl dX10_noDisk_15 (ho_199 _ _) rfl rfl (Nat.le_of_ble_eq_true rfl) po_199_25 rfl ?_
    refine g_iload_n dX10_noDisk_18 rfl rfl rfl ?_
    subst hF
    exact g_zret rfl dX10_noDisk_19 (by decide) (Nat.le_of_ble_eq_true rfl) (Nat.le_of_ble_eq_true rfl) ⟨rfl, rfl⟩
  · replace hF := ite_n hF c1
    refine g_iconst (v := 1) dX10_noDisk_7 (by decide) rfl ?_
    refine g_goto (tgt := 12) dX10_noDisk_8 (by decide) ?_
    refine g_istoreL_n (L1 := [(0, _), (1, _)]) dX10_noDisk_12 rfl (by decide) rfl rfl ?_
    refine g_aload_n dX10_noDisk_13 rfl rfl rfl ?_
    refine g_iconst (v := (-1)) dX10_noDisk_14 (by decide) rfl ?_
    refine g_put gClX10 25 (by decide) fl_X10_79 rfl dX10_noDisk_15 (ho_199 _ _) rfl rfl (Nat.le_of_ble_eq_true rfl) po_199_25 rfl ?_
    refine g_iload_n dX10_noDisk_18 rfl rfl rfl ?_
    subst hF
    exact g_zret rfl dX10_noDisk_19 (by decide) (Nat.le_of_ble_eq_true rfl) (Nat.le_of_ble_eq_true rfl) ⟨rfl, rfl⟩
noncomputable def J_X10_starts_105  (u0 : Int32) (σ : gS) (ζ : gQ) : gS × gQ :=
  let s15 := (pf σ 199 41 u0 : gS)
  let s16 := (pf s15 199 47 (-1 : Int32) : gS)
  let s17 := (pf s16 199 48 (-1 : Int32) : gS)
  let s18 := (pf s17 199 49 (0 : Int32) : gS)
  let s20 := (pf s18 199 39 (s18 199 23) : gS)
  (s20, ζ)
def QJ_X10_starts_105  (u0 : Int32) (σ : gS) (ζ : gQ) : Prop :=
  let s15 := (pf σ 199 41 u0 : gS)
  let s16 := (pf s15 199 47 (-1 : Int32) : gS)
  let s17 := (pf s16 199 48 (-1 : Int32) : gS)
  let s18 := (pf s17 199 49 (0 : Int32) : gS)
  ((s18 199 23) = 0 ∨ (s18 199 23) = 1) ∧ (let s20 := (pf s18 199 39 (s18 199 23) : gS)
  True)
set_option maxHeartbeats 4000000 in
set_option maxRecDepth 100000 in
theorem j_X10_starts_105 (l : Launch) (g : gE)  {fr : gS × gQ} : ∀ (u0 : Int32) (σ : gS) (ζ : gQ), QJ_X10_starts_105  u0 σ ζ → J_X10_starts_105  u0 σ ζ = fr → gG l g mX10_starts (rm 7 203) (gZm g (rm 7 203) (fun r h => r = none ∧ h = hp fr.1 fr.2)) 105 [(0, .ref 199)] [.int u0, .ref 199] (hp σ ζ) 0 0 := by
  intro u0 σ ζ hQ hF
  unfold J_X10_starts_105 at hF
  unfold QJ_X10_starts_105 at hQ
  refine g_put gClX10 41 (by decide) fl_X10_82 rfl dX10_starts_105 (ho_199 _ _) rfl rfl (Nat.le_of_ble_eq_true rfl) po_199_41 rfl ?_
  refine g_aload_n dX10_starts_108 rfl rfl rfl ?_
  refine g_iconst (v := (-1)) dX10_starts_109 (by decide) rfl ?_
  refine g_put gClX10 47 (by decide) fl_X10_94 rfl dX10_starts_110 (ho_199 _ _) rfl rfl (Nat.le_of_ble_eq_true rfl) po_199_47 rfl ?_
  refine g_aload_n dX10_starts_113 rfl rfl rfl ?_
  refine g_iconst (v := (-1)) dX10_starts_114 (by decide) rfl ?_
  refine g_put gClX10 48 (by decide) fl_X10_85 rfl dX10_starts_115 (ho_199 _ _) rfl rfl (Nat.le_of_ble_eq_true rfl) po_199_48 rfl ?_
  refine g_aload_n dX10_starts_118 rfl rfl rfl ?_
  refine g_iconst (v := 0) dX10_starts_119 (by decide) rfl ?_
  refine g_put gClX10 49 (by decide) fl_X10_274 rfl dX10_starts_120 (ho_199 _ _) rfl rfl (Nat.le_of_ble_eq_true rfl) po_199_49 rfl ?_
  refine g_aload_n dX10_starts_123 rfl rfl rfl ?_
  refine g_aload_n dX10_starts_124 rfl rfl rfl ?_
  refine g_get gClX10 23 (by decide) fl_X10_193 dX10_starts_125 (ho_199 _ _) rfl rfl ?_
  have o19 := hQ.1
  replace hQ := hQ.2
  refine g_put gClX10 39 (by decide) fl_X10_236 rfl dX10_starts_128 (ho_199 _ _) (gz_n o19) (gz_f o19) (Nat.le_of_ble_eq_true rfl) po_199_39 rfl ?_
  subst hF
  exact g_vret rfl dX10_starts_131 (Nat.le_of_ble_eq_true rfl) (Nat.le_of_ble_eq_true rfl) ⟨rfl, rfl⟩
noncomputable def J_X10_starts_91  (y1 : Int32) (u0 : Int32) (σ : gS) (ζ : gQ) : gS × gQ :=
  let s13 := (pf σ 199 46 u0 : gS)
  if y1 = 0 then
    J_X10_starts_105  (8 : Int32) s13 ζ
  else
    J_X10_starts_105  (1 : Int32) s13 ζ
def QJ_X10_starts_91  (y1 : Int32) (u0 : Int32) (σ : gS) (ζ : gQ) : Prop :=
  let s13 := (pf σ 199 46 u0 : gS)
  if y1 = 0 then
    (QJ_X10_starts_105  (8 : Int32) s13 ζ)
  else
    (QJ_X10_starts_105  (1 : Int32) s13 ζ)
set_option maxHeartbeats 4000000 in
set_option maxRecDepth 100000 in
theorem j_X10_starts_91 (l : Launch) (g : gE)  {fr : gS × gQ} : ∀ (y1 : Int32) (u0 : Int32) (σ : gS) (ζ : gQ), QJ_X10_starts_91  y1 u0 σ ζ → J_X10_starts_91  y1 u0 σ ζ = fr → gG l g mX10_starts (rm 7 203) (gZm g (rm 7 203) (fun r h => r = none ∧ h = hp fr.1 fr.2)) 91 [(0, .ref 199), (1, .int y1)] [.int u0, .ref 199] (hp σ ζ) 0 0 := by
  intro y1 u0 σ ζ hQ hF
  unfold J_X10_starts_91 at hF
  unfold QJ_X10_starts_91 at hQ
  refine g_put gClX10 46 (by decide) fl_X10_227 rfl dX10_starts_91 (ho_199 _ _) rfl rfl (Nat.le_of_ble_eq_true rfl) po_199_46 rfl ?_
  refine g_aload_n dX10_starts_94 rfl rfl rfl ?_
  refine g_iload_n dX10_starts_95 rfl rfl rfl ?_
  refine g_ifeq (tgt := 103) dX10_starts_96 (by decide) rfl (fun c14 => ?_) (fun c14 => ?_)
  · replace hF := ite_p hF c14
    try replace hQ := ite_q hQ c14
    refine g_bipush (v := 8) dX10_starts_103 (by decide) rfl ?_
    refine g_sub [0] rfl ?_
    exact j_X10_starts_105 l g _ _ _ hQ hF
  · replace hF := ite_n hF c14
    try replace hQ := ite_r hQ c14
    refine g_iconst (v := 1) dX10_starts_99 (by decide) rfl ?_
    refine g_goto (tgt := 105) dX10_starts_100 (by decide) ?_
    refine g_sub [0] rfl ?_
    exact j_X10_starts_105 l g _ _ _ hQ hF
noncomputable def J_X10_starts_78  (y1 : Int32) (u0 : Int32) (σ : gS) (ζ : gQ) : gS × gQ :=
  let s11 := (pf σ 199 40 u0 : gS)
  if y1 = 0 then
    J_X10_starts_91  y1 (0 : Int32) s11 ζ
  else
    J_X10_starts_91  y1 (2 : Int32) s11 ζ
def QJ_X10_starts_78  (y1 : Int32) (u0 : Int32) (σ : gS) (ζ : gQ) : Prop :=
  let s11 := (pf σ 199 40 u0 : gS)
  if y1 = 0 then
    (QJ_X10_starts_91  y1 (0 : Int32) s11 ζ)
  else
    (QJ_X10_starts_91  y1 (2 : Int32) s11 ζ)
set_option maxHeartbeats 4000000 in
set_option maxRecDepth 100000 in
theorem j_X10_starts_78 (l : Launch) (g : gE)  {fr : gS × gQ} : ∀ (y1 : Int32) (u0 : Int32) (σ : gS) (ζ : gQ), QJ_X10_starts_78  y1 u0 σ ζ → J_X10_starts_78  y1 u0 σ ζ = fr → gG l g mX10_starts (rm 7 203) (gZm g (rm 7 203) (fun r h => r = none ∧ h = hp fr.1 fr.2)) 78 [(0, .ref 199), (1, .int y1)] [.int u0, .ref 199] (hp σ ζ) 0 0 := by
  intro y1 u0 σ ζ hQ hF
  unfold J_X10_starts_78 at hF
  unfold QJ_X10_starts_78 at hQ
  refine g_put gClX10 40 (by decide) fl_X10_271 rfl dX10_starts_78 (ho_199 _ _) rfl rfl (Nat.le_of_ble_eq_true rfl) po_199_40 rfl ?_
  refine g_aload_n dX10_starts_81 rfl rfl rfl ?_
  refine g_iload_n dX10_starts_82 rfl rfl rfl ?_
  refine g_ifeq (tgt := 90) dX10_starts_83 (by decide) rfl (fun c12 => ?_) (fun c12 => ?_)
  · replace hF := ite_p hF c12
    try replace hQ := ite_q hQ c12
    refine g_iconst (v := 0) dX10_starts_90 (by decide) rfl ?_
    refine g_sub [0, 1] rfl ?_
    exact j_X10_starts_91 l g _ _ _ _ hQ hF
  · replace hF := ite_n hF c12
    try replace hQ := ite_r hQ c12
    refine g_iconst (v := 2) dX10_starts_86 (by decide) rfl ?_
    refine g_goto (tgt := 91) dX10_starts_87 (by decide) ?_
    refine g_sub [0, 1] rfl ?_
    exact j_X10_starts_91 l g _ _ _ _ hQ hF
noncomputable def J_X10_starts_32  (y1 : Int32) (σ : gS) (ζ : gQ) : gS × gQ :=
  let s4 := (pf σ 199 35 (0 : Int32) : gS)
  let s5 := (pf s4 199 38 (0 : Int32) : gS)
  let z6 := (vp_updL ζ 37 (ζ 19) : gQ)
  let z7 := (vp_updL z6 36 (z6 19) : gQ)
  let s8 := (pf s5 199 42 (0 : Int32) : gS)
  let s9 := (pf s8 199 43 (-1 : Int32) : gS)
  if y1 = 0 then
    J_X10_starts_78  y1 (0 : Int32) s9 z7
  else
    J_X10_starts_78  y1 (1 : Int32) s9 z7
def QJ_X10_starts_32  (y1 : Int32) (σ : gS) (ζ : gQ) : Prop :=
  let s4 := (pf σ 199 35 (0 : Int32) : gS)
  let s5 := (pf s4 199 38 (0 : Int32) : gS)
  let z6 := (vp_updL ζ 37 (ζ 19) : gQ)
  let z7 := (vp_updL z6 36 (z6 19) : gQ)
  let s8 := (pf s5 199 42 (0 : Int32) : gS)
  let s9 := (pf s8 199 43 (-1 : Int32) : gS)
  if y1 = 0 then
    (QJ_X10_starts_78  y1 (0 : Int32) s9 z7)
  else
    (QJ_X10_starts_78  y1 (1 : Int32) s9 z7)
set_option maxHeartbeats 4000000 in
set_option maxRecDepth 100000 in
theorem j_X10_starts_32 (l : Launch) (g : gE)  {fr : gS × gQ} : ∀ (y1 : Int32) (σ : gS) (ζ : gQ), QJ_X10_starts_32  y1 σ ζ → J_X10_starts_32  y1 σ ζ = fr → gG l g mX10_starts (rm 7 203) (gZm g (rm 7 203) (fun r h => r = none ∧ h = hp fr.1 fr.2)) 32 [(0, .ref 199), (1, .int y1)] [] (hp σ ζ) 0 0 := by
  intro y1 σ ζ hQ hF
  unfold J_X10_starts_32 at hF
  unfold QJ_X10_starts_32 at hQ
  refine g_aload_n dX10_starts_32 rfl rfl rfl ?_
  refine g_iconst (v := 0) dX10_starts_33 (by decide) rfl ?_
  refine g_put gClX10 35 (by decide) fl_X10_256 rfl dX10_starts_34 (ho_199 _ _) rfl rfl (Nat.le_of_ble_eq_true rfl) po_199_35 rfl ?_
  refine g_aload_n dX10_starts_37 rfl rfl rfl ?_
  refine g_iconst (v := 0) dX10_starts_38 (by decide) rfl ?_
  refine g_put gClX10 38 (by decide) fl_X10_268 rfl dX10_starts_39 (ho_199 _ _) rfl rfl (Nat.le_of_ble_eq_true rfl) po_199_38 rfl ?_
  refine g_aload_n dX10_starts_42 rfl rfl rfl ?_
  refine g_aload_n dX10_starts_43 rfl rfl rfl ?_
  refine g_get gClX10 19 (by decide) fl_X10_182 dX10_starts_44 (ho_199 _ _) rfl rfl ?_
  refine g_put gClX10 37 (by decide) fl_X10_265 rfl dX10_starts_47 (ho_199 _ _) rfl rfl (Nat.le_of_ble_eq_true rfl) pz_37 rfl ?_
  refine g_aload_n dX10_starts_50 rfl rfl rfl ?_
  refine g_aload_n dX10_starts_51 rfl rfl rfl ?_
  refine g_get gClX10 19 (by decide) fl_X10_182 dX10_starts_52 (ho_199 _ _) rfl rfl ?_
  refine g_put gClX10 36 (by decide) fl_X10_259 rfl dX10_starts_55 (ho_199 _ _) rfl rfl (Nat.le_of_ble_eq_true rfl) pz_36 rfl ?_
  refine g_aload_n dX10_starts_58 rfl rfl rfl ?_
  refine g_iconst (v := 0) dX10_starts_59 (by decide) rfl ?_
  refine g_put gClX10 42 (by decide) fl_X10_246 rfl dX10_starts_60 (ho_199 _ _) rfl rfl (Nat.le_of_ble_eq_true rfl) po_199_42 rfl ?_
  refine g_aload_n dX10_starts_63 rfl rfl rfl ?_
  refine g_iconst (v := (-1)) dX10_starts_64 (by decide) rfl ?_
  refine g_put gClX10 43 (by decide) fl_X10_91 rfl dX10_starts_65 (ho_199 _ _) rfl rfl (Nat.le_of_ble_eq_true rfl) po_199_43 rfl ?_
  refine g_aload_n dX10_starts_68 rfl rfl rfl ?_
  refine g_iload_n dX10_starts_69 rfl rfl rfl ?_
  refine g_ifeq (tgt := 77) dX10_starts_70 (by decide) rfl (fun c10 => ?_) (fun c10 => ?_)
  · replace hF := ite_p hF c10
    try replace hQ := ite_q hQ c10
    refine g_iconst (v := 0) dX10_starts_77 (by decide) rfl ?_
    refine g_sub [0, 1] rfl ?_
    exact j_X10_starts_78 l g _ _ _ _ hQ hF
  · replace hF := ite_n hF c10
    try replace hQ := ite_r hQ c10
    refine g_iconst (v := 1) dX10_starts_73 (by decide) rfl ?_
    refine g_goto (tgt := 78) dX10_starts_74 (by decide) ?_
    refine g_sub [0, 1] rfl ?_
    exact j_X10_starts_78 l g _ _ _ _ hQ hF
noncomputable def J_X10_starts_13  (u0 : Int32) (σ : gS) (ζ : gQ) : gS × gQ :=
  let s2 := (pf σ 199 32 (0 : Int32) : gS)
  if u0 = 0 then
    J_X10_starts_32  u0 s2 ζ
  else
    let f23 := (F_X10_put_ s2 ζ (70 : Int32) (1 : Int32) (-1 : Int32))
    J_X10_starts_32  u0 f23.2.1 f23.2.2
def QJ_X10_starts_13  (u0 : Int32) (σ : gS) (ζ : gQ) : Prop :=
  let s2 := (pf σ 199 32 (0 : Int32) : gS)
  if u0 = 0 then
    (QJ_X10_starts_32  u0 s2 ζ)
  else
    ((Q_X10_put_ s2 ζ (70 : Int32) (1 : Int32) (-1 : Int32)) ∧ (let f23 := (F_X10_put_ s2 ζ (70 : Int32) (1 : Int32) (-1 : Int32))
    QJ_X10_starts_32  u0 f23.2.1 f23.2.2))
set_option maxHeartbeats 4000000 in
set_option maxRecDepth 100000 in
theorem j_X10_starts_13 (l : Launch) (g : gE)  {fr : gS × gQ} : ∀ (u0 : Int32) (σ : gS) (ζ : gQ), QJ_X10_starts_13  u0 σ ζ → J_X10_starts_13  u0 σ ζ = fr → gG l g mX10_starts (rm 7 203) (gZm g (rm 7 203) (fun r h => r = none ∧ h = hp fr.1 fr.2)) 13 [(0, .ref 199)] [.int u0] (hp σ ζ) 0 0 := by
  intro u0 σ ζ hQ hF
  unfold J_X10_starts_13 at hF
  unfold QJ_X10_starts_13 at hQ
  refine g_istoreL_n (L1 := [(0, _), (1, _)]) dX10_starts_13 rfl (by decide) rfl rfl ?_
  refine g_aload_n dX10_starts_14 rfl rfl rfl ?_
  refine g_iconst (v := 0) dX10_starts_15 (by decide) rfl ?_
  refine g_put gClX10 32 (by decide) fl_X10_209 rfl dX10_starts_16 (ho_199 _ _) rfl rfl (Nat.le_of_ble_eq_true rfl) po_199_32 rfl ?_
  refine g_iload_n dX10_starts_19 rfl rfl rfl ?_
  refine g_ifeq (tgt := 32) dX10_starts_20 (by decide) rfl (fun c3 => ?_) (fun c3 => ?_)
  · replace hF := ite_p hF c3
    try replace hQ := ite_q hQ c3
    refine g_sub [0, 1] rfl ?_
    exact j_X10_starts_32 l g _ _ _ hQ hF
  · replace hF := ite_n hF c3
    try replace hQ := ite_r hQ c3
    refine g_aload_n dX10_starts_23 rfl rfl rfl ?_
    refine g_bipush (v := 70) dX10_starts_24 (by decide) rfl ?_
    refine g_iconst (v := 1) dX10_starts_26 (by decide) rfl ?_
    refine g_iconst (v := (-1)) dX10_starts_27 (by decide) rfl ?_
    have o21 := hQ.1
    replace hQ := hQ.2
    refine g_callv mv_X10_put_ ml_X10_239 (c_X10_put_ l g _ _ _ o21) (ho_199 _ _) rfl rfl (Nat.le_of_ble_eq_true rfl) (Nat.le_of_ble_eq_true rfl) (Nat.le_of_ble_eq_true rfl) (Nat.le_of_ble_eq_true rfl) rfl (Nat.le_of_ble_eq_true rfl) dX10_starts_28 rfl (fun r22 hr22 pr22 => ?_)
    obtain ⟨rfl, rfl⟩ := pr22
    refine g_pop dX10_starts_31 rfl rfl ?_
    refine g_sub [0, 1] rfl ?_
    exact j_X10_starts_32 l g _ _ _ hQ hF
noncomputable def Fr_X10_starts (σ : gS) (ζ : gQ)  : gS × gQ :=
  if (σ 199 46) ≤ (1 : Int32) then
    J_X10_starts_13  (0 : Int32) σ ζ
  else
    J_X10_starts_13  (1 : Int32) σ ζ
noncomputable def F_X10_starts : gS → gQ → gS × gQ := Classical.choose (⟨Fr_X10_starts, rfl⟩ : ∃ f : gS → gQ → gS × gQ, f = Fr_X10_starts)
theorem F_X10_starts_eq : F_X10_starts = Fr_X10_starts := Classical.choose_spec (⟨Fr_X10_starts, rfl⟩ : ∃ f : gS → gQ → gS × gQ, f = Fr_X10_starts)
def Q_X10_starts (σ : gS) (ζ : gQ)  : Prop :=
  if (σ 199 46) ≤ (1 : Int32) then
    (QJ_X10_starts_13  (0 : Int32) σ ζ)
  else
    (QJ_X10_starts_13  (1 : Int32) σ ζ)
set_option maxHeartbeats 4000000 in
set_option maxRecDepth 100000 in
theorem c_X10_starts (l : Launch) (g : gE)  {σ : gS} {ζ : gQ}  (hQ : Q_X10_starts σ ζ ) : gC l g mX10_starts (rm 7 203) [.ref 199] (hp σ ζ) (fun r h => r = none ∧ h = hp (F_X10_starts σ ζ ).1 (F_X10_starts σ ζ ).2) := by
  refine gC_of (by decide) (Nat.le_of_ble_eq_true rfl) ?_
  generalize hF : (F_X10_starts σ ζ ) = fr
  rw [F_X10_starts_eq] at hF
  unfold Fr_X10_starts at hF
  unfold Q_X10_starts at hQ
  refine g_aload_n dX10_starts_0 rfl rfl rfl ?_
  refine g_get gClX10 46 (by decide) fl_X10_227 dX10_starts_1 (ho_199 _ _) rfl rfl ?_
  refine g_iconst (v := 1) dX10_starts_4 (by decide) rfl ?_
  refine g_icmple (tgt := 12) dX10_starts_5 (by decide) rfl (fun c1 => ?_) (fun c1 => ?_)
  · replace hF := ite_p hF c1
    try replace hQ := ite_q hQ c1
    refine g_iconst (v := 0) dX10_starts_12 (by decide) rfl ?_
    refine g_sub [0] rfl ?_
    exact j_X10_starts_13 l g _ _ _ hQ hF
  · replace hF := ite_n hF c1
    try replace hQ := ite_r hQ c1
    refine g_iconst (v := 1) dX10_starts_8 (by decide) rfl ?_
    refine g_goto (tgt := 13) dX10_starts_9 (by decide) ?_
    refine g_sub [0] rfl ?_
    exact j_X10_starts_13 l g _ _ _ hQ hF
noncomputable def J_X10_poll_46  (u0 : Int32) (σ : gS) (ζ : gQ) : Int32 × gS × gQ :=
  let s7 := (pf σ 199 27 (-1 : Int32) : gS)
  let s8 := (pf s7 199 33 (0 : Int32) : gS)
  if u0 = 0 then
    ((s8 199 32), s8, ζ)
  else
    let f12 := (F_X10_starts s8 ζ )
    (((-2 : Int32) - (s8 199 32)), f12.1, f12.2)
def QJ_X10_poll_46  (u0 : Int32) (σ : gS) (ζ : gQ) : Prop :=
  let s7 := (pf σ 199 27 (-1 : Int32) : gS)
  let s8 := (pf s7 199 33 (0 : Int32) : gS)
  if u0 = 0 then
    (True)
  else
    ((Q_X10_starts s8 ζ ) ∧ (let f12 := (F_X10_starts s8 ζ )
    True))
set_option maxHeartbeats 4000000 in
set_option maxRecDepth 100000 in
theorem j_X10_poll_46 (l : Launch) (g : gE)  {fr : Int32 × gS × gQ} : ∀ (u0 : Int32) (σ : gS) (ζ : gQ), QJ_X10_poll_46  u0 σ ζ → J_X10_poll_46  u0 σ ζ = fr → gG l g mX10_poll (rm 11 293) (gZm g (rm 11 293) (fun r h => r = some (.int fr.1) ∧ h = hp fr.2.1 fr.2.2)) 46 [(0, .ref 199)] [.int u0] (hp σ ζ) 0 0 := by
  intro u0 σ ζ hQ hF
  unfold J_X10_poll_46 at hF
  unfold QJ_X10_poll_46 at hQ
  refine g_istoreL_n (L1 := [(0, _), (1, _)]) dX10_poll_46 rfl (by decide) rfl rfl ?_
  refine g_aload_n dX10_poll_47 rfl rfl rfl ?_
  refine g_iconst (v := (-1)) dX10_poll_48 (by decide) rfl ?_
  refine g_put gClX10 27 (by decide) fl_X10_97 rfl dX10_poll_49 (ho_199 _ _) rfl rfl (Nat.le_of_ble_eq_true rfl) po_199_27 rfl ?_
  refine g_aload_n dX10_poll_52 rfl rfl rfl ?_
  refine g_iconst (v := 0) dX10_poll_53 (by decide) rfl ?_
  refine g_put gClX10 33 (by decide) fl_X10_212 rfl dX10_poll_54 (ho_199 _ _) rfl rfl (Nat.le_of_ble_eq_true rfl) po_199_33 rfl ?_
  refine g_aload_n dX10_poll_57 rfl rfl rfl ?_
  refine g_get gClX10 32 (by decide) fl_X10_209 dX10_poll_58 (ho_199 _ _) rfl rfl ?_
  refine g_istoreL_n (L1 := [(0, _), (1, _), (2, _)]) dX10_poll_61 rfl (by decide) rfl rfl ?_
  refine g_iload_n dX10_poll_62 rfl rfl rfl ?_
  refine g_ifeq (tgt := 75) dX10_poll_63 (by decide) rfl (fun c9 => ?_) (fun c9 => ?_)
  · replace hF := ite_p hF c9
    try replace hQ := ite_q hQ c9
    refine g_iload_n dX10_poll_75 rfl rfl rfl ?_
    subst hF
    exact g_iret rfl dX10_poll_76 (Nat.le_of_ble_eq_true rfl) (Nat.le_of_ble_eq_true rfl) ⟨rfl, rfl⟩
  · replace hF := ite_n hF c9
    try replace hQ := ite_r hQ c9
    refine g_aload_n dX10_poll_66 rfl rfl rfl ?_
    have o10 := hQ.1
    replace hQ := hQ.2
    refine g_callv mv_X10_starts ml_X10_233 (c_X10_starts l g o10) (ho_199 _ _) rfl rfl (Nat.le_of_ble_eq_true rfl) (Nat.le_of_ble_eq_true rfl) (Nat.le_of_ble_eq_true rfl) (Nat.le_of_ble_eq_true rfl) rfl (Nat.le_of_ble_eq_true rfl) dX10_poll_67 rfl (fun r11 hr11 pr11 => ?_)
    obtain ⟨rfl, rfl⟩ := pr11
    refine g_bipush (v := (-2)) dX10_poll_70 (by decide) rfl ?_
    refine g_iload_n dX10_poll_72 rfl rfl rfl ?_
    refine g_isub dX10_poll_73 rfl ?_
    subst hF
    exact g_iret rfl dX10_poll_74 (Nat.le_of_ble_eq_true rfl) (Nat.le_of_ble_eq_true rfl) ⟨rfl, rfl⟩
noncomputable def J_X10_poll_34  (σ : gS) (ζ : gQ) : Int32 × gS × gQ :=
  if (σ 199 27) < 0 then
    J_X10_poll_46  (0 : Int32) σ ζ
  else
    J_X10_poll_46  (1 : Int32) σ ζ
def QJ_X10_poll_34  (σ : gS) (ζ : gQ) : Prop :=
  if (σ 199 27) < 0 then
    (QJ_X10_poll_46  (0 : Int32) σ ζ)
  else
    (QJ_X10_poll_46  (1 : Int32) σ ζ)
set_option maxHeartbeats 4000000 in
set_option maxRecDepth 100000 in
theorem j_X10_poll_34 (l : Launch) (g : gE)  {fr : Int32 × gS × gQ} : ∀ (σ : gS) (ζ : gQ), QJ_X10_poll_34  σ ζ → J_X10_poll_34  σ ζ = fr → gG l g mX10_poll (rm 11 293) (gZm g (rm 11 293) (fun r h => r = some (.int fr.1) ∧ h = hp fr.2.1 fr.2.2)) 34 [(0, .ref 199)] [] (hp σ ζ) 0 0 := by
  intro σ ζ hQ hF
  unfold J_X10_poll_34 at hF
  unfold QJ_X10_poll_34 at hQ
  refine g_aload_n dX10_poll_34 rfl rfl rfl ?_
  refine g_get gClX10 27 (by decide) fl_X10_97 dX10_poll_35 (ho_199 _ _) rfl rfl ?_
  refine g_iflt (tgt := 45) dX10_poll_38 (by decide) rfl (fun c6 => ?_) (fun c6 => ?_)
  · replace hF := ite_p hF c6
    try replace hQ := ite_q hQ c6
    refine g_iconst (v := 0) dX10_poll_45 (by decide) rfl ?_
    refine g_sub [0] rfl ?_
    exact j_X10_poll_46 l g _ _ _ hQ hF
  · replace hF := ite_n hF c6
    try replace hQ := ite_r hQ c6
    refine g_iconst (v := 1) dX10_poll_41 (by decide) rfl ?_
    refine g_goto (tgt := 46) dX10_poll_42 (by decide) ?_
    refine g_sub [0] rfl ?_
    exact j_X10_poll_46 l g _ _ _ hQ hF
noncomputable def J_X10_poll_18  (u0 : Int32) (σ : gS) (ζ : gQ) : Int32 × gS × gQ :=
  let s4 := (pf σ 199 33 u0 : gS)
  if (s4 199 46) = (7 : Int32) then
    J_X10_poll_34  s4 ζ
  else
    let f15 := (F_X10_look s4 ζ )
    J_X10_poll_34  f15.1 f15.2
def QJ_X10_poll_18  (u0 : Int32) (σ : gS) (ζ : gQ) : Prop :=
  (u0 = 0 ∨ u0 = 1) ∧ (let s4 := (pf σ 199 33 u0 : gS)
  if (s4 199 46) = (7 : Int32) then
    (QJ_X10_poll_34  s4 ζ)
  else
    ((Q_X10_look s4 ζ ) ∧ (let f15 := (F_X10_look s4 ζ )
    QJ_X10_poll_34  f15.1 f15.2)))
set_option maxHeartbeats 4000000 in
set_option maxRecDepth 100000 in
theorem j_X10_poll_18 (l : Launch) (g : gE)  {fr : Int32 × gS × gQ} : ∀ (u0 : Int32) (σ : gS) (ζ : gQ), QJ_X10_poll_18  u0 σ ζ → J_X10_poll_18  u0 σ ζ = fr → gG l g mX10_poll (rm 11 293) (gZm g (rm 11 293) (fun r h => r = some (.int fr.1) ∧ h = hp fr.2.1 fr.2.2)) 18 [(0, .ref 199)] [.int u0, .ref 199] (hp σ ζ) 0 0 := by
  intro u0 σ ζ hQ hF
  unfold J_X10_poll_18 at hF
  unfold QJ_X10_poll_18 at hQ
  have o3 := hQ.1
  replace hQ := hQ.2
  refine g_put gClX10 33 (by decide) fl_X10_212 rfl dX10_poll_18 (ho_199 _ _) (gz_n o3) (gz_f o3) (Nat.le_of_ble_eq_true rfl) po_199_33 rfl ?_
  refine g_aload_n dX10_poll_21 rfl rfl rfl ?_
  refine g_get gClX10 46 (by decide) fl_X10_227 dX10_poll_22 (ho_199 _ _) rfl rfl ?_
  refine g_bipush (v := 7) dX10_poll_25 (by decide) rfl ?_
  refine g_icmpeq (tgt := 34) dX10_poll_27 (by decide) rfl (fun c5 => ?_) (fun c5 => ?_)
  · replace hF := ite_p hF c5
    try replace hQ := ite_q hQ c5
    refine g_sub [0] rfl ?_
    exact j_X10_poll_34 l g _ _ hQ hF
  · replace hF := ite_n hF c5
    try replace hQ := ite_r hQ c5
    refine g_aload_n dX10_poll_30 rfl rfl rfl ?_
    have o13 := hQ.1
    replace hQ := hQ.2
    refine g_callv mv_X10_look ml_X10_230 (c_X10_look l g o13) (ho_199 _ _) rfl rfl (Nat.le_of_ble_eq_true rfl) (Nat.le_of_ble_eq_true rfl) (Nat.le_of_ble_eq_true rfl) (Nat.le_of_ble_eq_true rfl) rfl (Nat.le_of_ble_eq_true rfl) dX10_poll_31 rfl (fun r14 hr14 pr14 => ?_)
    obtain ⟨rfl, rfl⟩ := pr14
    refine g_sub [0] rfl ?_
    exact j_X10_poll_34 l g _ _ hQ hF
noncomputable def Fr_X10_poll (σ : gS) (ζ : gQ)  : Int32 × gS × gQ :=
  let s1 := (pf σ 199 32 (0 : Int32) : gS)
  if (s1 199 27) = 0 then
    J_X10_poll_18  (1 : Int32) s1 ζ
  else
    J_X10_poll_18  (0 : Int32) s1 ζ
noncomputable def F_X10_poll : gS → gQ → Int32 × gS × gQ := Classical.choose (⟨Fr_X10_poll, rfl⟩ : ∃ f : gS → gQ → Int32 × gS × gQ, f = Fr_X10_poll)
theorem F_X10_poll_eq : F_X10_poll = Fr_X10_poll := Classical.choose_spec (⟨Fr_X10_poll, rfl⟩ : ∃ f : gS → gQ → Int32 × gS × gQ, f = Fr_X10_poll)
def Q_X10_poll (σ : gS) (ζ : gQ)  : Prop :=
  let s1 := (pf σ 199 32 (0 : Int32) : gS)
  if (s1 199 27) = 0 then
    (QJ_X10_poll_18  (1 : Int32) s1 ζ)
  else
    (QJ_X10_poll_18  (0 : Int32) s1 ζ)
set_option maxHeartbeats 4000000 in
set_option maxRecDepth 100000 in
theorem c_X10_poll (l : Launch) (g : gE)  {σ : gS} {ζ : gQ}  (hQ : Q_X10_poll σ ζ ) : gC l g mX10_poll (rm 11 293) [.ref 199] (hp σ ζ) (fun r h => r = some (.int (F_X10_poll σ ζ ).1) ∧ h = hp (F_X10_poll σ ζ ).2.1 (F_X10_poll σ ζ ).2.2) := by
  refine gC_of (by decide) (Nat.le_of_ble_eq_true rfl) ?_
  generalize hF : (F_X10_poll σ ζ ) = fr
  rw [F_X10_poll_eq] at hF
  unfold Fr_X10_poll at hF
  unfold Q_X10_poll at hQ
  refine g_aload_n dX10_poll_0 rfl rfl rfl ?_
  refine g_iconst (v := 0) dX10_poll_1 (by decide) rfl ?_
  refine g_put gClX10 32 (by decide) fl_X10_209 rfl dX10_poll_2 (ho_199 _ _) rfl rfl (Nat.le_of_ble_eq_true rfl) po_199_32 rfl ?_
  refine g_aload_n dX10_poll_5 rfl rfl rfl ?_
  refine g_aload_n dX10_poll_6 rfl rfl rfl ?_
  refine g_get gClX10 27 (by decide) fl_X10_97 dX10_poll_7 (ho_199 _ _) rfl rfl ?_
  refine g_ifne (tgt := 17) dX10_poll_10 (by decide) rfl (fun c2 => ?_) (fun c2 => ?_)
  · replace hF := ite_n hF c2
    try replace hQ := ite_r hQ c2
    refine g_iconst (v := 0) dX10_poll_17 (by decide) rfl ?_
    refine g_sub [0] rfl ?_
    exact j_X10_poll_18 l g _ _ _ hQ hF
  · replace hF := ite_p hF c2
    try replace hQ := ite_q hQ c2
    refine g_iconst (v := 1) dX10_poll_13 (by decide) rfl ?_
    refine g_goto (tgt := 18) dX10_poll_14 (by decide) ?_
    refine g_sub [0] rfl ?_
    exact j_X10_poll_18 l g _ _ _ hQ hF
noncomputable def J_X10_put_57 (p0 : Int32) (p1 : Int32) (σ : gS) : Int32 × gS :=
  if p0 = 0 then
    let s7 := (pf σ 199 20 p1 : gS)
    ((1 : Int32), s7)
  else
    let s6 := (pf σ 199 21 p1 : gS)
    ((1 : Int32), s6)
def QJ_X10_put_57 (p0 : Int32) (p1 : Int32) (σ : gS) : Prop :=
  if p0 = 0 then
    (let s7 := (pf σ 199 20 p1 : gS)
    True)
  else
    (let s6 := (pf σ 199 21 p1 : gS)
    True)
set_option maxHeartbeats 4000000 in
set_option maxRecDepth 100000 in
theorem j_X10_put_57 (l : Launch) (g : gE) {p0 : Int32} {p1 : Int32} {ζ : gQ} {fr : Int32 × gS} : ∀ (σ : gS), QJ_X10_put_57 p0 p1 σ → J_X10_put_57 p0 p1 σ = fr → gG l g mX10_put (rm 1 20) (gZm g (rm 1 20) (fun r h => r = some (.int fr.1) ∧ h = hp fr.2 ζ)) 57 [(0, .ref 199), (1, .int p0), (2, .int p1)] [] (hp σ ζ) 0 0 := by
  intro σ hQ hF
  unfold J_X10_put_57 at hF
  unfold QJ_X10_put_57 at hQ
  refine g_iload_n dX10_put_57 rfl rfl rfl ?_
  refine g_ifne (tgt := 69) dX10_put_58 (by decide) rfl (fun c5 => ?_) (fun c5 => ?_)
  · replace hF := ite_n hF c5
    try replace hQ := ite_r hQ c5
    refine g_aload_n dX10_put_69 rfl rfl rfl ?_
    refine g_iload_n dX10_put_70 rfl rfl rfl ?_
    refine g_put gClX10 21 (by decide) fl_X10_73 rfl dX10_put_71 (ho_199 _ _) rfl rfl (Nat.le_of_ble_eq_true rfl) po_199_21 rfl ?_
    refine g_iconst (v := 1) dX10_put_74 (by decide) rfl ?_
    subst hF
    exact g_zret rfl dX10_put_75 (by decide) (Nat.le_of_ble_eq_true rfl) (Nat.le_of_ble_eq_true rfl) ⟨rfl, rfl⟩
  · replace hF := ite_p hF c5
    try replace hQ := ite_q hQ c5
    refine g_aload_n dX10_put_61 rfl rfl rfl ?_
    refine g_iload_n dX10_put_62 rfl rfl rfl ?_
    refine g_put gClX10 20 (by decide) fl_X10_69 rfl dX10_put_63 (ho_199 _ _) rfl rfl (Nat.le_of_ble_eq_true rfl) po_199_20 rfl ?_
    refine g_goto (tgt := 74) dX10_put_66 (by decide) ?_
    refine g_iconst (v := 1) dX10_put_74 (by decide) rfl ?_
    subst hF
    exact g_zret rfl dX10_put_75 (by decide) (Nat.le_of_ble_eq_true rfl) (Nat.le_of_ble_eq_true rfl) ⟨rfl, rfl⟩
noncomputable def J_X10_put_51 (p0 : Int32) (p1 : Int32) (u0 : Int32) (σ : gS) : Int32 × gS :=
  if u0 = p1 then
    ((0 : Int32), σ)
  else
    J_X10_put_57 p0 p1 σ
def QJ_X10_put_51 (p0 : Int32) (p1 : Int32) (u0 : Int32) (σ : gS) : Prop :=
  if u0 = p1 then
    (True)
  else
    (QJ_X10_put_57 p0 p1 σ)
set_option maxHeartbeats 4000000 in
set_option maxRecDepth 100000 in
theorem j_X10_put_51 (l : Launch) (g : gE) {p0 : Int32} {p1 : Int32} {ζ : gQ} {fr : Int32 × gS} : ∀ (u0 : Int32) (σ : gS), QJ_X10_put_51 p0 p1 u0 σ → J_X10_put_51 p0 p1 u0 σ = fr → gG l g mX10_put (rm 1 20) (gZm g (rm 1 20) (fun r h => r = some (.int fr.1) ∧ h = hp fr.2 ζ)) 51 [(0, .ref 199), (1, .int p0), (2, .int p1)] [.int u0] (hp σ ζ) 0 0 := by
  intro u0 σ hQ hF
  unfold J_X10_put_51 at hF
  unfold QJ_X10_put_51 at hQ
  refine g_iload_n dX10_put_51 rfl rfl rfl ?_
  refine g_icmpne (tgt := 57) dX10_put_52 (by decide) rfl (fun c9 => ?_) (fun c9 => ?_)
  · replace hF := ite_n hF c9
    try replace hQ := ite_r hQ c9
    refine g_sub [0, 1, 2] rfl ?_
    exact j_X10_put_57 l g _ hQ hF
  · replace hF := ite_p hF c9
    try replace hQ := ite_q hQ c9
    refine g_iconst (v := 0) dX10_put_55 (by decide) rfl ?_
    subst hF
    exact g_zret rfl dX10_put_56 (by decide) (Nat.le_of_ble_eq_true rfl) (Nat.le_of_ble_eq_true rfl) ⟨rfl, rfl⟩
noncomputable def J_X10_put_26 (p0 : Int32) (p1 : Int32) (u0 : Int32) (σ : gS) : Int32 × gS :=
  if u0 = 0 then
    ((0 : Int32), σ)
  else
    if p1 = (-1 : Int32) then
      J_X10_put_57 p0 p1 σ
    else
      if p0 = 0 then
        J_X10_put_51 p0 p1 (σ 199 21) σ
      else
        J_X10_put_51 p0 p1 (σ 199 20) σ
def QJ_X10_put_26 (p0 : Int32) (p1 : Int32) (u0 : Int32) (σ : gS) : Prop :=
  if u0 = 0 then
    (True)
  else
    (if p1 = (-1 : Int32) then
      (QJ_X10_put_57 p0 p1 σ)
    else
      (if p0 = 0 then
        (QJ_X10_put_51 p0 p1 (σ 199 21) σ)
      else
        (QJ_X10_put_51 p0 p1 (σ 199 20) σ)))
set_option maxHeartbeats 4000000 in
set_option maxRecDepth 100000 in
theorem j_X10_put_26 (l : Launch) (g : gE) {p0 : Int32} {p1 : Int32} {ζ : gQ} {fr : Int32 × gS} : ∀ (u0 : Int32) (σ : gS), QJ_X10_put_26 p0 p1 u0 σ → J_X10_put_26 p0 p1 u0 σ = fr → gG l g mX10_put (rm 1 20) (gZm g (rm 1 20) (fun r h => r = some (.int fr.1) ∧ h = hp fr.2 ζ)) 26 [(0, .ref 199), (1, .int p0), (2, .int p1)] [.int u0] (hp σ ζ) 0 0 := by
  intro u0 σ hQ hF
  unfold J_X10_put_26 at hF
  unfold QJ_X10_put_26 at hQ
  refine g_istoreL_n (L1 := [(0, _), (1, _), (2, _), (3, _)]) dX10_put_26 rfl (by decide) rfl rfl ?_
  refine g_iload_n dX10_put_27 rfl rfl rfl ?_
  refine g_ifeq (tgt := 55) dX10_put_28 (by decide) rfl (fun c3 => ?_) (fun c3 => ?_)
  · replace hF := ite_p hF c3
    try replace hQ := ite_q hQ c3
    refine g_iconst (v := 0) dX10_put_55 (by decide) rfl ?_
    subst hF
    exact g_zret rfl dX10_put_56 (by decide) (Nat.le_of_ble_eq_true rfl) (Nat.le_of_ble_eq_true rfl) ⟨rfl, rfl⟩
  · replace hF := ite_n hF c3
    try replace hQ := ite_r hQ c3
    refine g_iload_n dX10_put_31 rfl rfl rfl ?_
    refine g_iconst (v := (-1)) dX10_put_32 (by decide) rfl ?_
    refine g_icmpeq (tgt := 57) dX10_put_33 (by decide) rfl (fun c4 => ?_) (fun c4 => ?_)
    · replace hF := ite_p hF c4
      try replace hQ := ite_q hQ c4
      refine g_sub [0, 1, 2] rfl ?_
      exact j_X10_put_57 l g _ hQ hF
    · replace hF := ite_n hF c4
      try replace hQ := ite_r hQ c4
      refine g_iload_n dX10_put_36 rfl rfl rfl ?_
      refine g_ifne (tgt := 47) dX10_put_37 (by decide) rfl (fun c8 => ?_) (fun c8 => ?_)
      · replace hF := ite_n hF c8
        try replace hQ := ite_r hQ c8
        refine g_aload_n dX10_put_47 rfl rfl rfl ?_
        refine g_get gClX10 20 (by decide) fl_X10_69 dX10_put_48 (ho_199 _ _) rfl rfl ?_
        refine g_sub [0, 1, 2] rfl ?_
        exact j_X10_put_51 l g _ _ hQ hF
      · replace hF := ite_p hF c8
        try replace hQ := ite_q hQ c8
        refine g_aload_n dX10_put_40 rfl rfl rfl ?_
        refine g_get gClX10 21 (by decide) fl_X10_73 dX10_put_41 (ho_199 _ _) rfl rfl ?_
        refine g_goto (tgt := 51) dX10_put_44 (by decide) ?_
        refine g_sub [0, 1, 2] rfl ?_
        exact j_X10_put_51 l g _ _ hQ hF
noncomputable def J_X10_put_21 (p0 : Int32) (p1 : Int32) (σ : gS) : Int32 × gS :=
  J_X10_put_26 p0 p1 (1 : Int32) σ
def QJ_X10_put_21 (p0 : Int32) (p1 : Int32) (σ : gS) : Prop :=
  QJ_X10_put_26 p0 p1 (1 : Int32) σ
set_option maxHeartbeats 4000000 in
set_option maxRecDepth 100000 in
theorem j_X10_put_21 (l : Launch) (g : gE) {p0 : Int32} {p1 : Int32} {ζ : gQ} {fr : Int32 × gS} : ∀ (σ : gS), QJ_X10_put_21 p0 p1 σ → J_X10_put_21 p0 p1 σ = fr → gG l g mX10_put (rm 1 20) (gZm g (rm 1 20) (fun r h => r = some (.int fr.1) ∧ h = hp fr.2 ζ)) 21 [(0, .ref 199), (1, .int p0), (2, .int p1)] [] (hp σ ζ) 0 0 := by
  intro σ hQ hF
  unfold J_X10_put_21 at hF
  unfold QJ_X10_put_21 at hQ
  refine g_iconst (v := 1) dX10_put_21 (by decide) rfl ?_
  refine g_goto (tgt := 26) dX10_put_22 (by decide) ?_
  refine g_sub [0, 1, 2] rfl ?_
  exact j_X10_put_26 l g _ _ hQ hF
noncomputable def J_X10_put_25 (p0 : Int32) (p1 : Int32) (σ : gS) : Int32 × gS :=
  J_X10_put_26 p0 p1 (0 : Int32) σ
def QJ_X10_put_25 (p0 : Int32) (p1 : Int32) (σ : gS) : Prop :=
  QJ_X10_put_26 p0 p1 (0 : Int32) σ
set_option maxHeartbeats 4000000 in
set_option maxRecDepth 100000 in
theorem j_X10_put_25 (l : Launch) (g : gE) {p0 : Int32} {p1 : Int32} {ζ : gQ} {fr : Int32 × gS} : ∀ (σ : gS), QJ_X10_put_25 p0 p1 σ → J_X10_put_25 p0 p1 σ = fr → gG l g mX10_put (rm 1 20) (gZm g (rm 1 20) (fun r h => r = some (.int fr.1) ∧ h = hp fr.2 ζ)) 25 [(0, .ref 199), (1, .int p0), (2, .int p1)] [] (hp σ ζ) 0 0 := by
  intro σ hQ hF
  unfold J_X10_put_25 at hF
  unfold QJ_X10_put_25 at hQ
  refine g_iconst (v := 0) dX10_put_25 (by decide) rfl ?_
  refine g_sub [0, 1, 2] rfl ?_
  exact j_X10_put_26 l g _ _ hQ hF
noncomputable def J_X10_put_9 (p0 : Int32) (p1 : Int32) (σ : gS) : Int32 × gS :=
  if p1 = (-1 : Int32) then
    J_X10_put_21 p0 p1 σ
  else
    if (F_X10_isCard p1) = 0 then
      J_X10_put_25 p0 p1 σ
    else
      J_X10_put_21 p0 p1 σ
def QJ_X10_put_9 (p0 : Int32) (p1 : Int32) (σ : gS) : Prop :=
  if p1 = (-1 : Int32) then
    (QJ_X10_put_21 p0 p1 σ)
  else
    (if (F_X10_isCard p1) = 0 then
      (QJ_X10_put_25 p0 p1 σ)
    else
      (QJ_X10_put_21 p0 p1 σ))
set_option maxHeartbeats 4000000 in
set_option maxRecDepth 100000 in
theorem j_X10_put_9 (l : Launch) (g : gE) {p0 : Int32} {p1 : Int32} {ζ : gQ} {fr : Int32 × gS} : ∀ (σ : gS), QJ_X10_put_9 p0 p1 σ → J_X10_put_9 p0 p1 σ = fr → gG l g mX10_put (rm 1 20) (gZm g (rm 1 20) (fun r h => r = some (.int fr.1) ∧ h = hp fr.2 ζ)) 9 [(0, .ref 199), (1, .int p0), (2, .int p1)] [] (hp σ ζ) 0 0 := by
  intro σ hQ hF
  unfold J_X10_put_9 at hF
  unfold QJ_X10_put_9 at hQ
  refine g_iload_n dX10_put_9 rfl rfl rfl ?_
  refine g_iconst (v := (-1)) dX10_put_10 (by decide) rfl ?_
  refine g_icmpeq (tgt := 21) dX10_put_11 (by decide) rfl (fun c2 => ?_) (fun c2 => ?_)
  · replace hF := ite_p hF c2
    try replace hQ := ite_q hQ c2
    refine g_sub [0, 1, 2] rfl ?_
    exact j_X10_put_21 l g _ hQ hF
  · replace hF := ite_n hF c2
    try replace hQ := ite_r hQ c2
    refine g_iload_n dX10_put_14 rfl rfl rfl ?_
    refine g_calls mt_X10_isCard ms_X10_isCard ml_X10_154 (c_X10_isCard l g _) rfl (Nat.le_of_ble_eq_true rfl) (Nat.le_of_ble_eq_true rfl) (Nat.le_of_ble_eq_true rfl) (Nat.le_of_ble_eq_true rfl) rfl (Nat.le_of_ble_eq_true rfl) dX10_put_15 rfl (fun r10 hr10 pr10 => ?_)
    obtain ⟨rfl, rfl⟩ := pr10
    refine g_ifeq (tgt := 25) dX10_put_18 (by decide) rfl (fun c11 => ?_) (fun c11 => ?_)
    · replace hF := ite_p hF c11
      try replace hQ := ite_q hQ c11
      refine g_sub [0, 1, 2] rfl ?_
      exact j_X10_put_25 l g _ hQ hF
    · replace hF := ite_n hF c11
      try replace hQ := ite_r hQ c11
      refine g_sub [0, 1, 2] rfl ?_
      exact j_X10_put_21 l g _ hQ hF
noncomputable def Fr_X10_put (σ : gS) (p0 : Int32) (p1 : Int32) : Int32 × gS :=
  if p0 = 0 then
    J_X10_put_9 p0 p1 σ
  else
    if p0 = (1 : Int32) then
      J_X10_put_9 p0 p1 σ
    else
      J_X10_put_25 p0 p1 σ
noncomputable def F_X10_put : gS → Int32 → Int32 → Int32 × gS := Classical.choose (⟨Fr_X10_put, rfl⟩ : ∃ f : gS → Int32 → Int32 → Int32 × gS, f = Fr_X10_put)
theorem F_X10_put_eq : F_X10_put = Fr_X10_put := Classical.choose_spec (⟨Fr_X10_put, rfl⟩ : ∃ f : gS → Int32 → Int32 → Int32 × gS, f = Fr_X10_put)
def Q_X10_put (σ : gS) (p0 : Int32) (p1 : Int32) : Prop :=
  if p0 = 0 then
    (QJ_X10_put_9 p0 p1 σ)
  else
    (if p0 = (1 : Int32) then
      (QJ_X10_put_9 p0 p1 σ)
    else
      (QJ_X10_put_25 p0 p1 σ))
set_option maxHeartbeats 4000000 in
set_option maxRecDepth 100000 in
theorem c_X10_put (l : Launch) (g : gE)  {σ : gS} {ζ : gQ} (p0 : Int32) (p1 : Int32) (hQ : Q_X10_put σ p0 p1) : gC l g mX10_put (rm 1 20) [.ref 199, .int p0, .int p1] (hp σ ζ) (fun r h => r = some (.int (F_X10_put σ p0 p1).1) ∧ h = hp (F_X10_put σ p0 p1).2 ζ) := by
  refine gC_of (by decide) (Nat.le_of_ble_eq_true rfl) ?_
  generalize hF : (F_X10_put σ p0 p1) = fr
  rw [F_X10_put_eq] at hF
  unfold Fr_X10_put at hF
  unfold Q_X10_put at hQ
  refine g_iload_n dX10_put_0 rfl rfl rfl ?_
  refine g_ifeq (tgt := 9) dX10_put_1 (by decide) rfl (fun c1 => ?_) (fun c1 => ?_)
  · replace hF := ite_p hF c1
    try replace hQ := ite_q hQ c1
    refine g_sub [0, 1, 2] rfl ?_
    exact j_X10_put_9 l g _ hQ hF
  · replace hF := ite_n hF c1
    try replace hQ := ite_r hQ c1
    refine g_iload_n dX10_put_4 rfl rfl rfl ?_
    refine g_iconst (v := 1) dX10_put_5 (by decide) rfl ?_
    refine g_icmpne (tgt := 25) dX10_put_6 (by decide) rfl (fun c12 => ?_) (fun c12 => ?_)
    · replace hF := ite_n hF c12
      try replace hQ := ite_r hQ c12
      refine g_sub [0, 1, 2] rfl ?_
      exact j_X10_put_25 l g _ hQ hF
    · replace hF := ite_p hF c12
      try replace hQ := ite_q hQ c12
      refine g_sub [0, 1, 2] rfl ?_
      exact j_X10_put_9 l g _ hQ hF
noncomputable def Fr_X10_record (σ : gS) (p0 : Int32) (p1 : Int32) : Int32 :=
  if p0 < 0 then
    (-1 : Int32)
  else
    if (σ 199 29) ≤ p0 then
      (-1 : Int32)
    else
      if p1 < 0 then
        (-1 : Int32)
      else
        if (16 : Int32) ≤ p1 then
          (-1 : Int32)
        else
          ((σ 216 (ix (((16 : Int32) * p0) + p1))) &&& (255 : Int32))
noncomputable def F_X10_record : gS → Int32 → Int32 → Int32 := Classical.choose (⟨Fr_X10_record, rfl⟩ : ∃ f : gS → Int32 → Int32 → Int32, f = Fr_X10_record)
theorem F_X10_record_eq : F_X10_record = Fr_X10_record := Classical.choose_spec (⟨Fr_X10_record, rfl⟩ : ∃ f : gS → Int32 → Int32 → Int32, f = Fr_X10_record)
def Q_X10_record (σ : gS) (p0 : Int32) (p1 : Int32) : Prop :=
  if p0 < 0 then
    (True)
  else
    (if (σ 199 29) ≤ p0 then
      (True)
    else
      (if p1 < 0 then
        (True)
      else
        (if (16 : Int32) ≤ p1 then
          (True)
        else
          (vp_in (((16 : Int32) * p0) + p1) 1552 ∧ (True)))))
set_option maxHeartbeats 4000000 in
set_option maxRecDepth 100000 in
theorem c_X10_record (l : Launch) (g : gE)  {σ : gS} {ζ : gQ} (p0 : Int32) (p1 : Int32) (hQ : Q_X10_record σ p0 p1) : gC l g mX10_record (rm 0 0) [.ref 199, .int p0, .int p1] (hp σ ζ) (fun r h => r = some (.int (F_X10_record σ p0 p1)) ∧ h = hp σ ζ) := by
  refine gC_of (by decide) (Nat.le_of_ble_eq_true rfl) ?_
  generalize hF : (F_X10_record σ p0 p1) = fr
  rw [F_X10_record_eq] at hF
  unfold Fr_X10_record at hF
  unfold Q_X10_record at hQ
  refine g_iload_n dX10_record_0 rfl rfl rfl ?_
  refine g_iflt (tgt := 40) dX10_record_1 (by decide) rfl (fun c1 => ?_) (fun c1 => ?_)
  · replace hF := ite_p hF c1
    try replace hQ := ite_q hQ c1
    refine g_iconst (v := (-1)) dX10_record_40 (by decide) rfl ?_
    subst hF
    exact g_iret rfl dX10_record_41 (Nat.le_of_ble_eq_true rfl) (Nat.le_of_ble_eq_true rfl) ⟨rfl, rfl⟩
  · replace hF := ite_n hF c1
    try replace hQ := ite_r hQ c1
    refine g_iload_n dX10_record_4 rfl rfl rfl ?_
    refine g_aload_n dX10_record_5 rfl rfl rfl ?_
    refine g_get gClX10 29 (by decide) fl_X10_202 dX10_record_6 (ho_199 _ _) rfl rfl ?_
    refine g_icmpge (tgt := 40) dX10_record_9 (by decide) rfl (fun c2 => ?_) (fun c2 => ?_)
    · replace hF := ite_p hF c2
      try replace hQ := ite_q hQ c2
      refine g_iconst (v := (-1)) dX10_record_40 (by decide) rfl ?_
      subst hF
      exact g_iret rfl dX10_record_41 (Nat.le_of_ble_eq_true rfl) (Nat.le_of_ble_eq_true rfl) ⟨rfl, rfl⟩
    · replace hF := ite_n hF c2
      try replace hQ := ite_r hQ c2
      refine g_iload_n dX10_record_12 rfl rfl rfl ?_
      refine g_iflt (tgt := 40) dX10_record_13 (by decide) rfl (fun c3 => ?_) (fun c3 => ?_)
      · replace hF := ite_p hF c3
        try replace hQ := ite_q hQ c3
        refine g_iconst (v := (-1)) dX10_record_40 (by decide) rfl ?_
        subst hF
        exact g_iret rfl dX10_record_41 (Nat.le_of_ble_eq_true rfl) (Nat.le_of_ble_eq_true rfl) ⟨rfl, rfl⟩
      · replace hF := ite_n hF c3
        try replace hQ := ite_r hQ c3
        refine g_iload_n dX10_record_16 rfl rfl rfl ?_
        refine g_bipush (v := 16) dX10_record_17 (by decide) rfl ?_
        refine g_icmpge (tgt := 40) dX10_record_19 (by decide) rfl (fun c4 => ?_) (fun c4 => ?_)
        · replace hF := ite_p hF c4
          try replace hQ := ite_q hQ c4
          refine g_iconst (v := (-1)) dX10_record_40 (by decide) rfl ?_
          subst hF
          exact g_iret rfl dX10_record_41 (Nat.le_of_ble_eq_true rfl) (Nat.le_of_ble_eq_true rfl) ⟨rfl, rfl⟩
        · replace hF := ite_n hF c4
          try replace hQ := ite_r hQ c4
          refine g_aload_n dX10_record_22 rfl rfl rfl ?_
          refine g_get gClX10 28 (by decide) fl_X10_60 dX10_record_23 (ho_199 _ _) rfl rfl ?_
          refine g_bipush (v := 16) dX10_record_26 (by decide) rfl ?_
          refine g_iload_n dX10_record_28 rfl rfl rfl ?_
          refine g_imul dX10_record_29 rfl ?_
          refine g_iload_n dX10_record_30 rfl rfl rfl ?_
          refine g_iadd dX10_record_31 rfl ?_
          have o5 := hQ.1
          replace hQ := hQ.2
          refine g_bald (ha_216 _ _) o5 dX10_record_32 rfl ?_
          refine g_sipush (v := 255) dX10_record_33 (by decide) rfl ?_
          refine g_iand dX10_record_36 rfl ?_
          refine g_goto (tgt := 41) dX10_record_37 (by decide) ?_
          subst hF
          exact g_iret rfl dX10_record_41 (Nat.le_of_ble_eq_true rfl) (Nat.le_of_ble_eq_true rfl) ⟨rfl, rfl⟩
noncomputable def G_X10_seal_L109 (p0 : Int32) (p1 : Int32) (p2 : Int32) (p3 : Int32) : Nat → Int32 → gS → Int32 × gS
  | 0, _, σ => (0, σ)
  | n + 1, y5, σ =>
    if (16 : Int32) ≤ y5 then
      let s7 := (pf σ 199 1 ((σ 199 1) + (16 : Int32)) : gS)
      ((s7 199 1), s7)
    else
      let s10 := (pf σ 200 (ix ((σ 199 1) + y5)) (σ 207 (ix y5)).toInt8.toInt32 : gS)
      G_X10_seal_L109 p0 p1 p2 p3 n (y5 + Int32.ofInt (1)) s10
def QG_X10_seal_L109 (p0 : Int32) (p1 : Int32) (p2 : Int32) (p3 : Int32) : Nat → Int32 → gS → Prop
  | 0, _, _ => False
  | n + 1, y5, σ =>
    if (16 : Int32) ≤ y5 then
      (let s7 := (pf σ 199 1 ((σ 199 1) + (16 : Int32)) : gS)
      True)
    else
      (vp_in y5 32 ∧ (vp_in ((σ 199 1) + y5) 400 ∧ (let s10 := (pf σ 200 (ix ((σ 199 1) + y5)) (σ 207 (ix y5)).toInt8.toInt32 : gS)
      QG_X10_seal_L109 p0 p1 p2 p3 n (y5 + Int32.ofInt (1)) s10)))
set_option maxHeartbeats 4000000 in
set_option maxRecDepth 100000 in
theorem t_X10_seal_L109 (l : Launch) (g : gE) {p0 : Int32} {p1 : Int32} {p2 : Int32} {p3 : Int32} {ζ : gQ} {fr : Int32 × gS} : ∀ (n : Nat) (y5 : Int32) (σ : gS), QG_X10_seal_L109 p0 p1 p2 p3 n y5 σ → G_X10_seal_L109 p0 p1 p2 p3 n y5 σ = fr → gG l g mX10_seal (rm 5 151) (gZm g (rm 5 151) (fun r h => r = some (.int fr.1) ∧ h = hp fr.2 ζ)) 109 [(0, .ref 199), (1, .int p0), (2, .int p1), (3, .int p2), (4, .int p3), (5, .int y5)] [] (hp σ ζ) 0 0 := by
  intro n
  induction n with
  | zero => intro y5 σ hQ; exact absurd hQ (by unfold QG_X10_seal_L109; exact id)
  | succ n ihL109 =>
    intro y5 σ hQ hF
    unfold G_X10_seal_L109 at hF
    unfold QG_X10_seal_L109 at hQ
    refine g_iload dX10_seal_109 rfl rfl ?_
    refine g_bipush (v := 16) dX10_seal_111 (by decide) rfl ?_
    refine g_icmpge (tgt := 141) dX10_seal_113 (by decide) rfl (fun c6 => ?_) (fun c6 => ?_)
    · replace hF := ite_p hF c6
      try replace hQ := ite_q hQ c6
      refine g_aload_n dX10_seal_141 rfl rfl rfl ?_
      refine g_dup dX10_seal_142 rfl rfl ?_
      refine g_get gClX10 1 (by decide) fl_X10_107 dX10_seal_143 (ho_199 _ _) rfl rfl ?_
      refine g_bipush (v := 16) dX10_seal_146 (by decide) rfl ?_
      refine g_iadd dX10_seal_148 rfl ?_
      refine g_put gClX10 1 (by decide) fl_X10_107 rfl dX10_seal_149 (ho_199 _ _) rfl rfl (Nat.le_of_ble_eq_true rfl) po_199_1 rfl ?_
      refine g_aload_n dX10_seal_152 rfl rfl rfl ?_
      refine g_get gClX10 1 (by decide) fl_X10_107 dX10_seal_153 (ho_199 _ _) rfl rfl ?_
      subst hF
      exact g_iret rfl dX10_seal_156 (Nat.le_of_ble_eq_true rfl) (Nat.le_of_ble_eq_true rfl) ⟨rfl, rfl⟩
    · replace hF := ite_n hF c6
      try replace hQ := ite_r hQ c6
      refine g_aload_n dX10_seal_116 rfl rfl rfl ?_
      refine g_get gClX10 0 (by decide) fl_X10_7 dX10_seal_117 (ho_199 _ _) rfl rfl ?_
      refine g_aload_n dX10_seal_120 rfl rfl rfl ?_
      refine g_get gClX10 1 (by decide) fl_X10_107 dX10_seal_121 (ho_199 _ _) rfl rfl ?_
      refine g_iload dX10_seal_124 rfl rfl ?_
      refine g_iadd dX10_seal_126 rfl ?_
      refine g_aload_n dX10_seal_127 rfl rfl rfl ?_
      refine g_get gClX10 8 (by decide) fl_X10_32 dX10_seal_128 (ho_199 _ _) rfl rfl ?_
      refine g_iload dX10_seal_131 rfl rfl ?_
      have o8 := hQ.1
      replace hQ := hQ.2
      refine g_bald (ha_207 _ _) o8 dX10_seal_133 rfl ?_
      have o9 := hQ.1
      replace hQ := hQ.2
      refine g_bast (ha_200 _ _) o9 pa_200 dX10_seal_134 rfl ?_
      refine g_iincL (L1 := [(0, _), (1, _), (2, _), (3, _), (4, _), (5, _)]) dX10_seal_135 rfl (by decide) rfl rfl ?_
      refine g_goto (tgt := 109) dX10_seal_138 (by decide) ?_
      refine g_sub [0, 1, 2, 3, 4, 5] rfl ?_
      exact ihL109 _ _ hQ hF
noncomputable def G_X10_seal_L18 (p0 : Int32) (p1 : Int32) (p2 : Int32) (p3 : Int32) : Nat → Int32 → gS → Int32 × gS
  | 0, _, σ => (0, σ)
  | n + 1, y5, σ =>
    if (16 : Int32) ≤ y5 then
      let s5 := (F_X10_sealOf σ 209 16 200 400 (0 : Int32) (0 : Int32) (σ 199 1))
      G_X10_seal_L109 p0 p1 p2 p3 4000 (0 : Int32) s5
    else
      if (4 : Int32) ≤ y5 then
        if (8 : Int32) ≤ y5 then
          if (12 : Int32) ≤ y5 then
            let s15 := (pf σ 209 (ix y5) (p3 >>> (((24 : Int32) - ((8 : Int32) * (rem32 y5 (4 : Int32)))) &&& 31)).toInt8.toInt32.toInt8.toInt32 : gS)
            G_X10_seal_L18 p0 p1 p2 p3 n (y5 + Int32.ofInt (1)) s15
          else
            let s17 := (pf σ 209 (ix y5) (p2 >>> (((24 : Int32) - ((8 : Int32) * (rem32 y5 (4 : Int32)))) &&& 31)).toInt8.toInt32.toInt8.toInt32 : gS)
            G_X10_seal_L18 p0 p1 p2 p3 n (y5 + Int32.ofInt (1)) s17
        else
          let s19 := (pf σ 209 (ix y5) (p1 >>> (((24 : Int32) - ((8 : Int32) * (rem32 y5 (4 : Int32)))) &&& 31)).toInt8.toInt32.toInt8.toInt32 : gS)
          G_X10_seal_L18 p0 p1 p2 p3 n (y5 + Int32.ofInt (1)) s19
      else
        let s21 := (pf σ 209 (ix y5) (p0 >>> (((24 : Int32) - ((8 : Int32) * (rem32 y5 (4 : Int32)))) &&& 31)).toInt8.toInt32.toInt8.toInt32 : gS)
        G_X10_seal_L18 p0 p1 p2 p3 n (y5 + Int32.ofInt (1)) s21
def QG_X10_seal_L18 (p0 : Int32) (p1 : Int32) (p2 : Int32) (p3 : Int32) : Nat → Int32 → gS → Prop
  | 0, _, _ => False
  | n + 1, y5, σ =>
    if (16 : Int32) ≤ y5 then
      ((Q_X10_sealOf σ 209 16 200 400 (0 : Int32) (0 : Int32) (σ 199 1)) ∧ (let s5 := (F_X10_sealOf σ 209 16 200 400 (0 : Int32) (0 : Int32) (σ 199 1))
      QG_X10_seal_L109 p0 p1 p2 p3 4000 (0 : Int32) s5))
    else
      (if (4 : Int32) ≤ y5 then
        (if (8 : Int32) ≤ y5 then
          (if (12 : Int32) ≤ y5 then
            (vp_in y5 16 ∧ (let s15 := (pf σ 209 (ix y5) (p3 >>> (((24 : Int32) - ((8 : Int32) * (rem32 y5 (4 : Int32)))) &&& 31)).toInt8.toInt32.toInt8.toInt32 : gS)
            QG_X10_seal_L18 p0 p1 p2 p3 n (y5 + Int32.ofInt (1)) s15))
          else
            (vp_in y5 16 ∧ (let s17 := (pf σ 209 (ix y5) (p2 >>> (((24 : Int32) - ((8 : Int32) * (rem32 y5 (4 : Int32)))) &&& 31)).toInt8.toInt32.toInt8.toInt32 : gS)
            QG_X10_seal_L18 p0 p1 p2 p3 n (y5 + Int32.ofInt (1)) s17)))
        else
          (vp_in y5 16 ∧ (let s19 := (pf σ 209 (ix y5) (p1 >>> (((24 : Int32) - ((8 : Int32) * (rem32 y5 (4 : Int32)))) &&& 31)).toInt8.toInt32.toInt8.toInt32 : gS)
          QG_X10_seal_L18 p0 p1 p2 p3 n (y5 + Int32.ofInt (1)) s19)))
      else
        (vp_in y5 16 ∧ (let s21 := (pf σ 209 (ix y5) (p0 >>> (((24 : Int32) - ((8 : Int32) * (rem32 y5 (4 : Int32)))) &&& 31)).toInt8.toInt32.toInt8.toInt32 : gS)
        QG_X10_seal_L18 p0 p1 p2 p3 n (y5 + Int32.ofInt (1)) s21)))
set_option maxHeartbeats 4000000 in
set_option maxRecDepth 100000 in
theorem t_X10_seal_L18 (l : Launch) (g : gE) {p0 : Int32} {p1 : Int32} {p2 : Int32} {p3 : Int32} {ζ : gQ} {fr : Int32 × gS} : ∀ (n : Nat) (y5 : Int32) (σ : gS), QG_X10_seal_L18 p0 p1 p2 p3 n y5 σ → G_X10_seal_L18 p0 p1 p2 p3 n y5 σ = fr → gG l g mX10_seal (rm 5 151) (gZm g (rm 5 151) (fun r h => r = some (.int fr.1) ∧ h = hp fr.2 ζ)) 18 [(0, .ref 199), (1, .int p0), (2, .int p1), (3, .int p2), (4, .int p3), (5, .int y5)] [] (hp σ ζ) 0 0 := by
  intro n
  induction n with
  | zero => intro y5 σ hQ; exact absurd hQ (by unfold QG_X10_seal_L18; exact id)
  | succ n ihL18 =>
    intro y5 σ hQ hF
    unfold G_X10_seal_L18 at hF
    unfold QG_X10_seal_L18 at hQ
    refine g_iload dX10_seal_18 rfl rfl ?_
    refine g_bipush (v := 16) dX10_seal_20 (by decide) rfl ?_
    refine g_icmpge (tgt := 88) dX10_seal_22 (by decide) rfl (fun c2 => ?_) (fun c2 => ?_)
    · replace hF := ite_p hF c2
      try replace hQ := ite_q hQ c2
      refine g_aload_n dX10_seal_88 rfl rfl rfl ?_
      refine g_aload_n dX10_seal_89 rfl rfl rfl ?_
      refine g_get gClX10 11 (by decide) fl_X10_38 dX10_seal_90 (ho_199 _ _) rfl rfl ?_
      refine g_iconst (v := 0) dX10_seal_93 (by decide) rfl ?_
      refine g_aload_n dX10_seal_94 rfl rfl rfl ?_
      refine g_get gClX10 0 (by decide) fl_X10_7 dX10_seal_95 (ho_199 _ _) rfl rfl ?_
      refine g_iconst (v := 0) dX10_seal_98 (by decide) rfl ?_
      refine g_aload_n dX10_seal_99 rfl rfl rfl ?_
      refine g_get gClX10 1 (by decide) fl_X10_107 dX10_seal_100 (ho_199 _ _) rfl rfl ?_
      have o3 := hQ.1
      replace hQ := hQ.2
      refine g_callv mv_X10_sealOf ml_X10_150 (c_X10_sealOf l g (⟨by decide, fun _ _ => rfl⟩ : isA 209 16) (⟨by decide, fun _ _ => rfl⟩ : isA 200 400) _ _ _ o3) (ho_199 _ _) rfl rfl (Nat.le_of_ble_eq_true rfl) (Nat.le_of_ble_eq_true rfl) (Nat.le_of_ble_eq_true rfl) (Nat.le_of_ble_eq_true rfl) rfl (Nat.le_of_ble_eq_true rfl) dX10_seal_103 rfl (fun r4 hr4 pr4 => ?_)
      obtain ⟨rfl, rfl⟩ := pr4
      refine g_iconst (v := 0) dX10_seal_106 (by decide) rfl ?_
      refine g_istoreL (L1 := [(0, _), (1, _), (2, _), (3, _), (4, _), (5, _)]) dX10_seal_107 (by decide) rfl rfl ?_
      refine g_sub [0, 1, 2, 3, 4, 5] rfl ?_
      exact t_X10_seal_L109 l g 4000 _ _ hQ hF
    · replace hF := ite_n hF c2
      try replace hQ := ite_r hQ c2
      refine g_iload dX10_seal_25 rfl rfl ?_
      refine g_iconst (v := 4) dX10_seal_27 (by decide) rfl ?_
      refine g_icmpge (tgt := 35) dX10_seal_28 (by decide) rfl (fun c11 => ?_) (fun c11 => ?_)
      · replace hF := ite_p hF c11
        try replace hQ := ite_q hQ c11
        refine g_iload dX10_seal_35 rfl rfl ?_
        refine g_bipush (v := 8) dX10_seal_37 (by decide) rfl ?_
        refine g_icmpge (tgt := 46) dX10_seal_39 (by decide) rfl (fun c12 => ?_) (fun c12 => ?_)
        · replace hF := ite_p hF c12
          try replace hQ := ite_q hQ c12
          refine g_iload dX10_seal_46 rfl rfl ?_
          refine g_bipush (v := 12) dX10_seal_48 (by decide) rfl ?_
          refine g_icmpge (tgt := 57) dX10_seal_50 (by decide) rfl (fun c13 => ?_) (fun c13 => ?_)
          · replace hF := ite_p hF c13
            try replace hQ := ite_q hQ c13
            refine g_iload dX10_seal_57 rfl rfl ?_
            refine g_istoreL (L1 := [(0, _), (1, _), (2, _), (3, _), (4, _), (5, _), (6, _)]) dX10_seal_59 (by decide) rfl rfl ?_
            refine g_aload_n dX10_seal_61 rfl rfl rfl ?_
            refine g_get gClX10 11 (by decide) fl_X10_38 dX10_seal_62 (ho_199 _ _) rfl rfl ?_
            refine g_iload dX10_seal_65 rfl rfl ?_
            refine g_iload dX10_seal_67 rfl rfl ?_
            refine g_bipush (v := 24) dX10_seal_69 (by decide) rfl ?_
            refine g_bipush (v := 8) dX10_seal_71 (by decide) rfl ?_
            refine g_iload dX10_seal_73 rfl rfl ?_
            refine g_iconst (v := 4) dX10_seal_75 (by decide) rfl ?_
            refine g_irem dX10_seal_76 (by decide) rfl ?_
            refine g_imul dX10_seal_77 rfl ?_
            refine g_isub dX10_seal_78 rfl ?_
            refine g_ishr dX10_seal_79 rfl ?_
            refine g_i2b dX10_seal_80 rfl ?_
            have o14 := hQ.1
            replace hQ := hQ.2
            refine g_bast (ha_209 _ _) o14 pa_209 dX10_seal_81 rfl ?_
            refine g_iincL (L1 := [(0, _), (1, _), (2, _), (3, _), (4, _), (5, _), (6, _)]) dX10_seal_82 rfl (by decide) rfl rfl ?_
            refine g_goto (tgt := 18) dX10_seal_85 (by decide) ?_
            refine g_sub [0, 1, 2, 3, 4, 5] rfl ?_
            exact ihL18 _ _ hQ hF
          · replace hF := ite_n hF c13
            try replace hQ := ite_r hQ c13
            refine g_iload_n dX10_seal_53 rfl rfl rfl ?_
            refine g_goto (tgt := 59) dX10_seal_54 (by decide) ?_
            refine g_istoreL (L1 := [(0, _), (1, _), (2, _), (3, _), (4, _), (5, _), (6, _)]) dX10_seal_59 (by decide) rfl rfl ?_
            refine g_aload_n dX10_seal_61 rfl rfl rfl ?_
            refine g_get gClX10 11 (by decide) fl_X10_38 dX10_seal_62 (ho_199 _ _) rfl rfl ?_
            refine g_iload dX10_seal_65 rfl rfl ?_
            refine g_iload dX10_seal_67 rfl rfl ?_
            refine g_bipush (v := 24) dX10_seal_69 (by decide) rfl ?_
            refine g_bipush (v := 8) dX10_seal_71 (by decide) rfl ?_
            refine g_iload dX10_seal_73 rfl rfl ?_
            refine g_iconst (v := 4) dX10_seal_75 (by decide) rfl ?_
            refine g_irem dX10_seal_76 (by decide) rfl ?_
            refine g_imul dX10_seal_77 rfl ?_
            refine g_isub dX10_seal_78 rfl ?_
            refine g_ishr dX10_seal_79 rfl ?_
            refine g_i2b dX10_seal_80 rfl ?_
            have o16 := hQ.1
            replace hQ := hQ.2
            refine g_bast (ha_209 _ _) o16 pa_209 dX10_seal_81 rfl ?_
            refine g_iincL (L1 := [(0, _), (1, _), (2, _), (3, _), (4, _), (5, _), (6, _)]) dX10_seal_82 rfl (by decide) rfl rfl ?_
            refine g_goto (tgt := 18) dX10_seal_85 (by decide) ?_
            refine g_sub [0, 1, 2, 3, 4, 5] rfl ?_
            exact ihL18 _ _ hQ hF
        · replace hF := ite_n hF c12
          try replace hQ := ite_r hQ c12
          refine g_iload_n dX10_seal_42 rfl rfl rfl ?_
          refine g_goto (tgt := 59) dX10_seal_43 (by decide) ?_
          refine g_istoreL (L1 := [(0, _), (1, _), (2, _), (3, _), (4, _), (5, _), (6, _)]) dX10_seal_59 (by decide) rfl rfl ?_
          refine g_aload_n dX10_seal_61 rfl rfl rfl ?_
          refine g_get gClX10 11 (by decide) fl_X10_38 dX10_seal_62 (ho_199 _ _) rfl rfl ?_
          refine g_iload dX10_seal_65 rfl rfl ?_
          refine g_iload dX10_seal_67 rfl rfl ?_
          refine g_bipush (v := 24) dX10_seal_69 (by decide) rfl ?_
          refine g_bipush (v := 8) dX10_seal_71 (by decide) rfl ?_
          refine g_iload dX10_seal_73 rfl rfl ?_
          refine g_iconst (v := 4) dX10_seal_75 (by decide) rfl ?_
          refine g_irem dX10_seal_76 (by decide) rfl ?_
          refine g_imul dX10_seal_77 rfl ?_
          refine g_isub dX10_seal_78 rfl ?_
          refine g_ishr dX10_seal_79 rfl ?_
          refine g_i2b dX10_seal_80 rfl ?_
          have o18 := hQ.1
          replace hQ := hQ.2
          refine g_bast (ha_209 _ _) o18 pa_209 dX10_seal_81 rfl ?_
          refine g_iincL (L1 := [(0, _), (1, _), (2, _), (3, _), (4, _), (5, _), (6, _)]) dX10_seal_82 rfl (by decide) rfl rfl ?_
          refine g_goto (tgt := 18) dX10_seal_85 (by decide) ?_
          refine g_sub [0, 1, 2, 3, 4, 5] rfl ?_
          exact ihL18 _ _ hQ hF
      · replace hF := ite_n hF c11
        try replace hQ := ite_r hQ c11
        refine g_iload_n dX10_seal_31 rfl rfl rfl ?_
        refine g_goto (tgt := 59) dX10_seal_32 (by decide) ?_
        refine g_istoreL (L1 := [(0, _), (1, _), (2, _), (3, _), (4, _), (5, _), (6, _)]) dX10_seal_59 (by decide) rfl rfl ?_
        refine g_aload_n dX10_seal_61 rfl rfl rfl ?_
        refine g_get gClX10 11 (by decide) fl_X10_38 dX10_seal_62 (ho_199 _ _) rfl rfl ?_
        refine g_iload dX10_seal_65 rfl rfl ?_
        refine g_iload dX10_seal_67 rfl rfl ?_
        refine g_bipush (v := 24) dX10_seal_69 (by decide) rfl ?_
        refine g_bipush (v := 8) dX10_seal_71 (by decide) rfl ?_
        refine g_iload dX10_seal_73 rfl rfl ?_
        refine g_iconst (v := 4) dX10_seal_75 (by decide) rfl ?_
        refine g_irem dX10_seal_76 (by decide) rfl ?_
        refine g_imul dX10_seal_77 rfl ?_
        refine g_isub dX10_seal_78 rfl ?_
        refine g_ishr dX10_seal_79 rfl ?_
        refine g_i2b dX10_seal_80 rfl ?_
        have o20 := hQ.1
        replace hQ := hQ.2
        refine g_bast (ha_209 _ _) o20 pa_209 dX10_seal_81 rfl ?_
        refine g_iincL (L1 := [(0, _), (1, _), (2, _), (3, _), (4, _), (5, _), (6, _)]) dX10_seal_82 rfl (by decide) rfl rfl ?_
        refine g_goto (tgt := 18) dX10_seal_85 (by decide) ?_
        refine g_sub [0, 1, 2, 3, 4, 5] rfl ?_
        exact ihL18 _ _ hQ hF
noncomputable def Fr_X10_seal (σ : gS) (p0 : Int32) (p1 : Int32) (p2 : Int32) (p3 : Int32) : Int32 × gS :=
  if ((σ 199 1) + (16 : Int32)) ≤ (400 : Int32) then
    G_X10_seal_L18 p0 p1 p2 p3 4000 (0 : Int32) σ
  else
    ((-1 : Int32), σ)
noncomputable def F_X10_seal : gS → Int32 → Int32 → Int32 → Int32 → Int32 × gS := Classical.choose (⟨Fr_X10_seal, rfl⟩ : ∃ f : gS → Int32 → Int32 → Int32 → Int32 → Int32 × gS, f = Fr_X10_seal)
theorem F_X10_seal_eq : F_X10_seal = Fr_X10_seal := Classical.choose_spec (⟨Fr_X10_seal, rfl⟩ : ∃ f : gS → Int32 → Int32 → Int32 → Int32 → Int32 × gS, f = Fr_X10_seal)
def Q_X10_seal (σ : gS) (p0 : Int32) (p1 : Int32) (p2 : Int32) (p3 : Int32) : Prop :=
  if ((σ 199 1) + (16 : Int32)) ≤ (400 : Int32) then
    (QG_X10_seal_L18 p0 p1 p2 p3 4000 (0 : Int32) σ)
  else
    (True)
set_option maxHeartbeats 4000000 in
set_option maxRecDepth 100000 in
theorem c_X10_seal (l : Launch) (g : gE)  {σ : gS} {ζ : gQ} (p0 : Int32) (p1 : Int32) (p2 : Int32) (p3 : Int32) (hQ : Q_X10_seal σ p0 p1 p2 p3) : gC l g mX10_seal (rm 5 151) [.ref 199, .int p0, .int p1, .int p2, .int p3] (hp σ ζ) (fun r h => r = some (.int (F_X10_seal σ p0 p1 p2 p3).1) ∧ h = hp (F_X10_seal σ p0 p1 p2 p3).2 ζ) := by
  refine gC_of (by decide) (Nat.le_of_ble_eq_true rfl) ?_
  generalize hF : (F_X10_seal σ p0 p1 p2 p3) = fr
  rw [F_X10_seal_eq] at hF
  unfold Fr_X10_seal at hF
  unfold Q_X10_seal at hQ
  refine g_aload_n dX10_seal_0 rfl rfl rfl ?_
  refine g_get gClX10 1 (by decide) fl_X10_107 dX10_seal_1 (ho_199 _ _) rfl rfl ?_
  refine g_bipush (v := 16) dX10_seal_4 (by decide) rfl ?_
  refine g_iadd dX10_seal_6 rfl ?_
  refine g_sipush (v := 400) dX10_seal_7 (by decide) rfl ?_
  refine g_icmple (tgt := 15) dX10_seal_10 (by decide) rfl (fun c1 => ?_) (fun c1 => ?_)
  · replace hF := ite_p hF c1
    try replace hQ := ite_q hQ c1
    refine g_iconst (v := 0) dX10_seal_15 (by decide) rfl ?_
    refine g_istoreL (L1 := [(0, _), (1, _), (2, _), (3, _), (4, _), (5, _)]) dX10_seal_16 (by decide) rfl rfl ?_
    refine g_sub [0, 1, 2, 3, 4, 5] rfl ?_
    exact t_X10_seal_L18 l g 4000 _ _ hQ hF
  · replace hF := ite_n hF c1
    try replace hQ := ite_r hQ c1
    refine g_iconst (v := (-1)) dX10_seal_13 (by decide) rfl ?_
    subst hF
    exact g_iret rfl dX10_seal_14 (Nat.le_of_ble_eq_true rfl) (Nat.le_of_ble_eq_true rfl) ⟨rfl, rfl⟩
noncomputable def Fr_X10_show (σ : gS) (ζ : gQ) (p0 : Int32) : Int32 :=
  if p0 = 0 then
    if (σ 199 35) = 0 then
      (0 : Int32)
    else
      (1 : Int32)
  else
    if p0 = 1 then
      if (σ 199 38) = 0 then
        (0 : Int32)
      else
        (1 : Int32)
    else
      if p0 = 2 then
        if (σ 199 31) = 0 then
          (0 : Int32)
        else
          (1 : Int32)
      else
        if p0 = 3 then
          (σ 199 40)
        else
          if p0 = 4 then
            (σ 199 41)
          else
            if p0 = 5 then
              (σ 199 42)
            else
              if p0 = 6 then
                (σ 199 46)
              else
                if p0 = 7 then
                  (σ 199 48)
                else
                  if p0 = 8 then
                    (ζ 19).toInt32
                  else
                    if p0 = 9 then
                      (σ 199 29)
                    else
                      if p0 = 10 then
                        (ζ 30).toInt32
                      else
                        if p0 = 11 then
                          (ζ 53).toInt32
                        else
                          if p0 = 12 then
                            (σ 199 18)
                          else
                            if p0 = 13 then
                              (σ 199 17)
                            else
                              if p0 < (14 : Int32) then
                                (-1 : Int32)
                              else
                                if (22 : Int32) < p0 then
                                  (-1 : Int32)
                                else
                                  (σ 217 (ix (p0 - (14 : Int32))))
noncomputable def F_X10_show : gS → gQ → Int32 → Int32 := Classical.choose (⟨Fr_X10_show, rfl⟩ : ∃ f : gS → gQ → Int32 → Int32, f = Fr_X10_show)
theorem F_X10_show_eq : F_X10_show = Fr_X10_show := Classical.choose_spec (⟨Fr_X10_show, rfl⟩ : ∃ f : gS → gQ → Int32 → Int32, f = Fr_X10_show)
def Q_X10_show (σ : gS) (ζ : gQ) (p0 : Int32) : Prop :=
  if p0 = 0 then
    (if (σ 199 35) = 0 then
      (True)
    else
      (True))
  else
    (if p0 = 1 then
      (if (σ 199 38) = 0 then
        (True)
      else
        (True))
    else
      (if p0 = 2 then
        (if (σ 199 31) = 0 then
          (True)
        else
          (True))
      else
        (if p0 = 3 then
          (True)
        else
          (if p0 = 4 then
            (True)
          else
            (if p0 = 5 then
              (True)
            else
              (if p0 = 6 then
                (True)
              else
                (if p0 = 7 then
                  (True)
                else
                  (if p0 = 8 then
                    (True)
                  else
                    (if p0 = 9 then
                      (True)
                    else
                      (if p0 = 10 then
                        (True)
                      else
                        (if p0 = 11 then
                          (True)
                        else
                          (if p0 = 12 then
                            (True)
                          else
                            (if p0 = 13 then
                              (True)
                            else
                              (if p0 < (14 : Int32) then
                                (True)
                              else
                                (if (22 : Int32) < p0 then
                                  (True)
                                else
                                  (vp_in (p0 - (14 : Int32)) 9 ∧ (True)))))))))))))))))
set_option maxHeartbeats 4000000 in
set_option maxRecDepth 100000 in
theorem c_X10_show (l : Launch) (g : gE)  {σ : gS} {ζ : gQ} (p0 : Int32) (hQ : Q_X10_show σ ζ p0) : gC l g mX10_show (rm 0 0) [.ref 199, .int p0] (hp σ ζ) (fun r h => r = some (.int (F_X10_show σ ζ p0)) ∧ h = hp σ ζ) := by
  refine gC_of (by decide) (Nat.le_of_ble_eq_true rfl) ?_
  generalize hF : (F_X10_show σ ζ p0) = fr
  rw [F_X10_show_eq] at hF
  unfold Fr_X10_show at hF
  unfold Q_X10_show at hQ
  refine g_iload_n dX10_show_0 rfl rfl rfl ?_
  refine g_case 0 (fun c1 => ?_) (fun c1 => ?_)
  · replace hF := ite_p hF c1
    try replace hQ := ite_q hQ c1
    refine g_table (tgt := 72) dX10_show_1 (by decide) (by decide) ?_
    refine g_aload_n dX10_show_72 rfl rfl rfl ?_
    refine g_get gClX10 35 (by decide) fl_X10_256 dX10_show_73 (ho_199 _ _) rfl rfl ?_
    refine g_ifeq (tgt := 83) dX10_show_76 (by decide) rfl (fun c2 => ?_) (fun c2 => ?_)
    · replace hF := ite_p hF c2
      try replace hQ := ite_q hQ c2
      refine g_iconst (v := 0) dX10_show_83 (by decide) rfl ?_
      subst hF
      exact g_iret rfl dX10_show_84 (Nat.le_of_ble_eq_true rfl) (Nat.le_of_ble_eq_true rfl) ⟨rfl, rfl⟩
    · replace hF := ite_n hF c2
      try replace hQ := ite_r hQ c2
      refine g_iconst (v := 1) dX10_show_79 (by decide) rfl ?_
      refine g_goto (tgt := 84) dX10_show_80 (by decide) ?_
      subst hF
      exact g_iret rfl dX10_show_84 (Nat.le_of_ble_eq_true rfl) (Nat.le_of_ble_eq_true rfl) ⟨rfl, rfl⟩
  · replace hF := ite_n hF c1
    try replace hQ := ite_r hQ c1
    refine g_case 1 (fun c3 => ?_) (fun c3 => ?_)
    · replace hF := ite_p hF c3
      try replace hQ := ite_q hQ c3
      refine g_table (tgt := 85) dX10_show_1 (by decide) (by decide) ?_
      refine g_aload_n dX10_show_85 rfl rfl rfl ?_
      refine g_get gClX10 38 (by decide) fl_X10_268 dX10_show_86 (ho_199 _ _) rfl rfl ?_
      refine g_ifeq (tgt := 96) dX10_show_89 (by decide) rfl (fun c4 => ?_) (fun c4 => ?_)
      · replace hF := ite_p hF c4
        try replace hQ := ite_q hQ c4
        refine g_iconst (v := 0) dX10_show_96 (by decide) rfl ?_
        subst hF
        exact g_iret rfl dX10_show_97 (Nat.le_of_ble_eq_true rfl) (Nat.le_of_ble_eq_true rfl) ⟨rfl, rfl⟩
      · replace hF := ite_n hF c4
        try replace hQ := ite_r hQ c4
        refine g_iconst (v := 1) dX10_show_92 (by decide) rfl ?_
        refine g_goto (tgt := 97) dX10_show_93 (by decide) ?_
        subst hF
        exact g_iret rfl dX10_show_97 (Nat.le_of_ble_eq_true rfl) (Nat.le_of_ble_eq_true rfl) ⟨rfl, rfl⟩
    · replace hF := ite_n hF c3
      try replace hQ := ite_r hQ c3
      refine g_case 2 (fun c5 => ?_) (fun c5 => ?_)
      · replace hF := ite_p hF c5
        try replace hQ := ite_q hQ c5
        refine g_table (tgt := 98) dX10_show_1 (by decide) (by decide) ?_
        refine g_aload_n dX10_show_98 rfl rfl rfl ?_
        refine g_get gClX10 31 (by decide) fl_X10_221 dX10_show_99 (ho_199 _ _) rfl rfl ?_
        refine g_ifeq (tgt := 109) dX10_show_102 (by decide) rfl (fun c6 => ?_) (fun c6 => ?_)
        · replace hF := ite_p hF c6
          try replace hQ := ite_q hQ c6
          refine g_iconst (v := 0) dX10_show_109 (by decide) rfl ?_
          subst hF
          exact g_iret rfl dX10_show_110 (Nat.le_of_ble_eq_true rfl) (Nat.le_of_ble_eq_true rfl) ⟨rfl, rfl⟩
        · replace hF := ite_n hF c6
          try replace hQ := ite_r hQ c6
          refine g_iconst (v := 1) dX10_show_105 (by decide) rfl ?_
          refine g_goto (tgt := 110) dX10_show_106 (by decide) ?_
          subst hF
          exact g_iret rfl dX10_show_110 (Nat.le_of_ble_eq_true rfl) (Nat.le_of_ble_eq_true rfl) ⟨rfl, rfl⟩
      · replace hF := ite_n hF c5
        try replace hQ := ite_r hQ c5
        refine g_case 3 (fun c7 => ?_) (fun c7 => ?_)
        · replace hF := ite_p hF c7
          try replace hQ := ite_q hQ c7
          refine g_table (tgt := 111) dX10_show_1 (by decide) (by decide) ?_
          refine g_aload_n dX10_show_111 rfl rfl rfl ?_
          refine g_get gClX10 40 (by decide) fl_X10_271 dX10_show_112 (ho_199 _ _) rfl rfl ?_
          subst hF
          exact g_iret rfl dX10_show_115 (Nat.le_of_ble_eq_true rfl) (Nat.le_of_ble_eq_true rfl) ⟨rfl, rfl⟩
        · replace hF := ite_n hF c7
          try replace hQ := ite_r hQ c7
          refine g_case 4 (fun c8 => ?_) (fun c8 => ?_)
          · replace hF := ite_p hF c8
            try replace hQ := ite_q hQ c8
            refine g_table (tgt := 116) dX10_show_1 (by decide) (by decide) ?_
            refine g_aload_n dX10_show_116 rfl rfl rfl ?_
            refine g_get gClX10 41 (by decide) fl_X10_82 dX10_show_117 (ho_199 _ _) rfl rfl ?_
            subst hF
            exact g_iret rfl dX10_show_120 (Nat.le_of_ble_eq_true rfl) (Nat.le_of_ble_eq_true rfl) ⟨rfl, rfl⟩
          · replace hF := ite_n hF c8
            try replace hQ := ite_r hQ c8
            refine g_case 5 (fun c9 => ?_) (fun c9 => ?_)
            · replace hF := ite_p hF c9
              try replace hQ := ite_q hQ c9
              refine g_table (tgt := 121) dX10_show_1 (by decide) (by decide) ?_
              refine g_aload_n dX10_show_121 rfl rfl rfl ?_
              refine g_get gClX10 42 (by decide) fl_X10_246 dX10_show_122 (ho_199 _ _) rfl rfl ?_
              subst hF
              exact g_iret rfl dX10_show_125 (Nat.le_of_ble_eq_true rfl) (Nat.le_of_ble_eq_true rfl) ⟨rfl, rfl⟩
            · replace hF := ite_n hF c9
              try replace hQ := ite_r hQ c9
              refine g_case 6 (fun c10 => ?_) (fun c10 => ?_)
              · replace hF := ite_p hF c10
                try replace hQ := ite_q hQ c10
                refine g_table (tgt := 126) dX10_show_1 (by decide) (by decide) ?_
                refine g_aload_n dX10_show_126 rfl rfl rfl ?_
                refine g_get gClX10 46 (by decide) fl_X10_227 dX10_show_127 (ho_199 _ _) rfl rfl ?_
                subst hF
                exact g_iret rfl dX10_show_130 (Nat.le_of_ble_eq_true rfl) (Nat.le_of_ble_eq_true rfl) ⟨rfl, rfl⟩
              · replace hF := ite_n hF c10
                try replace hQ := ite_r hQ c10
                refine g_case 7 (fun c11 => ?_) (fun c11 => ?_)
                · replace hF := ite_p hF c11
                  try replace hQ := ite_q hQ c11
                  refine g_table (tgt := 131) dX10_show_1 (by decide) (by decide) ?_
                  refine g_aload_n dX10_show_131 rfl rfl rfl ?_
                  refine g_get gClX10 48 (by decide) fl_X10_85 dX10_show_132 (ho_199 _ _) rfl rfl ?_
                  subst hF
                  exact g_iret rfl dX10_show_135 (Nat.le_of_ble_eq_true rfl) (Nat.le_of_ble_eq_true rfl) ⟨rfl, rfl⟩
                · replace hF := ite_n hF c11
                  try replace hQ := ite_r hQ c11
                  refine g_case 8 (fun c12 => ?_) (fun c12 => ?_)
                  · replace hF := ite_p hF c12
                    try replace hQ := ite_q hQ c12
                    refine g_table (tgt := 136) dX10_show_1 (by decide) (by decide) ?_
                    refine g_aload_n dX10_show_136 rfl rfl rfl ?_
                    refine g_get gClX10 19 (by decide) fl_X10_182 dX10_show_137 (ho_199 _ _) rfl rfl ?_
                    refine g_l2i dX10_show_140 rfl ?_
                    subst hF
                    exact g_iret rfl dX10_show_141 (Nat.le_of_ble_eq_true rfl) (Nat.le_of_ble_eq_true rfl) ⟨rfl, rfl⟩
                  · replace hF := ite_n hF c12
                    try replace hQ := ite_r hQ c12
                    refine g_case 9 (fun c13 => ?_) (fun c13 => ?_)
                    · replace hF := ite_p hF c13
                      try replace hQ := ite_q hQ c13
                      refine g_table (tgt := 142) dX10_show_1 (by decide) (by decide) ?_
                      refine g_aload_n dX10_show_142 rfl rfl rfl ?_
                      refine g_get gClX10 29 (by decide) fl_X10_202 dX10_show_143 (ho_199 _ _) rfl rfl ?_
                      subst hF
                      exact g_iret rfl dX10_show_146 (Nat.le_of_ble_eq_true rfl) (Nat.le_of_ble_eq_true rfl) ⟨rfl, rfl⟩
                    · replace hF := ite_n hF c13
                      try replace hQ := ite_r hQ c13
                      refine g_case 10 (fun c14 => ?_) (fun c14 => ?_)
                      · replace hF := ite_p hF c14
                        try replace hQ := ite_q hQ c14
                        refine g_table (tgt := 147) dX10_show_1 (by decide) (by decide) ?_
                        refine g_aload_n dX10_show_147 rfl rfl rfl ?_
                        refine g_get gClX10 30 (by decide) fl_X10_100 dX10_show_148 (ho_199 _ _) rfl rfl ?_
                        refine g_l2i dX10_show_151 rfl ?_
                        subst hF
                        exact g_iret rfl dX10_show_152 (Nat.le_of_ble_eq_true rfl) (Nat.le_of_ble_eq_true rfl) ⟨rfl, rfl⟩
                      · replace hF := ite_n hF c14
                        try replace hQ := ite_r hQ c14
                        refine g_case 11 (fun c15 => ?_) (fun c15 => ?_)
                        · replace hF := ite_p hF c15
                          try replace hQ := ite_q hQ c15
                          refine g_table (tgt := 153) dX10_show_1 (by decide) (by decide) ?_
                          refine g_aload_n dX10_show_153 rfl rfl rfl ?_
                          refine g_get gClX10 53 (by decide) fl_X10_104 dX10_show_154 (ho_199 _ _) rfl rfl ?_
                          refine g_l2i dX10_show_157 rfl ?_
                          subst hF
                          exact g_iret rfl dX10_show_158 (Nat.le_of_ble_eq_true rfl) (Nat.le_of_ble_eq_true rfl) ⟨rfl, rfl⟩
                        · replace hF := ite_n hF c15
                          try replace hQ := ite_r hQ c15
                          refine g_case 12 (fun c16 => ?_) (fun c16 => ?_)
                          · replace hF := ite_p hF c16
                            try replace hQ := ite_q hQ c16
                            refine g_table (tgt := 159) dX10_show_1 (by decide) (by decide) ?_
                            refine g_aload_n dX10_show_159 rfl rfl rfl ?_
                            refine g_get gClX10 18 (by decide) fl_X10_88 dX10_show_160 (ho_199 _ _) rfl rfl ?_
                            subst hF
                            exact g_iret rfl dX10_show_163 (Nat.le_of_ble_eq_true rfl) (Nat.le_of_ble_eq_true rfl) ⟨rfl, rfl⟩
                          · replace hF := ite_n hF c16
                            try replace hQ := ite_r hQ c16
                            refine g_case 13 (fun c17 => ?_) (fun c17 => ?_)
                            · replace hF := ite_p hF c17
                              try replace hQ := ite_q hQ c17
                              refine g_table (tgt := 164) dX10_show_1 (by decide) (by decide) ?_
                              refine g_aload_n dX10_show_164 rfl rfl rfl ?_
                              refine g_get gClX10 17 (by decide) fl_X10_163 dX10_show_165 (ho_199 _ _) rfl rfl ?_
                              subst hF
                              exact g_iret rfl dX10_show_168 (Nat.le_of_ble_eq_true rfl) (Nat.le_of_ble_eq_true rfl) ⟨rfl, rfl⟩
                            · replace hF := ite_n hF c17
                              try replace hQ := ite_r hQ c17
                              refine g_table (tgt := 169) dX10_show_1 (by decide) (gt_out (lo := 0) (hi := 13) (by decide) (fun k h1 h2 => by rcases (show k = 0 ∨ k = 1 ∨ k = 2 ∨ k = 3 ∨ k = 4 ∨ k = 5 ∨ k = 6 ∨ k = 7 ∨ k = 8 ∨ k = 9 ∨ k = 10 ∨ k = 11 ∨ k = 12 ∨ k = 13 by omega) with rfl | rfl | rfl | rfl | rfl | rfl | rfl | rfl | rfl | rfl | rfl | rfl | rfl | rfl <;> first | exact c1 | exact c3 | exact c5 | exact c7 | exact c8 | exact c9 | exact c10 | exact c11 | exact c12 | exact c13 | exact c14 | exact c15 | exact c16 | exact c17) (by decide)) ?_
                              refine g_iload_n dX10_show_169 rfl rfl rfl ?_
                              refine g_bipush (v := 14) dX10_show_170 (by decide) rfl ?_
                              refine g_icmplt (tgt := 193) dX10_show_172 (by decide) rfl (fun c18 => ?_) (fun c18 => ?_)
                              · replace hF := ite_p hF c18
                                try replace hQ := ite_q hQ c18
                                refine g_iconst (v := (-1)) dX10_show_193 (by decide) rfl ?_
                                subst hF
                                exact g_iret rfl dX10_show_194 (Nat.le_of_ble_eq_true rfl) (Nat.le_of_ble_eq_true rfl) ⟨rfl, rfl⟩
                              · replace hF := ite_n hF c18
                                try replace hQ := ite_r hQ c18
                                refine g_iload_n dX10_show_175 rfl rfl rfl ?_
                                refine g_bipush (v := 22) dX10_show_176 (by decide) rfl ?_
                                refine g_icmpgt (tgt := 193) dX10_show_178 (by decide) rfl (fun c19 => ?_) (fun c19 => ?_)
                                · replace hF := ite_p hF c19
                                  try replace hQ := ite_q hQ c19
                                  refine g_iconst (v := (-1)) dX10_show_193 (by decide) rfl ?_
                                  subst hF
                                  exact g_iret rfl dX10_show_194 (Nat.le_of_ble_eq_true rfl) (Nat.le_of_ble_eq_true rfl) ⟨rfl, rfl⟩
                                · replace hF := ite_n hF c19
                                  try replace hQ := ite_r hQ c19
                                  refine g_aload_n dX10_show_181 rfl rfl rfl ?_
                                  refine g_get gClX10 34 (by decide) fl_X10_63 dX10_show_182 (ho_199 _ _) rfl rfl ?_
                                  refine g_iload_n dX10_show_185 rfl rfl rfl ?_
                                  refine g_bipush (v := 14) dX10_show_186 (by decide) rfl ?_
                                  refine g_isub dX10_show_188 rfl ?_
                                  have o20 := hQ.1
                                  replace hQ := hQ.2
                                  refine g_iald (ha_217 _ _) o20 dX10_show_189 rfl ?_
                                  refine g_goto (tgt := 194) dX10_show_190 (by decide) ?_
                                  subst hF
                                  exact g_iret rfl dX10_show_194 (Nat.le_of_ble_eq_true rfl) (Nat.le_of_ble_eq_true rfl) ⟨rfl, rfl⟩
noncomputable def Fr_X10_tick (σ : gS) (ζ : gQ) (p0 : Int32) : Int32 × gQ :=
  if p0 < 0 then
    ((0 : Int32), ζ)
  else
    if (100000 : Int32) < p0 then
      ((0 : Int32), ζ)
    else
      if (lg_cmp ((ζ 19) + p0.toInt64) (2000000000 : Int64)) ≤ 0 then
        let z4 := (vp_updL ζ 19 ((ζ 19) + p0.toInt64) : gQ)
        ((1 : Int32), z4)
      else
        ((0 : Int32), ζ)
noncomputable def F_X10_tick : gS → gQ → Int32 → Int32 × gQ := Classical.choose (⟨Fr_X10_tick, rfl⟩ : ∃ f : gS → gQ → Int32 → Int32 × gQ, f = Fr_X10_tick)
theorem F_X10_tick_eq : F_X10_tick = Fr_X10_tick := Classical.choose_spec (⟨Fr_X10_tick, rfl⟩ : ∃ f : gS → gQ → Int32 → Int32 × gQ, f = Fr_X10_tick)
set_option maxHeartbeats 4000000 in
set_option maxRecDepth 100000 in
theorem c_X10_tick (l : Launch) (g : gE)  {σ : gS} {ζ : gQ} (p0 : Int32) : gC l g mX10_tick (rm 0 0) [.ref 199, .int p0] (hp σ ζ) (fun r h => r = some (.int (F_X10_tick σ ζ p0).1) ∧ h = hp σ (F_X10_tick σ ζ p0).2) := by
  refine gC_of (by decide) (Nat.le_of_ble_eq_true rfl) ?_
  generalize hF : (F_X10_tick σ ζ p0) = fr
  rw [F_X10_tick_eq] at hF
  unfold Fr_X10_tick at hF
  refine g_iload_n dX10_tick_0 rfl rfl rfl ?_
  refine g_iflt (tgt := 24) dX10_tick_1 (by decide) rfl (fun c1 => ?_) (fun c1 => ?_)
  · replace hF := ite_p hF c1
    refine g_iconst (v := 0) dX10_tick_24 (by decide) rfl ?_
    subst hF
    exact g_zret rfl dX10_tick_25 (by decide) (Nat.le_of_ble_eq_true rfl) (Nat.le_of_ble_eq_true rfl) ⟨rfl, rfl⟩
  · replace hF := ite_n hF c1
    refine g_iload_n dX10_tick_4 rfl rfl rfl ?_
    refine g_ldc ki_X10_199 dX10_tick_5 rfl ?_
    refine g_icmpgt (tgt := 24) dX10_tick_7 (by decide) rfl (fun c2 => ?_) (fun c2 => ?_)
    · replace hF := ite_p hF c2
      refine g_iconst (v := 0) dX10_tick_24 (by decide) rfl ?_
      subst hF
      exact g_zret rfl dX10_tick_25 (by decide) (Nat.le_of_ble_eq_true rfl) (Nat.le_of_ble_eq_true rfl) ⟨rfl, rfl⟩
    · replace hF := ite_n hF c2
      refine g_aload_n dX10_tick_10 rfl rfl rfl ?_
      refine g_get gClX10 19 (by decide) fl_X10_182 dX10_tick_11 (ho_199 _ _) rfl rfl ?_
      refine g_iload_n dX10_tick_14 rfl rfl rfl ?_
      refine g_i2l dX10_tick_15 rfl ?_
      refine g_ladd dX10_tick_16 rfl ?_
      refine g_ldc2 kl_X10_200 dX10_tick_17 rfl ?_
      refine g_lcmp dX10_tick_20 rfl ?_
      refine g_ifle (tgt := 26) dX10_tick_21 (by decide) rfl (fun c3 => ?_) (fun c3 => ?_)
      · replace hF := ite_p hF c3
        refine g_aload_n dX10_tick_26 rfl rfl rfl ?_
        refine g_dup dX10_tick_27 rfl rfl ?_
        refine g_get gClX10 19 (by decide) fl_X10_182 dX10_tick_28 (ho_199 _ _) rfl rfl ?_
        refine g_iload_n dX10_tick_31 rfl rfl rfl ?_
        refine g_i2l dX10_tick_32 rfl ?_
        refine g_ladd dX10_tick_33 rfl ?_
        refine g_put gClX10 19 (by decide) fl_X10_182 rfl dX10_tick_34 (ho_199 _ _) rfl rfl (Nat.le_of_ble_eq_true rfl) pz_19 rfl ?_
        refine g_iconst (v := 1) dX10_tick_37 (by decide) rfl ?_
        subst hF
        exact g_zret rfl dX10_tick_38 (by decide) (Nat.le_of_ble_eq_true rfl) (Nat.le_of_ble_eq_true rfl) ⟨rfl, rfl⟩
      · replace hF := ite_n hF c3
        refine g_iconst (v := 0) dX10_tick_24 (by decide) rfl ?_
        subst hF
        exact g_zret rfl dX10_tick_25 (by decide) (Nat.le_of_ble_eq_true rfl) (Nat.le_of_ble_eq_true rfl) ⟨rfl, rfl⟩
noncomputable def Fr_X10_writable (σ : gS) (p0 : Int32) (p1 : Int32) : Int32 × gS :=
  if (F_X10_isCard p0) = 0 then
    ((0 : Int32), σ)
  else
    let s4 := (pf σ 212 (ix p0) p1 : gS)
    ((1 : Int32), s4)
noncomputable def F_X10_writable : gS → Int32 → Int32 → Int32 × gS := Classical.choose (⟨Fr_X10_writable, rfl⟩ : ∃ f : gS → Int32 → Int32 → Int32 × gS, f = Fr_X10_writable)
theorem F_X10_writable_eq : F_X10_writable = Fr_X10_writable := Classical.choose_spec (⟨Fr_X10_writable, rfl⟩ : ∃ f : gS → Int32 → Int32 → Int32 × gS, f = Fr_X10_writable)
def Q_X10_writable (σ : gS) (p0 : Int32) (p1 : Int32) : Prop :=
  if (F_X10_isCard p0) = 0 then
    (True)
  else
    (vp_in p0 16 ∧ (let s4 := (pf σ 212 (ix p0) p1 : gS)
    (p1 = 0 ∨ p1 = 1) ∧ (True)))
set_option maxHeartbeats 4000000 in
set_option maxRecDepth 100000 in
theorem c_X10_writable (l : Launch) (g : gE)  {σ : gS} {ζ : gQ} (p0 : Int32) (p1 : Int32) (hQ : Q_X10_writable σ p0 p1) : gC l g mX10_writable (rm 1 20) [.ref 199, .int p0, .int p1] (hp σ ζ) (fun r h => r = some (.int (F_X10_writable σ p0 p1).1) ∧ h = hp (F_X10_writable σ p0 p1).2 ζ) := by
  refine gC_of (by decide) (Nat.le_of_ble_eq_true rfl) ?_
  generalize hF : (F_X10_writable σ p0 p1) = fr
  rw [F_X10_writable_eq] at hF
  unfold Fr_X10_writable at hF
  unfold Q_X10_writable at hQ
  refine g_iload_n dX10_writable_0 rfl rfl rfl ?_
  refine g_calls mt_X10_isCard ms_X10_isCard ml_X10_154 (c_X10_isCard l g _) rfl (Nat.le_of_ble_eq_true rfl) (Nat.le_of_ble_eq_true rfl) (Nat.le_of_ble_eq_true rfl) (Nat.le_of_ble_eq_true rfl) rfl (Nat.le_of_ble_eq_true rfl) dX10_writable_1 rfl (fun r1 hr1 pr1 => ?_)
  obtain ⟨rfl, rfl⟩ := pr1
  refine g_ifne (tgt := 9) dX10_writable_4 (by decide) rfl (fun c2 => ?_) (fun c2 => ?_)
  · replace hF := ite_n hF c2
    try replace hQ := ite_r hQ c2
    refine g_aload_n dX10_writable_9 rfl rfl rfl ?_
    refine g_get gClX10 14 (by decide) fl_X10_47 dX10_writable_10 (ho_199 _ _) rfl rfl ?_
    refine g_iload_n dX10_writable_13 rfl rfl rfl ?_
    refine g_iload_n dX10_writable_14 rfl rfl rfl ?_
    have o3 := hQ.1
    replace hQ := hQ.2
    have o5 := hQ.1
    replace hQ := hQ.2
    refine g_zast (ha_212 _ _) o3 (gz_n o5) pa_212 dX10_writable_15 rfl ?_
    refine g_iconst (v := 1) dX10_writable_16 (by decide) rfl ?_
    subst hF
    exact g_zret rfl dX10_writable_17 (by decide) (Nat.le_of_ble_eq_true rfl) (Nat.le_of_ble_eq_true rfl) ⟨rfl, rfl⟩
  · replace hF := ite_p hF c2
    try replace hQ := ite_q hQ c2
    refine g_iconst (v := 0) dX10_writable_7 (by decide) rfl ?_
    subst hF
    exact g_zret rfl dX10_writable_8 (by decide) (Nat.le_of_ble_eq_true rfl) (Nat.le_of_ble_eq_true rfl) ⟨rfl, rfl⟩
