/-! StationHouseModel: by program -/
noncomputable def G_X10_diskField_L5 (p0 : Int32) (p1 : Int32) (σ : gS) : Nat → Int64 → Int32 → Int64
  | 0, _, _ => 0
  | n + 1, y3, y5 =>
    if (p0 + p1) ≤ y5 then
      y3
    else
      let v3 := ((y3 <<< ((8 : Int32).toInt64 &&& 63)) ||| ((σ 215 (ix y5)).toInt64 &&& (255 : Int64)))
      G_X10_diskField_L5 p0 p1 σ n v3 (y5 + Int32.ofInt (1))
def QG_X10_diskField_L5 (p0 : Int32) (p1 : Int32) (σ : gS) : Nat → Int64 → Int32 → Prop
  | 0, _, _ => False
  | n + 1, y3, y5 =>
    if (p0 + p1) ≤ y5 then
      (True)
    else
      (vp_in y5 400 ∧ (let v3 := ((y3 <<< ((8 : Int32).toInt64 &&& 63)) ||| ((σ 215 (ix y5)).toInt64 &&& (255 : Int64)))
      QG_X10_diskField_L5 p0 p1 σ n v3 (y5 + Int32.ofInt (1))))
set_option maxHeartbeats 4000000 in
set_option maxRecDepth 100000 in
theorem t_X10_diskField_L5 (l : Launch) (g : gE) {p0 : Int32} {p1 : Int32} {σ : gS} {ζ : gQ} {fr : Int64} : ∀ (n : Nat) (y3 : Int64) (y5 : Int32), QG_X10_diskField_L5 p0 p1 σ n y3 y5 → G_X10_diskField_L5 p0 p1 σ n y3 y5 = fr → gG l g mX10_diskField (rm 0 0) (gZm g (rm 0 0) (fun r h => r = some (.long fr) ∧ h = hp σ ζ)) 5 [(0, .ref 199), (1, .int p0), (2, .int p1), (3, .long y3), (5, .int y5)] [] (hp σ ζ) 0 0 := by
  intro n
  induction n with
  | zero => intro y3 y5 hQ; exact absurd hQ (by unfold QG_X10_diskField_L5; exact id)
  | succ n ihL5 =>
    intro y3 y5 hQ hF
    unfold G_X10_diskField_L5 at hF
    unfold QG_X10_diskField_L5 at hQ
    refine g_iload dX10_diskField_5 rfl rfl ?_
    refine g_iload_n dX10_diskField_7 rfl rfl rfl ?_
    refine g_iload_n dX10_diskField_8 rfl rfl rfl ?_
    refine g_iadd dX10_diskField_9 rfl ?_
    refine g_icmpge (tgt := 37) dX10_diskField_10 (by decide) rfl (fun c1 => ?_) (fun c1 => ?_)
    · replace hF := ite_p hF c1
      try replace hQ := ite_q hQ c1
      refine g_lload_n dX10_diskField_37 rfl rfl rfl ?_
      subst hF
      exact g_lret rfl dX10_diskField_38 (Nat.le_of_ble_eq_true rfl) (Nat.le_of_ble_eq_true rfl) ⟨rfl, rfl⟩
    · replace hF := ite_n hF c1
      try replace hQ := ite_r hQ c1
      refine g_lload_n dX10_diskField_13 rfl rfl rfl ?_
      refine g_bipush (v := 8) dX10_diskField_14 (by decide) rfl ?_
      refine g_lshl dX10_diskField_16 rfl ?_
      refine g_aload_n dX10_diskField_17 rfl rfl rfl ?_
      refine g_get gClX10 24 (by decide) fl_X10_57 dX10_diskField_18 (ho_199 _ _) rfl rfl ?_
      refine g_iload dX10_diskField_21 rfl rfl ?_
      have o2 := hQ.1
      replace hQ := hQ.2
      refine g_bald (ha_215 _ _) o2 dX10_diskField_23 rfl ?_
      refine g_i2l dX10_diskField_24 rfl ?_
      refine g_ldc2 kl_X10_161 dX10_diskField_25 rfl ?_
      refine g_land dX10_diskField_28 rfl ?_
      refine g_lor dX10_diskField_29 rfl ?_
      refine g_lstoreL_n (L1 := [(0, _), (1, _), (2, _), (3, _), (5, _)]) dX10_diskField_30 rfl (by decide) rfl rfl ?_
      refine g_iincL (L1 := [(0, _), (1, _), (2, _), (3, _), (5, _)]) dX10_diskField_31 rfl (by decide) rfl rfl ?_
      refine g_goto (tgt := 5) dX10_diskField_34 (by decide) ?_
      refine g_sub [0, 1, 2, 3, 4] rfl ?_
      exact ihL5 _ _ hQ hF
noncomputable def Fr_X10_diskField (σ : gS) (p0 : Int32) (p1 : Int32) : Int64 :=
  G_X10_diskField_L5 p0 p1 σ 4000 (0 : Int64) p0
noncomputable def F_X10_diskField : gS → Int32 → Int32 → Int64 := Classical.choose (⟨Fr_X10_diskField, rfl⟩ : ∃ f : gS → Int32 → Int32 → Int64, f = Fr_X10_diskField)
theorem F_X10_diskField_eq : F_X10_diskField = Fr_X10_diskField := Classical.choose_spec (⟨Fr_X10_diskField, rfl⟩ : ∃ f : gS → Int32 → Int32 → Int64, f = Fr_X10_diskField)
def Q_X10_diskField (σ : gS) (p0 : Int32) (p1 : Int32) : Prop :=
  QG_X10_diskField_L5 p0 p1 σ 4000 (0 : Int64) p0
set_option maxHeartbeats 4000000 in
set_option maxRecDepth 100000 in
theorem c_X10_diskField (l : Launch) (g : gE)  {σ : gS} {ζ : gQ} (p0 : Int32) (p1 : Int32) (hQ : Q_X10_diskField σ p0 p1) : gC l g mX10_diskField (rm 0 0) [.ref 199, .int p0, .int p1] (hp σ ζ) (fun r h => r = some (.long (F_X10_diskField σ p0 p1)) ∧ h = hp σ ζ) := by
  refine gC_of (by decide) (Nat.le_of_ble_eq_true rfl) ?_
  generalize hF : (F_X10_diskField σ p0 p1) = fr
  rw [F_X10_diskField_eq] at hF
  unfold Fr_X10_diskField at hF
  unfold Q_X10_diskField at hQ
  refine g_lconst (v := 0) dX10_diskField_0 (by decide) rfl ?_
  refine g_lstoreL_n (L1 := [(0, _), (1, _), (2, _), (3, _)]) dX10_diskField_1 rfl (by decide) rfl rfl ?_
  refine g_iload_n dX10_diskField_2 rfl rfl rfl ?_
  refine g_istoreL (L1 := [(0, _), (1, _), (2, _), (3, _), (5, _)]) dX10_diskField_3 (by decide) rfl rfl ?_
  refine g_sub [0, 1, 2, 3, 4] rfl ?_
  exact t_X10_diskField_L5 l g 4000 _ _ hQ hF
noncomputable def G_X10_isEnrolment_L116 (σ : gS) (kL68 : Int32 → Int32 → Int32) : Nat → Int32 → Int32 → Int64 → Int32 → Int32
  | 0, _, _, _, _ => 0
  | n + 1, y1, y2, y3, y5 =>
    if y2 ≤ y5 then
      kL68 y1 (y2 + Int32.ofInt (1))
    else
      if y1 = 0 then
        G_X10_isEnrolment_L116 σ kL68 n (0 : Int32) y2 y3 (y5 + Int32.ofInt (1))
      else
        if (lg_cmp y3 (F_X10_diskField σ ((20 : Int32) + ((18 : Int32) * y5)) (2 : Int32))) = 0 then
          G_X10_isEnrolment_L116 σ kL68 n (0 : Int32) y2 y3 (y5 + Int32.ofInt (1))
        else
          G_X10_isEnrolment_L116 σ kL68 n (1 : Int32) y2 y3 (y5 + Int32.ofInt (1))
def QG_X10_isEnrolment_L116 (σ : gS) (qL68 : Int32 → Int32 → Prop) : Nat → Int32 → Int32 → Int64 → Int32 → Prop
  | 0, _, _, _, _ => False
  | n + 1, y1, y2, y3, y5 =>
    if y2 ≤ y5 then
      (qL68 y1 (y2 + Int32.ofInt (1)))
    else
      (if y1 = 0 then
        (QG_X10_isEnrolment_L116 σ qL68 n (0 : Int32) y2 y3 (y5 + Int32.ofInt (1)))
      else
        ((Q_X10_diskField σ ((20 : Int32) + ((18 : Int32) * y5)) (2 : Int32)) ∧ (if (lg_cmp y3 (F_X10_diskField σ ((20 : Int32) + ((18 : Int32) * y5)) (2 : Int32))) = 0 then
          (QG_X10_isEnrolment_L116 σ qL68 n (0 : Int32) y2 y3 (y5 + Int32.ofInt (1)))
        else
          (QG_X10_isEnrolment_L116 σ qL68 n (1 : Int32) y2 y3 (y5 + Int32.ofInt (1))))))
set_option maxHeartbeats 4000000 in
set_option maxRecDepth 100000 in
theorem t_X10_isEnrolment_L116 (l : Launch) (g : gE) {σ : gS} {ζ : gQ} {fr : Int32} {kL68 : Int32 → Int32 → Int32} {qL68 : Int32 → Int32 → Prop} (hkL68 : ∀ (y1 : Int32) (y2 : Int32), qL68 y1 y2 → kL68 y1 y2 = fr → gG l g mX10_isEnrolment (rm 1 25) (gZm g (rm 1 25) (fun r h => r = some (.int fr) ∧ h = hp σ ζ)) 68 [(0, .ref 199), (1, .int y1), (2, .int y2)] [] (hp σ ζ) 0 0) : ∀ (n : Nat) (y1 : Int32) (y2 : Int32) (y3 : Int64) (y5 : Int32), QG_X10_isEnrolment_L116 σ qL68 n y1 y2 y3 y5 → G_X10_isEnrolment_L116 σ kL68 n y1 y2 y3 y5 = fr → gG l g mX10_isEnrolment (rm 1 25) (gZm g (rm 1 25) (fun r h => r = some (.int fr) ∧ h = hp σ ζ)) 116 [(0, .ref 199), (1, .int y1), (2, .int y2), (3, .long y3), (5, .int y5)] [] (hp σ ζ) 0 0 := by
  intro n
  induction n with
  | zero => intro y1 y2 y3 y5 hQ; exact absurd hQ (by unfold QG_X10_isEnrolment_L116; exact id)
  | succ n ihL116 =>
    intro y1 y2 y3 y5 hQ hF
    unfold G_X10_isEnrolment_L116 at hF
    unfold QG_X10_isEnrolment_L116 at hQ
    refine g_iload dX10_isEnrolment_116 rfl rfl ?_
    refine g_iload_n dX10_isEnrolment_118 rfl rfl rfl ?_
    refine g_icmpge (tgt := 156) dX10_isEnrolment_119 (by decide) rfl (fun c12 => ?_) (fun c12 => ?_)
    · replace hF := ite_p hF c12
      try replace hQ := ite_q hQ c12
      refine g_iincL (L1 := [(0, _), (1, _), (2, _), (3, _), (5, _)]) dX10_isEnrolment_156 rfl (by decide) rfl rfl ?_
      refine g_goto (tgt := 68) dX10_isEnrolment_159 (by decide) ?_
      refine g_sub [0, 1, 2] rfl ?_
      exact hkL68 _ _ hQ hF
    · replace hF := ite_n hF c12
      try replace hQ := ite_r hQ c12
      refine g_iload_n dX10_isEnrolment_122 rfl rfl rfl ?_
      refine g_ifeq (tgt := 148) dX10_isEnrolment_123 (by decide) rfl (fun c13 => ?_) (fun c13 => ?_)
      · replace hF := ite_p hF c13
        try replace hQ := ite_q hQ c13
        refine g_iconst (v := 0) dX10_isEnrolment_148 (by decide) rfl ?_
        refine g_istoreL_n (L1 := [(0, _), (1, _), (2, _), (3, _), (5, _)]) dX10_isEnrolment_149 rfl (by decide) rfl rfl ?_
        refine g_iincL (L1 := [(0, _), (1, _), (2, _), (3, _), (5, _)]) dX10_isEnrolment_150 rfl (by decide) rfl rfl ?_
        refine g_goto (tgt := 116) dX10_isEnrolment_153 (by decide) ?_
        refine g_sub [0, 1, 2, 3, 4] rfl ?_
        exact ihL116 _ _ _ _ hQ hF
      · replace hF := ite_n hF c13
        try replace hQ := ite_r hQ c13
        refine g_lload_n dX10_isEnrolment_126 rfl rfl rfl ?_
        refine g_aload_n dX10_isEnrolment_127 rfl rfl rfl ?_
        refine g_bipush (v := 20) dX10_isEnrolment_128 (by decide) rfl ?_
        refine g_bipush (v := 18) dX10_isEnrolment_130 (by decide) rfl ?_
        refine g_iload dX10_isEnrolment_132 rfl rfl ?_
        refine g_imul dX10_isEnrolment_134 rfl ?_
        refine g_iadd dX10_isEnrolment_135 rfl ?_
        refine g_iconst (v := 2) dX10_isEnrolment_136 (by decide) rfl ?_
        have o14 := hQ.1
        replace hQ := hQ.2
        refine g_callv mv_X10_diskField ml_X10_365 (c_X10_diskField l g _ _ o14) (ho_199 _ _) rfl rfl (Nat.le_of_ble_eq_true rfl) (Nat.le_of_ble_eq_true rfl) (Nat.le_of_ble_eq_true rfl) (Nat.le_of_ble_eq_true rfl) rfl (Nat.le_of_ble_eq_true rfl) dX10_isEnrolment_137 rfl (fun r15 hr15 pr15 => ?_)
        obtain ⟨rfl, rfl⟩ := pr15
        refine g_lcmp dX10_isEnrolment_140 rfl ?_
        refine g_ifeq (tgt := 148) dX10_isEnrolment_141 (by decide) rfl (fun c16 => ?_) (fun c16 => ?_)
        · replace hF := ite_p hF c16
          try replace hQ := ite_q hQ c16
          refine g_iconst (v := 0) dX10_isEnrolment_148 (by decide) rfl ?_
          refine g_istoreL_n (L1 := [(0, _), (1, _), (2, _), (3, _), (5, _)]) dX10_isEnrolment_149 rfl (by decide) rfl rfl ?_
          refine g_iincL (L1 := [(0, _), (1, _), (2, _), (3, _), (5, _)]) dX10_isEnrolment_150 rfl (by decide) rfl rfl ?_
          refine g_goto (tgt := 116) dX10_isEnrolment_153 (by decide) ?_
          refine g_sub [0, 1, 2, 3, 4] rfl ?_
          exact ihL116 _ _ _ _ hQ hF
        · replace hF := ite_n hF c16
          try replace hQ := ite_r hQ c16
          refine g_iconst (v := 1) dX10_isEnrolment_144 (by decide) rfl ?_
          refine g_goto (tgt := 149) dX10_isEnrolment_145 (by decide) ?_
          refine g_istoreL_n (L1 := [(0, _), (1, _), (2, _), (3, _), (5, _)]) dX10_isEnrolment_149 rfl (by decide) rfl rfl ?_
          refine g_iincL (L1 := [(0, _), (1, _), (2, _), (3, _), (5, _)]) dX10_isEnrolment_150 rfl (by decide) rfl rfl ?_
          refine g_goto (tgt := 116) dX10_isEnrolment_153 (by decide) ?_
          refine g_sub [0, 1, 2, 3, 4] rfl ?_
          exact ihL116 _ _ _ _ hQ hF
noncomputable def G_X10_isEnrolment_L68 (σ : gS) : Nat → Int32 → Int32 → Int32
  | 0, _, _ => 0
  | n + 1, y1, y2 =>
    if (σ 215 (ix (19 : Int32))) ≤ y2 then
      y1
    else
      let v10 := (F_X10_diskField σ ((20 : Int32) + ((18 : Int32) * y2)) (2 : Int32))
      if y1 = 0 then
        G_X10_isEnrolment_L116 σ (G_X10_isEnrolment_L68 σ n) 4000 (0 : Int32) y2 v10 (0 : Int32)
      else
        if (lg_cmp v10 (F_X10_diskField σ (1 : Int32) (2 : Int32))) = 0 then
          G_X10_isEnrolment_L116 σ (G_X10_isEnrolment_L68 σ n) 4000 (0 : Int32) y2 v10 (0 : Int32)
        else
          G_X10_isEnrolment_L116 σ (G_X10_isEnrolment_L68 σ n) 4000 (1 : Int32) y2 v10 (0 : Int32)
def QG_X10_isEnrolment_L68 (σ : gS) : Nat → Int32 → Int32 → Prop
  | 0, _, _ => False
  | n + 1, y1, y2 =>
    if (σ 215 (ix (19 : Int32))) ≤ y2 then
      ((y1 = 0 ∨ y1 = 1) ∧ (True))
    else
      ((Q_X10_diskField σ ((20 : Int32) + ((18 : Int32) * y2)) (2 : Int32)) ∧ (let v10 := (F_X10_diskField σ ((20 : Int32) + ((18 : Int32) * y2)) (2 : Int32))
      if y1 = 0 then
        (QG_X10_isEnrolment_L116 σ (QG_X10_isEnrolment_L68 σ n) 4000 (0 : Int32) y2 v10 (0 : Int32))
      else
        ((Q_X10_diskField σ (1 : Int32) (2 : Int32)) ∧ (if (lg_cmp v10 (F_X10_diskField σ (1 : Int32) (2 : Int32))) = 0 then
          (QG_X10_isEnrolment_L116 σ (QG_X10_isEnrolment_L68 σ n) 4000 (0 : Int32) y2 v10 (0 : Int32))
        else
          (QG_X10_isEnrolment_L116 σ (QG_X10_isEnrolment_L68 σ n) 4000 (1 : Int32) y2 v10 (0 : Int32))))))
set_option maxHeartbeats 4000000 in
set_option maxRecDepth 100000 in
theorem t_X10_isEnrolment_L68 (l : Launch) (g : gE) {σ : gS} {ζ : gQ} {fr : Int32} : ∀ (n : Nat) (y1 : Int32) (y2 : Int32), QG_X10_isEnrolment_L68 σ n y1 y2 → G_X10_isEnrolment_L68 σ n y1 y2 = fr → gG l g mX10_isEnrolment (rm 1 25) (gZm g (rm 1 25) (fun r h => r = some (.int fr) ∧ h = hp σ ζ)) 68 [(0, .ref 199), (1, .int y1), (2, .int y2)] [] (hp σ ζ) 0 0 := by
  intro n
  induction n with
  | zero => intro y1 y2 hQ; exact absurd hQ (by unfold QG_X10_isEnrolment_L68; exact id)
  | succ n ihL68 =>
    intro y1 y2 hQ hF
    unfold G_X10_isEnrolment_L68 at hF
    unfold QG_X10_isEnrolment_L68 at hQ
    refine g_iload_n dX10_isEnrolment_68 rfl rfl rfl ?_
    refine g_aload_n dX10_isEnrolment_69 rfl rfl rfl ?_
    refine g_get gClX10 24 (by decide) fl_X10_57 dX10_isEnrolment_70 (ho_199 _ _) rfl rfl ?_
    refine g_bipush (v := 19) dX10_isEnrolment_73 (by decide) rfl ?_
    refine g_bald (ha_215 _ _) (vinc (by decide)) dX10_isEnrolment_75 rfl ?_
    refine g_icmpge (tgt := 162) dX10_isEnrolment_76 (by decide) rfl (fun c6 => ?_) (fun c6 => ?_)
    · replace hF := ite_p hF c6
      try replace hQ := ite_q hQ c6
      refine g_iload_n dX10_isEnrolment_162 rfl rfl rfl ?_
      have o7 := hQ.1
      replace hQ := hQ.2
      subst hF
      exact g_zret rfl dX10_isEnrolment_163 (gz_n o7) (Nat.le_of_ble_eq_true rfl) (Nat.le_of_ble_eq_true rfl) ⟨rfl, rfl⟩
    · replace hF := ite_n hF c6
      try replace hQ := ite_r hQ c6
      refine g_aload_n dX10_isEnrolment_79 rfl rfl rfl ?_
      refine g_bipush (v := 20) dX10_isEnrolment_80 (by decide) rfl ?_
      refine g_bipush (v := 18) dX10_isEnrolment_82 (by decide) rfl ?_
      refine g_iload_n dX10_isEnrolment_84 rfl rfl rfl ?_
      refine g_imul dX10_isEnrolment_85 rfl ?_
      refine g_iadd dX10_isEnrolment_86 rfl ?_
      refine g_iconst (v := 2) dX10_isEnrolment_87 (by decide) rfl ?_
      have o8 := hQ.1
      replace hQ := hQ.2
      refine g_callv mv_X10_diskField ml_X10_365 (c_X10_diskField l g _ _ o8) (ho_199 _ _) rfl rfl (Nat.le_of_ble_eq_true rfl) (Nat.le_of_ble_eq_true rfl) (Nat.le_of_ble_eq_true rfl) (Nat.le_of_ble_eq_true rfl) rfl (Nat.le_of_ble_eq_true rfl) dX10_isEnrolment_88 rfl (fun r9 hr9 pr9 => ?_)
      obtain ⟨rfl, rfl⟩ := pr9
      refine g_lstoreL_n (L1 := [(0, _), (1, _), (2, _), (3, _)]) dX10_isEnrolment_91 rfl (by decide) rfl rfl ?_
      refine g_iload_n dX10_isEnrolment_92 rfl rfl rfl ?_
      refine g_ifeq (tgt := 111) dX10_isEnrolment_93 (by decide) rfl (fun c11 => ?_) (fun c11 => ?_)
      · replace hF := ite_p hF c11
        try replace hQ := ite_q hQ c11
        refine g_iconst (v := 0) dX10_isEnrolment_111 (by decide) rfl ?_
        refine g_istoreL_n (L1 := [(0, _), (1, _), (2, _), (3, _)]) dX10_isEnrolment_112 rfl (by decide) rfl rfl ?_
        refine g_iconst (v := 0) dX10_isEnrolment_113 (by decide) rfl ?_
        refine g_istoreL (L1 := [(0, _), (1, _), (2, _), (3, _), (5, _)]) dX10_isEnrolment_114 (by decide) rfl rfl ?_
        refine g_sub [0, 1, 2, 3, 4] rfl ?_
        exact t_X10_isEnrolment_L116 l g ihL68 4000 _ _ _ _ hQ hF
      · replace hF := ite_n hF c11
        try replace hQ := ite_r hQ c11
        refine g_lload_n dX10_isEnrolment_96 rfl rfl rfl ?_
        refine g_aload_n dX10_isEnrolment_97 rfl rfl rfl ?_
        refine g_iconst (v := 1) dX10_isEnrolment_98 (by decide) rfl ?_
        refine g_iconst (v := 2) dX10_isEnrolment_99 (by decide) rfl ?_
        have o17 := hQ.1
        replace hQ := hQ.2
        refine g_callv mv_X10_diskField ml_X10_365 (c_X10_diskField l g _ _ o17) (ho_199 _ _) rfl rfl (Nat.le_of_ble_eq_true rfl) (Nat.le_of_ble_eq_true rfl) (Nat.le_of_ble_eq_true rfl) (Nat.le_of_ble_eq_true rfl) rfl (Nat.le_of_ble_eq_true rfl) dX10_isEnrolment_100 rfl (fun r18 hr18 pr18 => ?_)
        obtain ⟨rfl, rfl⟩ := pr18
        refine g_lcmp dX10_isEnrolment_103 rfl ?_
        refine g_ifeq (tgt := 111) dX10_isEnrolment_104 (by decide) rfl (fun c19 => ?_) (fun c19 => ?_)
        · replace hF := ite_p hF c19
          try replace hQ := ite_q hQ c19
          refine g_iconst (v := 0) dX10_isEnrolment_111 (by decide) rfl ?_
          refine g_istoreL_n (L1 := [(0, _), (1, _), (2, _), (3, _)]) dX10_isEnrolment_112 rfl (by decide) rfl rfl ?_
          refine g_iconst (v := 0) dX10_isEnrolment_113 (by decide) rfl ?_
          refine g_istoreL (L1 := [(0, _), (1, _), (2, _), (3, _), (5, _)]) dX10_isEnrolment_114 (by decide) rfl rfl ?_
          refine g_sub [0, 1, 2, 3, 4] rfl ?_
          exact t_X10_isEnrolment_L116 l g ihL68 4000 _ _ _ _ hQ hF
        · replace hF := ite_n hF c19
          try replace hQ := ite_r hQ c19
          refine g_iconst (v := 1) dX10_isEnrolment_107 (by decide) rfl ?_
          refine g_goto (tgt := 112) dX10_isEnrolment_108 (by decide) ?_
          refine g_istoreL_n (L1 := [(0, _), (1, _), (2, _), (3, _)]) dX10_isEnrolment_112 rfl (by decide) rfl rfl ?_
          refine g_iconst (v := 0) dX10_isEnrolment_113 (by decide) rfl ?_
          refine g_istoreL (L1 := [(0, _), (1, _), (2, _), (3, _), (5, _)]) dX10_isEnrolment_114 (by decide) rfl rfl ?_
          refine g_sub [0, 1, 2, 3, 4] rfl ?_
          exact t_X10_isEnrolment_L116 l g ihL68 4000 _ _ _ _ hQ hF
noncomputable def Fr_X10_isEnrolment (σ : gS)  : Int32 :=
  if (σ 199 25) < (20 : Int32) then
    (0 : Int32)
  else
    if (σ 215 (ix (0 : Int32))) = (69 : Int32) then
      if (σ 215 (ix (19 : Int32))) < 0 then
        (0 : Int32)
      else
        if (6 : Int32) < (σ 215 (ix (19 : Int32))) then
          (0 : Int32)
        else
          if (σ 199 25) = ((20 : Int32) + ((18 : Int32) * (σ 215 (ix (19 : Int32))))) then
            G_X10_isEnrolment_L68 σ 4000 (1 : Int32) (0 : Int32)
          else
            (0 : Int32)
    else
      (0 : Int32)
noncomputable def F_X10_isEnrolment : gS → Int32 := Classical.choose (⟨Fr_X10_isEnrolment, rfl⟩ : ∃ f : gS → Int32, f = Fr_X10_isEnrolment)
theorem F_X10_isEnrolment_eq : F_X10_isEnrolment = Fr_X10_isEnrolment := Classical.choose_spec (⟨Fr_X10_isEnrolment, rfl⟩ : ∃ f : gS → Int32, f = Fr_X10_isEnrolment)
def Q_X10_isEnrolment (σ : gS)  : Prop :=
  if (σ 199 25) < (20 : Int32) then
    (True)
  else
    (if (σ 215 (ix (0 : Int32))) = (69 : Int32) then
      (if (σ 215 (ix (19 : Int32))) < 0 then
        (True)
      else
        (if (6 : Int32) < (σ 215 (ix (19 : Int32))) then
          (True)
        else
          (if (σ 199 25) = ((20 : Int32) + ((18 : Int32) * (σ 215 (ix (19 : Int32))))) then
            (QG_X10_isEnrolment_L68 σ 4000 (1 : Int32) (0 : Int32))
          else
            (True))))
    else
      (True))
set_option maxHeartbeats 4000000 in
set_option maxRecDepth 100000 in
theorem c_X10_isEnrolment (l : Launch) (g : gE)  {σ : gS} {ζ : gQ}  (hQ : Q_X10_isEnrolment σ ) : gC l g mX10_isEnrolment (rm 1 25) [.ref 199] (hp σ ζ) (fun r h => r = some (.int (F_X10_isEnrolment σ )) ∧ h = hp σ ζ) := by
  refine gC_of (by decide) (Nat.le_of_ble_eq_true rfl) ?_
  generalize hF : (F_X10_isEnrolment σ ) = fr
  rw [F_X10_isEnrolment_eq] at hF
  unfold Fr_X10_isEnrolment at hF
  unfold Q_X10_isEnrolment at hQ
  refine g_aload_n dX10_isEnrolment_0 rfl rfl rfl ?_
  refine g_get gClX10 25 (by decide) fl_X10_79 dX10_isEnrolment_1 (ho_199 _ _) rfl rfl ?_
  refine g_bipush (v := 20) dX10_isEnrolment_4 (by decide) rfl ?_
  refine g_icmplt (tgt := 62) dX10_isEnrolment_6 (by decide) rfl (fun c1 => ?_) (fun c1 => ?_)
  · replace hF := ite_p hF c1
    try replace hQ := ite_q hQ c1
    refine g_iconst (v := 0) dX10_isEnrolment_62 (by decide) rfl ?_
    subst hF
    exact g_zret rfl dX10_isEnrolment_63 (by decide) (Nat.le_of_ble_eq_true rfl) (Nat.le_of_ble_eq_true rfl) ⟨rfl, rfl⟩
  · replace hF := ite_n hF c1
    try replace hQ := ite_r hQ c1
    refine g_aload_n dX10_isEnrolment_9 rfl rfl rfl ?_
    refine g_get gClX10 24 (by decide) fl_X10_57 dX10_isEnrolment_10 (ho_199 _ _) rfl rfl ?_
    refine g_iconst (v := 0) dX10_isEnrolment_13 (by decide) rfl ?_
    refine g_bald (ha_215 _ _) (vinc (by decide)) dX10_isEnrolment_14 rfl ?_
    refine g_bipush (v := 69) dX10_isEnrolment_15 (by decide) rfl ?_
    refine g_icmpne (tgt := 62) dX10_isEnrolment_17 (by decide) rfl (fun c2 => ?_) (fun c2 => ?_)
    · replace hF := ite_n hF c2
      try replace hQ := ite_r hQ c2
      refine g_iconst (v := 0) dX10_isEnrolment_62 (by decide) rfl ?_
      subst hF
      exact g_zret rfl dX10_isEnrolment_63 (by decide) (Nat.le_of_ble_eq_true rfl) (Nat.le_of_ble_eq_true rfl) ⟨rfl, rfl⟩
    · replace hF := ite_p hF c2
      try replace hQ := ite_q hQ c2
      refine g_aload_n dX10_isEnrolment_20 rfl rfl rfl ?_
      refine g_get gClX10 24 (by decide) fl_X10_57 dX10_isEnrolment_21 (ho_199 _ _) rfl rfl ?_
      refine g_bipush (v := 19) dX10_isEnrolment_24 (by decide) rfl ?_
      refine g_bald (ha_215 _ _) (vinc (by decide)) dX10_isEnrolment_26 rfl ?_
      refine g_iflt (tgt := 62) dX10_isEnrolment_27 (by decide) rfl (fun c3 => ?_) (fun c3 => ?_)
      · replace hF := ite_p hF c3
        try replace hQ := ite_q hQ c3
        refine g_iconst (v := 0) dX10_isEnrolment_62 (by decide) rfl ?_
        subst hF
        exact g_zret rfl dX10_isEnrolment_63 (by decide) (Nat.le_of_ble_eq_true rfl) (Nat.le_of_ble_eq_true rfl) ⟨rfl, rfl⟩
      · replace hF := ite_n hF c3
        try replace hQ := ite_r hQ c3
        refine g_aload_n dX10_isEnrolment_30 rfl rfl rfl ?_
        refine g_get gClX10 24 (by decide) fl_X10_57 dX10_isEnrolment_31 (ho_199 _ _) rfl rfl ?_
        refine g_bipush (v := 19) dX10_isEnrolment_34 (by decide) rfl ?_
        refine g_bald (ha_215 _ _) (vinc (by decide)) dX10_isEnrolment_36 rfl ?_
        refine g_bipush (v := 6) dX10_isEnrolment_37 (by decide) rfl ?_
        refine g_icmpgt (tgt := 62) dX10_isEnrolment_39 (by decide) rfl (fun c4 => ?_) (fun c4 => ?_)
        · replace hF := ite_p hF c4
          try replace hQ := ite_q hQ c4
          refine g_iconst (v := 0) dX10_isEnrolment_62 (by decide) rfl ?_
          subst hF
          exact g_zret rfl dX10_isEnrolment_63 (by decide) (Nat.le_of_ble_eq_true rfl) (Nat.le_of_ble_eq_true rfl) ⟨rfl, rfl⟩
        · replace hF := ite_n hF c4
          try replace hQ := ite_r hQ c4
          refine g_aload_n dX10_isEnrolment_42 rfl rfl rfl ?_
          refine g_get gClX10 25 (by decide) fl_X10_79 dX10_isEnrolment_43 (ho_199 _ _) rfl rfl ?_
          refine g_bipush (v := 20) dX10_isEnrolment_46 (by decide) rfl ?_
          refine g_bipush (v := 18) dX10_isEnrolment_48 (by decide) rfl ?_
          refine g_aload_n dX10_isEnrolment_50 rfl rfl rfl ?_
          refine g_get gClX10 24 (by decide) fl_X10_57 dX10_isEnrolment_51 (ho_199 _ _) rfl rfl ?_
          refine g_bipush (v := 19) dX10_isEnrolment_54 (by decide) rfl ?_
          refine g_bald (ha_215 _ _) (vinc (by decide)) dX10_isEnrolment_56 rfl ?_
          refine g_imul dX10_isEnrolment_57 rfl ?_
          refine g_iadd dX10_isEnrolment_58 rfl ?_
          refine g_icmpeq (tgt := 64) dX10_isEnrolment_59 (by decide) rfl (fun c5 => ?_) (fun c5 => ?_)
          · replace hF := ite_p hF c5
            try replace hQ := ite_q hQ c5
            refine g_iconst (v := 1) dX10_isEnrolment_64 (by decide) rfl ?_
            refine g_istoreL_n (L1 := [(0, _), (1, _)]) dX10_isEnrolment_65 rfl (by decide) rfl rfl ?_
            refine g_iconst (v := 0) dX10_isEnrolment_66 (by decide) rfl ?_
            refine g_istoreL_n (L1 := [(0, _), (1, _), (2, _)]) dX10_isEnrolment_67 rfl (by decide) rfl rfl ?_
            refine g_sub [0, 1, 2] rfl ?_
            exact t_X10_isEnrolment_L68 l g 4000 _ _ hQ hF
          · replace hF := ite_n hF c5
            try replace hQ := ite_r hQ c5
            refine g_iconst (v := 0) dX10_isEnrolment_62 (by decide) rfl ?_
            subst hF
            exact g_zret rfl dX10_isEnrolment_63 (by decide) (Nat.le_of_ble_eq_true rfl) (Nat.le_of_ble_eq_true rfl) ⟨rfl, rfl⟩
noncomputable def Fr_X10_sizeOf (p0 : Int32) : Int32 :=
  if p0 = 0 then
    (41 : Int32)
  else
    (39 : Int32)
noncomputable def F_X10_sizeOf : Int32 → Int32 := Classical.choose (⟨Fr_X10_sizeOf, rfl⟩ : ∃ f : Int32 → Int32, f = Fr_X10_sizeOf)
theorem F_X10_sizeOf_eq : F_X10_sizeOf = Fr_X10_sizeOf := Classical.choose_spec (⟨Fr_X10_sizeOf, rfl⟩ : ∃ f : Int32 → Int32, f = Fr_X10_sizeOf)
set_option maxHeartbeats 4000000 in
set_option maxRecDepth 100000 in
theorem c_X10_sizeOf (l : Launch) (g : gE)  {σ : gS} {ζ : gQ} (p0 : Int32) : gC l g mX10_sizeOf (rm 0 0) [.int p0] (hp σ ζ) (fun r h => r = some (.int (F_X10_sizeOf p0)) ∧ h = hp σ ζ) := by
  refine gC_of (by decide) (Nat.le_of_ble_eq_true rfl) ?_
  generalize hF : (F_X10_sizeOf p0) = fr
  rw [F_X10_sizeOf_eq] at hF
  unfold Fr_X10_sizeOf at hF
  refine g_iload_n dX10_sizeOf_0 rfl rfl rfl ?_
  refine g_ifne (tgt := 9) dX10_sizeOf_1 (by decide) rfl (fun c1 => ?_) (fun c1 => ?_)
  · replace hF := ite_n hF c1
    refine g_bipush (v := 39) dX10_sizeOf_9 (by decide) rfl ?_
    subst hF
    exact g_iret rfl dX10_sizeOf_11 (Nat.le_of_ble_eq_true rfl) (Nat.le_of_ble_eq_true rfl) ⟨rfl, rfl⟩
  · replace hF := ite_p hF c1
    refine g_bipush (v := 41) dX10_sizeOf_4 (by decide) rfl ?_
    refine g_goto (tgt := 11) dX10_sizeOf_6 (by decide) ?_
    subst hF
    exact g_iret rfl dX10_sizeOf_11 (Nat.le_of_ble_eq_true rfl) (Nat.le_of_ble_eq_true rfl) ⟨rfl, rfl⟩
noncomputable def G_X10_field_L6 (p0 : Int32) (p1 : Int32) (p2 : Int32) (p3 : Int32) (σ : gS) : Nat → Int64 → Int32 → Int64
  | 0, _, _ => 0
  | n + 1, y5, y7 =>
    if (p2 + p3) ≤ y7 then
      y5
    else
      let v3 := ((y5 <<< ((8 : Int32).toInt64 &&& 63)) ||| ((σ 210 (ix (((48 : Int32) * (((4 : Int32) * p0) + p1)) + y7))).toInt64 &&& (255 : Int64)))
      G_X10_field_L6 p0 p1 p2 p3 σ n v3 (y7 + Int32.ofInt (1))
def QG_X10_field_L6 (p0 : Int32) (p1 : Int32) (p2 : Int32) (p3 : Int32) (σ : gS) : Nat → Int64 → Int32 → Prop
  | 0, _, _ => False
  | n + 1, y5, y7 =>
    if (p2 + p3) ≤ y7 then
      (True)
    else
      (vp_in (((48 : Int32) * (((4 : Int32) * p0) + p1)) + y7) 3072 ∧ (let v3 := ((y5 <<< ((8 : Int32).toInt64 &&& 63)) ||| ((σ 210 (ix (((48 : Int32) * (((4 : Int32) * p0) + p1)) + y7))).toInt64 &&& (255 : Int64)))
      QG_X10_field_L6 p0 p1 p2 p3 σ n v3 (y7 + Int32.ofInt (1))))
set_option maxHeartbeats 4000000 in
set_option maxRecDepth 100000 in
theorem t_X10_field_L6 (l : Launch) (g : gE) {p0 : Int32} {p1 : Int32} {p2 : Int32} {p3 : Int32} {σ : gS} {ζ : gQ} {fr : Int64} : ∀ (n : Nat) (y5 : Int64) (y7 : Int32), QG_X10_field_L6 p0 p1 p2 p3 σ n y5 y7 → G_X10_field_L6 p0 p1 p2 p3 σ n y5 y7 = fr → gG l g mX10_field (rm 0 0) (gZm g (rm 0 0) (fun r h => r = some (.long fr) ∧ h = hp σ ζ)) 6 [(0, .ref 199), (1, .int p0), (2, .int p1), (3, .int p2), (4, .int p3), (5, .long y5), (7, .int y7)] [] (hp σ ζ) 0 0 := by
  intro n
  induction n with
  | zero => intro y5 y7 hQ; exact absurd hQ (by unfold QG_X10_field_L6; exact id)
  | succ n ihL6 =>
    intro y5 y7 hQ hF
    unfold G_X10_field_L6 at hF
    unfold QG_X10_field_L6 at hQ
    refine g_iload dX10_field_6 rfl rfl ?_
    refine g_iload_n dX10_field_8 rfl rfl rfl ?_
    refine g_iload dX10_field_9 rfl rfl ?_
    refine g_iadd dX10_field_11 rfl ?_
    refine g_icmpge (tgt := 50) dX10_field_12 (by decide) rfl (fun c1 => ?_) (fun c1 => ?_)
    · replace hF := ite_p hF c1
      try replace hQ := ite_q hQ c1
      refine g_lload dX10_field_50 rfl rfl ?_
      subst hF
      exact g_lret rfl dX10_field_52 (Nat.le_of_ble_eq_true rfl) (Nat.le_of_ble_eq_true rfl) ⟨rfl, rfl⟩
    · replace hF := ite_n hF c1
      try replace hQ := ite_r hQ c1
      refine g_lload dX10_field_15 rfl rfl ?_
      refine g_bipush (v := 8) dX10_field_17 (by decide) rfl ?_
      refine g_lshl dX10_field_19 rfl ?_
      refine g_aload_n dX10_field_20 rfl rfl rfl ?_
      refine g_get gClX10 12 (by decide) fl_X10_41 dX10_field_21 (ho_199 _ _) rfl rfl ?_
      refine g_bipush (v := 48) dX10_field_24 (by decide) rfl ?_
      refine g_iconst (v := 4) dX10_field_26 (by decide) rfl ?_
      refine g_iload_n dX10_field_27 rfl rfl rfl ?_
      refine g_imul dX10_field_28 rfl ?_
      refine g_iload_n dX10_field_29 rfl rfl rfl ?_
      refine g_iadd dX10_field_30 rfl ?_
      refine g_imul dX10_field_31 rfl ?_
      refine g_iload dX10_field_32 rfl rfl ?_
      refine g_iadd dX10_field_34 rfl ?_
      have o2 := hQ.1
      replace hQ := hQ.2
      refine g_bald (ha_210 _ _) o2 dX10_field_35 rfl ?_
      refine g_i2l dX10_field_36 rfl ?_
      refine g_ldc2 kl_X10_161 dX10_field_37 rfl ?_
      refine g_land dX10_field_40 rfl ?_
      refine g_lor dX10_field_41 rfl ?_
      refine g_lstoreL (L1 := [(0, _), (1, _), (2, _), (3, _), (4, _), (5, _), (7, _)]) dX10_field_42 (by decide) rfl rfl ?_
      refine g_iincL (L1 := [(0, _), (1, _), (2, _), (3, _), (4, _), (5, _), (7, _)]) dX10_field_44 rfl (by decide) rfl rfl ?_
      refine g_goto (tgt := 6) dX10_field_47 (by decide) ?_
      refine g_sub [0, 1, 2, 3, 4, 5, 6] rfl ?_
      exact ihL6 _ _ hQ hF
noncomputable def Fr_X10_field (σ : gS) (p0 : Int32) (p1 : Int32) (p2 : Int32) (p3 : Int32) : Int64 :=
  G_X10_field_L6 p0 p1 p2 p3 σ 4000 (0 : Int64) p2
noncomputable def F_X10_field : gS → Int32 → Int32 → Int32 → Int32 → Int64 := Classical.choose (⟨Fr_X10_field, rfl⟩ : ∃ f : gS → Int32 → Int32 → Int32 → Int32 → Int64, f = Fr_X10_field)
theorem F_X10_field_eq : F_X10_field = Fr_X10_field := Classical.choose_spec (⟨Fr_X10_field, rfl⟩ : ∃ f : gS → Int32 → Int32 → Int32 → Int32 → Int64, f = Fr_X10_field)
def Q_X10_field (σ : gS) (p0 : Int32) (p1 : Int32) (p2 : Int32) (p3 : Int32) : Prop :=
  QG_X10_field_L6 p0 p1 p2 p3 σ 4000 (0 : Int64) p2
set_option maxHeartbeats 4000000 in
set_option maxRecDepth 100000 in
theorem c_X10_field (l : Launch) (g : gE)  {σ : gS} {ζ : gQ} (p0 : Int32) (p1 : Int32) (p2 : Int32) (p3 : Int32) (hQ : Q_X10_field σ p0 p1 p2 p3) : gC l g mX10_field (rm 0 0) [.ref 199, .int p0, .int p1, .int p2, .int p3] (hp σ ζ) (fun r h => r = some (.long (F_X10_field σ p0 p1 p2 p3)) ∧ h = hp σ ζ) := by
  refine gC_of (by decide) (Nat.le_of_ble_eq_true rfl) ?_
  generalize hF : (F_X10_field σ p0 p1 p2 p3) = fr
  rw [F_X10_field_eq] at hF
  unfold Fr_X10_field at hF
  unfold Q_X10_field at hQ
  refine g_lconst (v := 0) dX10_field_0 (by decide) rfl ?_
  refine g_lstoreL (L1 := [(0, _), (1, _), (2, _), (3, _), (4, _), (5, _)]) dX10_field_1 (by decide) rfl rfl ?_
  refine g_iload_n dX10_field_3 rfl rfl rfl ?_
  refine g_istoreL (L1 := [(0, _), (1, _), (2, _), (3, _), (4, _), (5, _), (7, _)]) dX10_field_4 (by decide) rfl rfl ?_
  refine g_sub [0, 1, 2, 3, 4, 5, 6] rfl ?_
  exact t_X10_field_L6 l g 4000 _ _ hQ hF
noncomputable def G_X10_keyOf_L2 (p0 : Int64) (σ : gS) : Nat → Int32 → Int32
  | 0, _ => 0
  | n + 1, y3 =>
    if (σ 199 17) ≤ y3 then
      (-1 : Int32)
    else
      if (lg_cmp (σ 213 (ix y3)).toInt64 p0) = 0 then
        y3
      else
        G_X10_keyOf_L2 p0 σ n (y3 + Int32.ofInt (1))
def QG_X10_keyOf_L2 (p0 : Int64) (σ : gS) : Nat → Int32 → Prop
  | 0, _ => False
  | n + 1, y3 =>
    if (σ 199 17) ≤ y3 then
      (True)
    else
      (vp_in y3 7 ∧ (if (lg_cmp (σ 213 (ix y3)).toInt64 p0) = 0 then
        (True)
      else
        (QG_X10_keyOf_L2 p0 σ n (y3 + Int32.ofInt (1)))))
set_option maxHeartbeats 4000000 in
set_option maxRecDepth 100000 in
theorem t_X10_keyOf_L2 (l : Launch) (g : gE) {p0 : Int64} {σ : gS} {ζ : gQ} {fr : Int32} : ∀ (n : Nat) (y3 : Int32), QG_X10_keyOf_L2 p0 σ n y3 → G_X10_keyOf_L2 p0 σ n y3 = fr → gG l g mX10_keyOf (rm 0 0) (gZm g (rm 0 0) (fun r h => r = some (.int fr) ∧ h = hp σ ζ)) 2 [(0, .ref 199), (1, .long p0), (3, .int y3)] [] (hp σ ζ) 0 0 := by
  intro n
  induction n with
  | zero => intro y3 hQ; exact absurd hQ (by unfold QG_X10_keyOf_L2; exact id)
  | succ n ihL2 =>
    intro y3 hQ hF
    unfold G_X10_keyOf_L2 at hF
    unfold QG_X10_keyOf_L2 at hQ
    refine g_iload_n dX10_keyOf_2 rfl rfl rfl ?_
    refine g_aload_n dX10_keyOf_3 rfl rfl rfl ?_
    refine g_get gClX10 17 (by decide) fl_X10_163 dX10_keyOf_4 (ho_199 _ _) rfl rfl ?_
    refine g_icmpge (tgt := 30) dX10_keyOf_7 (by decide) rfl (fun c1 => ?_) (fun c1 => ?_)
    · replace hF := ite_p hF c1
      try replace hQ := ite_q hQ c1
      refine g_iconst (v := (-1)) dX10_keyOf_30 (by decide) rfl ?_
      subst hF
      exact g_iret rfl dX10_keyOf_31 (Nat.le_of_ble_eq_true rfl) (Nat.le_of_ble_eq_true rfl) ⟨rfl, rfl⟩
    · replace hF := ite_n hF c1
      try replace hQ := ite_r hQ c1
      refine g_aload_n dX10_keyOf_10 rfl rfl rfl ?_
      refine g_get gClX10 15 (by decide) fl_X10_51 dX10_keyOf_11 (ho_199 _ _) rfl rfl ?_
      refine g_iload_n dX10_keyOf_14 rfl rfl rfl ?_
      have o2 := hQ.1
      replace hQ := hQ.2
      refine g_iald (ha_213 _ _) o2 dX10_keyOf_15 rfl ?_
      refine g_i2l dX10_keyOf_16 rfl ?_
      refine g_lload_n dX10_keyOf_17 rfl rfl rfl ?_
      refine g_lcmp dX10_keyOf_18 rfl ?_
      refine g_ifne (tgt := 24) dX10_keyOf_19 (by decide) rfl (fun c3 => ?_) (fun c3 => ?_)
      · replace hF := ite_n hF c3
        try replace hQ := ite_r hQ c3
        refine g_iincL (L1 := [(0, _), (1, _), (3, _)]) dX10_keyOf_24 rfl (by decide) rfl rfl ?_
        refine g_goto (tgt := 2) dX10_keyOf_27 (by decide) ?_
        refine g_sub [0, 1, 2] rfl ?_
        exact ihL2 _ hQ hF
      · replace hF := ite_p hF c3
        try replace hQ := ite_q hQ c3
        refine g_iload_n dX10_keyOf_22 rfl rfl rfl ?_
        subst hF
        exact g_iret rfl dX10_keyOf_23 (Nat.le_of_ble_eq_true rfl) (Nat.le_of_ble_eq_true rfl) ⟨rfl, rfl⟩
noncomputable def Fr_X10_keyOf (σ : gS) (p0 : Int64) : Int32 :=
  G_X10_keyOf_L2 p0 σ 4000 (0 : Int32)
noncomputable def F_X10_keyOf : gS → Int64 → Int32 := Classical.choose (⟨Fr_X10_keyOf, rfl⟩ : ∃ f : gS → Int64 → Int32, f = Fr_X10_keyOf)
theorem F_X10_keyOf_eq : F_X10_keyOf = Fr_X10_keyOf := Classical.choose_spec (⟨Fr_X10_keyOf, rfl⟩ : ∃ f : gS → Int64 → Int32, f = Fr_X10_keyOf)
def Q_X10_keyOf (σ : gS) (p0 : Int64) : Prop :=
  QG_X10_keyOf_L2 p0 σ 4000 (0 : Int32)
set_option maxHeartbeats 4000000 in
set_option maxRecDepth 100000 in
theorem c_X10_keyOf (l : Launch) (g : gE)  {σ : gS} {ζ : gQ} (p0 : Int64) (hQ : Q_X10_keyOf σ p0) : gC l g mX10_keyOf (rm 0 0) [.ref 199, .long p0] (hp σ ζ) (fun r h => r = some (.int (F_X10_keyOf σ p0)) ∧ h = hp σ ζ) := by
  refine gC_of (by decide) (Nat.le_of_ble_eq_true rfl) ?_
  generalize hF : (F_X10_keyOf σ p0) = fr
  rw [F_X10_keyOf_eq] at hF
  unfold Fr_X10_keyOf at hF
  unfold Q_X10_keyOf at hQ
  refine g_iconst (v := 0) dX10_keyOf_0 (by decide) rfl ?_
  refine g_istoreL_n (L1 := [(0, _), (1, _), (3, _)]) dX10_keyOf_1 rfl (by decide) rfl rfl ?_
  refine g_sub [0, 1, 2] rfl ?_
  exact t_X10_keyOf_L2 l g 4000 _ hQ hF
noncomputable def Fr_X10_isNotAbove (p0 : Int64) (p1 : Int32) (p2 : Int32) : Int32 :=
  let v1 := (p0 &&& (16777215 : Int64))
  let v2 := (((2 : Int64) * v1) * (ushl p0 (24 : Int32)))
  let v3 := ((ushl p0 (24 : Int32)) * (ushl p0 (24 : Int32)))
  let v4 := (v2 + (ushl (v1 * v1) (24 : Int32)))
  let v5 := ((v1 * v1) &&& (16777215 : Int64))
  let v6 := (v3 + (ushl v4 (24 : Int32)))
  let v7 := (v4 &&& (16777215 : Int64))
  if p2 = 0 then
    if (lg_cmp v6 (p1.toInt64 * (65536 : Int64))) < 0 then
      (1 : Int32)
    else
      if (lg_cmp v6 (p1.toInt64 * (65536 : Int64))) = 0 then
        if (lg_cmp v7 (0 : Int64)) = 0 then
          if (lg_cmp v5 (0 : Int64)) = 0 then
            (1 : Int32)
          else
            (0 : Int32)
        else
          (0 : Int32)
      else
        (0 : Int32)
  else
    let v9 := ((v5 * (ushl p0 (24 : Int32))) + (v7 * v1))
    let v10 := ((v7 * (ushl p0 (24 : Int32))) + ((v6 &&& (16777215 : Int64)) * v1))
    let v11 := (((v6 &&& (16777215 : Int64)) * (ushl p0 (24 : Int32))) + ((ushl v6 (24 : Int32)) * v1))
    let v12 := ((ushl v6 (24 : Int32)) * (ushl p0 (24 : Int32)))
    let v13 := (v9 + (ushl (v5 * v1) (24 : Int32)))
    let v14 := ((v5 * v1) &&& (16777215 : Int64))
    let v15 := (v10 + (ushl v13 (24 : Int32)))
    let v16 := (v13 &&& (16777215 : Int64))
    let v17 := (v11 + (ushl v15 (24 : Int32)))
    let v18 := (v15 &&& (16777215 : Int64))
    let v19 := (v12 + (ushl v17 (24 : Int32)))
    let v20 := (v17 &&& (16777215 : Int64))
    if (lg_cmp v19 p1.toInt64) < 0 then
      (1 : Int32)
    else
      if (lg_cmp v19 p1.toInt64) = 0 then
        if (lg_cmp v20 (0 : Int64)) = 0 then
          if (lg_cmp v18 (0 : Int64)) = 0 then
            if (lg_cmp v16 (0 : Int64)) = 0 then
              if (lg_cmp v14 (0 : Int64)) = 0 then
                (1 : Int32)
              else
                (0 : Int32)
            else
              (0 : Int32)
          else
            (0 : Int32)
        else
          (0 : Int32)
      else
        (0 : Int32)
noncomputable def F_X10_isNotAbove : Int64 → Int32 → Int32 → Int32 := Classical.choose (⟨Fr_X10_isNotAbove, rfl⟩ : ∃ f : Int64 → Int32 → Int32 → Int32, f = Fr_X10_isNotAbove)
theorem F_X10_isNotAbove_eq : F_X10_isNotAbove = Fr_X10_isNotAbove := Classical.choose_spec (⟨Fr_X10_isNotAbove, rfl⟩ : ∃ f : Int64 → Int32 → Int32 → Int32, f = Fr_X10_isNotAbove)
set_option maxHeartbeats 4000000 in
set_option maxRecDepth 100000 in
theorem c_X10_isNotAbove (l : Launch) (g : gE)  {σ : gS} {ζ : gQ} (p0 : Int64) (p1 : Int32) (p2 : Int32) : gC l g mX10_isNotAbove (rm 0 0) [.long p0, .int p1, .int p2] (hp σ ζ) (fun r h => r = some (.int (F_X10_isNotAbove p0 p1 p2)) ∧ h = hp σ ζ) := by
  refine gC_of (by decide) (Nat.le_of_ble_eq_true rfl) ?_
  generalize hF : (F_X10_isNotAbove p0 p1 p2) = fr
  rw [F_X10_isNotAbove_eq] at hF
  unfold Fr_X10_isNotAbove at hF
  refine g_lload_n dX10_isNotAbove_0 rfl rfl rfl ?_
  refine g_ldc2 kl_X10_120 dX10_isNotAbove_1 rfl ?_
  refine g_land dX10_isNotAbove_4 rfl ?_
  refine g_lstoreL (L1 := [(0, _), (2, _), (3, _), (4, _)]) dX10_isNotAbove_5 (by decide) rfl rfl ?_
  refine g_lload_n dX10_isNotAbove_7 rfl rfl rfl ?_
  refine g_bipush (v := 24) dX10_isNotAbove_8 (by decide) rfl ?_
  refine g_lushr dX10_isNotAbove_10 rfl ?_
  refine g_lstoreL (L1 := [(0, _), (2, _), (3, _), (4, _), (6, _)]) dX10_isNotAbove_11 (by decide) rfl rfl ?_
  refine g_lload dX10_isNotAbove_13 rfl rfl ?_
  refine g_lload dX10_isNotAbove_15 rfl rfl ?_
  refine g_lmul dX10_isNotAbove_17 rfl ?_
  refine g_lstoreL (L1 := [(0, _), (2, _), (3, _), (4, _), (6, _), (8, _)]) dX10_isNotAbove_18 (by decide) rfl rfl ?_
  refine g_ldc2 kl_X10_122 dX10_isNotAbove_20 rfl ?_
  refine g_lload dX10_isNotAbove_23 rfl rfl ?_
  refine g_lmul dX10_isNotAbove_25 rfl ?_
  refine g_lload dX10_isNotAbove_26 rfl rfl ?_
  refine g_lmul dX10_isNotAbove_28 rfl ?_
  refine g_lstoreL (L1 := [(0, _), (2, _), (3, _), (4, _), (6, _), (8, _), (10, _)]) dX10_isNotAbove_29 (by decide) rfl rfl ?_
  refine g_lload dX10_isNotAbove_31 rfl rfl ?_
  refine g_lload dX10_isNotAbove_33 rfl rfl ?_
  refine g_lmul dX10_isNotAbove_35 rfl ?_
  refine g_lstoreL (L1 := [(0, _), (2, _), (3, _), (4, _), (6, _), (8, _), (10, _), (12, _)]) dX10_isNotAbove_36 (by decide) rfl rfl ?_
  refine g_lload dX10_isNotAbove_38 rfl rfl ?_
  refine g_lload dX10_isNotAbove_40 rfl rfl ?_
  refine g_bipush (v := 24) dX10_isNotAbove_42 (by decide) rfl ?_
  refine g_lushr dX10_isNotAbove_44 rfl ?_
  refine g_ladd dX10_isNotAbove_45 rfl ?_
  refine g_lstoreL (L1 := [(0, _), (2, _), (3, _), (4, _), (6, _), (8, _), (10, _), (12, _)]) dX10_isNotAbove_46 (by decide) rfl rfl ?_
  refine g_lload dX10_isNotAbove_48 rfl rfl ?_
  refine g_ldc2 kl_X10_120 dX10_isNotAbove_50 rfl ?_
  refine g_land dX10_isNotAbove_53 rfl ?_
  refine g_lstoreL (L1 := [(0, _), (2, _), (3, _), (4, _), (6, _), (8, _), (10, _), (12, _)]) dX10_isNotAbove_54 (by decide) rfl rfl ?_
  refine g_lload dX10_isNotAbove_56 rfl rfl ?_
  refine g_lload dX10_isNotAbove_58 rfl rfl ?_
  refine g_bipush (v := 24) dX10_isNotAbove_60 (by decide) rfl ?_
  refine g_lushr dX10_isNotAbove_62 rfl ?_
  refine g_ladd dX10_isNotAbove_63 rfl ?_
  refine g_lstoreL (L1 := [(0, _), (2, _), (3, _), (4, _), (6, _), (8, _), (10, _), (12, _)]) dX10_isNotAbove_64 (by decide) rfl rfl ?_
  refine g_lload dX10_isNotAbove_66 rfl rfl ?_
  refine g_ldc2 kl_X10_120 dX10_isNotAbove_68 rfl ?_
  refine g_land dX10_isNotAbove_71 rfl ?_
  refine g_lstoreL (L1 := [(0, _), (2, _), (3, _), (4, _), (6, _), (8, _), (10, _), (12, _)]) dX10_isNotAbove_72 (by decide) rfl rfl ?_
  refine g_iload_n dX10_isNotAbove_74 rfl rfl rfl ?_
  refine g_ifne (tgt := 122) dX10_isNotAbove_75 (by decide) rfl (fun c8 => ?_) (fun c8 => ?_)
  · replace hF := ite_n hF c8
    refine g_lload dX10_isNotAbove_122 rfl rfl ?_
    refine g_lload dX10_isNotAbove_124 rfl rfl ?_
    refine g_lmul dX10_isNotAbove_126 rfl ?_
    refine g_lstoreL (L1 := [(0, _), (2, _), (3, _), (4, _), (6, _), (8, _), (10, _), (12, _), (14, _)]) dX10_isNotAbove_127 (by decide) rfl rfl ?_
    refine g_lload dX10_isNotAbove_129 rfl rfl ?_
    refine g_lload dX10_isNotAbove_131 rfl rfl ?_
    refine g_lmul dX10_isNotAbove_133 rfl ?_
    refine g_lload dX10_isNotAbove_134 rfl rfl ?_
    refine g_lload dX10_isNotAbove_136 rfl rfl ?_
    refine g_lmul dX10_isNotAbove_138 rfl ?_
    refine g_ladd dX10_isNotAbove_139 rfl ?_
    refine g_lstoreL (L1 := [(0, _), (2, _), (3, _), (4, _), (6, _), (8, _), (10, _), (12, _), (14, _), (16, _)]) dX10_isNotAbove_140 (by decide) rfl rfl ?_
    refine g_lload dX10_isNotAbove_142 rfl rfl ?_
    refine g_lload dX10_isNotAbove_144 rfl rfl ?_
    refine g_lmul dX10_isNotAbove_146 rfl ?_
    refine g_lload dX10_isNotAbove_147 rfl rfl ?_
    refine g_ldc2 kl_X10_120 dX10_isNotAbove_149 rfl ?_
    refine g_land dX10_isNotAbove_152 rfl ?_
    refine g_lload dX10_isNotAbove_153 rfl rfl ?_
    refine g_lmul dX10_isNotAbove_155 rfl ?_
    refine g_ladd dX10_isNotAbove_156 rfl ?_
    refine g_lstoreL (L1 := [(0, _), (2, _), (3, _), (4, _), (6, _), (8, _), (10, _), (12, _), (14, _), (16, _), (18, _)]) dX10_isNotAbove_157 (by decide) rfl rfl ?_
    refine g_lload dX10_isNotAbove_159 rfl rfl ?_
    refine g_ldc2 kl_X10_120 dX10_isNotAbove_161 rfl ?_
    refine g_land dX10_isNotAbove_164 rfl ?_
    refine g_lload dX10_isNotAbove_165 rfl rfl ?_
    refine g_lmul dX10_isNotAbove_167 rfl ?_
    refine g_lload dX10_isNotAbove_168 rfl rfl ?_
    refine g_bipush (v := 24) dX10_isNotAbove_170 (by decide) rfl ?_
    refine g_lushr dX10_isNotAbove_172 rfl ?_
    refine g_lload dX10_isNotAbove_173 rfl rfl ?_
    refine g_lmul dX10_isNotAbove_175 rfl ?_
    refine g_ladd dX10_isNotAbove_176 rfl ?_
    refine g_lstoreL (L1 := [(0, _), (2, _), (3, _), (4, _), (6, _), (8, _), (10, _), (12, _), (14, _), (16, _), (18, _), (20, _)]) dX10_isNotAbove_177 (by decide) rfl rfl ?_
    refine g_lload dX10_isNotAbove_179 rfl rfl ?_
    refine g_bipush (v := 24) dX10_isNotAbove_181 (by decide) rfl ?_
    refine g_lushr dX10_isNotAbove_183 rfl ?_
    refine g_lload dX10_isNotAbove_184 rfl rfl ?_
    refine g_lmul dX10_isNotAbove_186 rfl ?_
    refine g_lstoreL (L1 := [(0, _), (2, _), (3, _), (4, _), (6, _), (8, _), (10, _), (12, _), (14, _), (16, _), (18, _), (20, _), (22, _)]) dX10_isNotAbove_187 (by decide) rfl rfl ?_
    refine g_lload dX10_isNotAbove_189 rfl rfl ?_
    refine g_lload dX10_isNotAbove_191 rfl rfl ?_
    refine g_bipush (v := 24) dX10_isNotAbove_193 (by decide) rfl ?_
    refine g_lushr dX10_isNotAbove_195 rfl ?_
    refine g_ladd dX10_isNotAbove_196 rfl ?_
    refine g_lstoreL (L1 := [(0, _), (2, _), (3, _), (4, _), (6, _), (8, _), (10, _), (12, _), (14, _), (16, _), (18, _), (20, _), (22, _)]) dX10_isNotAbove_197 (by decide) rfl rfl ?_
    refine g_lload dX10_isNotAbove_199 rfl rfl ?_
    refine g_ldc2 kl_X10_120 dX10_isNotAbove_201 rfl ?_
    refine g_land dX10_isNotAbove_204 rfl ?_
    refine g_lstoreL (L1 := [(0, _), (2, _), (3, _), (4, _), (6, _), (8, _), (10, _), (12, _), (14, _), (16, _), (18, _), (20, _), (22, _)]) dX10_isNotAbove_205 (by decide) rfl rfl ?_
    refine g_lload dX10_isNotAbove_207 rfl rfl ?_
    refine g_lload dX10_isNotAbove_209 rfl rfl ?_
    refine g_bipush (v := 24) dX10_isNotAbove_211 (by decide) rfl ?_
    refine g_lushr dX10_isNotAbove_213 rfl ?_
    refine g_ladd dX10_isNotAbove_214 rfl ?_
    refine g_lstoreL (L1 := [(0, _), (2, _), (3, _), (4, _), (6, _), (8, _), (10, _), (12, _), (14, _), (16, _), (18, _), (20, _), (22, _)]) dX10_isNotAbove_215 (by decide) rfl rfl ?_
    refine g_lload dX10_isNotAbove_217 rfl rfl ?_
    refine g_ldc2 kl_X10_120 dX10_isNotAbove_219 rfl ?_
    refine g_land dX10_isNotAbove_222 rfl ?_
    refine g_lstoreL (L1 := [(0, _), (2, _), (3, _), (4, _), (6, _), (8, _), (10, _), (12, _), (14, _), (16, _), (18, _), (20, _), (22, _)]) dX10_isNotAbove_223 (by decide) rfl rfl ?_
    refine g_lload dX10_isNotAbove_225 rfl rfl ?_
    refine g_lload dX10_isNotAbove_227 rfl rfl ?_
    refine g_bipush (v := 24) dX10_isNotAbove_229 (by decide) rfl ?_
    refine g_lushr dX10_isNotAbove_231 rfl ?_
    refine g_ladd dX10_isNotAbove_232 rfl ?_
    refine g_lstoreL (L1 := [(0, _), (2, _), (3, _), (4, _), (6, _), (8, _), (10, _), (12, _), (14, _), (16, _), (18, _), (20, _), (22, _)]) dX10_isNotAbove_233 (by decide) rfl rfl ?_
    refine g_lload dX10_isNotAbove_235 rfl rfl ?_
    refine g_ldc2 kl_X10_120 dX10_isNotAbove_237 rfl ?_
    refine g_land dX10_isNotAbove_240 rfl ?_
    refine g_lstoreL (L1 := [(0, _), (2, _), (3, _), (4, _), (6, _), (8, _), (10, _), (12, _), (14, _), (16, _), (18, _), (20, _), (22, _)]) dX10_isNotAbove_241 (by decide) rfl rfl ?_
    refine g_lload dX10_isNotAbove_243 rfl rfl ?_
    refine g_lload dX10_isNotAbove_245 rfl rfl ?_
    refine g_bipush (v := 24) dX10_isNotAbove_247 (by decide) rfl ?_
    refine g_lushr dX10_isNotAbove_249 rfl ?_
    refine g_ladd dX10_isNotAbove_250 rfl ?_
    refine g_lstoreL (L1 := [(0, _), (2, _), (3, _), (4, _), (6, _), (8, _), (10, _), (12, _), (14, _), (16, _), (18, _), (20, _), (22, _)]) dX10_isNotAbove_251 (by decide) rfl rfl ?_
    refine g_lload dX10_isNotAbove_253 rfl rfl ?_
    refine g_ldc2 kl_X10_120 dX10_isNotAbove_255 rfl ?_
    refine g_land dX10_isNotAbove_258 rfl ?_
    refine g_lstoreL (L1 := [(0, _), (2, _), (3, _), (4, _), (6, _), (8, _), (10, _), (12, _), (14, _), (16, _), (18, _), (20, _), (22, _)]) dX10_isNotAbove_259 (by decide) rfl rfl ?_
    refine g_lload dX10_isNotAbove_261 rfl rfl ?_
    refine g_iload_n dX10_isNotAbove_263 rfl rfl rfl ?_
    refine g_i2l dX10_isNotAbove_264 rfl ?_
    refine g_lcmp dX10_isNotAbove_265 rfl ?_
    refine g_iflt (tgt := 305) dX10_isNotAbove_266 (by decide) rfl (fun c21 => ?_) (fun c21 => ?_)
    · replace hF := ite_p hF c21
      refine g_iconst (v := 1) dX10_isNotAbove_305 (by decide) rfl ?_
      refine g_goto (tgt := 310) dX10_isNotAbove_306 (by decide) ?_
      subst hF
      exact g_zret rfl dX10_isNotAbove_310 (by decide) (Nat.le_of_ble_eq_true rfl) (Nat.le_of_ble_eq_true rfl) ⟨rfl, rfl⟩
    · replace hF := ite_n hF c21
      refine g_lload dX10_isNotAbove_269 rfl rfl ?_
      refine g_iload_n dX10_isNotAbove_271 rfl rfl rfl ?_
      refine g_i2l dX10_isNotAbove_272 rfl ?_
      refine g_lcmp dX10_isNotAbove_273 rfl ?_
      refine g_ifne (tgt := 309) dX10_isNotAbove_274 (by decide) rfl (fun c22 => ?_) (fun c22 => ?_)
      · replace hF := ite_n hF c22
        refine g_iconst (v := 0) dX10_isNotAbove_309 (by decide) rfl ?_
        subst hF
        exact g_zret rfl dX10_isNotAbove_310 (by decide) (Nat.le_of_ble_eq_true rfl) (Nat.le_of_ble_eq_true rfl) ⟨rfl, rfl⟩
      · replace hF := ite_p hF c22
        refine g_lload dX10_isNotAbove_277 rfl rfl ?_
        refine g_lconst (v := 0) dX10_isNotAbove_279 (by decide) rfl ?_
        refine g_lcmp dX10_isNotAbove_280 rfl ?_
        refine g_ifne (tgt := 309) dX10_isNotAbove_281 (by decide) rfl (fun c23 => ?_) (fun c23 => ?_)
        · replace hF := ite_n hF c23
          refine g_iconst (v := 0) dX10_isNotAbove_309 (by decide) rfl ?_
          subst hF
          exact g_zret rfl dX10_isNotAbove_310 (by decide) (Nat.le_of_ble_eq_true rfl) (Nat.le_of_ble_eq_true rfl) ⟨rfl, rfl⟩
        · replace hF := ite_p hF c23
          refine g_lload dX10_isNotAbove_284 rfl rfl ?_
          refine g_lconst (v := 0) dX10_isNotAbove_286 (by decide) rfl ?_
          refine g_lcmp dX10_isNotAbove_287 rfl ?_
          refine g_ifne (tgt := 309) dX10_isNotAbove_288 (by decide) rfl (fun c24 => ?_) (fun c24 => ?_)
          · replace hF := ite_n hF c24
            refine g_iconst (v := 0) dX10_isNotAbove_309 (by decide) rfl ?_
            subst hF
            exact g_zret rfl dX10_isNotAbove_310 (by decide) (Nat.le_of_ble_eq_true rfl) (Nat.le_of_ble_eq_true rfl) ⟨rfl, rfl⟩
          · replace hF := ite_p hF c24
            refine g_lload dX10_isNotAbove_291 rfl rfl ?_
            refine g_lconst (v := 0) dX10_isNotAbove_293 (by decide) rfl ?_
            refine g_lcmp dX10_isNotAbove_294 rfl ?_
            refine g_ifne (tgt := 309) dX10_isNotAbove_295 (by decide) rfl (fun c25 => ?_) (fun c25 => ?_)
            · replace hF := ite_n hF c25
              refine g_iconst (v := 0) dX10_isNotAbove_309 (by decide) rfl ?_
              subst hF
              exact g_zret rfl dX10_isNotAbove_310 (by decide) (Nat.le_of_ble_eq_true rfl) (Nat.le_of_ble_eq_true rfl) ⟨rfl, rfl⟩
            · replace hF := ite_p hF c25
              refine g_lload dX10_isNotAbove_298 rfl rfl ?_
              refine g_lconst (v := 0) dX10_isNotAbove_300 (by decide) rfl ?_
              refine g_lcmp dX10_isNotAbove_301 rfl ?_
              refine g_ifne (tgt := 309) dX10_isNotAbove_302 (by decide) rfl (fun c26 => ?_) (fun c26 => ?_)
              · replace hF := ite_n hF c26
                refine g_iconst (v := 0) dX10_isNotAbove_309 (by decide) rfl ?_
                subst hF
                exact g_zret rfl dX10_isNotAbove_310 (by decide) (Nat.le_of_ble_eq_true rfl) (Nat.le_of_ble_eq_true rfl) ⟨rfl, rfl⟩
              · replace hF := ite_p hF c26
                refine g_iconst (v := 1) dX10_isNotAbove_305 (by decide) rfl ?_
                refine g_goto (tgt := 310) dX10_isNotAbove_306 (by decide) ?_
                subst hF
                exact g_zret rfl dX10_isNotAbove_310 (by decide) (Nat.le_of_ble_eq_true rfl) (Nat.le_of_ble_eq_true rfl) ⟨rfl, rfl⟩
  · replace hF := ite_p hF c8
    refine g_lload dX10_isNotAbove_78 rfl rfl ?_
    refine g_iload_n dX10_isNotAbove_80 rfl rfl rfl ?_
    refine g_i2l dX10_isNotAbove_81 rfl ?_
    refine g_ldc2 kl_X10_124 dX10_isNotAbove_82 rfl ?_
    refine g_lmul dX10_isNotAbove_85 rfl ?_
    refine g_lcmp dX10_isNotAbove_86 rfl ?_
    refine g_iflt (tgt := 116) dX10_isNotAbove_87 (by decide) rfl (fun c27 => ?_) (fun c27 => ?_)
    · replace hF := ite_p hF c27
      refine g_iconst (v := 1) dX10_isNotAbove_116 (by decide) rfl ?_
      refine g_goto (tgt := 121) dX10_isNotAbove_117 (by decide) ?_
      subst hF
      exact g_zret rfl dX10_isNotAbove_121 (by decide) (Nat.le_of_ble_eq_true rfl) (Nat.le_of_ble_eq_true rfl) ⟨rfl, rfl⟩
    · replace hF := ite_n hF c27
      refine g_lload dX10_isNotAbove_90 rfl rfl ?_
      refine g_iload_n dX10_isNotAbove_92 rfl rfl rfl ?_
      refine g_i2l dX10_isNotAbove_93 rfl ?_
      refine g_ldc2 kl_X10_124 dX10_isNotAbove_94 rfl ?_
      refine g_lmul dX10_isNotAbove_97 rfl ?_
      refine g_lcmp dX10_isNotAbove_98 rfl ?_
      refine g_ifne (tgt := 120) dX10_isNotAbove_99 (by decide) rfl (fun c28 => ?_) (fun c28 => ?_)
      · replace hF := ite_n hF c28
        refine g_iconst (v := 0) dX10_isNotAbove_120 (by decide) rfl ?_
        subst hF
        exact g_zret rfl dX10_isNotAbove_121 (by decide) (Nat.le_of_ble_eq_true rfl) (Nat.le_of_ble_eq_true rfl) ⟨rfl, rfl⟩
      · replace hF := ite_p hF c28
        refine g_lload dX10_isNotAbove_102 rfl rfl ?_
        refine g_lconst (v := 0) dX10_isNotAbove_104 (by decide) rfl ?_
        refine g_lcmp dX10_isNotAbove_105 rfl ?_
        refine g_ifne (tgt := 120) dX10_isNotAbove_106 (by decide) rfl (fun c29 => ?_) (fun c29 => ?_)
        · replace hF := ite_n hF c29
          refine g_iconst (v := 0) dX10_isNotAbove_120 (by decide) rfl ?_
          subst hF
          exact g_zret rfl dX10_isNotAbove_121 (by decide) (Nat.le_of_ble_eq_true rfl) (Nat.le_of_ble_eq_true rfl) ⟨rfl, rfl⟩
        · replace hF := ite_p hF c29
          refine g_lload dX10_isNotAbove_109 rfl rfl ?_
          refine g_lconst (v := 0) dX10_isNotAbove_111 (by decide) rfl ?_
          refine g_lcmp dX10_isNotAbove_112 rfl ?_
          refine g_ifne (tgt := 120) dX10_isNotAbove_113 (by decide) rfl (fun c30 => ?_) (fun c30 => ?_)
          · replace hF := ite_n hF c30
            refine g_iconst (v := 0) dX10_isNotAbove_120 (by decide) rfl ?_
            subst hF
            exact g_zret rfl dX10_isNotAbove_121 (by decide) (Nat.le_of_ble_eq_true rfl) (Nat.le_of_ble_eq_true rfl) ⟨rfl, rfl⟩
          · replace hF := ite_p hF c30
            refine g_iconst (v := 1) dX10_isNotAbove_116 (by decide) rfl ?_
            refine g_goto (tgt := 121) dX10_isNotAbove_117 (by decide) ?_
            subst hF
            exact g_zret rfl dX10_isNotAbove_121 (by decide) (Nat.le_of_ble_eq_true rfl) (Nat.le_of_ble_eq_true rfl) ⟨rfl, rfl⟩
noncomputable def G_X10_rootOf_L7 (p0 : Int32) (p1 : Int32) : Nat → Int64 → Int64 → Int32
  | 0, _, _ => 0
  | n + 1, y2, y4 =>
    if (lg_cmp (y4 - y2) (1 : Int64)) ≤ 0 then
      y2.toInt32
    else
      let v2 := ((y2 + y4) >>> ((1 : Int32).toInt64 &&& 63))
      if (F_X10_isNotAbove v2 p0 p1) = 0 then
        G_X10_rootOf_L7 p0 p1 n y2 v2
      else
        G_X10_rootOf_L7 p0 p1 n v2 y4
def QG_X10_rootOf_L7 (p0 : Int32) (p1 : Int32) : Nat → Int64 → Int64 → Prop
  | 0, _, _ => False
  | n + 1, y2, y4 =>
    if (lg_cmp (y4 - y2) (1 : Int64)) ≤ 0 then
      (True)
    else
      (let v2 := ((y2 + y4) >>> ((1 : Int32).toInt64 &&& 63))
      if (F_X10_isNotAbove v2 p0 p1) = 0 then
        (QG_X10_rootOf_L7 p0 p1 n y2 v2)
      else
        (QG_X10_rootOf_L7 p0 p1 n v2 y4))
set_option maxHeartbeats 4000000 in
set_option maxRecDepth 100000 in
theorem t_X10_rootOf_L7 (l : Launch) (g : gE) {p0 : Int32} {p1 : Int32} {ζ : gQ} {σ : gS} {fr : Int32} : ∀ (n : Nat) (y2 : Int64) (y4 : Int64), QG_X10_rootOf_L7 p0 p1 n y2 y4 → G_X10_rootOf_L7 p0 p1 n y2 y4 = fr → gG l g mX10_rootOf (rm 1 43) (gZm g (rm 1 43) (fun r h => r = some (.int fr) ∧ h = hp σ ζ)) 7 [(0, .int p0), (1, .int p1), (2, .long y2), (4, .long y4)] [] (hp σ ζ) 0 0 := by
  intro n
  induction n with
  | zero => intro y2 y4 hQ; exact absurd hQ (by unfold QG_X10_rootOf_L7; exact id)
  | succ n ihL7 =>
    intro y2 y4 hQ hF
    unfold G_X10_rootOf_L7 at hF
    unfold QG_X10_rootOf_L7 at hQ
    refine g_lload dX10_rootOf_7 rfl rfl ?_
    refine g_lload_n dX10_rootOf_9 rfl rfl rfl ?_
    refine g_lsub dX10_rootOf_10 rfl ?_
    refine g_lconst (v := 1) dX10_rootOf_11 (by decide) rfl ?_
    refine g_lcmp dX10_rootOf_12 rfl ?_
    refine g_ifle (tgt := 47) dX10_rootOf_13 (by decide) rfl (fun c1 => ?_) (fun c1 => ?_)
    · replace hF := ite_p hF c1
      try replace hQ := ite_q hQ c1
      refine g_lload_n dX10_rootOf_47 rfl rfl rfl ?_
      refine g_l2i dX10_rootOf_48 rfl ?_
      subst hF
      exact g_iret rfl dX10_rootOf_49 (Nat.le_of_ble_eq_true rfl) (Nat.le_of_ble_eq_true rfl) ⟨rfl, rfl⟩
    · replace hF := ite_n hF c1
      try replace hQ := ite_r hQ c1
      refine g_lload_n dX10_rootOf_16 rfl rfl rfl ?_
      refine g_lload dX10_rootOf_17 rfl rfl ?_
      refine g_ladd dX10_rootOf_19 rfl ?_
      refine g_iconst (v := 1) dX10_rootOf_20 (by decide) rfl ?_
      refine g_lshr dX10_rootOf_21 rfl ?_
      refine g_lstoreL (L1 := [(0, _), (1, _), (2, _), (4, _), (6, _)]) dX10_rootOf_22 (by decide) rfl rfl ?_
      refine g_lload dX10_rootOf_24 rfl rfl ?_
      refine g_iload_n dX10_rootOf_26 rfl rfl rfl ?_
      refine g_iload_n dX10_rootOf_27 rfl rfl rfl ?_
      refine g_calls mt_X10_isNotAbove ms_X10_isNotAbove ml_X10_116 (c_X10_isNotAbove l g _ _ _) rfl (Nat.le_of_ble_eq_true rfl) (Nat.le_of_ble_eq_true rfl) (Nat.le_of_ble_eq_true rfl) (Nat.le_of_ble_eq_true rfl) rfl (Nat.le_of_ble_eq_true rfl) dX10_rootOf_28 rfl (fun r3 hr3 pr3 => ?_)
      obtain ⟨rfl, rfl⟩ := pr3
      refine g_ifeq (tgt := 40) dX10_rootOf_31 (by decide) rfl (fun c4 => ?_) (fun c4 => ?_)
      · replace hF := ite_p hF c4
        try replace hQ := ite_q hQ c4
        refine g_lload dX10_rootOf_40 rfl rfl ?_
        refine g_lstoreL (L1 := [(0, _), (1, _), (2, _), (4, _), (6, _)]) dX10_rootOf_42 (by decide) rfl rfl ?_
        refine g_goto (tgt := 7) dX10_rootOf_44 (by decide) ?_
        refine g_sub [0, 1, 2, 3] rfl ?_
        exact ihL7 _ _ hQ hF
      · replace hF := ite_n hF c4
        try replace hQ := ite_r hQ c4
        refine g_lload dX10_rootOf_34 rfl rfl ?_
        refine g_lstoreL_n (L1 := [(0, _), (1, _), (2, _), (4, _), (6, _)]) dX10_rootOf_36 rfl (by decide) rfl rfl ?_
        refine g_goto (tgt := 44) dX10_rootOf_37 (by decide) ?_
        refine g_goto (tgt := 7) dX10_rootOf_44 (by decide) ?_
        refine g_sub [0, 1, 2, 3] rfl ?_
        exact ihL7 _ _ hQ hF
noncomputable def Fr_X10_rootOf (p0 : Int32) (p1 : Int32) : Int32 :=
  G_X10_rootOf_L7 p0 p1 4000 (0 : Int64) (137438953472 : Int64)
noncomputable def F_X10_rootOf : Int32 → Int32 → Int32 := Classical.choose (⟨Fr_X10_rootOf, rfl⟩ : ∃ f : Int32 → Int32 → Int32, f = Fr_X10_rootOf)
theorem F_X10_rootOf_eq : F_X10_rootOf = Fr_X10_rootOf := Classical.choose_spec (⟨Fr_X10_rootOf, rfl⟩ : ∃ f : Int32 → Int32 → Int32, f = Fr_X10_rootOf)
def Q_X10_rootOf (p0 : Int32) (p1 : Int32) : Prop :=
  QG_X10_rootOf_L7 p0 p1 4000 (0 : Int64) (137438953472 : Int64)
set_option maxHeartbeats 4000000 in
set_option maxRecDepth 100000 in
theorem c_X10_rootOf (l : Launch) (g : gE)  {σ : gS} {ζ : gQ} (p0 : Int32) (p1 : Int32) (hQ : Q_X10_rootOf p0 p1) : gC l g mX10_rootOf (rm 1 43) [.int p0, .int p1] (hp σ ζ) (fun r h => r = some (.int (F_X10_rootOf p0 p1)) ∧ h = hp σ ζ) := by
  refine gC_of (by decide) (Nat.le_of_ble_eq_true rfl) ?_
  generalize hF : (F_X10_rootOf p0 p1) = fr
  rw [F_X10_rootOf_eq] at hF
  unfold Fr_X10_rootOf at hF
  unfold Q_X10_rootOf at hQ
  refine g_lconst (v := 0) dX10_rootOf_0 (by decide) rfl ?_
  refine g_lstoreL_n (L1 := [(0, _), (1, _), (2, _)]) dX10_rootOf_1 rfl (by decide) rfl rfl ?_
  refine g_ldc2 kl_X10_114 dX10_rootOf_2 rfl ?_
  refine g_lstoreL (L1 := [(0, _), (1, _), (2, _), (4, _)]) dX10_rootOf_5 (by decide) rfl rfl ?_
  refine g_sub [0, 1, 2, 3] rfl ?_
  exact t_X10_rootOf_L7 l g 4000 _ _ hQ hF
noncomputable def G_X10_prepare_L21  (kL12 : Int32 → Int32 → Int32 → gS → gS) : Nat → Int32 → Int32 → Int32 → Int32 → gS → gS
  | 0, _, _, _, _, σ => σ
  | n + 1, y1, y2, y3, y4, σ =>
    if y2 ≤ y4 then
      if y3 = 0 then
        kL12 (y1 + (1 : Int32)) y2 y3 σ
      else
        kL12 (y1 + (0 : Int32)) y2 y3 σ
    else
      if y3 = 0 then
        G_X10_prepare_L21  kL12 n y1 y2 (0 : Int32) (y4 + Int32.ofInt (1)) σ
      else
        if (rem32 y1 (σ 201 (ix y4))) = 0 then
          G_X10_prepare_L21  kL12 n y1 y2 (0 : Int32) (y4 + Int32.ofInt (1)) σ
        else
          G_X10_prepare_L21  kL12 n y1 y2 (1 : Int32) (y4 + Int32.ofInt (1)) σ
def QG_X10_prepare_L21  (qL12 : Int32 → Int32 → Int32 → gS → Prop) : Nat → Int32 → Int32 → Int32 → Int32 → gS → Prop
  | 0, _, _, _, _, _ => False
  | n + 1, y1, y2, y3, y4, σ =>
    if y2 ≤ y4 then
      (if y3 = 0 then
        (qL12 (y1 + (1 : Int32)) y2 y3 σ)
      else
        (qL12 (y1 + (0 : Int32)) y2 y3 σ))
    else
      (if y3 = 0 then
        (QG_X10_prepare_L21  qL12 n y1 y2 (0 : Int32) (y4 + Int32.ofInt (1)) σ)
      else
        (vp_in y4 64 ∧ ((¬ (σ 201 (ix y4)) = 0) ∧ (if (rem32 y1 (σ 201 (ix y4))) = 0 then
          (QG_X10_prepare_L21  qL12 n y1 y2 (0 : Int32) (y4 + Int32.ofInt (1)) σ)
        else
          (QG_X10_prepare_L21  qL12 n y1 y2 (1 : Int32) (y4 + Int32.ofInt (1)) σ)))))
set_option maxHeartbeats 4000000 in
set_option maxRecDepth 100000 in
theorem t_X10_prepare_L21 (l : Launch) (g : gE)  {ζ : gQ} {fr : gS} {kL12 : Int32 → Int32 → Int32 → gS → gS} {qL12 : Int32 → Int32 → Int32 → gS → Prop} (hkL12 : ∀ (y1 : Int32) (y2 : Int32) (y3 : Int32) (σ : gS), qL12 y1 y2 y3 σ → kL12 y1 y2 y3 σ = fr → gG l g mX10_prepare (rm 2 70) (gZm g (rm 2 70) (fun r h => r = none ∧ h = hp fr ζ)) 12 [(0, .ref 199), (1, .int y1), (2, .int y2), (3, .int y3)] [] (hp σ ζ) 0 0) : ∀ (n : Nat) (y1 : Int32) (y2 : Int32) (y3 : Int32) (y4 : Int32) (σ : gS), QG_X10_prepare_L21  qL12 n y1 y2 y3 y4 σ → G_X10_prepare_L21  kL12 n y1 y2 y3 y4 σ = fr → gG l g mX10_prepare (rm 2 70) (gZm g (rm 2 70) (fun r h => r = none ∧ h = hp fr ζ)) 21 [(0, .ref 199), (1, .int y1), (2, .int y2), (3, .int y3), (4, .int y4)] [] (hp σ ζ) 0 0 := by
  intro n
  induction n with
  | zero => intro y1 y2 y3 y4 σ hQ; exact absurd hQ (by unfold QG_X10_prepare_L21; exact id)
  | succ n ihL21 =>
    intro y1 y2 y3 y4 σ hQ hF
    unfold G_X10_prepare_L21 at hF
    unfold QG_X10_prepare_L21 at hQ
    refine g_iload dX10_prepare_21 rfl rfl ?_
    refine g_iload_n dX10_prepare_23 rfl rfl rfl ?_
    refine g_icmpge (tgt := 55) dX10_prepare_24 (by decide) rfl (fun c15 => ?_) (fun c15 => ?_)
    · replace hF := ite_p hF c15
      try replace hQ := ite_q hQ c15
      refine g_iload_n dX10_prepare_55 rfl rfl rfl ?_
      refine g_iload_n dX10_prepare_56 rfl rfl rfl ?_
      refine g_ifeq (tgt := 64) dX10_prepare_57 (by decide) rfl (fun c16 => ?_) (fun c16 => ?_)
      · replace hF := ite_p hF c16
        try replace hQ := ite_q hQ c16
        refine g_iconst (v := 1) dX10_prepare_64 (by decide) rfl ?_
        refine g_iadd dX10_prepare_65 rfl ?_
        refine g_istoreL_n (L1 := [(0, _), (1, _), (2, _), (3, _), (4, _)]) dX10_prepare_66 rfl (by decide) rfl rfl ?_
        refine g_goto (tgt := 12) dX10_prepare_67 (by decide) ?_
        refine g_sub [0, 1, 2, 3] rfl ?_
        exact hkL12 _ _ _ _ hQ hF
      · replace hF := ite_n hF c16
        try replace hQ := ite_r hQ c16
        refine g_iconst (v := 0) dX10_prepare_60 (by decide) rfl ?_
        refine g_goto (tgt := 65) dX10_prepare_61 (by decide) ?_
        refine g_iadd dX10_prepare_65 rfl ?_
        refine g_istoreL_n (L1 := [(0, _), (1, _), (2, _), (3, _), (4, _)]) dX10_prepare_66 rfl (by decide) rfl rfl ?_
        refine g_goto (tgt := 12) dX10_prepare_67 (by decide) ?_
        refine g_sub [0, 1, 2, 3] rfl ?_
        exact hkL12 _ _ _ _ hQ hF
    · replace hF := ite_n hF c15
      try replace hQ := ite_r hQ c15
      refine g_iload_n dX10_prepare_27 rfl rfl rfl ?_
      refine g_ifeq (tgt := 47) dX10_prepare_28 (by decide) rfl (fun c17 => ?_) (fun c17 => ?_)
      · replace hF := ite_p hF c17
        try replace hQ := ite_q hQ c17
        refine g_iconst (v := 0) dX10_prepare_47 (by decide) rfl ?_
        refine g_istoreL_n (L1 := [(0, _), (1, _), (2, _), (3, _), (4, _)]) dX10_prepare_48 rfl (by decide) rfl rfl ?_
        refine g_iincL (L1 := [(0, _), (1, _), (2, _), (3, _), (4, _)]) dX10_prepare_49 rfl (by decide) rfl rfl ?_
        refine g_goto (tgt := 21) dX10_prepare_52 (by decide) ?_
        refine g_sub [0, 1, 2, 3, 4] rfl ?_
        exact ihL21 _ _ _ _ _ hQ hF
      · replace hF := ite_n hF c17
        try replace hQ := ite_r hQ c17
        refine g_iload_n dX10_prepare_31 rfl rfl rfl ?_
        refine g_aload_n dX10_prepare_32 rfl rfl rfl ?_
        refine g_get gClX10 2 (by decide) fl_X10_13 dX10_prepare_33 (ho_199 _ _) rfl rfl ?_
        refine g_iload dX10_prepare_36 rfl rfl ?_
        have o18 := hQ.1
        replace hQ := hQ.2
        refine g_iald (ha_201 _ _) o18 dX10_prepare_38 rfl ?_
        have o19 := hQ.1
        replace hQ := hQ.2
        refine g_irem dX10_prepare_39 o19 rfl ?_
        refine g_ifeq (tgt := 47) dX10_prepare_40 (by decide) rfl (fun c20 => ?_) (fun c20 => ?_)
        · replace hF := ite_p hF c20
          try replace hQ := ite_q hQ c20
          refine g_iconst (v := 0) dX10_prepare_47 (by decide) rfl ?_
          refine g_istoreL_n (L1 := [(0, _), (1, _), (2, _), (3, _), (4, _)]) dX10_prepare_48 rfl (by decide) rfl rfl ?_
          refine g_iincL (L1 := [(0, _), (1, _), (2, _), (3, _), (4, _)]) dX10_prepare_49 rfl (by decide) rfl rfl ?_
          refine g_goto (tgt := 21) dX10_prepare_52 (by decide) ?_
          refine g_sub [0, 1, 2, 3, 4] rfl ?_
          exact ihL21 _ _ _ _ _ hQ hF
        · replace hF := ite_n hF c20
          try replace hQ := ite_r hQ c20
          refine g_iconst (v := 1) dX10_prepare_43 (by decide) rfl ?_
          refine g_goto (tgt := 48) dX10_prepare_44 (by decide) ?_
          refine g_istoreL_n (L1 := [(0, _), (1, _), (2, _), (3, _), (4, _)]) dX10_prepare_48 rfl (by decide) rfl rfl ?_
          refine g_iincL (L1 := [(0, _), (1, _), (2, _), (3, _), (4, _)]) dX10_prepare_49 rfl (by decide) rfl rfl ?_
          refine g_goto (tgt := 21) dX10_prepare_52 (by decide) ?_
          refine g_sub [0, 1, 2, 3, 4] rfl ?_
          exact ihL21 _ _ _ _ _ hQ hF
noncomputable def G_X10_prepare_L12  (kL4 : Int32 → Int32 → gS → gS) : Nat → Int32 → Int32 → Int32 → gS → gS
  | 0, _, _, _, σ => σ
  | n + 1, y1, y2, y3, σ =>
    if y3 = 0 then
      G_X10_prepare_L21  (G_X10_prepare_L12  kL4 n) 4000 y1 y2 (1 : Int32) (0 : Int32) σ
    else
      let s5 := (pf σ 201 (ix y2) y1 : gS)
      let s9 := (pf s5 202 (ix y2) (F_X10_rootOf y1 (1 : Int32)) : gS)
      if (8 : Int32) ≤ y2 then
        kL4 (y1 + Int32.ofInt (1)) (y2 + Int32.ofInt (1)) s9
      else
        let s14 := (pf s9 203 (ix y2) (F_X10_rootOf y1 (0 : Int32)) : gS)
        kL4 (y1 + Int32.ofInt (1)) (y2 + Int32.ofInt (1)) s14
def QG_X10_prepare_L12  (qL4 : Int32 → Int32 → gS → Prop) : Nat → Int32 → Int32 → Int32 → gS → Prop
  | 0, _, _, _, _ => False
  | n + 1, y1, y2, y3, σ =>
    if y3 = 0 then
      (QG_X10_prepare_L21  (QG_X10_prepare_L12  qL4 n) 4000 y1 y2 (1 : Int32) (0 : Int32) σ)
    else
      (vp_in y2 64 ∧ (let s5 := (pf σ 201 (ix y2) y1 : gS)
      (Q_X10_rootOf y1 (1 : Int32)) ∧ (vp_in y2 64 ∧ (let s9 := (pf s5 202 (ix y2) (F_X10_rootOf y1 (1 : Int32)) : gS)
      if (8 : Int32) ≤ y2 then
        (qL4 (y1 + Int32.ofInt (1)) (y2 + Int32.ofInt (1)) s9)
      else
        ((Q_X10_rootOf y1 (0 : Int32)) ∧ (vp_in y2 8 ∧ (let s14 := (pf s9 203 (ix y2) (F_X10_rootOf y1 (0 : Int32)) : gS)
        qL4 (y1 + Int32.ofInt (1)) (y2 + Int32.ofInt (1)) s14)))))))
set_option maxHeartbeats 4000000 in
set_option maxRecDepth 100000 in
theorem t_X10_prepare_L12 (l : Launch) (g : gE)  {ζ : gQ} {fr : gS} {kL4 : Int32 → Int32 → gS → gS} {qL4 : Int32 → Int32 → gS → Prop} (hkL4 : ∀ (y1 : Int32) (y2 : Int32) (σ : gS), qL4 y1 y2 σ → kL4 y1 y2 σ = fr → gG l g mX10_prepare (rm 2 70) (gZm g (rm 2 70) (fun r h => r = none ∧ h = hp fr ζ)) 4 [(0, .ref 199), (1, .int y1), (2, .int y2)] [] (hp σ ζ) 0 0) : ∀ (n : Nat) (y1 : Int32) (y2 : Int32) (y3 : Int32) (σ : gS), QG_X10_prepare_L12  qL4 n y1 y2 y3 σ → G_X10_prepare_L12  kL4 n y1 y2 y3 σ = fr → gG l g mX10_prepare (rm 2 70) (gZm g (rm 2 70) (fun r h => r = none ∧ h = hp fr ζ)) 12 [(0, .ref 199), (1, .int y1), (2, .int y2), (3, .int y3)] [] (hp σ ζ) 0 0 := by
  intro n
  induction n with
  | zero => intro y1 y2 y3 σ hQ; exact absurd hQ (by unfold QG_X10_prepare_L12; exact id)
  | succ n ihL12 =>
    intro y1 y2 y3 σ hQ hF
    unfold G_X10_prepare_L12 at hF
    unfold QG_X10_prepare_L12 at hQ
    refine g_iload_n dX10_prepare_12 rfl rfl rfl ?_
    refine g_ifne (tgt := 70) dX10_prepare_13 (by decide) rfl (fun c3 => ?_) (fun c3 => ?_)
    · replace hF := ite_n hF c3
      try replace hQ := ite_r hQ c3
      refine g_aload_n dX10_prepare_70 rfl rfl rfl ?_
      refine g_get gClX10 2 (by decide) fl_X10_13 dX10_prepare_71 (ho_199 _ _) rfl rfl ?_
      refine g_iload_n dX10_prepare_74 rfl rfl rfl ?_
      refine g_iload_n dX10_prepare_75 rfl rfl rfl ?_
      have o4 := hQ.1
      replace hQ := hQ.2
      refine g_iast (ha_201 _ _) o4 pa_201 dX10_prepare_76 rfl ?_
      refine g_aload_n dX10_prepare_77 rfl rfl rfl ?_
      refine g_get gClX10 3 (by decide) fl_X10_17 dX10_prepare_78 (ho_199 _ _) rfl rfl ?_
      refine g_iload_n dX10_prepare_81 rfl rfl rfl ?_
      refine g_iload_n dX10_prepare_82 rfl rfl rfl ?_
      refine g_iconst (v := 1) dX10_prepare_83 (by decide) rfl ?_
      have o6 := hQ.1
      replace hQ := hQ.2
      refine g_calls mt_X10_rootOf ms_X10_rootOf ml_X10_126 (c_X10_rootOf l g _ _ o6) rfl (Nat.le_of_ble_eq_true rfl) (Nat.le_of_ble_eq_true rfl) (Nat.le_of_ble_eq_true rfl) (Nat.le_of_ble_eq_true rfl) rfl (Nat.le_of_ble_eq_true rfl) dX10_prepare_84 rfl (fun r7 hr7 pr7 => ?_)
      obtain ⟨rfl, rfl⟩ := pr7
      have o8 := hQ.1
      replace hQ := hQ.2
      refine g_iast (ha_202 _ _) o8 pa_202 dX10_prepare_87 rfl ?_
      refine g_iload_n dX10_prepare_88 rfl rfl rfl ?_
      refine g_bipush (v := 8) dX10_prepare_89 (by decide) rfl ?_
      refine g_icmpge (tgt := 105) dX10_prepare_91 (by decide) rfl (fun c10 => ?_) (fun c10 => ?_)
      · replace hF := ite_p hF c10
        try replace hQ := ite_q hQ c10
        refine g_iincL (L1 := [(0, _), (1, _), (2, _), (3, _)]) dX10_prepare_105 rfl (by decide) rfl rfl ?_
        refine g_iincL (L1 := [(0, _), (1, _), (2, _), (3, _)]) dX10_prepare_108 rfl (by decide) rfl rfl ?_
        refine g_goto (tgt := 4) dX10_prepare_111 (by decide) ?_
        refine g_sub [0, 1, 2] rfl ?_
        exact hkL4 _ _ _ hQ hF
      · replace hF := ite_n hF c10
        try replace hQ := ite_r hQ c10
        refine g_aload_n dX10_prepare_94 rfl rfl rfl ?_
        refine g_get gClX10 4 (by decide) fl_X10_20 dX10_prepare_95 (ho_199 _ _) rfl rfl ?_
        refine g_iload_n dX10_prepare_98 rfl rfl rfl ?_
        refine g_iload_n dX10_prepare_99 rfl rfl rfl ?_
        refine g_iconst (v := 0) dX10_prepare_100 (by decide) rfl ?_
        have o11 := hQ.1
        replace hQ := hQ.2
        refine g_calls mt_X10_rootOf ms_X10_rootOf ml_X10_126 (c_X10_rootOf l g _ _ o11) rfl (Nat.le_of_ble_eq_true rfl) (Nat.le_of_ble_eq_true rfl) (Nat.le_of_ble_eq_true rfl) (Nat.le_of_ble_eq_true rfl) rfl (Nat.le_of_ble_eq_true rfl) dX10_prepare_101 rfl (fun r12 hr12 pr12 => ?_)
        obtain ⟨rfl, rfl⟩ := pr12
        have o13 := hQ.1
        replace hQ := hQ.2
        refine g_iast (ha_203 _ _) o13 pa_203 dX10_prepare_104 rfl ?_
        refine g_iincL (L1 := [(0, _), (1, _), (2, _), (3, _)]) dX10_prepare_105 rfl (by decide) rfl rfl ?_
        refine g_iincL (L1 := [(0, _), (1, _), (2, _), (3, _)]) dX10_prepare_108 rfl (by decide) rfl rfl ?_
        refine g_goto (tgt := 4) dX10_prepare_111 (by decide) ?_
        refine g_sub [0, 1, 2] rfl ?_
        exact hkL4 _ _ _ hQ hF
    · replace hF := ite_p hF c3
      try replace hQ := ite_q hQ c3
      refine g_iconst (v := 1) dX10_prepare_16 (by decide) rfl ?_
      refine g_istoreL_n (L1 := [(0, _), (1, _), (2, _), (3, _)]) dX10_prepare_17 rfl (by decide) rfl rfl ?_
      refine g_iconst (v := 0) dX10_prepare_18 (by decide) rfl ?_
      refine g_istoreL (L1 := [(0, _), (1, _), (2, _), (3, _), (4, _)]) dX10_prepare_19 (by decide) rfl rfl ?_
      refine g_sub [0, 1, 2, 3, 4] rfl ?_
      exact t_X10_prepare_L21 l g ihL12 4000 _ _ _ _ _ hQ hF
noncomputable def G_X10_prepare_L4  : Nat → Int32 → Int32 → gS → gS
  | 0, _, _, σ => σ
  | n + 1, y1, y2, σ =>
    if (64 : Int32) ≤ y2 then
      let s2 := (pf σ 199 10 (1 : Int32) : gS)
      s2
    else
      G_X10_prepare_L12  (G_X10_prepare_L4  n) 4000 y1 y2 (0 : Int32) σ
def QG_X10_prepare_L4  : Nat → Int32 → Int32 → gS → Prop
  | 0, _, _, _ => False
  | n + 1, y1, y2, σ =>
    if (64 : Int32) ≤ y2 then
      (let s2 := (pf σ 199 10 (1 : Int32) : gS)
      True)
    else
      (QG_X10_prepare_L12  (QG_X10_prepare_L4  n) 4000 y1 y2 (0 : Int32) σ)
set_option maxHeartbeats 4000000 in
set_option maxRecDepth 100000 in
theorem t_X10_prepare_L4 (l : Launch) (g : gE)  {ζ : gQ} {fr : gS} : ∀ (n : Nat) (y1 : Int32) (y2 : Int32) (σ : gS), QG_X10_prepare_L4  n y1 y2 σ → G_X10_prepare_L4  n y1 y2 σ = fr → gG l g mX10_prepare (rm 2 70) (gZm g (rm 2 70) (fun r h => r = none ∧ h = hp fr ζ)) 4 [(0, .ref 199), (1, .int y1), (2, .int y2)] [] (hp σ ζ) 0 0 := by
  intro n
  induction n with
  | zero => intro y1 y2 σ hQ; exact absurd hQ (by unfold QG_X10_prepare_L4; exact id)
  | succ n ihL4 =>
    intro y1 y2 σ hQ hF
    unfold G_X10_prepare_L4 at hF
    unfold QG_X10_prepare_L4 at hQ
    refine g_iload_n dX10_prepare_4 rfl rfl rfl ?_
    refine g_bipush (v := 64) dX10_prepare_5 (by decide) rfl ?_
    refine g_icmpge (tgt := 114) dX10_prepare_7 (by decide) rfl (fun c1 => ?_) (fun c1 => ?_)
    · replace hF := ite_p hF c1
      try replace hQ := ite_q hQ c1
      refine g_aload_n dX10_prepare_114 rfl rfl rfl ?_
      refine g_iconst (v := 1) dX10_prepare_115 (by decide) rfl ?_
      refine g_put gClX10 10 (by decide) fl_X10_130 rfl dX10_prepare_116 (ho_199 _ _) rfl rfl (Nat.le_of_ble_eq_true rfl) po_199_10 rfl ?_
      subst hF
      exact g_vret rfl dX10_prepare_119 (Nat.le_of_ble_eq_true rfl) (Nat.le_of_ble_eq_true rfl) ⟨rfl, rfl⟩
    · replace hF := ite_n hF c1
      try replace hQ := ite_r hQ c1
      refine g_iconst (v := 0) dX10_prepare_10 (by decide) rfl ?_
      refine g_istoreL_n (L1 := [(0, _), (1, _), (2, _), (3, _)]) dX10_prepare_11 rfl (by decide) rfl rfl ?_
      refine g_sub [0, 1, 2, 3] rfl ?_
      exact t_X10_prepare_L12 l g ihL4 4000 _ _ _ _ hQ hF
noncomputable def Fr_X10_prepare (σ : gS)  : gS :=
  G_X10_prepare_L4  4000 (2 : Int32) (0 : Int32) σ
noncomputable def F_X10_prepare : gS → gS := Classical.choose (⟨Fr_X10_prepare, rfl⟩ : ∃ f : gS → gS, f = Fr_X10_prepare)
theorem F_X10_prepare_eq : F_X10_prepare = Fr_X10_prepare := Classical.choose_spec (⟨Fr_X10_prepare, rfl⟩ : ∃ f : gS → gS, f = Fr_X10_prepare)
def Q_X10_prepare (σ : gS)  : Prop :=
  QG_X10_prepare_L4  4000 (2 : Int32) (0 : Int32) σ
set_option maxHeartbeats 4000000 in
set_option maxRecDepth 100000 in
theorem c_X10_prepare (l : Launch) (g : gE)  {σ : gS} {ζ : gQ}  (hQ : Q_X10_prepare σ ) : gC l g mX10_prepare (rm 2 70) [.ref 199] (hp σ ζ) (fun r h => r = none ∧ h = hp (F_X10_prepare σ ) ζ) := by
  refine gC_of (by decide) (Nat.le_of_ble_eq_true rfl) ?_
  generalize hF : (F_X10_prepare σ ) = fr
  rw [F_X10_prepare_eq] at hF
  unfold Fr_X10_prepare at hF
  unfold Q_X10_prepare at hQ
  refine g_iconst (v := 2) dX10_prepare_0 (by decide) rfl ?_
  refine g_istoreL_n (L1 := [(0, _), (1, _)]) dX10_prepare_1 rfl (by decide) rfl rfl ?_
  refine g_iconst (v := 0) dX10_prepare_2 (by decide) rfl ?_
  refine g_istoreL_n (L1 := [(0, _), (1, _), (2, _)]) dX10_prepare_3 rfl (by decide) rfl rfl ?_
  refine g_sub [0, 1, 2] rfl ?_
  exact t_X10_prepare_L4 l g 4000 _ _ _ hQ hF
noncomputable def Fr_X10_turn (p0 : Int32) (p1 : Int32) : Int32 :=
  ((ush p0 p1) ||| (p0 <<< (((32 : Int32) - p1) &&& 31)))
noncomputable def F_X10_turn : Int32 → Int32 → Int32 := Classical.choose (⟨Fr_X10_turn, rfl⟩ : ∃ f : Int32 → Int32 → Int32, f = Fr_X10_turn)
theorem F_X10_turn_eq : F_X10_turn = Fr_X10_turn := Classical.choose_spec (⟨Fr_X10_turn, rfl⟩ : ∃ f : Int32 → Int32 → Int32, f = Fr_X10_turn)
set_option maxHeartbeats 4000000 in
set_option maxRecDepth 100000 in
theorem c_X10_turn (l : Launch) (g : gE)  {σ : gS} {ζ : gQ} (p0 : Int32) (p1 : Int32) : gC l g mX10_turn (rm 0 0) [.int p0, .int p1] (hp σ ζ) (fun r h => r = some (.int (F_X10_turn p0 p1)) ∧ h = hp σ ζ) := by
  refine gC_of (by decide) (Nat.le_of_ble_eq_true rfl) ?_
  generalize hF : (F_X10_turn p0 p1) = fr
  rw [F_X10_turn_eq] at hF
  unfold Fr_X10_turn at hF
  refine g_iload_n dX10_turn_0 rfl rfl rfl ?_
  refine g_iload_n dX10_turn_1 rfl rfl rfl ?_
  refine g_iushr dX10_turn_2 rfl ?_
  refine g_iload_n dX10_turn_3 rfl rfl rfl ?_
  refine g_bipush (v := 32) dX10_turn_4 (by decide) rfl ?_
  refine g_iload_n dX10_turn_6 rfl rfl rfl ?_
  refine g_isub dX10_turn_7 rfl ?_
  refine g_ishl dX10_turn_8 rfl ?_
  refine g_ior dX10_turn_9 rfl ?_
  subst hF
  exact g_iret rfl dX10_turn_10 (Nat.le_of_ble_eq_true rfl) (Nat.le_of_ble_eq_true rfl) ⟨rfl, rfl⟩
noncomputable def G_X10_eat_L248  : Nat → Int32 → Int32 → Int32 → Int32 → Int32 → Int32 → Int32 → Int32 → Int32 → gS → gS
  | 0, _, _, _, _, _, _, _, _, _, σ => σ
  | n + 1, y1, y2, y3, y4, y5, y6, y7, y8, y9, σ =>
    if (64 : Int32) ≤ y9 then
      let s4 := (pf σ 204 (ix (0 : Int32)) ((σ 204 (ix (0 : Int32))) + y1) : gS)
      let s5 := (pf s4 204 (ix (1 : Int32)) ((s4 204 (ix (1 : Int32))) + y2) : gS)
      let s6 := (pf s5 204 (ix (2 : Int32)) ((s5 204 (ix (2 : Int32))) + y3) : gS)
      let s7 := (pf s6 204 (ix (3 : Int32)) ((s6 204 (ix (3 : Int32))) + y4) : gS)
      let s8 := (pf s7 204 (ix (4 : Int32)) ((s7 204 (ix (4 : Int32))) + y5) : gS)
      let s9 := (pf s8 204 (ix (5 : Int32)) ((s8 204 (ix (5 : Int32))) + y6) : gS)
      let s10 := (pf s9 204 (ix (6 : Int32)) ((s9 204 (ix (6 : Int32))) + y7) : gS)
      let s11 := (pf s10 204 (ix (7 : Int32)) ((s10 204 (ix (7 : Int32))) + y8) : gS)
      s11
    else
      let v17 := ((((y8 + (((F_X10_turn y5 (6 : Int32)) ^^^ (F_X10_turn y5 (11 : Int32))) ^^^ (F_X10_turn y5 (25 : Int32)))) + ((y5 &&& y6) ^^^ ((y5 ^^^ (-1 : Int32)) &&& y7))) + (σ 202 (ix y9))) + (σ 205 (ix y9)))
      let v21 := ((((F_X10_turn y1 (2 : Int32)) ^^^ (F_X10_turn y1 (13 : Int32))) ^^^ (F_X10_turn y1 (22 : Int32))) + (((y1 &&& y2) ^^^ (y1 &&& y3)) ^^^ (y2 &&& y3)))
      G_X10_eat_L248  n (v17 + v21) y1 y2 y3 (y4 + v17) y5 y6 y7 (y9 + Int32.ofInt (1)) σ
def QG_X10_eat_L248  : Nat → Int32 → Int32 → Int32 → Int32 → Int32 → Int32 → Int32 → Int32 → Int32 → gS → Prop
  | 0, _, _, _, _, _, _, _, _, _, _ => False
  | n + 1, y1, y2, y3, y4, y5, y6, y7, y8, y9, σ =>
    if (64 : Int32) ≤ y9 then
      (let s4 := (pf σ 204 (ix (0 : Int32)) ((σ 204 (ix (0 : Int32))) + y1) : gS)
      let s5 := (pf s4 204 (ix (1 : Int32)) ((s4 204 (ix (1 : Int32))) + y2) : gS)
      let s6 := (pf s5 204 (ix (2 : Int32)) ((s5 204 (ix (2 : Int32))) + y3) : gS)
      let s7 := (pf s6 204 (ix (3 : Int32)) ((s6 204 (ix (3 : Int32))) + y4) : gS)
      let s8 := (pf s7 204 (ix (4 : Int32)) ((s7 204 (ix (4 : Int32))) + y5) : gS)
      let s9 := (pf s8 204 (ix (5 : Int32)) ((s8 204 (ix (5 : Int32))) + y6) : gS)
      let s10 := (pf s9 204 (ix (6 : Int32)) ((s9 204 (ix (6 : Int32))) + y7) : gS)
      let s11 := (pf s10 204 (ix (7 : Int32)) ((s10 204 (ix (7 : Int32))) + y8) : gS)
      True)
    else
      (vp_in y9 64 ∧ (vp_in y9 64 ∧ (let v17 := ((((y8 + (((F_X10_turn y5 (6 : Int32)) ^^^ (F_X10_turn y5 (11 : Int32))) ^^^ (F_X10_turn y5 (25 : Int32)))) + ((y5 &&& y6) ^^^ ((y5 ^^^ (-1 : Int32)) &&& y7))) + (σ 202 (ix y9))) + (σ 205 (ix y9)))
      let v21 := ((((F_X10_turn y1 (2 : Int32)) ^^^ (F_X10_turn y1 (13 : Int32))) ^^^ (F_X10_turn y1 (22 : Int32))) + (((y1 &&& y2) ^^^ (y1 &&& y3)) ^^^ (y2 &&& y3)))
      QG_X10_eat_L248  n (v17 + v21) y1 y2 y3 (y4 + v17) y5 y6 y7 (y9 + Int32.ofInt (1)) σ)))
set_option maxHeartbeats 4000000 in
set_option maxRecDepth 100000 in
theorem t_X10_eat_L248 (l : Launch) (g : gE)  {ζ : gQ} {fr : gS} : ∀ (n : Nat) (y1 : Int32) (y2 : Int32) (y3 : Int32) (y4 : Int32) (y5 : Int32) (y6 : Int32) (y7 : Int32) (y8 : Int32) (y9 : Int32) (σ : gS), QG_X10_eat_L248  n y1 y2 y3 y4 y5 y6 y7 y8 y9 σ → G_X10_eat_L248  n y1 y2 y3 y4 y5 y6 y7 y8 y9 σ = fr → gG l g mX10_eat (rm 1 21) (gZm g (rm 1 21) (fun r h => r = none ∧ h = hp fr ζ)) 248 [(0, .ref 199), (1, .int y1), (2, .int y2), (3, .int y3), (4, .int y4), (5, .int y5), (6, .int y6), (7, .int y7), (8, .int y8), (9, .int y9)] [] (hp σ ζ) 0 0 := by
  intro n
  induction n with
  | zero => intro y1 y2 y3 y4 y5 y6 y7 y8 y9 σ hQ; exact absurd hQ (by unfold QG_X10_eat_L248; exact id)
  | succ n ihL248 =>
    intro y1 y2 y3 y4 y5 y6 y7 y8 y9 σ hQ hF
    unfold G_X10_eat_L248 at hF
    unfold QG_X10_eat_L248 at hQ
    refine g_iload dX10_eat_248 rfl rfl ?_
    refine g_bipush (v := 64) dX10_eat_250 (by decide) rfl ?_
    refine g_icmpge (tgt := 384) dX10_eat_252 (by decide) rfl (fun c3 => ?_) (fun c3 => ?_)
    · replace hF := ite_p hF c3
      try replace hQ := ite_q hQ c3
      refine g_aload_n dX10_eat_384 rfl rfl rfl ?_
      refine g_get gClX10 5 (by decide) fl_X10_23 dX10_eat_385 (ho_199 _ _) rfl rfl ?_
      refine g_iconst (v := 0) dX10_eat_388 (by decide) rfl ?_
      refine g_dup2 dX10_eat_389 rfl rfl rfl ?_
      refine g_iald (ha_204 _ _) (vinc (by decide)) dX10_eat_390 rfl ?_
      refine g_iload_n dX10_eat_391 rfl rfl rfl ?_
      refine g_iadd dX10_eat_392 rfl ?_
      refine g_iast (ha_204 _ _) (vinc (by decide)) pa_204 dX10_eat_393 rfl ?_
      refine g_aload_n dX10_eat_394 rfl rfl rfl ?_
      refine g_get gClX10 5 (by decide) fl_X10_23 dX10_eat_395 (ho_199 _ _) rfl rfl ?_
      refine g_iconst (v := 1) dX10_eat_398 (by decide) rfl ?_
      refine g_dup2 dX10_eat_399 rfl rfl rfl ?_
      refine g_iald (ha_204 _ _) (vinc (by decide)) dX10_eat_400 rfl ?_
      refine g_iload_n dX10_eat_401 rfl rfl rfl ?_
      refine g_iadd dX10_eat_402 rfl ?_
      refine g_iast (ha_204 _ _) (vinc (by decide)) pa_204 dX10_eat_403 rfl ?_
      refine g_aload_n dX10_eat_404 rfl rfl rfl ?_
      refine g_get gClX10 5 (by decide) fl_X10_23 dX10_eat_405 (ho_199 _ _) rfl rfl ?_
      refine g_iconst (v := 2) dX10_eat_408 (by decide) rfl ?_
      refine g_dup2 dX10_eat_409 rfl rfl rfl ?_
      refine g_iald (ha_204 _ _) (vinc (by decide)) dX10_eat_410 rfl ?_
      refine g_iload_n dX10_eat_411 rfl rfl rfl ?_
      refine g_iadd dX10_eat_412 rfl ?_
      refine g_iast (ha_204 _ _) (vinc (by decide)) pa_204 dX10_eat_413 rfl ?_
      refine g_aload_n dX10_eat_414 rfl rfl rfl ?_
      refine g_get gClX10 5 (by decide) fl_X10_23 dX10_eat_415 (ho_199 _ _) rfl rfl ?_
      refine g_iconst (v := 3) dX10_eat_418 (by decide) rfl ?_
      refine g_dup2 dX10_eat_419 rfl rfl rfl ?_
      refine g_iald (ha_204 _ _) (vinc (by decide)) dX10_eat_420 rfl ?_
      refine g_iload dX10_eat_421 rfl rfl ?_
      refine g_iadd dX10_eat_423 rfl ?_
      refine g_iast (ha_204 _ _) (vinc (by decide)) pa_204 dX10_eat_424 rfl ?_
      refine g_aload_n dX10_eat_425 rfl rfl rfl ?_
      refine g_get gClX10 5 (by decide) fl_X10_23 dX10_eat_426 (ho_199 _ _) rfl rfl ?_
      refine g_iconst (v := 4) dX10_eat_429 (by decide) rfl ?_
      refine g_dup2 dX10_eat_430 rfl rfl rfl ?_
      refine g_iald (ha_204 _ _) (vinc (by decide)) dX10_eat_431 rfl ?_
      refine g_iload dX10_eat_432 rfl rfl ?_
      refine g_iadd dX10_eat_434 rfl ?_
      refine g_iast (ha_204 _ _) (vinc (by decide)) pa_204 dX10_eat_435 rfl ?_
      refine g_aload_n dX10_eat_436 rfl rfl rfl ?_
      refine g_get gClX10 5 (by decide) fl_X10_23 dX10_eat_437 (ho_199 _ _) rfl rfl ?_
      refine g_iconst (v := 5) dX10_eat_440 (by decide) rfl ?_
      refine g_dup2 dX10_eat_441 rfl rfl rfl ?_
      refine g_iald (ha_204 _ _) (vinc (by decide)) dX10_eat_442 rfl ?_
      refine g_iload dX10_eat_443 rfl rfl ?_
      refine g_iadd dX10_eat_445 rfl ?_
      refine g_iast (ha_204 _ _) (vinc (by decide)) pa_204 dX10_eat_446 rfl ?_
      refine g_aload_n dX10_eat_447 rfl rfl rfl ?_
      refine g_get gClX10 5 (by decide) fl_X10_23 dX10_eat_448 (ho_199 _ _) rfl rfl ?_
      refine g_bipush (v := 6) dX10_eat_451 (by decide) rfl ?_
      refine g_dup2 dX10_eat_453 rfl rfl rfl ?_
      refine g_iald (ha_204 _ _) (vinc (by decide)) dX10_eat_454 rfl ?_
      refine g_iload dX10_eat_455 rfl rfl ?_
      refine g_iadd dX10_eat_457 rfl ?_
      refine g_iast (ha_204 _ _) (vinc (by decide)) pa_204 dX10_eat_458 rfl ?_
      refine g_aload_n dX10_eat_459 rfl rfl rfl ?_
      refine g_get gClX10 5 (by decide) fl_X10_23 dX10_eat_460 (ho_199 _ _) rfl rfl ?_
      refine g_bipush (v := 7) dX10_eat_463 (by decide) rfl ?_
      refine g_dup2 dX10_eat_465 rfl rfl rfl ?_
      refine g_iald (ha_204 _ _) (vinc (by decide)) dX10_eat_466 rfl ?_
      refine g_iload dX10_eat_467 rfl rfl ?_
      refine g_iadd dX10_eat_469 rfl ?_
      refine g_iast (ha_204 _ _) (vinc (by decide)) pa_204 dX10_eat_470 rfl ?_
      subst hF
      exact g_vret rfl dX10_eat_471 (Nat.le_of_ble_eq_true rfl) (Nat.le_of_ble_eq_true rfl) ⟨rfl, rfl⟩
    · replace hF := ite_n hF c3
      try replace hQ := ite_r hQ c3
      refine g_iload dX10_eat_255 rfl rfl ?_
      refine g_iload dX10_eat_257 rfl rfl ?_
      refine g_bipush (v := 6) dX10_eat_259 (by decide) rfl ?_
      refine g_calls mt_X10_turn ms_X10_turn ml_X10_134 (c_X10_turn l g _ _) rfl (Nat.le_of_ble_eq_true rfl) (Nat.le_of_ble_eq_true rfl) (Nat.le_of_ble_eq_true rfl) (Nat.le_of_ble_eq_true rfl) rfl (Nat.le_of_ble_eq_true rfl) dX10_eat_261 rfl (fun r12 hr12 pr12 => ?_)
      obtain ⟨rfl, rfl⟩ := pr12
      refine g_iload dX10_eat_264 rfl rfl ?_
      refine g_bipush (v := 11) dX10_eat_266 (by decide) rfl ?_
      refine g_calls mt_X10_turn ms_X10_turn ml_X10_134 (c_X10_turn l g _ _) rfl (Nat.le_of_ble_eq_true rfl) (Nat.le_of_ble_eq_true rfl) (Nat.le_of_ble_eq_true rfl) (Nat.le_of_ble_eq_true rfl) rfl (Nat.le_of_ble_eq_true rfl) dX10_eat_268 rfl (fun r13 hr13 pr13 => ?_)
      obtain ⟨rfl, rfl⟩ := pr13
      refine g_ixor dX10_eat_271 rfl ?_
      refine g_iload dX10_eat_272 rfl rfl ?_
      refine g_bipush (v := 25) dX10_eat_274 (by decide) rfl ?_
      refine g_calls mt_X10_turn ms_X10_turn ml_X10_134 (c_X10_turn l g _ _) rfl (Nat.le_of_ble_eq_true rfl) (Nat.le_of_ble_eq_true rfl) (Nat.le_of_ble_eq_true rfl) (Nat.le_of_ble_eq_true rfl) rfl (Nat.le_of_ble_eq_true rfl) dX10_eat_276 rfl (fun r14 hr14 pr14 => ?_)
      obtain ⟨rfl, rfl⟩ := pr14
      refine g_ixor dX10_eat_279 rfl ?_
      refine g_iadd dX10_eat_280 rfl ?_
      refine g_iload dX10_eat_281 rfl rfl ?_
      refine g_iload dX10_eat_283 rfl rfl ?_
      refine g_iand dX10_eat_285 rfl ?_
      refine g_iload dX10_eat_286 rfl rfl ?_
      refine g_iconst (v := (-1)) dX10_eat_288 (by decide) rfl ?_
      refine g_ixor dX10_eat_289 rfl ?_
      refine g_iload dX10_eat_290 rfl rfl ?_
      refine g_iand dX10_eat_292 rfl ?_
      refine g_ixor dX10_eat_293 rfl ?_
      refine g_iadd dX10_eat_294 rfl ?_
      refine g_aload_n dX10_eat_295 rfl rfl rfl ?_
      refine g_get gClX10 3 (by decide) fl_X10_17 dX10_eat_296 (ho_199 _ _) rfl rfl ?_
      refine g_iload dX10_eat_299 rfl rfl ?_
      have o15 := hQ.1
      replace hQ := hQ.2
      refine g_iald (ha_202 _ _) o15 dX10_eat_301 rfl ?_
      refine g_iadd dX10_eat_302 rfl ?_
      refine g_aload_n dX10_eat_303 rfl rfl rfl ?_
      refine g_get gClX10 6 (by decide) fl_X10_26 dX10_eat_304 (ho_199 _ _) rfl rfl ?_
      refine g_iload dX10_eat_307 rfl rfl ?_
      have o16 := hQ.1
      replace hQ := hQ.2
      refine g_iald (ha_205 _ _) o16 dX10_eat_309 rfl ?_
      refine g_iadd dX10_eat_310 rfl ?_
      refine g_istoreL (L1 := [(0, _), (1, _), (2, _), (3, _), (4, _), (5, _), (6, _), (7, _), (8, _), (9, _), (10, _)]) dX10_eat_311 (by decide) rfl rfl ?_
      refine g_iload_n dX10_eat_313 rfl rfl rfl ?_
      refine g_iconst (v := 2) dX10_eat_314 (by decide) rfl ?_
      refine g_calls mt_X10_turn ms_X10_turn ml_X10_134 (c_X10_turn l g _ _) rfl (Nat.le_of_ble_eq_true rfl) (Nat.le_of_ble_eq_true rfl) (Nat.le_of_ble_eq_true rfl) (Nat.le_of_ble_eq_true rfl) rfl (Nat.le_of_ble_eq_true rfl) dX10_eat_315 rfl (fun r18 hr18 pr18 => ?_)
      obtain ⟨rfl, rfl⟩ := pr18
      refine g_iload_n dX10_eat_318 rfl rfl rfl ?_
      refine g_bipush (v := 13) dX10_eat_319 (by decide) rfl ?_
      refine g_calls mt_X10_turn ms_X10_turn ml_X10_134 (c_X10_turn l g _ _) rfl (Nat.le_of_ble_eq_true rfl) (Nat.le_of_ble_eq_true rfl) (Nat.le_of_ble_eq_true rfl) (Nat.le_of_ble_eq_true rfl) rfl (Nat.le_of_ble_eq_true rfl) dX10_eat_321 rfl (fun r19 hr19 pr19 => ?_)
      obtain ⟨rfl, rfl⟩ := pr19
      refine g_ixor dX10_eat_324 rfl ?_
      refine g_iload_n dX10_eat_325 rfl rfl rfl ?_
      refine g_bipush (v := 22) dX10_eat_326 (by decide) rfl ?_
      refine g_calls mt_X10_turn ms_X10_turn ml_X10_134 (c_X10_turn l g _ _) rfl (Nat.le_of_ble_eq_true rfl) (Nat.le_of_ble_eq_true rfl) (Nat.le_of_ble_eq_true rfl) (Nat.le_of_ble_eq_true rfl) rfl (Nat.le_of_ble_eq_true rfl) dX10_eat_328 rfl (fun r20 hr20 pr20 => ?_)
      obtain ⟨rfl, rfl⟩ := pr20
      refine g_ixor dX10_eat_331 rfl ?_
      refine g_iload_n dX10_eat_332 rfl rfl rfl ?_
      refine g_iload_n dX10_eat_333 rfl rfl rfl ?_
      refine g_iand dX10_eat_334 rfl ?_
      refine g_iload_n dX10_eat_335 rfl rfl rfl ?_
      refine g_iload_n dX10_eat_336 rfl rfl rfl ?_
      refine g_iand dX10_eat_337 rfl ?_
      refine g_ixor dX10_eat_338 rfl ?_
      refine g_iload_n dX10_eat_339 rfl rfl rfl ?_
      refine g_iload_n dX10_eat_340 rfl rfl rfl ?_
      refine g_iand dX10_eat_341 rfl ?_
      refine g_ixor dX10_eat_342 rfl ?_
      refine g_iadd dX10_eat_343 rfl ?_
      refine g_istoreL (L1 := [(0, _), (1, _), (2, _), (3, _), (4, _), (5, _), (6, _), (7, _), (8, _), (9, _), (10, _), (11, _)]) dX10_eat_344 (by decide) rfl rfl ?_
      refine g_iload dX10_eat_346 rfl rfl ?_
      refine g_istoreL (L1 := [(0, _), (1, _), (2, _), (3, _), (4, _), (5, _), (6, _), (7, _), (8, _), (9, _), (10, _), (11, _)]) dX10_eat_348 (by decide) rfl rfl ?_
      refine g_iload dX10_eat_350 rfl rfl ?_
      refine g_istoreL (L1 := [(0, _), (1, _), (2, _), (3, _), (4, _), (5, _), (6, _), (7, _), (8, _), (9, _), (10, _), (11, _)]) dX10_eat_352 (by decide) rfl rfl ?_
      refine g_iload dX10_eat_354 rfl rfl ?_
      refine g_istoreL (L1 := [(0, _), (1, _), (2, _), (3, _), (4, _), (5, _), (6, _), (7, _), (8, _), (9, _), (10, _), (11, _)]) dX10_eat_356 (by decide) rfl rfl ?_
      refine g_iload dX10_eat_358 rfl rfl ?_
      refine g_iload dX10_eat_360 rfl rfl ?_
      refine g_iadd dX10_eat_362 rfl ?_
      refine g_istoreL (L1 := [(0, _), (1, _), (2, _), (3, _), (4, _), (5, _), (6, _), (7, _), (8, _), (9, _), (10, _), (11, _)]) dX10_eat_363 (by decide) rfl rfl ?_
      refine g_iload_n dX10_eat_365 rfl rfl rfl ?_
      refine g_istoreL (L1 := [(0, _), (1, _), (2, _), (3, _), (4, _), (5, _), (6, _), (7, _), (8, _), (9, _), (10, _), (11, _)]) dX10_eat_366 (by decide) rfl rfl ?_
      refine g_iload_n dX10_eat_368 rfl rfl rfl ?_
      refine g_istoreL_n (L1 := [(0, _), (1, _), (2, _), (3, _), (4, _), (5, _), (6, _), (7, _), (8, _), (9, _), (10, _), (11, _)]) dX10_eat_369 rfl (by decide) rfl rfl ?_
      refine g_iload_n dX10_eat_370 rfl rfl rfl ?_
      refine g_istoreL_n (L1 := [(0, _), (1, _), (2, _), (3, _), (4, _), (5, _), (6, _), (7, _), (8, _), (9, _), (10, _), (11, _)]) dX10_eat_371 rfl (by decide) rfl rfl ?_
      refine g_iload dX10_eat_372 rfl rfl ?_
      refine g_iload dX10_eat_374 rfl rfl ?_
      refine g_iadd dX10_eat_376 rfl ?_
      refine g_istoreL_n (L1 := [(0, _), (1, _), (2, _), (3, _), (4, _), (5, _), (6, _), (7, _), (8, _), (9, _), (10, _), (11, _)]) dX10_eat_377 rfl (by decide) rfl rfl ?_
      refine g_iincL (L1 := [(0, _), (1, _), (2, _), (3, _), (4, _), (5, _), (6, _), (7, _), (8, _), (9, _), (10, _), (11, _)]) dX10_eat_378 rfl (by decide) rfl rfl ?_
      refine g_goto (tgt := 248) dX10_eat_381 (by decide) ?_
      refine g_sub [0, 1, 2, 3, 4, 5, 6, 7, 8, 9] rfl ?_
      exact ihL248 _ _ _ _ _ _ _ _ _ _ hQ hF
noncomputable def G_X10_eat_L89  : Nat → Int32 → gS → gS
  | 0, _, σ => σ
  | n + 1, y1, σ =>
    if (64 : Int32) ≤ y1 then
      G_X10_eat_L248  4000 (σ 204 (ix (0 : Int32))) (σ 204 (ix (1 : Int32))) (σ 204 (ix (2 : Int32))) (σ 204 (ix (3 : Int32))) (σ 204 (ix (4 : Int32))) (σ 204 (ix (5 : Int32))) (σ 204 (ix (6 : Int32))) (σ 204 (ix (7 : Int32))) (0 : Int32) σ
    else
      let v23 := (σ 205 (ix (y1 - (15 : Int32))))
      let v25 := (σ 205 (ix (y1 - (2 : Int32))))
      let s33 := (pf σ 205 (ix y1) ((((σ 205 (ix (y1 - (16 : Int32)))) + (((F_X10_turn v23 (7 : Int32)) ^^^ (F_X10_turn v23 (18 : Int32))) ^^^ (ush v23 (3 : Int32)))) + (σ 205 (ix (y1 - (7 : Int32))))) + (((F_X10_turn v25 (17 : Int32)) ^^^ (F_X10_turn v25 (19 : Int32))) ^^^ (ush v25 (10 : Int32)))) : gS)
      G_X10_eat_L89  n (y1 + Int32.ofInt (1)) s33
def QG_X10_eat_L89  : Nat → Int32 → gS → Prop
  | 0, _, _ => False
  | n + 1, y1, σ =>
    if (64 : Int32) ≤ y1 then
      (QG_X10_eat_L248  4000 (σ 204 (ix (0 : Int32))) (σ 204 (ix (1 : Int32))) (σ 204 (ix (2 : Int32))) (σ 204 (ix (3 : Int32))) (σ 204 (ix (4 : Int32))) (σ 204 (ix (5 : Int32))) (σ 204 (ix (6 : Int32))) (σ 204 (ix (7 : Int32))) (0 : Int32) σ)
    else
      (vp_in (y1 - (15 : Int32)) 64 ∧ (let v23 := (σ 205 (ix (y1 - (15 : Int32))))
      vp_in (y1 - (2 : Int32)) 64 ∧ (let v25 := (σ 205 (ix (y1 - (2 : Int32))))
      vp_in (y1 - (16 : Int32)) 64 ∧ (vp_in (y1 - (7 : Int32)) 64 ∧ (vp_in y1 64 ∧ (let s33 := (pf σ 205 (ix y1) ((((σ 205 (ix (y1 - (16 : Int32)))) + (((F_X10_turn v23 (7 : Int32)) ^^^ (F_X10_turn v23 (18 : Int32))) ^^^ (ush v23 (3 : Int32)))) + (σ 205 (ix (y1 - (7 : Int32))))) + (((F_X10_turn v25 (17 : Int32)) ^^^ (F_X10_turn v25 (19 : Int32))) ^^^ (ush v25 (10 : Int32)))) : gS)
      QG_X10_eat_L89  n (y1 + Int32.ofInt (1)) s33))))))
set_option maxHeartbeats 4000000 in
set_option maxRecDepth 100000 in
theorem t_X10_eat_L89 (l : Launch) (g : gE)  {ζ : gQ} {fr : gS} : ∀ (n : Nat) (y1 : Int32) (σ : gS), QG_X10_eat_L89  n y1 σ → G_X10_eat_L89  n y1 σ = fr → gG l g mX10_eat (rm 1 21) (gZm g (rm 1 21) (fun r h => r = none ∧ h = hp fr ζ)) 89 [(0, .ref 199), (1, .int y1)] [] (hp σ ζ) 0 0 := by
  intro n
  induction n with
  | zero => intro y1 σ hQ; exact absurd hQ (by unfold QG_X10_eat_L89; exact id)
  | succ n ihL89 =>
    intro y1 σ hQ hF
    unfold G_X10_eat_L89 at hF
    unfold QG_X10_eat_L89 at hQ
    refine g_iload_n dX10_eat_89 rfl rfl rfl ?_
    refine g_bipush (v := 64) dX10_eat_90 (by decide) rfl ?_
    refine g_icmpge (tgt := 182) dX10_eat_92 (by decide) rfl (fun c2 => ?_) (fun c2 => ?_)
    · replace hF := ite_p hF c2
      try replace hQ := ite_q hQ c2
      refine g_aload_n dX10_eat_182 rfl rfl rfl ?_
      refine g_get gClX10 5 (by decide) fl_X10_23 dX10_eat_183 (ho_199 _ _) rfl rfl ?_
      refine g_iconst (v := 0) dX10_eat_186 (by decide) rfl ?_
      refine g_iald (ha_204 _ _) (vinc (by decide)) dX10_eat_187 rfl ?_
      refine g_istoreL_n (L1 := [(0, _), (1, _)]) dX10_eat_188 rfl (by decide) rfl rfl ?_
      refine g_aload_n dX10_eat_189 rfl rfl rfl ?_
      refine g_get gClX10 5 (by decide) fl_X10_23 dX10_eat_190 (ho_199 _ _) rfl rfl ?_
      refine g_iconst (v := 1) dX10_eat_193 (by decide) rfl ?_
      refine g_iald (ha_204 _ _) (vinc (by decide)) dX10_eat_194 rfl ?_
      refine g_istoreL_n (L1 := [(0, _), (1, _), (2, _)]) dX10_eat_195 rfl (by decide) rfl rfl ?_
      refine g_aload_n dX10_eat_196 rfl rfl rfl ?_
      refine g_get gClX10 5 (by decide) fl_X10_23 dX10_eat_197 (ho_199 _ _) rfl rfl ?_
      refine g_iconst (v := 2) dX10_eat_200 (by decide) rfl ?_
      refine g_iald (ha_204 _ _) (vinc (by decide)) dX10_eat_201 rfl ?_
      refine g_istoreL_n (L1 := [(0, _), (1, _), (2, _), (3, _)]) dX10_eat_202 rfl (by decide) rfl rfl ?_
      refine g_aload_n dX10_eat_203 rfl rfl rfl ?_
      refine g_get gClX10 5 (by decide) fl_X10_23 dX10_eat_204 (ho_199 _ _) rfl rfl ?_
      refine g_iconst (v := 3) dX10_eat_207 (by decide) rfl ?_
      refine g_iald (ha_204 _ _) (vinc (by decide)) dX10_eat_208 rfl ?_
      refine g_istoreL (L1 := [(0, _), (1, _), (2, _), (3, _), (4, _)]) dX10_eat_209 (by decide) rfl rfl ?_
      refine g_aload_n dX10_eat_211 rfl rfl rfl ?_
      refine g_get gClX10 5 (by decide) fl_X10_23 dX10_eat_212 (ho_199 _ _) rfl rfl ?_
      refine g_iconst (v := 4) dX10_eat_215 (by decide) rfl ?_
      refine g_iald (ha_204 _ _) (vinc (by decide)) dX10_eat_216 rfl ?_
      refine g_istoreL (L1 := [(0, _), (1, _), (2, _), (3, _), (4, _), (5, _)]) dX10_eat_217 (by decide) rfl rfl ?_
      refine g_aload_n dX10_eat_219 rfl rfl rfl ?_
      refine g_get gClX10 5 (by decide) fl_X10_23 dX10_eat_220 (ho_199 _ _) rfl rfl ?_
      refine g_iconst (v := 5) dX10_eat_223 (by decide) rfl ?_
      refine g_iald (ha_204 _ _) (vinc (by decide)) dX10_eat_224 rfl ?_
      refine g_istoreL (L1 := [(0, _), (1, _), (2, _), (3, _), (4, _), (5, _), (6, _)]) dX10_eat_225 (by decide) rfl rfl ?_
      refine g_aload_n dX10_eat_227 rfl rfl rfl ?_
      refine g_get gClX10 5 (by decide) fl_X10_23 dX10_eat_228 (ho_199 _ _) rfl rfl ?_
      refine g_bipush (v := 6) dX10_eat_231 (by decide) rfl ?_
      refine g_iald (ha_204 _ _) (vinc (by decide)) dX10_eat_233 rfl ?_
      refine g_istoreL (L1 := [(0, _), (1, _), (2, _), (3, _), (4, _), (5, _), (6, _), (7, _)]) dX10_eat_234 (by decide) rfl rfl ?_
      refine g_aload_n dX10_eat_236 rfl rfl rfl ?_
      refine g_get gClX10 5 (by decide) fl_X10_23 dX10_eat_237 (ho_199 _ _) rfl rfl ?_
      refine g_bipush (v := 7) dX10_eat_240 (by decide) rfl ?_
      refine g_iald (ha_204 _ _) (vinc (by decide)) dX10_eat_242 rfl ?_
      refine g_istoreL (L1 := [(0, _), (1, _), (2, _), (3, _), (4, _), (5, _), (6, _), (7, _), (8, _)]) dX10_eat_243 (by decide) rfl rfl ?_
      refine g_iconst (v := 0) dX10_eat_245 (by decide) rfl ?_
      refine g_istoreL (L1 := [(0, _), (1, _), (2, _), (3, _), (4, _), (5, _), (6, _), (7, _), (8, _), (9, _)]) dX10_eat_246 (by decide) rfl rfl ?_
      refine g_sub [0, 1, 2, 3, 4, 5, 6, 7, 8, 9] rfl ?_
      exact t_X10_eat_L248 l g 4000 _ _ _ _ _ _ _ _ _ _ hQ hF
    · replace hF := ite_n hF c2
      try replace hQ := ite_r hQ c2
      refine g_aload_n dX10_eat_95 rfl rfl rfl ?_
      refine g_get gClX10 6 (by decide) fl_X10_26 dX10_eat_96 (ho_199 _ _) rfl rfl ?_
      refine g_iload_n dX10_eat_99 rfl rfl rfl ?_
      refine g_bipush (v := 15) dX10_eat_100 (by decide) rfl ?_
      refine g_isub dX10_eat_102 rfl ?_
      have o22 := hQ.1
      replace hQ := hQ.2
      refine g_iald (ha_205 _ _) o22 dX10_eat_103 rfl ?_
      refine g_istoreL_n (L1 := [(0, _), (1, _), (2, _)]) dX10_eat_104 rfl (by decide) rfl rfl ?_
      refine g_aload_n dX10_eat_105 rfl rfl rfl ?_
      refine g_get gClX10 6 (by decide) fl_X10_26 dX10_eat_106 (ho_199 _ _) rfl rfl ?_
      refine g_iload_n dX10_eat_109 rfl rfl rfl ?_
      refine g_iconst (v := 2) dX10_eat_110 (by decide) rfl ?_
      refine g_isub dX10_eat_111 rfl ?_
      have o24 := hQ.1
      replace hQ := hQ.2
      refine g_iald (ha_205 _ _) o24 dX10_eat_112 rfl ?_
      refine g_istoreL_n (L1 := [(0, _), (1, _), (2, _), (3, _)]) dX10_eat_113 rfl (by decide) rfl rfl ?_
      refine g_aload_n dX10_eat_114 rfl rfl rfl ?_
      refine g_get gClX10 6 (by decide) fl_X10_26 dX10_eat_115 (ho_199 _ _) rfl rfl ?_
      refine g_iload_n dX10_eat_118 rfl rfl rfl ?_
      refine g_aload_n dX10_eat_119 rfl rfl rfl ?_
      refine g_get gClX10 6 (by decide) fl_X10_26 dX10_eat_120 (ho_199 _ _) rfl rfl ?_
      refine g_iload_n dX10_eat_123 rfl rfl rfl ?_
      refine g_bipush (v := 16) dX10_eat_124 (by decide) rfl ?_
      refine g_isub dX10_eat_126 rfl ?_
      have o26 := hQ.1
      replace hQ := hQ.2
      refine g_iald (ha_205 _ _) o26 dX10_eat_127 rfl ?_
      refine g_iload_n dX10_eat_128 rfl rfl rfl ?_
      refine g_bipush (v := 7) dX10_eat_129 (by decide) rfl ?_
      refine g_calls mt_X10_turn ms_X10_turn ml_X10_134 (c_X10_turn l g _ _) rfl (Nat.le_of_ble_eq_true rfl) (Nat.le_of_ble_eq_true rfl) (Nat.le_of_ble_eq_true rfl) (Nat.le_of_ble_eq_true rfl) rfl (Nat.le_of_ble_eq_true rfl) dX10_eat_131 rfl (fun r27 hr27 pr27 => ?_)
      obtain ⟨rfl, rfl⟩ := pr27
      refine g_iload_n dX10_eat_134 rfl rfl rfl ?_
      refine g_bipush (v := 18) dX10_eat_135 (by decide) rfl ?_
      refine g_calls mt_X10_turn ms_X10_turn ml_X10_134 (c_X10_turn l g _ _) rfl (Nat.le_of_ble_eq_true rfl) (Nat.le_of_ble_eq_true rfl) (Nat.le_of_ble_eq_true rfl) (Nat.le_of_ble_eq_true rfl) rfl (Nat.le_of_ble_eq_true rfl) dX10_eat_137 rfl (fun r28 hr28 pr28 => ?_)
      obtain ⟨rfl, rfl⟩ := pr28
      refine g_ixor dX10_eat_140 rfl ?_
      refine g_iload_n dX10_eat_141 rfl rfl rfl ?_
      refine g_iconst (v := 3) dX10_eat_142 (by decide) rfl ?_
      refine g_iushr dX10_eat_143 rfl ?_
      refine g_ixor dX10_eat_144 rfl ?_
      refine g_iadd dX10_eat_145 rfl ?_
      refine g_aload_n dX10_eat_146 rfl rfl rfl ?_
      refine g_get gClX10 6 (by decide) fl_X10_26 dX10_eat_147 (ho_199 _ _) rfl rfl ?_
      refine g_iload_n dX10_eat_150 rfl rfl rfl ?_
      refine g_bipush (v := 7) dX10_eat_151 (by decide) rfl ?_
      refine g_isub dX10_eat_153 rfl ?_
      have o29 := hQ.1
      replace hQ := hQ.2
      refine g_iald (ha_205 _ _) o29 dX10_eat_154 rfl ?_
      refine g_iadd dX10_eat_155 rfl ?_
      refine g_iload_n dX10_eat_156 rfl rfl rfl ?_
      refine g_bipush (v := 17) dX10_eat_157 (by decide) rfl ?_
      refine g_calls mt_X10_turn ms_X10_turn ml_X10_134 (c_X10_turn l g _ _) rfl (Nat.le_of_ble_eq_true rfl) (Nat.le_of_ble_eq_true rfl) (Nat.le_of_ble_eq_true rfl) (Nat.le_of_ble_eq_true rfl) rfl (Nat.le_of_ble_eq_true rfl) dX10_eat_159 rfl (fun r30 hr30 pr30 => ?_)
      obtain ⟨rfl, rfl⟩ := pr30
      refine g_iload_n dX10_eat_162 rfl rfl rfl ?_
      refine g_bipush (v := 19) dX10_eat_163 (by decide) rfl ?_
      refine g_calls mt_X10_turn ms_X10_turn ml_X10_134 (c_X10_turn l g _ _) rfl (Nat.le_of_ble_eq_true rfl) (Nat.le_of_ble_eq_true rfl) (Nat.le_of_ble_eq_true rfl) (Nat.le_of_ble_eq_true rfl) rfl (Nat.le_of_ble_eq_true rfl) dX10_eat_165 rfl (fun r31 hr31 pr31 => ?_)
      obtain ⟨rfl, rfl⟩ := pr31
      refine g_ixor dX10_eat_168 rfl ?_
      refine g_iload_n dX10_eat_169 rfl rfl rfl ?_
      refine g_bipush (v := 10) dX10_eat_170 (by decide) rfl ?_
      refine g_iushr dX10_eat_172 rfl ?_
      refine g_ixor dX10_eat_173 rfl ?_
      refine g_iadd dX10_eat_174 rfl ?_
      have o32 := hQ.1
      replace hQ := hQ.2
      refine g_iast (ha_205 _ _) o32 pa_205 dX10_eat_175 rfl ?_
      refine g_iincL (L1 := [(0, _), (1, _), (2, _), (3, _)]) dX10_eat_176 rfl (by decide) rfl rfl ?_
      refine g_goto (tgt := 89) dX10_eat_179 (by decide) ?_
      refine g_sub [0, 1] rfl ?_
      exact ihL89 _ _ hQ hF
noncomputable def G_X10_eat_L2  : Nat → Int32 → gS → gS
  | 0, _, σ => σ
  | n + 1, y1, σ =>
    if (16 : Int32) ≤ y1 then
      G_X10_eat_L89  4000 (16 : Int32) σ
    else
      let s39 := (pf σ 205 (ix y1) ((((((σ 206 (ix ((4 : Int32) * y1))) &&& (255 : Int32)) <<< ((24 : Int32) &&& 31)) ||| (((σ 206 (ix (((4 : Int32) * y1) + (1 : Int32)))) &&& (255 : Int32)) <<< ((16 : Int32) &&& 31))) ||| (((σ 206 (ix (((4 : Int32) * y1) + (2 : Int32)))) &&& (255 : Int32)) <<< ((8 : Int32) &&& 31))) ||| ((σ 206 (ix (((4 : Int32) * y1) + (3 : Int32)))) &&& (255 : Int32))) : gS)
      G_X10_eat_L2  n (y1 + Int32.ofInt (1)) s39
def QG_X10_eat_L2  : Nat → Int32 → gS → Prop
  | 0, _, _ => False
  | n + 1, y1, σ =>
    if (16 : Int32) ≤ y1 then
      (QG_X10_eat_L89  4000 (16 : Int32) σ)
    else
      (vp_in ((4 : Int32) * y1) 64 ∧ (vp_in (((4 : Int32) * y1) + (1 : Int32)) 64 ∧ (vp_in (((4 : Int32) * y1) + (2 : Int32)) 64 ∧ (vp_in (((4 : Int32) * y1) + (3 : Int32)) 64 ∧ (vp_in y1 64 ∧ (let s39 := (pf σ 205 (ix y1) ((((((σ 206 (ix ((4 : Int32) * y1))) &&& (255 : Int32)) <<< ((24 : Int32) &&& 31)) ||| (((σ 206 (ix (((4 : Int32) * y1) + (1 : Int32)))) &&& (255 : Int32)) <<< ((16 : Int32) &&& 31))) ||| (((σ 206 (ix (((4 : Int32) * y1) + (2 : Int32)))) &&& (255 : Int32)) <<< ((8 : Int32) &&& 31))) ||| ((σ 206 (ix (((4 : Int32) * y1) + (3 : Int32)))) &&& (255 : Int32))) : gS)
      QG_X10_eat_L2  n (y1 + Int32.ofInt (1)) s39))))))
set_option maxHeartbeats 4000000 in
set_option maxRecDepth 100000 in
theorem t_X10_eat_L2 (l : Launch) (g : gE)  {ζ : gQ} {fr : gS} : ∀ (n : Nat) (y1 : Int32) (σ : gS), QG_X10_eat_L2  n y1 σ → G_X10_eat_L2  n y1 σ = fr → gG l g mX10_eat (rm 1 21) (gZm g (rm 1 21) (fun r h => r = none ∧ h = hp fr ζ)) 2 [(0, .ref 199), (1, .int y1)] [] (hp σ ζ) 0 0 := by
  intro n
  induction n with
  | zero => intro y1 σ hQ; exact absurd hQ (by unfold QG_X10_eat_L2; exact id)
  | succ n ihL2 =>
    intro y1 σ hQ hF
    unfold G_X10_eat_L2 at hF
    unfold QG_X10_eat_L2 at hQ
    refine g_iload_n dX10_eat_2 rfl rfl rfl ?_
    refine g_bipush (v := 16) dX10_eat_3 (by decide) rfl ?_
    refine g_icmpge (tgt := 86) dX10_eat_5 (by decide) rfl (fun c1 => ?_) (fun c1 => ?_)
    · replace hF := ite_p hF c1
      try replace hQ := ite_q hQ c1
      refine g_bipush (v := 16) dX10_eat_86 (by decide) rfl ?_
      refine g_istoreL_n (L1 := [(0, _), (1, _)]) dX10_eat_88 rfl (by decide) rfl rfl ?_
      refine g_sub [0, 1] rfl ?_
      exact t_X10_eat_L89 l g 4000 _ _ hQ hF
    · replace hF := ite_n hF c1
      try replace hQ := ite_r hQ c1
      refine g_aload_n dX10_eat_8 rfl rfl rfl ?_
      refine g_get gClX10 6 (by decide) fl_X10_26 dX10_eat_9 (ho_199 _ _) rfl rfl ?_
      refine g_iload_n dX10_eat_12 rfl rfl rfl ?_
      refine g_aload_n dX10_eat_13 rfl rfl rfl ?_
      refine g_get gClX10 7 (by decide) fl_X10_29 dX10_eat_14 (ho_199 _ _) rfl rfl ?_
      refine g_iconst (v := 4) dX10_eat_17 (by decide) rfl ?_
      refine g_iload_n dX10_eat_18 rfl rfl rfl ?_
      refine g_imul dX10_eat_19 rfl ?_
      have o34 := hQ.1
      replace hQ := hQ.2
      refine g_bald (ha_206 _ _) o34 dX10_eat_20 rfl ?_
      refine g_sipush (v := 255) dX10_eat_21 (by decide) rfl ?_
      refine g_iand dX10_eat_24 rfl ?_
      refine g_bipush (v := 24) dX10_eat_25 (by decide) rfl ?_
      refine g_ishl dX10_eat_27 rfl ?_
      refine g_aload_n dX10_eat_28 rfl rfl rfl ?_
      refine g_get gClX10 7 (by decide) fl_X10_29 dX10_eat_29 (ho_199 _ _) rfl rfl ?_
      refine g_iconst (v := 4) dX10_eat_32 (by decide) rfl ?_
      refine g_iload_n dX10_eat_33 rfl rfl rfl ?_
      refine g_imul dX10_eat_34 rfl ?_
      refine g_iconst (v := 1) dX10_eat_35 (by decide) rfl ?_
      refine g_iadd dX10_eat_36 rfl ?_
      have o35 := hQ.1
      replace hQ := hQ.2
      refine g_bald (ha_206 _ _) o35 dX10_eat_37 rfl ?_
      refine g_sipush (v := 255) dX10_eat_38 (by decide) rfl ?_
      refine g_iand dX10_eat_41 rfl ?_
      refine g_bipush (v := 16) dX10_eat_42 (by decide) rfl ?_
      refine g_ishl dX10_eat_44 rfl ?_
      refine g_ior dX10_eat_45 rfl ?_
      refine g_aload_n dX10_eat_46 rfl rfl rfl ?_
      refine g_get gClX10 7 (by decide) fl_X10_29 dX10_eat_47 (ho_199 _ _) rfl rfl ?_
      refine g_iconst (v := 4) dX10_eat_50 (by decide) rfl ?_
      refine g_iload_n dX10_eat_51 rfl rfl rfl ?_
      refine g_imul dX10_eat_52 rfl ?_
      refine g_iconst (v := 2) dX10_eat_53 (by decide) rfl ?_
      refine g_iadd dX10_eat_54 rfl ?_
      have o36 := hQ.1
      replace hQ := hQ.2
      refine g_bald (ha_206 _ _) o36 dX10_eat_55 rfl ?_
      refine g_sipush (v := 255) dX10_eat_56 (by decide) rfl ?_
      refine g_iand dX10_eat_59 rfl ?_
      refine g_bipush (v := 8) dX10_eat_60 (by decide) rfl ?_
      refine g_ishl dX10_eat_62 rfl ?_
      refine g_ior dX10_eat_63 rfl ?_
      refine g_aload_n dX10_eat_64 rfl rfl rfl ?_
      refine g_get gClX10 7 (by decide) fl_X10_29 dX10_eat_65 (ho_199 _ _) rfl rfl ?_
      refine g_iconst (v := 4) dX10_eat_68 (by decide) rfl ?_
      refine g_iload_n dX10_eat_69 rfl rfl rfl ?_
      refine g_imul dX10_eat_70 rfl ?_
      refine g_iconst (v := 3) dX10_eat_71 (by decide) rfl ?_
      refine g_iadd dX10_eat_72 rfl ?_
      have o37 := hQ.1
      replace hQ := hQ.2
      refine g_bald (ha_206 _ _) o37 dX10_eat_73 rfl ?_
      refine g_sipush (v := 255) dX10_eat_74 (by decide) rfl ?_
      refine g_iand dX10_eat_77 rfl ?_
      refine g_ior dX10_eat_78 rfl ?_
      have o38 := hQ.1
      replace hQ := hQ.2
      refine g_iast (ha_205 _ _) o38 pa_205 dX10_eat_79 rfl ?_
      refine g_iincL (L1 := [(0, _), (1, _)]) dX10_eat_80 rfl (by decide) rfl rfl ?_
      refine g_goto (tgt := 2) dX10_eat_83 (by decide) ?_
      refine g_sub [0, 1] rfl ?_
      exact ihL2 _ _ hQ hF
noncomputable def Fr_X10_eat (σ : gS)  : gS :=
  G_X10_eat_L2  4000 (0 : Int32) σ
noncomputable def F_X10_eat : gS → gS := Classical.choose (⟨Fr_X10_eat, rfl⟩ : ∃ f : gS → gS, f = Fr_X10_eat)
theorem F_X10_eat_eq : F_X10_eat = Fr_X10_eat := Classical.choose_spec (⟨Fr_X10_eat, rfl⟩ : ∃ f : gS → gS, f = Fr_X10_eat)
def Q_X10_eat (σ : gS)  : Prop :=
  QG_X10_eat_L2  4000 (0 : Int32) σ
set_option maxHeartbeats 4000000 in
set_option maxRecDepth 100000 in
theorem c_X10_eat (l : Launch) (g : gE)  {σ : gS} {ζ : gQ}  (hQ : Q_X10_eat σ ) : gC l g mX10_eat (rm 1 21) [.ref 199] (hp σ ζ) (fun r h => r = none ∧ h = hp (F_X10_eat σ ) ζ) := by
  refine gC_of (by decide) (Nat.le_of_ble_eq_true rfl) ?_
  generalize hF : (F_X10_eat σ ) = fr
  rw [F_X10_eat_eq] at hF
  unfold Fr_X10_eat at hF
  unfold Q_X10_eat at hQ
  refine g_iconst (v := 0) dX10_eat_0 (by decide) rfl ?_
  refine g_istoreL_n (L1 := [(0, _), (1, _)]) dX10_eat_1 rfl (by decide) rfl rfl ?_
  refine g_sub [0, 1] rfl ?_
  exact t_X10_eat_L2 l g 4000 _ _ hQ hF
noncomputable def G_X10_hash_L227 (ak Nk ar Nr : Nat) (p1 : Int32) (p2 : Int32) (p4 : Int32) (p5 : Int32) : Nat → Int32 → Int64 → Int32 → gS → gS
  | 0, _, _, _, σ => σ
  | n + 1, y7, y8, y10, σ =>
    if (32 : Int32) ≤ y10 then
      σ
    else
      let s13 := (pf σ 207 (ix y10) ((σ 204 (ix (y10 / (4 : Int32)))) >>> (((24 : Int32) - ((8 : Int32) * (rem32 y10 (4 : Int32)))) &&& 31)).toInt8.toInt32.toInt8.toInt32 : gS)
      G_X10_hash_L227 ak Nk ar Nr p1 p2 p4 p5 n y7 y8 (y10 + Int32.ofInt (1)) s13
def QG_X10_hash_L227 (ak Nk ar Nr : Nat) (p1 : Int32) (p2 : Int32) (p4 : Int32) (p5 : Int32) : Nat → Int32 → Int64 → Int32 → gS → Prop
  | 0, _, _, _, _ => False
  | n + 1, y7, y8, y10, σ =>
    if (32 : Int32) ≤ y10 then
      (True)
    else
      (vp_in (y10 / (4 : Int32)) 8 ∧ (vp_in y10 32 ∧ (let s13 := (pf σ 207 (ix y10) ((σ 204 (ix (y10 / (4 : Int32)))) >>> (((24 : Int32) - ((8 : Int32) * (rem32 y10 (4 : Int32)))) &&& 31)).toInt8.toInt32.toInt8.toInt32 : gS)
      QG_X10_hash_L227 ak Nk ar Nr p1 p2 p4 p5 n y7 y8 (y10 + Int32.ofInt (1)) s13)))
set_option maxHeartbeats 4000000 in
set_option maxRecDepth 100000 in
theorem t_X10_hash_L227 (l : Launch) (g : gE) {ak Nk ar Nr : Nat} {p1 : Int32} {p2 : Int32} {p4 : Int32} {p5 : Int32} (hA : isA ak Nk) (hA2 : isA ar Nr) {ζ : gQ} {fr : gS} : ∀ (n : Nat) (y7 : Int32) (y8 : Int64) (y10 : Int32) (σ : gS), QG_X10_hash_L227 ak Nk ar Nr p1 p2 p4 p5 n y7 y8 y10 σ → G_X10_hash_L227 ak Nk ar Nr p1 p2 p4 p5 n y7 y8 y10 σ = fr → gG l g mX10_hash (rm 3 94) (gZm g (rm 3 94) (fun r h => r = none ∧ h = hp fr ζ)) 227 [(0, .ref 199), (1, .ref ak), (2, .int p1), (3, .int p2), (4, .ref ar), (5, .int p4), (6, .int p5), (7, .int y7), (8, .long y8), (10, .int y10)] [] (hp σ ζ) 0 0 := by
  intro n
  induction n with
  | zero => intro y7 y8 y10 σ hQ; exact absurd hQ (by unfold QG_X10_hash_L227; exact id)
  | succ n ihL227 =>
    intro y7 y8 y10 σ hQ hF
    unfold G_X10_hash_L227 at hF
    unfold QG_X10_hash_L227 at hQ
    refine g_iload dX10_hash_227 rfl rfl ?_
    refine g_bipush (v := 32) dX10_hash_229 (by decide) rfl ?_
    refine g_icmpge (tgt := 268) dX10_hash_231 (by decide) rfl (fun c10 => ?_) (fun c10 => ?_)
    · replace hF := ite_p hF c10
      try replace hQ := ite_q hQ c10
      subst hF
      exact g_vret rfl dX10_hash_268 (Nat.le_of_ble_eq_true rfl) (Nat.le_of_ble_eq_true rfl) ⟨rfl, rfl⟩
    · replace hF := ite_n hF c10
      try replace hQ := ite_r hQ c10
      refine g_aload_n dX10_hash_234 rfl rfl rfl ?_
      refine g_get gClX10 8 (by decide) fl_X10_32 dX10_hash_235 (ho_199 _ _) rfl rfl ?_
      refine g_iload dX10_hash_238 rfl rfl ?_
      refine g_aload_n dX10_hash_240 rfl rfl rfl ?_
      refine g_get gClX10 5 (by decide) fl_X10_23 dX10_hash_241 (ho_199 _ _) rfl rfl ?_
      refine g_iload dX10_hash_244 rfl rfl ?_
      refine g_iconst (v := 4) dX10_hash_246 (by decide) rfl ?_
      refine g_idiv dX10_hash_247 (by decide) rfl ?_
      have o11 := hQ.1
      replace hQ := hQ.2
      refine g_iald (ha_204 _ _) o11 dX10_hash_248 rfl ?_
      refine g_bipush (v := 24) dX10_hash_249 (by decide) rfl ?_
      refine g_bipush (v := 8) dX10_hash_251 (by decide) rfl ?_
      refine g_iload dX10_hash_253 rfl rfl ?_
      refine g_iconst (v := 4) dX10_hash_255 (by decide) rfl ?_
      refine g_irem dX10_hash_256 (by decide) rfl ?_
      refine g_imul dX10_hash_257 rfl ?_
      refine g_isub dX10_hash_258 rfl ?_
      refine g_ishr dX10_hash_259 rfl ?_
      refine g_i2b dX10_hash_260 rfl ?_
      have o12 := hQ.1
      replace hQ := hQ.2
      refine g_bast (ha_207 _ _) o12 pa_207 dX10_hash_261 rfl ?_
      refine g_iincL (L1 := [(0, _), (1, _), (2, _), (3, _), (4, _), (5, _), (6, _), (7, _), (8, _), (10, _)]) dX10_hash_262 rfl (by decide) rfl rfl ?_
      refine g_goto (tgt := 227) dX10_hash_265 (by decide) ?_
      refine g_sub [0, 1, 2, 3, 4, 5, 6, 7, 8, 9] rfl ?_
      exact ihL227 _ _ _ _ hQ hF
noncomputable def G_X10_hash_L123 (ak Nk ar Nr : Nat) (p1 : Int32) (p2 : Int32) (p4 : Int32) (p5 : Int32) : Nat → Int32 → Int64 → Int32 → gS → gS
  | 0, _, _, _, σ => σ
  | n + 1, y7, y8, y10, σ =>
    if y7 ≤ y10 then
      G_X10_hash_L227 ak Nk ar Nr p1 p2 p4 p5 4000 y7 y8 (0 : Int32) σ
    else
      if p5 ≤ y10 then
        if y10 = p5 then
          let s31 := (pf σ 206 (ix (rem32 y10 (64 : Int32))) (128 : Int32).toInt8.toInt32.toInt8.toInt32 : gS)
          if (rem32 y10 (64 : Int32)) = (63 : Int32) then
            let s35 := (F_X10_eat s31 )
            G_X10_hash_L123 ak Nk ar Nr p1 p2 p4 p5 n y7 y8 (y10 + Int32.ofInt (1)) s35
          else
            G_X10_hash_L123 ak Nk ar Nr p1 p2 p4 p5 n y7 y8 (y10 + Int32.ofInt (1)) s31
        else
          if y10 < (y7 - (8 : Int32)) then
            let s18 := (pf σ 206 (ix (rem32 y10 (64 : Int32))) (0 : Int32).toInt8.toInt32.toInt8.toInt32 : gS)
            if (rem32 y10 (64 : Int32)) = (63 : Int32) then
              let s22 := (F_X10_eat s18 )
              G_X10_hash_L123 ak Nk ar Nr p1 p2 p4 p5 n y7 y8 (y10 + Int32.ofInt (1)) s22
            else
              G_X10_hash_L123 ak Nk ar Nr p1 p2 p4 p5 n y7 y8 (y10 + Int32.ofInt (1)) s18
          else
            let v23 := (ushl y8 ((8 : Int32) * ((y7 - (1 : Int32)) - y10))).toInt32
            let s25 := (pf σ 206 (ix (rem32 y10 (64 : Int32))) v23.toInt8.toInt32.toInt8.toInt32 : gS)
            if (rem32 y10 (64 : Int32)) = (63 : Int32) then
              let s29 := (F_X10_eat s25 )
              G_X10_hash_L123 ak Nk ar Nr p1 p2 p4 p5 n y7 y8 (y10 + Int32.ofInt (1)) s29
            else
              G_X10_hash_L123 ak Nk ar Nr p1 p2 p4 p5 n y7 y8 (y10 + Int32.ofInt (1)) s25
      else
        let s38 := (pf σ 206 (ix (rem32 y10 (64 : Int32))) (σ ar (ix (p4 + y10))).toInt8.toInt32.toInt8.toInt32 : gS)
        if (rem32 y10 (64 : Int32)) = (63 : Int32) then
          let s42 := (F_X10_eat s38 )
          G_X10_hash_L123 ak Nk ar Nr p1 p2 p4 p5 n y7 y8 (y10 + Int32.ofInt (1)) s42
        else
          G_X10_hash_L123 ak Nk ar Nr p1 p2 p4 p5 n y7 y8 (y10 + Int32.ofInt (1)) s38
def QG_X10_hash_L123 (ak Nk ar Nr : Nat) (p1 : Int32) (p2 : Int32) (p4 : Int32) (p5 : Int32) : Nat → Int32 → Int64 → Int32 → gS → Prop
  | 0, _, _, _, _ => False
  | n + 1, y7, y8, y10, σ =>
    if y7 ≤ y10 then
      (QG_X10_hash_L227 ak Nk ar Nr p1 p2 p4 p5 4000 y7 y8 (0 : Int32) σ)
    else
      (if p5 ≤ y10 then
        (if y10 = p5 then
          (vp_in (rem32 y10 (64 : Int32)) 64 ∧ (let s31 := (pf σ 206 (ix (rem32 y10 (64 : Int32))) (128 : Int32).toInt8.toInt32.toInt8.toInt32 : gS)
          if (rem32 y10 (64 : Int32)) = (63 : Int32) then
            ((Q_X10_eat s31 ) ∧ (let s35 := (F_X10_eat s31 )
            QG_X10_hash_L123 ak Nk ar Nr p1 p2 p4 p5 n y7 y8 (y10 + Int32.ofInt (1)) s35))
          else
            (QG_X10_hash_L123 ak Nk ar Nr p1 p2 p4 p5 n y7 y8 (y10 + Int32.ofInt (1)) s31)))
        else
          (if y10 < (y7 - (8 : Int32)) then
            (vp_in (rem32 y10 (64 : Int32)) 64 ∧ (let s18 := (pf σ 206 (ix (rem32 y10 (64 : Int32))) (0 : Int32).toInt8.toInt32.toInt8.toInt32 : gS)
            if (rem32 y10 (64 : Int32)) = (63 : Int32) then
              ((Q_X10_eat s18 ) ∧ (let s22 := (F_X10_eat s18 )
              QG_X10_hash_L123 ak Nk ar Nr p1 p2 p4 p5 n y7 y8 (y10 + Int32.ofInt (1)) s22))
            else
              (QG_X10_hash_L123 ak Nk ar Nr p1 p2 p4 p5 n y7 y8 (y10 + Int32.ofInt (1)) s18)))
          else
            (let v23 := (ushl y8 ((8 : Int32) * ((y7 - (1 : Int32)) - y10))).toInt32
            vp_in (rem32 y10 (64 : Int32)) 64 ∧ (let s25 := (pf σ 206 (ix (rem32 y10 (64 : Int32))) v23.toInt8.toInt32.toInt8.toInt32 : gS)
            if (rem32 y10 (64 : Int32)) = (63 : Int32) then
              ((Q_X10_eat s25 ) ∧ (let s29 := (F_X10_eat s25 )
              QG_X10_hash_L123 ak Nk ar Nr p1 p2 p4 p5 n y7 y8 (y10 + Int32.ofInt (1)) s29))
            else
              (QG_X10_hash_L123 ak Nk ar Nr p1 p2 p4 p5 n y7 y8 (y10 + Int32.ofInt (1)) s25)))))
      else
        (vp_in (p4 + y10) Nr ∧ (vp_in (rem32 y10 (64 : Int32)) 64 ∧ (let s38 := (pf σ 206 (ix (rem32 y10 (64 : Int32))) (σ ar (ix (p4 + y10))).toInt8.toInt32.toInt8.toInt32 : gS)
        if (rem32 y10 (64 : Int32)) = (63 : Int32) then
          ((Q_X10_eat s38 ) ∧ (let s42 := (F_X10_eat s38 )
          QG_X10_hash_L123 ak Nk ar Nr p1 p2 p4 p5 n y7 y8 (y10 + Int32.ofInt (1)) s42))
        else
          (QG_X10_hash_L123 ak Nk ar Nr p1 p2 p4 p5 n y7 y8 (y10 + Int32.ofInt (1)) s38)))))
set_option maxHeartbeats 4000000 in
set_option maxRecDepth 100000 in
theorem t_X10_hash_L123 (l : Launch) (g : gE) {ak Nk ar Nr : Nat} {p1 : Int32} {p2 : Int32} {p4 : Int32} {p5 : Int32} (hA : isA ak Nk) (hA2 : isA ar Nr) {ζ : gQ} {fr : gS} : ∀ (n : Nat) (y7 : Int32) (y8 : Int64) (y10 : Int32) (σ : gS), QG_X10_hash_L123 ak Nk ar Nr p1 p2 p4 p5 n y7 y8 y10 σ → G_X10_hash_L123 ak Nk ar Nr p1 p2 p4 p5 n y7 y8 y10 σ = fr → gG l g mX10_hash (rm 3 94) (gZm g (rm 3 94) (fun r h => r = none ∧ h = hp fr ζ)) 123 [(0, .ref 199), (1, .ref ak), (2, .int p1), (3, .int p2), (4, .ref ar), (5, .int p4), (6, .int p5), (7, .int y7), (8, .long y8), (10, .int y10)] [] (hp σ ζ) 0 0 := by
  intro n
  induction n with
  | zero => intro y7 y8 y10 σ hQ; exact absurd hQ (by unfold QG_X10_hash_L123; exact id)
  | succ n ihL123 =>
    intro y7 y8 y10 σ hQ hF
    unfold G_X10_hash_L123 at hF
    unfold QG_X10_hash_L123 at hQ
    refine g_iload dX10_hash_123 rfl rfl ?_
    refine g_iload dX10_hash_125 rfl rfl ?_
    refine g_icmpge (tgt := 224) dX10_hash_127 (by decide) rfl (fun c9 => ?_) (fun c9 => ?_)
    · replace hF := ite_p hF c9
      try replace hQ := ite_q hQ c9
      refine g_iconst (v := 0) dX10_hash_224 (by decide) rfl ?_
      refine g_istoreL (L1 := [(0, _), (1, _), (2, _), (3, _), (4, _), (5, _), (6, _), (7, _), (8, _), (10, _)]) dX10_hash_225 (by decide) rfl rfl ?_
      refine g_sub [0, 1, 2, 3, 4, 5, 6, 7, 8, 9] rfl ?_
      exact t_X10_hash_L227 l g hA hA2 4000 _ _ _ _ hQ hF
    · replace hF := ite_n hF c9
      try replace hQ := ite_r hQ c9
      refine g_iload dX10_hash_130 rfl rfl ?_
      refine g_iload dX10_hash_132 rfl rfl ?_
      refine g_icmpge (tgt := 148) dX10_hash_134 (by decide) rfl (fun c14 => ?_) (fun c14 => ?_)
      · replace hF := ite_p hF c14
        try replace hQ := ite_q hQ c14
        refine g_iload dX10_hash_148 rfl rfl ?_
        refine g_iload dX10_hash_150 rfl rfl ?_
        refine g_icmpne (tgt := 161) dX10_hash_152 (by decide) rfl (fun c15 => ?_) (fun c15 => ?_)
        · replace hF := ite_n hF c15
          try replace hQ := ite_r hQ c15
          refine g_iload dX10_hash_161 rfl rfl ?_
          refine g_iload dX10_hash_163 rfl rfl ?_
          refine g_bipush (v := 8) dX10_hash_165 (by decide) rfl ?_
          refine g_isub dX10_hash_167 rfl ?_
          refine g_icmplt (tgt := 188) dX10_hash_168 (by decide) rfl (fun c16 => ?_) (fun c16 => ?_)
          · replace hF := ite_p hF c16
            try replace hQ := ite_q hQ c16
            refine g_iconst (v := 0) dX10_hash_188 (by decide) rfl ?_
            refine g_istoreL (L1 := [(0, _), (1, _), (2, _), (3, _), (4, _), (5, _), (6, _), (7, _), (8, _), (10, _), (11, _)]) dX10_hash_189 (by decide) rfl rfl ?_
            refine g_aload_n dX10_hash_191 rfl rfl rfl ?_
            refine g_get gClX10 7 (by decide) fl_X10_29 dX10_hash_192 (ho_199 _ _) rfl rfl ?_
            refine g_iload dX10_hash_195 rfl rfl ?_
            refine g_bipush (v := 64) dX10_hash_197 (by decide) rfl ?_
            refine g_irem dX10_hash_199 (by decide) rfl ?_
            refine g_iload dX10_hash_200 rfl rfl ?_
            refine g_i2b dX10_hash_202 rfl ?_
            have o17 := hQ.1
            replace hQ := hQ.2
            refine g_bast (ha_206 _ _) o17 pa_206 dX10_hash_203 rfl ?_
            refine g_iload dX10_hash_204 rfl rfl ?_
            refine g_bipush (v := 64) dX10_hash_206 (by decide) rfl ?_
            refine g_irem dX10_hash_208 (by decide) rfl ?_
            refine g_bipush (v := 63) dX10_hash_209 (by decide) rfl ?_
            refine g_icmpne (tgt := 218) dX10_hash_211 (by decide) rfl (fun c19 => ?_) (fun c19 => ?_)
            · replace hF := ite_n hF c19
              try replace hQ := ite_r hQ c19
              refine g_iincL (L1 := [(0, _), (1, _), (2, _), (3, _), (4, _), (5, _), (6, _), (7, _), (8, _), (10, _), (11, _)]) dX10_hash_218 rfl (by decide) rfl rfl ?_
              refine g_goto (tgt := 123) dX10_hash_221 (by decide) ?_
              refine g_sub [0, 1, 2, 3, 4, 5, 6, 7, 8, 9] rfl ?_
              exact ihL123 _ _ _ _ hQ hF
            · replace hF := ite_p hF c19
              try replace hQ := ite_q hQ c19
              refine g_aload_n dX10_hash_214 rfl rfl rfl ?_
              have o20 := hQ.1
              replace hQ := hQ.2
              refine g_callv mv_X10_eat ml_X10_141 (c_X10_eat l g o20) (ho_199 _ _) rfl rfl (Nat.le_of_ble_eq_true rfl) (Nat.le_of_ble_eq_true rfl) (Nat.le_of_ble_eq_true rfl) (Nat.le_of_ble_eq_true rfl) rfl (Nat.le_of_ble_eq_true rfl) dX10_hash_215 rfl (fun r21 hr21 pr21 => ?_)
              obtain ⟨rfl, rfl⟩ := pr21
              refine g_iincL (L1 := [(0, _), (1, _), (2, _), (3, _), (4, _), (5, _), (6, _), (7, _), (8, _), (10, _), (11, _)]) dX10_hash_218 rfl (by decide) rfl rfl ?_
              refine g_goto (tgt := 123) dX10_hash_221 (by decide) ?_
              refine g_sub [0, 1, 2, 3, 4, 5, 6, 7, 8, 9] rfl ?_
              exact ihL123 _ _ _ _ hQ hF
          · replace hF := ite_n hF c16
            try replace hQ := ite_r hQ c16
            refine g_lload dX10_hash_171 rfl rfl ?_
            refine g_bipush (v := 8) dX10_hash_173 (by decide) rfl ?_
            refine g_iload dX10_hash_175 rfl rfl ?_
            refine g_iconst (v := 1) dX10_hash_177 (by decide) rfl ?_
            refine g_isub dX10_hash_178 rfl ?_
            refine g_iload dX10_hash_179 rfl rfl ?_
            refine g_isub dX10_hash_181 rfl ?_
            refine g_imul dX10_hash_182 rfl ?_
            refine g_lushr dX10_hash_183 rfl ?_
            refine g_l2i dX10_hash_184 rfl ?_
            refine g_goto (tgt := 189) dX10_hash_185 (by decide) ?_
            refine g_istoreL (L1 := [(0, _), (1, _), (2, _), (3, _), (4, _), (5, _), (6, _), (7, _), (8, _), (10, _), (11, _)]) dX10_hash_189 (by decide) rfl rfl ?_
            refine g_aload_n dX10_hash_191 rfl rfl rfl ?_
            refine g_get gClX10 7 (by decide) fl_X10_29 dX10_hash_192 (ho_199 _ _) rfl rfl ?_
            refine g_iload dX10_hash_195 rfl rfl ?_
            refine g_bipush (v := 64) dX10_hash_197 (by decide) rfl ?_
            refine g_irem dX10_hash_199 (by decide) rfl ?_
            refine g_iload dX10_hash_200 rfl rfl ?_
            refine g_i2b dX10_hash_202 rfl ?_
            have o24 := hQ.1
            replace hQ := hQ.2
            refine g_bast (ha_206 _ _) o24 pa_206 dX10_hash_203 rfl ?_
            refine g_iload dX10_hash_204 rfl rfl ?_
            refine g_bipush (v := 64) dX10_hash_206 (by decide) rfl ?_
            refine g_irem dX10_hash_208 (by decide) rfl ?_
            refine g_bipush (v := 63) dX10_hash_209 (by decide) rfl ?_
            refine g_icmpne (tgt := 218) dX10_hash_211 (by decide) rfl (fun c26 => ?_) (fun c26 => ?_)
            · replace hF := ite_n hF c26
              try replace hQ := ite_r hQ c26
              refine g_iincL (L1 := [(0, _), (1, _), (2, _), (3, _), (4, _), (5, _), (6, _), (7, _), (8, _), (10, _), (11, _)]) dX10_hash_218 rfl (by decide) rfl rfl ?_
              refine g_goto (tgt := 123) dX10_hash_221 (by decide) ?_
              refine g_sub [0, 1, 2, 3, 4, 5, 6, 7, 8, 9] rfl ?_
              exact ihL123 _ _ _ _ hQ hF
            · replace hF := ite_p hF c26
              try replace hQ := ite_q hQ c26
              refine g_aload_n dX10_hash_214 rfl rfl rfl ?_
              have o27 := hQ.1
              replace hQ := hQ.2
              refine g_callv mv_X10_eat ml_X10_141 (c_X10_eat l g o27) (ho_199 _ _) rfl rfl (Nat.le_of_ble_eq_true rfl) (Nat.le_of_ble_eq_true rfl) (Nat.le_of_ble_eq_true rfl) (Nat.le_of_ble_eq_true rfl) rfl (Nat.le_of_ble_eq_true rfl) dX10_hash_215 rfl (fun r28 hr28 pr28 => ?_)
              obtain ⟨rfl, rfl⟩ := pr28
              refine g_iincL (L1 := [(0, _), (1, _), (2, _), (3, _), (4, _), (5, _), (6, _), (7, _), (8, _), (10, _), (11, _)]) dX10_hash_218 rfl (by decide) rfl rfl ?_
              refine g_goto (tgt := 123) dX10_hash_221 (by decide) ?_
              refine g_sub [0, 1, 2, 3, 4, 5, 6, 7, 8, 9] rfl ?_
              exact ihL123 _ _ _ _ hQ hF
        · replace hF := ite_p hF c15
          try replace hQ := ite_q hQ c15
          refine g_sipush (v := 128) dX10_hash_155 (by decide) rfl ?_
          refine g_goto (tgt := 189) dX10_hash_158 (by decide) ?_
          refine g_istoreL (L1 := [(0, _), (1, _), (2, _), (3, _), (4, _), (5, _), (6, _), (7, _), (8, _), (10, _), (11, _)]) dX10_hash_189 (by decide) rfl rfl ?_
          refine g_aload_n dX10_hash_191 rfl rfl rfl ?_
          refine g_get gClX10 7 (by decide) fl_X10_29 dX10_hash_192 (ho_199 _ _) rfl rfl ?_
          refine g_iload dX10_hash_195 rfl rfl ?_
          refine g_bipush (v := 64) dX10_hash_197 (by decide) rfl ?_
          refine g_irem dX10_hash_199 (by decide) rfl ?_
          refine g_iload dX10_hash_200 rfl rfl ?_
          refine g_i2b dX10_hash_202 rfl ?_
          have o30 := hQ.1
          replace hQ := hQ.2
          refine g_bast (ha_206 _ _) o30 pa_206 dX10_hash_203 rfl ?_
          refine g_iload dX10_hash_204 rfl rfl ?_
          refine g_bipush (v := 64) dX10_hash_206 (by decide) rfl ?_
          refine g_irem dX10_hash_208 (by decide) rfl ?_
          refine g_bipush (v := 63) dX10_hash_209 (by decide) rfl ?_
          refine g_icmpne (tgt := 218) dX10_hash_211 (by decide) rfl (fun c32 => ?_) (fun c32 => ?_)
          · replace hF := ite_n hF c32
            try replace hQ := ite_r hQ c32
            refine g_iincL (L1 := [(0, _), (1, _), (2, _), (3, _), (4, _), (5, _), (6, _), (7, _), (8, _), (10, _), (11, _)]) dX10_hash_218 rfl (by decide) rfl rfl ?_
            refine g_goto (tgt := 123) dX10_hash_221 (by decide) ?_
            refine g_sub [0, 1, 2, 3, 4, 5, 6, 7, 8, 9] rfl ?_
            exact ihL123 _ _ _ _ hQ hF
          · replace hF := ite_p hF c32
            try replace hQ := ite_q hQ c32
            refine g_aload_n dX10_hash_214 rfl rfl rfl ?_
            have o33 := hQ.1
            replace hQ := hQ.2
            refine g_callv mv_X10_eat ml_X10_141 (c_X10_eat l g o33) (ho_199 _ _) rfl rfl (Nat.le_of_ble_eq_true rfl) (Nat.le_of_ble_eq_true rfl) (Nat.le_of_ble_eq_true rfl) (Nat.le_of_ble_eq_true rfl) rfl (Nat.le_of_ble_eq_true rfl) dX10_hash_215 rfl (fun r34 hr34 pr34 => ?_)
            obtain ⟨rfl, rfl⟩ := pr34
            refine g_iincL (L1 := [(0, _), (1, _), (2, _), (3, _), (4, _), (5, _), (6, _), (7, _), (8, _), (10, _), (11, _)]) dX10_hash_218 rfl (by decide) rfl rfl ?_
            refine g_goto (tgt := 123) dX10_hash_221 (by decide) ?_
            refine g_sub [0, 1, 2, 3, 4, 5, 6, 7, 8, 9] rfl ?_
            exact ihL123 _ _ _ _ hQ hF
      · replace hF := ite_n hF c14
        try replace hQ := ite_r hQ c14
        refine g_aload dX10_hash_137 rfl rfl ?_
        refine g_iload dX10_hash_139 rfl rfl ?_
        refine g_iload dX10_hash_141 rfl rfl ?_
        refine g_iadd dX10_hash_143 rfl ?_
        have o36 := hQ.1
        replace hQ := hQ.2
        refine g_bald (hA2.a _ ζ) o36 dX10_hash_144 rfl ?_
        refine g_goto (tgt := 189) dX10_hash_145 (by decide) ?_
        refine g_istoreL (L1 := [(0, _), (1, _), (2, _), (3, _), (4, _), (5, _), (6, _), (7, _), (8, _), (10, _), (11, _)]) dX10_hash_189 (by decide) rfl rfl ?_
        refine g_aload_n dX10_hash_191 rfl rfl rfl ?_
        refine g_get gClX10 7 (by decide) fl_X10_29 dX10_hash_192 (ho_199 _ _) rfl rfl ?_
        refine g_iload dX10_hash_195 rfl rfl ?_
        refine g_bipush (v := 64) dX10_hash_197 (by decide) rfl ?_
        refine g_irem dX10_hash_199 (by decide) rfl ?_
        refine g_iload dX10_hash_200 rfl rfl ?_
        refine g_i2b dX10_hash_202 rfl ?_
        have o37 := hQ.1
        replace hQ := hQ.2
        refine g_bast (ha_206 _ _) o37 pa_206 dX10_hash_203 rfl ?_
        refine g_iload dX10_hash_204 rfl rfl ?_
        refine g_bipush (v := 64) dX10_hash_206 (by decide) rfl ?_
        refine g_irem dX10_hash_208 (by decide) rfl ?_
        refine g_bipush (v := 63) dX10_hash_209 (by decide) rfl ?_
        refine g_icmpne (tgt := 218) dX10_hash_211 (by decide) rfl (fun c39 => ?_) (fun c39 => ?_)
        · replace hF := ite_n hF c39
          try replace hQ := ite_r hQ c39
          refine g_iincL (L1 := [(0, _), (1, _), (2, _), (3, _), (4, _), (5, _), (6, _), (7, _), (8, _), (10, _), (11, _)]) dX10_hash_218 rfl (by decide) rfl rfl ?_
          refine g_goto (tgt := 123) dX10_hash_221 (by decide) ?_
          refine g_sub [0, 1, 2, 3, 4, 5, 6, 7, 8, 9] rfl ?_
          exact ihL123 _ _ _ _ hQ hF
        · replace hF := ite_p hF c39
          try replace hQ := ite_q hQ c39
          refine g_aload_n dX10_hash_214 rfl rfl rfl ?_
          have o40 := hQ.1
          replace hQ := hQ.2
          refine g_callv mv_X10_eat ml_X10_141 (c_X10_eat l g o40) (ho_199 _ _) rfl rfl (Nat.le_of_ble_eq_true rfl) (Nat.le_of_ble_eq_true rfl) (Nat.le_of_ble_eq_true rfl) (Nat.le_of_ble_eq_true rfl) rfl (Nat.le_of_ble_eq_true rfl) dX10_hash_215 rfl (fun r41 hr41 pr41 => ?_)
          obtain ⟨rfl, rfl⟩ := pr41
          refine g_iincL (L1 := [(0, _), (1, _), (2, _), (3, _), (4, _), (5, _), (6, _), (7, _), (8, _), (10, _), (11, _)]) dX10_hash_218 rfl (by decide) rfl rfl ?_
          refine g_goto (tgt := 123) dX10_hash_221 (by decide) ?_
          refine g_sub [0, 1, 2, 3, 4, 5, 6, 7, 8, 9] rfl ?_
          exact ihL123 _ _ _ _ hQ hF
noncomputable def G_X10_hash_L44 (ak Nk ar Nr : Nat) (p1 : Int32) (p2 : Int32) (p4 : Int32) (p5 : Int32) : Nat → Int32 → gS → gS
  | 0, _, σ => σ
  | n + 1, y7, σ =>
    if (64 : Int32) ≤ y7 then
      let s6 := (F_X10_eat σ )
      let v7 := ((((p5 + (9 : Int32)) + (63 : Int32)) / (64 : Int32)) * (64 : Int32))
      let v8 := ((8 : Int64) * ((64 : Int32) + p5).toInt64)
      G_X10_hash_L123 ak Nk ar Nr p1 p2 p4 p5 4000 v7 v8 (0 : Int32) s6
    else
      if (16 : Int32) ≤ y7 then
        let s45 := (pf σ 206 (ix y7) ((0 : Int32) ^^^ p2).toInt8.toInt32.toInt8.toInt32 : gS)
        G_X10_hash_L44 ak Nk ar Nr p1 p2 p4 p5 n (y7 + Int32.ofInt (1)) s45
      else
        let s48 := (pf σ 206 (ix y7) ((σ ak (ix (p1 + y7))) ^^^ p2).toInt8.toInt32.toInt8.toInt32 : gS)
        G_X10_hash_L44 ak Nk ar Nr p1 p2 p4 p5 n (y7 + Int32.ofInt (1)) s48
def QG_X10_hash_L44 (ak Nk ar Nr : Nat) (p1 : Int32) (p2 : Int32) (p4 : Int32) (p5 : Int32) : Nat → Int32 → gS → Prop
  | 0, _, _ => False
  | n + 1, y7, σ =>
    if (64 : Int32) ≤ y7 then
      ((Q_X10_eat σ ) ∧ (let s6 := (F_X10_eat σ )
      let v7 := ((((p5 + (9 : Int32)) + (63 : Int32)) / (64 : Int32)) * (64 : Int32))
      let v8 := ((8 : Int64) * ((64 : Int32) + p5).toInt64)
      QG_X10_hash_L123 ak Nk ar Nr p1 p2 p4 p5 4000 v7 v8 (0 : Int32) s6))
    else
      (if (16 : Int32) ≤ y7 then
        (vp_in y7 64 ∧ (let s45 := (pf σ 206 (ix y7) ((0 : Int32) ^^^ p2).toInt8.toInt32.toInt8.toInt32 : gS)
        QG_X10_hash_L44 ak Nk ar Nr p1 p2 p4 p5 n (y7 + Int32.ofInt (1)) s45))
      else
        (vp_in (p1 + y7) Nk ∧ (vp_in y7 64 ∧ (let s48 := (pf σ 206 (ix y7) ((σ ak (ix (p1 + y7))) ^^^ p2).toInt8.toInt32.toInt8.toInt32 : gS)
        QG_X10_hash_L44 ak Nk ar Nr p1 p2 p4 p5 n (y7 + Int32.ofInt (1)) s48))))
set_option maxHeartbeats 4000000 in
set_option maxRecDepth 100000 in
theorem t_X10_hash_L44 (l : Launch) (g : gE) {ak Nk ar Nr : Nat} {p1 : Int32} {p2 : Int32} {p4 : Int32} {p5 : Int32} (hA : isA ak Nk) (hA2 : isA ar Nr) {ζ : gQ} {fr : gS} : ∀ (n : Nat) (y7 : Int32) (σ : gS), QG_X10_hash_L44 ak Nk ar Nr p1 p2 p4 p5 n y7 σ → G_X10_hash_L44 ak Nk ar Nr p1 p2 p4 p5 n y7 σ = fr → gG l g mX10_hash (rm 3 94) (gZm g (rm 3 94) (fun r h => r = none ∧ h = hp fr ζ)) 44 [(0, .ref 199), (1, .ref ak), (2, .int p1), (3, .int p2), (4, .ref ar), (5, .int p4), (6, .int p5), (7, .int y7)] [] (hp σ ζ) 0 0 := by
  intro n
  induction n with
  | zero => intro y7 σ hQ; exact absurd hQ (by unfold QG_X10_hash_L44; exact id)
  | succ n ihL44 =>
    intro y7 σ hQ hF
    unfold G_X10_hash_L44 at hF
    unfold QG_X10_hash_L44 at hQ
    refine g_iload dX10_hash_44 rfl rfl ?_
    refine g_bipush (v := 64) dX10_hash_46 (by decide) rfl ?_
    refine g_icmpge (tgt := 84) dX10_hash_48 (by decide) rfl (fun c3 => ?_) (fun c3 => ?_)
    · replace hF := ite_p hF c3
      try replace hQ := ite_q hQ c3
      refine g_aload_n dX10_hash_84 rfl rfl rfl ?_
      have o4 := hQ.1
      replace hQ := hQ.2
      refine g_callv mv_X10_eat ml_X10_141 (c_X10_eat l g o4) (ho_199 _ _) rfl rfl (Nat.le_of_ble_eq_true rfl) (Nat.le_of_ble_eq_true rfl) (Nat.le_of_ble_eq_true rfl) (Nat.le_of_ble_eq_true rfl) rfl (Nat.le_of_ble_eq_true rfl) dX10_hash_85 rfl (fun r5 hr5 pr5 => ?_)
      obtain ⟨rfl, rfl⟩ := pr5
      refine g_iload dX10_hash_88 rfl rfl ?_
      refine g_bipush (v := 9) dX10_hash_90 (by decide) rfl ?_
      refine g_iadd dX10_hash_92 rfl ?_
      refine g_istoreL (L1 := [(0, _), (1, _), (2, _), (3, _), (4, _), (5, _), (6, _), (7, _)]) dX10_hash_93 (by decide) rfl rfl ?_
      refine g_iload dX10_hash_95 rfl rfl ?_
      refine g_bipush (v := 63) dX10_hash_97 (by decide) rfl ?_
      refine g_iadd dX10_hash_99 rfl ?_
      refine g_bipush (v := 64) dX10_hash_100 (by decide) rfl ?_
      refine g_idiv dX10_hash_102 (by decide) rfl ?_
      refine g_bipush (v := 64) dX10_hash_103 (by decide) rfl ?_
      refine g_imul dX10_hash_105 rfl ?_
      refine g_istoreL (L1 := [(0, _), (1, _), (2, _), (3, _), (4, _), (5, _), (6, _), (7, _)]) dX10_hash_106 (by decide) rfl rfl ?_
      refine g_ldc2 kl_X10_144 dX10_hash_108 rfl ?_
      refine g_bipush (v := 64) dX10_hash_111 (by decide) rfl ?_
      refine g_iload dX10_hash_113 rfl rfl ?_
      refine g_iadd dX10_hash_115 rfl ?_
      refine g_i2l dX10_hash_116 rfl ?_
      refine g_lmul dX10_hash_117 rfl ?_
      refine g_lstoreL (L1 := [(0, _), (1, _), (2, _), (3, _), (4, _), (5, _), (6, _), (7, _), (8, _)]) dX10_hash_118 (by decide) rfl rfl ?_
      refine g_iconst (v := 0) dX10_hash_120 (by decide) rfl ?_
      refine g_istoreL (L1 := [(0, _), (1, _), (2, _), (3, _), (4, _), (5, _), (6, _), (7, _), (8, _), (10, _)]) dX10_hash_121 (by decide) rfl rfl ?_
      refine g_sub [0, 1, 2, 3, 4, 5, 6, 7, 8, 9] rfl ?_
      exact t_X10_hash_L123 l g hA hA2 4000 _ _ _ _ hQ hF
    · replace hF := ite_n hF c3
      try replace hQ := ite_r hQ c3
      refine g_aload_n dX10_hash_51 rfl rfl rfl ?_
      refine g_get gClX10 7 (by decide) fl_X10_29 dX10_hash_52 (ho_199 _ _) rfl rfl ?_
      refine g_iload dX10_hash_55 rfl rfl ?_
      refine g_iload dX10_hash_57 rfl rfl ?_
      refine g_bipush (v := 16) dX10_hash_59 (by decide) rfl ?_
      refine g_icmpge (tgt := 73) dX10_hash_61 (by decide) rfl (fun c43 => ?_) (fun c43 => ?_)
      · replace hF := ite_p hF c43
        try replace hQ := ite_q hQ c43
        refine g_iconst (v := 0) dX10_hash_73 (by decide) rfl ?_
        refine g_iload_n dX10_hash_74 rfl rfl rfl ?_
        refine g_ixor dX10_hash_75 rfl ?_
        refine g_i2b dX10_hash_76 rfl ?_
        have o44 := hQ.1
        replace hQ := hQ.2
        refine g_bast (ha_206 _ _) o44 pa_206 dX10_hash_77 rfl ?_
        refine g_iincL (L1 := [(0, _), (1, _), (2, _), (3, _), (4, _), (5, _), (6, _), (7, _)]) dX10_hash_78 rfl (by decide) rfl rfl ?_
        refine g_goto (tgt := 44) dX10_hash_81 (by decide) ?_
        refine g_sub [0, 1, 2, 3, 4, 5, 6, 7] rfl ?_
        exact ihL44 _ _ hQ hF
      · replace hF := ite_n hF c43
        try replace hQ := ite_r hQ c43
        refine g_aload_n dX10_hash_64 rfl rfl rfl ?_
        refine g_iload_n dX10_hash_65 rfl rfl rfl ?_
        refine g_iload dX10_hash_66 rfl rfl ?_
        refine g_iadd dX10_hash_68 rfl ?_
        have o46 := hQ.1
        replace hQ := hQ.2
        refine g_bald (hA.a _ ζ) o46 dX10_hash_69 rfl ?_
        refine g_goto (tgt := 74) dX10_hash_70 (by decide) ?_
        refine g_iload_n dX10_hash_74 rfl rfl rfl ?_
        refine g_ixor dX10_hash_75 rfl ?_
        refine g_i2b dX10_hash_76 rfl ?_
        have o47 := hQ.1
        replace hQ := hQ.2
        refine g_bast (ha_206 _ _) o47 pa_206 dX10_hash_77 rfl ?_
        refine g_iincL (L1 := [(0, _), (1, _), (2, _), (3, _), (4, _), (5, _), (6, _), (7, _)]) dX10_hash_78 rfl (by decide) rfl rfl ?_
        refine g_goto (tgt := 44) dX10_hash_81 (by decide) ?_
        refine g_sub [0, 1, 2, 3, 4, 5, 6, 7] rfl ?_
        exact ihL44 _ _ hQ hF
noncomputable def G_X10_hash_L14 (ak Nk ar Nr : Nat) (p1 : Int32) (p2 : Int32) (p4 : Int32) (p5 : Int32) : Nat → Int32 → gS → gS
  | 0, _, σ => σ
  | n + 1, y7, σ =>
    if (8 : Int32) ≤ y7 then
      G_X10_hash_L44 ak Nk ar Nr p1 p2 p4 p5 4000 (0 : Int32) σ
    else
      let s51 := (pf σ 204 (ix y7) (σ 203 (ix y7)) : gS)
      G_X10_hash_L14 ak Nk ar Nr p1 p2 p4 p5 n (y7 + Int32.ofInt (1)) s51
def QG_X10_hash_L14 (ak Nk ar Nr : Nat) (p1 : Int32) (p2 : Int32) (p4 : Int32) (p5 : Int32) : Nat → Int32 → gS → Prop
  | 0, _, _ => False
  | n + 1, y7, σ =>
    if (8 : Int32) ≤ y7 then
      (QG_X10_hash_L44 ak Nk ar Nr p1 p2 p4 p5 4000 (0 : Int32) σ)
    else
      (vp_in y7 8 ∧ (vp_in y7 8 ∧ (let s51 := (pf σ 204 (ix y7) (σ 203 (ix y7)) : gS)
      QG_X10_hash_L14 ak Nk ar Nr p1 p2 p4 p5 n (y7 + Int32.ofInt (1)) s51)))
set_option maxHeartbeats 4000000 in
set_option maxRecDepth 100000 in
theorem t_X10_hash_L14 (l : Launch) (g : gE) {ak Nk ar Nr : Nat} {p1 : Int32} {p2 : Int32} {p4 : Int32} {p5 : Int32} (hA : isA ak Nk) (hA2 : isA ar Nr) {ζ : gQ} {fr : gS} : ∀ (n : Nat) (y7 : Int32) (σ : gS), QG_X10_hash_L14 ak Nk ar Nr p1 p2 p4 p5 n y7 σ → G_X10_hash_L14 ak Nk ar Nr p1 p2 p4 p5 n y7 σ = fr → gG l g mX10_hash (rm 3 94) (gZm g (rm 3 94) (fun r h => r = none ∧ h = hp fr ζ)) 14 [(0, .ref 199), (1, .ref ak), (2, .int p1), (3, .int p2), (4, .ref ar), (5, .int p4), (6, .int p5), (7, .int y7)] [] (hp σ ζ) 0 0 := by
  intro n
  induction n with
  | zero => intro y7 σ hQ; exact absurd hQ (by unfold QG_X10_hash_L14; exact id)
  | succ n ihL14 =>
    intro y7 σ hQ hF
    unfold G_X10_hash_L14 at hF
    unfold QG_X10_hash_L14 at hQ
    refine g_iload dX10_hash_14 rfl rfl ?_
    refine g_bipush (v := 8) dX10_hash_16 (by decide) rfl ?_
    refine g_icmpge (tgt := 41) dX10_hash_18 (by decide) rfl (fun c2 => ?_) (fun c2 => ?_)
    · replace hF := ite_p hF c2
      try replace hQ := ite_q hQ c2
      refine g_iconst (v := 0) dX10_hash_41 (by decide) rfl ?_
      refine g_istoreL (L1 := [(0, _), (1, _), (2, _), (3, _), (4, _), (5, _), (6, _), (7, _)]) dX10_hash_42 (by decide) rfl rfl ?_
      refine g_sub [0, 1, 2, 3, 4, 5, 6, 7] rfl ?_
      exact t_X10_hash_L44 l g hA hA2 4000 _ _ hQ hF
    · replace hF := ite_n hF c2
      try replace hQ := ite_r hQ c2
      refine g_aload_n dX10_hash_21 rfl rfl rfl ?_
      refine g_get gClX10 5 (by decide) fl_X10_23 dX10_hash_22 (ho_199 _ _) rfl rfl ?_
      refine g_iload dX10_hash_25 rfl rfl ?_
      refine g_aload_n dX10_hash_27 rfl rfl rfl ?_
      refine g_get gClX10 4 (by decide) fl_X10_20 dX10_hash_28 (ho_199 _ _) rfl rfl ?_
      refine g_iload dX10_hash_31 rfl rfl ?_
      have o49 := hQ.1
      replace hQ := hQ.2
      refine g_iald (ha_203 _ _) o49 dX10_hash_33 rfl ?_
      have o50 := hQ.1
      replace hQ := hQ.2
      refine g_iast (ha_204 _ _) o50 pa_204 dX10_hash_34 rfl ?_
      refine g_iincL (L1 := [(0, _), (1, _), (2, _), (3, _), (4, _), (5, _), (6, _), (7, _)]) dX10_hash_35 rfl (by decide) rfl rfl ?_
      refine g_goto (tgt := 14) dX10_hash_38 (by decide) ?_
      refine g_sub [0, 1, 2, 3, 4, 5, 6, 7] rfl ?_
      exact ihL14 _ _ hQ hF
noncomputable def J_X10_hash_11 (ak Nk ar Nr : Nat) (p1 : Int32) (p2 : Int32) (p4 : Int32) (p5 : Int32) (σ : gS) : gS :=
  G_X10_hash_L14 ak Nk ar Nr p1 p2 p4 p5 4000 (0 : Int32) σ
def QJ_X10_hash_11 (ak Nk ar Nr : Nat) (p1 : Int32) (p2 : Int32) (p4 : Int32) (p5 : Int32) (σ : gS) : Prop :=
  QG_X10_hash_L14 ak Nk ar Nr p1 p2 p4 p5 4000 (0 : Int32) σ
set_option maxHeartbeats 4000000 in
set_option maxRecDepth 100000 in
theorem j_X10_hash_11 (l : Launch) (g : gE) {ak Nk ar Nr : Nat} {p1 : Int32} {p2 : Int32} {p4 : Int32} {p5 : Int32} (hA : isA ak Nk) (hA2 : isA ar Nr) {ζ : gQ} {fr : gS} : ∀ (σ : gS), QJ_X10_hash_11 ak Nk ar Nr p1 p2 p4 p5 σ → J_X10_hash_11 ak Nk ar Nr p1 p2 p4 p5 σ = fr → gG l g mX10_hash (rm 3 94) (gZm g (rm 3 94) (fun r h => r = none ∧ h = hp fr ζ)) 11 [(0, .ref 199), (1, .ref ak), (2, .int p1), (3, .int p2), (4, .ref ar), (5, .int p4), (6, .int p5)] [] (hp σ ζ) 0 0 := by
  intro σ hQ hF
  unfold J_X10_hash_11 at hF
  unfold QJ_X10_hash_11 at hQ
  refine g_iconst (v := 0) dX10_hash_11 (by decide) rfl ?_
  refine g_istoreL (L1 := [(0, _), (1, _), (2, _), (3, _), (4, _), (5, _), (6, _), (7, _)]) dX10_hash_12 (by decide) rfl rfl ?_
  refine g_sub [0, 1, 2, 3, 4, 5, 6, 7] rfl ?_
  exact t_X10_hash_L14 l g hA hA2 4000 _ _ hQ hF
noncomputable def Fr_X10_hash (σ : gS) (ak Nk ar Nr : Nat) (p1 : Int32) (p2 : Int32) (p4 : Int32) (p5 : Int32) : gS :=
  if (σ 199 10) = 0 then
    let s54 := (F_X10_prepare σ )
    J_X10_hash_11 ak Nk ar Nr p1 p2 p4 p5 s54
  else
    J_X10_hash_11 ak Nk ar Nr p1 p2 p4 p5 σ
noncomputable def F_X10_hash : gS → Nat → Nat → Nat → Nat → Int32 → Int32 → Int32 → Int32 → gS := Classical.choose (⟨Fr_X10_hash, rfl⟩ : ∃ f : gS → Nat → Nat → Nat → Nat → Int32 → Int32 → Int32 → Int32 → gS, f = Fr_X10_hash)
theorem F_X10_hash_eq : F_X10_hash = Fr_X10_hash := Classical.choose_spec (⟨Fr_X10_hash, rfl⟩ : ∃ f : gS → Nat → Nat → Nat → Nat → Int32 → Int32 → Int32 → Int32 → gS, f = Fr_X10_hash)
def Q_X10_hash (σ : gS) (ak Nk ar Nr : Nat) (p1 : Int32) (p2 : Int32) (p4 : Int32) (p5 : Int32) : Prop :=
  if (σ 199 10) = 0 then
    ((Q_X10_prepare σ ) ∧ (let s54 := (F_X10_prepare σ )
    QJ_X10_hash_11 ak Nk ar Nr p1 p2 p4 p5 s54))
  else
    (QJ_X10_hash_11 ak Nk ar Nr p1 p2 p4 p5 σ)
set_option maxHeartbeats 4000000 in
set_option maxRecDepth 100000 in
theorem c_X10_hash (l : Launch) (g : gE) {ak Nk ar Nr : Nat} (hA : isA ak Nk) (hA2 : isA ar Nr) {σ : gS} {ζ : gQ} (p1 : Int32) (p2 : Int32) (p4 : Int32) (p5 : Int32) (hQ : Q_X10_hash σ ak Nk ar Nr p1 p2 p4 p5) : gC l g mX10_hash (rm 3 94) [.ref 199, .ref ak, .int p1, .int p2, .ref ar, .int p4, .int p5] (hp σ ζ) (fun r h => r = none ∧ h = hp (F_X10_hash σ ak Nk ar Nr p1 p2 p4 p5) ζ) := by
  refine gC_of (by decide) (Nat.le_of_ble_eq_true rfl) ?_
  generalize hF : (F_X10_hash σ ak Nk ar Nr p1 p2 p4 p5) = fr
  rw [F_X10_hash_eq] at hF
  unfold Fr_X10_hash at hF
  unfold Q_X10_hash at hQ
  refine g_aload_n dX10_hash_0 rfl rfl rfl ?_
  refine g_get gClX10 10 (by decide) fl_X10_130 dX10_hash_1 (ho_199 _ _) rfl rfl ?_
  refine g_ifne (tgt := 11) dX10_hash_4 (by decide) rfl (fun c1 => ?_) (fun c1 => ?_)
  · replace hF := ite_n hF c1
    try replace hQ := ite_r hQ c1
    refine g_sub [0, 1, 2, 3, 4, 5, 6] rfl ?_
    exact j_X10_hash_11 l g hA hA2 _ hQ hF
  · replace hF := ite_p hF c1
    try replace hQ := ite_q hQ c1
    refine g_aload_n dX10_hash_7 rfl rfl rfl ?_
    have o52 := hQ.1
    replace hQ := hQ.2
    refine g_callv mv_X10_prepare ml_X10_138 (c_X10_prepare l g o52) (ho_199 _ _) rfl rfl (Nat.le_of_ble_eq_true rfl) (Nat.le_of_ble_eq_true rfl) (Nat.le_of_ble_eq_true rfl) (Nat.le_of_ble_eq_true rfl) rfl (Nat.le_of_ble_eq_true rfl) dX10_hash_8 rfl (fun r53 hr53 pr53 => ?_)
    obtain ⟨rfl, rfl⟩ := pr53
    refine g_sub [0, 1, 2, 3, 4, 5, 6] rfl ?_
    exact j_X10_hash_11 l g hA hA2 _ hQ hF
noncomputable def G_X10_sealOf_L16 (ak Nk ar Nr : Nat) (p1 : Int32) (p3 : Int32) (p4 : Int32) : Nat → Int32 → gS → gS
  | 0, _, σ => σ
  | n + 1, y6, σ =>
    if (32 : Int32) ≤ y6 then
      let s7 := (F_X10_hash σ ak Nk 208 32 p1 (92 : Int32) (0 : Int32) (32 : Int32))
      s7
    else
      let s10 := (pf σ 208 (ix y6) (σ 207 (ix y6)).toInt8.toInt32 : gS)
      G_X10_sealOf_L16 ak Nk ar Nr p1 p3 p4 n (y6 + Int32.ofInt (1)) s10
def QG_X10_sealOf_L16 (ak Nk ar Nr : Nat) (p1 : Int32) (p3 : Int32) (p4 : Int32) : Nat → Int32 → gS → Prop
  | 0, _, _ => False
  | n + 1, y6, σ =>
    if (32 : Int32) ≤ y6 then
      ((Q_X10_hash σ ak Nk 208 32 p1 (92 : Int32) (0 : Int32) (32 : Int32)) ∧ (let s7 := (F_X10_hash σ ak Nk 208 32 p1 (92 : Int32) (0 : Int32) (32 : Int32))
      True))
    else
      (vp_in y6 32 ∧ (vp_in y6 32 ∧ (let s10 := (pf σ 208 (ix y6) (σ 207 (ix y6)).toInt8.toInt32 : gS)
      QG_X10_sealOf_L16 ak Nk ar Nr p1 p3 p4 n (y6 + Int32.ofInt (1)) s10)))
set_option maxHeartbeats 4000000 in
set_option maxRecDepth 100000 in
theorem t_X10_sealOf_L16 (l : Launch) (g : gE) {ak Nk ar Nr : Nat} {p1 : Int32} {p3 : Int32} {p4 : Int32} (hA : isA ak Nk) (hA2 : isA ar Nr) {ζ : gQ} {fr : gS} : ∀ (n : Nat) (y6 : Int32) (σ : gS), QG_X10_sealOf_L16 ak Nk ar Nr p1 p3 p4 n y6 σ → G_X10_sealOf_L16 ak Nk ar Nr p1 p3 p4 n y6 σ = fr → gG l g mX10_sealOf (rm 4 125) (gZm g (rm 4 125) (fun r h => r = none ∧ h = hp fr ζ)) 16 [(0, .ref 199), (1, .ref ak), (2, .int p1), (3, .ref ar), (4, .int p3), (5, .int p4), (6, .int y6)] [] (hp σ ζ) 0 0 := by
  intro n
  induction n with
  | zero => intro y6 σ hQ; exact absurd hQ (by unfold QG_X10_sealOf_L16; exact id)
  | succ n ihL16 =>
    intro y6 σ hQ hF
    unfold G_X10_sealOf_L16 at hF
    unfold QG_X10_sealOf_L16 at hQ
    refine g_iload dX10_sealOf_16 rfl rfl ?_
    refine g_bipush (v := 32) dX10_sealOf_18 (by decide) rfl ?_
    refine g_icmpge (tgt := 43) dX10_sealOf_20 (by decide) rfl (fun c4 => ?_) (fun c4 => ?_)
    · replace hF := ite_p hF c4
      try replace hQ := ite_q hQ c4
      refine g_aload_n dX10_sealOf_43 rfl rfl rfl ?_
      refine g_aload_n dX10_sealOf_44 rfl rfl rfl ?_
      refine g_iload_n dX10_sealOf_45 rfl rfl rfl ?_
      refine g_bipush (v := 92) dX10_sealOf_46 (by decide) rfl ?_
      refine g_aload_n dX10_sealOf_48 rfl rfl rfl ?_
      refine g_get gClX10 9 (by decide) fl_X10_35 dX10_sealOf_49 (ho_199 _ _) rfl rfl ?_
      refine g_iconst (v := 0) dX10_sealOf_52 (by decide) rfl ?_
      refine g_bipush (v := 32) dX10_sealOf_53 (by decide) rfl ?_
      have o5 := hQ.1
      replace hQ := hQ.2
      refine g_callv mv_X10_hash ml_X10_146 (c_X10_hash l g hA (⟨by decide, fun _ _ => rfl⟩ : isA 208 32) _ _ _ _ o5) (ho_199 _ _) rfl rfl (Nat.le_of_ble_eq_true rfl) (Nat.le_of_ble_eq_true rfl) (Nat.le_of_ble_eq_true rfl) (Nat.le_of_ble_eq_true rfl) rfl (Nat.le_of_ble_eq_true rfl) dX10_sealOf_55 rfl (fun r6 hr6 pr6 => ?_)
      obtain ⟨rfl, rfl⟩ := pr6
      subst hF
      exact g_vret rfl dX10_sealOf_58 (Nat.le_of_ble_eq_true rfl) (Nat.le_of_ble_eq_true rfl) ⟨rfl, rfl⟩
    · replace hF := ite_n hF c4
      try replace hQ := ite_r hQ c4
      refine g_aload_n dX10_sealOf_23 rfl rfl rfl ?_
      refine g_get gClX10 9 (by decide) fl_X10_35 dX10_sealOf_24 (ho_199 _ _) rfl rfl ?_
      refine g_iload dX10_sealOf_27 rfl rfl ?_
      refine g_aload_n dX10_sealOf_29 rfl rfl rfl ?_
      refine g_get gClX10 8 (by decide) fl_X10_32 dX10_sealOf_30 (ho_199 _ _) rfl rfl ?_
      refine g_iload dX10_sealOf_33 rfl rfl ?_
      have o8 := hQ.1
      replace hQ := hQ.2
      refine g_bald (ha_207 _ _) o8 dX10_sealOf_35 rfl ?_
      have o9 := hQ.1
      replace hQ := hQ.2
      refine g_bast (ha_208 _ _) o9 pa_208 dX10_sealOf_36 rfl ?_
      refine g_iincL (L1 := [(0, _), (1, _), (2, _), (3, _), (4, _), (5, _), (6, _)]) dX10_sealOf_37 rfl (by decide) rfl rfl ?_
      refine g_goto (tgt := 16) dX10_sealOf_40 (by decide) ?_
      refine g_sub [0, 1, 2, 3, 4, 5, 6] rfl ?_
      exact ihL16 _ _ hQ hF
noncomputable def Fr_X10_sealOf (σ : gS) (ak Nk ar Nr : Nat) (p1 : Int32) (p3 : Int32) (p4 : Int32) : gS :=
  let s3 := (F_X10_hash σ ak Nk ar Nr p1 (54 : Int32) p3 p4)
  G_X10_sealOf_L16 ak Nk ar Nr p1 p3 p4 4000 (0 : Int32) s3
noncomputable def F_X10_sealOf : gS → Nat → Nat → Nat → Nat → Int32 → Int32 → Int32 → gS := Classical.choose (⟨Fr_X10_sealOf, rfl⟩ : ∃ f : gS → Nat → Nat → Nat → Nat → Int32 → Int32 → Int32 → gS, f = Fr_X10_sealOf)
theorem F_X10_sealOf_eq : F_X10_sealOf = Fr_X10_sealOf := Classical.choose_spec (⟨Fr_X10_sealOf, rfl⟩ : ∃ f : gS → Nat → Nat → Nat → Nat → Int32 → Int32 → Int32 → gS, f = Fr_X10_sealOf)
def Q_X10_sealOf (σ : gS) (ak Nk ar Nr : Nat) (p1 : Int32) (p3 : Int32) (p4 : Int32) : Prop :=
  (Q_X10_hash σ ak Nk ar Nr p1 (54 : Int32) p3 p4) ∧ (let s3 := (F_X10_hash σ ak Nk ar Nr p1 (54 : Int32) p3 p4)
  QG_X10_sealOf_L16 ak Nk ar Nr p1 p3 p4 4000 (0 : Int32) s3)
set_option maxHeartbeats 4000000 in
set_option maxRecDepth 100000 in
theorem c_X10_sealOf (l : Launch) (g : gE) {ak Nk ar Nr : Nat} (hA : isA ak Nk) (hA2 : isA ar Nr) {σ : gS} {ζ : gQ} (p1 : Int32) (p3 : Int32) (p4 : Int32) (hQ : Q_X10_sealOf σ ak Nk ar Nr p1 p3 p4) : gC l g mX10_sealOf (rm 4 125) [.ref 199, .ref ak, .int p1, .ref ar, .int p3, .int p4] (hp σ ζ) (fun r h => r = none ∧ h = hp (F_X10_sealOf σ ak Nk ar Nr p1 p3 p4) ζ) := by
  refine gC_of (by decide) (Nat.le_of_ble_eq_true rfl) ?_
  generalize hF : (F_X10_sealOf σ ak Nk ar Nr p1 p3 p4) = fr
  rw [F_X10_sealOf_eq] at hF
  unfold Fr_X10_sealOf at hF
  unfold Q_X10_sealOf at hQ
  refine g_aload_n dX10_sealOf_0 rfl rfl rfl ?_
  refine g_aload_n dX10_sealOf_1 rfl rfl rfl ?_
  refine g_iload_n dX10_sealOf_2 rfl rfl rfl ?_
  refine g_bipush (v := 54) dX10_sealOf_3 (by decide) rfl ?_
  refine g_aload_n dX10_sealOf_5 rfl rfl rfl ?_
  refine g_iload dX10_sealOf_6 rfl rfl ?_
  refine g_iload dX10_sealOf_8 rfl rfl ?_
  have o1 := hQ.1
  replace hQ := hQ.2
  refine g_callv mv_X10_hash ml_X10_146 (c_X10_hash l g hA hA2 _ _ _ _ o1) (ho_199 _ _) rfl rfl (Nat.le_of_ble_eq_true rfl) (Nat.le_of_ble_eq_true rfl) (Nat.le_of_ble_eq_true rfl) (Nat.le_of_ble_eq_true rfl) rfl (Nat.le_of_ble_eq_true rfl) dX10_sealOf_10 rfl (fun r2 hr2 pr2 => ?_)
  obtain ⟨rfl, rfl⟩ := pr2
  refine g_iconst (v := 0) dX10_sealOf_13 (by decide) rfl ?_
  refine g_istoreL (L1 := [(0, _), (1, _), (2, _), (3, _), (4, _), (5, _), (6, _)]) dX10_sealOf_14 (by decide) rfl rfl ?_
  refine g_sub [0, 1, 2, 3, 4, 5, 6] rfl ?_
  exact t_X10_sealOf_L16 l g hA hA2 4000 _ _ hQ hF
