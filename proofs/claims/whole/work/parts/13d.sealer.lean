noncomputable def G_X7_hashText_L108 (p0 : Int32) : Nat → Int32 → Int32 → gS → gS
  | 0, _, _, σ => σ
  | n + 1, y2, y3, σ =>
    if y2 ≤ y3 then
      σ
    else
      let s12 := (F_X7_spreadWords σ y3)
      let s15 := (F_X7_mixWords s12 )
      G_X7_hashText_L108 p0 n y2 (y3 + Int32.ofInt (64)) s15
def QG_X7_hashText_L108 (p0 : Int32) : Nat → Int32 → Int32 → gS → Prop
  | 0, _, _, _ => False
  | n + 1, y2, y3, σ =>
    if y2 ≤ y3 then
      (True)
    else
      ((Q_X7_spreadWords σ y3) ∧ (let s12 := (F_X7_spreadWords σ y3)
      (Q_X7_mixWords s12 ) ∧ (let s15 := (F_X7_mixWords s12 )
      QG_X7_hashText_L108 p0 n y2 (y3 + Int32.ofInt (64)) s15)))
set_option maxHeartbeats 4000000 in
set_option maxRecDepth 100000 in
theorem t_X7_hashText_L108 (l : Launch) (g : gE) {p0 : Int32} {ζ : gQ} {fr : gS} (hT : gTab g) : ∀ (n : Nat) (y2 : Int32) (y3 : Int32) (σ : gS), QG_X7_hashText_L108 p0 n y2 y3 σ → G_X7_hashText_L108 p0 n y2 y3 σ = fr → gG l g mX7_hashText (rm 1 40) (gZm g (rm 1 40) (fun r h => r = none ∧ h = hp fr ζ)) 108 [(0, .ref 7), (1, .int p0), (2, .int y2), (3, .int y3)] [] (hp σ ζ) 0 0 := by
  intro n
  induction n with
  | zero => intro y2 y3 σ hQ; exact absurd hQ (by unfold QG_X7_hashText_L108; exact id)
  | succ n ihL108 =>
    intro y2 y3 σ hQ hF
    unfold G_X7_hashText_L108 at hF
    unfold QG_X7_hashText_L108 at hQ
    refine g_iload_n dX7_hashText_108 rfl rfl rfl ?_
    refine g_iload_n dX7_hashText_109 rfl rfl rfl ?_
    refine g_icmpge (tgt := 128) dX7_hashText_110 (by decide) rfl (fun c9 => ?_) (fun c9 => ?_)
    · replace hF := ite_p hF c9
      try replace hQ := ite_q hQ c9
      subst hF
      exact g_vret rfl dX7_hashText_128 (Nat.le_of_ble_eq_true rfl) (Nat.le_of_ble_eq_true rfl) ⟨rfl, rfl⟩
    · replace hF := ite_n hF c9
      try replace hQ := ite_r hQ c9
      refine g_aload_n dX7_hashText_113 rfl rfl rfl ?_
      refine g_iload_n dX7_hashText_114 rfl rfl rfl ?_
      have o10 := hQ.1
      replace hQ := hQ.2
      refine g_callv mv_X7_spreadWords ml_X7_65 (c_X7_spreadWords l g _ o10) (ho_7 _ _) rfl rfl (Nat.le_of_ble_eq_true rfl) (Nat.le_of_ble_eq_true rfl) (Nat.le_of_ble_eq_true rfl) (Nat.le_of_ble_eq_true rfl) rfl (Nat.le_of_ble_eq_true rfl) dX7_hashText_115 rfl (fun r11 hr11 pr11 => ?_)
      obtain ⟨rfl, rfl⟩ := pr11
      refine g_aload_n dX7_hashText_118 rfl rfl rfl ?_
      have o13 := hQ.1
      replace hQ := hQ.2
      refine g_callv mv_X7_mixWords ml_X7_68 (c_X7_mixWords l g hT o13) (ho_7 _ _) rfl rfl (Nat.le_of_ble_eq_true rfl) (Nat.le_of_ble_eq_true rfl) (Nat.le_of_ble_eq_true rfl) (Nat.le_of_ble_eq_true rfl) rfl (Nat.le_of_ble_eq_true rfl) dX7_hashText_119 rfl (fun r14 hr14 pr14 => ?_)
      obtain ⟨rfl, rfl⟩ := pr14
      refine g_iincL (L1 := [(0, _), (1, _), (2, _), (3, _)]) dX7_hashText_122 rfl (by decide) rfl rfl ?_
      refine g_goto (tgt := 108) dX7_hashText_125 (by decide) ?_
      refine g_sub [0, 1, 2, 3] rfl ?_
      exact ihL108 _ _ _ hQ hF
noncomputable def G_X7_hashText_L62 (p0 : Int32) : Nat → Int32 → Int32 → gS → gS
  | 0, _, _, σ => σ
  | n + 1, y2, y3, σ =>
    if (4 : Int32) ≤ y3 then
      let s8 := (va_up σ 11 (va_cpy (tab 4) (σ 11) (ix (0 : Int32)) (ix (0 : Int32)) (ix (8 : Int32))) : gS)
      G_X7_hashText_L108 p0 4000 y2 (0 : Int32) s8
    else
      let s18 := (pf σ 9 (ix ((y2 - (4 : Int32)) + y3)) (F_X7_byteOfWord (p0 * (8 : Int32)) y3).toInt8.toInt32.toInt8.toInt32 : gS)
      G_X7_hashText_L62 p0 n y2 (y3 + Int32.ofInt (1)) s18
def QG_X7_hashText_L62 (p0 : Int32) : Nat → Int32 → Int32 → gS → Prop
  | 0, _, _, _ => False
  | n + 1, y2, y3, σ =>
    if (4 : Int32) ≤ y3 then
      (let s8 := (va_up σ 11 (va_cpy (tab 4) (σ 11) (ix (0 : Int32)) (ix (0 : Int32)) (ix (8 : Int32))) : gS)
      QG_X7_hashText_L108 p0 4000 y2 (0 : Int32) s8)
    else
      (vp_in ((y2 - (4 : Int32)) + y3) 512 ∧ (let s18 := (pf σ 9 (ix ((y2 - (4 : Int32)) + y3)) (F_X7_byteOfWord (p0 * (8 : Int32)) y3).toInt8.toInt32.toInt8.toInt32 : gS)
      QG_X7_hashText_L62 p0 n y2 (y3 + Int32.ofInt (1)) s18))
set_option maxHeartbeats 4000000 in
set_option maxRecDepth 100000 in
theorem t_X7_hashText_L62 (l : Launch) (g : gE) {p0 : Int32} {ζ : gQ} {fr : gS} (hT : gTab g) : ∀ (n : Nat) (y2 : Int32) (y3 : Int32) (σ : gS), QG_X7_hashText_L62 p0 n y2 y3 σ → G_X7_hashText_L62 p0 n y2 y3 σ = fr → gG l g mX7_hashText (rm 1 40) (gZm g (rm 1 40) (fun r h => r = none ∧ h = hp fr ζ)) 62 [(0, .ref 7), (1, .int p0), (2, .int y2), (3, .int y3)] [] (hp σ ζ) 0 0 := by
  intro n
  induction n with
  | zero => intro y2 y3 σ hQ; exact absurd hQ (by unfold QG_X7_hashText_L62; exact id)
  | succ n ihL62 =>
    intro y2 y3 σ hQ hF
    unfold G_X7_hashText_L62 at hF
    unfold QG_X7_hashText_L62 at hQ
    refine g_iload_n dX7_hashText_62 rfl rfl rfl ?_
    refine g_iconst (v := 4) dX7_hashText_63 (by decide) rfl ?_
    refine g_icmpge (tgt := 92) dX7_hashText_64 (by decide) rfl (fun c7 => ?_) (fun c7 => ?_)
    · replace hF := ite_p hF c7
      try replace hQ := ite_q hQ c7
      refine g_gets (i := 4) rfl fs_X7_62 dX7_hashText_92 rfl ?_
      refine g_iconst (v := 0) dX7_hashText_95 (by decide) rfl ?_
      refine g_aload_n dX7_hashText_96 rfl rfl rfl ?_
      refine g_get gClX7 3 (by decide) fl_X7_22 dX7_hashText_97 (ho_7 _ _) rfl rfl ?_
      refine g_iconst (v := 0) dX7_hashText_100 (by decide) rfl ?_
      refine g_bipush (v := 8) dX7_hashText_101 (by decide) rfl ?_
      refine g_cpyt cp_X7_43 (by decide) (hT 4 (by decide)) (ha_11 _ _) (by decide) (by decide) (by decide) (by decide) (by decide) (hp_put (by decide) rfl) (Nat.le_of_ble_eq_true rfl) (Nat.le_of_ble_eq_true rfl) dX7_hashText_103 rfl ?_
      refine g_iconst (v := 0) dX7_hashText_106 (by decide) rfl ?_
      refine g_istoreL_n (L1 := [(0, _), (1, _), (2, _), (3, _)]) dX7_hashText_107 rfl (by decide) rfl rfl ?_
      refine g_sub [0, 1, 2, 3] rfl ?_
      exact t_X7_hashText_L108 l g hT 4000 _ _ _ hQ hF
    · replace hF := ite_n hF c7
      try replace hQ := ite_r hQ c7
      refine g_aload_n dX7_hashText_67 rfl rfl rfl ?_
      refine g_get gClX7 1 (by decide) fl_X7_15 dX7_hashText_68 (ho_7 _ _) rfl rfl ?_
      refine g_iload_n dX7_hashText_71 rfl rfl rfl ?_
      refine g_iconst (v := 4) dX7_hashText_72 (by decide) rfl ?_
      refine g_isub dX7_hashText_73 rfl ?_
      refine g_iload_n dX7_hashText_74 rfl rfl rfl ?_
      refine g_iadd dX7_hashText_75 rfl ?_
      refine g_iload_n dX7_hashText_76 rfl rfl rfl ?_
      refine g_bipush (v := 8) dX7_hashText_77 (by decide) rfl ?_
      refine g_imul dX7_hashText_79 rfl ?_
      refine g_iload_n dX7_hashText_80 rfl rfl rfl ?_
      refine g_calls mt_X7_byteOfWord ms_X7_byteOfWord ml_X7_52 (c_X7_byteOfWord l g _ _) rfl (Nat.le_of_ble_eq_true rfl) (Nat.le_of_ble_eq_true rfl) (Nat.le_of_ble_eq_true rfl) (Nat.le_of_ble_eq_true rfl) rfl (Nat.le_of_ble_eq_true rfl) dX7_hashText_81 rfl (fun r16 hr16 pr16 => ?_)
      obtain ⟨rfl, rfl⟩ := pr16
      refine g_i2b dX7_hashText_84 rfl ?_
      have o17 := hQ.1
      replace hQ := hQ.2
      refine g_bast (ha_9 _ _) o17 pa_9 dX7_hashText_85 rfl ?_
      refine g_iincL (L1 := [(0, _), (1, _), (2, _), (3, _)]) dX7_hashText_86 rfl (by decide) rfl rfl ?_
      refine g_goto (tgt := 62) dX7_hashText_89 (by decide) ?_
      refine g_sub [0, 1, 2, 3] rfl ?_
      exact ihL62 _ _ _ hQ hF
noncomputable def G_X7_hashText_L42 (p0 : Int32) : Nat → Int32 → Int32 → gS → gS
  | 0, _, _, σ => σ
  | n + 1, y2, y3, σ =>
    if y2 ≤ y3 then
      G_X7_hashText_L62 p0 4000 y2 (0 : Int32) σ
    else
      let s20 := (pf σ 9 (ix y3) (0 : Int32).toInt8.toInt32 : gS)
      G_X7_hashText_L42 p0 n y2 (y3 + Int32.ofInt (1)) s20
def QG_X7_hashText_L42 (p0 : Int32) : Nat → Int32 → Int32 → gS → Prop
  | 0, _, _, _ => False
  | n + 1, y2, y3, σ =>
    if y2 ≤ y3 then
      (QG_X7_hashText_L62 p0 4000 y2 (0 : Int32) σ)
    else
      (vp_in y3 512 ∧ (let s20 := (pf σ 9 (ix y3) (0 : Int32).toInt8.toInt32 : gS)
      QG_X7_hashText_L42 p0 n y2 (y3 + Int32.ofInt (1)) s20))
set_option maxHeartbeats 4000000 in
set_option maxRecDepth 100000 in
theorem t_X7_hashText_L42 (l : Launch) (g : gE) {p0 : Int32} {ζ : gQ} {fr : gS} (hT : gTab g) : ∀ (n : Nat) (y2 : Int32) (y3 : Int32) (σ : gS), QG_X7_hashText_L42 p0 n y2 y3 σ → G_X7_hashText_L42 p0 n y2 y3 σ = fr → gG l g mX7_hashText (rm 1 40) (gZm g (rm 1 40) (fun r h => r = none ∧ h = hp fr ζ)) 42 [(0, .ref 7), (1, .int p0), (2, .int y2), (3, .int y3)] [] (hp σ ζ) 0 0 := by
  intro n
  induction n with
  | zero => intro y2 y3 σ hQ; exact absurd hQ (by unfold QG_X7_hashText_L42; exact id)
  | succ n ihL42 =>
    intro y2 y3 σ hQ hF
    unfold G_X7_hashText_L42 at hF
    unfold QG_X7_hashText_L42 at hQ
    refine g_iload_n dX7_hashText_42 rfl rfl rfl ?_
    refine g_iload_n dX7_hashText_43 rfl rfl rfl ?_
    refine g_icmpge (tgt := 60) dX7_hashText_44 (by decide) rfl (fun c6 => ?_) (fun c6 => ?_)
    · replace hF := ite_p hF c6
      try replace hQ := ite_q hQ c6
      refine g_iconst (v := 0) dX7_hashText_60 (by decide) rfl ?_
      refine g_istoreL_n (L1 := [(0, _), (1, _), (2, _), (3, _)]) dX7_hashText_61 rfl (by decide) rfl rfl ?_
      refine g_sub [0, 1, 2, 3] rfl ?_
      exact t_X7_hashText_L62 l g hT 4000 _ _ _ hQ hF
    · replace hF := ite_n hF c6
      try replace hQ := ite_r hQ c6
      refine g_aload_n dX7_hashText_47 rfl rfl rfl ?_
      refine g_get gClX7 1 (by decide) fl_X7_15 dX7_hashText_48 (ho_7 _ _) rfl rfl ?_
      refine g_iload_n dX7_hashText_51 rfl rfl rfl ?_
      refine g_iconst (v := 0) dX7_hashText_52 (by decide) rfl ?_
      have o19 := hQ.1
      replace hQ := hQ.2
      refine g_bast (ha_9 _ _) o19 pa_9 dX7_hashText_53 rfl ?_
      refine g_iincL (L1 := [(0, _), (1, _), (2, _), (3, _)]) dX7_hashText_54 rfl (by decide) rfl rfl ?_
      refine g_goto (tgt := 42) dX7_hashText_57 (by decide) ?_
      refine g_sub [0, 1, 2, 3] rfl ?_
      exact ihL42 _ _ _ hQ hF
noncomputable def Fr_X7_hashText (σ : gS) (p0 : Int32) : gS :=
  let v1 := (((((p0 + (9 : Int32)) + (64 : Int32)) - (1 : Int32)) / (64 : Int32)) * (64 : Int32))
  if p0 < 0 then
    σ
  else
    if v1 ≤ (nI 512) then
      let s5 := (pf σ 9 (ix p0) (-128 : Int32).toInt8.toInt32 : gS)
      G_X7_hashText_L42 p0 4000 v1 (p0 + (1 : Int32)) s5
    else
      σ
noncomputable def F_X7_hashText : gS → Int32 → gS := Classical.choose (⟨Fr_X7_hashText, rfl⟩ : ∃ f : gS → Int32 → gS, f = Fr_X7_hashText)
theorem F_X7_hashText_eq : F_X7_hashText = Fr_X7_hashText := Classical.choose_spec (⟨Fr_X7_hashText, rfl⟩ : ∃ f : gS → Int32 → gS, f = Fr_X7_hashText)
def Q_X7_hashText (σ : gS) (p0 : Int32) : Prop :=
  let v1 := (((((p0 + (9 : Int32)) + (64 : Int32)) - (1 : Int32)) / (64 : Int32)) * (64 : Int32))
  if p0 < 0 then
    (True)
  else
    (if v1 ≤ (nI 512) then
      (vp_in p0 512 ∧ (let s5 := (pf σ 9 (ix p0) (-128 : Int32).toInt8.toInt32 : gS)
      QG_X7_hashText_L42 p0 4000 v1 (p0 + (1 : Int32)) s5))
    else
      (True))
set_option maxHeartbeats 4000000 in
set_option maxRecDepth 100000 in
theorem c_X7_hashText (l : Launch) (g : gE)  (hT : gTab g) {σ : gS} {ζ : gQ} (p0 : Int32) (hQ : Q_X7_hashText σ p0) : gC l g mX7_hashText (rm 1 40) [.ref 7, .int p0] (hp σ ζ) (fun r h => r = none ∧ h = hp (F_X7_hashText σ p0) ζ) := by
  refine gC_of (by decide) (Nat.le_of_ble_eq_true rfl) ?_
  generalize hF : (F_X7_hashText σ p0) = fr
  rw [F_X7_hashText_eq] at hF
  unfold Fr_X7_hashText at hF
  unfold Q_X7_hashText at hQ
  refine g_iload_n dX7_hashText_0 rfl rfl rfl ?_
  refine g_bipush (v := 9) dX7_hashText_1 (by decide) rfl ?_
  refine g_iadd dX7_hashText_3 rfl ?_
  refine g_bipush (v := 64) dX7_hashText_4 (by decide) rfl ?_
  refine g_iadd dX7_hashText_6 rfl ?_
  refine g_iconst (v := 1) dX7_hashText_7 (by decide) rfl ?_
  refine g_isub dX7_hashText_8 rfl ?_
  refine g_bipush (v := 64) dX7_hashText_9 (by decide) rfl ?_
  refine g_idiv dX7_hashText_11 (by decide) rfl ?_
  refine g_bipush (v := 64) dX7_hashText_12 (by decide) rfl ?_
  refine g_imul dX7_hashText_14 rfl ?_
  refine g_istoreL_n (L1 := [(0, _), (1, _), (2, _)]) dX7_hashText_15 rfl (by decide) rfl rfl ?_
  refine g_iload_n dX7_hashText_16 rfl rfl rfl ?_
  refine g_iflt (tgt := 29) dX7_hashText_17 (by decide) rfl (fun c2 => ?_) (fun c2 => ?_)
  · replace hF := ite_p hF c2
    try replace hQ := ite_q hQ c2
    subst hF
    exact g_vret rfl dX7_hashText_29 (Nat.le_of_ble_eq_true rfl) (Nat.le_of_ble_eq_true rfl) ⟨rfl, rfl⟩
  · replace hF := ite_n hF c2
    try replace hQ := ite_r hQ c2
    refine g_iload_n dX7_hashText_20 rfl rfl rfl ?_
    refine g_aload_n dX7_hashText_21 rfl rfl rfl ?_
    refine g_get gClX7 1 (by decide) fl_X7_15 dX7_hashText_22 (ho_7 _ _) rfl rfl ?_
    refine g_alen (ha_9 _ _) rfl dX7_hashText_25 rfl ?_
    refine g_icmple (tgt := 30) dX7_hashText_26 (by decide) rfl (fun c3 => ?_) (fun c3 => ?_)
    · replace hF := ite_p hF c3
      try replace hQ := ite_q hQ c3
      refine g_aload_n dX7_hashText_30 rfl rfl rfl ?_
      refine g_get gClX7 1 (by decide) fl_X7_15 dX7_hashText_31 (ho_7 _ _) rfl rfl ?_
      refine g_iload_n dX7_hashText_34 rfl rfl rfl ?_
      refine g_bipush (v := (-128)) dX7_hashText_35 (by decide) rfl ?_
      have o4 := hQ.1
      replace hQ := hQ.2
      refine g_bast (ha_9 _ _) o4 pa_9 dX7_hashText_37 rfl ?_
      refine g_iload_n dX7_hashText_38 rfl rfl rfl ?_
      refine g_iconst (v := 1) dX7_hashText_39 (by decide) rfl ?_
      refine g_iadd dX7_hashText_40 rfl ?_
      refine g_istoreL_n (L1 := [(0, _), (1, _), (2, _), (3, _)]) dX7_hashText_41 rfl (by decide) rfl rfl ?_
      refine g_sub [0, 1, 2, 3] rfl ?_
      exact t_X7_hashText_L42 l g hT 4000 _ _ _ hQ hF
    · replace hF := ite_n hF c3
      try replace hQ := ite_r hQ c3
      subst hF
      exact g_vret rfl dX7_hashText_29 (Nat.le_of_ble_eq_true rfl) (Nat.le_of_ble_eq_true rfl) ⟨rfl, rfl⟩
