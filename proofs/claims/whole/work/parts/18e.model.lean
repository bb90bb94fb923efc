/-! StationHouseModel: by program -/
noncomputable def G_X10_card_L37 (p0 : Int32) (p1 : Int32) : Nat → Int32 → Int32 → gS → Int32 × gS
  | 0, _, _, σ => (0, σ)
  | n + 1, y3, y4, σ =>
    if y3 ≤ y4 then
      let s9 := (pf σ 211 (ix (((4 : Int32) * p0) + p1)) y3 : gS)
      ((1 : Int32), s9)
    else
      let s12 := (pf σ 210 (ix (((48 : Int32) * (((4 : Int32) * p0) + p1)) + y4)) (σ 200 (ix y4)).toInt8.toInt32 : gS)
      G_X10_card_L37 p0 p1 n y3 (y4 + Int32.ofInt (1)) s12
def QG_X10_card_L37 (p0 : Int32) (p1 : Int32) : Nat → Int32 → Int32 → gS → Prop
  | 0, _, _, _ => False
  | n + 1, y3, y4, σ =>
    if y3 ≤ y4 then
      (vp_in (((4 : Int32) * p0) + p1) 64 ∧ (let s9 := (pf σ 211 (ix (((4 : Int32) * p0) + p1)) y3 : gS)
      True))
    else
      (vp_in y4 400 ∧ (vp_in (((48 : Int32) * (((4 : Int32) * p0) + p1)) + y4) 3072 ∧ (let s12 := (pf σ 210 (ix (((48 : Int32) * (((4 : Int32) * p0) + p1)) + y4)) (σ 200 (ix y4)).toInt8.toInt32 : gS)
      QG_X10_card_L37 p0 p1 n y3 (y4 + Int32.ofInt (1)) s12)))
set_option maxHeartbeats 4000000 in
set_option maxRecDepth 100000 in
theorem t_X10_card_L37 (l : Launch) (g : gE) {p0 : Int32} {p1 : Int32} {ζ : gQ} {fr : Int32 × gS} : ∀ (n : Nat) (y3 : Int32) (y4 : Int32) (σ : gS), QG_X10_card_L37 p0 p1 n y3 y4 σ → G_X10_card_L37 p0 p1 n y3 y4 σ = fr → gG l g mX10_card (rm 1 20) (gZm g (rm 1 20) (fun r h => r = some (.int fr.1) ∧ h = hp fr.2 ζ)) 37 [(0, .ref 199), (1, .int p0), (2, .int p1), (3, .int y3), (4, .int y4)] [] (hp σ ζ) 0 0 := by
  intro n
  induction n with
  | zero => intro y3 y4 σ hQ; exact absurd hQ (by unfold QG_X10_card_L37; exact id)
  | succ n ihL37 =>
    intro y3 y4 σ hQ hF
    unfold G_X10_card_L37 at hF
    unfold QG_X10_card_L37 at hQ
    refine g_iload dX10_card_37 rfl rfl ?_
    refine g_iload_n dX10_card_39 rfl rfl rfl ?_
    refine g_icmpge (tgt := 72) dX10_card_40 (by decide) rfl (fun c7 => ?_) (fun c7 => ?_)
    · replace hF := ite_p hF c7
      try replace hQ := ite_q hQ c7
      refine g_aload_n dX10_card_72 rfl rfl rfl ?_
      refine g_get gClX10 13 (by decide) fl_X10_44 dX10_card_73 (ho_199 _ _) rfl rfl ?_
      refine g_iconst (v := 4) dX10_card_76 (by decide) rfl ?_
      refine g_iload_n dX10_card_77 rfl rfl rfl ?_
      refine g_imul dX10_card_78 rfl ?_
      refine g_iload_n dX10_card_79 rfl rfl rfl ?_
      refine g_iadd dX10_card_80 rfl ?_
      refine g_iload_n dX10_card_81 rfl rfl rfl ?_
      have o8 := hQ.1
      replace hQ := hQ.2
      refine g_iast (ha_211 _ _) o8 pa_211 dX10_card_82 rfl ?_
      refine g_iconst (v := 1) dX10_card_83 (by decide) rfl ?_
      subst hF
      exact g_zret rfl dX10_card_84 (by decide) (Nat.le_of_ble_eq_true rfl) (Nat.le_of_ble_eq_true rfl) ⟨rfl, rfl⟩
    · replace hF := ite_n hF c7
      try replace hQ := ite_r hQ c7
      refine g_aload_n dX10_card_43 rfl rfl rfl ?_
      refine g_get gClX10 12 (by decide) fl_X10_41 dX10_card_44 (ho_199 _ _) rfl rfl ?_
      refine g_bipush (v := 48) dX10_card_47 (by decide) rfl ?_
      refine g_iconst (v := 4) dX10_card_49 (by decide) rfl ?_
      refine g_iload_n dX10_card_50 rfl rfl rfl ?_
      refine g_imul dX10_card_51 rfl ?_
      refine g_iload_n dX10_card_52 rfl rfl rfl ?_
      refine g_iadd dX10_card_53 rfl ?_
      refine g_imul dX10_card_54 rfl ?_
      refine g_iload dX10_card_55 rfl rfl ?_
      refine g_iadd dX10_card_57 rfl ?_
      refine g_aload_n dX10_card_58 rfl rfl rfl ?_
      refine g_get gClX10 0 (by decide) fl_X10_7 dX10_card_59 (ho_199 _ _) rfl rfl ?_
      refine g_iload dX10_card_62 rfl rfl ?_
      have o10 := hQ.1
      replace hQ := hQ.2
      refine g_bald (ha_200 _ _) o10 dX10_card_64 rfl ?_
      have o11 := hQ.1
      replace hQ := hQ.2
      refine g_bast (ha_210 _ _) o11 pa_210 dX10_card_65 rfl ?_
      refine g_iincL (L1 := [(0, _), (1, _), (2, _), (3, _), (4, _)]) dX10_card_66 rfl (by decide) rfl rfl ?_
      refine g_goto (tgt := 37) dX10_card_69 (by decide) ?_
      refine g_sub [0, 1, 2, 3, 4] rfl ?_
      exact ihL37 _ _ _ hQ hF
noncomputable def Fr_X10_card (σ : gS) (p0 : Int32) (p1 : Int32) : Int32 × gS :=
  let s1 := (pf σ 199 1 (0 : Int32) : gS)
  if (F_X10_isCard p0) = 0 then
    ((0 : Int32), s1)
  else
    if p1 < 0 then
      ((0 : Int32), s1)
    else
      if (3 : Int32) < p1 then
        ((0 : Int32), s1)
      else
        if (σ 199 1) ≤ (48 : Int32) then
          G_X10_card_L37 p0 p1 4000 (σ 199 1) (0 : Int32) s1
        else
          ((0 : Int32), s1)
noncomputable def F_X10_card : gS → Int32 → Int32 → Int32 × gS := Classical.choose (⟨Fr_X10_card, rfl⟩ : ∃ f : gS → Int32 → Int32 → Int32 × gS, f = Fr_X10_card)
theorem F_X10_card_eq : F_X10_card = Fr_X10_card := Classical.choose_spec (⟨Fr_X10_card, rfl⟩ : ∃ f : gS → Int32 → Int32 → Int32 × gS, f = Fr_X10_card)
def Q_X10_card (σ : gS) (p0 : Int32) (p1 : Int32) : Prop :=
  let s1 := (pf σ 199 1 (0 : Int32) : gS)
  if (F_X10_isCard p0) = 0 then
    (True)
  else
    (if p1 < 0 then
      (True)
    else
      (if (3 : Int32) < p1 then
        (True)
      else
        (if (σ 199 1) ≤ (48 : Int32) then
          (QG_X10_card_L37 p0 p1 4000 (σ 199 1) (0 : Int32) s1)
        else
          (True))))
set_option maxHeartbeats 4000000 in
set_option maxRecDepth 100000 in
theorem c_X10_card (l : Launch) (g : gE)  {σ : gS} {ζ : gQ} (p0 : Int32) (p1 : Int32) (hQ : Q_X10_card σ p0 p1) : gC l g mX10_card (rm 1 20) [.ref 199, .int p0, .int p1] (hp σ ζ) (fun r h => r = some (.int (F_X10_card σ p0 p1).1) ∧ h = hp (F_X10_card σ p0 p1).2 ζ) := by
  refine gC_of (by decide) (Nat.le_of_ble_eq_true rfl) ?_
  generalize hF : (F_X10_card σ p0 p1) = fr
  rw [F_X10_card_eq] at hF
  unfold Fr_X10_card at hF
  unfold Q_X10_card at hQ
  refine g_aload_n dX10_card_0 rfl rfl rfl ?_
  refine g_get gClX10 1 (by decide) fl_X10_107 dX10_card_1 (ho_199 _ _) rfl rfl ?_
  refine g_istoreL_n (L1 := [(0, _), (1, _), (2, _), (3, _)]) dX10_card_4 rfl (by decide) rfl rfl ?_
  refine g_aload_n dX10_card_5 rfl rfl rfl ?_
  refine g_iconst (v := 0) dX10_card_6 (by decide) rfl ?_
  refine g_put gClX10 1 (by decide) fl_X10_107 rfl dX10_card_7 (ho_199 _ _) rfl rfl (Nat.le_of_ble_eq_true rfl) po_199_1 rfl ?_
  refine g_iload_n dX10_card_10 rfl rfl rfl ?_
  refine g_calls mt_X10_isCard ms_X10_isCard ml_X10_154 (c_X10_isCard l g _) rfl (Nat.le_of_ble_eq_true rfl) (Nat.le_of_ble_eq_true rfl) (Nat.le_of_ble_eq_true rfl) (Nat.le_of_ble_eq_true rfl) rfl (Nat.le_of_ble_eq_true rfl) dX10_card_11 rfl (fun r2 hr2 pr2 => ?_)
  obtain ⟨rfl, rfl⟩ := pr2
  refine g_ifeq (tgt := 32) dX10_card_14 (by decide) rfl (fun c3 => ?_) (fun c3 => ?_)
  · replace hF := ite_p hF c3
    try replace hQ := ite_q hQ c3
    refine g_iconst (v := 0) dX10_card_32 (by decide) rfl ?_
    subst hF
    exact g_zret rfl dX10_card_33 (by decide) (Nat.le_of_ble_eq_true rfl) (Nat.le_of_ble_eq_true rfl) ⟨rfl, rfl⟩
  · replace hF := ite_n hF c3
    try replace hQ := ite_r hQ c3
    refine g_iload_n dX10_card_17 rfl rfl rfl ?_
    refine g_iflt (tgt := 32) dX10_card_18 (by decide) rfl (fun c4 => ?_) (fun c4 => ?_)
    · replace hF := ite_p hF c4
      try replace hQ := ite_q hQ c4
      refine g_iconst (v := 0) dX10_card_32 (by decide) rfl ?_
      subst hF
      exact g_zret rfl dX10_card_33 (by decide) (Nat.le_of_ble_eq_true rfl) (Nat.le_of_ble_eq_true rfl) ⟨rfl, rfl⟩
    · replace hF := ite_n hF c4
      try replace hQ := ite_r hQ c4
      refine g_iload_n dX10_card_21 rfl rfl rfl ?_
      refine g_iconst (v := 3) dX10_card_22 (by decide) rfl ?_
      refine g_icmpgt (tgt := 32) dX10_card_23 (by decide) rfl (fun c5 => ?_) (fun c5 => ?_)
      · replace hF := ite_p hF c5
        try replace hQ := ite_q hQ c5
        refine g_iconst (v := 0) dX10_card_32 (by decide) rfl ?_
        subst hF
        exact g_zret rfl dX10_card_33 (by decide) (Nat.le_of_ble_eq_true rfl) (Nat.le_of_ble_eq_true rfl) ⟨rfl, rfl⟩
      · replace hF := ite_n hF c5
        try replace hQ := ite_r hQ c5
        refine g_iload_n dX10_card_26 rfl rfl rfl ?_
        refine g_bipush (v := 48) dX10_card_27 (by decide) rfl ?_
        refine g_icmple (tgt := 34) dX10_card_29 (by decide) rfl (fun c6 => ?_) (fun c6 => ?_)
        · replace hF := ite_p hF c6
          try replace hQ := ite_q hQ c6
          refine g_iconst (v := 0) dX10_card_34 (by decide) rfl ?_
          refine g_istoreL (L1 := [(0, _), (1, _), (2, _), (3, _), (4, _)]) dX10_card_35 (by decide) rfl rfl ?_
          refine g_sub [0, 1, 2, 3, 4] rfl ?_
          exact t_X10_card_L37 l g 4000 _ _ _ hQ hF
        · replace hF := ite_n hF c6
          try replace hQ := ite_r hQ c6
          refine g_iconst (v := 0) dX10_card_32 (by decide) rfl ?_
          subst hF
          exact g_zret rfl dX10_card_33 (by decide) (Nat.le_of_ble_eq_true rfl) (Nat.le_of_ble_eq_true rfl) ⟨rfl, rfl⟩
noncomputable def Fr_X10_cut (σ : gS) (p0 : Int32) : Int32 × gS :=
  if p0 < 0 then
    ((-1 : Int32), σ)
  else
    if p0 ≤ (σ 199 1) then
      let s3 := (pf σ 199 1 p0 : gS)
      (((σ 199 1) - p0), s3)
    else
      ((-1 : Int32), σ)
noncomputable def F_X10_cut : gS → Int32 → Int32 × gS := Classical.choose (⟨Fr_X10_cut, rfl⟩ : ∃ f : gS → Int32 → Int32 × gS, f = Fr_X10_cut)
theorem F_X10_cut_eq : F_X10_cut = Fr_X10_cut := Classical.choose_spec (⟨Fr_X10_cut, rfl⟩ : ∃ f : gS → Int32 → Int32 × gS, f = Fr_X10_cut)
set_option maxHeartbeats 4000000 in
set_option maxRecDepth 100000 in
theorem c_X10_cut (l : Launch) (g : gE)  {σ : gS} {ζ : gQ} (p0 : Int32) : gC l g mX10_cut (rm 0 0) [.ref 199, .int p0] (hp σ ζ) (fun r h => r = some (.int (F_X10_cut σ p0).1) ∧ h = hp (F_X10_cut σ p0).2 ζ) := by
  refine gC_of (by decide) (Nat.le_of_ble_eq_true rfl) ?_
  generalize hF : (F_X10_cut σ p0) = fr
  rw [F_X10_cut_eq] at hF
  unfold Fr_X10_cut at hF
  refine g_iload_n dX10_cut_0 rfl rfl rfl ?_
  refine g_iflt (tgt := 12) dX10_cut_1 (by decide) rfl (fun c1 => ?_) (fun c1 => ?_)
  · replace hF := ite_p hF c1
    refine g_iconst (v := (-1)) dX10_cut_12 (by decide) rfl ?_
    subst hF
    exact g_iret rfl dX10_cut_13 (Nat.le_of_ble_eq_true rfl) (Nat.le_of_ble_eq_true rfl) ⟨rfl, rfl⟩
  · replace hF := ite_n hF c1
    refine g_iload_n dX10_cut_4 rfl rfl rfl ?_
    refine g_aload_n dX10_cut_5 rfl rfl rfl ?_
    refine g_get gClX10 1 (by decide) fl_X10_107 dX10_cut_6 (ho_199 _ _) rfl rfl ?_
    refine g_icmple (tgt := 14) dX10_cut_9 (by decide) rfl (fun c2 => ?_) (fun c2 => ?_)
    · replace hF := ite_p hF c2
      refine g_aload_n dX10_cut_14 rfl rfl rfl ?_
      refine g_get gClX10 1 (by decide) fl_X10_107 dX10_cut_15 (ho_199 _ _) rfl rfl ?_
      refine g_iload_n dX10_cut_18 rfl rfl rfl ?_
      refine g_isub dX10_cut_19 rfl ?_
      refine g_istoreL_n (L1 := [(0, _), (1, _), (2, _)]) dX10_cut_20 rfl (by decide) rfl rfl ?_
      refine g_aload_n dX10_cut_21 rfl rfl rfl ?_
      refine g_iload_n dX10_cut_22 rfl rfl rfl ?_
      refine g_put gClX10 1 (by decide) fl_X10_107 rfl dX10_cut_23 (ho_199 _ _) rfl rfl (Nat.le_of_ble_eq_true rfl) po_199_1 rfl ?_
      refine g_iload_n dX10_cut_26 rfl rfl rfl ?_
      subst hF
      exact g_iret rfl dX10_cut_27 (Nat.le_of_ble_eq_true rfl) (Nat.le_of_ble_eq_true rfl) ⟨rfl, rfl⟩
    · replace hF := ite_n hF c2
      refine g_iconst (v := (-1)) dX10_cut_12 (by decide) rfl ?_
      subst hF
      exact g_iret rfl dX10_cut_13 (Nat.le_of_ble_eq_true rfl) (Nat.le_of_ble_eq_true rfl) ⟨rfl, rfl⟩
noncomputable def Fr_X10_cutAt (σ : gS) (p0 : Int32) : Int32 × gS :=
  if p0 < 0 then
    ((0 : Int32), σ)
  else
    if p0 ≤ (10 : Int32) then
      let s3 := (pf σ 199 27 p0 : gS)
      ((1 : Int32), s3)
    else
      ((0 : Int32), σ)
noncomputable def F_X10_cutAt : gS → Int32 → Int32 × gS := Classical.choose (⟨Fr_X10_cutAt, rfl⟩ : ∃ f : gS → Int32 → Int32 × gS, f = Fr_X10_cutAt)
theorem F_X10_cutAt_eq : F_X10_cutAt = Fr_X10_cutAt := Classical.choose_spec (⟨Fr_X10_cutAt, rfl⟩ : ∃ f : gS → Int32 → Int32 × gS, f = Fr_X10_cutAt)
set_option maxHeartbeats 4000000 in
set_option maxRecDepth 100000 in
theorem c_X10_cutAt (l : Launch) (g : gE)  {σ : gS} {ζ : gQ} (p0 : Int32) : gC l g mX10_cutAt (rm 0 0) [.ref 199, .int p0] (hp σ ζ) (fun r h => r = some (.int (F_X10_cutAt σ p0).1) ∧ h = hp (F_X10_cutAt σ p0).2 ζ) := by
  refine gC_of (by decide) (Nat.le_of_ble_eq_true rfl) ?_
  generalize hF : (F_X10_cutAt σ p0) = fr
  rw [F_X10_cutAt_eq] at hF
  unfold Fr_X10_cutAt at hF
  refine g_iload_n dX10_cutAt_0 rfl rfl rfl ?_
  refine g_iflt (tgt := 10) dX10_cutAt_1 (by decide) rfl (fun c1 => ?_) (fun c1 => ?_)
  · replace hF := ite_p hF c1
    refine g_iconst (v := 0) dX10_cutAt_10 (by decide) rfl ?_
    subst hF
    exact g_zret rfl dX10_cutAt_11 (by decide) (Nat.le_of_ble_eq_true rfl) (Nat.le_of_ble_eq_true rfl) ⟨rfl, rfl⟩
  · replace hF := ite_n hF c1
    refine g_iload_n dX10_cutAt_4 rfl rfl rfl ?_
    refine g_bipush (v := 10) dX10_cutAt_5 (by decide) rfl ?_
    refine g_icmple (tgt := 12) dX10_cutAt_7 (by decide) rfl (fun c2 => ?_) (fun c2 => ?_)
    · replace hF := ite_p hF c2
      refine g_aload_n dX10_cutAt_12 rfl rfl rfl ?_
      refine g_iload_n dX10_cutAt_13 rfl rfl rfl ?_
      refine g_put gClX10 27 (by decide) fl_X10_97 rfl dX10_cutAt_14 (ho_199 _ _) rfl rfl (Nat.le_of_ble_eq_true rfl) po_199_27 rfl ?_
      refine g_iconst (v := 1) dX10_cutAt_17 (by decide) rfl ?_
      subst hF
      exact g_zret rfl dX10_cutAt_18 (by decide) (Nat.le_of_ble_eq_true rfl) (Nat.le_of_ble_eq_true rfl) ⟨rfl, rfl⟩
    · replace hF := ite_n hF c2
      refine g_iconst (v := 0) dX10_cutAt_10 (by decide) rfl ?_
      subst hF
      exact g_zret rfl dX10_cutAt_11 (by decide) (Nat.le_of_ble_eq_true rfl) (Nat.le_of_ble_eq_true rfl) ⟨rfl, rfl⟩
noncomputable def G_X10_disk_L15  : Nat → Int32 → gS → Int32 × gS
  | 0, _, σ => (0, σ)
  | n + 1, y1, σ =>
    if (σ 199 25) ≤ y1 then
      ((σ 199 25), σ)
    else
      let s6 := (pf σ 215 (ix y1) (σ 200 (ix y1)).toInt8.toInt32 : gS)
      G_X10_disk_L15  n (y1 + Int32.ofInt (1)) s6
def QG_X10_disk_L15  : Nat → Int32 → gS → Prop
  | 0, _, _ => False
  | n + 1, y1, σ =>
    if (σ 199 25) ≤ y1 then
      (True)
    else
      (vp_in y1 400 ∧ (vp_in y1 400 ∧ (let s6 := (pf σ 215 (ix y1) (σ 200 (ix y1)).toInt8.toInt32 : gS)
      QG_X10_disk_L15  n (y1 + Int32.ofInt (1)) s6)))
set_option maxHeartbeats 4000000 in
set_option maxRecDepth 100000 in
theorem t_X10_disk_L15 (l : Launch) (g : gE)  {ζ : gQ} {fr : Int32 × gS} : ∀ (n : Nat) (y1 : Int32) (σ : gS), QG_X10_disk_L15  n y1 σ → G_X10_disk_L15  n y1 σ = fr → gG l g mX10_disk (rm 0 0) (gZm g (rm 0 0) (fun r h => r = some (.int fr.1) ∧ h = hp fr.2 ζ)) 15 [(0, .ref 199), (1, .int y1)] [] (hp σ ζ) 0 0 := by
  intro n
  induction n with
  | zero => intro y1 σ hQ; exact absurd hQ (by unfold QG_X10_disk_L15; exact id)
  | succ n ihL15 =>
    intro y1 σ hQ hF
    unfold G_X10_disk_L15 at hF
    unfold QG_X10_disk_L15 at hQ
    refine g_iload_n dX10_disk_15 rfl rfl rfl ?_
    refine g_aload_n dX10_disk_16 rfl rfl rfl ?_
    refine g_get gClX10 25 (by decide) fl_X10_79 dX10_disk_17 (ho_199 _ _) rfl rfl ?_
    refine g_icmpge (tgt := 41) dX10_disk_20 (by decide) rfl (fun c3 => ?_) (fun c3 => ?_)
    · replace hF := ite_p hF c3
      try replace hQ := ite_q hQ c3
      refine g_aload_n dX10_disk_41 rfl rfl rfl ?_
      refine g_get gClX10 25 (by decide) fl_X10_79 dX10_disk_42 (ho_199 _ _) rfl rfl ?_
      subst hF
      exact g_iret rfl dX10_disk_45 (Nat.le_of_ble_eq_true rfl) (Nat.le_of_ble_eq_true rfl) ⟨rfl, rfl⟩
    · replace hF := ite_n hF c3
      try replace hQ := ite_r hQ c3
      refine g_aload_n dX10_disk_23 rfl rfl rfl ?_
      refine g_get gClX10 24 (by decide) fl_X10_57 dX10_disk_24 (ho_199 _ _) rfl rfl ?_
      refine g_iload_n dX10_disk_27 rfl rfl rfl ?_
      refine g_aload_n dX10_disk_28 rfl rfl rfl ?_
      refine g_get gClX10 0 (by decide) fl_X10_7 dX10_disk_29 (ho_199 _ _) rfl rfl ?_
      refine g_iload_n dX10_disk_32 rfl rfl rfl ?_
      have o4 := hQ.1
      replace hQ := hQ.2
      refine g_bald (ha_200 _ _) o4 dX10_disk_33 rfl ?_
      have o5 := hQ.1
      replace hQ := hQ.2
      refine g_bast (ha_215 _ _) o5 pa_215 dX10_disk_34 rfl ?_
      refine g_iincL (L1 := [(0, _), (1, _)]) dX10_disk_35 rfl (by decide) rfl rfl ?_
      refine g_goto (tgt := 15) dX10_disk_38 (by decide) ?_
      refine g_sub [0, 1] rfl ?_
      exact ihL15 _ _ hQ hF
noncomputable def Fr_X10_disk (σ : gS)  : Int32 × gS :=
  let s1 := (pf σ 199 25 (σ 199 1) : gS)
  let s2 := (pf s1 199 1 (0 : Int32) : gS)
  G_X10_disk_L15  4000 (0 : Int32) s2
noncomputable def F_X10_disk : gS → Int32 × gS := Classical.choose (⟨Fr_X10_disk, rfl⟩ : ∃ f : gS → Int32 × gS, f = Fr_X10_disk)
theorem F_X10_disk_eq : F_X10_disk = Fr_X10_disk := Classical.choose_spec (⟨Fr_X10_disk, rfl⟩ : ∃ f : gS → Int32 × gS, f = Fr_X10_disk)
def Q_X10_disk (σ : gS)  : Prop :=
  let s1 := (pf σ 199 25 (σ 199 1) : gS)
  let s2 := (pf s1 199 1 (0 : Int32) : gS)
  QG_X10_disk_L15  4000 (0 : Int32) s2
set_option maxHeartbeats 4000000 in
set_option maxRecDepth 100000 in
theorem c_X10_disk (l : Launch) (g : gE)  {σ : gS} {ζ : gQ}  (hQ : Q_X10_disk σ ) : gC l g mX10_disk (rm 0 0) [.ref 199] (hp σ ζ) (fun r h => r = some (.int (F_X10_disk σ ).1) ∧ h = hp (F_X10_disk σ ).2 ζ) := by
  refine gC_of (by decide) (Nat.le_of_ble_eq_true rfl) ?_
  generalize hF : (F_X10_disk σ ) = fr
  rw [F_X10_disk_eq] at hF
  unfold Fr_X10_disk at hF
  unfold Q_X10_disk at hQ
  refine g_aload_n dX10_disk_0 rfl rfl rfl ?_
  refine g_aload_n dX10_disk_1 rfl rfl rfl ?_
  refine g_get gClX10 1 (by decide) fl_X10_107 dX10_disk_2 (ho_199 _ _) rfl rfl ?_
  refine g_put gClX10 25 (by decide) fl_X10_79 rfl dX10_disk_5 (ho_199 _ _) rfl rfl (Nat.le_of_ble_eq_true rfl) po_199_25 rfl ?_
  refine g_aload_n dX10_disk_8 rfl rfl rfl ?_
  refine g_iconst (v := 0) dX10_disk_9 (by decide) rfl ?_
  refine g_put gClX10 1 (by decide) fl_X10_107 rfl dX10_disk_10 (ho_199 _ _) rfl rfl (Nat.le_of_ble_eq_true rfl) po_199_1 rfl ?_
  refine g_iconst (v := 0) dX10_disk_13 (by decide) rfl ?_
  refine g_istoreL_n (L1 := [(0, _), (1, _)]) dX10_disk_14 rfl (by decide) rfl rfl ?_
  refine g_sub [0, 1] rfl ?_
  exact t_X10_disk_L15 l g 4000 _ _ hQ hF
noncomputable def Fr_X10_diskAt (σ : gS) (p0 : Int32) : Int32 :=
  if p0 < 0 then
    (-1 : Int32)
  else
    if (σ 199 25) ≤ p0 then
      (-1 : Int32)
    else
      ((σ 215 (ix p0)) &&& (255 : Int32))
noncomputable def F_X10_diskAt : gS → Int32 → Int32 := Classical.choose (⟨Fr_X10_diskAt, rfl⟩ : ∃ f : gS → Int32 → Int32, f = Fr_X10_diskAt)
theorem F_X10_diskAt_eq : F_X10_diskAt = Fr_X10_diskAt := Classical.choose_spec (⟨Fr_X10_diskAt, rfl⟩ : ∃ f : gS → Int32 → Int32, f = Fr_X10_diskAt)
def Q_X10_diskAt (σ : gS) (p0 : Int32) : Prop :=
  if p0 < 0 then
    (True)
  else
    (if (σ 199 25) ≤ p0 then
      (True)
    else
      (vp_in p0 400 ∧ (True)))
set_option maxHeartbeats 4000000 in
set_option maxRecDepth 100000 in
theorem c_X10_diskAt (l : Launch) (g : gE)  {σ : gS} {ζ : gQ} (p0 : Int32) (hQ : Q_X10_diskAt σ p0) : gC l g mX10_diskAt (rm 0 0) [.ref 199, .int p0] (hp σ ζ) (fun r h => r = some (.int (F_X10_diskAt σ p0)) ∧ h = hp σ ζ) := by
  refine gC_of (by decide) (Nat.le_of_ble_eq_true rfl) ?_
  generalize hF : (F_X10_diskAt σ p0) = fr
  rw [F_X10_diskAt_eq] at hF
  unfold Fr_X10_diskAt at hF
  unfold Q_X10_diskAt at hQ
  refine g_iload_n dX10_diskAt_0 rfl rfl rfl ?_
  refine g_iflt (tgt := 25) dX10_diskAt_1 (by decide) rfl (fun c1 => ?_) (fun c1 => ?_)
  · replace hF := ite_p hF c1
    try replace hQ := ite_q hQ c1
    refine g_iconst (v := (-1)) dX10_diskAt_25 (by decide) rfl ?_
    subst hF
    exact g_iret rfl dX10_diskAt_26 (Nat.le_of_ble_eq_true rfl) (Nat.le_of_ble_eq_true rfl) ⟨rfl, rfl⟩
  · replace hF := ite_n hF c1
    try replace hQ := ite_r hQ c1
    refine g_iload_n dX10_diskAt_4 rfl rfl rfl ?_
    refine g_aload_n dX10_diskAt_5 rfl rfl rfl ?_
    refine g_get gClX10 25 (by decide) fl_X10_79 dX10_diskAt_6 (ho_199 _ _) rfl rfl ?_
    refine g_icmpge (tgt := 25) dX10_diskAt_9 (by decide) rfl (fun c2 => ?_) (fun c2 => ?_)
    · replace hF := ite_p hF c2
      try replace hQ := ite_q hQ c2
      refine g_iconst (v := (-1)) dX10_diskAt_25 (by decide) rfl ?_
      subst hF
      exact g_iret rfl dX10_diskAt_26 (Nat.le_of_ble_eq_true rfl) (Nat.le_of_ble_eq_true rfl) ⟨rfl, rfl⟩
    · replace hF := ite_n hF c2
      try replace hQ := ite_r hQ c2
      refine g_aload_n dX10_diskAt_12 rfl rfl rfl ?_
      refine g_get gClX10 24 (by decide) fl_X10_57 dX10_diskAt_13 (ho_199 _ _) rfl rfl ?_
      refine g_iload_n dX10_diskAt_16 rfl rfl rfl ?_
      have o3 := hQ.1
      replace hQ := hQ.2
      refine g_bald (ha_215 _ _) o3 dX10_diskAt_17 rfl ?_
      refine g_sipush (v := 255) dX10_diskAt_18 (by decide) rfl ?_
      refine g_iand dX10_diskAt_21 rfl ?_
      refine g_goto (tgt := 26) dX10_diskAt_22 (by decide) ?_
      subst hF
      exact g_iret rfl dX10_diskAt_26 (Nat.le_of_ble_eq_true rfl) (Nat.le_of_ble_eq_true rfl) ⟨rfl, rfl⟩
noncomputable def Fr_X10_door (σ : gS) (p0 : Int32) : gS :=
  let s2 := (pf σ 199 23 p0 : gS)
  s2
noncomputable def F_X10_door : gS → Int32 → gS := Classical.choose (⟨Fr_X10_door, rfl⟩ : ∃ f : gS → Int32 → gS, f = Fr_X10_door)
theorem F_X10_door_eq : F_X10_door = Fr_X10_door := Classical.choose_spec (⟨Fr_X10_door, rfl⟩ : ∃ f : gS → Int32 → gS, f = Fr_X10_door)
def Q_X10_door (σ : gS) (p0 : Int32) : Prop :=
  (p0 = 0 ∨ p0 = 1) ∧ (let s2 := (pf σ 199 23 p0 : gS)
  True)
set_option maxHeartbeats 4000000 in
set_option maxRecDepth 100000 in
theorem c_X10_door (l : Launch) (g : gE)  {σ : gS} {ζ : gQ} (p0 : Int32) (hQ : Q_X10_door σ p0) : gC l g mX10_door (rm 0 0) [.ref 199, .int p0] (hp σ ζ) (fun r h => r = none ∧ h = hp (F_X10_door σ p0) ζ) := by
  refine gC_of (by decide) (Nat.le_of_ble_eq_true rfl) ?_
  generalize hF : (F_X10_door σ p0) = fr
  rw [F_X10_door_eq] at hF
  unfold Fr_X10_door at hF
  unfold Q_X10_door at hQ
  refine g_aload_n dX10_door_0 rfl rfl rfl ?_
  refine g_iload_n dX10_door_1 rfl rfl rfl ?_
  have o1 := hQ.1
  replace hQ := hQ.2
  refine g_put gClX10 23 (by decide) fl_X10_193 rfl dX10_door_2 (ho_199 _ _) (gz_n o1) (gz_f o1) (Nat.le_of_ble_eq_true rfl) po_199_23 rfl ?_
  subst hF
  exact g_vret rfl dX10_door_5 (Nat.le_of_ble_eq_true rfl) (Nat.le_of_ble_eq_true rfl) ⟨rfl, rfl⟩
noncomputable def G_X10_lay_L3 (p0 : Int32) : Nat → Int32 → gS → gS
  | 0, _, σ => σ
  | n + 1, y2, σ =>
    if y2 < 0 then
      σ
    else
      let s3 := (pf σ 200 (ix (σ 199 1)) (p0 >>> (y2 &&& 31)).toInt8.toInt32.toInt8.toInt32 : gS)
      let s4 := (pf s3 199 1 ((s3 199 1) + (1 : Int32)) : gS)
      G_X10_lay_L3 p0 n (y2 + Int32.ofInt (-8)) s4
def QG_X10_lay_L3 (p0 : Int32) : Nat → Int32 → gS → Prop
  | 0, _, _ => False
  | n + 1, y2, σ =>
    if y2 < 0 then
      (True)
    else
      (vp_in (σ 199 1) 400 ∧ (let s3 := (pf σ 200 (ix (σ 199 1)) (p0 >>> (y2 &&& 31)).toInt8.toInt32.toInt8.toInt32 : gS)
      let s4 := (pf s3 199 1 ((s3 199 1) + (1 : Int32)) : gS)
      QG_X10_lay_L3 p0 n (y2 + Int32.ofInt (-8)) s4))
set_option maxHeartbeats 4000000 in
set_option maxRecDepth 100000 in
theorem t_X10_lay_L3 (l : Launch) (g : gE) {p0 : Int32} {ζ : gQ} {fr : gS} : ∀ (n : Nat) (y2 : Int32) (σ : gS), QG_X10_lay_L3 p0 n y2 σ → G_X10_lay_L3 p0 n y2 σ = fr → gG l g mX10_lay (rm 0 0) (gZm g (rm 0 0) (fun r h => r = none ∧ h = hp fr ζ)) 3 [(0, .ref 199), (1, .int p0), (2, .int y2)] [] (hp σ ζ) 0 0 := by
  intro n
  induction n with
  | zero => intro y2 σ hQ; exact absurd hQ (by unfold QG_X10_lay_L3; exact id)
  | succ n ihL3 =>
    intro y2 σ hQ hF
    unfold G_X10_lay_L3 at hF
    unfold QG_X10_lay_L3 at hQ
    refine g_iload_n dX10_lay_3 rfl rfl rfl ?_
    refine g_iflt (tgt := 36) dX10_lay_4 (by decide) rfl (fun c1 => ?_) (fun c1 => ?_)
    · replace hF := ite_p hF c1
      try replace hQ := ite_q hQ c1
      subst hF
      exact g_vret rfl dX10_lay_36 (Nat.le_of_ble_eq_true rfl) (Nat.le_of_ble_eq_true rfl) ⟨rfl, rfl⟩
    · replace hF := ite_n hF c1
      try replace hQ := ite_r hQ c1
      refine g_aload_n dX10_lay_7 rfl rfl rfl ?_
      refine g_get gClX10 0 (by decide) fl_X10_7 dX10_lay_8 (ho_199 _ _) rfl rfl ?_
      refine g_aload_n dX10_lay_11 rfl rfl rfl ?_
      refine g_get gClX10 1 (by decide) fl_X10_107 dX10_lay_12 (ho_199 _ _) rfl rfl ?_
      refine g_iload_n dX10_lay_15 rfl rfl rfl ?_
      refine g_iload_n dX10_lay_16 rfl rfl rfl ?_
      refine g_ishr dX10_lay_17 rfl ?_
      refine g_i2b dX10_lay_18 rfl ?_
      have o2 := hQ.1
      replace hQ := hQ.2
      refine g_bast (ha_200 _ _) o2 pa_200 dX10_lay_19 rfl ?_
      refine g_aload_n dX10_lay_20 rfl rfl rfl ?_
      refine g_dup dX10_lay_21 rfl rfl ?_
      refine g_get gClX10 1 (by decide) fl_X10_107 dX10_lay_22 (ho_199 _ _) rfl rfl ?_
      refine g_iconst (v := 1) dX10_lay_25 (by decide) rfl ?_
      refine g_iadd dX10_lay_26 rfl ?_
      refine g_put gClX10 1 (by decide) fl_X10_107 rfl dX10_lay_27 (ho_199 _ _) rfl rfl (Nat.le_of_ble_eq_true rfl) po_199_1 rfl ?_
      refine g_iincL (L1 := [(0, _), (1, _), (2, _)]) dX10_lay_30 rfl (by decide) rfl rfl ?_
      refine g_goto (tgt := 3) dX10_lay_33 (by decide) ?_
      refine g_sub [0, 1, 2] rfl ?_
      exact ihL3 _ _ hQ hF
noncomputable def Fr_X10_lay (σ : gS) (p0 : Int32) : gS :=
  G_X10_lay_L3 p0 4000 (24 : Int32) σ
noncomputable def F_X10_lay : gS → Int32 → gS := Classical.choose (⟨Fr_X10_lay, rfl⟩ : ∃ f : gS → Int32 → gS, f = Fr_X10_lay)
theorem F_X10_lay_eq : F_X10_lay = Fr_X10_lay := Classical.choose_spec (⟨Fr_X10_lay, rfl⟩ : ∃ f : gS → Int32 → gS, f = Fr_X10_lay)
def Q_X10_lay (σ : gS) (p0 : Int32) : Prop :=
  QG_X10_lay_L3 p0 4000 (24 : Int32) σ
set_option maxHeartbeats 4000000 in
set_option maxRecDepth 100000 in
theorem c_X10_lay (l : Launch) (g : gE)  {σ : gS} {ζ : gQ} (p0 : Int32) (hQ : Q_X10_lay σ p0) : gC l g mX10_lay (rm 0 0) [.ref 199, .int p0] (hp σ ζ) (fun r h => r = none ∧ h = hp (F_X10_lay σ p0) ζ) := by
  refine gC_of (by decide) (Nat.le_of_ble_eq_true rfl) ?_
  generalize hF : (F_X10_lay σ p0) = fr
  rw [F_X10_lay_eq] at hF
  unfold Fr_X10_lay at hF
  unfold Q_X10_lay at hQ
  refine g_bipush (v := 24) dX10_lay_0 (by decide) rfl ?_
  refine g_istoreL_n (L1 := [(0, _), (1, _), (2, _)]) dX10_lay_2 rfl (by decide) rfl rfl ?_
  refine g_sub [0, 1, 2] rfl ?_
  exact t_X10_lay_L3 l g 4000 _ _ hQ hF
noncomputable def Fr_X10_feed (σ : gS) (p0 : Int32) (p1 : Int32) (p2 : Int32) (p3 : Int32) (p4 : Int32) : Int32 × gS :=
  if ((σ 199 1) + (20 : Int32)) ≤ (400 : Int32) then
    let s4 := (F_X10_lay σ p0)
    let s7 := (F_X10_lay s4 p1)
    let s10 := (F_X10_lay s7 p2)
    let s13 := (F_X10_lay s10 p3)
    let s16 := (F_X10_lay s13 p4)
    ((s16 199 1), s16)
  else
    ((-1 : Int32), σ)
noncomputable def F_X10_feed : gS → Int32 → Int32 → Int32 → Int32 → Int32 → Int32 × gS := Classical.choose (⟨Fr_X10_feed, rfl⟩ : ∃ f : gS → Int32 → Int32 → Int32 → Int32 → Int32 → Int32 × gS, f = Fr_X10_feed)
theorem F_X10_feed_eq : F_X10_feed = Fr_X10_feed := Classical.choose_spec (⟨Fr_X10_feed, rfl⟩ : ∃ f : gS → Int32 → Int32 → Int32 → Int32 → Int32 → Int32 × gS, f = Fr_X10_feed)
def Q_X10_feed (σ : gS) (p0 : Int32) (p1 : Int32) (p2 : Int32) (p3 : Int32) (p4 : Int32) : Prop :=
  if ((σ 199 1) + (20 : Int32)) ≤ (400 : Int32) then
    ((Q_X10_lay σ p0) ∧ (let s4 := (F_X10_lay σ p0)
    (Q_X10_lay s4 p1) ∧ (let s7 := (F_X10_lay s4 p1)
    (Q_X10_lay s7 p2) ∧ (let s10 := (F_X10_lay s7 p2)
    (Q_X10_lay s10 p3) ∧ (let s13 := (F_X10_lay s10 p3)
    (Q_X10_lay s13 p4) ∧ (let s16 := (F_X10_lay s13 p4)
    True))))))
  else
    (True)
set_option maxHeartbeats 4000000 in
set_option maxRecDepth 100000 in
theorem c_X10_feed (l : Launch) (g : gE)  {σ : gS} {ζ : gQ} (p0 : Int32) (p1 : Int32) (p2 : Int32) (p3 : Int32) (p4 : Int32) (hQ : Q_X10_feed σ p0 p1 p2 p3 p4) : gC l g mX10_feed (rm 1 22) [.ref 199, .int p0, .int p1, .int p2, .int p3, .int p4] (hp σ ζ) (fun r h => r = some (.int (F_X10_feed σ p0 p1 p2 p3 p4).1) ∧ h = hp (F_X10_feed σ p0 p1 p2 p3 p4).2 ζ) := by
  refine gC_of (by decide) (Nat.le_of_ble_eq_true rfl) ?_
  generalize hF : (F_X10_feed σ p0 p1 p2 p3 p4) = fr
  rw [F_X10_feed_eq] at hF
  unfold Fr_X10_feed at hF
  unfold Q_X10_feed at hQ
  refine g_aload_n dX10_feed_0 rfl rfl rfl ?_
  refine g_get gClX10 1 (by decide) fl_X10_107 dX10_feed_1 (ho_199 _ _) rfl rfl ?_
  refine g_bipush (v := 20) dX10_feed_4 (by decide) rfl ?_
  refine g_iadd dX10_feed_6 rfl ?_
  refine g_sipush (v := 400) dX10_feed_7 (by decide) rfl ?_
  refine g_icmple (tgt := 15) dX10_feed_10 (by decide) rfl (fun c1 => ?_) (fun c1 => ?_)
  · replace hF := ite_p hF c1
    try replace hQ := ite_q hQ c1
    refine g_aload_n dX10_feed_15 rfl rfl rfl ?_
    refine g_iload_n dX10_feed_16 rfl rfl rfl ?_
    have o2 := hQ.1
    replace hQ := hQ.2
    refine g_callv mv_X10_lay ml_X10_110 (c_X10_lay l g _ o2) (ho_199 _ _) rfl rfl (Nat.le_of_ble_eq_true rfl) (Nat.le_of_ble_eq_true rfl) (Nat.le_of_ble_eq_true rfl) (Nat.le_of_ble_eq_true rfl) rfl (Nat.le_of_ble_eq_true rfl) dX10_feed_17 rfl (fun r3 hr3 pr3 => ?_)
    obtain ⟨rfl, rfl⟩ := pr3
    refine g_aload_n dX10_feed_20 rfl rfl rfl ?_
    refine g_iload_n dX10_feed_21 rfl rfl rfl ?_
    have o5 := hQ.1
    replace hQ := hQ.2
    refine g_callv mv_X10_lay ml_X10_110 (c_X10_lay l g _ o5) (ho_199 _ _) rfl rfl (Nat.le_of_ble_eq_true rfl) (Nat.le_of_ble_eq_true rfl) (Nat.le_of_ble_eq_true rfl) (Nat.le_of_ble_eq_true rfl) rfl (Nat.le_of_ble_eq_true rfl) dX10_feed_22 rfl (fun r6 hr6 pr6 => ?_)
    obtain ⟨rfl, rfl⟩ := pr6
    refine g_aload_n dX10_feed_25 rfl rfl rfl ?_
    refine g_iload_n dX10_feed_26 rfl rfl rfl ?_
    have o8 := hQ.1
    replace hQ := hQ.2
    refine g_callv mv_X10_lay ml_X10_110 (c_X10_lay l g _ o8) (ho_199 _ _) rfl rfl (Nat.le_of_ble_eq_true rfl) (Nat.le_of_ble_eq_true rfl) (Nat.le_of_ble_eq_true rfl) (Nat.le_of_ble_eq_true rfl) rfl (Nat.le_of_ble_eq_true rfl) dX10_feed_27 rfl (fun r9 hr9 pr9 => ?_)
    obtain ⟨rfl, rfl⟩ := pr9
    refine g_aload_n dX10_feed_30 rfl rfl rfl ?_
    refine g_iload dX10_feed_31 rfl rfl ?_
    have o11 := hQ.1
    replace hQ := hQ.2
    refine g_callv mv_X10_lay ml_X10_110 (c_X10_lay l g _ o11) (ho_199 _ _) rfl rfl (Nat.le_of_ble_eq_true rfl) (Nat.le_of_ble_eq_true rfl) (Nat.le_of_ble_eq_true rfl) (Nat.le_of_ble_eq_true rfl) rfl (Nat.le_of_ble_eq_true rfl) dX10_feed_33 rfl (fun r12 hr12 pr12 => ?_)
    obtain ⟨rfl, rfl⟩ := pr12
    refine g_aload_n dX10_feed_36 rfl rfl rfl ?_
    refine g_iload dX10_feed_37 rfl rfl ?_
    have o14 := hQ.1
    replace hQ := hQ.2
    refine g_callv mv_X10_lay ml_X10_110 (c_X10_lay l g _ o14) (ho_199 _ _) rfl rfl (Nat.le_of_ble_eq_true rfl) (Nat.le_of_ble_eq_true rfl) (Nat.le_of_ble_eq_true rfl) (Nat.le_of_ble_eq_true rfl) rfl (Nat.le_of_ble_eq_true rfl) dX10_feed_39 rfl (fun r15 hr15 pr15 => ?_)
    obtain ⟨rfl, rfl⟩ := pr15
    refine g_aload_n dX10_feed_42 rfl rfl rfl ?_
    refine g_get gClX10 1 (by decide) fl_X10_107 dX10_feed_43 (ho_199 _ _) rfl rfl ?_
    subst hF
    exact g_iret rfl dX10_feed_46 (Nat.le_of_ble_eq_true rfl) (Nat.le_of_ble_eq_true rfl) ⟨rfl, rfl⟩
  · replace hF := ite_n hF c1
    try replace hQ := ite_r hQ c1
    refine g_iconst (v := (-1)) dX10_feed_13 (by decide) rfl ?_
    subst hF
    exact g_iret rfl dX10_feed_14 (Nat.le_of_ble_eq_true rfl) (Nat.le_of_ble_eq_true rfl) ⟨rfl, rfl⟩
noncomputable def Fr_X10_finger (σ : gS) (p0 : Int32) : Int32 × gS :=
  if p0 < (-1 : Int32) then
    ((0 : Int32), σ)
  else
    if p0 ≤ (65535 : Int32) then
      let s3 := (pf σ 199 22 p0 : gS)
      ((1 : Int32), s3)
    else
      ((0 : Int32), σ)
noncomputable def F_X10_finger : gS → Int32 → Int32 × gS := Classical.choose (⟨Fr_X10_finger, rfl⟩ : ∃ f : gS → Int32 → Int32 × gS, f = Fr_X10_finger)
theorem F_X10_finger_eq : F_X10_finger = Fr_X10_finger := Classical.choose_spec (⟨Fr_X10_finger, rfl⟩ : ∃ f : gS → Int32 → Int32 × gS, f = Fr_X10_finger)
set_option maxHeartbeats 4000000 in
set_option maxRecDepth 100000 in
theorem c_X10_finger (l : Launch) (g : gE)  {σ : gS} {ζ : gQ} (p0 : Int32) : gC l g mX10_finger (rm 0 0) [.ref 199, .int p0] (hp σ ζ) (fun r h => r = some (.int (F_X10_finger σ p0).1) ∧ h = hp (F_X10_finger σ p0).2 ζ) := by
  refine gC_of (by decide) (Nat.le_of_ble_eq_true rfl) ?_
  generalize hF : (F_X10_finger σ p0) = fr
  rw [F_X10_finger_eq] at hF
  unfold Fr_X10_finger at hF
  refine g_iload_n dX10_finger_0 rfl rfl rfl ?_
  refine g_iconst (v := (-1)) dX10_finger_1 (by decide) rfl ?_
  refine g_icmplt (tgt := 11) dX10_finger_2 (by decide) rfl (fun c1 => ?_) (fun c1 => ?_)
  · replace hF := ite_p hF c1
    refine g_iconst (v := 0) dX10_finger_11 (by decide) rfl ?_
    subst hF
    exact g_zret rfl dX10_finger_12 (by decide) (Nat.le_of_ble_eq_true rfl) (Nat.le_of_ble_eq_true rfl) ⟨rfl, rfl⟩
  · replace hF := ite_n hF c1
    refine g_iload_n dX10_finger_5 rfl rfl rfl ?_
    refine g_ldc ki_X10_192 dX10_finger_6 rfl ?_
    refine g_icmple (tgt := 13) dX10_finger_8 (by decide) rfl (fun c2 => ?_) (fun c2 => ?_)
    · replace hF := ite_p hF c2
      refine g_aload_n dX10_finger_13 rfl rfl rfl ?_
      refine g_iload_n dX10_finger_14 rfl rfl rfl ?_
      refine g_put gClX10 22 (by decide) fl_X10_76 rfl dX10_finger_15 (ho_199 _ _) rfl rfl (Nat.le_of_ble_eq_true rfl) po_199_22 rfl ?_
      refine g_iconst (v := 1) dX10_finger_18 (by decide) rfl ?_
      subst hF
      exact g_zret rfl dX10_finger_19 (by decide) (Nat.le_of_ble_eq_true rfl) (Nat.le_of_ble_eq_true rfl) ⟨rfl, rfl⟩
    · replace hF := ite_n hF c2
      refine g_iconst (v := 0) dX10_finger_11 (by decide) rfl ?_
      subst hF
      exact g_zret rfl dX10_finger_12 (by decide) (Nat.le_of_ble_eq_true rfl) (Nat.le_of_ble_eq_true rfl) ⟨rfl, rfl⟩
noncomputable def Fr_X10_key (σ : gS) (p0 : Int32) : Int32 × gS :=
  if p0 < 0 then
    ((0 : Int32), σ)
  else
    if p0 ≤ (4 : Int32) then
      let s3 := (pf σ 199 26 p0 : gS)
      ((1 : Int32), s3)
    else
      ((0 : Int32), σ)
noncomputable def F_X10_key : gS → Int32 → Int32 × gS := Classical.choose (⟨Fr_X10_key, rfl⟩ : ∃ f : gS → Int32 → Int32 × gS, f = Fr_X10_key)
theorem F_X10_key_eq : F_X10_key = Fr_X10_key := Classical.choose_spec (⟨Fr_X10_key, rfl⟩ : ∃ f : gS → Int32 → Int32 × gS, f = Fr_X10_key)
set_option maxHeartbeats 4000000 in
set_option maxRecDepth 100000 in
theorem c_X10_key (l : Launch) (g : gE)  {σ : gS} {ζ : gQ} (p0 : Int32) : gC l g mX10_key (rm 0 0) [.ref 199, .int p0] (hp σ ζ) (fun r h => r = some (.int (F_X10_key σ p0).1) ∧ h = hp (F_X10_key σ p0).2 ζ) := by
  refine gC_of (by decide) (Nat.le_of_ble_eq_true rfl) ?_
  generalize hF : (F_X10_key σ p0) = fr
  rw [F_X10_key_eq] at hF
  unfold Fr_X10_key at hF
  refine g_iload_n dX10_key_0 rfl rfl rfl ?_
  refine g_iflt (tgt := 9) dX10_key_1 (by decide) rfl (fun c1 => ?_) (fun c1 => ?_)
  · replace hF := ite_p hF c1
    refine g_iconst (v := 0) dX10_key_9 (by decide) rfl ?_
    subst hF
    exact g_zret rfl dX10_key_10 (by decide) (Nat.le_of_ble_eq_true rfl) (Nat.le_of_ble_eq_true rfl) ⟨rfl, rfl⟩
  · replace hF := ite_n hF c1
    refine g_iload_n dX10_key_4 rfl rfl rfl ?_
    refine g_iconst (v := 4) dX10_key_5 (by decide) rfl ?_
    refine g_icmple (tgt := 11) dX10_key_6 (by decide) rfl (fun c2 => ?_) (fun c2 => ?_)
    · replace hF := ite_p hF c2
      refine g_aload_n dX10_key_11 rfl rfl rfl ?_
      refine g_iload_n dX10_key_12 rfl rfl rfl ?_
      refine g_put gClX10 26 (by decide) fl_X10_196 rfl dX10_key_13 (ho_199 _ _) rfl rfl (Nat.le_of_ble_eq_true rfl) po_199_26 rfl ?_
      refine g_iconst (v := 1) dX10_key_16 (by decide) rfl ?_
      subst hF
      exact g_zret rfl dX10_key_17 (by decide) (Nat.le_of_ble_eq_true rfl) (Nat.le_of_ble_eq_true rfl) ⟨rfl, rfl⟩
    · replace hF := ite_n hF c2
      refine g_iconst (v := 0) dX10_key_9 (by decide) rfl ?_
      subst hF
      exact g_zret rfl dX10_key_10 (by decide) (Nat.le_of_ble_eq_true rfl) (Nat.le_of_ble_eq_true rfl) ⟨rfl, rfl⟩
noncomputable def Fr_X10_locks (σ : gS)  : gS :=
  let s1 := (pf σ 199 35 (0 : Int32) : gS)
  if (s1 199 40) = (7 : Int32) then
    let s4 := (pf s1 199 40 (1 : Int32) : gS)
    s4
  else
    let s3 := (pf s1 199 40 (s1 199 40) : gS)
    s3
noncomputable def F_X10_locks : gS → gS := Classical.choose (⟨Fr_X10_locks, rfl⟩ : ∃ f : gS → gS, f = Fr_X10_locks)
theorem F_X10_locks_eq : F_X10_locks = Fr_X10_locks := Classical.choose_spec (⟨Fr_X10_locks, rfl⟩ : ∃ f : gS → gS, f = Fr_X10_locks)
set_option maxHeartbeats 4000000 in
set_option maxRecDepth 100000 in
theorem c_X10_locks (l : Launch) (g : gE)  {σ : gS} {ζ : gQ}  : gC l g mX10_locks (rm 0 0) [.ref 199] (hp σ ζ) (fun r h => r = none ∧ h = hp (F_X10_locks σ ) ζ) := by
  refine gC_of (by decide) (Nat.le_of_ble_eq_true rfl) ?_
  generalize hF : (F_X10_locks σ ) = fr
  rw [F_X10_locks_eq] at hF
  unfold Fr_X10_locks at hF
  refine g_aload_n dX10_locks_0 rfl rfl rfl ?_
  refine g_iconst (v := 0) dX10_locks_1 (by decide) rfl ?_
  refine g_put gClX10 35 (by decide) fl_X10_256 rfl dX10_locks_2 (ho_199 _ _) rfl rfl (Nat.le_of_ble_eq_true rfl) po_199_35 rfl ?_
  refine g_aload_n dX10_locks_5 rfl rfl rfl ?_
  refine g_aload_n dX10_locks_6 rfl rfl rfl ?_
  refine g_get gClX10 40 (by decide) fl_X10_271 dX10_locks_7 (ho_199 _ _) rfl rfl ?_
  refine g_bipush (v := 7) dX10_locks_10 (by decide) rfl ?_
  refine g_icmpne (tgt := 19) dX10_locks_12 (by decide) rfl (fun c2 => ?_) (fun c2 => ?_)
  · replace hF := ite_n hF c2
    refine g_aload_n dX10_locks_19 rfl rfl rfl ?_
    refine g_get gClX10 40 (by decide) fl_X10_271 dX10_locks_20 (ho_199 _ _) rfl rfl ?_
    refine g_put gClX10 40 (by decide) fl_X10_271 rfl dX10_locks_23 (ho_199 _ _) rfl rfl (Nat.le_of_ble_eq_true rfl) po_199_40 rfl ?_
    subst hF
    exact g_vret rfl dX10_locks_26 (Nat.le_of_ble_eq_true rfl) (Nat.le_of_ble_eq_true rfl) ⟨rfl, rfl⟩
  · replace hF := ite_p hF c2
    refine g_iconst (v := 1) dX10_locks_15 (by decide) rfl ?_
    refine g_goto (tgt := 23) dX10_locks_16 (by decide) ?_
    refine g_put gClX10 40 (by decide) fl_X10_271 rfl dX10_locks_23 (ho_199 _ _) rfl rfl (Nat.le_of_ble_eq_true rfl) po_199_40 rfl ?_
    subst hF
    exact g_vret rfl dX10_locks_26 (Nat.le_of_ble_eq_true rfl) (Nat.le_of_ble_eq_true rfl) ⟨rfl, rfl⟩
noncomputable def J_X10_latch_100  (y1 : Int32) (u0 : Int32) (σ : gS) (ζ : gQ) : gS × gQ :=
  if y1 = 0 then
    let f9 := (F_X10_put_ σ ζ u0 (0 : Int32) (-1 : Int32))
    if f9.1 = 0 then
      (f9.2.1, f9.2.2)
    else
      let s12 := (pf f9.2.1 199 38 y1 : gS)
      (s12, f9.2.2)
  else
    let f15 := (F_X10_put_ σ ζ u0 (2 : Int32) (-1 : Int32))
    if f15.1 = 0 then
      (f15.2.1, f15.2.2)
    else
      let s18 := (pf f15.2.1 199 38 y1 : gS)
      (s18, f15.2.2)
def QJ_X10_latch_100  (y1 : Int32) (u0 : Int32) (σ : gS) (ζ : gQ) : Prop :=
  if y1 = 0 then
    ((Q_X10_put_ σ ζ u0 (0 : Int32) (-1 : Int32)) ∧ (let f9 := (F_X10_put_ σ ζ u0 (0 : Int32) (-1 : Int32))
    if f9.1 = 0 then
      (True)
    else
      ((y1 = 0 ∨ y1 = 1) ∧ (let s12 := (pf f9.2.1 199 38 y1 : gS)
      True))))
  else
    ((Q_X10_put_ σ ζ u0 (2 : Int32) (-1 : Int32)) ∧ (let f15 := (F_X10_put_ σ ζ u0 (2 : Int32) (-1 : Int32))
    if f15.1 = 0 then
      (True)
    else
      ((y1 = 0 ∨ y1 = 1) ∧ (let s18 := (pf f15.2.1 199 38 y1 : gS)
      True))))
set_option maxHeartbeats 4000000 in
set_option maxRecDepth 100000 in
theorem j_X10_latch_100 (l : Launch) (g : gE)  {fr : gS × gQ} : ∀ (y1 : Int32) (u0 : Int32) (σ : gS) (ζ : gQ), QJ_X10_latch_100  y1 u0 σ ζ → J_X10_latch_100  y1 u0 σ ζ = fr → gG l g mX10_latch (rm 7 203) (gZm g (rm 7 203) (fun r h => r = none ∧ h = hp fr.1 fr.2)) 100 [(0, .ref 199), (1, .int y1)] [.int u0, .ref 199] (hp σ ζ) 0 0 := by
  intro y1 u0 σ ζ hQ hF
  unfold J_X10_latch_100 at hF
  unfold QJ_X10_latch_100 at hQ
  refine g_iload_n dX10_latch_100 rfl rfl rfl ?_
  refine g_ifeq (tgt := 108) dX10_latch_101 (by decide) rfl (fun c6 => ?_) (fun c6 => ?_)
  · replace hF := ite_p hF c6
    try replace hQ := ite_q hQ c6
    refine g_iconst (v := 0) dX10_latch_108 (by decide) rfl ?_
    refine g_iconst (v := (-1)) dX10_latch_109 (by decide) rfl ?_
    have o7 := hQ.1
    replace hQ := hQ.2
    refine g_callv mv_X10_put_ ml_X10_239 (c_X10_put_ l g _ _ _ o7) (ho_199 _ _) rfl rfl (Nat.le_of_ble_eq_true rfl) (Nat.le_of_ble_eq_true rfl) (Nat.le_of_ble_eq_true rfl) (Nat.le_of_ble_eq_true rfl) rfl (Nat.le_of_ble_eq_true rfl) dX10_latch_110 rfl (fun r8 hr8 pr8 => ?_)
    obtain ⟨rfl, rfl⟩ := pr8
    refine g_ifeq (tgt := 121) dX10_latch_113 (by decide) rfl (fun c10 => ?_) (fun c10 => ?_)
    · replace hF := ite_p hF c10
      try replace hQ := ite_q hQ c10
      subst hF
      exact g_vret rfl dX10_latch_121 (Nat.le_of_ble_eq_true rfl) (Nat.le_of_ble_eq_true rfl) ⟨rfl, rfl⟩
    · replace hF := ite_n hF c10
      try replace hQ := ite_r hQ c10
      refine g_aload_n dX10_latch_116 rfl rfl rfl ?_
      refine g_iload_n dX10_latch_117 rfl rfl rfl ?_
      have o11 := hQ.1
      replace hQ := hQ.2
      refine g_put gClX10 38 (by decide) fl_X10_268 rfl dX10_latch_118 (ho_199 _ _) (gz_n o11) (gz_f o11) (Nat.le_of_ble_eq_true rfl) po_199_38 rfl ?_
      subst hF
      exact g_vret rfl dX10_latch_121 (Nat.le_of_ble_eq_true rfl) (Nat.le_of_ble_eq_true rfl) ⟨rfl, rfl⟩
  · replace hF := ite_n hF c6
    try replace hQ := ite_r hQ c6
    refine g_iconst (v := 2) dX10_latch_104 (by decide) rfl ?_
    refine g_goto (tgt := 109) dX10_latch_105 (by decide) ?_
    refine g_iconst (v := (-1)) dX10_latch_109 (by decide) rfl ?_
    have o13 := hQ.1
    replace hQ := hQ.2
    refine g_callv mv_X10_put_ ml_X10_239 (c_X10_put_ l g _ _ _ o13) (ho_199 _ _) rfl rfl (Nat.le_of_ble_eq_true rfl) (Nat.le_of_ble_eq_true rfl) (Nat.le_of_ble_eq_true rfl) (Nat.le_of_ble_eq_true rfl) rfl (Nat.le_of_ble_eq_true rfl) dX10_latch_110 rfl (fun r14 hr14 pr14 => ?_)
    obtain ⟨rfl, rfl⟩ := pr14
    refine g_ifeq (tgt := 121) dX10_latch_113 (by decide) rfl (fun c16 => ?_) (fun c16 => ?_)
    · replace hF := ite_p hF c16
      try replace hQ := ite_q hQ c16
      subst hF
      exact g_vret rfl dX10_latch_121 (Nat.le_of_ble_eq_true rfl) (Nat.le_of_ble_eq_true rfl) ⟨rfl, rfl⟩
    · replace hF := ite_n hF c16
      try replace hQ := ite_r hQ c16
      refine g_aload_n dX10_latch_116 rfl rfl rfl ?_
      refine g_iload_n dX10_latch_117 rfl rfl rfl ?_
      have o17 := hQ.1
      replace hQ := hQ.2
      refine g_put gClX10 38 (by decide) fl_X10_268 rfl dX10_latch_118 (ho_199 _ _) (gz_n o17) (gz_f o17) (Nat.le_of_ble_eq_true rfl) po_199_38 rfl ?_
      subst hF
      exact g_vret rfl dX10_latch_121 (Nat.le_of_ble_eq_true rfl) (Nat.le_of_ble_eq_true rfl) ⟨rfl, rfl⟩
noncomputable def J_X10_latch_79  (u0 : Int32) (σ : gS) (ζ : gQ) : gS × gQ :=
  if u0 = (σ 199 38) then
    (σ, ζ)
  else
    if u0 = 0 then
      J_X10_latch_100  u0 (25 : Int32) σ ζ
    else
      J_X10_latch_100  u0 (24 : Int32) σ ζ
def QJ_X10_latch_79  (u0 : Int32) (σ : gS) (ζ : gQ) : Prop :=
  if u0 = (σ 199 38) then
    (True)
  else
    (if u0 = 0 then
      (QJ_X10_latch_100  u0 (25 : Int32) σ ζ)
    else
      (QJ_X10_latch_100  u0 (24 : Int32) σ ζ))
set_option maxHeartbeats 4000000 in
set_option maxRecDepth 100000 in
theorem j_X10_latch_79 (l : Launch) (g : gE)  {fr : gS × gQ} : ∀ (u0 : Int32) (σ : gS) (ζ : gQ), QJ_X10_latch_79  u0 σ ζ → J_X10_latch_79  u0 σ ζ = fr → gG l g mX10_latch (rm 7 203) (gZm g (rm 7 203) (fun r h => r = none ∧ h = hp fr.1 fr.2)) 79 [(0, .ref 199)] [.int u0] (hp σ ζ) 0 0 := by
  intro u0 σ ζ hQ hF
  unfold J_X10_latch_79 at hF
  unfold QJ_X10_latch_79 at hQ
  refine g_istoreL_n (L1 := [(0, _), (1, _)]) dX10_latch_79 rfl (by decide) rfl rfl ?_
  refine g_iload_n dX10_latch_80 rfl rfl rfl ?_
  refine g_aload_n dX10_latch_81 rfl rfl rfl ?_
  refine g_get gClX10 38 (by decide) fl_X10_268 dX10_latch_82 (ho_199 _ _) rfl rfl ?_
  refine g_icmpeq (tgt := 121) dX10_latch_85 (by decide) rfl (fun c4 => ?_) (fun c4 => ?_)
  · replace hF := ite_p hF c4
    try replace hQ := ite_q hQ c4
    subst hF
    exact g_vret rfl dX10_latch_121 (Nat.le_of_ble_eq_true rfl) (Nat.le_of_ble_eq_true rfl) ⟨rfl, rfl⟩
  · replace hF := ite_n hF c4
    try replace hQ := ite_r hQ c4
    refine g_aload_n dX10_latch_88 rfl rfl rfl ?_
    refine g_iload_n dX10_latch_89 rfl rfl rfl ?_
    refine g_ifeq (tgt := 98) dX10_latch_90 (by decide) rfl (fun c5 => ?_) (fun c5 => ?_)
    · replace hF := ite_p hF c5
      try replace hQ := ite_q hQ c5
      refine g_bipush (v := 25) dX10_latch_98 (by decide) rfl ?_
      refine g_sub [0, 1] rfl ?_
      exact j_X10_latch_100 l g _ _ _ _ hQ hF
    · replace hF := ite_n hF c5
      try replace hQ := ite_r hQ c5
      refine g_bipush (v := 24) dX10_latch_93 (by decide) rfl ?_
      refine g_goto (tgt := 100) dX10_latch_95 (by decide) ?_
      refine g_sub [0, 1] rfl ?_
      exact j_X10_latch_100 l g _ _ _ _ hQ hF
noncomputable def J_X10_latch_78  (σ : gS) (ζ : gQ) : gS × gQ :=
  J_X10_latch_79  (0 : Int32) σ ζ
def QJ_X10_latch_78  (σ : gS) (ζ : gQ) : Prop :=
  QJ_X10_latch_79  (0 : Int32) σ ζ
set_option maxHeartbeats 4000000 in
set_option maxRecDepth 100000 in
theorem j_X10_latch_78 (l : Launch) (g : gE)  {fr : gS × gQ} : ∀ (σ : gS) (ζ : gQ), QJ_X10_latch_78  σ ζ → J_X10_latch_78  σ ζ = fr → gG l g mX10_latch (rm 7 203) (gZm g (rm 7 203) (fun r h => r = none ∧ h = hp fr.1 fr.2)) 78 [(0, .ref 199)] [] (hp σ ζ) 0 0 := by
  intro σ ζ hQ hF
  unfold J_X10_latch_78 at hF
  unfold QJ_X10_latch_78 at hQ
  refine g_iconst (v := 0) dX10_latch_78 (by decide) rfl ?_
  refine g_sub [0] rfl ?_
  exact j_X10_latch_79 l g _ _ _ hQ hF
noncomputable def J_X10_latch_48  (σ : gS) (ζ : gQ) : gS × gQ :=
  if (σ 199 23) = 0 then
    J_X10_latch_78  σ ζ
  else
    if (σ 199 35) = 0 then
      if (lg_cmp (ζ 19) (ζ 37)) < 0 then
        J_X10_latch_78  σ ζ
      else
        J_X10_latch_79  (1 : Int32) σ ζ
    else
      J_X10_latch_78  σ ζ
def QJ_X10_latch_48  (σ : gS) (ζ : gQ) : Prop :=
  if (σ 199 23) = 0 then
    (QJ_X10_latch_78  σ ζ)
  else
    (if (σ 199 35) = 0 then
      (if (lg_cmp (ζ 19) (ζ 37)) < 0 then
        (QJ_X10_latch_78  σ ζ)
      else
        (QJ_X10_latch_79  (1 : Int32) σ ζ))
    else
      (QJ_X10_latch_78  σ ζ))
set_option maxHeartbeats 4000000 in
set_option maxRecDepth 100000 in
theorem j_X10_latch_48 (l : Launch) (g : gE)  {fr : gS × gQ} : ∀ (σ : gS) (ζ : gQ), QJ_X10_latch_48  σ ζ → J_X10_latch_48  σ ζ = fr → gG l g mX10_latch (rm 7 203) (gZm g (rm 7 203) (fun r h => r = none ∧ h = hp fr.1 fr.2)) 48 [(0, .ref 199)] [] (hp σ ζ) 0 0 := by
  intro σ ζ hQ hF
  unfold J_X10_latch_48 at hF
  unfold QJ_X10_latch_48 at hQ
  refine g_aload_n dX10_latch_48 rfl rfl rfl ?_
  refine g_get gClX10 23 (by decide) fl_X10_193 dX10_latch_49 (ho_199 _ _) rfl rfl ?_
  refine g_ifeq (tgt := 78) dX10_latch_52 (by decide) rfl (fun c3 => ?_) (fun c3 => ?_)
  · replace hF := ite_p hF c3
    try replace hQ := ite_q hQ c3
    refine g_sub [0] rfl ?_
    exact j_X10_latch_78 l g _ _ hQ hF
  · replace hF := ite_n hF c3
    try replace hQ := ite_r hQ c3
    refine g_aload_n dX10_latch_55 rfl rfl rfl ?_
    refine g_get gClX10 35 (by decide) fl_X10_256 dX10_latch_56 (ho_199 _ _) rfl rfl ?_
    refine g_ifne (tgt := 78) dX10_latch_59 (by decide) rfl (fun c19 => ?_) (fun c19 => ?_)
    · replace hF := ite_n hF c19
      try replace hQ := ite_r hQ c19
      refine g_sub [0] rfl ?_
      exact j_X10_latch_78 l g _ _ hQ hF
    · replace hF := ite_p hF c19
      try replace hQ := ite_q hQ c19
      refine g_aload_n dX10_latch_62 rfl rfl rfl ?_
      refine g_get gClX10 19 (by decide) fl_X10_182 dX10_latch_63 (ho_199 _ _) rfl rfl ?_
      refine g_aload_n dX10_latch_66 rfl rfl rfl ?_
      refine g_get gClX10 37 (by decide) fl_X10_265 dX10_latch_67 (ho_199 _ _) rfl rfl ?_
      refine g_lcmp dX10_latch_70 rfl ?_
      refine g_iflt (tgt := 78) dX10_latch_71 (by decide) rfl (fun c20 => ?_) (fun c20 => ?_)
      · replace hF := ite_p hF c20
        try replace hQ := ite_q hQ c20
        refine g_sub [0] rfl ?_
        exact j_X10_latch_78 l g _ _ hQ hF
      · replace hF := ite_n hF c20
        try replace hQ := ite_r hQ c20
        refine g_iconst (v := 1) dX10_latch_74 (by decide) rfl ?_
        refine g_goto (tgt := 79) dX10_latch_75 (by decide) ?_
        refine g_sub [0] rfl ?_
        exact j_X10_latch_79 l g _ _ _ hQ hF
noncomputable def Fr_X10_latch (σ : gS) (ζ : gQ)  : gS × gQ :=
  if (σ 199 33) = 0 then
    if (σ 199 35) = 0 then
      J_X10_latch_48  σ ζ
    else
      if (lg_cmp (ζ 19) (ζ 36)) < 0 then
        J_X10_latch_48  σ ζ
      else
        let f24 := (F_X10_put_ σ ζ (23 : Int32) (0 : Int32) (-1 : Int32))
        let s26 := (F_X10_locks f24.2.1 )
        if (s26 199 33) = 0 then
          J_X10_latch_48  s26 f24.2.2
        else
          (s26, f24.2.2)
  else
    (σ, ζ)
noncomputable def F_X10_latch : gS → gQ → gS × gQ := Classical.choose (⟨Fr_X10_latch, rfl⟩ : ∃ f : gS → gQ → gS × gQ, f = Fr_X10_latch)
theorem F_X10_latch_eq : F_X10_latch = Fr_X10_latch := Classical.choose_spec (⟨Fr_X10_latch, rfl⟩ : ∃ f : gS → gQ → gS × gQ, f = Fr_X10_latch)
def Q_X10_latch (σ : gS) (ζ : gQ)  : Prop :=
  if (σ 199 33) = 0 then
    (if (σ 199 35) = 0 then
      (QJ_X10_latch_48  σ ζ)
    else
      (if (lg_cmp (ζ 19) (ζ 36)) < 0 then
        (QJ_X10_latch_48  σ ζ)
      else
        ((Q_X10_put_ σ ζ (23 : Int32) (0 : Int32) (-1 : Int32)) ∧ (let f24 := (F_X10_put_ σ ζ (23 : Int32) (0 : Int32) (-1 : Int32))
        let s26 := (F_X10_locks f24.2.1 )
        if (s26 199 33) = 0 then
          (QJ_X10_latch_48  s26 f24.2.2)
        else
          (True)))))
  else
    (True)
set_option maxHeartbeats 4000000 in
set_option maxRecDepth 100000 in
theorem c_X10_latch (l : Launch) (g : gE)  {σ : gS} {ζ : gQ}  (hQ : Q_X10_latch σ ζ ) : gC l g mX10_latch (rm 7 203) [.ref 199] (hp σ ζ) (fun r h => r = none ∧ h = hp (F_X10_latch σ ζ ).1 (F_X10_latch σ ζ ).2) := by
  refine gC_of (by decide) (Nat.le_of_ble_eq_true rfl) ?_
  generalize hF : (F_X10_latch σ ζ ) = fr
  rw [F_X10_latch_eq] at hF
  unfold Fr_X10_latch at hF
  unfold Q_X10_latch at hQ
  refine g_aload_n dX10_latch_0 rfl rfl rfl ?_
  refine g_get gClX10 33 (by decide) fl_X10_212 dX10_latch_1 (ho_199 _ _) rfl rfl ?_
  refine g_ifeq (tgt := 8) dX10_latch_4 (by decide) rfl (fun c1 => ?_) (fun c1 => ?_)
  · replace hF := ite_p hF c1
    try replace hQ := ite_q hQ c1
    refine g_aload_n dX10_latch_8 rfl rfl rfl ?_
    refine g_get gClX10 35 (by decide) fl_X10_256 dX10_latch_9 (ho_199 _ _) rfl rfl ?_
    refine g_ifeq (tgt := 48) dX10_latch_12 (by decide) rfl (fun c2 => ?_) (fun c2 => ?_)
    · replace hF := ite_p hF c2
      try replace hQ := ite_q hQ c2
      refine g_sub [0] rfl ?_
      exact j_X10_latch_48 l g _ _ hQ hF
    · replace hF := ite_n hF c2
      try replace hQ := ite_r hQ c2
      refine g_aload_n dX10_latch_15 rfl rfl rfl ?_
      refine g_get gClX10 19 (by decide) fl_X10_182 dX10_latch_16 (ho_199 _ _) rfl rfl ?_
      refine g_aload_n dX10_latch_19 rfl rfl rfl ?_
      refine g_get gClX10 36 (by decide) fl_X10_259 dX10_latch_20 (ho_199 _ _) rfl rfl ?_
      refine g_lcmp dX10_latch_23 rfl ?_
      refine g_iflt (tgt := 48) dX10_latch_24 (by decide) rfl (fun c21 => ?_) (fun c21 => ?_)
      · replace hF := ite_p hF c21
        try replace hQ := ite_q hQ c21
        refine g_sub [0] rfl ?_
        exact j_X10_latch_48 l g _ _ hQ hF
      · replace hF := ite_n hF c21
        try replace hQ := ite_r hQ c21
        refine g_aload_n dX10_latch_27 rfl rfl rfl ?_
        refine g_bipush (v := 23) dX10_latch_28 (by decide) rfl ?_
        refine g_iconst (v := 0) dX10_latch_30 (by decide) rfl ?_
        refine g_iconst (v := (-1)) dX10_latch_31 (by decide) rfl ?_
        have o22 := hQ.1
        replace hQ := hQ.2
        refine g_callv mv_X10_put_ ml_X10_239 (c_X10_put_ l g _ _ _ o22) (ho_199 _ _) rfl rfl (Nat.le_of_ble_eq_true rfl) (Nat.le_of_ble_eq_true rfl) (Nat.le_of_ble_eq_true rfl) (Nat.le_of_ble_eq_true rfl) rfl (Nat.le_of_ble_eq_true rfl) dX10_latch_32 rfl (fun r23 hr23 pr23 => ?_)
        obtain ⟨rfl, rfl⟩ := pr23
        refine g_pop dX10_latch_35 rfl rfl ?_
        refine g_aload_n dX10_latch_36 rfl rfl rfl ?_
        refine g_callv mv_X10_locks ml_X10_262 (c_X10_locks l g) (ho_199 _ _) rfl rfl (Nat.le_of_ble_eq_true rfl) (Nat.le_of_ble_eq_true rfl) (Nat.le_of_ble_eq_true rfl) (Nat.le_of_ble_eq_true rfl) rfl (Nat.le_of_ble_eq_true rfl) dX10_latch_37 rfl (fun r25 hr25 pr25 => ?_)
        obtain ⟨rfl, rfl⟩ := pr25
        refine g_aload_n dX10_latch_40 rfl rfl rfl ?_
        refine g_get gClX10 33 (by decide) fl_X10_212 dX10_latch_41 (ho_199 _ _) rfl rfl ?_
        refine g_ifeq (tgt := 48) dX10_latch_44 (by decide) rfl (fun c27 => ?_) (fun c27 => ?_)
        · replace hF := ite_p hF c27
          try replace hQ := ite_q hQ c27
          refine g_sub [0] rfl ?_
          exact j_X10_latch_48 l g _ _ hQ hF
        · replace hF := ite_n hF c27
          try replace hQ := ite_r hQ c27
          subst hF
          exact g_vret rfl dX10_latch_47 (Nat.le_of_ble_eq_true rfl) (Nat.le_of_ble_eq_true rfl) ⟨rfl, rfl⟩
  · replace hF := ite_n hF c1
    try replace hQ := ite_r hQ c1
    subst hF
    exact g_vret rfl dX10_latch_7 (Nat.le_of_ble_eq_true rfl) (Nat.le_of_ble_eq_true rfl) ⟨rfl, rfl⟩
