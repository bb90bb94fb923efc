/-! Sealer: by program -/
noncomputable def Fr_X7_useKey (σ : gS) (p0 : Int32) (p1 : Int32) (p2 : Int32) (p3 : Int32) : gS :=
  let s1 := (pf σ 8 (ix (0 : Int32)) p0 : gS)
  let s2 := (pf s1 8 (ix (1 : Int32)) p1 : gS)
  let s3 := (pf s2 8 (ix (2 : Int32)) p2 : gS)
  let s4 := (pf s3 8 (ix (3 : Int32)) p3 : gS)
  s4
noncomputable def F_X7_useKey : gS → Int32 → Int32 → Int32 → Int32 → gS := Classical.choose (⟨Fr_X7_useKey, rfl⟩ : ∃ f : gS → Int32 → Int32 → Int32 → Int32 → gS, f = Fr_X7_useKey)
theorem F_X7_useKey_eq : F_X7_useKey = Fr_X7_useKey := Classical.choose_spec (⟨Fr_X7_useKey, rfl⟩ : ∃ f : gS → Int32 → Int32 → Int32 → Int32 → gS, f = Fr_X7_useKey)
set_option maxHeartbeats 4000000 in
set_option maxRecDepth 100000 in
theorem c_X7_useKey (l : Launch) (g : gE)  {σ : gS} {ζ : gQ} (p0 : Int32) (p1 : Int32) (p2 : Int32) (p3 : Int32) : gC l g mX7_useKey (rm 0 0) [.ref 7, .int p0, .int p1, .int p2, .int p3] (hp σ ζ) (fun r h => r = none ∧ h = hp (F_X7_useKey σ p0 p1 p2 p3) ζ) := by
  refine gC_of (by decide) (Nat.le_of_ble_eq_true rfl) ?_
  generalize hF : (F_X7_useKey σ p0 p1 p2 p3) = fr
  rw [F_X7_useKey_eq] at hF
  unfold Fr_X7_useKey at hF
  refine g_aload_n dX7_useKey_0 rfl rfl rfl ?_
  refine g_get gClX7 0 (by decide) fl_X7_9 dX7_useKey_1 (ho_7 _ _) rfl rfl ?_
  refine g_iconst (v := 0) dX7_useKey_4 (by decide) rfl ?_
  refine g_iload_n dX7_useKey_5 rfl rfl rfl ?_
  refine g_iast (ha_8 _ _) (vinc (by decide)) pa_8 dX7_useKey_6 rfl ?_
  refine g_aload_n dX7_useKey_7 rfl rfl rfl ?_
  refine g_get gClX7 0 (by decide) fl_X7_9 dX7_useKey_8 (ho_7 _ _) rfl rfl ?_
  refine g_iconst (v := 1) dX7_useKey_11 (by decide) rfl ?_
  refine g_iload_n dX7_useKey_12 rfl rfl rfl ?_
  refine g_iast (ha_8 _ _) (vinc (by decide)) pa_8 dX7_useKey_13 rfl ?_
  refine g_aload_n dX7_useKey_14 rfl rfl rfl ?_
  refine g_get gClX7 0 (by decide) fl_X7_9 dX7_useKey_15 (ho_7 _ _) rfl rfl ?_
  refine g_iconst (v := 2) dX7_useKey_18 (by decide) rfl ?_
  refine g_iload_n dX7_useKey_19 rfl rfl rfl ?_
  refine g_iast (ha_8 _ _) (vinc (by decide)) pa_8 dX7_useKey_20 rfl ?_
  refine g_aload_n dX7_useKey_21 rfl rfl rfl ?_
  refine g_get gClX7 0 (by decide) fl_X7_9 dX7_useKey_22 (ho_7 _ _) rfl rfl ?_
  refine g_iconst (v := 3) dX7_useKey_25 (by decide) rfl ?_
  refine g_iload dX7_useKey_26 rfl rfl ?_
  refine g_iast (ha_8 _ _) (vinc (by decide)) pa_8 dX7_useKey_28 rfl ?_
  subst hF
  exact g_vret rfl dX7_useKey_29 (Nat.le_of_ble_eq_true rfl) (Nat.le_of_ble_eq_true rfl) ⟨rfl, rfl⟩
noncomputable def Fr_X7_byteOfWord (p0 : Int32) (p1 : Int32) : Int32 :=
  ((ush p0 ((24 : Int32) - ((8 : Int32) * p1))) &&& (255 : Int32))
noncomputable def F_X7_byteOfWord : Int32 → Int32 → Int32 := Classical.choose (⟨Fr_X7_byteOfWord, rfl⟩ : ∃ f : Int32 → Int32 → Int32, f = Fr_X7_byteOfWord)
theorem F_X7_byteOfWord_eq : F_X7_byteOfWord = Fr_X7_byteOfWord := Classical.choose_spec (⟨Fr_X7_byteOfWord, rfl⟩ : ∃ f : Int32 → Int32 → Int32, f = Fr_X7_byteOfWord)
set_option maxHeartbeats 4000000 in
set_option maxRecDepth 100000 in
theorem c_X7_byteOfWord (l : Launch) (g : gE)  {σ : gS} {ζ : gQ} (p0 : Int32) (p1 : Int32) : gC l g mX7_byteOfWord (rm 0 0) [.int p0, .int p1] (hp σ ζ) (fun r h => r = some (.int (F_X7_byteOfWord p0 p1)) ∧ h = hp σ ζ) := by
  refine gC_of (by decide) (Nat.le_of_ble_eq_true rfl) ?_
  generalize hF : (F_X7_byteOfWord p0 p1) = fr
  rw [F_X7_byteOfWord_eq] at hF
  unfold Fr_X7_byteOfWord at hF
  refine g_iload_n dX7_byteOfWord_0 rfl rfl rfl ?_
  refine g_bipush (v := 24) dX7_byteOfWord_1 (by decide) rfl ?_
  refine g_bipush (v := 8) dX7_byteOfWord_3 (by decide) rfl ?_
  refine g_iload_n dX7_byteOfWord_5 rfl rfl rfl ?_
  refine g_imul dX7_byteOfWord_6 rfl ?_
  refine g_isub dX7_byteOfWord_7 rfl ?_
  refine g_iushr dX7_byteOfWord_8 rfl ?_
  refine g_sipush (v := 255) dX7_byteOfWord_9 (by decide) rfl ?_
  refine g_iand dX7_byteOfWord_12 rfl ?_
  subst hF
  exact g_iret rfl dX7_byteOfWord_13 (Nat.le_of_ble_eq_true rfl) (Nat.le_of_ble_eq_true rfl) ⟨rfl, rfl⟩
noncomputable def Fr_X7_sealByte (σ : gS) (p0 : Int32) : Int32 :=
  if p0 < 0 then
    (-1 : Int32)
  else
    if (16 : Int32) ≤ p0 then
      (-1 : Int32)
    else
      (F_X7_byteOfWord (σ 11 (ix (p0 / (4 : Int32)))) (rem32 p0 (4 : Int32)))
noncomputable def F_X7_sealByte : gS → Int32 → Int32 := Classical.choose (⟨Fr_X7_sealByte, rfl⟩ : ∃ f : gS → Int32 → Int32, f = Fr_X7_sealByte)
theorem F_X7_sealByte_eq : F_X7_sealByte = Fr_X7_sealByte := Classical.choose_spec (⟨Fr_X7_sealByte, rfl⟩ : ∃ f : gS → Int32 → Int32, f = Fr_X7_sealByte)
def Q_X7_sealByte (σ : gS) (p0 : Int32) : Prop :=
  if p0 < 0 then
    (True)
  else
    (if (16 : Int32) ≤ p0 then
      (True)
    else
      (vp_in (p0 / (4 : Int32)) 8 ∧ (True)))
set_option maxHeartbeats 4000000 in
set_option maxRecDepth 100000 in
theorem c_X7_sealByte (l : Launch) (g : gE)  {σ : gS} {ζ : gQ} (p0 : Int32) (hQ : Q_X7_sealByte σ p0) : gC l g mX7_sealByte (rm 1 21) [.ref 7, .int p0] (hp σ ζ) (fun r h => r = some (.int (F_X7_sealByte σ p0)) ∧ h = hp σ ζ) := by
  refine gC_of (by decide) (Nat.le_of_ble_eq_true rfl) ?_
  generalize hF : (F_X7_sealByte σ p0) = fr
  rw [F_X7_sealByte_eq] at hF
  unfold Fr_X7_sealByte at hF
  unfold Q_X7_sealByte at hQ
  refine g_iload_n dX7_sealByte_0 rfl rfl rfl ?_
  refine g_iflt (tgt := 27) dX7_sealByte_1 (by decide) rfl (fun c1 => ?_) (fun c1 => ?_)
  · replace hF := ite_p hF c1
    try replace hQ := ite_q hQ c1
    refine g_iconst (v := (-1)) dX7_sealByte_27 (by decide) rfl ?_
    subst hF
    exact g_iret rfl dX7_sealByte_28 (Nat.le_of_ble_eq_true rfl) (Nat.le_of_ble_eq_true rfl) ⟨rfl, rfl⟩
  · replace hF := ite_n hF c1
    try replace hQ := ite_r hQ c1
    refine g_iload_n dX7_sealByte_4 rfl rfl rfl ?_
    refine g_bipush (v := 16) dX7_sealByte_5 (by decide) rfl ?_
    refine g_icmpge (tgt := 27) dX7_sealByte_7 (by decide) rfl (fun c2 => ?_) (fun c2 => ?_)
    · replace hF := ite_p hF c2
      try replace hQ := ite_q hQ c2
      refine g_iconst (v := (-1)) dX7_sealByte_27 (by decide) rfl ?_
      subst hF
      exact g_iret rfl dX7_sealByte_28 (Nat.le_of_ble_eq_true rfl) (Nat.le_of_ble_eq_true rfl) ⟨rfl, rfl⟩
    · replace hF := ite_n hF c2
      try replace hQ := ite_r hQ c2
      refine g_aload_n dX7_sealByte_10 rfl rfl rfl ?_
      refine g_get gClX7 3 (by decide) fl_X7_22 dX7_sealByte_11 (ho_7 _ _) rfl rfl ?_
      refine g_iload_n dX7_sealByte_14 rfl rfl rfl ?_
      refine g_iconst (v := 4) dX7_sealByte_15 (by decide) rfl ?_
      refine g_idiv dX7_sealByte_16 (by decide) rfl ?_
      have o3 := hQ.1
      replace hQ := hQ.2
      refine g_iald (ha_11 _ _) o3 dX7_sealByte_17 rfl ?_
      refine g_iload_n dX7_sealByte_18 rfl rfl rfl ?_
      refine g_iconst (v := 4) dX7_sealByte_19 (by decide) rfl ?_
      refine g_irem dX7_sealByte_20 (by decide) rfl ?_
      refine g_calls mt_X7_byteOfWord ms_X7_byteOfWord ml_X7_52 (c_X7_byteOfWord l g _ _) rfl (Nat.le_of_ble_eq_true rfl) (Nat.le_of_ble_eq_true rfl) (Nat.le_of_ble_eq_true rfl) (Nat.le_of_ble_eq_true rfl) rfl (Nat.le_of_ble_eq_true rfl) dX7_sealByte_21 rfl (fun r4 hr4 pr4 => ?_)
      obtain ⟨rfl, rfl⟩ := pr4
      refine g_goto (tgt := 28) dX7_sealByte_24 (by decide) ?_
      subst hF
      exact g_iret rfl dX7_sealByte_28 (Nat.le_of_ble_eq_true rfl) (Nat.le_of_ble_eq_true rfl) ⟨rfl, rfl⟩
noncomputable def G_X7_beginWithKey_L2 (p0 : Int32) : Nat → Int32 → gS → gS
  | 0, _, σ => σ
  | n + 1, y2, σ =>
    if (64 : Int32) ≤ y2 then
      σ
    else
      if (16 : Int32) ≤ y2 then
        let s4 := (pf σ 9 (ix y2) ((0 : Int32) ^^^ p0).toInt8.toInt32.toInt8.toInt32 : gS)
        G_X7_beginWithKey_L2 p0 n (y2 + Int32.ofInt (1)) s4
      else
        let v7 := (F_X7_byteOfWord (σ 8 (ix (y2 / (4 : Int32)))) (rem32 y2 (4 : Int32)))
        let s9 := (pf σ 9 (ix y2) (v7 ^^^ p0).toInt8.toInt32.toInt8.toInt32 : gS)
        G_X7_beginWithKey_L2 p0 n (y2 + Int32.ofInt (1)) s9
def QG_X7_beginWithKey_L2 (p0 : Int32) : Nat → Int32 → gS → Prop
  | 0, _, _ => False
  | n + 1, y2, σ =>
    if (64 : Int32) ≤ y2 then
      (True)
    else
      (if (16 : Int32) ≤ y2 then
        (vp_in y2 512 ∧ (let s4 := (pf σ 9 (ix y2) ((0 : Int32) ^^^ p0).toInt8.toInt32.toInt8.toInt32 : gS)
        QG_X7_beginWithKey_L2 p0 n (y2 + Int32.ofInt (1)) s4))
      else
        (vp_in (y2 / (4 : Int32)) 4 ∧ (let v7 := (F_X7_byteOfWord (σ 8 (ix (y2 / (4 : Int32)))) (rem32 y2 (4 : Int32)))
        vp_in y2 512 ∧ (let s9 := (pf σ 9 (ix y2) (v7 ^^^ p0).toInt8.toInt32.toInt8.toInt32 : gS)
        QG_X7_beginWithKey_L2 p0 n (y2 + Int32.ofInt (1)) s9))))
set_option maxHeartbeats 4000000 in
set_option maxRecDepth 100000 in
theorem t_X7_beginWithKey_L2 (l : Launch) (g : gE) {p0 : Int32} {ζ : gQ} {fr : gS} : ∀ (n : Nat) (y2 : Int32) (σ : gS), QG_X7_beginWithKey_L2 p0 n y2 σ → G_X7_beginWithKey_L2 p0 n y2 σ = fr → gG l g mX7_beginWithKey (rm 1 21) (gZm g (rm 1 21) (fun r h => r = none ∧ h = hp fr ζ)) 2 [(0, .ref 7), (1, .int p0), (2, .int y2)] [] (hp σ ζ) 0 0 := by
  intro n
  induction n with
  | zero => intro y2 σ hQ; exact absurd hQ (by unfold QG_X7_beginWithKey_L2; exact id)
  | succ n ihL2 =>
    intro y2 σ hQ hF
    unfold G_X7_beginWithKey_L2 at hF
    unfold QG_X7_beginWithKey_L2 at hQ
    refine g_iload_n dX7_beginWithKey_2 rfl rfl rfl ?_
    refine g_bipush (v := 64) dX7_beginWithKey_3 (by decide) rfl ?_
    refine g_icmpge (tgt := 49) dX7_beginWithKey_5 (by decide) rfl (fun c1 => ?_) (fun c1 => ?_)
    · replace hF := ite_p hF c1
      try replace hQ := ite_q hQ c1
      subst hF
      exact g_vret rfl dX7_beginWithKey_49 (Nat.le_of_ble_eq_true rfl) (Nat.le_of_ble_eq_true rfl) ⟨rfl, rfl⟩
    · replace hF := ite_n hF c1
      try replace hQ := ite_r hQ c1
      refine g_iload_n dX7_beginWithKey_8 rfl rfl rfl ?_
      refine g_bipush (v := 16) dX7_beginWithKey_9 (by decide) rfl ?_
      refine g_icmpge (tgt := 31) dX7_beginWithKey_11 (by decide) rfl (fun c2 => ?_) (fun c2 => ?_)
      · replace hF := ite_p hF c2
        try replace hQ := ite_q hQ c2
        refine g_iconst (v := 0) dX7_beginWithKey_31 (by decide) rfl ?_
        refine g_istoreL_n (L1 := [(0, _), (1, _), (2, _), (3, _)]) dX7_beginWithKey_32 rfl (by decide) rfl rfl ?_
        refine g_aload_n dX7_beginWithKey_33 rfl rfl rfl ?_
        refine g_get gClX7 1 (by decide) fl_X7_15 dX7_beginWithKey_34 (ho_7 _ _) rfl rfl ?_
        refine g_iload_n dX7_beginWithKey_37 rfl rfl rfl ?_
        refine g_iload_n dX7_beginWithKey_38 rfl rfl rfl ?_
        refine g_iload_n dX7_beginWithKey_39 rfl rfl rfl ?_
        refine g_ixor dX7_beginWithKey_40 rfl ?_
        refine g_i2b dX7_beginWithKey_41 rfl ?_
        have o3 := hQ.1
        replace hQ := hQ.2
        refine g_bast (ha_9 _ _) o3 pa_9 dX7_beginWithKey_42 rfl ?_
        refine g_iincL (L1 := [(0, _), (1, _), (2, _), (3, _)]) dX7_beginWithKey_43 rfl (by decide) rfl rfl ?_
        refine g_goto (tgt := 2) dX7_beginWithKey_46 (by decide) ?_
        refine g_sub [0, 1, 2] rfl ?_
        exact ihL2 _ _ hQ hF
      · replace hF := ite_n hF c2
        try replace hQ := ite_r hQ c2
        refine g_aload_n dX7_beginWithKey_14 rfl rfl rfl ?_
        refine g_get gClX7 0 (by decide) fl_X7_9 dX7_beginWithKey_15 (ho_7 _ _) rfl rfl ?_
        refine g_iload_n dX7_beginWithKey_18 rfl rfl rfl ?_
        refine g_iconst (v := 4) dX7_beginWithKey_19 (by decide) rfl ?_
        refine g_idiv dX7_beginWithKey_20 (by decide) rfl ?_
        have o5 := hQ.1
        replace hQ := hQ.2
        refine g_iald (ha_8 _ _) o5 dX7_beginWithKey_21 rfl ?_
        refine g_iload_n dX7_beginWithKey_22 rfl rfl rfl ?_
        refine g_iconst (v := 4) dX7_beginWithKey_23 (by decide) rfl ?_
        refine g_irem dX7_beginWithKey_24 (by decide) rfl ?_
        refine g_calls mt_X7_byteOfWord ms_X7_byteOfWord ml_X7_52 (c_X7_byteOfWord l g _ _) rfl (Nat.le_of_ble_eq_true rfl) (Nat.le_of_ble_eq_true rfl) (Nat.le_of_ble_eq_true rfl) (Nat.le_of_ble_eq_true rfl) rfl (Nat.le_of_ble_eq_true rfl) dX7_beginWithKey_25 rfl (fun r6 hr6 pr6 => ?_)
        obtain ⟨rfl, rfl⟩ := pr6
        refine g_goto (tgt := 32) dX7_beginWithKey_28 (by decide) ?_
        refine g_istoreL_n (L1 := [(0, _), (1, _), (2, _), (3, _)]) dX7_beginWithKey_32 rfl (by decide) rfl rfl ?_
        refine g_aload_n dX7_beginWithKey_33 rfl rfl rfl ?_
        refine g_get gClX7 1 (by decide) fl_X7_15 dX7_beginWithKey_34 (ho_7 _ _) rfl rfl ?_
        refine g_iload_n dX7_beginWithKey_37 rfl rfl rfl ?_
        refine g_iload_n dX7_beginWithKey_38 rfl rfl rfl ?_
        refine g_iload_n dX7_beginWithKey_39 rfl rfl rfl ?_
        refine g_ixor dX7_beginWithKey_40 rfl ?_
        refine g_i2b dX7_beginWithKey_41 rfl ?_
        have o8 := hQ.1
        replace hQ := hQ.2
        refine g_bast (ha_9 _ _) o8 pa_9 dX7_beginWithKey_42 rfl ?_
        refine g_iincL (L1 := [(0, _), (1, _), (2, _), (3, _)]) dX7_beginWithKey_43 rfl (by decide) rfl rfl ?_
        refine g_goto (tgt := 2) dX7_beginWithKey_46 (by decide) ?_
        refine g_sub [0, 1, 2] rfl ?_
        exact ihL2 _ _ hQ hF
noncomputable def Fr_X7_beginWithKey (σ : gS) (p0 : Int32) : gS :=
  G_X7_beginWithKey_L2 p0 4000 (0 : Int32) σ
noncomputable def F_X7_beginWithKey : gS → Int32 → gS := Classical.choose (⟨Fr_X7_beginWithKey, rfl⟩ : ∃ f : gS → Int32 → gS, f = Fr_X7_beginWithKey)
theorem F_X7_beginWithKey_eq : F_X7_beginWithKey = Fr_X7_beginWithKey := Classical.choose_spec (⟨Fr_X7_beginWithKey, rfl⟩ : ∃ f : gS → Int32 → gS, f = Fr_X7_beginWithKey)
def Q_X7_beginWithKey (σ : gS) (p0 : Int32) : Prop :=
  QG_X7_beginWithKey_L2 p0 4000 (0 : Int32) σ
set_option maxHeartbeats 4000000 in
set_option maxRecDepth 100000 in
theorem c_X7_beginWithKey (l : Launch) (g : gE)  {σ : gS} {ζ : gQ} (p0 : Int32) (hQ : Q_X7_beginWithKey σ p0) : gC l g mX7_beginWithKey (rm 1 21) [.ref 7, .int p0] (hp σ ζ) (fun r h => r = none ∧ h = hp (F_X7_beginWithKey σ p0) ζ) := by
  refine gC_of (by decide) (Nat.le_of_ble_eq_true rfl) ?_
  generalize hF : (F_X7_beginWithKey σ p0) = fr
  rw [F_X7_beginWithKey_eq] at hF
  unfold Fr_X7_beginWithKey at hF
  unfold Q_X7_beginWithKey at hQ
  refine g_iconst (v := 0) dX7_beginWithKey_0 (by decide) rfl ?_
  refine g_istoreL_n (L1 := [(0, _), (1, _), (2, _)]) dX7_beginWithKey_1 rfl (by decide) rfl rfl ?_
  refine g_sub [0, 1, 2] rfl ?_
  exact t_X7_beginWithKey_L2 l g 4000 _ _ hQ hF
