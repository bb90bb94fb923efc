noncomputable def G_X7_work_L58 (j N : Nat) (p1 : Int32) : Nat → Int32 → Int32 → gS → gS
  | 0, _, _, σ => σ
  | n + 1, y3, y4, σ =>
    if (32 : Int32) ≤ y4 then
      let s16 := (F_X7_hashText σ (96 : Int32))
      s16
    else
      let s20 := (pf σ 9 (ix ((64 : Int32) + y4)) (F_X7_byteOfWord (σ 11 (ix (y4 / (4 : Int32)))) (rem32 y4 (4 : Int32))).toInt8.toInt32.toInt8.toInt32 : gS)
      G_X7_work_L58 j N p1 n y3 (y4 + Int32.ofInt (1)) s20
def QG_X7_work_L58 (j N : Nat) (p1 : Int32) : Nat → Int32 → Int32 → gS → Prop
  | 0, _, _, _ => False
  | n + 1, y3, y4, σ =>
    if (32 : Int32) ≤ y4 then
      ((Q_X7_hashText σ (96 : Int32)) ∧ (let s16 := (F_X7_hashText σ (96 : Int32))
      True))
    else
      (vp_in (y4 / (4 : Int32)) 8 ∧ (vp_in ((64 : Int32) + y4) 512 ∧ (let s20 := (pf σ 9 (ix ((64 : Int32) + y4)) (F_X7_byteOfWord (σ 11 (ix (y4 / (4 : Int32)))) (rem32 y4 (4 : Int32))).toInt8.toInt32.toInt8.toInt32 : gS)
      QG_X7_work_L58 j N p1 n y3 (y4 + Int32.ofInt (1)) s20)))
set_option maxHeartbeats 4000000 in
set_option maxRecDepth 100000 in
theorem t_X7_work_L58 (l : Launch) (g : gE) {j N : Nat} {p1 : Int32} (hB : isB j N) {ζ : gQ} {fr : gS} (hT : gTab g) : ∀ (n : Nat) (y3 : Int32) (y4 : Int32) (σ : gS), QG_X7_work_L58 j N p1 n y3 y4 σ → G_X7_work_L58 j N p1 n y3 y4 σ = fr → gG l g mX7_work (rm 2 63) (gZm g (rm 2 63) (fun r h => r = none ∧ h = hp fr ζ)) 58 [(0, .ref 7), (1, .ref j), (2, .int p1), (3, .int y3), (4, .int y4)] [] (hp σ ζ) 0 0 := by
  intro n
  induction n with
  | zero => intro y3 y4 σ hQ; exact absurd hQ (by unfold QG_X7_work_L58; exact id)
  | succ n ihL58 =>
    intro y3 y4 σ hQ hF
    unfold G_X7_work_L58 at hF
    unfold QG_X7_work_L58 at hQ
    refine g_iload dX7_work_58 rfl rfl ?_
    refine g_bipush (v := 32) dX7_work_60 (by decide) rfl ?_
    refine g_icmpge (tgt := 98) dX7_work_62 (by decide) rfl (fun c13 => ?_) (fun c13 => ?_)
    · replace hF := ite_p hF c13
      try replace hQ := ite_q hQ c13
      refine g_aload_n dX7_work_98 rfl rfl rfl ?_
      refine g_bipush (v := 96) dX7_work_99 (by decide) rfl ?_
      have o14 := hQ.1
      replace hQ := hQ.2
      refine g_callv mv_X7_hashText ml_X7_49 (c_X7_hashText l g hT _ o14) (ho_7 _ _) rfl rfl (Nat.le_of_ble_eq_true rfl) (Nat.le_of_ble_eq_true rfl) (Nat.le_of_ble_eq_true rfl) (Nat.le_of_ble_eq_true rfl) rfl (Nat.le_of_ble_eq_true rfl) dX7_work_101 rfl (fun r15 hr15 pr15 => ?_)
      obtain ⟨rfl, rfl⟩ := pr15
      subst hF
      exact g_vret rfl dX7_work_104 (Nat.le_of_ble_eq_true rfl) (Nat.le_of_ble_eq_true rfl) ⟨rfl, rfl⟩
    · replace hF := ite_n hF c13
      try replace hQ := ite_r hQ c13
      refine g_aload_n dX7_work_65 rfl rfl rfl ?_
      refine g_get gClX7 1 (by decide) fl_X7_15 dX7_work_66 (ho_7 _ _) rfl rfl ?_
      refine g_bipush (v := 64) dX7_work_69 (by decide) rfl ?_
      refine g_iload dX7_work_71 rfl rfl ?_
      refine g_iadd dX7_work_73 rfl ?_
      refine g_aload_n dX7_work_74 rfl rfl rfl ?_
      refine g_get gClX7 3 (by decide) fl_X7_22 dX7_work_75 (ho_7 _ _) rfl rfl ?_
      refine g_iload dX7_work_78 rfl rfl ?_
      refine g_iconst (v := 4) dX7_work_80 (by decide) rfl ?_
      refine g_idiv dX7_work_81 (by decide) rfl ?_
      have o17 := hQ.1
      replace hQ := hQ.2
      refine g_iald (ha_11 _ _) o17 dX7_work_82 rfl ?_
      refine g_iload dX7_work_83 rfl rfl ?_
      refine g_iconst (v := 4) dX7_work_85 (by decide) rfl ?_
      refine g_irem dX7_work_86 (by decide) rfl ?_
      refine g_calls mt_X7_byteOfWord ms_X7_byteOfWord ml_X7_52 (c_X7_byteOfWord l g _ _) rfl (Nat.le_of_ble_eq_true rfl) (Nat.le_of_ble_eq_true rfl) (Nat.le_of_ble_eq_true rfl) (Nat.le_of_ble_eq_true rfl) rfl (Nat.le_of_ble_eq_true rfl) dX7_work_87 rfl (fun r18 hr18 pr18 => ?_)
      obtain ⟨rfl, rfl⟩ := pr18
      refine g_i2b dX7_work_90 rfl ?_
      have o19 := hQ.1
      replace hQ := hQ.2
      refine g_bast (ha_9 _ _) o19 pa_9 dX7_work_91 rfl ?_
      refine g_iincL (L1 := [(0, _), (1, _), (2, _), (3, _), (4, _)]) dX7_work_92 rfl (by decide) rfl rfl ?_
      refine g_goto (tgt := 58) dX7_work_95 (by decide) ?_
      refine g_sub [0, 1, 2, 3, 4] rfl ?_
      exact ihL58 _ _ _ hQ hF
noncomputable def Fr_X7_work (σ : gS) (j N : Nat) (p1 : Int32) : gS :=
  let v1 := (if (0 : Int32) < (if (if (400 : Int32) < (nI N) then (400 : Int32) else (nI N)) < p1 then (if (400 : Int32) < (nI N) then (400 : Int32) else (nI N)) else p1) then (if (if (400 : Int32) < (nI N) then (400 : Int32) else (nI N)) < p1 then (if (400 : Int32) < (nI N) then (400 : Int32) else (nI N)) else p1) else (0 : Int32))
  let s4 := (F_X7_beginWithKey σ (54 : Int32))
  let s6 := (va_up s4 9 (va_cpy (s4 (j + 1)) (s4 9) (ix (0 : Int32)) (ix (64 : Int32)) (ix v1)) : gS)
  let s9 := (F_X7_hashText s6 ((64 : Int32) + v1))
  let s12 := (F_X7_beginWithKey s9 (92 : Int32))
  G_X7_work_L58 j N p1 4000 v1 (0 : Int32) s12
noncomputable def F_X7_work : gS → Nat → Nat → Int32 → gS := Classical.choose (⟨Fr_X7_work, rfl⟩ : ∃ f : gS → Nat → Nat → Int32 → gS, f = Fr_X7_work)
theorem F_X7_work_eq : F_X7_work = Fr_X7_work := Classical.choose_spec (⟨Fr_X7_work, rfl⟩ : ∃ f : gS → Nat → Nat → Int32 → gS, f = Fr_X7_work)
def Q_X7_work (σ : gS) (j N : Nat) (p1 : Int32) : Prop :=
  let v1 := (if (0 : Int32) < (if (if (400 : Int32) < (nI N) then (400 : Int32) else (nI N)) < p1 then (if (400 : Int32) < (nI N) then (400 : Int32) else (nI N)) else p1) then (if (if (400 : Int32) < (nI N) then (400 : Int32) else (nI N)) < p1 then (if (400 : Int32) < (nI N) then (400 : Int32) else (nI N)) else p1) else (0 : Int32))
  (Q_X7_beginWithKey σ (54 : Int32)) ∧ (let s4 := (F_X7_beginWithKey σ (54 : Int32))
  (¬ (0 : Int32) < 0 ∧ ¬ (64 : Int32) < 0 ∧ ¬ v1 < 0 ∧ ix (0 : Int32) + ix v1 ≤ N ∧ ix (64 : Int32) + ix v1 ≤ 512) ∧ (let s6 := (va_up s4 9 (va_cpy (s4 (j + 1)) (s4 9) (ix (0 : Int32)) (ix (64 : Int32)) (ix v1)) : gS)
  (Q_X7_hashText s6 ((64 : Int32) + v1)) ∧ (let s9 := (F_X7_hashText s6 ((64 : Int32) + v1))
  (Q_X7_beginWithKey s9 (92 : Int32)) ∧ (let s12 := (F_X7_beginWithKey s9 (92 : Int32))
  QG_X7_work_L58 j N p1 4000 v1 (0 : Int32) s12))))
set_option maxHeartbeats 4000000 in
set_option maxRecDepth 100000 in
theorem c_X7_work (l : Launch) (g : gE) {j N : Nat} (hB : isB j N) (hT : gTab g) {σ : gS} {ζ : gQ} (p1 : Int32) (hQ : Q_X7_work σ j N p1) : gC l g mX7_work (rm 2 63) [.ref 7, .ref j, .int p1] (hp σ ζ) (fun r h => r = none ∧ h = hp (F_X7_work σ j N p1) ζ) := by
  refine gC_of (by decide) (Nat.le_of_ble_eq_true rfl) ?_
  generalize hF : (F_X7_work σ j N p1) = fr
  rw [F_X7_work_eq] at hF
  unfold Fr_X7_work at hF
  unfold Q_X7_work at hQ
  refine g_iconst (v := 0) dX7_work_0 (by decide) rfl ?_
  refine g_iload_n dX7_work_1 rfl rfl rfl ?_
  refine g_aload_n dX7_work_2 rfl rfl rfl ?_
  refine g_get gClX0 0 (by decide) fl_X7_25 dX7_work_3 (hB.o _ ζ) rfl rfl ?_
  refine g_alen (hB.a _ ζ) rfl dX7_work_6 rfl ?_
  refine g_sipush (v := 400) dX7_work_7 (by decide) rfl ?_
  refine g_min ml_X7_30 st_min in_Math cd_min (Nat.le_of_ble_eq_true rfl) (Nat.le_of_ble_eq_true rfl) (Nat.le_of_ble_eq_true rfl) (Nat.le_of_ble_eq_true rfl) dX7_work_10 rfl ?_
  refine g_min ml_X7_30 st_min in_Math cd_min (Nat.le_of_ble_eq_true rfl) (Nat.le_of_ble_eq_true rfl) (Nat.le_of_ble_eq_true rfl) (Nat.le_of_ble_eq_true rfl) dX7_work_13 rfl ?_
  refine g_max ml_X7_36 st_max in_Math cd_max (Nat.le_of_ble_eq_true rfl) (Nat.le_of_ble_eq_true rfl) (Nat.le_of_ble_eq_true rfl) (Nat.le_of_ble_eq_true rfl) dX7_work_16 rfl ?_
  refine g_istoreL_n (L1 := [(0, _), (1, _), (2, _), (3, _)]) dX7_work_19 rfl (by decide) rfl rfl ?_
  refine g_aload_n dX7_work_20 rfl rfl rfl ?_
  refine g_bipush (v := 54) dX7_work_21 (by decide) rfl ?_
  have o2 := hQ.1
  replace hQ := hQ.2
  refine g_callv mv_X7_beginWithKey ml_X7_39 (c_X7_beginWithKey l g _ o2) (ho_7 _ _) rfl rfl (Nat.le_of_ble_eq_true rfl) (Nat.le_of_ble_eq_true rfl) (Nat.le_of_ble_eq_true rfl) (Nat.le_of_ble_eq_true rfl) rfl (Nat.le_of_ble_eq_true rfl) dX7_work_23 rfl (fun r3 hr3 pr3 => ?_)
  obtain ⟨rfl, rfl⟩ := pr3
  refine g_aload_n dX7_work_26 rfl rfl rfl ?_
  refine g_get gClX0 0 (by decide) fl_X7_25 dX7_work_27 (hB.o _ ζ) rfl rfl ?_
  refine g_iconst (v := 0) dX7_work_30 (by decide) rfl ?_
  refine g_aload_n dX7_work_31 rfl rfl rfl ?_
  refine g_get gClX7 1 (by decide) fl_X7_15 dX7_work_32 (ho_7 _ _) rfl rfl ?_
  refine g_bipush (v := 64) dX7_work_35 (by decide) rfl ?_
  refine g_iload_n dX7_work_37 rfl rfl rfl ?_
  have o5 := hQ.1
  replace hQ := hQ.2
  refine g_cpyb cp_X7_43 (hB.a _ ζ) (ha_9 _ _) o5.1 o5.2.1 o5.2.2.1 o5.2.2.2.1 o5.2.2.2.2 (hp_put (by decide) rfl) (Nat.le_of_ble_eq_true rfl) (Nat.le_of_ble_eq_true rfl) dX7_work_38 rfl ?_
  refine g_aload_n dX7_work_41 rfl rfl rfl ?_
  refine g_bipush (v := 64) dX7_work_42 (by decide) rfl ?_
  refine g_iload_n dX7_work_44 rfl rfl rfl ?_
  refine g_iadd dX7_work_45 rfl ?_
  have o7 := hQ.1
  replace hQ := hQ.2
  refine g_callv mv_X7_hashText ml_X7_49 (c_X7_hashText l g hT _ o7) (ho_7 _ _) rfl rfl (Nat.le_of_ble_eq_true rfl) (Nat.le_of_ble_eq_true rfl) (Nat.le_of_ble_eq_true rfl) (Nat.le_of_ble_eq_true rfl) rfl (Nat.le_of_ble_eq_true rfl) dX7_work_46 rfl (fun r8 hr8 pr8 => ?_)
  obtain ⟨rfl, rfl⟩ := pr8
  refine g_aload_n dX7_work_49 rfl rfl rfl ?_
  refine g_bipush (v := 92) dX7_work_50 (by decide) rfl ?_
  have o10 := hQ.1
  replace hQ := hQ.2
  refine g_callv mv_X7_beginWithKey ml_X7_39 (c_X7_beginWithKey l g _ o10) (ho_7 _ _) rfl rfl (Nat.le_of_ble_eq_true rfl) (Nat.le_of_ble_eq_true rfl) (Nat.le_of_ble_eq_true rfl) (Nat.le_of_ble_eq_true rfl) rfl (Nat.le_of_ble_eq_true rfl) dX7_work_52 rfl (fun r11 hr11 pr11 => ?_)
  obtain ⟨rfl, rfl⟩ := pr11
  refine g_iconst (v := 0) dX7_work_55 (by decide) rfl ?_
  refine g_istoreL (L1 := [(0, _), (1, _), (2, _), (3, _), (4, _)]) dX7_work_56 (by decide) rfl rfl ?_
  refine g_sub [0, 1, 2, 3, 4] rfl ?_
  exact t_X7_work_L58 l g hB hT 4000 _ _ _ hQ hF
noncomputable def G_X7_addSealTo_L2 (j N : Nat) : Nat → Int32 → gS → gS
  | 0, _, σ => σ
  | n + 1, y2, σ =>
    if (16 : Int32) ≤ y2 then
      σ
    else
      let s6 := (F_X0_addByte σ j N (F_X7_sealByte σ y2))
      G_X7_addSealTo_L2 j N n (y2 + Int32.ofInt (1)) s6
def QG_X7_addSealTo_L2 (j N : Nat) : Nat → Int32 → gS → Prop
  | 0, _, _ => False
  | n + 1, y2, σ =>
    if (16 : Int32) ≤ y2 then
      (True)
    else
      ((Q_X7_sealByte σ y2) ∧ ((Q_X0_addByte σ j N (F_X7_sealByte σ y2)) ∧ (let s6 := (F_X0_addByte σ j N (F_X7_sealByte σ y2))
      QG_X7_addSealTo_L2 j N n (y2 + Int32.ofInt (1)) s6)))
set_option maxHeartbeats 4000000 in
set_option maxRecDepth 100000 in
theorem t_X7_addSealTo_L2 (l : Launch) (g : gE) {j N : Nat} (hB : isB j N) {ζ : gQ} {fr : gS} : ∀ (n : Nat) (y2 : Int32) (σ : gS), QG_X7_addSealTo_L2 j N n y2 σ → G_X7_addSealTo_L2 j N n y2 σ = fr → gG l g mX7_addSealTo (rm 2 42) (gZm g (rm 2 42) (fun r h => r = none ∧ h = hp fr ζ)) 2 [(0, .ref 7), (1, .ref j), (2, .int y2)] [] (hp σ ζ) 0 0 := by
  intro n
  induction n with
  | zero => intro y2 σ hQ; exact absurd hQ (by unfold QG_X7_addSealTo_L2; exact id)
  | succ n ihL2 =>
    intro y2 σ hQ hF
    unfold G_X7_addSealTo_L2 at hF
    unfold QG_X7_addSealTo_L2 at hQ
    refine g_iload_n dX7_addSealTo_2 rfl rfl rfl ?_
    refine g_bipush (v := 16) dX7_addSealTo_3 (by decide) rfl ?_
    refine g_icmpge (tgt := 23) dX7_addSealTo_5 (by decide) rfl (fun c1 => ?_) (fun c1 => ?_)
    · replace hF := ite_p hF c1
      try replace hQ := ite_q hQ c1
      subst hF
      exact g_vret rfl dX7_addSealTo_23 (Nat.le_of_ble_eq_true rfl) (Nat.le_of_ble_eq_true rfl) ⟨rfl, rfl⟩
    · replace hF := ite_n hF c1
      try replace hQ := ite_r hQ c1
      refine g_aload_n dX7_addSealTo_8 rfl rfl rfl ?_
      refine g_aload_n dX7_addSealTo_9 rfl rfl rfl ?_
      refine g_iload_n dX7_addSealTo_10 rfl rfl rfl ?_
      have o2 := hQ.1
      replace hQ := hQ.2
      refine g_callv mv_X7_sealByte ml_X7_55 (c_X7_sealByte l g _ o2) (ho_7 _ _) rfl rfl (Nat.le_of_ble_eq_true rfl) (Nat.le_of_ble_eq_true rfl) (Nat.le_of_ble_eq_true rfl) (Nat.le_of_ble_eq_true rfl) rfl (Nat.le_of_ble_eq_true rfl) dX7_addSealTo_11 rfl (fun r3 hr3 pr3 => ?_)
      obtain ⟨rfl, rfl⟩ := pr3
      have o4 := hQ.1
      replace hQ := hQ.2
      refine g_callv mv_X0_addByte ml_X7_59 (c_X0_addByte l g hB _ o4) (hB.o _ ζ) rfl rfl (Nat.le_of_ble_eq_true rfl) (Nat.le_of_ble_eq_true rfl) (Nat.le_of_ble_eq_true rfl) (Nat.le_of_ble_eq_true rfl) rfl (Nat.le_of_ble_eq_true rfl) dX7_addSealTo_14 rfl (fun r5 hr5 pr5 => ?_)
      obtain ⟨rfl, rfl⟩ := pr5
      refine g_iincL (L1 := [(0, _), (1, _), (2, _)]) dX7_addSealTo_17 rfl (by decide) rfl rfl ?_
      refine g_goto (tgt := 2) dX7_addSealTo_20 (by decide) ?_
      refine g_sub [0, 1, 2] rfl ?_
      exact ihL2 _ _ hQ hF
noncomputable def Fr_X7_addSealTo (σ : gS) (j N : Nat)  : gS :=
  G_X7_addSealTo_L2 j N 4000 (0 : Int32) σ
noncomputable def F_X7_addSealTo : gS → Nat → Nat → gS := Classical.choose (⟨Fr_X7_addSealTo, rfl⟩ : ∃ f : gS → Nat → Nat → gS, f = Fr_X7_addSealTo)
theorem F_X7_addSealTo_eq : F_X7_addSealTo = Fr_X7_addSealTo := Classical.choose_spec (⟨Fr_X7_addSealTo, rfl⟩ : ∃ f : gS → Nat → Nat → gS, f = Fr_X7_addSealTo)
def Q_X7_addSealTo (σ : gS) (j N : Nat)  : Prop :=
  QG_X7_addSealTo_L2 j N 4000 (0 : Int32) σ
set_option maxHeartbeats 4000000 in
set_option maxRecDepth 100000 in
theorem c_X7_addSealTo (l : Launch) (g : gE) {j N : Nat} (hB : isB j N) {σ : gS} {ζ : gQ}  (hQ : Q_X7_addSealTo σ j N ) : gC l g mX7_addSealTo (rm 2 42) [.ref 7, .ref j] (hp σ ζ) (fun r h => r = none ∧ h = hp (F_X7_addSealTo σ j N ) ζ) := by
  refine gC_of (by decide) (Nat.le_of_ble_eq_true rfl) ?_
  generalize hF : (F_X7_addSealTo σ j N ) = fr
  rw [F_X7_addSealTo_eq] at hF
  unfold Fr_X7_addSealTo at hF
  unfold Q_X7_addSealTo at hQ
  refine g_iconst (v := 0) dX7_addSealTo_0 (by decide) rfl ?_
  refine g_istoreL_n (L1 := [(0, _), (1, _), (2, _)]) dX7_addSealTo_1 rfl (by decide) rfl rfl ?_
  refine g_sub [0, 1, 2] rfl ?_
  exact t_X7_addSealTo_L2 l g hB 4000 _ _ hQ hF
