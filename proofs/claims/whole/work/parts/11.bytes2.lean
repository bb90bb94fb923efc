/-! Bytes.isAlike -/
noncomputable def G_X0_isAlike_L3 (j N j2 N2 : Nat) (p0 : Int32) (p2 : Int32) (p3 : Int32) (σ : gS) : Nat → Int32 → Int32
  | 0, _ => 0
  | n + 1, y5 =>
    if p3 ≤ y5 then
      (1 : Int32)
    else
      if (F_X0_byteOf σ j N (p0 + y5)) = (F_X0_byteOf σ j2 N2 (p2 + y5)) then
        G_X0_isAlike_L3 j N j2 N2 p0 p2 p3 σ n (y5 + Int32.ofInt (1))
      else
        (0 : Int32)
def QG_X0_isAlike_L3 (j N j2 N2 : Nat) (p0 : Int32) (p2 : Int32) (p3 : Int32) (σ : gS) : Nat → Int32 → Prop
  | 0, _ => False
  | n + 1, y5 =>
    if p3 ≤ y5 then
      (True)
    else
      ((Q_X0_byteOf σ j N (p0 + y5)) ∧ ((Q_X0_byteOf σ j2 N2 (p2 + y5)) ∧ (if (F_X0_byteOf σ j N (p0 + y5)) = (F_X0_byteOf σ j2 N2 (p2 + y5)) then
        (QG_X0_isAlike_L3 j N j2 N2 p0 p2 p3 σ n (y5 + Int32.ofInt (1)))
      else
        (True))))
set_option maxHeartbeats 4000000 in
set_option maxRecDepth 100000 in
theorem t_X0_isAlike_L3 (l : Launch) (g : gE) {j N j2 N2 : Nat} {p0 : Int32} {p2 : Int32} {p3 : Int32} {σ : gS} (hB : isB j N) (hB2 : isB j2 N2) {ζ : gQ} {fr : Int32} : ∀ (n : Nat) (y5 : Int32), QG_X0_isAlike_L3 j N j2 N2 p0 p2 p3 σ n y5 → G_X0_isAlike_L3 j N j2 N2 p0 p2 p3 σ n y5 = fr → gG l g mX0_isAlike (rm 1 21) (gZm g (rm 1 21) (fun r h => r = some (.int fr) ∧ h = hp σ ζ)) 3 [(0, .ref j), (1, .int p0), (2, .ref j2), (3, .int p2), (4, .int p3), (5, .int y5)] [] (hp σ ζ) 0 0 := by
  intro n
  induction n with
  | zero => intro y5 hQ; exact absurd hQ (by unfold QG_X0_isAlike_L3; exact id)
  | succ n ihL3 =>
    intro y5 hQ hF
    unfold G_X0_isAlike_L3 at hF
    unfold QG_X0_isAlike_L3 at hQ
    refine g_iload dX0_isAlike_3 rfl rfl ?_
    refine g_iload dX0_isAlike_5 rfl rfl ?_
    refine g_icmpge (tgt := 37) dX0_isAlike_7 (by decide) rfl (fun c1 => ?_) (fun c1 => ?_)
    · replace hF := ite_p hF c1
      try replace hQ := ite_q hQ c1
      refine g_iconst (v := 1) dX0_isAlike_37 (by decide) rfl ?_
      subst hF
      exact g_zret rfl dX0_isAlike_38 (by decide) (Nat.le_of_ble_eq_true rfl) (Nat.le_of_ble_eq_true rfl) ⟨rfl, rfl⟩
    · replace hF := ite_n hF c1
      try replace hQ := ite_r hQ c1
      refine g_aload_n dX0_isAlike_10 rfl rfl rfl ?_
      refine g_iload_n dX0_isAlike_11 rfl rfl rfl ?_
      refine g_iload dX0_isAlike_12 rfl rfl ?_
      refine g_iadd dX0_isAlike_14 rfl ?_
      have o2 := hQ.1
      replace hQ := hQ.2
      refine g_callv mv_X0_byteOf ml_X0_29 (c_X0_byteOf l g hB _ o2) (hB.o _ ζ) rfl rfl (Nat.le_of_ble_eq_true rfl) (Nat.le_of_ble_eq_true rfl) (Nat.le_of_ble_eq_true rfl) (Nat.le_of_ble_eq_true rfl) rfl (Nat.le_of_ble_eq_true rfl) dX0_isAlike_15 rfl (fun r3 hr3 pr3 => ?_)
      obtain ⟨rfl, rfl⟩ := pr3
      refine g_aload_n dX0_isAlike_18 rfl rfl rfl ?_
      refine g_iload_n dX0_isAlike_19 rfl rfl rfl ?_
      refine g_iload dX0_isAlike_20 rfl rfl ?_
      refine g_iadd dX0_isAlike_22 rfl ?_
      have o4 := hQ.1
      replace hQ := hQ.2
      refine g_callv mv_X0_byteOf ml_X0_29 (c_X0_byteOf l g hB2 _ o4) (hB2.o _ ζ) rfl rfl (Nat.le_of_ble_eq_true rfl) (Nat.le_of_ble_eq_true rfl) (Nat.le_of_ble_eq_true rfl) (Nat.le_of_ble_eq_true rfl) rfl (Nat.le_of_ble_eq_true rfl) dX0_isAlike_23 rfl (fun r5 hr5 pr5 => ?_)
      obtain ⟨rfl, rfl⟩ := pr5
      refine g_icmpeq (tgt := 31) dX0_isAlike_26 (by decide) rfl (fun c6 => ?_) (fun c6 => ?_)
      · replace hF := ite_p hF c6
        try replace hQ := ite_q hQ c6
        refine g_iincL (L1 := [(0, _), (1, _), (2, _), (3, _), (4, _), (5, _)]) dX0_isAlike_31 rfl (by decide) rfl rfl ?_
        refine g_goto (tgt := 3) dX0_isAlike_34 (by decide) ?_
        refine g_sub [0, 1, 2, 3, 4, 5] rfl ?_
        exact ihL3 _ hQ hF
      · replace hF := ite_n hF c6
        try replace hQ := ite_r hQ c6
        refine g_iconst (v := 0) dX0_isAlike_29 (by decide) rfl ?_
        subst hF
        exact g_zret rfl dX0_isAlike_30 (by decide) (Nat.le_of_ble_eq_true rfl) (Nat.le_of_ble_eq_true rfl) ⟨rfl, rfl⟩
noncomputable def Fr_X0_isAlike (σ : gS) (j N j2 N2 : Nat) (p0 : Int32) (p2 : Int32) (p3 : Int32) : Int32 :=
  G_X0_isAlike_L3 j N j2 N2 p0 p2 p3 σ 4000 (0 : Int32)
noncomputable def F_X0_isAlike : gS → Nat → Nat → Nat → Nat → Int32 → Int32 → Int32 → Int32 := Classical.choose (⟨Fr_X0_isAlike, rfl⟩ : ∃ f : gS → Nat → Nat → Nat → Nat → Int32 → Int32 → Int32 → Int32, f = Fr_X0_isAlike)
theorem F_X0_isAlike_eq : F_X0_isAlike = Fr_X0_isAlike := Classical.choose_spec (⟨Fr_X0_isAlike, rfl⟩ : ∃ f : gS → Nat → Nat → Nat → Nat → Int32 → Int32 → Int32 → Int32, f = Fr_X0_isAlike)
def Q_X0_isAlike (σ : gS) (j N j2 N2 : Nat) (p0 : Int32) (p2 : Int32) (p3 : Int32) : Prop :=
  QG_X0_isAlike_L3 j N j2 N2 p0 p2 p3 σ 4000 (0 : Int32)
set_option maxHeartbeats 4000000 in
set_option maxRecDepth 100000 in
theorem c_X0_isAlike (l : Launch) (g : gE) {j N j2 N2 : Nat} (hB : isB j N) (hB2 : isB j2 N2) {σ : gS} {ζ : gQ} (p0 : Int32) (p2 : Int32) (p3 : Int32) (hQ : Q_X0_isAlike σ j N j2 N2 p0 p2 p3) : gC l g mX0_isAlike (rm 1 21) [.ref j, .int p0, .ref j2, .int p2, .int p3] (hp σ ζ) (fun r h => r = some (.int (F_X0_isAlike σ j N j2 N2 p0 p2 p3)) ∧ h = hp σ ζ) := by
  refine gC_of (by decide) (Nat.le_of_ble_eq_true rfl) ?_
  generalize hF : (F_X0_isAlike σ j N j2 N2 p0 p2 p3) = fr
  rw [F_X0_isAlike_eq] at hF
  unfold Fr_X0_isAlike at hF
  unfold Q_X0_isAlike at hQ
  refine g_iconst (v := 0) dX0_isAlike_0 (by decide) rfl ?_
  refine g_istoreL (L1 := [(0, _), (1, _), (2, _), (3, _), (4, _), (5, _)]) dX0_isAlike_1 (by decide) rfl rfl ?_
  refine g_sub [0, 1, 2, 3, 4, 5] rfl ?_
  exact t_X0_isAlike_L3 l g hB hB2 4000 _ hQ hF
