/-! StationHouse: by program -/
noncomputable def Fr_X9_writable (σ : gS) (p0 : Int32) (p1 : Int32) : Int32 × gS :=
  if (F_X9_isCard p0) = 0 then
    ((0 : Int32), σ)
  else
    let s5 := (pf σ (23 + 11 * ix p0) 2 p1 : gS)
    ((1 : Int32), s5)
noncomputable def F_X9_writable : gS → Int32 → Int32 → Int32 × gS := Classical.choose (⟨Fr_X9_writable, rfl⟩ : ∃ f : gS → Int32 → Int32 → Int32 × gS, f = Fr_X9_writable)
theorem F_X9_writable_eq : F_X9_writable = Fr_X9_writable := Classical.choose_spec (⟨Fr_X9_writable, rfl⟩ : ∃ f : gS → Int32 → Int32 → Int32 × gS, f = Fr_X9_writable)
def Q_X9_writable (σ : gS) (p0 : Int32) (p1 : Int32) : Prop :=
  if (F_X9_isCard p0) = 0 then
    (True)
  else
    (vp_in p0 16 ∧ ((p1 = 0 ∨ p1 = 1) ∧ (let s5 := (pf σ (23 + 11 * ix p0) 2 p1 : gS)
    True)))
set_option maxHeartbeats 4000000 in
set_option maxRecDepth 100000 in
theorem c_X9_writable (l : Launch) (g : gE)  {σ : gS} {ζ : gQ} (p0 : Int32) (p1 : Int32) (hQ : Q_X9_writable σ p0 p1) : gC l g mX9_writable (rm 1 20) [.ref 0, .int p0, .int p1] (hp σ ζ) (fun r h => r = some (.int (F_X9_writable σ p0 p1).1) ∧ h = hp (F_X9_writable σ p0 p1).2 ζ) := by
  refine gC_of (by decide) (Nat.le_of_ble_eq_true rfl) ?_
  generalize hF : (F_X9_writable σ p0 p1) = fr
  rw [F_X9_writable_eq] at hF
  unfold Fr_X9_writable at hF
  unfold Q_X9_writable at hQ
  refine g_iload_n dX9_writable_0 rfl rfl rfl ?_
  refine g_calls mt_X9_isCard ms_X9_isCard ml_X9_118 (c_X9_isCard l g _) rfl (Nat.le_of_ble_eq_true rfl) (Nat.le_of_ble_eq_true rfl) (Nat.le_of_ble_eq_true rfl) (Nat.le_of_ble_eq_true rfl) rfl (Nat.le_of_ble_eq_true rfl) dX9_writable_1 rfl (fun r1 hr1 pr1 => ?_)
  obtain ⟨rfl, rfl⟩ := pr1
  refine g_ifne (tgt := 9) dX9_writable_4 (by decide) rfl (fun c2 => ?_) (fun c2 => ?_)
  · replace hF := ite_n hF c2
    try replace hQ := ite_r hQ c2
    refine g_aload_n dX9_writable_9 rfl rfl rfl ?_
    refine g_get gClX9 3 (by decide) fl_X9_23 dX9_writable_10 (ho_0 _ _) rfl rfl ?_
    refine g_iload_n dX9_writable_13 rfl rfl rfl ?_
    have o3 := hQ.1
    replace hQ := hQ.2
    refine g_aald3 (hp_at (by decide)) o3 (aa16 o3) dX9_writable_14 rfl ?_
    refine g_iload_n dX9_writable_15 rfl rfl rfl ?_
    have o4 := hQ.1
    replace hQ := hQ.2
    refine g_put gClX1 2 (by decide) fl_X9_128 rfl dX9_writable_16 (card_o (vin_lt o3)) (gz_n o4) (gz_f o4) (Nat.le_of_ble_eq_true rfl) (card_p (vin_lt o3)) rfl ?_
    refine g_iconst (v := 1) dX9_writable_19 (by decide) rfl ?_
    subst hF
    exact g_zret rfl dX9_writable_20 (by decide) (Nat.le_of_ble_eq_true rfl) (Nat.le_of_ble_eq_true rfl) ⟨rfl, rfl⟩
  · replace hF := ite_p hF c2
    try replace hQ := ite_q hQ c2
    refine g_iconst (v := 0) dX9_writable_7 (by decide) rfl ?_
    subst hF
    exact g_zret rfl dX9_writable_8 (by decide) (Nat.le_of_ble_eq_true rfl) (Nat.le_of_ble_eq_true rfl) ⟨rfl, rfl⟩
