/-! Sight.read: by program -/
noncomputable def Fr_X8_readN (σ : gS) (j : Nat) (p0 : Int32) (p4 : Int32) : gS :=
  let s1 := (pf σ j 0 p0 : gS)
  let s2 := (pf s1 j 1 (0 : Int32) : gS)
  let s3 := (pf s2 j 2 (0 : Int32) : gS)
  let s4 := (pf s3 j 3 (0 : Int32) : gS)
  let s5 := (pf s4 j 4 (0 : Int32) : gS)
  s5
noncomputable def F_X8_readN : gS → Nat → Int32 → Int32 → gS := Classical.choose (⟨Fr_X8_readN, rfl⟩ : ∃ f : gS → Nat → Int32 → Int32 → gS, f = Fr_X8_readN)
theorem F_X8_readN_eq : F_X8_readN = Fr_X8_readN := Classical.choose_spec (⟨Fr_X8_readN, rfl⟩ : ∃ f : gS → Nat → Int32 → Int32 → gS, f = Fr_X8_readN)
set_option maxHeartbeats 4000000 in
set_option maxRecDepth 100000 in
theorem c_X8_readN (l : Launch) (g : gE) {j : Nat} (hS : isS j) (hT : gTab g) {σ : gS} {ζ : gQ} (p0 : Int32) (p4 : Int32) : gC l g mX8_read (rm 5 136) [.ref j, .int p0, .null, .ref 12, .ref 7, .int p4] (hp σ ζ) (fun r h => r = none ∧ h = hp (F_X8_readN σ j p0 p4) ζ) := by
  refine gC_of (by decide) (Nat.le_of_ble_eq_true rfl) ?_
  generalize hF : (F_X8_readN σ j p0 p4) = fr
  rw [F_X8_readN_eq] at hF
  unfold Fr_X8_readN at hF
  refine g_aload_n dX8_read_0 rfl rfl rfl ?_
  refine g_iload_n dX8_read_1 rfl rfl rfl ?_
  refine g_put gClX8 0 (by decide) fl_X8_9 rfl dX8_read_2 (hS.o _ ζ) rfl rfl (Nat.le_of_ble_eq_true rfl) hS.p0 rfl ?_
  refine g_aload_n dX8_read_5 rfl rfl rfl ?_
  refine g_iconst (v := 0) dX8_read_6 (by decide) rfl ?_
  refine g_put gClX8 1 (by decide) fl_X8_15 rfl dX8_read_7 (hS.o _ ζ) rfl rfl (Nat.le_of_ble_eq_true rfl) hS.p1 rfl ?_
  refine g_aload_n dX8_read_10 rfl rfl rfl ?_
  refine g_iconst (v := 0) dX8_read_11 (by decide) rfl ?_
  refine g_put gClX8 2 (by decide) fl_X8_18 rfl dX8_read_12 (hS.o _ ζ) rfl rfl (Nat.le_of_ble_eq_true rfl) hS.p2 rfl ?_
  refine g_aload_n dX8_read_15 rfl rfl rfl ?_
  refine g_iconst (v := 0) dX8_read_16 (by decide) rfl ?_
  refine g_put gClX8 3 (by decide) fl_X8_22 rfl dX8_read_17 (hS.o _ ζ) rfl rfl (Nat.le_of_ble_eq_true rfl) hS.p3 rfl ?_
  refine g_aload_n dX8_read_20 rfl rfl rfl ?_
  refine g_iconst (v := 0) dX8_read_21 (by decide) rfl ?_
  refine g_put gClX8 4 (by decide) fl_X8_25 rfl dX8_read_22 (hS.o _ ζ) rfl rfl (Nat.le_of_ble_eq_true rfl) hS.p4 rfl ?_
  refine g_aloadN_n dX8_read_25 rfl rfl rfl ?_
  refine g_ifnonnullN dX8_read_26 rfl ?_
  subst hF
  exact g_vret rfl dX8_read_29 (Nat.le_of_ble_eq_true rfl) (Nat.le_of_ble_eq_true rfl) ⟨rfl, rfl⟩
noncomputable def J_X8_read_212 (j c : Nat) (p0 : Int32) (p4 : Int32) (u0 : Int32) (σ : gS) : gS :=
  let s24 := (pf σ j 3 u0 : gS)
  let s27 := (pf s24 j 5 (F_X0_twoAt s24 (23 + 11 * c + 1 + 2 + 2 * ix (2 : Int32)) 48 (21 : Int32)) : gS)
  let s30 := (pf s27 j 6 (F_X0_byteOf s27 (23 + 11 * c + 1 + 2 + 2 * ix (3 : Int32)) 48 (21 : Int32)) : gS)
  let s33 := (pf s30 j 7 (F_X0_byteOf s30 (23 + 11 * c + 1 + 2 + 2 * ix (3 : Int32)) 48 (22 : Int32)) : gS)
  let s36 := (pf s33 j 8 (F_X0_byteOf s33 (23 + 11 * c + 1 + 2 + 2 * ix (1 : Int32)) 48 (22 : Int32)) : gS)
  s36
def QJ_X8_read_212 (j c : Nat) (p0 : Int32) (p4 : Int32) (u0 : Int32) (σ : gS) : Prop :=
  (u0 = 0 ∨ u0 = 1) ∧ (let s24 := (pf σ j 3 u0 : gS)
  (Q_X0_twoAt s24 (23 + 11 * c + 1 + 2 + 2 * ix (2 : Int32)) 48 (21 : Int32)) ∧ (let s27 := (pf s24 j 5 (F_X0_twoAt s24 (23 + 11 * c + 1 + 2 + 2 * ix (2 : Int32)) 48 (21 : Int32)) : gS)
  (Q_X0_byteOf s27 (23 + 11 * c + 1 + 2 + 2 * ix (3 : Int32)) 48 (21 : Int32)) ∧ (let s30 := (pf s27 j 6 (F_X0_byteOf s27 (23 + 11 * c + 1 + 2 + 2 * ix (3 : Int32)) 48 (21 : Int32)) : gS)
  (Q_X0_byteOf s30 (23 + 11 * c + 1 + 2 + 2 * ix (3 : Int32)) 48 (22 : Int32)) ∧ (let s33 := (pf s30 j 7 (F_X0_byteOf s30 (23 + 11 * c + 1 + 2 + 2 * ix (3 : Int32)) 48 (22 : Int32)) : gS)
  (Q_X0_byteOf s33 (23 + 11 * c + 1 + 2 + 2 * ix (1 : Int32)) 48 (22 : Int32)) ∧ (let s36 := (pf s33 j 8 (F_X0_byteOf s33 (23 + 11 * c + 1 + 2 + 2 * ix (1 : Int32)) 48 (22 : Int32)) : gS)
  True)))))
set_option maxHeartbeats 4000000 in
set_option maxRecDepth 100000 in
theorem j_X8_read_212 (l : Launch) (g : gE) {j c : Nat} {p0 : Int32} {p4 : Int32} (hS : isS j) (hc : c < 16) {ζ : gQ} {fr : gS} (hT : gTab g) : ∀ (u0 : Int32) (σ : gS), QJ_X8_read_212 j c p0 p4 u0 σ → J_X8_read_212 j c p0 p4 u0 σ = fr → gG l g mX8_read (rm 5 136) (gZm g (rm 5 136) (fun r h => r = none ∧ h = hp fr ζ)) 212 [(0, .ref j), (7, .ref (23 + 11 * c + 1 + 2 + 2 * ix (1 : Int32))), (8, .ref (23 + 11 * c + 1 + 2 + 2 * ix (2 : Int32))), (9, .ref (23 + 11 * c + 1 + 2 + 2 * ix (3 : Int32)))] [.int u0, .ref j] (hp σ ζ) 0 0 := by
  intro u0 σ hQ hF
  unfold J_X8_read_212 at hF
  unfold QJ_X8_read_212 at hQ
  have o23 := hQ.1
  replace hQ := hQ.2
  refine g_put gClX8 3 (by decide) fl_X8_22 rfl dX8_read_212 (hS.o _ ζ) (gz_n o23) (gz_f o23) (Nat.le_of_ble_eq_true rfl) hS.p3 rfl ?_
  refine g_aload_n dX8_read_215 rfl rfl rfl ?_
  refine g_aload dX8_read_216 rfl rfl ?_
  refine g_bipush (v := 21) dX8_read_218 (by decide) rfl ?_
  have o25 := hQ.1
  replace hQ := hQ.2
  refine g_callv mv_X0_twoAt ml_X8_48 (c_X0_twoAt l g (isB_rw hc (vin_lt (vinc (by decide) : vp_in (2 : Int32) 4))) _ o25) ((isB_rw hc (vin_lt (vinc (by decide) : vp_in (2 : Int32) 4))).o _ ζ) rfl rfl (Nat.le_of_ble_eq_true rfl) (Nat.le_of_ble_eq_true rfl) (Nat.le_of_ble_eq_true rfl) (Nat.le_of_ble_eq_true rfl) rfl (Nat.le_of_ble_eq_true rfl) dX8_read_220 rfl (fun r26 hr26 pr26 => ?_)
  obtain ⟨rfl, rfl⟩ := pr26
  refine g_put gClX8 5 (by decide) fl_X8_57 rfl dX8_read_223 (hS.o _ ζ) rfl rfl (Nat.le_of_ble_eq_true rfl) hS.p5 rfl ?_
  refine g_aload_n dX8_read_226 rfl rfl rfl ?_
  refine g_aload dX8_read_227 rfl rfl ?_
  refine g_bipush (v := 21) dX8_read_229 (by decide) rfl ?_
  have o28 := hQ.1
  replace hQ := hQ.2
  refine g_callv mv_X0_byteOf ml_X8_60 (c_X0_byteOf l g (isB_rw hc (vin_lt (vinc (by decide) : vp_in (3 : Int32) 4))) _ o28) ((isB_rw hc (vin_lt (vinc (by decide) : vp_in (3 : Int32) 4))).o _ ζ) rfl rfl (Nat.le_of_ble_eq_true rfl) (Nat.le_of_ble_eq_true rfl) (Nat.le_of_ble_eq_true rfl) (Nat.le_of_ble_eq_true rfl) rfl (Nat.le_of_ble_eq_true rfl) dX8_read_231 rfl (fun r29 hr29 pr29 => ?_)
  obtain ⟨rfl, rfl⟩ := pr29
  refine g_put gClX8 6 (by decide) fl_X8_63 rfl dX8_read_234 (hS.o _ ζ) rfl rfl (Nat.le_of_ble_eq_true rfl) hS.p6 rfl ?_
  refine g_aload_n dX8_read_237 rfl rfl rfl ?_
  refine g_aload dX8_read_238 rfl rfl ?_
  refine g_bipush (v := 22) dX8_read_240 (by decide) rfl ?_
  have o31 := hQ.1
  replace hQ := hQ.2
  refine g_callv mv_X0_byteOf ml_X8_60 (c_X0_byteOf l g (isB_rw hc (vin_lt (vinc (by decide) : vp_in (3 : Int32) 4))) _ o31) ((isB_rw hc (vin_lt (vinc (by decide) : vp_in (3 : Int32) 4))).o _ ζ) rfl rfl (Nat.le_of_ble_eq_true rfl) (Nat.le_of_ble_eq_true rfl) (Nat.le_of_ble_eq_true rfl) (Nat.le_of_ble_eq_true rfl) rfl (Nat.le_of_ble_eq_true rfl) dX8_read_242 rfl (fun r32 hr32 pr32 => ?_)
  obtain ⟨rfl, rfl⟩ := pr32
  refine g_put gClX8 7 (by decide) fl_X8_66 rfl dX8_read_245 (hS.o _ ζ) rfl rfl (Nat.le_of_ble_eq_true rfl) hS.p7 rfl ?_
  refine g_aload_n dX8_read_248 rfl rfl rfl ?_
  refine g_aload dX8_read_249 rfl rfl ?_
  refine g_bipush (v := 22) dX8_read_251 (by decide) rfl ?_
  have o34 := hQ.1
  replace hQ := hQ.2
  refine g_callv mv_X0_byteOf ml_X8_60 (c_X0_byteOf l g (isB_rw hc (vin_lt (vinc (by decide) : vp_in (1 : Int32) 4))) _ o34) ((isB_rw hc (vin_lt (vinc (by decide) : vp_in (1 : Int32) 4))).o _ ζ) rfl rfl (Nat.le_of_ble_eq_true rfl) (Nat.le_of_ble_eq_true rfl) (Nat.le_of_ble_eq_true rfl) (Nat.le_of_ble_eq_true rfl) rfl (Nat.le_of_ble_eq_true rfl) dX8_read_253 rfl (fun r35 hr35 pr35 => ?_)
  obtain ⟨rfl, rfl⟩ := pr35
  refine g_put gClX8 8 (by decide) fl_X8_69 rfl dX8_read_256 (hS.o _ ζ) rfl rfl (Nat.le_of_ble_eq_true rfl) hS.p8 rfl ?_
  subst hF
  exact g_vret rfl dX8_read_259 (Nat.le_of_ble_eq_true rfl) (Nat.le_of_ble_eq_true rfl) ⟨rfl, rfl⟩
noncomputable def J_X8_read_211 (j c : Nat) (p0 : Int32) (p4 : Int32) (σ : gS) : gS :=
  J_X8_read_212 j c p0 p4 (0 : Int32) σ
def QJ_X8_read_211 (j c : Nat) (p0 : Int32) (p4 : Int32) (σ : gS) : Prop :=
  QJ_X8_read_212 j c p0 p4 (0 : Int32) σ
set_option maxHeartbeats 4000000 in
set_option maxRecDepth 100000 in
theorem j_X8_read_211 (l : Launch) (g : gE) {j c : Nat} {p0 : Int32} {p4 : Int32} (hS : isS j) (hc : c < 16) {ζ : gQ} {fr : gS} (hT : gTab g) : ∀ (σ : gS), QJ_X8_read_211 j c p0 p4 σ → J_X8_read_211 j c p0 p4 σ = fr → gG l g mX8_read (rm 5 136) (gZm g (rm 5 136) (fun r h => r = none ∧ h = hp fr ζ)) 211 [(0, .ref j), (7, .ref (23 + 11 * c + 1 + 2 + 2 * ix (1 : Int32))), (8, .ref (23 + 11 * c + 1 + 2 + 2 * ix (2 : Int32))), (9, .ref (23 + 11 * c + 1 + 2 + 2 * ix (3 : Int32)))] [.ref j] (hp σ ζ) 0 0 := by
  intro σ hQ hF
  unfold J_X8_read_211 at hF
  unfold QJ_X8_read_211 at hQ
  refine g_iconst (v := 0) dX8_read_211 (by decide) rfl ?_
  refine g_sub [0, 1, 2, 3] rfl ?_
  exact j_X8_read_212 l g hS hc hT _ _ hQ hF
noncomputable def J_X8_read_162 (j c : Nat) (p0 : Int32) (p4 : Int32) (y10 : Int32) (u0 : Int32) (σ : gS) : gS :=
  let s21 := (pf σ j 2 u0 : gS)
  if y10 = 0 then
    J_X8_read_211 j c p0 p4 s21
  else
    let f39 := (F_X8_isGood s21 c (3 : Int32) p4)
    if f39.1 = 0 then
      J_X8_read_211 j c p0 p4 f39.2
    else
      if (F_X8_isHeldBy f39.2 (23 + 11 * c + 1 + 2 + 2 * ix (3 : Int32)) 48 (23 + 11 * c + 1 + 2 + 2 * ix (0 : Int32)) 48) = 0 then
        J_X8_read_211 j c p0 p4 f39.2
      else
        if (F_X0_twoAt f39.2 (23 + 11 * c + 1 + 2 + 2 * ix (3 : Int32)) 48 (1 : Int32)) = (F_X4_ownIssuer f39.2 ) then
          J_X8_read_212 j c p0 p4 (1 : Int32) f39.2
        else
          J_X8_read_211 j c p0 p4 f39.2
def QJ_X8_read_162 (j c : Nat) (p0 : Int32) (p4 : Int32) (y10 : Int32) (u0 : Int32) (σ : gS) : Prop :=
  (u0 = 0 ∨ u0 = 1) ∧ (let s21 := (pf σ j 2 u0 : gS)
  if y10 = 0 then
    (QJ_X8_read_211 j c p0 p4 s21)
  else
    ((Q_X8_isGood s21 c (3 : Int32) p4) ∧ (let f39 := (F_X8_isGood s21 c (3 : Int32) p4)
    if f39.1 = 0 then
      (QJ_X8_read_211 j c p0 p4 f39.2)
    else
      ((Q_X8_isHeldBy f39.2 (23 + 11 * c + 1 + 2 + 2 * ix (3 : Int32)) 48 (23 + 11 * c + 1 + 2 + 2 * ix (0 : Int32)) 48) ∧ (if (F_X8_isHeldBy f39.2 (23 + 11 * c + 1 + 2 + 2 * ix (3 : Int32)) 48 (23 + 11 * c + 1 + 2 + 2 * ix (0 : Int32)) 48) = 0 then
        (QJ_X8_read_211 j c p0 p4 f39.2)
      else
        ((Q_X0_twoAt f39.2 (23 + 11 * c + 1 + 2 + 2 * ix (3 : Int32)) 48 (1 : Int32)) ∧ (if (F_X0_twoAt f39.2 (23 + 11 * c + 1 + 2 + 2 * ix (3 : Int32)) 48 (1 : Int32)) = (F_X4_ownIssuer f39.2 ) then
          (QJ_X8_read_212 j c p0 p4 (1 : Int32) f39.2)
        else
          (QJ_X8_read_211 j c p0 p4 f39.2))))))))
set_option maxHeartbeats 4000000 in
set_option maxRecDepth 100000 in
theorem j_X8_read_162 (l : Launch) (g : gE) {j c : Nat} {p0 : Int32} {p4 : Int32} (hS : isS j) (hc : c < 16) {ζ : gQ} {fr : gS} (hT : gTab g) : ∀ (y10 : Int32) (u0 : Int32) (σ : gS), QJ_X8_read_162 j c p0 p4 y10 u0 σ → J_X8_read_162 j c p0 p4 y10 u0 σ = fr → gG l g mX8_read (rm 5 136) (gZm g (rm 5 136) (fun r h => r = none ∧ h = hp fr ζ)) 162 [(0, .ref j), (2, .ref (23 + 11 * c)), (3, .ref 12), (4, .ref 7), (5, .int p4), (6, .ref (23 + 11 * c + 1 + 2 + 2 * ix (0 : Int32))), (7, .ref (23 + 11 * c + 1 + 2 + 2 * ix (1 : Int32))), (8, .ref (23 + 11 * c + 1 + 2 + 2 * ix (2 : Int32))), (9, .ref (23 + 11 * c + 1 + 2 + 2 * ix (3 : Int32))), (10, .int y10)] [.int u0, .ref j] (hp σ ζ) 0 0 := by
  intro y10 u0 σ hQ hF
  unfold J_X8_read_162 at hF
  unfold QJ_X8_read_162 at hQ
  have o20 := hQ.1
  replace hQ := hQ.2
  refine g_put gClX8 2 (by decide) fl_X8_18 rfl dX8_read_162 (hS.o _ ζ) (gz_n o20) (gz_f o20) (Nat.le_of_ble_eq_true rfl) hS.p2 rfl ?_
  refine g_aload_n dX8_read_165 rfl rfl rfl ?_
  refine g_iload dX8_read_166 rfl rfl ?_
  refine g_ifeq (tgt := 211) dX8_read_168 (by decide) rfl (fun c22 => ?_) (fun c22 => ?_)
  · replace hF := ite_p hF c22
    try replace hQ := ite_q hQ c22
    refine g_sub [0, 6, 7, 8] rfl ?_
    exact j_X8_read_211 l g hS hc hT _ hQ hF
  · replace hF := ite_n hF c22
    try replace hQ := ite_r hQ c22
    refine g_aload_n dX8_read_171 rfl rfl rfl ?_
    refine g_iconst (v := 3) dX8_read_172 (by decide) rfl ?_
    refine g_aload_n dX8_read_173 rfl rfl rfl ?_
    refine g_aload dX8_read_174 rfl rfl ?_
    refine g_iload dX8_read_176 rfl rfl ?_
    have o37 := hQ.1
    replace hQ := hQ.2
    refine g_calls mt_X8_isGood ms_X8_isGood ml_X8_34 (c_X8_isGood l g hc hT _ _ o37) rfl (Nat.le_of_ble_eq_true rfl) (Nat.le_of_ble_eq_true rfl) (Nat.le_of_ble_eq_true rfl) (Nat.le_of_ble_eq_true rfl) rfl (Nat.le_of_ble_eq_true rfl) dX8_read_178 rfl (fun r38 hr38 pr38 => ?_)
    obtain ⟨rfl, rfl⟩ := pr38
    refine g_ifeq (tgt := 211) dX8_read_181 (by decide) rfl (fun c40 => ?_) (fun c40 => ?_)
    · replace hF := ite_p hF c40
      try replace hQ := ite_q hQ c40
      refine g_sub [0, 6, 7, 8] rfl ?_
      exact j_X8_read_211 l g hS hc hT _ hQ hF
    · replace hF := ite_n hF c40
      try replace hQ := ite_r hQ c40
      refine g_aload dX8_read_184 rfl rfl ?_
      refine g_aload dX8_read_186 rfl rfl ?_
      have o41 := hQ.1
      replace hQ := hQ.2
      refine g_calls mt_X8_isHeldBy ms_X8_isHeldBy ml_X8_44 (c_X8_isHeldBy l g (isB_rw hc (vin_lt (vinc (by decide) : vp_in (3 : Int32) 4))) (isB_rw hc (vin_lt (vinc (by decide) : vp_in (0 : Int32) 4))) o41) rfl (Nat.le_of_ble_eq_true rfl) (Nat.le_of_ble_eq_true rfl) (Nat.le_of_ble_eq_true rfl) (Nat.le_of_ble_eq_true rfl) rfl (Nat.le_of_ble_eq_true rfl) dX8_read_188 rfl (fun r42 hr42 pr42 => ?_)
      obtain ⟨rfl, rfl⟩ := pr42
      refine g_ifeq (tgt := 211) dX8_read_191 (by decide) rfl (fun c43 => ?_) (fun c43 => ?_)
      · replace hF := ite_p hF c43
        try replace hQ := ite_q hQ c43
        refine g_sub [0, 6, 7, 8] rfl ?_
        exact j_X8_read_211 l g hS hc hT _ hQ hF
      · replace hF := ite_n hF c43
        try replace hQ := ite_r hQ c43
        refine g_aload dX8_read_194 rfl rfl ?_
        refine g_iconst (v := 1) dX8_read_196 (by decide) rfl ?_
        have o44 := hQ.1
        replace hQ := hQ.2
        refine g_callv mv_X0_twoAt ml_X8_48 (c_X0_twoAt l g (isB_rw hc (vin_lt (vinc (by decide) : vp_in (3 : Int32) 4))) _ o44) ((isB_rw hc (vin_lt (vinc (by decide) : vp_in (3 : Int32) 4))).o _ ζ) rfl rfl (Nat.le_of_ble_eq_true rfl) (Nat.le_of_ble_eq_true rfl) (Nat.le_of_ble_eq_true rfl) (Nat.le_of_ble_eq_true rfl) rfl (Nat.le_of_ble_eq_true rfl) dX8_read_197 rfl (fun r45 hr45 pr45 => ?_)
        obtain ⟨rfl, rfl⟩ := pr45
        refine g_aload_n dX8_read_200 rfl rfl rfl ?_
        refine g_callv mv_X4_ownIssuer ml_X8_51 (c_X4_ownIssuer l g) (ho_12 _ _) rfl rfl (Nat.le_of_ble_eq_true rfl) (Nat.le_of_ble_eq_true rfl) (Nat.le_of_ble_eq_true rfl) (Nat.le_of_ble_eq_true rfl) rfl (Nat.le_of_ble_eq_true rfl) dX8_read_201 rfl (fun r46 hr46 pr46 => ?_)
        obtain ⟨rfl, rfl⟩ := pr46
        refine g_icmpne (tgt := 211) dX8_read_204 (by decide) rfl (fun c47 => ?_) (fun c47 => ?_)
        · replace hF := ite_n hF c47
          try replace hQ := ite_r hQ c47
          refine g_sub [0, 6, 7, 8] rfl ?_
          exact j_X8_read_211 l g hS hc hT _ hQ hF
        · replace hF := ite_p hF c47
          try replace hQ := ite_q hQ c47
          refine g_iconst (v := 1) dX8_read_207 (by decide) rfl ?_
          refine g_goto (tgt := 212) dX8_read_208 (by decide) ?_
          refine g_sub [0, 6, 7, 8] rfl ?_
          exact j_X8_read_212 l g hS hc hT _ _ hQ hF
noncomputable def J_X8_read_161 (j c : Nat) (p0 : Int32) (p4 : Int32) (y10 : Int32) (σ : gS) : gS :=
  J_X8_read_162 j c p0 p4 y10 (0 : Int32) σ
def QJ_X8_read_161 (j c : Nat) (p0 : Int32) (p4 : Int32) (y10 : Int32) (σ : gS) : Prop :=
  QJ_X8_read_162 j c p0 p4 y10 (0 : Int32) σ
set_option maxHeartbeats 4000000 in
set_option maxRecDepth 100000 in
theorem j_X8_read_161 (l : Launch) (g : gE) {j c : Nat} {p0 : Int32} {p4 : Int32} (hS : isS j) (hc : c < 16) {ζ : gQ} {fr : gS} (hT : gTab g) : ∀ (y10 : Int32) (σ : gS), QJ_X8_read_161 j c p0 p4 y10 σ → J_X8_read_161 j c p0 p4 y10 σ = fr → gG l g mX8_read (rm 5 136) (gZm g (rm 5 136) (fun r h => r = none ∧ h = hp fr ζ)) 161 [(0, .ref j), (2, .ref (23 + 11 * c)), (3, .ref 12), (4, .ref 7), (5, .int p4), (6, .ref (23 + 11 * c + 1 + 2 + 2 * ix (0 : Int32))), (7, .ref (23 + 11 * c + 1 + 2 + 2 * ix (1 : Int32))), (8, .ref (23 + 11 * c + 1 + 2 + 2 * ix (2 : Int32))), (9, .ref (23 + 11 * c + 1 + 2 + 2 * ix (3 : Int32))), (10, .int y10)] [.ref j] (hp σ ζ) 0 0 := by
  intro y10 σ hQ hF
  unfold J_X8_read_161 at hF
  unfold QJ_X8_read_161 at hQ
  refine g_iconst (v := 0) dX8_read_161 (by decide) rfl ?_
  refine g_sub [0, 1, 2, 3, 4, 5, 6, 7, 8, 9] rfl ?_
  exact j_X8_read_162 l g hS hc hT _ _ _ hQ hF
noncomputable def J_X8_read_116 (j c : Nat) (p0 : Int32) (p4 : Int32) (y10 : Int32) (y11 : Int32) (u0 : Int32) (σ : gS) : gS :=
  let s18 := (pf σ j 1 u0 : gS)
  if y10 = 0 then
    J_X8_read_161 j c p0 p4 y10 s18
  else
    if y11 = 0 then
      J_X8_read_161 j c p0 p4 y10 s18
    else
      if (s18 j 4) = 0 then
        J_X8_read_161 j c p0 p4 y10 s18
      else
        if (F_X8_isHeldBy s18 (23 + 11 * c + 1 + 2 + 2 * ix (1 : Int32)) 48 (23 + 11 * c + 1 + 2 + 2 * ix (0 : Int32)) 48) = 0 then
          J_X8_read_161 j c p0 p4 y10 s18
        else
          if (F_X8_isHeldBy s18 (23 + 11 * c + 1 + 2 + 2 * ix (2 : Int32)) 48 (23 + 11 * c + 1 + 2 + 2 * ix (0 : Int32)) 48) = 0 then
            J_X8_read_161 j c p0 p4 y10 s18
          else
            J_X8_read_162 j c p0 p4 y10 (1 : Int32) s18
def QJ_X8_read_116 (j c : Nat) (p0 : Int32) (p4 : Int32) (y10 : Int32) (y11 : Int32) (u0 : Int32) (σ : gS) : Prop :=
  let s18 := (pf σ j 1 u0 : gS)
  if y10 = 0 then
    (QJ_X8_read_161 j c p0 p4 y10 s18)
  else
    (if y11 = 0 then
      (QJ_X8_read_161 j c p0 p4 y10 s18)
    else
      (if (s18 j 4) = 0 then
        (QJ_X8_read_161 j c p0 p4 y10 s18)
      else
        ((Q_X8_isHeldBy s18 (23 + 11 * c + 1 + 2 + 2 * ix (1 : Int32)) 48 (23 + 11 * c + 1 + 2 + 2 * ix (0 : Int32)) 48) ∧ (if (F_X8_isHeldBy s18 (23 + 11 * c + 1 + 2 + 2 * ix (1 : Int32)) 48 (23 + 11 * c + 1 + 2 + 2 * ix (0 : Int32)) 48) = 0 then
          (QJ_X8_read_161 j c p0 p4 y10 s18)
        else
          ((Q_X8_isHeldBy s18 (23 + 11 * c + 1 + 2 + 2 * ix (2 : Int32)) 48 (23 + 11 * c + 1 + 2 + 2 * ix (0 : Int32)) 48) ∧ (if (F_X8_isHeldBy s18 (23 + 11 * c + 1 + 2 + 2 * ix (2 : Int32)) 48 (23 + 11 * c + 1 + 2 + 2 * ix (0 : Int32)) 48) = 0 then
            (QJ_X8_read_161 j c p0 p4 y10 s18)
          else
            (QJ_X8_read_162 j c p0 p4 y10 (1 : Int32) s18)))))))
set_option maxHeartbeats 4000000 in
set_option maxRecDepth 100000 in
theorem j_X8_read_116 (l : Launch) (g : gE) {j c : Nat} {p0 : Int32} {p4 : Int32} (hS : isS j) (hc : c < 16) {ζ : gQ} {fr : gS} (hT : gTab g) : ∀ (y10 : Int32) (y11 : Int32) (u0 : Int32) (σ : gS), QJ_X8_read_116 j c p0 p4 y10 y11 u0 σ → J_X8_read_116 j c p0 p4 y10 y11 u0 σ = fr → gG l g mX8_read (rm 5 136) (gZm g (rm 5 136) (fun r h => r = none ∧ h = hp fr ζ)) 116 [(0, .ref j), (2, .ref (23 + 11 * c)), (3, .ref 12), (4, .ref 7), (5, .int p4), (6, .ref (23 + 11 * c + 1 + 2 + 2 * ix (0 : Int32))), (7, .ref (23 + 11 * c + 1 + 2 + 2 * ix (1 : Int32))), (8, .ref (23 + 11 * c + 1 + 2 + 2 * ix (2 : Int32))), (9, .ref (23 + 11 * c + 1 + 2 + 2 * ix (3 : Int32))), (10, .int y10), (11, .int y11)] [.int u0, .ref j] (hp σ ζ) 0 0 := by
  intro y10 y11 u0 σ hQ hF
  unfold J_X8_read_116 at hF
  unfold QJ_X8_read_116 at hQ
  refine g_put gClX8 1 (by decide) fl_X8_15 rfl dX8_read_116 (hS.o _ ζ) rfl rfl (Nat.le_of_ble_eq_true rfl) hS.p1 rfl ?_
  refine g_aload_n dX8_read_119 rfl rfl rfl ?_
  refine g_iload dX8_read_120 rfl rfl ?_
  refine g_ifeq (tgt := 161) dX8_read_122 (by decide) rfl (fun c19 => ?_) (fun c19 => ?_)
  · replace hF := ite_p hF c19
    try replace hQ := ite_q hQ c19
    refine g_sub [0, 1, 2, 3, 4, 5, 6, 7, 8, 9] rfl ?_
    exact j_X8_read_161 l g hS hc hT _ _ hQ hF
  · replace hF := ite_n hF c19
    try replace hQ := ite_r hQ c19
    refine g_iload dX8_read_125 rfl rfl ?_
    refine g_ifeq (tgt := 161) dX8_read_127 (by decide) rfl (fun c48 => ?_) (fun c48 => ?_)
    · replace hF := ite_p hF c48
      try replace hQ := ite_q hQ c48
      refine g_sub [0, 1, 2, 3, 4, 5, 6, 7, 8, 9] rfl ?_
      exact j_X8_read_161 l g hS hc hT _ _ hQ hF
    · replace hF := ite_n hF c48
      try replace hQ := ite_r hQ c48
      refine g_aload_n dX8_read_130 rfl rfl rfl ?_
      refine g_get gClX8 4 (by decide) fl_X8_25 dX8_read_131 (hS.o _ ζ) rfl rfl ?_
      refine g_ifeq (tgt := 161) dX8_read_134 (by decide) rfl (fun c49 => ?_) (fun c49 => ?_)
      · replace hF := ite_p hF c49
        try replace hQ := ite_q hQ c49
        refine g_sub [0, 1, 2, 3, 4, 5, 6, 7, 8, 9] rfl ?_
        exact j_X8_read_161 l g hS hc hT _ _ hQ hF
      · replace hF := ite_n hF c49
        try replace hQ := ite_r hQ c49
        refine g_aload dX8_read_137 rfl rfl ?_
        refine g_aload dX8_read_139 rfl rfl ?_
        have o50 := hQ.1
        replace hQ := hQ.2
        refine g_calls mt_X8_isHeldBy ms_X8_isHeldBy ml_X8_44 (c_X8_isHeldBy l g (isB_rw hc (vin_lt (vinc (by decide) : vp_in (1 : Int32) 4))) (isB_rw hc (vin_lt (vinc (by decide) : vp_in (0 : Int32) 4))) o50) rfl (Nat.le_of_ble_eq_true rfl) (Nat.le_of_ble_eq_true rfl) (Nat.le_of_ble_eq_true rfl) (Nat.le_of_ble_eq_true rfl) rfl (Nat.le_of_ble_eq_true rfl) dX8_read_141 rfl (fun r51 hr51 pr51 => ?_)
        obtain ⟨rfl, rfl⟩ := pr51
        refine g_ifeq (tgt := 161) dX8_read_144 (by decide) rfl (fun c52 => ?_) (fun c52 => ?_)
        · replace hF := ite_p hF c52
          try replace hQ := ite_q hQ c52
          refine g_sub [0, 1, 2, 3, 4, 5, 6, 7, 8, 9] rfl ?_
          exact j_X8_read_161 l g hS hc hT _ _ hQ hF
        · replace hF := ite_n hF c52
          try replace hQ := ite_r hQ c52
          refine g_aload dX8_read_147 rfl rfl ?_
          refine g_aload dX8_read_149 rfl rfl ?_
          have o53 := hQ.1
          replace hQ := hQ.2
          refine g_calls mt_X8_isHeldBy ms_X8_isHeldBy ml_X8_44 (c_X8_isHeldBy l g (isB_rw hc (vin_lt (vinc (by decide) : vp_in (2 : Int32) 4))) (isB_rw hc (vin_lt (vinc (by decide) : vp_in (0 : Int32) 4))) o53) rfl (Nat.le_of_ble_eq_true rfl) (Nat.le_of_ble_eq_true rfl) (Nat.le_of_ble_eq_true rfl) (Nat.le_of_ble_eq_true rfl) rfl (Nat.le_of_ble_eq_true rfl) dX8_read_151 rfl (fun r54 hr54 pr54 => ?_)
          obtain ⟨rfl, rfl⟩ := pr54
          refine g_ifeq (tgt := 161) dX8_read_154 (by decide) rfl (fun c55 => ?_) (fun c55 => ?_)
          · replace hF := ite_p hF c55
            try replace hQ := ite_q hQ c55
            refine g_sub [0, 1, 2, 3, 4, 5, 6, 7, 8, 9] rfl ?_
            exact j_X8_read_161 l g hS hc hT _ _ hQ hF
          · replace hF := ite_n hF c55
            try replace hQ := ite_r hQ c55
            refine g_iconst (v := 1) dX8_read_157 (by decide) rfl ?_
            refine g_goto (tgt := 162) dX8_read_158 (by decide) ?_
            refine g_sub [0, 1, 2, 3, 4, 5, 6, 7, 8, 9] rfl ?_
            exact j_X8_read_162 l g hS hc hT _ _ _ hQ hF
noncomputable def Fr_X8_read (σ : gS) (j c : Nat) (p0 : Int32) (p4 : Int32) : gS :=
  let s1 := (pf σ j 0 p0 : gS)
  let s2 := (pf s1 j 1 (0 : Int32) : gS)
  let s3 := (pf s2 j 2 (0 : Int32) : gS)
  let s4 := (pf s3 j 3 (0 : Int32) : gS)
  let s5 := (pf s4 j 4 (0 : Int32) : gS)
  let f8 := (F_X8_isGood s5 c (0 : Int32) p4)
  let f11 := (F_X8_isGood f8.2 c (2 : Int32) p4)
  let s13 := (pf f11.2 j 4 f11.1 : gS)
  let f16 := (F_X8_isGood s13 c (1 : Int32) p4)
  if f8.1 = 0 then
    J_X8_read_116 j c p0 p4 f8.1 f16.1 (0 : Int32) f16.2
  else
    J_X8_read_116 j c p0 p4 f8.1 f16.1 (F_X0_fourAt f16.2 (23 + 11 * c + 1 + 2 + 2 * ix (0 : Int32)) 48 (3 : Int32)) f16.2
noncomputable def F_X8_read : gS → Nat → Nat → Int32 → Int32 → gS := Classical.choose (⟨Fr_X8_read, rfl⟩ : ∃ f : gS → Nat → Nat → Int32 → Int32 → gS, f = Fr_X8_read)
theorem F_X8_read_eq : F_X8_read = Fr_X8_read := Classical.choose_spec (⟨Fr_X8_read, rfl⟩ : ∃ f : gS → Nat → Nat → Int32 → Int32 → gS, f = Fr_X8_read)
def Q_X8_read (σ : gS) (j c : Nat) (p0 : Int32) (p4 : Int32) : Prop :=
  let s1 := (pf σ j 0 p0 : gS)
  let s2 := (pf s1 j 1 (0 : Int32) : gS)
  let s3 := (pf s2 j 2 (0 : Int32) : gS)
  let s4 := (pf s3 j 3 (0 : Int32) : gS)
  let s5 := (pf s4 j 4 (0 : Int32) : gS)
  (Q_X8_isGood s5 c (0 : Int32) p4) ∧ (let f8 := (F_X8_isGood s5 c (0 : Int32) p4)
  (Q_X8_isGood f8.2 c (2 : Int32) p4) ∧ (let f11 := (F_X8_isGood f8.2 c (2 : Int32) p4)
  (f11.1 = 0 ∨ f11.1 = 1) ∧ (let s13 := (pf f11.2 j 4 f11.1 : gS)
  (Q_X8_isGood s13 c (1 : Int32) p4) ∧ (let f16 := (F_X8_isGood s13 c (1 : Int32) p4)
  if f8.1 = 0 then
    (QJ_X8_read_116 j c p0 p4 f8.1 f16.1 (0 : Int32) f16.2)
  else
    ((Q_X0_fourAt f16.2 (23 + 11 * c + 1 + 2 + 2 * ix (0 : Int32)) 48 (3 : Int32)) ∧ (QJ_X8_read_116 j c p0 p4 f8.1 f16.1 (F_X0_fourAt f16.2 (23 + 11 * c + 1 + 2 + 2 * ix (0 : Int32)) 48 (3 : Int32)) f16.2))))))
set_option maxHeartbeats 4000000 in
set_option maxRecDepth 100000 in
theorem c_X8_read (l : Launch) (g : gE) {j c : Nat} (hS : isS j) (hc : c < 16) (hT : gTab g) {σ : gS} {ζ : gQ} (p0 : Int32) (p4 : Int32) (hQ : Q_X8_read σ j c p0 p4) : gC l g mX8_read (rm 5 136) [.ref j, .int p0, .ref (23 + 11 * c), .ref 12, .ref 7, .int p4] (hp σ ζ) (fun r h => r = none ∧ h = hp (F_X8_read σ j c p0 p4) ζ) := by
  refine gC_of (by decide) (Nat.le_of_ble_eq_true rfl) ?_
  generalize hF : (F_X8_read σ j c p0 p4) = fr
  rw [F_X8_read_eq] at hF
  unfold Fr_X8_read at hF
  unfold Q_X8_read at hQ
  refine g_aload_n dX8_read_0 rfl rfl rfl ?_
  refine g_iload_n dX8_read_1 rfl rfl rfl ?_
  refine g_put gClX8 0 (by decide) fl_X8_9 rfl dX8_read_2 (hS.o _ ζ) rfl rfl (Nat.le_of_ble_eq_true rfl) hS.p0 rfl ?_
  refine g_aload_n dX8_read_5 rfl rfl rfl ?_
  refine g_iconst (v := 0) dX8_read_6 (by decide) rfl ?_
  refine g_put gClX8 1 (by decide) fl_X8_15 rfl dX8_read_7 (hS.o _ ζ) rfl rfl (Nat.le_of_ble_eq_true rfl) hS.p1 rfl ?_
  refine g_aload_n dX8_read_10 rfl rfl rfl ?_
  refine g_iconst (v := 0) dX8_read_11 (by decide) rfl ?_
  refine g_put gClX8 2 (by decide) fl_X8_18 rfl dX8_read_12 (hS.o _ ζ) rfl rfl (Nat.le_of_ble_eq_true rfl) hS.p2 rfl ?_
  refine g_aload_n dX8_read_15 rfl rfl rfl ?_
  refine g_iconst (v := 0) dX8_read_16 (by decide) rfl ?_
  refine g_put gClX8 3 (by decide) fl_X8_22 rfl dX8_read_17 (hS.o _ ζ) rfl rfl (Nat.le_of_ble_eq_true rfl) hS.p3 rfl ?_
  refine g_aload_n dX8_read_20 rfl rfl rfl ?_
  refine g_iconst (v := 0) dX8_read_21 (by decide) rfl ?_
  refine g_put gClX8 4 (by decide) fl_X8_25 rfl dX8_read_22 (hS.o _ ζ) rfl rfl (Nat.le_of_ble_eq_true rfl) hS.p4 rfl ?_
  refine g_aload_n dX8_read_25 rfl rfl rfl ?_
  refine g_ifnonnull (tgt := 30) dX8_read_26 (by decide) ?_
  refine g_aload_n dX8_read_30 rfl rfl rfl ?_
  refine g_get gClX1 0 (by decide) fl_X8_28 dX8_read_31 (card_o hc) rfl rfl ?_
  refine g_iconst (v := 0) dX8_read_34 (by decide) rfl ?_
  refine g_aald4 (card_r hc) (vinc (by decide) : vp_in (0 : Int32) 4) (aa4 (vinc (by decide) : vp_in (0 : Int32) 4)) dX8_read_35 rfl ?_
  refine g_astoreL (L1 := [(0, _), (1, _), (2, _), (3, _), (4, _), (5, _), (6, _)]) dX8_read_36 (by decide) rfl rfl ?_
  refine g_aload_n dX8_read_38 rfl rfl rfl ?_
  refine g_get gClX1 0 (by decide) fl_X8_28 dX8_read_39 (card_o hc) rfl rfl ?_
  refine g_iconst (v := 1) dX8_read_42 (by decide) rfl ?_
  refine g_aald4 (card_r hc) (vinc (by decide) : vp_in (1 : Int32) 4) (aa4 (vinc (by decide) : vp_in (1 : Int32) 4)) dX8_read_43 rfl ?_
  refine g_astoreL (L1 := [(0, _), (1, _), (2, _), (3, _), (4, _), (5, _), (6, _), (7, _)]) dX8_read_44 (by decide) rfl rfl ?_
  refine g_aload_n dX8_read_46 rfl rfl rfl ?_
  refine g_get gClX1 0 (by decide) fl_X8_28 dX8_read_47 (card_o hc) rfl rfl ?_
  refine g_iconst (v := 2) dX8_read_50 (by decide) rfl ?_
  refine g_aald4 (card_r hc) (vinc (by decide) : vp_in (2 : Int32) 4) (aa4 (vinc (by decide) : vp_in (2 : Int32) 4)) dX8_read_51 rfl ?_
  refine g_astoreL (L1 := [(0, _), (1, _), (2, _), (3, _), (4, _), (5, _), (6, _), (7, _), (8, _)]) dX8_read_52 (by decide) rfl rfl ?_
  refine g_aload_n dX8_read_54 rfl rfl rfl ?_
  refine g_get gClX1 0 (by decide) fl_X8_28 dX8_read_55 (card_o hc) rfl rfl ?_
  refine g_iconst (v := 3) dX8_read_58 (by decide) rfl ?_
  refine g_aald4 (card_r hc) (vinc (by decide) : vp_in (3 : Int32) 4) (aa4 (vinc (by decide) : vp_in (3 : Int32) 4)) dX8_read_59 rfl ?_
  refine g_astoreL (L1 := [(0, _), (1, _), (2, _), (3, _), (4, _), (5, _), (6, _), (7, _), (8, _), (9, _)]) dX8_read_60 (by decide) rfl rfl ?_
  refine g_aload_n dX8_read_62 rfl rfl rfl ?_
  refine g_iconst (v := 0) dX8_read_63 (by decide) rfl ?_
  refine g_aload_n dX8_read_64 rfl rfl rfl ?_
  refine g_aload dX8_read_65 rfl rfl ?_
  refine g_iload dX8_read_67 rfl rfl ?_
  have o6 := hQ.1
  replace hQ := hQ.2
  refine g_calls mt_X8_isGood ms_X8_isGood ml_X8_34 (c_X8_isGood l g hc hT _ _ o6) rfl (Nat.le_of_ble_eq_true rfl) (Nat.le_of_ble_eq_true rfl) (Nat.le_of_ble_eq_true rfl) (Nat.le_of_ble_eq_true rfl) rfl (Nat.le_of_ble_eq_true rfl) dX8_read_69 rfl (fun r7 hr7 pr7 => ?_)
  obtain ⟨rfl, rfl⟩ := pr7
  refine g_istoreL (L1 := [(0, _), (1, _), (2, _), (3, _), (4, _), (5, _), (6, _), (7, _), (8, _), (9, _), (10, _)]) dX8_read_72 (by decide) rfl rfl ?_
  refine g_aload_n dX8_read_74 rfl rfl rfl ?_
  refine g_aload_n dX8_read_75 rfl rfl rfl ?_
  refine g_iconst (v := 2) dX8_read_76 (by decide) rfl ?_
  refine g_aload_n dX8_read_77 rfl rfl rfl ?_
  refine g_aload dX8_read_78 rfl rfl ?_
  refine g_iload dX8_read_80 rfl rfl ?_
  have o9 := hQ.1
  replace hQ := hQ.2
  refine g_calls mt_X8_isGood ms_X8_isGood ml_X8_34 (c_X8_isGood l g hc hT _ _ o9) rfl (Nat.le_of_ble_eq_true rfl) (Nat.le_of_ble_eq_true rfl) (Nat.le_of_ble_eq_true rfl) (Nat.le_of_ble_eq_true rfl) rfl (Nat.le_of_ble_eq_true rfl) dX8_read_82 rfl (fun r10 hr10 pr10 => ?_)
  obtain ⟨rfl, rfl⟩ := pr10
  have o12 := hQ.1
  replace hQ := hQ.2
  refine g_put gClX8 4 (by decide) fl_X8_25 rfl dX8_read_85 (hS.o _ ζ) (gz_n o12) (gz_f o12) (Nat.le_of_ble_eq_true rfl) hS.p4 rfl ?_
  refine g_aload_n dX8_read_88 rfl rfl rfl ?_
  refine g_iconst (v := 1) dX8_read_89 (by decide) rfl ?_
  refine g_aload_n dX8_read_90 rfl rfl rfl ?_
  refine g_aload dX8_read_91 rfl rfl ?_
  refine g_iload dX8_read_93 rfl rfl ?_
  have o14 := hQ.1
  replace hQ := hQ.2
  refine g_calls mt_X8_isGood ms_X8_isGood ml_X8_34 (c_X8_isGood l g hc hT _ _ o14) rfl (Nat.le_of_ble_eq_true rfl) (Nat.le_of_ble_eq_true rfl) (Nat.le_of_ble_eq_true rfl) (Nat.le_of_ble_eq_true rfl) rfl (Nat.le_of_ble_eq_true rfl) dX8_read_95 rfl (fun r15 hr15 pr15 => ?_)
  obtain ⟨rfl, rfl⟩ := pr15
  refine g_istoreL (L1 := [(0, _), (1, _), (2, _), (3, _), (4, _), (5, _), (6, _), (7, _), (8, _), (9, _), (10, _), (11, _)]) dX8_read_98 (by decide) rfl rfl ?_
  refine g_aload_n dX8_read_100 rfl rfl rfl ?_
  refine g_iload dX8_read_101 rfl rfl ?_
  refine g_ifeq (tgt := 115) dX8_read_103 (by decide) rfl (fun c17 => ?_) (fun c17 => ?_)
  · replace hF := ite_p hF c17
    try replace hQ := ite_q hQ c17
    refine g_iconst (v := 0) dX8_read_115 (by decide) rfl ?_
    refine g_sub [0, 2, 3, 4, 5, 6, 7, 8, 9, 10, 11] rfl ?_
    exact j_X8_read_116 l g hS hc hT _ _ _ _ hQ hF
  · replace hF := ite_n hF c17
    try replace hQ := ite_r hQ c17
    refine g_aload dX8_read_106 rfl rfl ?_
    refine g_iconst (v := 3) dX8_read_108 (by decide) rfl ?_
    have o56 := hQ.1
    replace hQ := hQ.2
    refine g_callv mv_X0_fourAt ml_X8_38 (c_X0_fourAt l g (isB_rw hc (vin_lt (vinc (by decide) : vp_in (0 : Int32) 4))) _ o56) ((isB_rw hc (vin_lt (vinc (by decide) : vp_in (0 : Int32) 4))).o _ ζ) rfl rfl (Nat.le_of_ble_eq_true rfl) (Nat.le_of_ble_eq_true rfl) (Nat.le_of_ble_eq_true rfl) (Nat.le_of_ble_eq_true rfl) rfl (Nat.le_of_ble_eq_true rfl) dX8_read_109 rfl (fun r57 hr57 pr57 => ?_)
    obtain ⟨rfl, rfl⟩ := pr57
    refine g_goto (tgt := 116) dX8_read_112 (by decide) ?_
    refine g_sub [0, 2, 3, 4, 5, 6, 7, 8, 9, 10, 11] rfl ?_
    exact j_X8_read_116 l g hS hc hT _ _ _ _ hQ hF
