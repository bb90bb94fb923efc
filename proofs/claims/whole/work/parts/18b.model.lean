/-! StationHouseModel: by program -/
noncomputable def G_X10_isGood_L179 (p0 : Int32) (p1 : Int32) (ζ : gQ) : Nat → Int32 → Int32 → Int32 → Int32 → Int32 → gS → Int32 × gS
  | 0, _, _, _, _, _, σ => (0, σ)
  | n + 1, y3, y4, y5, y6, y7, σ =>
    if (16 : Int32) ≤ y7 then
      if y6 = 0 then
        ((0 : Int32), σ)
      else
        if (lg_cmp (ζ 19) (F_X10_field σ p0 p1 (13 : Int32) (4 : Int32))) < 0 then
          ((0 : Int32), σ)
        else
          if 0 < (lg_cmp (ζ 19) (F_X10_field σ p0 p1 (17 : Int32) (4 : Int32))) then
            ((0 : Int32), σ)
          else
            ((1 : Int32), σ)
    else
      if y6 = 0 then
        G_X10_isGood_L179 p0 p1 ζ n y3 y4 y5 (0 : Int32) (y7 + Int32.ofInt (1)) σ
      else
        if (σ 207 (ix y7)) = (σ 210 (ix (((y5 + y3) - (16 : Int32)) + y7))) then
          G_X10_isGood_L179 p0 p1 ζ n y3 y4 y5 (1 : Int32) (y7 + Int32.ofInt (1)) σ
        else
          G_X10_isGood_L179 p0 p1 ζ n y3 y4 y5 (0 : Int32) (y7 + Int32.ofInt (1)) σ
def QG_X10_isGood_L179 (p0 : Int32) (p1 : Int32) (ζ : gQ) : Nat → Int32 → Int32 → Int32 → Int32 → Int32 → gS → Prop
  | 0, _, _, _, _, _, _ => False
  | n + 1, y3, y4, y5, y6, y7, σ =>
    if (16 : Int32) ≤ y7 then
      (if y6 = 0 then
        (True)
      else
        ((Q_X10_field σ p0 p1 (13 : Int32) (4 : Int32)) ∧ (if (lg_cmp (ζ 19) (F_X10_field σ p0 p1 (13 : Int32) (4 : Int32))) < 0 then
          (True)
        else
          ((Q_X10_field σ p0 p1 (17 : Int32) (4 : Int32)) ∧ (if 0 < (lg_cmp (ζ 19) (F_X10_field σ p0 p1 (17 : Int32) (4 : Int32))) then
            (True)
          else
            (True))))))
    else
      (if y6 = 0 then
        (QG_X10_isGood_L179 p0 p1 ζ n y3 y4 y5 (0 : Int32) (y7 + Int32.ofInt (1)) σ)
      else
        (vp_in y7 32 ∧ (vp_in (((y5 + y3) - (16 : Int32)) + y7) 3072 ∧ (if (σ 207 (ix y7)) = (σ 210 (ix (((y5 + y3) - (16 : Int32)) + y7))) then
          (QG_X10_isGood_L179 p0 p1 ζ n y3 y4 y5 (1 : Int32) (y7 + Int32.ofInt (1)) σ)
        else
          (QG_X10_isGood_L179 p0 p1 ζ n y3 y4 y5 (0 : Int32) (y7 + Int32.ofInt (1)) σ)))))
set_option maxHeartbeats 4000000 in
set_option maxRecDepth 100000 in
theorem t_X10_isGood_L179 (l : Launch) (g : gE) {p0 : Int32} {p1 : Int32} {ζ : gQ} {fr : Int32 × gS} : ∀ (n : Nat) (y3 : Int32) (y4 : Int32) (y5 : Int32) (y6 : Int32) (y7 : Int32) (σ : gS), QG_X10_isGood_L179 p0 p1 ζ n y3 y4 y5 y6 y7 σ → G_X10_isGood_L179 p0 p1 ζ n y3 y4 y5 y6 y7 σ = fr → gG l g mX10_isGood (rm 5 151) (gZm g (rm 5 151) (fun r h => r = some (.int fr.1) ∧ h = hp fr.2 ζ)) 179 [(0, .ref 199), (1, .int p0), (2, .int p1), (3, .int y3), (4, .int y4), (5, .int y5), (6, .int y6), (7, .int y7)] [] (hp σ ζ) 0 0 := by
  intro n
  induction n with
  | zero => intro y3 y4 y5 y6 y7 σ hQ; exact absurd hQ (by unfold QG_X10_isGood_L179; exact id)
  | succ n ihL179 =>
    intro y3 y4 y5 y6 y7 σ hQ hF
    unfold G_X10_isGood_L179 at hF
    unfold QG_X10_isGood_L179 at hQ
    refine g_iload dX10_isGood_179 rfl rfl ?_
    refine g_bipush (v := 16) dX10_isGood_181 (by decide) rfl ?_
    refine g_icmpge (tgt := 229) dX10_isGood_183 (by decide) rfl (fun c26 => ?_) (fun c26 => ?_)
    · replace hF := ite_p hF c26
      try replace hQ := ite_q hQ c26
      refine g_iload dX10_isGood_229 rfl rfl ?_
      refine g_ifeq (tgt := 272) dX10_isGood_231 (by decide) rfl (fun c27 => ?_) (fun c27 => ?_)
      · replace hF := ite_p hF c27
        try replace hQ := ite_q hQ c27
        refine g_iconst (v := 0) dX10_isGood_272 (by decide) rfl ?_
        subst hF
        exact g_zret rfl dX10_isGood_273 (by decide) (Nat.le_of_ble_eq_true rfl) (Nat.le_of_ble_eq_true rfl) ⟨rfl, rfl⟩
      · replace hF := ite_n hF c27
        try replace hQ := ite_r hQ c27
        refine g_aload_n dX10_isGood_234 rfl rfl rfl ?_
        refine g_get gClX10 19 (by decide) fl_X10_182 dX10_isGood_235 (ho_199 _ _) rfl rfl ?_
        refine g_aload_n dX10_isGood_238 rfl rfl rfl ?_
        refine g_iload_n dX10_isGood_239 rfl rfl rfl ?_
        refine g_iload_n dX10_isGood_240 rfl rfl rfl ?_
        refine g_bipush (v := 13) dX10_isGood_241 (by decide) rfl ?_
        refine g_iconst (v := 4) dX10_isGood_243 (by decide) rfl ?_
        have o28 := hQ.1
        replace hQ := hQ.2
        refine g_callv mv_X10_field ml_X10_170 (c_X10_field l g _ _ _ _ o28) (ho_199 _ _) rfl rfl (Nat.le_of_ble_eq_true rfl) (Nat.le_of_ble_eq_true rfl) (Nat.le_of_ble_eq_true rfl) (Nat.le_of_ble_eq_true rfl) rfl (Nat.le_of_ble_eq_true rfl) dX10_isGood_244 rfl (fun r29 hr29 pr29 => ?_)
        obtain ⟨rfl, rfl⟩ := pr29
        refine g_lcmp dX10_isGood_247 rfl ?_
        refine g_iflt (tgt := 272) dX10_isGood_248 (by decide) rfl (fun c30 => ?_) (fun c30 => ?_)
        · replace hF := ite_p hF c30
          try replace hQ := ite_q hQ c30
          refine g_iconst (v := 0) dX10_isGood_272 (by decide) rfl ?_
          subst hF
          exact g_zret rfl dX10_isGood_273 (by decide) (Nat.le_of_ble_eq_true rfl) (Nat.le_of_ble_eq_true rfl) ⟨rfl, rfl⟩
        · replace hF := ite_n hF c30
          try replace hQ := ite_r hQ c30
          refine g_aload_n dX10_isGood_251 rfl rfl rfl ?_
          refine g_get gClX10 19 (by decide) fl_X10_182 dX10_isGood_252 (ho_199 _ _) rfl rfl ?_
          refine g_aload_n dX10_isGood_255 rfl rfl rfl ?_
          refine g_iload_n dX10_isGood_256 rfl rfl rfl ?_
          refine g_iload_n dX10_isGood_257 rfl rfl rfl ?_
          refine g_bipush (v := 17) dX10_isGood_258 (by decide) rfl ?_
          refine g_iconst (v := 4) dX10_isGood_260 (by decide) rfl ?_
          have o31 := hQ.1
          replace hQ := hQ.2
          refine g_callv mv_X10_field ml_X10_170 (c_X10_field l g _ _ _ _ o31) (ho_199 _ _) rfl rfl (Nat.le_of_ble_eq_true rfl) (Nat.le_of_ble_eq_true rfl) (Nat.le_of_ble_eq_true rfl) (Nat.le_of_ble_eq_true rfl) rfl (Nat.le_of_ble_eq_true rfl) dX10_isGood_261 rfl (fun r32 hr32 pr32 => ?_)
          obtain ⟨rfl, rfl⟩ := pr32
          refine g_lcmp dX10_isGood_264 rfl ?_
          refine g_ifgt (tgt := 272) dX10_isGood_265 (by decide) rfl (fun c33 => ?_) (fun c33 => ?_)
          · replace hF := ite_p hF c33
            try replace hQ := ite_q hQ c33
            refine g_iconst (v := 0) dX10_isGood_272 (by decide) rfl ?_
            subst hF
            exact g_zret rfl dX10_isGood_273 (by decide) (Nat.le_of_ble_eq_true rfl) (Nat.le_of_ble_eq_true rfl) ⟨rfl, rfl⟩
          · replace hF := ite_n hF c33
            try replace hQ := ite_r hQ c33
            refine g_iconst (v := 1) dX10_isGood_268 (by decide) rfl ?_
            refine g_goto (tgt := 273) dX10_isGood_269 (by decide) ?_
            subst hF
            exact g_zret rfl dX10_isGood_273 (by decide) (Nat.le_of_ble_eq_true rfl) (Nat.le_of_ble_eq_true rfl) ⟨rfl, rfl⟩
    · replace hF := ite_n hF c26
      try replace hQ := ite_r hQ c26
      refine g_iload dX10_isGood_186 rfl rfl ?_
      refine g_ifeq (tgt := 220) dX10_isGood_188 (by decide) rfl (fun c34 => ?_) (fun c34 => ?_)
      · replace hF := ite_p hF c34
        try replace hQ := ite_q hQ c34
        refine g_iconst (v := 0) dX10_isGood_220 (by decide) rfl ?_
        refine g_istoreL (L1 := [(0, _), (1, _), (2, _), (3, _), (4, _), (5, _), (6, _), (7, _)]) dX10_isGood_221 (by decide) rfl rfl ?_
        refine g_iincL (L1 := [(0, _), (1, _), (2, _), (3, _), (4, _), (5, _), (6, _), (7, _)]) dX10_isGood_223 rfl (by decide) rfl rfl ?_
        refine g_goto (tgt := 179) dX10_isGood_226 (by decide) ?_
        refine g_sub [0, 1, 2, 3, 4, 5, 6, 7] rfl ?_
        exact ihL179 _ _ _ _ _ _ hQ hF
      · replace hF := ite_n hF c34
        try replace hQ := ite_r hQ c34
        refine g_aload_n dX10_isGood_191 rfl rfl rfl ?_
        refine g_get gClX10 8 (by decide) fl_X10_32 dX10_isGood_192 (ho_199 _ _) rfl rfl ?_
        refine g_iload dX10_isGood_195 rfl rfl ?_
        have o35 := hQ.1
        replace hQ := hQ.2
        refine g_bald (ha_207 _ _) o35 dX10_isGood_197 rfl ?_
        refine g_aload_n dX10_isGood_198 rfl rfl rfl ?_
        refine g_get gClX10 12 (by decide) fl_X10_41 dX10_isGood_199 (ho_199 _ _) rfl rfl ?_
        refine g_iload dX10_isGood_202 rfl rfl ?_
        refine g_iload_n dX10_isGood_204 rfl rfl rfl ?_
        refine g_iadd dX10_isGood_205 rfl ?_
        refine g_bipush (v := 16) dX10_isGood_206 (by decide) rfl ?_
        refine g_isub dX10_isGood_208 rfl ?_
        refine g_iload dX10_isGood_209 rfl rfl ?_
        refine g_iadd dX10_isGood_211 rfl ?_
        have o36 := hQ.1
        replace hQ := hQ.2
        refine g_bald (ha_210 _ _) o36 dX10_isGood_212 rfl ?_
        refine g_icmpne (tgt := 220) dX10_isGood_213 (by decide) rfl (fun c37 => ?_) (fun c37 => ?_)
        · replace hF := ite_n hF c37
          try replace hQ := ite_r hQ c37
          refine g_iconst (v := 0) dX10_isGood_220 (by decide) rfl ?_
          refine g_istoreL (L1 := [(0, _), (1, _), (2, _), (3, _), (4, _), (5, _), (6, _), (7, _)]) dX10_isGood_221 (by decide) rfl rfl ?_
          refine g_iincL (L1 := [(0, _), (1, _), (2, _), (3, _), (4, _), (5, _), (6, _), (7, _)]) dX10_isGood_223 rfl (by decide) rfl rfl ?_
          refine g_goto (tgt := 179) dX10_isGood_226 (by decide) ?_
          refine g_sub [0, 1, 2, 3, 4, 5, 6, 7] rfl ?_
          exact ihL179 _ _ _ _ _ _ hQ hF
        · replace hF := ite_p hF c37
          try replace hQ := ite_q hQ c37
          refine g_iconst (v := 1) dX10_isGood_216 (by decide) rfl ?_
          refine g_goto (tgt := 221) dX10_isGood_217 (by decide) ?_
          refine g_istoreL (L1 := [(0, _), (1, _), (2, _), (3, _), (4, _), (5, _), (6, _), (7, _)]) dX10_isGood_221 (by decide) rfl rfl ?_
          refine g_iincL (L1 := [(0, _), (1, _), (2, _), (3, _), (4, _), (5, _), (6, _), (7, _)]) dX10_isGood_223 rfl (by decide) rfl rfl ?_
          refine g_goto (tgt := 179) dX10_isGood_226 (by decide) ?_
          refine g_sub [0, 1, 2, 3, 4, 5, 6, 7] rfl ?_
          exact ihL179 _ _ _ _ _ _ hQ hF
noncomputable def J_X10_isGood_119 (p0 : Int32) (p1 : Int32) (ζ : gQ) (y3 : Int32) (σ : gS) : Int32 × gS :=
  let v20 := (F_X10_keyOf σ (F_X10_field σ p0 p1 (1 : Int32) (2 : Int32)))
  if 0 ≤ v20 then
    let v22 := ((48 : Int32) * (((4 : Int32) * p0) + p1))
    let s25 := (F_X10_sealOf σ 214 112 210 3072 ((16 : Int32) * v20) v22 (y3 - (16 : Int32)))
    G_X10_isGood_L179 p0 p1 ζ 4000 y3 v20 v22 (1 : Int32) (0 : Int32) s25
  else
    ((0 : Int32), σ)
def QJ_X10_isGood_119 (p0 : Int32) (p1 : Int32) (ζ : gQ) (y3 : Int32) (σ : gS) : Prop :=
  (Q_X10_field σ p0 p1 (1 : Int32) (2 : Int32)) ∧ ((Q_X10_keyOf σ (F_X10_field σ p0 p1 (1 : Int32) (2 : Int32))) ∧ (let v20 := (F_X10_keyOf σ (F_X10_field σ p0 p1 (1 : Int32) (2 : Int32)))
  if 0 ≤ v20 then
    (let v22 := ((48 : Int32) * (((4 : Int32) * p0) + p1))
    (Q_X10_sealOf σ 214 112 210 3072 ((16 : Int32) * v20) v22 (y3 - (16 : Int32))) ∧ (let s25 := (F_X10_sealOf σ 214 112 210 3072 ((16 : Int32) * v20) v22 (y3 - (16 : Int32)))
    QG_X10_isGood_L179 p0 p1 ζ 4000 y3 v20 v22 (1 : Int32) (0 : Int32) s25))
  else
    (True)))
set_option maxHeartbeats 4000000 in
set_option maxRecDepth 100000 in
theorem j_X10_isGood_119 (l : Launch) (g : gE) {p0 : Int32} {p1 : Int32} {ζ : gQ} {fr : Int32 × gS} : ∀ (y3 : Int32) (σ : gS), QJ_X10_isGood_119 p0 p1 ζ y3 σ → J_X10_isGood_119 p0 p1 ζ y3 σ = fr → gG l g mX10_isGood (rm 5 151) (gZm g (rm 5 151) (fun r h => r = some (.int fr.1) ∧ h = hp fr.2 ζ)) 119 [(0, .ref 199), (1, .int p0), (2, .int p1), (3, .int y3)] [] (hp σ ζ) 0 0 := by
  intro y3 σ hQ hF
  unfold J_X10_isGood_119 at hF
  unfold QJ_X10_isGood_119 at hQ
  refine g_aload_n dX10_isGood_119 rfl rfl rfl ?_
  refine g_aload_n dX10_isGood_120 rfl rfl rfl ?_
  refine g_iload_n dX10_isGood_121 rfl rfl rfl ?_
  refine g_iload_n dX10_isGood_122 rfl rfl rfl ?_
  refine g_iconst (v := 1) dX10_isGood_123 (by decide) rfl ?_
  refine g_iconst (v := 2) dX10_isGood_124 (by decide) rfl ?_
  have o16 := hQ.1
  replace hQ := hQ.2
  refine g_callv mv_X10_field ml_X10_170 (c_X10_field l g _ _ _ _ o16) (ho_199 _ _) rfl rfl (Nat.le_of_ble_eq_true rfl) (Nat.le_of_ble_eq_true rfl) (Nat.le_of_ble_eq_true rfl) (Nat.le_of_ble_eq_true rfl) rfl (Nat.le_of_ble_eq_true rfl) dX10_isGood_125 rfl (fun r17 hr17 pr17 => ?_)
  obtain ⟨rfl, rfl⟩ := pr17
  have o18 := hQ.1
  replace hQ := hQ.2
  refine g_callv mv_X10_keyOf ml_X10_178 (c_X10_keyOf l g _ o18) (ho_199 _ _) rfl rfl (Nat.le_of_ble_eq_true rfl) (Nat.le_of_ble_eq_true rfl) (Nat.le_of_ble_eq_true rfl) (Nat.le_of_ble_eq_true rfl) rfl (Nat.le_of_ble_eq_true rfl) dX10_isGood_128 rfl (fun r19 hr19 pr19 => ?_)
  obtain ⟨rfl, rfl⟩ := pr19
  refine g_istoreL (L1 := [(0, _), (1, _), (2, _), (3, _), (4, _)]) dX10_isGood_131 (by decide) rfl rfl ?_
  refine g_iload dX10_isGood_133 rfl rfl ?_
  refine g_ifge (tgt := 140) dX10_isGood_135 (by decide) rfl (fun c21 => ?_) (fun c21 => ?_)
  · replace hF := ite_p hF c21
    try replace hQ := ite_q hQ c21
    refine g_bipush (v := 48) dX10_isGood_140 (by decide) rfl ?_
    refine g_iconst (v := 4) dX10_isGood_142 (by decide) rfl ?_
    refine g_iload_n dX10_isGood_143 rfl rfl rfl ?_
    refine g_imul dX10_isGood_144 rfl ?_
    refine g_iload_n dX10_isGood_145 rfl rfl rfl ?_
    refine g_iadd dX10_isGood_146 rfl ?_
    refine g_imul dX10_isGood_147 rfl ?_
    refine g_istoreL (L1 := [(0, _), (1, _), (2, _), (3, _), (4, _), (5, _)]) dX10_isGood_148 (by decide) rfl rfl ?_
    refine g_aload_n dX10_isGood_150 rfl rfl rfl ?_
    refine g_aload_n dX10_isGood_151 rfl rfl rfl ?_
    refine g_get gClX10 16 (by decide) fl_X10_54 dX10_isGood_152 (ho_199 _ _) rfl rfl ?_
    refine g_bipush (v := 16) dX10_isGood_155 (by decide) rfl ?_
    refine g_iload dX10_isGood_157 rfl rfl ?_
    refine g_imul dX10_isGood_159 rfl ?_
    refine g_aload_n dX10_isGood_160 rfl rfl rfl ?_
    refine g_get gClX10 12 (by decide) fl_X10_41 dX10_isGood_161 (ho_199 _ _) rfl rfl ?_
    refine g_iload dX10_isGood_164 rfl rfl ?_
    refine g_iload_n dX10_isGood_166 rfl rfl rfl ?_
    refine g_bipush (v := 16) dX10_isGood_167 (by decide) rfl ?_
    refine g_isub dX10_isGood_169 rfl ?_
    have o23 := hQ.1
    replace hQ := hQ.2
    refine g_callv mv_X10_sealOf ml_X10_150 (c_X10_sealOf l g (⟨by decide, fun _ _ => rfl⟩ : isA 214 112) (⟨by decide, fun _ _ => rfl⟩ : isA 210 3072) _ _ _ o23) (ho_199 _ _) rfl rfl (Nat.le_of_ble_eq_true rfl) (Nat.le_of_ble_eq_true rfl) (Nat.le_of_ble_eq_true rfl) (Nat.le_of_ble_eq_true rfl) rfl (Nat.le_of_ble_eq_true rfl) dX10_isGood_170 rfl (fun r24 hr24 pr24 => ?_)
    obtain ⟨rfl, rfl⟩ := pr24
    refine g_iconst (v := 1) dX10_isGood_173 (by decide) rfl ?_
    refine g_istoreL (L1 := [(0, _), (1, _), (2, _), (3, _), (4, _), (5, _), (6, _)]) dX10_isGood_174 (by decide) rfl rfl ?_
    refine g_iconst (v := 0) dX10_isGood_176 (by decide) rfl ?_
    refine g_istoreL (L1 := [(0, _), (1, _), (2, _), (3, _), (4, _), (5, _), (6, _), (7, _)]) dX10_isGood_177 (by decide) rfl rfl ?_
    refine g_sub [0, 1, 2, 3, 4, 5, 6, 7] rfl ?_
    exact t_X10_isGood_L179 l g 4000 _ _ _ _ _ _ hQ hF
  · replace hF := ite_n hF c21
    try replace hQ := ite_r hQ c21
    refine g_iconst (v := 0) dX10_isGood_138 (by decide) rfl ?_
    subst hF
    exact g_zret rfl dX10_isGood_139 (by decide) (Nat.le_of_ble_eq_true rfl) (Nat.le_of_ble_eq_true rfl) ⟨rfl, rfl⟩
noncomputable def J_X10_isGood_85 (p0 : Int32) (p1 : Int32) (ζ : gQ) (y3 : Int32) (σ : gS) : Int32 × gS :=
  if p1 = 0 then
    if (lg_cmp (F_X10_field σ p0 (0 : Int32) (7 : Int32) (2 : Int32)) (0 : Int64)) = 0 then
      if (lg_cmp (F_X10_field σ p0 (0 : Int32) (9 : Int32) (4 : Int32)) (0 : Int64)) = 0 then
        J_X10_isGood_119 p0 p1 ζ y3 σ
      else
        ((0 : Int32), σ)
    else
      ((0 : Int32), σ)
  else
    J_X10_isGood_119 p0 p1 ζ y3 σ
def QJ_X10_isGood_85 (p0 : Int32) (p1 : Int32) (ζ : gQ) (y3 : Int32) (σ : gS) : Prop :=
  if p1 = 0 then
    ((Q_X10_field σ p0 (0 : Int32) (7 : Int32) (2 : Int32)) ∧ (if (lg_cmp (F_X10_field σ p0 (0 : Int32) (7 : Int32) (2 : Int32)) (0 : Int64)) = 0 then
      ((Q_X10_field σ p0 (0 : Int32) (9 : Int32) (4 : Int32)) ∧ (if (lg_cmp (F_X10_field σ p0 (0 : Int32) (9 : Int32) (4 : Int32)) (0 : Int64)) = 0 then
        (QJ_X10_isGood_119 p0 p1 ζ y3 σ)
      else
        (True)))
    else
      (True)))
  else
    (QJ_X10_isGood_119 p0 p1 ζ y3 σ)
set_option maxHeartbeats 4000000 in
set_option maxRecDepth 100000 in
theorem j_X10_isGood_85 (l : Launch) (g : gE) {p0 : Int32} {p1 : Int32} {ζ : gQ} {fr : Int32 × gS} : ∀ (y3 : Int32) (σ : gS), QJ_X10_isGood_85 p0 p1 ζ y3 σ → J_X10_isGood_85 p0 p1 ζ y3 σ = fr → gG l g mX10_isGood (rm 5 151) (gZm g (rm 5 151) (fun r h => r = some (.int fr.1) ∧ h = hp fr.2 ζ)) 85 [(0, .ref 199), (1, .int p0), (2, .int p1), (3, .int y3)] [] (hp σ ζ) 0 0 := by
  intro y3 σ hQ hF
  unfold J_X10_isGood_85 at hF
  unfold QJ_X10_isGood_85 at hQ
  refine g_iload_n dX10_isGood_85 rfl rfl rfl ?_
  refine g_ifne (tgt := 119) dX10_isGood_86 (by decide) rfl (fun c15 => ?_) (fun c15 => ?_)
  · replace hF := ite_n hF c15
    try replace hQ := ite_r hQ c15
    refine g_sub [0, 1, 2, 3] rfl ?_
    exact j_X10_isGood_119 l g _ _ hQ hF
  · replace hF := ite_p hF c15
    try replace hQ := ite_q hQ c15
    refine g_aload_n dX10_isGood_89 rfl rfl rfl ?_
    refine g_iload_n dX10_isGood_90 rfl rfl rfl ?_
    refine g_iconst (v := 0) dX10_isGood_91 (by decide) rfl ?_
    refine g_bipush (v := 7) dX10_isGood_92 (by decide) rfl ?_
    refine g_iconst (v := 2) dX10_isGood_94 (by decide) rfl ?_
    have o38 := hQ.1
    replace hQ := hQ.2
    refine g_callv mv_X10_field ml_X10_170 (c_X10_field l g _ _ _ _ o38) (ho_199 _ _) rfl rfl (Nat.le_of_ble_eq_true rfl) (Nat.le_of_ble_eq_true rfl) (Nat.le_of_ble_eq_true rfl) (Nat.le_of_ble_eq_true rfl) rfl (Nat.le_of_ble_eq_true rfl) dX10_isGood_95 rfl (fun r39 hr39 pr39 => ?_)
    obtain ⟨rfl, rfl⟩ := pr39
    refine g_lconst (v := 0) dX10_isGood_98 (by decide) rfl ?_
    refine g_lcmp dX10_isGood_99 rfl ?_
    refine g_ifne (tgt := 117) dX10_isGood_100 (by decide) rfl (fun c40 => ?_) (fun c40 => ?_)
    · replace hF := ite_n hF c40
      try replace hQ := ite_r hQ c40
      refine g_iconst (v := 0) dX10_isGood_117 (by decide) rfl ?_
      subst hF
      exact g_zret rfl dX10_isGood_118 (by decide) (Nat.le_of_ble_eq_true rfl) (Nat.le_of_ble_eq_true rfl) ⟨rfl, rfl⟩
    · replace hF := ite_p hF c40
      try replace hQ := ite_q hQ c40
      refine g_aload_n dX10_isGood_103 rfl rfl rfl ?_
      refine g_iload_n dX10_isGood_104 rfl rfl rfl ?_
      refine g_iconst (v := 0) dX10_isGood_105 (by decide) rfl ?_
      refine g_bipush (v := 9) dX10_isGood_106 (by decide) rfl ?_
      refine g_iconst (v := 4) dX10_isGood_108 (by decide) rfl ?_
      have o41 := hQ.1
      replace hQ := hQ.2
      refine g_callv mv_X10_field ml_X10_170 (c_X10_field l g _ _ _ _ o41) (ho_199 _ _) rfl rfl (Nat.le_of_ble_eq_true rfl) (Nat.le_of_ble_eq_true rfl) (Nat.le_of_ble_eq_true rfl) (Nat.le_of_ble_eq_true rfl) rfl (Nat.le_of_ble_eq_true rfl) dX10_isGood_109 rfl (fun r42 hr42 pr42 => ?_)
      obtain ⟨rfl, rfl⟩ := pr42
      refine g_lconst (v := 0) dX10_isGood_112 (by decide) rfl ?_
      refine g_lcmp dX10_isGood_113 rfl ?_
      refine g_ifeq (tgt := 119) dX10_isGood_114 (by decide) rfl (fun c43 => ?_) (fun c43 => ?_)
      · replace hF := ite_p hF c43
        try replace hQ := ite_q hQ c43
        refine g_sub [0, 1, 2, 3] rfl ?_
        exact j_X10_isGood_119 l g _ _ hQ hF
      · replace hF := ite_n hF c43
        try replace hQ := ite_r hQ c43
        refine g_iconst (v := 0) dX10_isGood_117 (by decide) rfl ?_
        subst hF
        exact g_zret rfl dX10_isGood_118 (by decide) (Nat.le_of_ble_eq_true rfl) (Nat.le_of_ble_eq_true rfl) ⟨rfl, rfl⟩
noncomputable def J_X10_isGood_51 (p0 : Int32) (p1 : Int32) (ζ : gQ) (y3 : Int32) (σ : gS) : Int32 × gS :=
  if 0 < (lg_cmp (F_X10_field σ p0 p1 (21 : Int32) (1 : Int32)) (3 : Int64)) then
    ((0 : Int32), σ)
  else
    if (lg_cmp (F_X10_field σ p0 p1 (22 : Int32) (1 : Int32)) (5 : Int64)) ≤ 0 then
      J_X10_isGood_85 p0 p1 ζ y3 σ
    else
      ((0 : Int32), σ)
def QJ_X10_isGood_51 (p0 : Int32) (p1 : Int32) (ζ : gQ) (y3 : Int32) (σ : gS) : Prop :=
  (Q_X10_field σ p0 p1 (21 : Int32) (1 : Int32)) ∧ (if 0 < (lg_cmp (F_X10_field σ p0 p1 (21 : Int32) (1 : Int32)) (3 : Int64)) then
    (True)
  else
    ((Q_X10_field σ p0 p1 (22 : Int32) (1 : Int32)) ∧ (if (lg_cmp (F_X10_field σ p0 p1 (22 : Int32) (1 : Int32)) (5 : Int64)) ≤ 0 then
      (QJ_X10_isGood_85 p0 p1 ζ y3 σ)
    else
      (True))))
set_option maxHeartbeats 4000000 in
set_option maxRecDepth 100000 in
theorem j_X10_isGood_51 (l : Launch) (g : gE) {p0 : Int32} {p1 : Int32} {ζ : gQ} {fr : Int32 × gS} : ∀ (y3 : Int32) (σ : gS), QJ_X10_isGood_51 p0 p1 ζ y3 σ → J_X10_isGood_51 p0 p1 ζ y3 σ = fr → gG l g mX10_isGood (rm 5 151) (gZm g (rm 5 151) (fun r h => r = some (.int fr.1) ∧ h = hp fr.2 ζ)) 51 [(0, .ref 199), (1, .int p0), (2, .int p1), (3, .int y3)] [] (hp σ ζ) 0 0 := by
  intro y3 σ hQ hF
  unfold J_X10_isGood_51 at hF
  unfold QJ_X10_isGood_51 at hQ
  refine g_aload_n dX10_isGood_51 rfl rfl rfl ?_
  refine g_iload_n dX10_isGood_52 rfl rfl rfl ?_
  refine g_iload_n dX10_isGood_53 rfl rfl rfl ?_
  refine g_bipush (v := 21) dX10_isGood_54 (by decide) rfl ?_
  refine g_iconst (v := 1) dX10_isGood_56 (by decide) rfl ?_
  have o9 := hQ.1
  replace hQ := hQ.2
  refine g_callv mv_X10_field ml_X10_170 (c_X10_field l g _ _ _ _ o9) (ho_199 _ _) rfl rfl (Nat.le_of_ble_eq_true rfl) (Nat.le_of_ble_eq_true rfl) (Nat.le_of_ble_eq_true rfl) (Nat.le_of_ble_eq_true rfl) rfl (Nat.le_of_ble_eq_true rfl) dX10_isGood_57 rfl (fun r10 hr10 pr10 => ?_)
  obtain ⟨rfl, rfl⟩ := pr10
  refine g_ldc2 kl_X10_174 dX10_isGood_60 rfl ?_
  refine g_lcmp dX10_isGood_63 rfl ?_
  refine g_ifgt (tgt := 83) dX10_isGood_64 (by decide) rfl (fun c11 => ?_) (fun c11 => ?_)
  · replace hF := ite_p hF c11
    try replace hQ := ite_q hQ c11
    refine g_iconst (v := 0) dX10_isGood_83 (by decide) rfl ?_
    subst hF
    exact g_zret rfl dX10_isGood_84 (by decide) (Nat.le_of_ble_eq_true rfl) (Nat.le_of_ble_eq_true rfl) ⟨rfl, rfl⟩
  · replace hF := ite_n hF c11
    try replace hQ := ite_r hQ c11
    refine g_aload_n dX10_isGood_67 rfl rfl rfl ?_
    refine g_iload_n dX10_isGood_68 rfl rfl rfl ?_
    refine g_iload_n dX10_isGood_69 rfl rfl rfl ?_
    refine g_bipush (v := 22) dX10_isGood_70 (by decide) rfl ?_
    refine g_iconst (v := 1) dX10_isGood_72 (by decide) rfl ?_
    have o12 := hQ.1
    replace hQ := hQ.2
    refine g_callv mv_X10_field ml_X10_170 (c_X10_field l g _ _ _ _ o12) (ho_199 _ _) rfl rfl (Nat.le_of_ble_eq_true rfl) (Nat.le_of_ble_eq_true rfl) (Nat.le_of_ble_eq_true rfl) (Nat.le_of_ble_eq_true rfl) rfl (Nat.le_of_ble_eq_true rfl) dX10_isGood_73 rfl (fun r13 hr13 pr13 => ?_)
    obtain ⟨rfl, rfl⟩ := pr13
    refine g_ldc2 kl_X10_176 dX10_isGood_76 rfl ?_
    refine g_lcmp dX10_isGood_79 rfl ?_
    refine g_ifle (tgt := 85) dX10_isGood_80 (by decide) rfl (fun c14 => ?_) (fun c14 => ?_)
    · replace hF := ite_p hF c14
      try replace hQ := ite_q hQ c14
      refine g_sub [0, 1, 2, 3] rfl ?_
      exact j_X10_isGood_85 l g _ _ hQ hF
    · replace hF := ite_n hF c14
      try replace hQ := ite_r hQ c14
      refine g_iconst (v := 0) dX10_isGood_83 (by decide) rfl ?_
      subst hF
      exact g_zret rfl dX10_isGood_84 (by decide) (Nat.le_of_ble_eq_true rfl) (Nat.le_of_ble_eq_true rfl) ⟨rfl, rfl⟩
noncomputable def Fr_X10_isGood (σ : gS) (ζ : gQ) (p0 : Int32) (p1 : Int32) : Int32 × gS :=
  if p0 < 0 then
    ((0 : Int32), σ)
  else
    if (σ 211 (ix (((4 : Int32) * p0) + p1))) = (F_X10_sizeOf p1) then
      if (lg_cmp (F_X10_field σ p0 p1 (0 : Int32) (1 : Int32)) (p1 + (1 : Int32)).toInt64) = 0 then
        if p1 = (1 : Int32) then
          J_X10_isGood_51 p0 p1 ζ (F_X10_sizeOf p1) σ
        else
          if p1 = (3 : Int32) then
            J_X10_isGood_51 p0 p1 ζ (F_X10_sizeOf p1) σ
          else
            J_X10_isGood_85 p0 p1 ζ (F_X10_sizeOf p1) σ
      else
        ((0 : Int32), σ)
    else
      ((0 : Int32), σ)
noncomputable def F_X10_isGood : gS → gQ → Int32 → Int32 → Int32 × gS := Classical.choose (⟨Fr_X10_isGood, rfl⟩ : ∃ f : gS → gQ → Int32 → Int32 → Int32 × gS, f = Fr_X10_isGood)
theorem F_X10_isGood_eq : F_X10_isGood = Fr_X10_isGood := Classical.choose_spec (⟨Fr_X10_isGood, rfl⟩ : ∃ f : gS → gQ → Int32 → Int32 → Int32 × gS, f = Fr_X10_isGood)
def Q_X10_isGood (σ : gS) (ζ : gQ) (p0 : Int32) (p1 : Int32) : Prop :=
  if p0 < 0 then
    (True)
  else
    (vp_in (((4 : Int32) * p0) + p1) 64 ∧ (if (σ 211 (ix (((4 : Int32) * p0) + p1))) = (F_X10_sizeOf p1) then
      ((Q_X10_field σ p0 p1 (0 : Int32) (1 : Int32)) ∧ (if (lg_cmp (F_X10_field σ p0 p1 (0 : Int32) (1 : Int32)) (p1 + (1 : Int32)).toInt64) = 0 then
        (if p1 = (1 : Int32) then
          (QJ_X10_isGood_51 p0 p1 ζ (F_X10_sizeOf p1) σ)
        else
          (if p1 = (3 : Int32) then
            (QJ_X10_isGood_51 p0 p1 ζ (F_X10_sizeOf p1) σ)
          else
            (QJ_X10_isGood_85 p0 p1 ζ (F_X10_sizeOf p1) σ)))
      else
        (True)))
    else
      (True)))
set_option maxHeartbeats 4000000 in
set_option maxRecDepth 100000 in
theorem c_X10_isGood (l : Launch) (g : gE)  {σ : gS} {ζ : gQ} (p0 : Int32) (p1 : Int32) (hQ : Q_X10_isGood σ ζ p0 p1) : gC l g mX10_isGood (rm 5 151) [.ref 199, .int p0, .int p1] (hp σ ζ) (fun r h => r = some (.int (F_X10_isGood σ ζ p0 p1).1) ∧ h = hp (F_X10_isGood σ ζ p0 p1).2 ζ) := by
  refine gC_of (by decide) (Nat.le_of_ble_eq_true rfl) ?_
  generalize hF : (F_X10_isGood σ ζ p0 p1) = fr
  rw [F_X10_isGood_eq] at hF
  unfold Fr_X10_isGood at hF
  unfold Q_X10_isGood at hQ
  refine g_iload_n dX10_isGood_0 rfl rfl rfl ?_
  refine g_calls mt_X10_sizeOf ms_X10_sizeOf ml_X10_166 (c_X10_sizeOf l g _) rfl (Nat.le_of_ble_eq_true rfl) (Nat.le_of_ble_eq_true rfl) (Nat.le_of_ble_eq_true rfl) (Nat.le_of_ble_eq_true rfl) rfl (Nat.le_of_ble_eq_true rfl) dX10_isGood_1 rfl (fun r1 hr1 pr1 => ?_)
  obtain ⟨rfl, rfl⟩ := pr1
  refine g_istoreL_n (L1 := [(0, _), (1, _), (2, _), (3, _)]) dX10_isGood_4 rfl (by decide) rfl rfl ?_
  refine g_iload_n dX10_isGood_5 rfl rfl rfl ?_
  refine g_iflt (tgt := 39) dX10_isGood_6 (by decide) rfl (fun c2 => ?_) (fun c2 => ?_)
  · replace hF := ite_p hF c2
    try replace hQ := ite_q hQ c2
    refine g_iconst (v := 0) dX10_isGood_39 (by decide) rfl ?_
    subst hF
    exact g_zret rfl dX10_isGood_40 (by decide) (Nat.le_of_ble_eq_true rfl) (Nat.le_of_ble_eq_true rfl) ⟨rfl, rfl⟩
  · replace hF := ite_n hF c2
    try replace hQ := ite_r hQ c2
    refine g_aload_n dX10_isGood_9 rfl rfl rfl ?_
    refine g_get gClX10 13 (by decide) fl_X10_44 dX10_isGood_10 (ho_199 _ _) rfl rfl ?_
    refine g_iconst (v := 4) dX10_isGood_13 (by decide) rfl ?_
    refine g_iload_n dX10_isGood_14 rfl rfl rfl ?_
    refine g_imul dX10_isGood_15 rfl ?_
    refine g_iload_n dX10_isGood_16 rfl rfl rfl ?_
    refine g_iadd dX10_isGood_17 rfl ?_
    have o3 := hQ.1
    replace hQ := hQ.2
    refine g_iald (ha_211 _ _) o3 dX10_isGood_18 rfl ?_
    refine g_iload_n dX10_isGood_19 rfl rfl rfl ?_
    refine g_icmpne (tgt := 39) dX10_isGood_20 (by decide) rfl (fun c4 => ?_) (fun c4 => ?_)
    · replace hF := ite_n hF c4
      try replace hQ := ite_r hQ c4
      refine g_iconst (v := 0) dX10_isGood_39 (by decide) rfl ?_
      subst hF
      exact g_zret rfl dX10_isGood_40 (by decide) (Nat.le_of_ble_eq_true rfl) (Nat.le_of_ble_eq_true rfl) ⟨rfl, rfl⟩
    · replace hF := ite_p hF c4
      try replace hQ := ite_q hQ c4
      refine g_aload_n dX10_isGood_23 rfl rfl rfl ?_
      refine g_iload_n dX10_isGood_24 rfl rfl rfl ?_
      refine g_iload_n dX10_isGood_25 rfl rfl rfl ?_
      refine g_iconst (v := 0) dX10_isGood_26 (by decide) rfl ?_
      refine g_iconst (v := 1) dX10_isGood_27 (by decide) rfl ?_
      have o5 := hQ.1
      replace hQ := hQ.2
      refine g_callv mv_X10_field ml_X10_170 (c_X10_field l g _ _ _ _ o5) (ho_199 _ _) rfl rfl (Nat.le_of_ble_eq_true rfl) (Nat.le_of_ble_eq_true rfl) (Nat.le_of_ble_eq_true rfl) (Nat.le_of_ble_eq_true rfl) rfl (Nat.le_of_ble_eq_true rfl) dX10_isGood_28 rfl (fun r6 hr6 pr6 => ?_)
      obtain ⟨rfl, rfl⟩ := pr6
      refine g_iload_n dX10_isGood_31 rfl rfl rfl ?_
      refine g_iconst (v := 1) dX10_isGood_32 (by decide) rfl ?_
      refine g_iadd dX10_isGood_33 rfl ?_
      refine g_i2l dX10_isGood_34 rfl ?_
      refine g_lcmp dX10_isGood_35 rfl ?_
      refine g_ifeq (tgt := 41) dX10_isGood_36 (by decide) rfl (fun c7 => ?_) (fun c7 => ?_)
      · replace hF := ite_p hF c7
        try replace hQ := ite_q hQ c7
        refine g_iload_n dX10_isGood_41 rfl rfl rfl ?_
        refine g_iconst (v := 1) dX10_isGood_42 (by decide) rfl ?_
        refine g_icmpeq (tgt := 51) dX10_isGood_43 (by decide) rfl (fun c8 => ?_) (fun c8 => ?_)
        · replace hF := ite_p hF c8
          try replace hQ := ite_q hQ c8
          refine g_sub [0, 1, 2, 3] rfl ?_
          exact j_X10_isGood_51 l g _ _ hQ hF
        · replace hF := ite_n hF c8
          try replace hQ := ite_r hQ c8
          refine g_iload_n dX10_isGood_46 rfl rfl rfl ?_
          refine g_iconst (v := 3) dX10_isGood_47 (by decide) rfl ?_
          refine g_icmpne (tgt := 85) dX10_isGood_48 (by decide) rfl (fun c44 => ?_) (fun c44 => ?_)
          · replace hF := ite_n hF c44
            try replace hQ := ite_r hQ c44
            refine g_sub [0, 1, 2, 3] rfl ?_
            exact j_X10_isGood_85 l g _ _ hQ hF
          · replace hF := ite_p hF c44
            try replace hQ := ite_q hQ c44
            refine g_sub [0, 1, 2, 3] rfl ?_
            exact j_X10_isGood_51 l g _ _ hQ hF
      · replace hF := ite_n hF c7
        try replace hQ := ite_r hQ c7
        refine g_iconst (v := 0) dX10_isGood_39 (by decide) rfl ?_
        subst hF
        exact g_zret rfl dX10_isGood_40 (by decide) (Nat.le_of_ble_eq_true rfl) (Nat.le_of_ble_eq_true rfl) ⟨rfl, rfl⟩
noncomputable def G_X10_drop_L12 (p0 : Int32) : Nat → Int32 → gS → gS
  | 0, _, σ => σ
  | n + 1, y2, σ =>
    if ((16 : Int32) * (σ 199 29)) ≤ y2 then
      σ
    else
      let s5 := (pf σ 216 (ix y2) (σ 216 (ix (y2 + ((16 : Int32) * p0)))).toInt8.toInt32 : gS)
      G_X10_drop_L12 p0 n (y2 + Int32.ofInt (1)) s5
def QG_X10_drop_L12 (p0 : Int32) : Nat → Int32 → gS → Prop
  | 0, _, _ => False
  | n + 1, y2, σ =>
    if ((16 : Int32) * (σ 199 29)) ≤ y2 then
      (True)
    else
      (vp_in (y2 + ((16 : Int32) * p0)) 1552 ∧ (vp_in y2 1552 ∧ (let s5 := (pf σ 216 (ix y2) (σ 216 (ix (y2 + ((16 : Int32) * p0)))).toInt8.toInt32 : gS)
      QG_X10_drop_L12 p0 n (y2 + Int32.ofInt (1)) s5)))
set_option maxHeartbeats 4000000 in
set_option maxRecDepth 100000 in
theorem t_X10_drop_L12 (l : Launch) (g : gE) {p0 : Int32} {ζ : gQ} {fr : gS} : ∀ (n : Nat) (y2 : Int32) (σ : gS), QG_X10_drop_L12 p0 n y2 σ → G_X10_drop_L12 p0 n y2 σ = fr → gG l g mX10_drop (rm 0 0) (gZm g (rm 0 0) (fun r h => r = none ∧ h = hp fr ζ)) 12 [(0, .ref 199), (1, .int p0), (2, .int y2)] [] (hp σ ζ) 0 0 := by
  intro n
  induction n with
  | zero => intro y2 σ hQ; exact absurd hQ (by unfold QG_X10_drop_L12; exact id)
  | succ n ihL12 =>
    intro y2 σ hQ hF
    unfold G_X10_drop_L12 at hF
    unfold QG_X10_drop_L12 at hQ
    refine g_iload_n dX10_drop_12 rfl rfl rfl ?_
    refine g_bipush (v := 16) dX10_drop_13 (by decide) rfl ?_
    refine g_aload_n dX10_drop_15 rfl rfl rfl ?_
    refine g_get gClX10 29 (by decide) fl_X10_202 dX10_drop_16 (ho_199 _ _) rfl rfl ?_
    refine g_imul dX10_drop_19 rfl ?_
    refine g_icmpge (tgt := 46) dX10_drop_20 (by decide) rfl (fun c2 => ?_) (fun c2 => ?_)
    · replace hF := ite_p hF c2
      try replace hQ := ite_q hQ c2
      subst hF
      exact g_vret rfl dX10_drop_46 (Nat.le_of_ble_eq_true rfl) (Nat.le_of_ble_eq_true rfl) ⟨rfl, rfl⟩
    · replace hF := ite_n hF c2
      try replace hQ := ite_r hQ c2
      refine g_aload_n dX10_drop_23 rfl rfl rfl ?_
      refine g_get gClX10 28 (by decide) fl_X10_60 dX10_drop_24 (ho_199 _ _) rfl rfl ?_
      refine g_iload_n dX10_drop_27 rfl rfl rfl ?_
      refine g_aload_n dX10_drop_28 rfl rfl rfl ?_
      refine g_get gClX10 28 (by decide) fl_X10_60 dX10_drop_29 (ho_199 _ _) rfl rfl ?_
      refine g_iload_n dX10_drop_32 rfl rfl rfl ?_
      refine g_bipush (v := 16) dX10_drop_33 (by decide) rfl ?_
      refine g_iload_n dX10_drop_35 rfl rfl rfl ?_
      refine g_imul dX10_drop_36 rfl ?_
      refine g_iadd dX10_drop_37 rfl ?_
      have o3 := hQ.1
      replace hQ := hQ.2
      refine g_bald (ha_216 _ _) o3 dX10_drop_38 rfl ?_
      have o4 := hQ.1
      replace hQ := hQ.2
      refine g_bast (ha_216 _ _) o4 pa_216 dX10_drop_39 rfl ?_
      refine g_iincL (L1 := [(0, _), (1, _), (2, _)]) dX10_drop_40 rfl (by decide) rfl rfl ?_
      refine g_goto (tgt := 12) dX10_drop_43 (by decide) ?_
      refine g_sub [0, 1, 2] rfl ?_
      exact ihL12 _ _ hQ hF
noncomputable def Fr_X10_drop (σ : gS) (p0 : Int32) : gS :=
  let s1 := (pf σ 199 29 ((σ 199 29) - p0) : gS)
  G_X10_drop_L12 p0 4000 (0 : Int32) s1
noncomputable def F_X10_drop : gS → Int32 → gS := Classical.choose (⟨Fr_X10_drop, rfl⟩ : ∃ f : gS → Int32 → gS, f = Fr_X10_drop)
theorem F_X10_drop_eq : F_X10_drop = Fr_X10_drop := Classical.choose_spec (⟨Fr_X10_drop, rfl⟩ : ∃ f : gS → Int32 → gS, f = Fr_X10_drop)
def Q_X10_drop (σ : gS) (p0 : Int32) : Prop :=
  let s1 := (pf σ 199 29 ((σ 199 29) - p0) : gS)
  QG_X10_drop_L12 p0 4000 (0 : Int32) s1
set_option maxHeartbeats 4000000 in
set_option maxRecDepth 100000 in
theorem c_X10_drop (l : Launch) (g : gE)  {σ : gS} {ζ : gQ} (p0 : Int32) (hQ : Q_X10_drop σ p0) : gC l g mX10_drop (rm 0 0) [.ref 199, .int p0] (hp σ ζ) (fun r h => r = none ∧ h = hp (F_X10_drop σ p0) ζ) := by
  refine gC_of (by decide) (Nat.le_of_ble_eq_true rfl) ?_
  generalize hF : (F_X10_drop σ p0) = fr
  rw [F_X10_drop_eq] at hF
  unfold Fr_X10_drop at hF
  unfold Q_X10_drop at hQ
  refine g_aload_n dX10_drop_0 rfl rfl rfl ?_
  refine g_dup dX10_drop_1 rfl rfl ?_
  refine g_get gClX10 29 (by decide) fl_X10_202 dX10_drop_2 (ho_199 _ _) rfl rfl ?_
  refine g_iload_n dX10_drop_5 rfl rfl rfl ?_
  refine g_isub dX10_drop_6 rfl ?_
  refine g_put gClX10 29 (by decide) fl_X10_202 rfl dX10_drop_7 (ho_199 _ _) rfl rfl (Nat.le_of_ble_eq_true rfl) po_199_29 rfl ?_
  refine g_iconst (v := 0) dX10_drop_10 (by decide) rfl ?_
  refine g_istoreL_n (L1 := [(0, _), (1, _), (2, _)]) dX10_drop_11 rfl (by decide) rfl rfl ?_
  refine g_sub [0, 1, 2] rfl ?_
  exact t_X10_drop_L12 l g 4000 _ _ hQ hF
noncomputable def G_X10_write_L3 (p0 : Int32) (p1 : Int64) (p2 : Int32) : Nat → Int32 → gS → gS
  | 0, _, σ => σ
  | n + 1, y5, σ =>
    if p2 ≤ y5 then
      σ
    else
      let s3 := (pf σ 216 (ix ((((16 : Int32) * (σ 199 29)) + p0) + y5)) (ushl p1 ((8 : Int32) * ((p2 - (1 : Int32)) - y5))).toInt32.toInt8.toInt32.toInt8.toInt32 : gS)
      G_X10_write_L3 p0 p1 p2 n (y5 + Int32.ofInt (1)) s3
def QG_X10_write_L3 (p0 : Int32) (p1 : Int64) (p2 : Int32) : Nat → Int32 → gS → Prop
  | 0, _, _ => False
  | n + 1, y5, σ =>
    if p2 ≤ y5 then
      (True)
    else
      (vp_in ((((16 : Int32) * (σ 199 29)) + p0) + y5) 1552 ∧ (let s3 := (pf σ 216 (ix ((((16 : Int32) * (σ 199 29)) + p0) + y5)) (ushl p1 ((8 : Int32) * ((p2 - (1 : Int32)) - y5))).toInt32.toInt8.toInt32.toInt8.toInt32 : gS)
      QG_X10_write_L3 p0 p1 p2 n (y5 + Int32.ofInt (1)) s3))
set_option maxHeartbeats 4000000 in
set_option maxRecDepth 100000 in
theorem t_X10_write_L3 (l : Launch) (g : gE) {p0 : Int32} {p1 : Int64} {p2 : Int32} {ζ : gQ} {fr : gS} : ∀ (n : Nat) (y5 : Int32) (σ : gS), QG_X10_write_L3 p0 p1 p2 n y5 σ → G_X10_write_L3 p0 p1 p2 n y5 σ = fr → gG l g mX10_write (rm 0 0) (gZm g (rm 0 0) (fun r h => r = none ∧ h = hp fr ζ)) 3 [(0, .ref 199), (1, .int p0), (2, .long p1), (4, .int p2), (5, .int y5)] [] (hp σ ζ) 0 0 := by
  intro n
  induction n with
  | zero => intro y5 σ hQ; exact absurd hQ (by unfold QG_X10_write_L3; exact id)
  | succ n ihL3 =>
    intro y5 σ hQ hF
    unfold G_X10_write_L3 at hF
    unfold QG_X10_write_L3 at hQ
    refine g_iload dX10_write_3 rfl rfl ?_
    refine g_iload dX10_write_5 rfl rfl ?_
    refine g_icmpge (tgt := 47) dX10_write_7 (by decide) rfl (fun c1 => ?_) (fun c1 => ?_)
    · replace hF := ite_p hF c1
      try replace hQ := ite_q hQ c1
      subst hF
      exact g_vret rfl dX10_write_47 (Nat.le_of_ble_eq_true rfl) (Nat.le_of_ble_eq_true rfl) ⟨rfl, rfl⟩
    · replace hF := ite_n hF c1
      try replace hQ := ite_r hQ c1
      refine g_aload_n dX10_write_10 rfl rfl rfl ?_
      refine g_get gClX10 28 (by decide) fl_X10_60 dX10_write_11 (ho_199 _ _) rfl rfl ?_
      refine g_bipush (v := 16) dX10_write_14 (by decide) rfl ?_
      refine g_aload_n dX10_write_16 rfl rfl rfl ?_
      refine g_get gClX10 29 (by decide) fl_X10_202 dX10_write_17 (ho_199 _ _) rfl rfl ?_
      refine g_imul dX10_write_20 rfl ?_
      refine g_iload_n dX10_write_21 rfl rfl rfl ?_
      refine g_iadd dX10_write_22 rfl ?_
      refine g_iload dX10_write_23 rfl rfl ?_
      refine g_iadd dX10_write_25 rfl ?_
      refine g_lload_n dX10_write_26 rfl rfl rfl ?_
      refine g_bipush (v := 8) dX10_write_27 (by decide) rfl ?_
      refine g_iload dX10_write_29 rfl rfl ?_
      refine g_iconst (v := 1) dX10_write_31 (by decide) rfl ?_
      refine g_isub dX10_write_32 rfl ?_
      refine g_iload dX10_write_33 rfl rfl ?_
      refine g_isub dX10_write_35 rfl ?_
      refine g_imul dX10_write_36 rfl ?_
      refine g_lushr dX10_write_37 rfl ?_
      refine g_l2i dX10_write_38 rfl ?_
      refine g_i2b dX10_write_39 rfl ?_
      have o2 := hQ.1
      replace hQ := hQ.2
      refine g_bast (ha_216 _ _) o2 pa_216 dX10_write_40 rfl ?_
      refine g_iincL (L1 := [(0, _), (1, _), (2, _), (4, _), (5, _)]) dX10_write_41 rfl (by decide) rfl rfl ?_
      refine g_goto (tgt := 3) dX10_write_44 (by decide) ?_
      refine g_sub [0, 1, 2, 3, 4] rfl ?_
      exact ihL3 _ _ hQ hF
noncomputable def Fr_X10_write (σ : gS) (p0 : Int32) (p1 : Int64) (p2 : Int32) : gS :=
  G_X10_write_L3 p0 p1 p2 4000 (0 : Int32) σ
noncomputable def F_X10_write : gS → Int32 → Int64 → Int32 → gS := Classical.choose (⟨Fr_X10_write, rfl⟩ : ∃ f : gS → Int32 → Int64 → Int32 → gS, f = Fr_X10_write)
theorem F_X10_write_eq : F_X10_write = Fr_X10_write := Classical.choose_spec (⟨Fr_X10_write, rfl⟩ : ∃ f : gS → Int32 → Int64 → Int32 → gS, f = Fr_X10_write)
def Q_X10_write (σ : gS) (p0 : Int32) (p1 : Int64) (p2 : Int32) : Prop :=
  QG_X10_write_L3 p0 p1 p2 4000 (0 : Int32) σ
set_option maxHeartbeats 4000000 in
set_option maxRecDepth 100000 in
theorem c_X10_write (l : Launch) (g : gE)  {σ : gS} {ζ : gQ} (p0 : Int32) (p1 : Int64) (p2 : Int32) (hQ : Q_X10_write σ p0 p1 p2) : gC l g mX10_write (rm 0 0) [.ref 199, .int p0, .long p1, .int p2] (hp σ ζ) (fun r h => r = none ∧ h = hp (F_X10_write σ p0 p1 p2) ζ) := by
  refine gC_of (by decide) (Nat.le_of_ble_eq_true rfl) ?_
  generalize hF : (F_X10_write σ p0 p1 p2) = fr
  rw [F_X10_write_eq] at hF
  unfold Fr_X10_write at hF
  unfold Q_X10_write at hQ
  refine g_iconst (v := 0) dX10_write_0 (by decide) rfl ?_
  refine g_istoreL (L1 := [(0, _), (1, _), (2, _), (4, _), (5, _)]) dX10_write_1 (by decide) rfl rfl ?_
  refine g_sub [0, 1, 2, 3, 4] rfl ?_
  exact t_X10_write_L3 l g 4000 _ _ hQ hF
noncomputable def J_X10_lay__53 (p0 : Int32) (p1 : Int32) (p2 : Int32) (p3 : Int64) (u0 : Int32) (u1 : Int64) (σ : gS) (ζ : gQ) : gS × gQ :=
  let s16 := (F_X10_write σ u0 u1 (1 : Int32))
  let s19 := (F_X10_write s16 (11 : Int32) (0 : Int64) (1 : Int32))
  let s22 := (F_X10_write s19 (12 : Int32) p3 (4 : Int32))
  let z23 := (vp_updL ζ 30 ((ζ 30) + (1 : Int64)) : gQ)
  let s24 := (pf s22 199 29 ((s22 199 29) + (1 : Int32)) : gS)
  (s24, z23)
def QJ_X10_lay__53 (p0 : Int32) (p1 : Int32) (p2 : Int32) (p3 : Int64) (u0 : Int32) (u1 : Int64) (σ : gS) (ζ : gQ) : Prop :=
  (Q_X10_write σ u0 u1 (1 : Int32)) ∧ (let s16 := (F_X10_write σ u0 u1 (1 : Int32))
  (Q_X10_write s16 (11 : Int32) (0 : Int64) (1 : Int32)) ∧ (let s19 := (F_X10_write s16 (11 : Int32) (0 : Int64) (1 : Int32))
  (Q_X10_write s19 (12 : Int32) p3 (4 : Int32)) ∧ (let s22 := (F_X10_write s19 (12 : Int32) p3 (4 : Int32))
  let z23 := (vp_updL ζ 30 ((ζ 30) + (1 : Int64)) : gQ)
  let s24 := (pf s22 199 29 ((s22 199 29) + (1 : Int32)) : gS)
  True)))
set_option maxHeartbeats 4000000 in
set_option maxRecDepth 100000 in
theorem j_X10_lay__53 (l : Launch) (g : gE) {p0 : Int32} {p1 : Int32} {p2 : Int32} {p3 : Int64} {fr : gS × gQ} : ∀ (u0 : Int32) (u1 : Int64) (σ : gS) (ζ : gQ), QJ_X10_lay__53 p0 p1 p2 p3 u0 u1 σ ζ → J_X10_lay__53 p0 p1 p2 p3 u0 u1 σ ζ = fr → gG l g mX10_lay_ (rm 1 25) (gZm g (rm 1 25) (fun r h => r = none ∧ h = hp fr.1 fr.2)) 53 [(0, .ref 199), (4, .long p3)] [.long u1, .int u0, .ref 199] (hp σ ζ) 0 0 := by
  intro u0 u1 σ ζ hQ hF
  unfold J_X10_lay__53 at hF
  unfold QJ_X10_lay__53 at hQ
  refine g_iconst (v := 1) dX10_lay__53 (by decide) rfl ?_
  have o14 := hQ.1
  replace hQ := hQ.2
  refine g_callv mv_X10_write ml_X10_205 (c_X10_write l g _ _ _ o14) (ho_199 _ _) rfl rfl (Nat.le_of_ble_eq_true rfl) (Nat.le_of_ble_eq_true rfl) (Nat.le_of_ble_eq_true rfl) (Nat.le_of_ble_eq_true rfl) rfl (Nat.le_of_ble_eq_true rfl) dX10_lay__54 rfl (fun r15 hr15 pr15 => ?_)
  obtain ⟨rfl, rfl⟩ := pr15
  refine g_aload_n dX10_lay__57 rfl rfl rfl ?_
  refine g_bipush (v := 11) dX10_lay__58 (by decide) rfl ?_
  refine g_lconst (v := 0) dX10_lay__60 (by decide) rfl ?_
  refine g_iconst (v := 1) dX10_lay__61 (by decide) rfl ?_
  have o17 := hQ.1
  replace hQ := hQ.2
  refine g_callv mv_X10_write ml_X10_205 (c_X10_write l g _ _ _ o17) (ho_199 _ _) rfl rfl (Nat.le_of_ble_eq_true rfl) (Nat.le_of_ble_eq_true rfl) (Nat.le_of_ble_eq_true rfl) (Nat.le_of_ble_eq_true rfl) rfl (Nat.le_of_ble_eq_true rfl) dX10_lay__62 rfl (fun r18 hr18 pr18 => ?_)
  obtain ⟨rfl, rfl⟩ := pr18
  refine g_aload_n dX10_lay__65 rfl rfl rfl ?_
  refine g_bipush (v := 12) dX10_lay__66 (by decide) rfl ?_
  refine g_lload dX10_lay__68 rfl rfl ?_
  refine g_iconst (v := 4) dX10_lay__70 (by decide) rfl ?_
  have o20 := hQ.1
  replace hQ := hQ.2
  refine g_callv mv_X10_write ml_X10_205 (c_X10_write l g _ _ _ o20) (ho_199 _ _) rfl rfl (Nat.le_of_ble_eq_true rfl) (Nat.le_of_ble_eq_true rfl) (Nat.le_of_ble_eq_true rfl) (Nat.le_of_ble_eq_true rfl) rfl (Nat.le_of_ble_eq_true rfl) dX10_lay__71 rfl (fun r21 hr21 pr21 => ?_)
  obtain ⟨rfl, rfl⟩ := pr21
  refine g_aload_n dX10_lay__74 rfl rfl rfl ?_
  refine g_dup dX10_lay__75 rfl rfl ?_
  refine g_get gClX10 30 (by decide) fl_X10_100 dX10_lay__76 (ho_199 _ _) rfl rfl ?_
  refine g_lconst (v := 1) dX10_lay__79 (by decide) rfl ?_
  refine g_ladd dX10_lay__80 rfl ?_
  refine g_put gClX10 30 (by decide) fl_X10_100 rfl dX10_lay__81 (ho_199 _ _) rfl rfl (Nat.le_of_ble_eq_true rfl) pz_30 rfl ?_
  refine g_aload_n dX10_lay__84 rfl rfl rfl ?_
  refine g_dup dX10_lay__85 rfl rfl ?_
  refine g_get gClX10 29 (by decide) fl_X10_202 dX10_lay__86 (ho_199 _ _) rfl rfl ?_
  refine g_iconst (v := 1) dX10_lay__89 (by decide) rfl ?_
  refine g_iadd dX10_lay__90 rfl ?_
  refine g_put gClX10 29 (by decide) fl_X10_202 rfl dX10_lay__91 (ho_199 _ _) rfl rfl (Nat.le_of_ble_eq_true rfl) po_199_29 rfl ?_
  subst hF
  exact g_vret rfl dX10_lay__94 (Nat.le_of_ble_eq_true rfl) (Nat.le_of_ble_eq_true rfl) ⟨rfl, rfl⟩
noncomputable def Fr_X10_lay_ (σ : gS) (ζ : gQ) (p0 : Int32) (p1 : Int32) (p2 : Int32) (p3 : Int64) : gS × gQ :=
  let s3 := (F_X10_write σ (0 : Int32) (ζ 30) (4 : Int32))
  let s6 := (F_X10_write s3 (4 : Int32) (ζ 19) (4 : Int32))
  let s9 := (F_X10_write s6 (8 : Int32) p0.toInt64 (1 : Int32))
  let s12 := (F_X10_write s9 (9 : Int32) p1.toInt64 (1 : Int32))
  if 0 ≤ p2 then
    J_X10_lay__53 p0 p1 p2 p3 (10 : Int32) p2.toInt64 s12 ζ
  else
    J_X10_lay__53 p0 p1 p2 p3 (10 : Int32) (255 : Int64) s12 ζ
noncomputable def F_X10_lay_ : gS → gQ → Int32 → Int32 → Int32 → Int64 → gS × gQ := Classical.choose (⟨Fr_X10_lay_, rfl⟩ : ∃ f : gS → gQ → Int32 → Int32 → Int32 → Int64 → gS × gQ, f = Fr_X10_lay_)
theorem F_X10_lay__eq : F_X10_lay_ = Fr_X10_lay_ := Classical.choose_spec (⟨Fr_X10_lay_, rfl⟩ : ∃ f : gS → gQ → Int32 → Int32 → Int32 → Int64 → gS × gQ, f = Fr_X10_lay_)
def Q_X10_lay_ (σ : gS) (ζ : gQ) (p0 : Int32) (p1 : Int32) (p2 : Int32) (p3 : Int64) : Prop :=
  (Q_X10_write σ (0 : Int32) (ζ 30) (4 : Int32)) ∧ (let s3 := (F_X10_write σ (0 : Int32) (ζ 30) (4 : Int32))
  (Q_X10_write s3 (4 : Int32) (ζ 19) (4 : Int32)) ∧ (let s6 := (F_X10_write s3 (4 : Int32) (ζ 19) (4 : Int32))
  (Q_X10_write s6 (8 : Int32) p0.toInt64 (1 : Int32)) ∧ (let s9 := (F_X10_write s6 (8 : Int32) p0.toInt64 (1 : Int32))
  (Q_X10_write s9 (9 : Int32) p1.toInt64 (1 : Int32)) ∧ (let s12 := (F_X10_write s9 (9 : Int32) p1.toInt64 (1 : Int32))
  if 0 ≤ p2 then
    (QJ_X10_lay__53 p0 p1 p2 p3 (10 : Int32) p2.toInt64 s12 ζ)
  else
    (QJ_X10_lay__53 p0 p1 p2 p3 (10 : Int32) (255 : Int64) s12 ζ)))))
set_option maxHeartbeats 4000000 in
set_option maxRecDepth 100000 in
theorem c_X10_lay_ (l : Launch) (g : gE)  {σ : gS} {ζ : gQ} (p0 : Int32) (p1 : Int32) (p2 : Int32) (p3 : Int64) (hQ : Q_X10_lay_ σ ζ p0 p1 p2 p3) : gC l g mX10_lay_ (rm 1 25) [.ref 199, .int p0, .int p1, .int p2, .long p3] (hp σ ζ) (fun r h => r = none ∧ h = hp (F_X10_lay_ σ ζ p0 p1 p2 p3).1 (F_X10_lay_ σ ζ p0 p1 p2 p3).2) := by
  refine gC_of (by decide) (Nat.le_of_ble_eq_true rfl) ?_
  generalize hF : (F_X10_lay_ σ ζ p0 p1 p2 p3) = fr
  rw [F_X10_lay__eq] at hF
  unfold Fr_X10_lay_ at hF
  unfold Q_X10_lay_ at hQ
  refine g_aload_n dX10_lay__0 rfl rfl rfl ?_
  refine g_iconst (v := 0) dX10_lay__1 (by decide) rfl ?_
  refine g_aload_n dX10_lay__2 rfl rfl rfl ?_
  refine g_get gClX10 30 (by decide) fl_X10_100 dX10_lay__3 (ho_199 _ _) rfl rfl ?_
  refine g_iconst (v := 4) dX10_lay__6 (by decide) rfl ?_
  have o1 := hQ.1
  replace hQ := hQ.2
  refine g_callv mv_X10_write ml_X10_205 (c_X10_write l g _ _ _ o1) (ho_199 _ _) rfl rfl (Nat.le_of_ble_eq_true rfl) (Nat.le_of_ble_eq_true rfl) (Nat.le_of_ble_eq_true rfl) (Nat.le_of_ble_eq_true rfl) rfl (Nat.le_of_ble_eq_true rfl) dX10_lay__7 rfl (fun r2 hr2 pr2 => ?_)
  obtain ⟨rfl, rfl⟩ := pr2
  refine g_aload_n dX10_lay__10 rfl rfl rfl ?_
  refine g_iconst (v := 4) dX10_lay__11 (by decide) rfl ?_
  refine g_aload_n dX10_lay__12 rfl rfl rfl ?_
  refine g_get gClX10 19 (by decide) fl_X10_182 dX10_lay__13 (ho_199 _ _) rfl rfl ?_
  refine g_iconst (v := 4) dX10_lay__16 (by decide) rfl ?_
  have o4 := hQ.1
  replace hQ := hQ.2
  refine g_callv mv_X10_write ml_X10_205 (c_X10_write l g _ _ _ o4) (ho_199 _ _) rfl rfl (Nat.le_of_ble_eq_true rfl) (Nat.le_of_ble_eq_true rfl) (Nat.le_of_ble_eq_true rfl) (Nat.le_of_ble_eq_true rfl) rfl (Nat.le_of_ble_eq_true rfl) dX10_lay__17 rfl (fun r5 hr5 pr5 => ?_)
  obtain ⟨rfl, rfl⟩ := pr5
  refine g_aload_n dX10_lay__20 rfl rfl rfl ?_
  refine g_bipush (v := 8) dX10_lay__21 (by decide) rfl ?_
  refine g_iload_n dX10_lay__23 rfl rfl rfl ?_
  refine g_i2l dX10_lay__24 rfl ?_
  refine g_iconst (v := 1) dX10_lay__25 (by decide) rfl ?_
  have o7 := hQ.1
  replace hQ := hQ.2
  refine g_callv mv_X10_write ml_X10_205 (c_X10_write l g _ _ _ o7) (ho_199 _ _) rfl rfl (Nat.le_of_ble_eq_true rfl) (Nat.le_of_ble_eq_true rfl) (Nat.le_of_ble_eq_true rfl) (Nat.le_of_ble_eq_true rfl) rfl (Nat.le_of_ble_eq_true rfl) dX10_lay__26 rfl (fun r8 hr8 pr8 => ?_)
  obtain ⟨rfl, rfl⟩ := pr8
  refine g_aload_n dX10_lay__29 rfl rfl rfl ?_
  refine g_bipush (v := 9) dX10_lay__30 (by decide) rfl ?_
  refine g_iload_n dX10_lay__32 rfl rfl rfl ?_
  refine g_i2l dX10_lay__33 rfl ?_
  refine g_iconst (v := 1) dX10_lay__34 (by decide) rfl ?_
  have o10 := hQ.1
  replace hQ := hQ.2
  refine g_callv mv_X10_write ml_X10_205 (c_X10_write l g _ _ _ o10) (ho_199 _ _) rfl rfl (Nat.le_of_ble_eq_true rfl) (Nat.le_of_ble_eq_true rfl) (Nat.le_of_ble_eq_true rfl) (Nat.le_of_ble_eq_true rfl) rfl (Nat.le_of_ble_eq_true rfl) dX10_lay__35 rfl (fun r11 hr11 pr11 => ?_)
  obtain ⟨rfl, rfl⟩ := pr11
  refine g_aload_n dX10_lay__38 rfl rfl rfl ?_
  refine g_bipush (v := 10) dX10_lay__39 (by decide) rfl ?_
  refine g_iload_n dX10_lay__41 rfl rfl rfl ?_
  refine g_ifge (tgt := 51) dX10_lay__42 (by decide) rfl (fun c13 => ?_) (fun c13 => ?_)
  · replace hF := ite_p hF c13
    try replace hQ := ite_q hQ c13
    refine g_iload_n dX10_lay__51 rfl rfl rfl ?_
    refine g_i2l dX10_lay__52 rfl ?_
    refine g_sub [0, 4] rfl ?_
    exact j_X10_lay__53 l g _ _ _ _ hQ hF
  · replace hF := ite_n hF c13
    try replace hQ := ite_r hQ c13
    refine g_ldc2 kl_X10_161 dX10_lay__45 rfl ?_
    refine g_goto (tgt := 53) dX10_lay__48 (by decide) ?_
    refine g_sub [0, 4] rfl ?_
    exact j_X10_lay__53 l g _ _ _ _ hQ hF
noncomputable def Fr_X10_count (σ : gS)  : gS :=
  let s1 := (pf σ 199 32 ((σ 199 32) + (1 : Int32)) : gS)
  if (s1 199 27) < 0 then
    s1
  else
    if (s1 199 32) < (s1 199 27) then
      s1
    else
      let s4 := (pf s1 199 33 (1 : Int32) : gS)
      s4
noncomputable def F_X10_count : gS → gS := Classical.choose (⟨Fr_X10_count, rfl⟩ : ∃ f : gS → gS, f = Fr_X10_count)
theorem F_X10_count_eq : F_X10_count = Fr_X10_count := Classical.choose_spec (⟨Fr_X10_count, rfl⟩ : ∃ f : gS → gS, f = Fr_X10_count)
set_option maxHeartbeats 4000000 in
set_option maxRecDepth 100000 in
theorem c_X10_count (l : Launch) (g : gE)  {σ : gS} {ζ : gQ}  : gC l g mX10_count (rm 0 0) [.ref 199] (hp σ ζ) (fun r h => r = none ∧ h = hp (F_X10_count σ ) ζ) := by
  refine gC_of (by decide) (Nat.le_of_ble_eq_true rfl) ?_
  generalize hF : (F_X10_count σ ) = fr
  rw [F_X10_count_eq] at hF
  unfold Fr_X10_count at hF
  refine g_aload_n dX10_count_0 rfl rfl rfl ?_
  refine g_dup dX10_count_1 rfl rfl ?_
  refine g_get gClX10 32 (by decide) fl_X10_209 dX10_count_2 (ho_199 _ _) rfl rfl ?_
  refine g_iconst (v := 1) dX10_count_5 (by decide) rfl ?_
  refine g_iadd dX10_count_6 rfl ?_
  refine g_put gClX10 32 (by decide) fl_X10_209 rfl dX10_count_7 (ho_199 _ _) rfl rfl (Nat.le_of_ble_eq_true rfl) po_199_32 rfl ?_
  refine g_aload_n dX10_count_10 rfl rfl rfl ?_
  refine g_get gClX10 27 (by decide) fl_X10_97 dX10_count_11 (ho_199 _ _) rfl rfl ?_
  refine g_iflt (tgt := 33) dX10_count_14 (by decide) rfl (fun c2 => ?_) (fun c2 => ?_)
  · replace hF := ite_p hF c2
    subst hF
    exact g_vret rfl dX10_count_33 (Nat.le_of_ble_eq_true rfl) (Nat.le_of_ble_eq_true rfl) ⟨rfl, rfl⟩
  · replace hF := ite_n hF c2
    refine g_aload_n dX10_count_17 rfl rfl rfl ?_
    refine g_get gClX10 32 (by decide) fl_X10_209 dX10_count_18 (ho_199 _ _) rfl rfl ?_
    refine g_aload_n dX10_count_21 rfl rfl rfl ?_
    refine g_get gClX10 27 (by decide) fl_X10_97 dX10_count_22 (ho_199 _ _) rfl rfl ?_
    refine g_icmplt (tgt := 33) dX10_count_25 (by decide) rfl (fun c3 => ?_) (fun c3 => ?_)
    · replace hF := ite_p hF c3
      subst hF
      exact g_vret rfl dX10_count_33 (Nat.le_of_ble_eq_true rfl) (Nat.le_of_ble_eq_true rfl) ⟨rfl, rfl⟩
    · replace hF := ite_n hF c3
      refine g_aload_n dX10_count_28 rfl rfl rfl ?_
      refine g_iconst (v := 1) dX10_count_29 (by decide) rfl ?_
      refine g_put gClX10 33 (by decide) fl_X10_212 rfl dX10_count_30 (ho_199 _ _) rfl rfl (Nat.le_of_ble_eq_true rfl) po_199_33 rfl ?_
      subst hF
      exact g_vret rfl dX10_count_33 (Nat.le_of_ble_eq_true rfl) (Nat.le_of_ble_eq_true rfl) ⟨rfl, rfl⟩
noncomputable def J_X10_put__78 (p0 : Int32) (p1 : Int32) (p2 : Int32) (y4 : Int64) (σ : gS) (ζ : gQ) : Int32 × gS × gQ :=
  let f6 := (F_X10_lay_ σ ζ p0 p1 p2 y4)
  let s8 := (F_X10_count f6.1 )
  ((1 : Int32), s8, f6.2)
def QJ_X10_put__78 (p0 : Int32) (p1 : Int32) (p2 : Int32) (y4 : Int64) (σ : gS) (ζ : gQ) : Prop :=
  (Q_X10_lay_ σ ζ p0 p1 p2 y4) ∧ (let f6 := (F_X10_lay_ σ ζ p0 p1 p2 y4)
  let s8 := (F_X10_count f6.1 )
  True)
set_option maxHeartbeats 4000000 in
set_option maxRecDepth 100000 in
theorem j_X10_put__78 (l : Launch) (g : gE) {p0 : Int32} {p1 : Int32} {p2 : Int32} {fr : Int32 × gS × gQ} : ∀ (y4 : Int64) (σ : gS) (ζ : gQ), QJ_X10_put__78 p0 p1 p2 y4 σ ζ → J_X10_put__78 p0 p1 p2 y4 σ ζ = fr → gG l g mX10_put_ (rm 6 178) (gZm g (rm 6 178) (fun r h => r = some (.int fr.1) ∧ h = hp fr.2.1 fr.2.2)) 78 [(0, .ref 199), (1, .int p0), (2, .int p1), (3, .int p2), (4, .long y4)] [] (hp σ ζ) 0 0 := by
  intro y4 σ ζ hQ hF
  unfold J_X10_put__78 at hF
  unfold QJ_X10_put__78 at hQ
  refine g_aload_n dX10_put__78 rfl rfl rfl ?_
  refine g_iload_n dX10_put__79 rfl rfl rfl ?_
  refine g_iload_n dX10_put__80 rfl rfl rfl ?_
  refine g_iload_n dX10_put__81 rfl rfl rfl ?_
  refine g_lload dX10_put__82 rfl rfl ?_
  have o4 := hQ.1
  replace hQ := hQ.2
  refine g_callv mv_X10_lay_ ml_X10_218 (c_X10_lay_ l g _ _ _ _ o4) (ho_199 _ _) rfl rfl (Nat.le_of_ble_eq_true rfl) (Nat.le_of_ble_eq_true rfl) (Nat.le_of_ble_eq_true rfl) (Nat.le_of_ble_eq_true rfl) rfl (Nat.le_of_ble_eq_true rfl) dX10_put__84 rfl (fun r5 hr5 pr5 => ?_)
  obtain ⟨rfl, rfl⟩ := pr5
  refine g_aload_n dX10_put__87 rfl rfl rfl ?_
  refine g_callv mv_X10_count ml_X10_224 (c_X10_count l g) (ho_199 _ _) rfl rfl (Nat.le_of_ble_eq_true rfl) (Nat.le_of_ble_eq_true rfl) (Nat.le_of_ble_eq_true rfl) (Nat.le_of_ble_eq_true rfl) rfl (Nat.le_of_ble_eq_true rfl) dX10_put__88 rfl (fun r7 hr7 pr7 => ?_)
  obtain ⟨rfl, rfl⟩ := pr7
  refine g_iconst (v := 1) dX10_put__91 (by decide) rfl ?_
  subst hF
  exact g_zret rfl dX10_put__92 (by decide) (Nat.le_of_ble_eq_true rfl) (Nat.le_of_ble_eq_true rfl) ⟨rfl, rfl⟩
noncomputable def J_X10_put__34 (p0 : Int32) (p1 : Int32) (p2 : Int32) (u0 : Int64) (σ : gS) (ζ : gQ) : Int32 × gS × gQ :=
  if (σ 199 29) = (96 : Int32) then
    let s11 := (F_X10_drop σ (8 : Int32))
    let f14 := (F_X10_lay_ s11 ζ (30 : Int32) (2 : Int32) (-1 : Int32) (0 : Int64))
    let s15 := (pf f14.1 199 31 (1 : Int32) : gS)
    let s17 := (F_X10_count s15 )
    if (s17 199 33) = 0 then
      J_X10_put__78 p0 p1 p2 u0 s17 f14.2
    else
      ((0 : Int32), s17, f14.2)
  else
    J_X10_put__78 p0 p1 p2 u0 σ ζ
def QJ_X10_put__34 (p0 : Int32) (p1 : Int32) (p2 : Int32) (u0 : Int64) (σ : gS) (ζ : gQ) : Prop :=
  if (σ 199 29) = (96 : Int32) then
    ((Q_X10_drop σ (8 : Int32)) ∧ (let s11 := (F_X10_drop σ (8 : Int32))
    (Q_X10_lay_ s11 ζ (30 : Int32) (2 : Int32) (-1 : Int32) (0 : Int64)) ∧ (let f14 := (F_X10_lay_ s11 ζ (30 : Int32) (2 : Int32) (-1 : Int32) (0 : Int64))
    let s15 := (pf f14.1 199 31 (1 : Int32) : gS)
    let s17 := (F_X10_count s15 )
    if (s17 199 33) = 0 then
      (QJ_X10_put__78 p0 p1 p2 u0 s17 f14.2)
    else
      (True))))
  else
    (QJ_X10_put__78 p0 p1 p2 u0 σ ζ)
set_option maxHeartbeats 4000000 in
set_option maxRecDepth 100000 in
theorem j_X10_put__34 (l : Launch) (g : gE) {p0 : Int32} {p1 : Int32} {p2 : Int32} {fr : Int32 × gS × gQ} : ∀ (u0 : Int64) (σ : gS) (ζ : gQ), QJ_X10_put__34 p0 p1 p2 u0 σ ζ → J_X10_put__34 p0 p1 p2 u0 σ ζ = fr → gG l g mX10_put_ (rm 6 178) (gZm g (rm 6 178) (fun r h => r = some (.int fr.1) ∧ h = hp fr.2.1 fr.2.2)) 34 [(0, .ref 199), (1, .int p0), (2, .int p1), (3, .int p2)] [.long u0] (hp σ ζ) 0 0 := by
  intro u0 σ ζ hQ hF
  unfold J_X10_put__34 at hF
  unfold QJ_X10_put__34 at hQ
  refine g_lstoreL (L1 := [(0, _), (1, _), (2, _), (3, _), (4, _)]) dX10_put__34 (by decide) rfl rfl ?_
  refine g_aload_n dX10_put__36 rfl rfl rfl ?_
  refine g_get gClX10 29 (by decide) fl_X10_202 dX10_put__37 (ho_199 _ _) rfl rfl ?_
  refine g_bipush (v := 96) dX10_put__40 (by decide) rfl ?_
  refine g_icmpne (tgt := 78) dX10_put__42 (by decide) rfl (fun c3 => ?_) (fun c3 => ?_)
  · replace hF := ite_n hF c3
    try replace hQ := ite_r hQ c3
    refine g_sub [0, 1, 2, 3, 4] rfl ?_
    exact j_X10_put__78 l g _ _ _ hQ hF
  · replace hF := ite_p hF c3
    try replace hQ := ite_q hQ c3
    refine g_aload_n dX10_put__45 rfl rfl rfl ?_
    refine g_bipush (v := 8) dX10_put__46 (by decide) rfl ?_
    have o9 := hQ.1
    replace hQ := hQ.2
    refine g_callv mv_X10_drop ml_X10_215 (c_X10_drop l g _ o9) (ho_199 _ _) rfl rfl (Nat.le_of_ble_eq_true rfl) (Nat.le_of_ble_eq_true rfl) (Nat.le_of_ble_eq_true rfl) (Nat.le_of_ble_eq_true rfl) rfl (Nat.le_of_ble_eq_true rfl) dX10_put__48 rfl (fun r10 hr10 pr10 => ?_)
    obtain ⟨rfl, rfl⟩ := pr10
    refine g_aload_n dX10_put__51 rfl rfl rfl ?_
    refine g_bipush (v := 30) dX10_put__52 (by decide) rfl ?_
    refine g_iconst (v := 2) dX10_put__54 (by decide) rfl ?_
    refine g_iconst (v := (-1)) dX10_put__55 (by decide) rfl ?_
    refine g_lconst (v := 0) dX10_put__56 (by decide) rfl ?_
    have o12 := hQ.1
    replace hQ := hQ.2
    refine g_callv mv_X10_lay_ ml_X10_218 (c_X10_lay_ l g _ _ _ _ o12) (ho_199 _ _) rfl rfl (Nat.le_of_ble_eq_true rfl) (Nat.le_of_ble_eq_true rfl) (Nat.le_of_ble_eq_true rfl) (Nat.le_of_ble_eq_true rfl) rfl (Nat.le_of_ble_eq_true rfl) dX10_put__57 rfl (fun r13 hr13 pr13 => ?_)
    obtain ⟨rfl, rfl⟩ := pr13
    refine g_aload_n dX10_put__60 rfl rfl rfl ?_
    refine g_iconst (v := 1) dX10_put__61 (by decide) rfl ?_
    refine g_put gClX10 31 (by decide) fl_X10_221 rfl dX10_put__62 (ho_199 _ _) rfl rfl (Nat.le_of_ble_eq_true rfl) po_199_31 rfl ?_
    refine g_aload_n dX10_put__65 rfl rfl rfl ?_
    refine g_callv mv_X10_count ml_X10_224 (c_X10_count l g) (ho_199 _ _) rfl rfl (Nat.le_of_ble_eq_true rfl) (Nat.le_of_ble_eq_true rfl) (Nat.le_of_ble_eq_true rfl) (Nat.le_of_ble_eq_true rfl) rfl (Nat.le_of_ble_eq_true rfl) dX10_put__66 rfl (fun r16 hr16 pr16 => ?_)
    obtain ⟨rfl, rfl⟩ := pr16
    refine g_aload_n dX10_put__69 rfl rfl rfl ?_
    refine g_get gClX10 33 (by decide) fl_X10_212 dX10_put__70 (ho_199 _ _) rfl rfl ?_
    refine g_ifeq (tgt := 78) dX10_put__73 (by decide) rfl (fun c18 => ?_) (fun c18 => ?_)
    · replace hF := ite_p hF c18
      try replace hQ := ite_q hQ c18
      refine g_sub [0, 1, 2, 3, 4] rfl ?_
      exact j_X10_put__78 l g _ _ _ hQ hF
    · replace hF := ite_n hF c18
      try replace hQ := ite_r hQ c18
      refine g_iconst (v := 0) dX10_put__76 (by decide) rfl ?_
      subst hF
      exact g_zret rfl dX10_put__77 (by decide) (Nat.le_of_ble_eq_true rfl) (Nat.le_of_ble_eq_true rfl) ⟨rfl, rfl⟩
noncomputable def J_X10_put__33 (p0 : Int32) (p1 : Int32) (p2 : Int32) (σ : gS) (ζ : gQ) : Int32 × gS × gQ :=
  J_X10_put__34 p0 p1 p2 (0 : Int64) σ ζ
def QJ_X10_put__33 (p0 : Int32) (p1 : Int32) (p2 : Int32) (σ : gS) (ζ : gQ) : Prop :=
  QJ_X10_put__34 p0 p1 p2 (0 : Int64) σ ζ
set_option maxHeartbeats 4000000 in
set_option maxRecDepth 100000 in
theorem j_X10_put__33 (l : Launch) (g : gE) {p0 : Int32} {p1 : Int32} {p2 : Int32} {fr : Int32 × gS × gQ} : ∀ (σ : gS) (ζ : gQ), QJ_X10_put__33 p0 p1 p2 σ ζ → J_X10_put__33 p0 p1 p2 σ ζ = fr → gG l g mX10_put_ (rm 6 178) (gZm g (rm 6 178) (fun r h => r = some (.int fr.1) ∧ h = hp fr.2.1 fr.2.2)) 33 [(0, .ref 199), (1, .int p0), (2, .int p1), (3, .int p2)] [] (hp σ ζ) 0 0 := by
  intro σ ζ hQ hF
  unfold J_X10_put__33 at hF
  unfold QJ_X10_put__33 at hQ
  refine g_lconst (v := 0) dX10_put__33 (by decide) rfl ?_
  refine g_sub [0, 1, 2, 3] rfl ?_
  exact j_X10_put__34 l g _ _ _ hQ hF
noncomputable def Fr_X10_put_ (σ : gS) (ζ : gQ) (p0 : Int32) (p1 : Int32) (p2 : Int32) : Int32 × gS × gQ :=
  if (σ 199 33) = 0 then
    if p2 < 0 then
      J_X10_put__33 p0 p1 p2 σ ζ
    else
      let f21 := (F_X10_isGood σ ζ p2 (0 : Int32))
      if f21.1 = 0 then
        J_X10_put__33 p0 p1 p2 f21.2 ζ
      else
        J_X10_put__34 p0 p1 p2 (F_X10_field f21.2 p2 (0 : Int32) (3 : Int32) (4 : Int32)) f21.2 ζ
  else
    ((0 : Int32), σ, ζ)
noncomputable def F_X10_put_ : gS → gQ → Int32 → Int32 → Int32 → Int32 × gS × gQ := Classical.choose (⟨Fr_X10_put_, rfl⟩ : ∃ f : gS → gQ → Int32 → Int32 → Int32 → Int32 × gS × gQ, f = Fr_X10_put_)
theorem F_X10_put__eq : F_X10_put_ = Fr_X10_put_ := Classical.choose_spec (⟨Fr_X10_put_, rfl⟩ : ∃ f : gS → gQ → Int32 → Int32 → Int32 → Int32 × gS × gQ, f = Fr_X10_put_)
def Q_X10_put_ (σ : gS) (ζ : gQ) (p0 : Int32) (p1 : Int32) (p2 : Int32) : Prop :=
  if (σ 199 33) = 0 then
    (if p2 < 0 then
      (QJ_X10_put__33 p0 p1 p2 σ ζ)
    else
      ((Q_X10_isGood σ ζ p2 (0 : Int32)) ∧ (let f21 := (F_X10_isGood σ ζ p2 (0 : Int32))
      if f21.1 = 0 then
        (QJ_X10_put__33 p0 p1 p2 f21.2 ζ)
      else
        ((Q_X10_field f21.2 p2 (0 : Int32) (3 : Int32) (4 : Int32)) ∧ (QJ_X10_put__34 p0 p1 p2 (F_X10_field f21.2 p2 (0 : Int32) (3 : Int32) (4 : Int32)) f21.2 ζ)))))
  else
    (True)
set_option maxHeartbeats 4000000 in
set_option maxRecDepth 100000 in
theorem c_X10_put_ (l : Launch) (g : gE)  {σ : gS} {ζ : gQ} (p0 : Int32) (p1 : Int32) (p2 : Int32) (hQ : Q_X10_put_ σ ζ p0 p1 p2) : gC l g mX10_put_ (rm 6 178) [.ref 199, .int p0, .int p1, .int p2] (hp σ ζ) (fun r h => r = some (.int (F_X10_put_ σ ζ p0 p1 p2).1) ∧ h = hp (F_X10_put_ σ ζ p0 p1 p2).2.1 (F_X10_put_ σ ζ p0 p1 p2).2.2) := by
  refine gC_of (by decide) (Nat.le_of_ble_eq_true rfl) ?_
  generalize hF : (F_X10_put_ σ ζ p0 p1 p2) = fr
  rw [F_X10_put__eq] at hF
  unfold Fr_X10_put_ at hF
  unfold Q_X10_put_ at hQ
  refine g_aload_n dX10_put__0 rfl rfl rfl ?_
  refine g_get gClX10 33 (by decide) fl_X10_212 dX10_put__1 (ho_199 _ _) rfl rfl ?_
  refine g_ifeq (tgt := 9) dX10_put__4 (by decide) rfl (fun c1 => ?_) (fun c1 => ?_)
  · replace hF := ite_p hF c1
    try replace hQ := ite_q hQ c1
    refine g_iload_n dX10_put__9 rfl rfl rfl ?_
    refine g_iflt (tgt := 33) dX10_put__10 (by decide) rfl (fun c2 => ?_) (fun c2 => ?_)
    · replace hF := ite_p hF c2
      try replace hQ := ite_q hQ c2
      refine g_sub [0, 1, 2, 3] rfl ?_
      exact j_X10_put__33 l g _ _ hQ hF
    · replace hF := ite_n hF c2
      try replace hQ := ite_r hQ c2
      refine g_aload_n dX10_put__13 rfl rfl rfl ?_
      refine g_iload_n dX10_put__14 rfl rfl rfl ?_
      refine g_iconst (v := 0) dX10_put__15 (by decide) rfl ?_
      have o19 := hQ.1
      replace hQ := hQ.2
      refine g_callv mv_X10_isGood ml_X10_185 (c_X10_isGood l g _ _ o19) (ho_199 _ _) rfl rfl (Nat.le_of_ble_eq_true rfl) (Nat.le_of_ble_eq_true rfl) (Nat.le_of_ble_eq_true rfl) (Nat.le_of_ble_eq_true rfl) rfl (Nat.le_of_ble_eq_true rfl) dX10_put__16 rfl (fun r20 hr20 pr20 => ?_)
      obtain ⟨rfl, rfl⟩ := pr20
      refine g_ifeq (tgt := 33) dX10_put__19 (by decide) rfl (fun c22 => ?_) (fun c22 => ?_)
      · replace hF := ite_p hF c22
        try replace hQ := ite_q hQ c22
        refine g_sub [0, 1, 2, 3] rfl ?_
        exact j_X10_put__33 l g _ _ hQ hF
      · replace hF := ite_n hF c22
        try replace hQ := ite_r hQ c22
        refine g_aload_n dX10_put__22 rfl rfl rfl ?_
        refine g_iload_n dX10_put__23 rfl rfl rfl ?_
        refine g_iconst (v := 0) dX10_put__24 (by decide) rfl ?_
        refine g_iconst (v := 3) dX10_put__25 (by decide) rfl ?_
        refine g_iconst (v := 4) dX10_put__26 (by decide) rfl ?_
        have o23 := hQ.1
        replace hQ := hQ.2
        refine g_callv mv_X10_field ml_X10_170 (c_X10_field l g _ _ _ _ o23) (ho_199 _ _) rfl rfl (Nat.le_of_ble_eq_true rfl) (Nat.le_of_ble_eq_true rfl) (Nat.le_of_ble_eq_true rfl) (Nat.le_of_ble_eq_true rfl) rfl (Nat.le_of_ble_eq_true rfl) dX10_put__27 rfl (fun r24 hr24 pr24 => ?_)
        obtain ⟨rfl, rfl⟩ := pr24
        refine g_goto (tgt := 34) dX10_put__30 (by decide) ?_
        refine g_sub [0, 1, 2, 3] rfl ?_
        exact j_X10_put__34 l g _ _ _ hQ hF
  · replace hF := ite_n hF c1
    try replace hQ := ite_r hQ c1
    refine g_iconst (v := 0) dX10_put__7 (by decide) rfl ?_
    subst hF
    exact g_zret rfl dX10_put__8 (by decide) (Nat.le_of_ble_eq_true rfl) (Nat.le_of_ble_eq_true rfl) ⟨rfl, rfl⟩
noncomputable def Fr_X10_insideTo (σ : gS) (p0 : Int32) (p1 : Int32) : gS :=
  let s1 := (pf σ 199 46 p0 : gS)
  let s2 := (pf s1 199 41 p1 : gS)
  s2
noncomputable def F_X10_insideTo : gS → Int32 → Int32 → gS := Classical.choose (⟨Fr_X10_insideTo, rfl⟩ : ∃ f : gS → Int32 → Int32 → gS, f = Fr_X10_insideTo)
theorem F_X10_insideTo_eq : F_X10_insideTo = Fr_X10_insideTo := Classical.choose_spec (⟨Fr_X10_insideTo, rfl⟩ : ∃ f : gS → Int32 → Int32 → gS, f = Fr_X10_insideTo)
set_option maxHeartbeats 4000000 in
set_option maxRecDepth 100000 in
theorem c_X10_insideTo (l : Launch) (g : gE)  {σ : gS} {ζ : gQ} (p0 : Int32) (p1 : Int32) : gC l g mX10_insideTo (rm 0 0) [.ref 199, .int p0, .int p1] (hp σ ζ) (fun r h => r = none ∧ h = hp (F_X10_insideTo σ p0 p1) ζ) := by
  refine gC_of (by decide) (Nat.le_of_ble_eq_true rfl) ?_
  generalize hF : (F_X10_insideTo σ p0 p1) = fr
  rw [F_X10_insideTo_eq] at hF
  unfold Fr_X10_insideTo at hF
  refine g_aload_n dX10_insideTo_0 rfl rfl rfl ?_
  refine g_iload_n dX10_insideTo_1 rfl rfl rfl ?_
  refine g_put gClX10 46 (by decide) fl_X10_227 rfl dX10_insideTo_2 (ho_199 _ _) rfl rfl (Nat.le_of_ble_eq_true rfl) po_199_46 rfl ?_
  refine g_aload_n dX10_insideTo_5 rfl rfl rfl ?_
  refine g_iload_n dX10_insideTo_6 rfl rfl rfl ?_
  refine g_put gClX10 41 (by decide) fl_X10_82 rfl dX10_insideTo_7 (ho_199 _ _) rfl rfl (Nat.le_of_ble_eq_true rfl) po_199_41 rfl ?_
  subst hF
  exact g_vret rfl dX10_insideTo_10 (Nat.le_of_ble_eq_true rfl) (Nat.le_of_ble_eq_true rfl) ⟨rfl, rfl⟩
noncomputable def G_X10_enrols_L106 (p0 : Int32) (kL64 : Int32 → gS → gQ → gS × gQ) : Nat → Int32 → Int32 → Int32 → gS → gQ → gS × gQ
  | 0, _, _, _, σ, ζ => (σ, ζ)
  | n + 1, y2, y3, y4, σ, ζ =>
    if (16 : Int32) ≤ y4 then
      kL64 (y2 + Int32.ofInt (1)) σ ζ
    else
      let s25 := (pf σ 214 (ix (((16 : Int32) * y2) + y4)) (σ 215 (ix ((y3 + (2 : Int32)) + y4))).toInt8.toInt32 : gS)
      G_X10_enrols_L106 p0 kL64 n y2 y3 (y4 + Int32.ofInt (1)) s25 ζ
def QG_X10_enrols_L106 (p0 : Int32) (qL64 : Int32 → gS → gQ → Prop) : Nat → Int32 → Int32 → Int32 → gS → gQ → Prop
  | 0, _, _, _, _, _ => False
  | n + 1, y2, y3, y4, σ, ζ =>
    if (16 : Int32) ≤ y4 then
      (qL64 (y2 + Int32.ofInt (1)) σ ζ)
    else
      (vp_in ((y3 + (2 : Int32)) + y4) 400 ∧ (vp_in (((16 : Int32) * y2) + y4) 112 ∧ (let s25 := (pf σ 214 (ix (((16 : Int32) * y2) + y4)) (σ 215 (ix ((y3 + (2 : Int32)) + y4))).toInt8.toInt32 : gS)
      QG_X10_enrols_L106 p0 qL64 n y2 y3 (y4 + Int32.ofInt (1)) s25 ζ)))
set_option maxHeartbeats 4000000 in
set_option maxRecDepth 100000 in
theorem t_X10_enrols_L106 (l : Launch) (g : gE) {p0 : Int32} {fr : gS × gQ} {kL64 : Int32 → gS → gQ → gS × gQ} {qL64 : Int32 → gS → gQ → Prop} (hkL64 : ∀ (y2 : Int32) (σ : gS) (ζ : gQ), qL64 y2 σ ζ → kL64 y2 σ ζ = fr → gG l g mX10_enrols (rm 7 203) (gZm g (rm 7 203) (fun r h => r = none ∧ h = hp fr.1 fr.2)) 64 [(0, .ref 199), (1, .int p0), (2, .int y2)] [] (hp σ ζ) 0 0) : ∀ (n : Nat) (y2 : Int32) (y3 : Int32) (y4 : Int32) (σ : gS) (ζ : gQ), QG_X10_enrols_L106 p0 qL64 n y2 y3 y4 σ ζ → G_X10_enrols_L106 p0 kL64 n y2 y3 y4 σ ζ = fr → gG l g mX10_enrols (rm 7 203) (gZm g (rm 7 203) (fun r h => r = none ∧ h = hp fr.1 fr.2)) 106 [(0, .ref 199), (1, .int p0), (2, .int y2), (3, .int y3), (4, .int y4)] [] (hp σ ζ) 0 0 := by
  intro n
  induction n with
  | zero => intro y2 y3 y4 σ ζ hQ; exact absurd hQ (by unfold QG_X10_enrols_L106; exact id)
  | succ n ihL106 =>
    intro y2 y3 y4 σ ζ hQ hF
    unfold G_X10_enrols_L106 at hF
    unfold QG_X10_enrols_L106 at hQ
    refine g_iload dX10_enrols_106 rfl rfl ?_
    refine g_bipush (v := 16) dX10_enrols_108 (by decide) rfl ?_
    refine g_icmpge (tgt := 142) dX10_enrols_110 (by decide) rfl (fun c22 => ?_) (fun c22 => ?_)
    · replace hF := ite_p hF c22
      try replace hQ := ite_q hQ c22
      refine g_iincL (L1 := [(0, _), (1, _), (2, _), (3, _), (4, _)]) dX10_enrols_142 rfl (by decide) rfl rfl ?_
      refine g_goto (tgt := 64) dX10_enrols_145 (by decide) ?_
      refine g_sub [0, 1, 2] rfl ?_
      exact hkL64 _ _ _ hQ hF
    · replace hF := ite_n hF c22
      try replace hQ := ite_r hQ c22
      refine g_aload_n dX10_enrols_113 rfl rfl rfl ?_
      refine g_get gClX10 16 (by decide) fl_X10_54 dX10_enrols_114 (ho_199 _ _) rfl rfl ?_
      refine g_bipush (v := 16) dX10_enrols_117 (by decide) rfl ?_
      refine g_iload_n dX10_enrols_119 rfl rfl rfl ?_
      refine g_imul dX10_enrols_120 rfl ?_
      refine g_iload dX10_enrols_121 rfl rfl ?_
      refine g_iadd dX10_enrols_123 rfl ?_
      refine g_aload_n dX10_enrols_124 rfl rfl rfl ?_
      refine g_get gClX10 24 (by decide) fl_X10_57 dX10_enrols_125 (ho_199 _ _) rfl rfl ?_
      refine g_iload_n dX10_enrols_128 rfl rfl rfl ?_
      refine g_iconst (v := 2) dX10_enrols_129 (by decide) rfl ?_
      refine g_iadd dX10_enrols_130 rfl ?_
      refine g_iload dX10_enrols_131 rfl rfl ?_
      refine g_iadd dX10_enrols_133 rfl ?_
      have o23 := hQ.1
      replace hQ := hQ.2
      refine g_bald (ha_215 _ _) o23 dX10_enrols_134 rfl ?_
      have o24 := hQ.1
      replace hQ := hQ.2
      refine g_bast (ha_214 _ _) o24 pa_214 dX10_enrols_135 rfl ?_
      refine g_iincL (L1 := [(0, _), (1, _), (2, _), (3, _), (4, _)]) dX10_enrols_136 rfl (by decide) rfl rfl ?_
      refine g_goto (tgt := 106) dX10_enrols_139 (by decide) ?_
      refine g_sub [0, 1, 2, 3, 4] rfl ?_
      exact ihL106 _ _ _ _ _ hQ hF
noncomputable def G_X10_enrols_L64 (p0 : Int32) : Nat → Int32 → gS → gQ → gS × gQ
  | 0, _, σ, ζ => (σ, ζ)
  | n + 1, y2, σ, ζ =>
    if (σ 199 17) ≤ y2 then
      let s14 := (F_X10_insideTo σ (2 : Int32) (1 : Int32))
      let s15 := (pf s14 199 40 (1 : Int32) : gS)
      (s15, ζ)
    else
      if y2 = 0 then
        let s29 := (pf σ 213 (ix y2) (F_X10_diskField σ (1 : Int32) (2 : Int32)).toInt32 : gS)
        G_X10_enrols_L106 p0 (G_X10_enrols_L64 p0 n) 4000 y2 (1 : Int32) (0 : Int32) s29 ζ
      else
        let v17 := ((20 : Int32) + ((18 : Int32) * (y2 - (1 : Int32))))
        let s21 := (pf σ 213 (ix y2) (F_X10_diskField σ v17 (2 : Int32)).toInt32 : gS)
        G_X10_enrols_L106 p0 (G_X10_enrols_L64 p0 n) 4000 y2 v17 (0 : Int32) s21 ζ
def QG_X10_enrols_L64 (p0 : Int32) : Nat → Int32 → gS → gQ → Prop
  | 0, _, _, _ => False
  | n + 1, y2, σ, ζ =>
    if (σ 199 17) ≤ y2 then
      (let s14 := (F_X10_insideTo σ (2 : Int32) (1 : Int32))
      let s15 := (pf s14 199 40 (1 : Int32) : gS)
      True)
    else
      (if y2 = 0 then
        ((Q_X10_diskField σ (1 : Int32) (2 : Int32)) ∧ (vp_in y2 7 ∧ (let s29 := (pf σ 213 (ix y2) (F_X10_diskField σ (1 : Int32) (2 : Int32)).toInt32 : gS)
        QG_X10_enrols_L106 p0 (QG_X10_enrols_L64 p0 n) 4000 y2 (1 : Int32) (0 : Int32) s29 ζ)))
      else
        (let v17 := ((20 : Int32) + ((18 : Int32) * (y2 - (1 : Int32))))
        (Q_X10_diskField σ v17 (2 : Int32)) ∧ (vp_in y2 7 ∧ (let s21 := (pf σ 213 (ix y2) (F_X10_diskField σ v17 (2 : Int32)).toInt32 : gS)
        QG_X10_enrols_L106 p0 (QG_X10_enrols_L64 p0 n) 4000 y2 v17 (0 : Int32) s21 ζ))))
set_option maxHeartbeats 4000000 in
set_option maxRecDepth 100000 in
theorem t_X10_enrols_L64 (l : Launch) (g : gE) {p0 : Int32} {fr : gS × gQ} : ∀ (n : Nat) (y2 : Int32) (σ : gS) (ζ : gQ), QG_X10_enrols_L64 p0 n y2 σ ζ → G_X10_enrols_L64 p0 n y2 σ ζ = fr → gG l g mX10_enrols (rm 7 203) (gZm g (rm 7 203) (fun r h => r = none ∧ h = hp fr.1 fr.2)) 64 [(0, .ref 199), (1, .int p0), (2, .int y2)] [] (hp σ ζ) 0 0 := by
  intro n
  induction n with
  | zero => intro y2 σ ζ hQ; exact absurd hQ (by unfold QG_X10_enrols_L64; exact id)
  | succ n ihL64 =>
    intro y2 σ ζ hQ hF
    unfold G_X10_enrols_L64 at hF
    unfold QG_X10_enrols_L64 at hQ
    refine g_iload_n dX10_enrols_64 rfl rfl rfl ?_
    refine g_aload_n dX10_enrols_65 rfl rfl rfl ?_
    refine g_get gClX10 17 (by decide) fl_X10_163 dX10_enrols_66 (ho_199 _ _) rfl rfl ?_
    refine g_icmpge (tgt := 148) dX10_enrols_69 (by decide) rfl (fun c12 => ?_) (fun c12 => ?_)
    · replace hF := ite_p hF c12
      try replace hQ := ite_q hQ c12
      refine g_aload_n dX10_enrols_148 rfl rfl rfl ?_
      refine g_iconst (v := 2) dX10_enrols_149 (by decide) rfl ?_
      refine g_iconst (v := 1) dX10_enrols_150 (by decide) rfl ?_
      refine g_callv mv_X10_insideTo ml_X10_325 (c_X10_insideTo l g _ _) (ho_199 _ _) rfl rfl (Nat.le_of_ble_eq_true rfl) (Nat.le_of_ble_eq_true rfl) (Nat.le_of_ble_eq_true rfl) (Nat.le_of_ble_eq_true rfl) rfl (Nat.le_of_ble_eq_true rfl) dX10_enrols_151 rfl (fun r13 hr13 pr13 => ?_)
      obtain ⟨rfl, rfl⟩ := pr13
      refine g_aload_n dX10_enrols_154 rfl rfl rfl ?_
      refine g_iconst (v := 1) dX10_enrols_155 (by decide) rfl ?_
      refine g_put gClX10 40 (by decide) fl_X10_271 rfl dX10_enrols_156 (ho_199 _ _) rfl rfl (Nat.le_of_ble_eq_true rfl) po_199_40 rfl ?_
      subst hF
      exact g_vret rfl dX10_enrols_159 (Nat.le_of_ble_eq_true rfl) (Nat.le_of_ble_eq_true rfl) ⟨rfl, rfl⟩
    · replace hF := ite_n hF c12
      try replace hQ := ite_r hQ c12
      refine g_iload_n dX10_enrols_72 rfl rfl rfl ?_
      refine g_ifne (tgt := 80) dX10_enrols_73 (by decide) rfl (fun c16 => ?_) (fun c16 => ?_)
      · replace hF := ite_n hF c16
        try replace hQ := ite_r hQ c16
        refine g_bipush (v := 20) dX10_enrols_80 (by decide) rfl ?_
        refine g_bipush (v := 18) dX10_enrols_82 (by decide) rfl ?_
        refine g_iload_n dX10_enrols_84 rfl rfl rfl ?_
        refine g_iconst (v := 1) dX10_enrols_85 (by decide) rfl ?_
        refine g_isub dX10_enrols_86 rfl ?_
        refine g_imul dX10_enrols_87 rfl ?_
        refine g_iadd dX10_enrols_88 rfl ?_
        refine g_istoreL_n (L1 := [(0, _), (1, _), (2, _), (3, _)]) dX10_enrols_89 rfl (by decide) rfl rfl ?_
        refine g_aload_n dX10_enrols_90 rfl rfl rfl ?_
        refine g_get gClX10 15 (by decide) fl_X10_51 dX10_enrols_91 (ho_199 _ _) rfl rfl ?_
        refine g_iload_n dX10_enrols_94 rfl rfl rfl ?_
        refine g_aload_n dX10_enrols_95 rfl rfl rfl ?_
        refine g_iload_n dX10_enrols_96 rfl rfl rfl ?_
        refine g_iconst (v := 2) dX10_enrols_97 (by decide) rfl ?_
        have o18 := hQ.1
        replace hQ := hQ.2
        refine g_callv mv_X10_diskField ml_X10_365 (c_X10_diskField l g _ _ o18) (ho_199 _ _) rfl rfl (Nat.le_of_ble_eq_true rfl) (Nat.le_of_ble_eq_true rfl) (Nat.le_of_ble_eq_true rfl) (Nat.le_of_ble_eq_true rfl) rfl (Nat.le_of_ble_eq_true rfl) dX10_enrols_98 rfl (fun r19 hr19 pr19 => ?_)
        obtain ⟨rfl, rfl⟩ := pr19
        refine g_l2i dX10_enrols_101 rfl ?_
        have o20 := hQ.1
        replace hQ := hQ.2
        refine g_iast (ha_213 _ _) o20 pa_213 dX10_enrols_102 rfl ?_
        refine g_iconst (v := 0) dX10_enrols_103 (by decide) rfl ?_
        refine g_istoreL (L1 := [(0, _), (1, _), (2, _), (3, _), (4, _)]) dX10_enrols_104 (by decide) rfl rfl ?_
        refine g_sub [0, 1, 2, 3, 4] rfl ?_
        exact t_X10_enrols_L106 l g ihL64 4000 _ _ _ _ _ hQ hF
      · replace hF := ite_p hF c16
        try replace hQ := ite_q hQ c16
        refine g_iconst (v := 1) dX10_enrols_76 (by decide) rfl ?_
        refine g_goto (tgt := 89) dX10_enrols_77 (by decide) ?_
        refine g_istoreL_n (L1 := [(0, _), (1, _), (2, _), (3, _)]) dX10_enrols_89 rfl (by decide) rfl rfl ?_
        refine g_aload_n dX10_enrols_90 rfl rfl rfl ?_
        refine g_get gClX10 15 (by decide) fl_X10_51 dX10_enrols_91 (ho_199 _ _) rfl rfl ?_
        refine g_iload_n dX10_enrols_94 rfl rfl rfl ?_
        refine g_aload_n dX10_enrols_95 rfl rfl rfl ?_
        refine g_iload_n dX10_enrols_96 rfl rfl rfl ?_
        refine g_iconst (v := 2) dX10_enrols_97 (by decide) rfl ?_
        have o26 := hQ.1
        replace hQ := hQ.2
        refine g_callv mv_X10_diskField ml_X10_365 (c_X10_diskField l g _ _ o26) (ho_199 _ _) rfl rfl (Nat.le_of_ble_eq_true rfl) (Nat.le_of_ble_eq_true rfl) (Nat.le_of_ble_eq_true rfl) (Nat.le_of_ble_eq_true rfl) rfl (Nat.le_of_ble_eq_true rfl) dX10_enrols_98 rfl (fun r27 hr27 pr27 => ?_)
        obtain ⟨rfl, rfl⟩ := pr27
        refine g_l2i dX10_enrols_101 rfl ?_
        have o28 := hQ.1
        replace hQ := hQ.2
        refine g_iast (ha_213 _ _) o28 pa_213 dX10_enrols_102 rfl ?_
        refine g_iconst (v := 0) dX10_enrols_103 (by decide) rfl ?_
        refine g_istoreL (L1 := [(0, _), (1, _), (2, _), (3, _), (4, _)]) dX10_enrols_104 (by decide) rfl rfl ?_
        refine g_sub [0, 1, 2, 3, 4] rfl ?_
        exact t_X10_enrols_L106 l g ihL64 4000 _ _ _ _ _ hQ hF
noncomputable def Fr_X10_enrols (σ : gS) (ζ : gQ) (p0 : Int32) : gS × gQ :=
  if (F_X10_isEnrolment σ ) = 0 then
    let f32 := (F_X10_put_ σ ζ (41 : Int32) (1 : Int32) p0)
    if f32.1 = 0 then
      (f32.2.1, f32.2.2)
    else
      let s35 := (F_X10_insideTo f32.2.1 (1 : Int32) (9 : Int32))
      (s35, f32.2.2)
  else
    let f6 := (F_X10_put_ σ ζ (40 : Int32) (0 : Int32) p0)
    if f6.1 = 0 then
      (f6.2.1, f6.2.2)
    else
      let s8 := (pf f6.2.1 199 17 ((1 : Int32) + (f6.2.1 215 (ix (19 : Int32)))) : gS)
      let s11 := (pf s8 199 18 (F_X10_diskField s8 (1 : Int32) (2 : Int32)).toInt32 : gS)
      G_X10_enrols_L64 p0 4000 (0 : Int32) s11 f6.2.2
noncomputable def F_X10_enrols : gS → gQ → Int32 → gS × gQ := Classical.choose (⟨Fr_X10_enrols, rfl⟩ : ∃ f : gS → gQ → Int32 → gS × gQ, f = Fr_X10_enrols)
theorem F_X10_enrols_eq : F_X10_enrols = Fr_X10_enrols := Classical.choose_spec (⟨Fr_X10_enrols, rfl⟩ : ∃ f : gS → gQ → Int32 → gS × gQ, f = Fr_X10_enrols)
def Q_X10_enrols (σ : gS) (ζ : gQ) (p0 : Int32) : Prop :=
  (Q_X10_isEnrolment σ ) ∧ (if (F_X10_isEnrolment σ ) = 0 then
    ((Q_X10_put_ σ ζ (41 : Int32) (1 : Int32) p0) ∧ (let f32 := (F_X10_put_ σ ζ (41 : Int32) (1 : Int32) p0)
    if f32.1 = 0 then
      (True)
    else
      (let s35 := (F_X10_insideTo f32.2.1 (1 : Int32) (9 : Int32))
      True)))
  else
    ((Q_X10_put_ σ ζ (40 : Int32) (0 : Int32) p0) ∧ (let f6 := (F_X10_put_ σ ζ (40 : Int32) (0 : Int32) p0)
    if f6.1 = 0 then
      (True)
    else
      (let s8 := (pf f6.2.1 199 17 ((1 : Int32) + (f6.2.1 215 (ix (19 : Int32)))) : gS)
      (Q_X10_diskField s8 (1 : Int32) (2 : Int32)) ∧ (let s11 := (pf s8 199 18 (F_X10_diskField s8 (1 : Int32) (2 : Int32)).toInt32 : gS)
      QG_X10_enrols_L64 p0 4000 (0 : Int32) s11 f6.2.2)))))
set_option maxHeartbeats 4000000 in
set_option maxRecDepth 100000 in
theorem c_X10_enrols (l : Launch) (g : gE)  {σ : gS} {ζ : gQ} (p0 : Int32) (hQ : Q_X10_enrols σ ζ p0) : gC l g mX10_enrols (rm 7 203) [.ref 199, .int p0] (hp σ ζ) (fun r h => r = none ∧ h = hp (F_X10_enrols σ ζ p0).1 (F_X10_enrols σ ζ p0).2) := by
  refine gC_of (by decide) (Nat.le_of_ble_eq_true rfl) ?_
  generalize hF : (F_X10_enrols σ ζ p0) = fr
  rw [F_X10_enrols_eq] at hF
  unfold Fr_X10_enrols at hF
  unfold Q_X10_enrols at hQ
  refine g_aload_n dX10_enrols_0 rfl rfl rfl ?_
  have o1 := hQ.1
  replace hQ := hQ.2
  refine g_callv mv_X10_isEnrolment ml_X10_369 (c_X10_isEnrolment l g o1) (ho_199 _ _) rfl rfl (Nat.le_of_ble_eq_true rfl) (Nat.le_of_ble_eq_true rfl) (Nat.le_of_ble_eq_true rfl) (Nat.le_of_ble_eq_true rfl) rfl (Nat.le_of_ble_eq_true rfl) dX10_enrols_1 rfl (fun r2 hr2 pr2 => ?_)
  obtain ⟨rfl, rfl⟩ := pr2
  refine g_ifne (tgt := 26) dX10_enrols_4 (by decide) rfl (fun c3 => ?_) (fun c3 => ?_)
  · replace hF := ite_n hF c3
    try replace hQ := ite_r hQ c3
    refine g_aload_n dX10_enrols_26 rfl rfl rfl ?_
    refine g_bipush (v := 40) dX10_enrols_27 (by decide) rfl ?_
    refine g_iconst (v := 0) dX10_enrols_29 (by decide) rfl ?_
    refine g_iload_n dX10_enrols_30 rfl rfl rfl ?_
    have o4 := hQ.1
    replace hQ := hQ.2
    refine g_callv mv_X10_put_ ml_X10_239 (c_X10_put_ l g _ _ _ o4) (ho_199 _ _) rfl rfl (Nat.le_of_ble_eq_true rfl) (Nat.le_of_ble_eq_true rfl) (Nat.le_of_ble_eq_true rfl) (Nat.le_of_ble_eq_true rfl) rfl (Nat.le_of_ble_eq_true rfl) dX10_enrols_31 rfl (fun r5 hr5 pr5 => ?_)
    obtain ⟨rfl, rfl⟩ := pr5
    refine g_ifne (tgt := 38) dX10_enrols_34 (by decide) rfl (fun c7 => ?_) (fun c7 => ?_)
    · replace hF := ite_n hF c7
      try replace hQ := ite_r hQ c7
      refine g_aload_n dX10_enrols_38 rfl rfl rfl ?_
      refine g_iconst (v := 1) dX10_enrols_39 (by decide) rfl ?_
      refine g_aload_n dX10_enrols_40 rfl rfl rfl ?_
      refine g_get gClX10 24 (by decide) fl_X10_57 dX10_enrols_41 (ho_199 _ _) rfl rfl ?_
      refine g_bipush (v := 19) dX10_enrols_44 (by decide) rfl ?_
      refine g_bald (ha_215 _ _) (vinc (by decide)) dX10_enrols_46 rfl ?_
      refine g_iadd dX10_enrols_47 rfl ?_
      refine g_put gClX10 17 (by decide) fl_X10_163 rfl dX10_enrols_48 (ho_199 _ _) rfl rfl (Nat.le_of_ble_eq_true rfl) po_199_17 rfl ?_
      refine g_aload_n dX10_enrols_51 rfl rfl rfl ?_
      refine g_aload_n dX10_enrols_52 rfl rfl rfl ?_
      refine g_iconst (v := 1) dX10_enrols_53 (by decide) rfl ?_
      refine g_iconst (v := 2) dX10_enrols_54 (by decide) rfl ?_
      have o9 := hQ.1
      replace hQ := hQ.2
      refine g_callv mv_X10_diskField ml_X10_365 (c_X10_diskField l g _ _ o9) (ho_199 _ _) rfl rfl (Nat.le_of_ble_eq_true rfl) (Nat.le_of_ble_eq_true rfl) (Nat.le_of_ble_eq_true rfl) (Nat.le_of_ble_eq_true rfl) rfl (Nat.le_of_ble_eq_true rfl) dX10_enrols_55 rfl (fun r10 hr10 pr10 => ?_)
      obtain ⟨rfl, rfl⟩ := pr10
      refine g_l2i dX10_enrols_58 rfl ?_
      refine g_put gClX10 18 (by decide) fl_X10_88 rfl dX10_enrols_59 (ho_199 _ _) rfl rfl (Nat.le_of_ble_eq_true rfl) po_199_18 rfl ?_
      refine g_iconst (v := 0) dX10_enrols_62 (by decide) rfl ?_
      refine g_istoreL_n (L1 := [(0, _), (1, _), (2, _)]) dX10_enrols_63 rfl (by decide) rfl rfl ?_
      refine g_sub [0, 1, 2] rfl ?_
      exact t_X10_enrols_L64 l g 4000 _ _ _ hQ hF
    · replace hF := ite_p hF c7
      try replace hQ := ite_q hQ c7
      subst hF
      exact g_vret rfl dX10_enrols_37 (Nat.le_of_ble_eq_true rfl) (Nat.le_of_ble_eq_true rfl) ⟨rfl, rfl⟩
  · replace hF := ite_p hF c3
    try replace hQ := ite_q hQ c3
    refine g_aload_n dX10_enrols_7 rfl rfl rfl ?_
    refine g_bipush (v := 41) dX10_enrols_8 (by decide) rfl ?_
    refine g_iconst (v := 1) dX10_enrols_10 (by decide) rfl ?_
    refine g_iload_n dX10_enrols_11 rfl rfl rfl ?_
    have o30 := hQ.1
    replace hQ := hQ.2
    refine g_callv mv_X10_put_ ml_X10_239 (c_X10_put_ l g _ _ _ o30) (ho_199 _ _) rfl rfl (Nat.le_of_ble_eq_true rfl) (Nat.le_of_ble_eq_true rfl) (Nat.le_of_ble_eq_true rfl) (Nat.le_of_ble_eq_true rfl) rfl (Nat.le_of_ble_eq_true rfl) dX10_enrols_12 rfl (fun r31 hr31 pr31 => ?_)
    obtain ⟨rfl, rfl⟩ := pr31
    refine g_ifeq (tgt := 25) dX10_enrols_15 (by decide) rfl (fun c33 => ?_) (fun c33 => ?_)
    · replace hF := ite_p hF c33
      try replace hQ := ite_q hQ c33
      subst hF
      exact g_vret rfl dX10_enrols_25 (Nat.le_of_ble_eq_true rfl) (Nat.le_of_ble_eq_true rfl) ⟨rfl, rfl⟩
    · replace hF := ite_n hF c33
      try replace hQ := ite_r hQ c33
      refine g_aload_n dX10_enrols_18 rfl rfl rfl ?_
      refine g_iconst (v := 1) dX10_enrols_19 (by decide) rfl ?_
      refine g_bipush (v := 9) dX10_enrols_20 (by decide) rfl ?_
      refine g_callv mv_X10_insideTo ml_X10_325 (c_X10_insideTo l g _ _) (ho_199 _ _) rfl rfl (Nat.le_of_ble_eq_true rfl) (Nat.le_of_ble_eq_true rfl) (Nat.le_of_ble_eq_true rfl) (Nat.le_of_ble_eq_true rfl) rfl (Nat.le_of_ble_eq_true rfl) dX10_enrols_22 rfl (fun r34 hr34 pr34 => ?_)
      obtain ⟨rfl, rfl⟩ := pr34
      subst hF
      exact g_vret rfl dX10_enrols_25 (Nat.le_of_ble_eq_true rfl) (Nat.le_of_ble_eq_true rfl) ⟨rfl, rfl⟩
noncomputable def Fr_X10_sees (σ : gS) (ζ : gQ)  : Int32 × gS × gQ :=
  if 0 ≤ (σ 199 21) then
    let f4 := (F_X10_put_ σ ζ (42 : Int32) (0 : Int32) (σ 199 21))
    if f4.1 = 0 then
      ((1 : Int32), f4.2.1, f4.2.2)
    else
      let s6 := (pf f4.2.1 199 47 (f4.2.1 199 21) : gS)
      let s8 := (F_X10_insideTo s6 (3 : Int32) (2 : Int32))
      ((1 : Int32), s8, f4.2.2)
  else
    ((0 : Int32), σ, ζ)
noncomputable def F_X10_sees : gS → gQ → Int32 × gS × gQ := Classical.choose (⟨Fr_X10_sees, rfl⟩ : ∃ f : gS → gQ → Int32 × gS × gQ, f = Fr_X10_sees)
theorem F_X10_sees_eq : F_X10_sees = Fr_X10_sees := Classical.choose_spec (⟨Fr_X10_sees, rfl⟩ : ∃ f : gS → gQ → Int32 × gS × gQ, f = Fr_X10_sees)
def Q_X10_sees (σ : gS) (ζ : gQ)  : Prop :=
  if 0 ≤ (σ 199 21) then
    ((Q_X10_put_ σ ζ (42 : Int32) (0 : Int32) (σ 199 21)) ∧ (let f4 := (F_X10_put_ σ ζ (42 : Int32) (0 : Int32) (σ 199 21))
    if f4.1 = 0 then
      (True)
    else
      (let s6 := (pf f4.2.1 199 47 (f4.2.1 199 21) : gS)
      let s8 := (F_X10_insideTo s6 (3 : Int32) (2 : Int32))
      True)))
  else
    (True)
set_option maxHeartbeats 4000000 in
set_option maxRecDepth 100000 in
theorem c_X10_sees (l : Launch) (g : gE)  {σ : gS} {ζ : gQ}  (hQ : Q_X10_sees σ ζ ) : gC l g mX10_sees (rm 7 203) [.ref 199] (hp σ ζ) (fun r h => r = some (.int (F_X10_sees σ ζ ).1) ∧ h = hp (F_X10_sees σ ζ ).2.1 (F_X10_sees σ ζ ).2.2) := by
  refine gC_of (by decide) (Nat.le_of_ble_eq_true rfl) ?_
  generalize hF : (F_X10_sees σ ζ ) = fr
  rw [F_X10_sees_eq] at hF
  unfold Fr_X10_sees at hF
  unfold Q_X10_sees at hQ
  refine g_aload_n dX10_sees_0 rfl rfl rfl ?_
  refine g_get gClX10 21 (by decide) fl_X10_73 dX10_sees_1 (ho_199 _ _) rfl rfl ?_
  refine g_ifge (tgt := 9) dX10_sees_4 (by decide) rfl (fun c1 => ?_) (fun c1 => ?_)
  · replace hF := ite_p hF c1
    try replace hQ := ite_q hQ c1
    refine g_aload_n dX10_sees_9 rfl rfl rfl ?_
    refine g_bipush (v := 42) dX10_sees_10 (by decide) rfl ?_
    refine g_iconst (v := 0) dX10_sees_12 (by decide) rfl ?_
    refine g_aload_n dX10_sees_13 rfl rfl rfl ?_
    refine g_get gClX10 21 (by decide) fl_X10_73 dX10_sees_14 (ho_199 _ _) rfl rfl ?_
    have o2 := hQ.1
    replace hQ := hQ.2
    refine g_callv mv_X10_put_ ml_X10_239 (c_X10_put_ l g _ _ _ o2) (ho_199 _ _) rfl rfl (Nat.le_of_ble_eq_true rfl) (Nat.le_of_ble_eq_true rfl) (Nat.le_of_ble_eq_true rfl) (Nat.le_of_ble_eq_true rfl) rfl (Nat.le_of_ble_eq_true rfl) dX10_sees_17 rfl (fun r3 hr3 pr3 => ?_)
    obtain ⟨rfl, rfl⟩ := pr3
    refine g_ifeq (tgt := 37) dX10_sees_20 (by decide) rfl (fun c5 => ?_) (fun c5 => ?_)
    · replace hF := ite_p hF c5
      try replace hQ := ite_q hQ c5
      refine g_iconst (v := 1) dX10_sees_37 (by decide) rfl ?_
      subst hF
      exact g_zret rfl dX10_sees_38 (by decide) (Nat.le_of_ble_eq_true rfl) (Nat.le_of_ble_eq_true rfl) ⟨rfl, rfl⟩
    · replace hF := ite_n hF c5
      try replace hQ := ite_r hQ c5
      refine g_aload_n dX10_sees_23 rfl rfl rfl ?_
      refine g_aload_n dX10_sees_24 rfl rfl rfl ?_
      refine g_get gClX10 21 (by decide) fl_X10_73 dX10_sees_25 (ho_199 _ _) rfl rfl ?_
      refine g_put gClX10 47 (by decide) fl_X10_94 rfl dX10_sees_28 (ho_199 _ _) rfl rfl (Nat.le_of_ble_eq_true rfl) po_199_47 rfl ?_
      refine g_aload_n dX10_sees_31 rfl rfl rfl ?_
      refine g_iconst (v := 3) dX10_sees_32 (by decide) rfl ?_
      refine g_iconst (v := 2) dX10_sees_33 (by decide) rfl ?_
      refine g_callv mv_X10_insideTo ml_X10_325 (c_X10_insideTo l g _ _) (ho_199 _ _) rfl rfl (Nat.le_of_ble_eq_true rfl) (Nat.le_of_ble_eq_true rfl) (Nat.le_of_ble_eq_true rfl) (Nat.le_of_ble_eq_true rfl) rfl (Nat.le_of_ble_eq_true rfl) dX10_sees_34 rfl (fun r7 hr7 pr7 => ?_)
      obtain ⟨rfl, rfl⟩ := pr7
      refine g_iconst (v := 1) dX10_sees_37 (by decide) rfl ?_
      subst hF
      exact g_zret rfl dX10_sees_38 (by decide) (Nat.le_of_ble_eq_true rfl) (Nat.le_of_ble_eq_true rfl) ⟨rfl, rfl⟩
  · replace hF := ite_n hF c1
    try replace hQ := ite_r hQ c1
    refine g_iconst (v := 0) dX10_sees_7 (by decide) rfl ?_
    subst hF
    exact g_zret rfl dX10_sees_8 (by decide) (Nat.le_of_ble_eq_true rfl) (Nat.le_of_ble_eq_true rfl) ⟨rfl, rfl⟩
noncomputable def Fr_X10_isHeld (σ : gS) (p0 : Int32) (p1 : Int32) : Int32 :=
  if (lg_cmp (F_X10_field σ p0 p1 (7 : Int32) (2 : Int32)) (F_X10_field σ p0 (0 : Int32) (1 : Int32) (2 : Int32))) = 0 then
    if (lg_cmp (F_X10_field σ p0 p1 (9 : Int32) (4 : Int32)) (F_X10_field σ p0 (0 : Int32) (3 : Int32) (4 : Int32))) = 0 then
      (1 : Int32)
    else
      (0 : Int32)
  else
    (0 : Int32)
noncomputable def F_X10_isHeld : gS → Int32 → Int32 → Int32 := Classical.choose (⟨Fr_X10_isHeld, rfl⟩ : ∃ f : gS → Int32 → Int32 → Int32, f = Fr_X10_isHeld)
theorem F_X10_isHeld_eq : F_X10_isHeld = Fr_X10_isHeld := Classical.choose_spec (⟨Fr_X10_isHeld, rfl⟩ : ∃ f : gS → Int32 → Int32 → Int32, f = Fr_X10_isHeld)
def Q_X10_isHeld (σ : gS) (p0 : Int32) (p1 : Int32) : Prop :=
  (Q_X10_field σ p0 p1 (7 : Int32) (2 : Int32)) ∧ ((Q_X10_field σ p0 (0 : Int32) (1 : Int32) (2 : Int32)) ∧ (if (lg_cmp (F_X10_field σ p0 p1 (7 : Int32) (2 : Int32)) (F_X10_field σ p0 (0 : Int32) (1 : Int32) (2 : Int32))) = 0 then
    ((Q_X10_field σ p0 p1 (9 : Int32) (4 : Int32)) ∧ ((Q_X10_field σ p0 (0 : Int32) (3 : Int32) (4 : Int32)) ∧ (if (lg_cmp (F_X10_field σ p0 p1 (9 : Int32) (4 : Int32)) (F_X10_field σ p0 (0 : Int32) (3 : Int32) (4 : Int32))) = 0 then
      (True)
    else
      (True))))
  else
    (True)))
set_option maxHeartbeats 4000000 in
set_option maxRecDepth 100000 in
theorem c_X10_isHeld (l : Launch) (g : gE)  {σ : gS} {ζ : gQ} (p0 : Int32) (p1 : Int32) (hQ : Q_X10_isHeld σ p0 p1) : gC l g mX10_isHeld (rm 1 27) [.ref 199, .int p0, .int p1] (hp σ ζ) (fun r h => r = some (.int (F_X10_isHeld σ p0 p1)) ∧ h = hp σ ζ) := by
  refine gC_of (by decide) (Nat.le_of_ble_eq_true rfl) ?_
  generalize hF : (F_X10_isHeld σ p0 p1) = fr
  rw [F_X10_isHeld_eq] at hF
  unfold Fr_X10_isHeld at hF
  unfold Q_X10_isHeld at hQ
  refine g_aload_n dX10_isHeld_0 rfl rfl rfl ?_
  refine g_iload_n dX10_isHeld_1 rfl rfl rfl ?_
  refine g_iload_n dX10_isHeld_2 rfl rfl rfl ?_
  refine g_bipush (v := 7) dX10_isHeld_3 (by decide) rfl ?_
  refine g_iconst (v := 2) dX10_isHeld_5 (by decide) rfl ?_
  have o1 := hQ.1
  replace hQ := hQ.2
  refine g_callv mv_X10_field ml_X10_170 (c_X10_field l g _ _ _ _ o1) (ho_199 _ _) rfl rfl (Nat.le_of_ble_eq_true rfl) (Nat.le_of_ble_eq_true rfl) (Nat.le_of_ble_eq_true rfl) (Nat.le_of_ble_eq_true rfl) rfl (Nat.le_of_ble_eq_true rfl) dX10_isHeld_6 rfl (fun r2 hr2 pr2 => ?_)
  obtain ⟨rfl, rfl⟩ := pr2
  refine g_aload_n dX10_isHeld_9 rfl rfl rfl ?_
  refine g_iload_n dX10_isHeld_10 rfl rfl rfl ?_
  refine g_iconst (v := 0) dX10_isHeld_11 (by decide) rfl ?_
  refine g_iconst (v := 1) dX10_isHeld_12 (by decide) rfl ?_
  refine g_iconst (v := 2) dX10_isHeld_13 (by decide) rfl ?_
  have o3 := hQ.1
  replace hQ := hQ.2
  refine g_callv mv_X10_field ml_X10_170 (c_X10_field l g _ _ _ _ o3) (ho_199 _ _) rfl rfl (Nat.le_of_ble_eq_true rfl) (Nat.le_of_ble_eq_true rfl) (Nat.le_of_ble_eq_true rfl) (Nat.le_of_ble_eq_true rfl) rfl (Nat.le_of_ble_eq_true rfl) dX10_isHeld_14 rfl (fun r4 hr4 pr4 => ?_)
  obtain ⟨rfl, rfl⟩ := pr4
  refine g_lcmp dX10_isHeld_17 rfl ?_
  refine g_ifne (tgt := 46) dX10_isHeld_18 (by decide) rfl (fun c5 => ?_) (fun c5 => ?_)
  · replace hF := ite_n hF c5
    try replace hQ := ite_r hQ c5
    refine g_iconst (v := 0) dX10_isHeld_46 (by decide) rfl ?_
    subst hF
    exact g_zret rfl dX10_isHeld_47 (by decide) (Nat.le_of_ble_eq_true rfl) (Nat.le_of_ble_eq_true rfl) ⟨rfl, rfl⟩
  · replace hF := ite_p hF c5
    try replace hQ := ite_q hQ c5
    refine g_aload_n dX10_isHeld_21 rfl rfl rfl ?_
    refine g_iload_n dX10_isHeld_22 rfl rfl rfl ?_
    refine g_iload_n dX10_isHeld_23 rfl rfl rfl ?_
    refine g_bipush (v := 9) dX10_isHeld_24 (by decide) rfl ?_
    refine g_iconst (v := 4) dX10_isHeld_26 (by decide) rfl ?_
    have o6 := hQ.1
    replace hQ := hQ.2
    refine g_callv mv_X10_field ml_X10_170 (c_X10_field l g _ _ _ _ o6) (ho_199 _ _) rfl rfl (Nat.le_of_ble_eq_true rfl) (Nat.le_of_ble_eq_true rfl) (Nat.le_of_ble_eq_true rfl) (Nat.le_of_ble_eq_true rfl) rfl (Nat.le_of_ble_eq_true rfl) dX10_isHeld_27 rfl (fun r7 hr7 pr7 => ?_)
    obtain ⟨rfl, rfl⟩ := pr7
    refine g_aload_n dX10_isHeld_30 rfl rfl rfl ?_
    refine g_iload_n dX10_isHeld_31 rfl rfl rfl ?_
    refine g_iconst (v := 0) dX10_isHeld_32 (by decide) rfl ?_
    refine g_iconst (v := 3) dX10_isHeld_33 (by decide) rfl ?_
    refine g_iconst (v := 4) dX10_isHeld_34 (by decide) rfl ?_
    have o8 := hQ.1
    replace hQ := hQ.2
    refine g_callv mv_X10_field ml_X10_170 (c_X10_field l g _ _ _ _ o8) (ho_199 _ _) rfl rfl (Nat.le_of_ble_eq_true rfl) (Nat.le_of_ble_eq_true rfl) (Nat.le_of_ble_eq_true rfl) (Nat.le_of_ble_eq_true rfl) rfl (Nat.le_of_ble_eq_true rfl) dX10_isHeld_35 rfl (fun r9 hr9 pr9 => ?_)
    obtain ⟨rfl, rfl⟩ := pr9
    refine g_lcmp dX10_isHeld_38 rfl ?_
    refine g_ifne (tgt := 46) dX10_isHeld_39 (by decide) rfl (fun c10 => ?_) (fun c10 => ?_)
    · replace hF := ite_n hF c10
      try replace hQ := ite_r hQ c10
      refine g_iconst (v := 0) dX10_isHeld_46 (by decide) rfl ?_
      subst hF
      exact g_zret rfl dX10_isHeld_47 (by decide) (Nat.le_of_ble_eq_true rfl) (Nat.le_of_ble_eq_true rfl) ⟨rfl, rfl⟩
    · replace hF := ite_p hF c10
      try replace hQ := ite_q hQ c10
      refine g_iconst (v := 1) dX10_isHeld_42 (by decide) rfl ?_
      refine g_goto (tgt := 47) dX10_isHeld_43 (by decide) ?_
      subst hF
      exact g_zret rfl dX10_isHeld_47 (by decide) (Nat.le_of_ble_eq_true rfl) (Nat.le_of_ble_eq_true rfl) ⟨rfl, rfl⟩
noncomputable def Fr_X10_hasPass (σ : gS) (ζ : gQ) (p0 : Int32) : Int32 × gS :=
  let f3 := (F_X10_isGood σ ζ p0 (3 : Int32))
  if f3.1 = 0 then
    ((0 : Int32), f3.2)
  else
    if (lg_cmp (F_X10_field f3.2 p0 (3 : Int32) (1 : Int32) (2 : Int32)) (f3.2 199 18).toInt64) = 0 then
      let f10 := (F_X10_isGood f3.2 ζ p0 (0 : Int32))
      if f10.1 = 0 then
        ((0 : Int32), f10.2)
      else
        if (F_X10_isHeld f10.2 p0 (3 : Int32)) = 0 then
          ((0 : Int32), f10.2)
        else
          ((1 : Int32), f10.2)
    else
      ((0 : Int32), f3.2)
noncomputable def F_X10_hasPass : gS → gQ → Int32 → Int32 × gS := Classical.choose (⟨Fr_X10_hasPass, rfl⟩ : ∃ f : gS → gQ → Int32 → Int32 × gS, f = Fr_X10_hasPass)
theorem F_X10_hasPass_eq : F_X10_hasPass = Fr_X10_hasPass := Classical.choose_spec (⟨Fr_X10_hasPass, rfl⟩ : ∃ f : gS → gQ → Int32 → Int32 × gS, f = Fr_X10_hasPass)
def Q_X10_hasPass (σ : gS) (ζ : gQ) (p0 : Int32) : Prop :=
  (Q_X10_isGood σ ζ p0 (3 : Int32)) ∧ (let f3 := (F_X10_isGood σ ζ p0 (3 : Int32))
  if f3.1 = 0 then
    (True)
  else
    ((Q_X10_field f3.2 p0 (3 : Int32) (1 : Int32) (2 : Int32)) ∧ (if (lg_cmp (F_X10_field f3.2 p0 (3 : Int32) (1 : Int32) (2 : Int32)) (f3.2 199 18).toInt64) = 0 then
      ((Q_X10_isGood f3.2 ζ p0 (0 : Int32)) ∧ (let f10 := (F_X10_isGood f3.2 ζ p0 (0 : Int32))
      if f10.1 = 0 then
        (True)
      else
        ((Q_X10_isHeld f10.2 p0 (3 : Int32)) ∧ (if (F_X10_isHeld f10.2 p0 (3 : Int32)) = 0 then
          (True)
        else
          (True)))))
    else
      (True))))
set_option maxHeartbeats 4000000 in
set_option maxRecDepth 100000 in
theorem c_X10_hasPass (l : Launch) (g : gE)  {σ : gS} {ζ : gQ} (p0 : Int32) (hQ : Q_X10_hasPass σ ζ p0) : gC l g mX10_hasPass (rm 6 178) [.ref 199, .int p0] (hp σ ζ) (fun r h => r = some (.int (F_X10_hasPass σ ζ p0).1) ∧ h = hp (F_X10_hasPass σ ζ p0).2 ζ) := by
  refine gC_of (by decide) (Nat.le_of_ble_eq_true rfl) ?_
  generalize hF : (F_X10_hasPass σ ζ p0) = fr
  rw [F_X10_hasPass_eq] at hF
  unfold Fr_X10_hasPass at hF
  unfold Q_X10_hasPass at hQ
  refine g_aload_n dX10_hasPass_0 rfl rfl rfl ?_
  refine g_iload_n dX10_hasPass_1 rfl rfl rfl ?_
  refine g_iconst (v := 3) dX10_hasPass_2 (by decide) rfl ?_
  have o1 := hQ.1
  replace hQ := hQ.2
  refine g_callv mv_X10_isGood ml_X10_185 (c_X10_isGood l g _ _ o1) (ho_199 _ _) rfl rfl (Nat.le_of_ble_eq_true rfl) (Nat.le_of_ble_eq_true rfl) (Nat.le_of_ble_eq_true rfl) (Nat.le_of_ble_eq_true rfl) rfl (Nat.le_of_ble_eq_true rfl) dX10_hasPass_3 rfl (fun r2 hr2 pr2 => ?_)
  obtain ⟨rfl, rfl⟩ := pr2
  refine g_ifeq (tgt := 48) dX10_hasPass_6 (by decide) rfl (fun c4 => ?_) (fun c4 => ?_)
  · replace hF := ite_p hF c4
    try replace hQ := ite_q hQ c4
    refine g_iconst (v := 0) dX10_hasPass_48 (by decide) rfl ?_
    subst hF
    exact g_zret rfl dX10_hasPass_49 (by decide) (Nat.le_of_ble_eq_true rfl) (Nat.le_of_ble_eq_true rfl) ⟨rfl, rfl⟩
  · replace hF := ite_n hF c4
    try replace hQ := ite_r hQ c4
    refine g_aload_n dX10_hasPass_9 rfl rfl rfl ?_
    refine g_iload_n dX10_hasPass_10 rfl rfl rfl ?_
    refine g_iconst (v := 3) dX10_hasPass_11 (by decide) rfl ?_
    refine g_iconst (v := 1) dX10_hasPass_12 (by decide) rfl ?_
    refine g_iconst (v := 2) dX10_hasPass_13 (by decide) rfl ?_
    have o5 := hQ.1
    replace hQ := hQ.2
    refine g_callv mv_X10_field ml_X10_170 (c_X10_field l g _ _ _ _ o5) (ho_199 _ _) rfl rfl (Nat.le_of_ble_eq_true rfl) (Nat.le_of_ble_eq_true rfl) (Nat.le_of_ble_eq_true rfl) (Nat.le_of_ble_eq_true rfl) rfl (Nat.le_of_ble_eq_true rfl) dX10_hasPass_14 rfl (fun r6 hr6 pr6 => ?_)
    obtain ⟨rfl, rfl⟩ := pr6
    refine g_aload_n dX10_hasPass_17 rfl rfl rfl ?_
    refine g_get gClX10 18 (by decide) fl_X10_88 dX10_hasPass_18 (ho_199 _ _) rfl rfl ?_
    refine g_i2l dX10_hasPass_21 rfl ?_
    refine g_lcmp dX10_hasPass_22 rfl ?_
    refine g_ifne (tgt := 48) dX10_hasPass_23 (by decide) rfl (fun c7 => ?_) (fun c7 => ?_)
    · replace hF := ite_n hF c7
      try replace hQ := ite_r hQ c7
      refine g_iconst (v := 0) dX10_hasPass_48 (by decide) rfl ?_
      subst hF
      exact g_zret rfl dX10_hasPass_49 (by decide) (Nat.le_of_ble_eq_true rfl) (Nat.le_of_ble_eq_true rfl) ⟨rfl, rfl⟩
    · replace hF := ite_p hF c7
      try replace hQ := ite_q hQ c7
      refine g_aload_n dX10_hasPass_26 rfl rfl rfl ?_
      refine g_iload_n dX10_hasPass_27 rfl rfl rfl ?_
      refine g_iconst (v := 0) dX10_hasPass_28 (by decide) rfl ?_
      have o8 := hQ.1
      replace hQ := hQ.2
      refine g_callv mv_X10_isGood ml_X10_185 (c_X10_isGood l g _ _ o8) (ho_199 _ _) rfl rfl (Nat.le_of_ble_eq_true rfl) (Nat.le_of_ble_eq_true rfl) (Nat.le_of_ble_eq_true rfl) (Nat.le_of_ble_eq_true rfl) rfl (Nat.le_of_ble_eq_true rfl) dX10_hasPass_29 rfl (fun r9 hr9 pr9 => ?_)
      obtain ⟨rfl, rfl⟩ := pr9
      refine g_ifeq (tgt := 48) dX10_hasPass_32 (by decide) rfl (fun c11 => ?_) (fun c11 => ?_)
      · replace hF := ite_p hF c11
        try replace hQ := ite_q hQ c11
        refine g_iconst (v := 0) dX10_hasPass_48 (by decide) rfl ?_
        subst hF
        exact g_zret rfl dX10_hasPass_49 (by decide) (Nat.le_of_ble_eq_true rfl) (Nat.le_of_ble_eq_true rfl) ⟨rfl, rfl⟩
      · replace hF := ite_n hF c11
        try replace hQ := ite_r hQ c11
        refine g_aload_n dX10_hasPass_35 rfl rfl rfl ?_
        refine g_iload_n dX10_hasPass_36 rfl rfl rfl ?_
        refine g_iconst (v := 3) dX10_hasPass_37 (by decide) rfl ?_
        have o12 := hQ.1
        replace hQ := hQ.2
        refine g_callv mv_X10_isHeld ml_X10_189 (c_X10_isHeld l g _ _ o12) (ho_199 _ _) rfl rfl (Nat.le_of_ble_eq_true rfl) (Nat.le_of_ble_eq_true rfl) (Nat.le_of_ble_eq_true rfl) (Nat.le_of_ble_eq_true rfl) rfl (Nat.le_of_ble_eq_true rfl) dX10_hasPass_38 rfl (fun r13 hr13 pr13 => ?_)
        obtain ⟨rfl, rfl⟩ := pr13
        refine g_ifeq (tgt := 48) dX10_hasPass_41 (by decide) rfl (fun c14 => ?_) (fun c14 => ?_)
        · replace hF := ite_p hF c14
          try replace hQ := ite_q hQ c14
          refine g_iconst (v := 0) dX10_hasPass_48 (by decide) rfl ?_
          subst hF
          exact g_zret rfl dX10_hasPass_49 (by decide) (Nat.le_of_ble_eq_true rfl) (Nat.le_of_ble_eq_true rfl) ⟨rfl, rfl⟩
        · replace hF := ite_n hF c14
          try replace hQ := ite_r hQ c14
          refine g_iconst (v := 1) dX10_hasPass_44 (by decide) rfl ?_
          refine g_goto (tgt := 49) dX10_hasPass_45 (by decide) ?_
          subst hF
          exact g_zret rfl dX10_hasPass_49 (by decide) (Nat.le_of_ble_eq_true rfl) (Nat.le_of_ble_eq_true rfl) ⟨rfl, rfl⟩
noncomputable def J_X10_isLost_66 (p0 : Int32) (σ : gS) (ζ : gQ) : Int32 × gS × gQ :=
  let f8 := (F_X10_put_ σ ζ (48 : Int32) (1 : Int32) p0)
  if f8.1 = 0 then
    ((1 : Int32), f8.2.1, f8.2.2)
  else
    let s10 := (pf f8.2.1 199 48 (-1 : Int32) : gS)
    let s12 := (F_X10_insideTo s10 (4 : Int32) (4 : Int32))
    ((1 : Int32), s12, f8.2.2)
def QJ_X10_isLost_66 (p0 : Int32) (σ : gS) (ζ : gQ) : Prop :=
  (Q_X10_put_ σ ζ (48 : Int32) (1 : Int32) p0) ∧ (let f8 := (F_X10_put_ σ ζ (48 : Int32) (1 : Int32) p0)
  if f8.1 = 0 then
    (True)
  else
    (let s10 := (pf f8.2.1 199 48 (-1 : Int32) : gS)
    let s12 := (F_X10_insideTo s10 (4 : Int32) (4 : Int32))
    True))
set_option maxHeartbeats 4000000 in
set_option maxRecDepth 100000 in
theorem j_X10_isLost_66 (l : Launch) (g : gE) {p0 : Int32} {fr : Int32 × gS × gQ} : ∀ (σ : gS) (ζ : gQ), QJ_X10_isLost_66 p0 σ ζ → J_X10_isLost_66 p0 σ ζ = fr → gG l g mX10_isLost (rm 7 203) (gZm g (rm 7 203) (fun r h => r = some (.int fr.1) ∧ h = hp fr.2.1 fr.2.2)) 66 [(0, .ref 199), (1, .int p0)] [] (hp σ ζ) 0 0 := by
  intro σ ζ hQ hF
  unfold J_X10_isLost_66 at hF
  unfold QJ_X10_isLost_66 at hQ
  refine g_aload_n dX10_isLost_66 rfl rfl rfl ?_
  refine g_bipush (v := 48) dX10_isLost_67 (by decide) rfl ?_
  refine g_iconst (v := 1) dX10_isLost_69 (by decide) rfl ?_
  refine g_iload_n dX10_isLost_70 rfl rfl rfl ?_
  have o6 := hQ.1
  replace hQ := hQ.2
  refine g_callv mv_X10_put_ ml_X10_239 (c_X10_put_ l g _ _ _ o6) (ho_199 _ _) rfl rfl (Nat.le_of_ble_eq_true rfl) (Nat.le_of_ble_eq_true rfl) (Nat.le_of_ble_eq_true rfl) (Nat.le_of_ble_eq_true rfl) rfl (Nat.le_of_ble_eq_true rfl) dX10_isLost_71 rfl (fun r7 hr7 pr7 => ?_)
  obtain ⟨rfl, rfl⟩ := pr7
  refine g_ifeq (tgt := 88) dX10_isLost_74 (by decide) rfl (fun c9 => ?_) (fun c9 => ?_)
  · replace hF := ite_p hF c9
    try replace hQ := ite_q hQ c9
    refine g_iconst (v := 1) dX10_isLost_88 (by decide) rfl ?_
    subst hF
    exact g_zret rfl dX10_isLost_89 (by decide) (Nat.le_of_ble_eq_true rfl) (Nat.le_of_ble_eq_true rfl) ⟨rfl, rfl⟩
  · replace hF := ite_n hF c9
    try replace hQ := ite_r hQ c9
    refine g_aload_n dX10_isLost_77 rfl rfl rfl ?_
    refine g_iconst (v := (-1)) dX10_isLost_78 (by decide) rfl ?_
    refine g_put gClX10 48 (by decide) fl_X10_85 rfl dX10_isLost_79 (ho_199 _ _) rfl rfl (Nat.le_of_ble_eq_true rfl) po_199_48 rfl ?_
    refine g_aload_n dX10_isLost_82 rfl rfl rfl ?_
    refine g_iconst (v := 4) dX10_isLost_83 (by decide) rfl ?_
    refine g_iconst (v := 4) dX10_isLost_84 (by decide) rfl ?_
    refine g_callv mv_X10_insideTo ml_X10_325 (c_X10_insideTo l g _ _) (ho_199 _ _) rfl rfl (Nat.le_of_ble_eq_true rfl) (Nat.le_of_ble_eq_true rfl) (Nat.le_of_ble_eq_true rfl) (Nat.le_of_ble_eq_true rfl) rfl (Nat.le_of_ble_eq_true rfl) dX10_isLost_85 rfl (fun r11 hr11 pr11 => ?_)
    obtain ⟨rfl, rfl⟩ := pr11
    refine g_iconst (v := 1) dX10_isLost_88 (by decide) rfl ?_
    subst hF
    exact g_zret rfl dX10_isLost_89 (by decide) (Nat.le_of_ble_eq_true rfl) (Nat.le_of_ble_eq_true rfl) ⟨rfl, rfl⟩
noncomputable def Fr_X10_isLost (σ : gS) (ζ : gQ) (p0 : Int32) : Int32 × gS × gQ :=
  if (σ 199 21) = (σ 199 47) then
    let f4 := (F_X10_hasPass σ ζ p0)
    if f4.1 = 0 then
      J_X10_isLost_66 p0 f4.2 ζ
    else
      if (lg_cmp (F_X10_field f4.2 p0 (3 : Int32) (21 : Int32) (1 : Int32)) (f4.2 199 48).toInt64) = 0 then
        ((0 : Int32), f4.2, ζ)
      else
        J_X10_isLost_66 p0 f4.2 ζ
  else
    let f18 := (F_X10_put_ σ ζ (47 : Int32) (0 : Int32) p0)
    if f18.1 = 0 then
      ((1 : Int32), f18.2.1, f18.2.2)
    else
      let s20 := (pf f18.2.1 199 48 (-1 : Int32) : gS)
      let s22 := (F_X10_insideTo s20 (2 : Int32) (1 : Int32))
      let s23 := (pf s22 199 47 (-1 : Int32) : gS)
      ((1 : Int32), s23, f18.2.2)
noncomputable def F_X10_isLost : gS → gQ → Int32 → Int32 × gS × gQ := Classical.choose (⟨Fr_X10_isLost, rfl⟩ : ∃ f : gS → gQ → Int32 → Int32 × gS × gQ, f = Fr_X10_isLost)
theorem F_X10_isLost_eq : F_X10_isLost = Fr_X10_isLost := Classical.choose_spec (⟨Fr_X10_isLost, rfl⟩ : ∃ f : gS → gQ → Int32 → Int32 × gS × gQ, f = Fr_X10_isLost)
def Q_X10_isLost (σ : gS) (ζ : gQ) (p0 : Int32) : Prop :=
  if (σ 199 21) = (σ 199 47) then
    ((Q_X10_hasPass σ ζ p0) ∧ (let f4 := (F_X10_hasPass σ ζ p0)
    if f4.1 = 0 then
      (QJ_X10_isLost_66 p0 f4.2 ζ)
    else
      ((Q_X10_field f4.2 p0 (3 : Int32) (21 : Int32) (1 : Int32)) ∧ (if (lg_cmp (F_X10_field f4.2 p0 (3 : Int32) (21 : Int32) (1 : Int32)) (f4.2 199 48).toInt64) = 0 then
        (True)
      else
        (QJ_X10_isLost_66 p0 f4.2 ζ)))))
  else
    ((Q_X10_put_ σ ζ (47 : Int32) (0 : Int32) p0) ∧ (let f18 := (F_X10_put_ σ ζ (47 : Int32) (0 : Int32) p0)
    if f18.1 = 0 then
      (True)
    else
      (let s20 := (pf f18.2.1 199 48 (-1 : Int32) : gS)
      let s22 := (F_X10_insideTo s20 (2 : Int32) (1 : Int32))
      let s23 := (pf s22 199 47 (-1 : Int32) : gS)
      True)))
set_option maxHeartbeats 4000000 in
set_option maxRecDepth 100000 in
theorem c_X10_isLost (l : Launch) (g : gE)  {σ : gS} {ζ : gQ} (p0 : Int32) (hQ : Q_X10_isLost σ ζ p0) : gC l g mX10_isLost (rm 7 203) [.ref 199, .int p0] (hp σ ζ) (fun r h => r = some (.int (F_X10_isLost σ ζ p0).1) ∧ h = hp (F_X10_isLost σ ζ p0).2.1 (F_X10_isLost σ ζ p0).2.2) := by
  refine gC_of (by decide) (Nat.le_of_ble_eq_true rfl) ?_
  generalize hF : (F_X10_isLost σ ζ p0) = fr
  rw [F_X10_isLost_eq] at hF
  unfold Fr_X10_isLost at hF
  unfold Q_X10_isLost at hQ
  refine g_aload_n dX10_isLost_0 rfl rfl rfl ?_
  refine g_get gClX10 21 (by decide) fl_X10_73 dX10_isLost_1 (ho_199 _ _) rfl rfl ?_
  refine g_aload_n dX10_isLost_4 rfl rfl rfl ?_
  refine g_get gClX10 47 (by decide) fl_X10_94 dX10_isLost_5 (ho_199 _ _) rfl rfl ?_
  refine g_icmpeq (tgt := 40) dX10_isLost_8 (by decide) rfl (fun c1 => ?_) (fun c1 => ?_)
  · replace hF := ite_p hF c1
    try replace hQ := ite_q hQ c1
    refine g_aload_n dX10_isLost_40 rfl rfl rfl ?_
    refine g_iload_n dX10_isLost_41 rfl rfl rfl ?_
    have o2 := hQ.1
    replace hQ := hQ.2
    refine g_callv mv_X10_hasPass ml_X10_293 (c_X10_hasPass l g _ o2) (ho_199 _ _) rfl rfl (Nat.le_of_ble_eq_true rfl) (Nat.le_of_ble_eq_true rfl) (Nat.le_of_ble_eq_true rfl) (Nat.le_of_ble_eq_true rfl) rfl (Nat.le_of_ble_eq_true rfl) dX10_isLost_42 rfl (fun r3 hr3 pr3 => ?_)
    obtain ⟨rfl, rfl⟩ := pr3
    refine g_ifeq (tgt := 66) dX10_isLost_45 (by decide) rfl (fun c5 => ?_) (fun c5 => ?_)
    · replace hF := ite_p hF c5
      try replace hQ := ite_q hQ c5
      refine g_sub [0, 1] rfl ?_
      exact j_X10_isLost_66 l g _ _ hQ hF
    · replace hF := ite_n hF c5
      try replace hQ := ite_r hQ c5
      refine g_aload_n dX10_isLost_48 rfl rfl rfl ?_
      refine g_iload_n dX10_isLost_49 rfl rfl rfl ?_
      refine g_iconst (v := 3) dX10_isLost_50 (by decide) rfl ?_
      refine g_bipush (v := 21) dX10_isLost_51 (by decide) rfl ?_
      refine g_iconst (v := 1) dX10_isLost_53 (by decide) rfl ?_
      have o13 := hQ.1
      replace hQ := hQ.2
      refine g_callv mv_X10_field ml_X10_170 (c_X10_field l g _ _ _ _ o13) (ho_199 _ _) rfl rfl (Nat.le_of_ble_eq_true rfl) (Nat.le_of_ble_eq_true rfl) (Nat.le_of_ble_eq_true rfl) (Nat.le_of_ble_eq_true rfl) rfl (Nat.le_of_ble_eq_true rfl) dX10_isLost_54 rfl (fun r14 hr14 pr14 => ?_)
      obtain ⟨rfl, rfl⟩ := pr14
      refine g_aload_n dX10_isLost_57 rfl rfl rfl ?_
      refine g_get gClX10 48 (by decide) fl_X10_85 dX10_isLost_58 (ho_199 _ _) rfl rfl ?_
      refine g_i2l dX10_isLost_61 rfl ?_
      refine g_lcmp dX10_isLost_62 rfl ?_
      refine g_ifeq (tgt := 90) dX10_isLost_63 (by decide) rfl (fun c15 => ?_) (fun c15 => ?_)
      · replace hF := ite_p hF c15
        try replace hQ := ite_q hQ c15
        refine g_iconst (v := 0) dX10_isLost_90 (by decide) rfl ?_
        subst hF
        exact g_zret rfl dX10_isLost_91 (by decide) (Nat.le_of_ble_eq_true rfl) (Nat.le_of_ble_eq_true rfl) ⟨rfl, rfl⟩
      · replace hF := ite_n hF c15
        try replace hQ := ite_r hQ c15
        refine g_sub [0, 1] rfl ?_
        exact j_X10_isLost_66 l g _ _ hQ hF
  · replace hF := ite_n hF c1
    try replace hQ := ite_r hQ c1
    refine g_aload_n dX10_isLost_11 rfl rfl rfl ?_
    refine g_bipush (v := 47) dX10_isLost_12 (by decide) rfl ?_
    refine g_iconst (v := 0) dX10_isLost_14 (by decide) rfl ?_
    refine g_iload_n dX10_isLost_15 rfl rfl rfl ?_
    have o16 := hQ.1
    replace hQ := hQ.2
    refine g_callv mv_X10_put_ ml_X10_239 (c_X10_put_ l g _ _ _ o16) (ho_199 _ _) rfl rfl (Nat.le_of_ble_eq_true rfl) (Nat.le_of_ble_eq_true rfl) (Nat.le_of_ble_eq_true rfl) (Nat.le_of_ble_eq_true rfl) rfl (Nat.le_of_ble_eq_true rfl) dX10_isLost_16 rfl (fun r17 hr17 pr17 => ?_)
    obtain ⟨rfl, rfl⟩ := pr17
    refine g_ifeq (tgt := 38) dX10_isLost_19 (by decide) rfl (fun c19 => ?_) (fun c19 => ?_)
    · replace hF := ite_p hF c19
      try replace hQ := ite_q hQ c19
      refine g_iconst (v := 1) dX10_isLost_38 (by decide) rfl ?_
      subst hF
      exact g_zret rfl dX10_isLost_39 (by decide) (Nat.le_of_ble_eq_true rfl) (Nat.le_of_ble_eq_true rfl) ⟨rfl, rfl⟩
    · replace hF := ite_n hF c19
      try replace hQ := ite_r hQ c19
      refine g_aload_n dX10_isLost_22 rfl rfl rfl ?_
      refine g_iconst (v := (-1)) dX10_isLost_23 (by decide) rfl ?_
      refine g_put gClX10 48 (by decide) fl_X10_85 rfl dX10_isLost_24 (ho_199 _ _) rfl rfl (Nat.le_of_ble_eq_true rfl) po_199_48 rfl ?_
      refine g_aload_n dX10_isLost_27 rfl rfl rfl ?_
      refine g_iconst (v := 2) dX10_isLost_28 (by decide) rfl ?_
      refine g_iconst (v := 1) dX10_isLost_29 (by decide) rfl ?_
      refine g_callv mv_X10_insideTo ml_X10_325 (c_X10_insideTo l g _ _) (ho_199 _ _) rfl rfl (Nat.le_of_ble_eq_true rfl) (Nat.le_of_ble_eq_true rfl) (Nat.le_of_ble_eq_true rfl) (Nat.le_of_ble_eq_true rfl) rfl (Nat.le_of_ble_eq_true rfl) dX10_isLost_30 rfl (fun r21 hr21 pr21 => ?_)
      obtain ⟨rfl, rfl⟩ := pr21
      refine g_aload_n dX10_isLost_33 rfl rfl rfl ?_
      refine g_iconst (v := (-1)) dX10_isLost_34 (by decide) rfl ?_
      refine g_put gClX10 47 (by decide) fl_X10_94 rfl dX10_isLost_35 (ho_199 _ _) rfl rfl (Nat.le_of_ble_eq_true rfl) po_199_47 rfl ?_
      refine g_iconst (v := 1) dX10_isLost_38 (by decide) rfl ?_
      subst hF
      exact g_zret rfl dX10_isLost_39 (by decide) (Nat.le_of_ble_eq_true rfl) (Nat.le_of_ble_eq_true rfl) ⟨rfl, rfl⟩
