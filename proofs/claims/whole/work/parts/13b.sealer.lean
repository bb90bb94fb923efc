noncomputable def G_X7_spreadWords_L87 (p0 : Int32) : Nat → Int32 → gS → gS
  | 0, _, σ => σ
  | n + 1, y2, σ =>
    if (64 : Int32) ≤ y2 then
      σ
    else
      let v4 := (σ 10 (ix (y2 - (15 : Int32))))
      let v6 := (σ 10 (ix (y2 - (2 : Int32))))
      let v7 := ((((ush v4 (7 : Int32)) ||| (v4 <<< ((25 : Int32) &&& 31))) ^^^ ((ush v4 (18 : Int32)) ||| (v4 <<< ((14 : Int32) &&& 31)))) ^^^ (ush v4 (3 : Int32)))
      let v8 := ((((ush v6 (17 : Int32)) ||| (v6 <<< ((15 : Int32) &&& 31))) ^^^ ((ush v6 (19 : Int32)) ||| (v6 <<< ((13 : Int32) &&& 31)))) ^^^ (ush v6 (10 : Int32)))
      let s12 := (pf σ 10 (ix y2) ((((σ 10 (ix (y2 - (16 : Int32)))) + v7) + (σ 10 (ix (y2 - (7 : Int32))))) + v8) : gS)
      G_X7_spreadWords_L87 p0 n (y2 + Int32.ofInt (1)) s12
def QG_X7_spreadWords_L87 (p0 : Int32) : Nat → Int32 → gS → Prop
  | 0, _, _ => False
  | n + 1, y2, σ =>
    if (64 : Int32) ≤ y2 then
      (True)
    else
      (vp_in (y2 - (15 : Int32)) 64 ∧ (let v4 := (σ 10 (ix (y2 - (15 : Int32))))
      vp_in (y2 - (2 : Int32)) 64 ∧ (let v6 := (σ 10 (ix (y2 - (2 : Int32))))
      let v7 := ((((ush v4 (7 : Int32)) ||| (v4 <<< ((25 : Int32) &&& 31))) ^^^ ((ush v4 (18 : Int32)) ||| (v4 <<< ((14 : Int32) &&& 31)))) ^^^ (ush v4 (3 : Int32)))
      let v8 := ((((ush v6 (17 : Int32)) ||| (v6 <<< ((15 : Int32) &&& 31))) ^^^ ((ush v6 (19 : Int32)) ||| (v6 <<< ((13 : Int32) &&& 31)))) ^^^ (ush v6 (10 : Int32)))
      vp_in (y2 - (16 : Int32)) 64 ∧ (vp_in (y2 - (7 : Int32)) 64 ∧ (vp_in y2 64 ∧ (let s12 := (pf σ 10 (ix y2) ((((σ 10 (ix (y2 - (16 : Int32)))) + v7) + (σ 10 (ix (y2 - (7 : Int32))))) + v8) : gS)
      QG_X7_spreadWords_L87 p0 n (y2 + Int32.ofInt (1)) s12))))))
set_option maxHeartbeats 4000000 in
set_option maxRecDepth 100000 in
theorem t_X7_spreadWords_L87 (l : Launch) (g : gE) {p0 : Int32} {ζ : gQ} {fr : gS} : ∀ (n : Nat) (y2 : Int32) (σ : gS), QG_X7_spreadWords_L87 p0 n y2 σ → G_X7_spreadWords_L87 p0 n y2 σ = fr → gG l g mX7_spreadWords (rm 0 0) (gZm g (rm 0 0) (fun r h => r = none ∧ h = hp fr ζ)) 87 [(0, .ref 7), (1, .int p0), (2, .int y2)] [] (hp σ ζ) 0 0 := by
  intro n
  induction n with
  | zero => intro y2 σ hQ; exact absurd hQ (by unfold QG_X7_spreadWords_L87; exact id)
  | succ n ihL87 =>
    intro y2 σ hQ hF
    unfold G_X7_spreadWords_L87 at hF
    unfold QG_X7_spreadWords_L87 at hQ
    refine g_iload_n dX7_spreadWords_87 rfl rfl rfl ?_
    refine g_bipush (v := 64) dX7_spreadWords_88 (by decide) rfl ?_
    refine g_icmpge (tgt := 206) dX7_spreadWords_90 (by decide) rfl (fun c2 => ?_) (fun c2 => ?_)
    · replace hF := ite_p hF c2
      try replace hQ := ite_q hQ c2
      subst hF
      exact g_vret rfl dX7_spreadWords_206 (Nat.le_of_ble_eq_true rfl) (Nat.le_of_ble_eq_true rfl) ⟨rfl, rfl⟩
    · replace hF := ite_n hF c2
      try replace hQ := ite_r hQ c2
      refine g_aload_n dX7_spreadWords_93 rfl rfl rfl ?_
      refine g_get gClX7 2 (by decide) fl_X7_19 dX7_spreadWords_94 (ho_7 _ _) rfl rfl ?_
      refine g_iload_n dX7_spreadWords_97 rfl rfl rfl ?_
      refine g_bipush (v := 15) dX7_spreadWords_98 (by decide) rfl ?_
      refine g_isub dX7_spreadWords_100 rfl ?_
      have o3 := hQ.1
      replace hQ := hQ.2
      refine g_iald (ha_10 _ _) o3 dX7_spreadWords_101 rfl ?_
      refine g_istoreL_n (L1 := [(0, _), (1, _), (2, _), (3, _)]) dX7_spreadWords_102 rfl (by decide) rfl rfl ?_
      refine g_aload_n dX7_spreadWords_103 rfl rfl rfl ?_
      refine g_get gClX7 2 (by decide) fl_X7_19 dX7_spreadWords_104 (ho_7 _ _) rfl rfl ?_
      refine g_iload_n dX7_spreadWords_107 rfl rfl rfl ?_
      refine g_iconst (v := 2) dX7_spreadWords_108 (by decide) rfl ?_
      refine g_isub dX7_spreadWords_109 rfl ?_
      have o5 := hQ.1
      replace hQ := hQ.2
      refine g_iald (ha_10 _ _) o5 dX7_spreadWords_110 rfl ?_
      refine g_istoreL (L1 := [(0, _), (1, _), (2, _), (3, _), (4, _)]) dX7_spreadWords_111 (by decide) rfl rfl ?_
      refine g_iload_n dX7_spreadWords_113 rfl rfl rfl ?_
      refine g_bipush (v := 7) dX7_spreadWords_114 (by decide) rfl ?_
      refine g_iushr dX7_spreadWords_116 rfl ?_
      refine g_iload_n dX7_spreadWords_117 rfl rfl rfl ?_
      refine g_bipush (v := 25) dX7_spreadWords_118 (by decide) rfl ?_
      refine g_ishl dX7_spreadWords_120 rfl ?_
      refine g_ior dX7_spreadWords_121 rfl ?_
      refine g_iload_n dX7_spreadWords_122 rfl rfl rfl ?_
      refine g_bipush (v := 18) dX7_spreadWords_123 (by decide) rfl ?_
      refine g_iushr dX7_spreadWords_125 rfl ?_
      refine g_iload_n dX7_spreadWords_126 rfl rfl rfl ?_
      refine g_bipush (v := 14) dX7_spreadWords_127 (by decide) rfl ?_
      refine g_ishl dX7_spreadWords_129 rfl ?_
      refine g_ior dX7_spreadWords_130 rfl ?_
      refine g_ixor dX7_spreadWords_131 rfl ?_
      refine g_iload_n dX7_spreadWords_132 rfl rfl rfl ?_
      refine g_iconst (v := 3) dX7_spreadWords_133 (by decide) rfl ?_
      refine g_iushr dX7_spreadWords_134 rfl ?_
      refine g_ixor dX7_spreadWords_135 rfl ?_
      refine g_istoreL (L1 := [(0, _), (1, _), (2, _), (3, _), (4, _), (5, _)]) dX7_spreadWords_136 (by decide) rfl rfl ?_
      refine g_iload dX7_spreadWords_138 rfl rfl ?_
      refine g_bipush (v := 17) dX7_spreadWords_140 (by decide) rfl ?_
      refine g_iushr dX7_spreadWords_142 rfl ?_
      refine g_iload dX7_spreadWords_143 rfl rfl ?_
      refine g_bipush (v := 15) dX7_spreadWords_145 (by decide) rfl ?_
      refine g_ishl dX7_spreadWords_147 rfl ?_
      refine g_ior dX7_spreadWords_148 rfl ?_
      refine g_iload dX7_spreadWords_149 rfl rfl ?_
      refine g_bipush (v := 19) dX7_spreadWords_151 (by decide) rfl ?_
      refine g_iushr dX7_spreadWords_153 rfl ?_
      refine g_iload dX7_spreadWords_154 rfl rfl ?_
      refine g_bipush (v := 13) dX7_spreadWords_156 (by decide) rfl ?_
      refine g_ishl dX7_spreadWords_158 rfl ?_
      refine g_ior dX7_spreadWords_159 rfl ?_
      refine g_ixor dX7_spreadWords_160 rfl ?_
      refine g_iload dX7_spreadWords_161 rfl rfl ?_
      refine g_bipush (v := 10) dX7_spreadWords_163 (by decide) rfl ?_
      refine g_iushr dX7_spreadWords_165 rfl ?_
      refine g_ixor dX7_spreadWords_166 rfl ?_
      refine g_istoreL (L1 := [(0, _), (1, _), (2, _), (3, _), (4, _), (5, _), (6, _)]) dX7_spreadWords_167 (by decide) rfl rfl ?_
      refine g_aload_n dX7_spreadWords_169 rfl rfl rfl ?_
      refine g_get gClX7 2 (by decide) fl_X7_19 dX7_spreadWords_170 (ho_7 _ _) rfl rfl ?_
      refine g_iload_n dX7_spreadWords_173 rfl rfl rfl ?_
      refine g_aload_n dX7_spreadWords_174 rfl rfl rfl ?_
      refine g_get gClX7 2 (by decide) fl_X7_19 dX7_spreadWords_175 (ho_7 _ _) rfl rfl ?_
      refine g_iload_n dX7_spreadWords_178 rfl rfl rfl ?_
      refine g_bipush (v := 16) dX7_spreadWords_179 (by decide) rfl ?_
      refine g_isub dX7_spreadWords_181 rfl ?_
      have o9 := hQ.1
      replace hQ := hQ.2
      refine g_iald (ha_10 _ _) o9 dX7_spreadWords_182 rfl ?_
      refine g_iload dX7_spreadWords_183 rfl rfl ?_
      refine g_iadd dX7_spreadWords_185 rfl ?_
      refine g_aload_n dX7_spreadWords_186 rfl rfl rfl ?_
      refine g_get gClX7 2 (by decide) fl_X7_19 dX7_spreadWords_187 (ho_7 _ _) rfl rfl ?_
      refine g_iload_n dX7_spreadWords_190 rfl rfl rfl ?_
      refine g_bipush (v := 7) dX7_spreadWords_191 (by decide) rfl ?_
      refine g_isub dX7_spreadWords_193 rfl ?_
      have o10 := hQ.1
      replace hQ := hQ.2
      refine g_iald (ha_10 _ _) o10 dX7_spreadWords_194 rfl ?_
      refine g_iadd dX7_spreadWords_195 rfl ?_
      refine g_iload dX7_spreadWords_196 rfl rfl ?_
      refine g_iadd dX7_spreadWords_198 rfl ?_
      have o11 := hQ.1
      replace hQ := hQ.2
      refine g_iast (ha_10 _ _) o11 pa_10 dX7_spreadWords_199 rfl ?_
      refine g_iincL (L1 := [(0, _), (1, _), (2, _), (3, _), (4, _), (5, _), (6, _)]) dX7_spreadWords_200 rfl (by decide) rfl rfl ?_
      refine g_goto (tgt := 87) dX7_spreadWords_203 (by decide) ?_
      refine g_sub [0, 1, 2] rfl ?_
      exact ihL87 _ _ hQ hF
noncomputable def G_X7_spreadWords_L2 (p0 : Int32) : Nat → Int32 → gS → gS
  | 0, _, σ => σ
  | n + 1, y2, σ =>
    if (16 : Int32) ≤ y2 then
      G_X7_spreadWords_L87 p0 4000 (16 : Int32) σ
    else
      let v13 := (p0 + ((4 : Int32) * y2))
      let s19 := (pf σ 10 (ix y2) ((((((σ 9 (ix v13)) &&& (255 : Int32)) <<< ((24 : Int32) &&& 31)) ||| (((σ 9 (ix (v13 + (1 : Int32)))) &&& (255 : Int32)) <<< ((16 : Int32) &&& 31))) ||| (((σ 9 (ix (v13 + (2 : Int32)))) &&& (255 : Int32)) <<< ((8 : Int32) &&& 31))) ||| ((σ 9 (ix (v13 + (3 : Int32)))) &&& (255 : Int32))) : gS)
      G_X7_spreadWords_L2 p0 n (y2 + Int32.ofInt (1)) s19
def QG_X7_spreadWords_L2 (p0 : Int32) : Nat → Int32 → gS → Prop
  | 0, _, _ => False
  | n + 1, y2, σ =>
    if (16 : Int32) ≤ y2 then
      (QG_X7_spreadWords_L87 p0 4000 (16 : Int32) σ)
    else
      (let v13 := (p0 + ((4 : Int32) * y2))
      vp_in v13 512 ∧ (vp_in (v13 + (1 : Int32)) 512 ∧ (vp_in (v13 + (2 : Int32)) 512 ∧ (vp_in (v13 + (3 : Int32)) 512 ∧ (vp_in y2 64 ∧ (let s19 := (pf σ 10 (ix y2) ((((((σ 9 (ix v13)) &&& (255 : Int32)) <<< ((24 : Int32) &&& 31)) ||| (((σ 9 (ix (v13 + (1 : Int32)))) &&& (255 : Int32)) <<< ((16 : Int32) &&& 31))) ||| (((σ 9 (ix (v13 + (2 : Int32)))) &&& (255 : Int32)) <<< ((8 : Int32) &&& 31))) ||| ((σ 9 (ix (v13 + (3 : Int32)))) &&& (255 : Int32))) : gS)
      QG_X7_spreadWords_L2 p0 n (y2 + Int32.ofInt (1)) s19))))))
set_option maxHeartbeats 4000000 in
set_option maxRecDepth 100000 in
theorem t_X7_spreadWords_L2 (l : Launch) (g : gE) {p0 : Int32} {ζ : gQ} {fr : gS} : ∀ (n : Nat) (y2 : Int32) (σ : gS), QG_X7_spreadWords_L2 p0 n y2 σ → G_X7_spreadWords_L2 p0 n y2 σ = fr → gG l g mX7_spreadWords (rm 0 0) (gZm g (rm 0 0) (fun r h => r = none ∧ h = hp fr ζ)) 2 [(0, .ref 7), (1, .int p0), (2, .int y2)] [] (hp σ ζ) 0 0 := by
  intro n
  induction n with
  | zero => intro y2 σ hQ; exact absurd hQ (by unfold QG_X7_spreadWords_L2; exact id)
  | succ n ihL2 =>
    intro y2 σ hQ hF
    unfold G_X7_spreadWords_L2 at hF
    unfold QG_X7_spreadWords_L2 at hQ
    refine g_iload_n dX7_spreadWords_2 rfl rfl rfl ?_
    refine g_bipush (v := 16) dX7_spreadWords_3 (by decide) rfl ?_
    refine g_icmpge (tgt := 84) dX7_spreadWords_5 (by decide) rfl (fun c1 => ?_) (fun c1 => ?_)
    · replace hF := ite_p hF c1
      try replace hQ := ite_q hQ c1
      refine g_bipush (v := 16) dX7_spreadWords_84 (by decide) rfl ?_
      refine g_istoreL_n (L1 := [(0, _), (1, _), (2, _)]) dX7_spreadWords_86 rfl (by decide) rfl rfl ?_
      refine g_sub [0, 1, 2] rfl ?_
      exact t_X7_spreadWords_L87 l g 4000 _ _ hQ hF
    · replace hF := ite_n hF c1
      try replace hQ := ite_r hQ c1
      refine g_iload_n dX7_spreadWords_8 rfl rfl rfl ?_
      refine g_iconst (v := 4) dX7_spreadWords_9 (by decide) rfl ?_
      refine g_iload_n dX7_spreadWords_10 rfl rfl rfl ?_
      refine g_imul dX7_spreadWords_11 rfl ?_
      refine g_iadd dX7_spreadWords_12 rfl ?_
      refine g_istoreL_n (L1 := [(0, _), (1, _), (2, _), (3, _)]) dX7_spreadWords_13 rfl (by decide) rfl rfl ?_
      refine g_aload_n dX7_spreadWords_14 rfl rfl rfl ?_
      refine g_get gClX7 2 (by decide) fl_X7_19 dX7_spreadWords_15 (ho_7 _ _) rfl rfl ?_
      refine g_iload_n dX7_spreadWords_18 rfl rfl rfl ?_
      refine g_aload_n dX7_spreadWords_19 rfl rfl rfl ?_
      refine g_get gClX7 1 (by decide) fl_X7_15 dX7_spreadWords_20 (ho_7 _ _) rfl rfl ?_
      refine g_iload_n dX7_spreadWords_23 rfl rfl rfl ?_
      have o14 := hQ.1
      replace hQ := hQ.2
      refine g_bald (ha_9 _ _) o14 dX7_spreadWords_24 rfl ?_
      refine g_sipush (v := 255) dX7_spreadWords_25 (by decide) rfl ?_
      refine g_iand dX7_spreadWords_28 rfl ?_
      refine g_bipush (v := 24) dX7_spreadWords_29 (by decide) rfl ?_
      refine g_ishl dX7_spreadWords_31 rfl ?_
      refine g_aload_n dX7_spreadWords_32 rfl rfl rfl ?_
      refine g_get gClX7 1 (by decide) fl_X7_15 dX7_spreadWords_33 (ho_7 _ _) rfl rfl ?_
      refine g_iload_n dX7_spreadWords_36 rfl rfl rfl ?_
      refine g_iconst (v := 1) dX7_spreadWords_37 (by decide) rfl ?_
      refine g_iadd dX7_spreadWords_38 rfl ?_
      have o15 := hQ.1
      replace hQ := hQ.2
      refine g_bald (ha_9 _ _) o15 dX7_spreadWords_39 rfl ?_
      refine g_sipush (v := 255) dX7_spreadWords_40 (by decide) rfl ?_
      refine g_iand dX7_spreadWords_43 rfl ?_
      refine g_bipush (v := 16) dX7_spreadWords_44 (by decide) rfl ?_
      refine g_ishl dX7_spreadWords_46 rfl ?_
      refine g_ior dX7_spreadWords_47 rfl ?_
      refine g_aload_n dX7_spreadWords_48 rfl rfl rfl ?_
      refine g_get gClX7 1 (by decide) fl_X7_15 dX7_spreadWords_49 (ho_7 _ _) rfl rfl ?_
      refine g_iload_n dX7_spreadWords_52 rfl rfl rfl ?_
      refine g_iconst (v := 2) dX7_spreadWords_53 (by decide) rfl ?_
      refine g_iadd dX7_spreadWords_54 rfl ?_
      have o16 := hQ.1
      replace hQ := hQ.2
      refine g_bald (ha_9 _ _) o16 dX7_spreadWords_55 rfl ?_
      refine g_sipush (v := 255) dX7_spreadWords_56 (by decide) rfl ?_
      refine g_iand dX7_spreadWords_59 rfl ?_
      refine g_bipush (v := 8) dX7_spreadWords_60 (by decide) rfl ?_
      refine g_ishl dX7_spreadWords_62 rfl ?_
      refine g_ior dX7_spreadWords_63 rfl ?_
      refine g_aload_n dX7_spreadWords_64 rfl rfl rfl ?_
      refine g_get gClX7 1 (by decide) fl_X7_15 dX7_spreadWords_65 (ho_7 _ _) rfl rfl ?_
      refine g_iload_n dX7_spreadWords_68 rfl rfl rfl ?_
      refine g_iconst (v := 3) dX7_spreadWords_69 (by decide) rfl ?_
      refine g_iadd dX7_spreadWords_70 rfl ?_
      have o17 := hQ.1
      replace hQ := hQ.2
      refine g_bald (ha_9 _ _) o17 dX7_spreadWords_71 rfl ?_
      refine g_sipush (v := 255) dX7_spreadWords_72 (by decide) rfl ?_
      refine g_iand dX7_spreadWords_75 rfl ?_
      refine g_ior dX7_spreadWords_76 rfl ?_
      have o18 := hQ.1
      replace hQ := hQ.2
      refine g_iast (ha_10 _ _) o18 pa_10 dX7_spreadWords_77 rfl ?_
      refine g_iincL (L1 := [(0, _), (1, _), (2, _), (3, _)]) dX7_spreadWords_78 rfl (by decide) rfl rfl ?_
      refine g_goto (tgt := 2) dX7_spreadWords_81 (by decide) ?_
      refine g_sub [0, 1, 2] rfl ?_
      exact ihL2 _ _ hQ hF
noncomputable def Fr_X7_spreadWords (σ : gS) (p0 : Int32) : gS :=
  G_X7_spreadWords_L2 p0 4000 (0 : Int32) σ
noncomputable def F_X7_spreadWords : gS → Int32 → gS := Classical.choose (⟨Fr_X7_spreadWords, rfl⟩ : ∃ f : gS → Int32 → gS, f = Fr_X7_spreadWords)
theorem F_X7_spreadWords_eq : F_X7_spreadWords = Fr_X7_spreadWords := Classical.choose_spec (⟨Fr_X7_spreadWords, rfl⟩ : ∃ f : gS → Int32 → gS, f = Fr_X7_spreadWords)
def Q_X7_spreadWords (σ : gS) (p0 : Int32) : Prop :=
  QG_X7_spreadWords_L2 p0 4000 (0 : Int32) σ
set_option maxHeartbeats 4000000 in
set_option maxRecDepth 100000 in
theorem c_X7_spreadWords (l : Launch) (g : gE)  {σ : gS} {ζ : gQ} (p0 : Int32) (hQ : Q_X7_spreadWords σ p0) : gC l g mX7_spreadWords (rm 0 0) [.ref 7, .int p0] (hp σ ζ) (fun r h => r = none ∧ h = hp (F_X7_spreadWords σ p0) ζ) := by
  refine gC_of (by decide) (Nat.le_of_ble_eq_true rfl) ?_
  generalize hF : (F_X7_spreadWords σ p0) = fr
  rw [F_X7_spreadWords_eq] at hF
  unfold Fr_X7_spreadWords at hF
  unfold Q_X7_spreadWords at hQ
  refine g_iconst (v := 0) dX7_spreadWords_0 (by decide) rfl ?_
  refine g_istoreL_n (L1 := [(0, _), (1, _), (2, _)]) dX7_spreadWords_1 rfl (by decide) rfl rfl ?_
  refine g_sub [0, 1, 2] rfl ?_
  exact t_X7_spreadWords_L2 l g 4000 _ _ hQ hF
