noncomputable def G_X7_mixWords_L66  : Nat → Int32 → Int32 → Int32 → Int32 → Int32 → Int32 → Int32 → Int32 → Int32 → gS → gS
  | 0, _, _, _, _, _, _, _, _, _, σ => σ
  | n + 1, y1, y2, y3, y4, y5, y6, y7, y8, y9, σ =>
    if (64 : Int32) ≤ y9 then
      let s2 := (pf σ 11 (ix (0 : Int32)) ((σ 11 (ix (0 : Int32))) + y1) : gS)
      let s3 := (pf s2 11 (ix (1 : Int32)) ((s2 11 (ix (1 : Int32))) + y2) : gS)
      let s4 := (pf s3 11 (ix (2 : Int32)) ((s3 11 (ix (2 : Int32))) + y3) : gS)
      let s5 := (pf s4 11 (ix (3 : Int32)) ((s4 11 (ix (3 : Int32))) + y4) : gS)
      let s6 := (pf s5 11 (ix (4 : Int32)) ((s5 11 (ix (4 : Int32))) + y5) : gS)
      let s7 := (pf s6 11 (ix (5 : Int32)) ((s6 11 (ix (5 : Int32))) + y6) : gS)
      let s8 := (pf s7 11 (ix (6 : Int32)) ((s7 11 (ix (6 : Int32))) + y7) : gS)
      let s9 := (pf s8 11 (ix (7 : Int32)) ((s8 11 (ix (7 : Int32))) + y8) : gS)
      s9
    else
      let v10 := ((((ush y5 (6 : Int32)) ||| (y5 <<< ((26 : Int32) &&& 31))) ^^^ ((ush y5 (11 : Int32)) ||| (y5 <<< ((21 : Int32) &&& 31)))) ^^^ ((ush y5 (25 : Int32)) ||| (y5 <<< ((7 : Int32) &&& 31))))
      let v13 := ((((y8 + v10) + ((y5 &&& y6) ^^^ ((y5 ^^^ (-1 : Int32)) &&& y7))) + (tab 5 (ix y9))) + (σ 10 (ix y9)))
      let v14 := ((((ush y1 (2 : Int32)) ||| (y1 <<< ((30 : Int32) &&& 31))) ^^^ ((ush y1 (13 : Int32)) ||| (y1 <<< ((19 : Int32) &&& 31)))) ^^^ ((ush y1 (22 : Int32)) ||| (y1 <<< ((10 : Int32) &&& 31))))
      let v15 := (v14 + (((y1 &&& y2) ^^^ (y1 &&& y3)) ^^^ (y2 &&& y3)))
      G_X7_mixWords_L66  n (v13 + v15) y1 y2 y3 (y4 + v13) y5 y6 y7 (y9 + Int32.ofInt (1)) σ
def QG_X7_mixWords_L66  : Nat → Int32 → Int32 → Int32 → Int32 → Int32 → Int32 → Int32 → Int32 → Int32 → gS → Prop
  | 0, _, _, _, _, _, _, _, _, _, _ => False
  | n + 1, y1, y2, y3, y4, y5, y6, y7, y8, y9, σ =>
    if (64 : Int32) ≤ y9 then
      (let s2 := (pf σ 11 (ix (0 : Int32)) ((σ 11 (ix (0 : Int32))) + y1) : gS)
      let s3 := (pf s2 11 (ix (1 : Int32)) ((s2 11 (ix (1 : Int32))) + y2) : gS)
      let s4 := (pf s3 11 (ix (2 : Int32)) ((s3 11 (ix (2 : Int32))) + y3) : gS)
      let s5 := (pf s4 11 (ix (3 : Int32)) ((s4 11 (ix (3 : Int32))) + y4) : gS)
      let s6 := (pf s5 11 (ix (4 : Int32)) ((s5 11 (ix (4 : Int32))) + y5) : gS)
      let s7 := (pf s6 11 (ix (5 : Int32)) ((s6 11 (ix (5 : Int32))) + y6) : gS)
      let s8 := (pf s7 11 (ix (6 : Int32)) ((s7 11 (ix (6 : Int32))) + y7) : gS)
      let s9 := (pf s8 11 (ix (7 : Int32)) ((s8 11 (ix (7 : Int32))) + y8) : gS)
      True)
    else
      (let v10 := ((((ush y5 (6 : Int32)) ||| (y5 <<< ((26 : Int32) &&& 31))) ^^^ ((ush y5 (11 : Int32)) ||| (y5 <<< ((21 : Int32) &&& 31)))) ^^^ ((ush y5 (25 : Int32)) ||| (y5 <<< ((7 : Int32) &&& 31))))
      vp_in y9 64 ∧ (vp_in y9 64 ∧ (let v13 := ((((y8 + v10) + ((y5 &&& y6) ^^^ ((y5 ^^^ (-1 : Int32)) &&& y7))) + (tab 5 (ix y9))) + (σ 10 (ix y9)))
      let v14 := ((((ush y1 (2 : Int32)) ||| (y1 <<< ((30 : Int32) &&& 31))) ^^^ ((ush y1 (13 : Int32)) ||| (y1 <<< ((19 : Int32) &&& 31)))) ^^^ ((ush y1 (22 : Int32)) ||| (y1 <<< ((10 : Int32) &&& 31))))
      let v15 := (v14 + (((y1 &&& y2) ^^^ (y1 &&& y3)) ^^^ (y2 &&& y3)))
      QG_X7_mixWords_L66  n (v13 + v15) y1 y2 y3 (y4 + v13) y5 y6 y7 (y9 + Int32.ofInt (1)) σ)))
set_option maxHeartbeats 4000000 in
set_option maxRecDepth 100000 in
theorem t_X7_mixWords_L66 (l : Launch) (g : gE)  {ζ : gQ} {fr : gS} (hT : gTab g) : ∀ (n : Nat) (y1 : Int32) (y2 : Int32) (y3 : Int32) (y4 : Int32) (y5 : Int32) (y6 : Int32) (y7 : Int32) (y8 : Int32) (y9 : Int32) (σ : gS), QG_X7_mixWords_L66  n y1 y2 y3 y4 y5 y6 y7 y8 y9 σ → G_X7_mixWords_L66  n y1 y2 y3 y4 y5 y6 y7 y8 y9 σ = fr → gG l g mX7_mixWords (rm 0 0) (gZm g (rm 0 0) (fun r h => r = none ∧ h = hp fr ζ)) 66 [(0, .ref 7), (1, .int y1), (2, .int y2), (3, .int y3), (4, .int y4), (5, .int y5), (6, .int y6), (7, .int y7), (8, .int y8), (9, .int y9)] [] (hp σ ζ) 0 0 := by
  intro n
  induction n with
  | zero => intro y1 y2 y3 y4 y5 y6 y7 y8 y9 σ hQ; exact absurd hQ (by unfold QG_X7_mixWords_L66; exact id)
  | succ n ihL66 =>
    intro y1 y2 y3 y4 y5 y6 y7 y8 y9 σ hQ hF
    unfold G_X7_mixWords_L66 at hF
    unfold QG_X7_mixWords_L66 at hQ
    refine g_iload dX7_mixWords_66 rfl rfl ?_
    refine g_bipush (v := 64) dX7_mixWords_68 (by decide) rfl ?_
    refine g_icmpge (tgt := 230) dX7_mixWords_70 (by decide) rfl (fun c1 => ?_) (fun c1 => ?_)
    · replace hF := ite_p hF c1
      try replace hQ := ite_q hQ c1
      refine g_aload_n dX7_mixWords_230 rfl rfl rfl ?_
      refine g_get gClX7 3 (by decide) fl_X7_22 dX7_mixWords_231 (ho_7 _ _) rfl rfl ?_
      refine g_iconst (v := 0) dX7_mixWords_234 (by decide) rfl ?_
      refine g_dup2 dX7_mixWords_235 rfl rfl rfl ?_
      refine g_iald (ha_11 _ _) (vinc (by decide)) dX7_mixWords_236 rfl ?_
      refine g_iload_n dX7_mixWords_237 rfl rfl rfl ?_
      refine g_iadd dX7_mixWords_238 rfl ?_
      refine g_iast (ha_11 _ _) (vinc (by decide)) pa_11 dX7_mixWords_239 rfl ?_
      refine g_aload_n dX7_mixWords_240 rfl rfl rfl ?_
      refine g_get gClX7 3 (by decide) fl_X7_22 dX7_mixWords_241 (ho_7 _ _) rfl rfl ?_
      refine g_iconst (v := 1) dX7_mixWords_244 (by decide) rfl ?_
      refine g_dup2 dX7_mixWords_245 rfl rfl rfl ?_
      refine g_iald (ha_11 _ _) (vinc (by decide)) dX7_mixWords_246 rfl ?_
      refine g_iload_n dX7_mixWords_247 rfl rfl rfl ?_
      refine g_iadd dX7_mixWords_248 rfl ?_
      refine g_iast (ha_11 _ _) (vinc (by decide)) pa_11 dX7_mixWords_249 rfl ?_
      refine g_aload_n dX7_mixWords_250 rfl rfl rfl ?_
      refine g_get gClX7 3 (by decide) fl_X7_22 dX7_mixWords_251 (ho_7 _ _) rfl rfl ?_
      refine g_iconst (v := 2) dX7_mixWords_254 (by decide) rfl ?_
      refine g_dup2 dX7_mixWords_255 rfl rfl rfl ?_
      refine g_iald (ha_11 _ _) (vinc (by decide)) dX7_mixWords_256 rfl ?_
      refine g_iload_n dX7_mixWords_257 rfl rfl rfl ?_
      refine g_iadd dX7_mixWords_258 rfl ?_
      refine g_iast (ha_11 _ _) (vinc (by decide)) pa_11 dX7_mixWords_259 rfl ?_
      refine g_aload_n dX7_mixWords_260 rfl rfl rfl ?_
      refine g_get gClX7 3 (by decide) fl_X7_22 dX7_mixWords_261 (ho_7 _ _) rfl rfl ?_
      refine g_iconst (v := 3) dX7_mixWords_264 (by decide) rfl ?_
      refine g_dup2 dX7_mixWords_265 rfl rfl rfl ?_
      refine g_iald (ha_11 _ _) (vinc (by decide)) dX7_mixWords_266 rfl ?_
      refine g_iload dX7_mixWords_267 rfl rfl ?_
      refine g_iadd dX7_mixWords_269 rfl ?_
      refine g_iast (ha_11 _ _) (vinc (by decide)) pa_11 dX7_mixWords_270 rfl ?_
      refine g_aload_n dX7_mixWords_271 rfl rfl rfl ?_
      refine g_get gClX7 3 (by decide) fl_X7_22 dX7_mixWords_272 (ho_7 _ _) rfl rfl ?_
      refine g_iconst (v := 4) dX7_mixWords_275 (by decide) rfl ?_
      refine g_dup2 dX7_mixWords_276 rfl rfl rfl ?_
      refine g_iald (ha_11 _ _) (vinc (by decide)) dX7_mixWords_277 rfl ?_
      refine g_iload dX7_mixWords_278 rfl rfl ?_
      refine g_iadd dX7_mixWords_280 rfl ?_
      refine g_iast (ha_11 _ _) (vinc (by decide)) pa_11 dX7_mixWords_281 rfl ?_
      refine g_aload_n dX7_mixWords_282 rfl rfl rfl ?_
      refine g_get gClX7 3 (by decide) fl_X7_22 dX7_mixWords_283 (ho_7 _ _) rfl rfl ?_
      refine g_iconst (v := 5) dX7_mixWords_286 (by decide) rfl ?_
      refine g_dup2 dX7_mixWords_287 rfl rfl rfl ?_
      refine g_iald (ha_11 _ _) (vinc (by decide)) dX7_mixWords_288 rfl ?_
      refine g_iload dX7_mixWords_289 rfl rfl ?_
      refine g_iadd dX7_mixWords_291 rfl ?_
      refine g_iast (ha_11 _ _) (vinc (by decide)) pa_11 dX7_mixWords_292 rfl ?_
      refine g_aload_n dX7_mixWords_293 rfl rfl rfl ?_
      refine g_get gClX7 3 (by decide) fl_X7_22 dX7_mixWords_294 (ho_7 _ _) rfl rfl ?_
      refine g_bipush (v := 6) dX7_mixWords_297 (by decide) rfl ?_
      refine g_dup2 dX7_mixWords_299 rfl rfl rfl ?_
      refine g_iald (ha_11 _ _) (vinc (by decide)) dX7_mixWords_300 rfl ?_
      refine g_iload dX7_mixWords_301 rfl rfl ?_
      refine g_iadd dX7_mixWords_303 rfl ?_
      refine g_iast (ha_11 _ _) (vinc (by decide)) pa_11 dX7_mixWords_304 rfl ?_
      refine g_aload_n dX7_mixWords_305 rfl rfl rfl ?_
      refine g_get gClX7 3 (by decide) fl_X7_22 dX7_mixWords_306 (ho_7 _ _) rfl rfl ?_
      refine g_bipush (v := 7) dX7_mixWords_309 (by decide) rfl ?_
      refine g_dup2 dX7_mixWords_311 rfl rfl rfl ?_
      refine g_iald (ha_11 _ _) (vinc (by decide)) dX7_mixWords_312 rfl ?_
      refine g_iload dX7_mixWords_313 rfl rfl ?_
      refine g_iadd dX7_mixWords_315 rfl ?_
      refine g_iast (ha_11 _ _) (vinc (by decide)) pa_11 dX7_mixWords_316 rfl ?_
      subst hF
      exact g_vret rfl dX7_mixWords_317 (Nat.le_of_ble_eq_true rfl) (Nat.le_of_ble_eq_true rfl) ⟨rfl, rfl⟩
    · replace hF := ite_n hF c1
      try replace hQ := ite_r hQ c1
      refine g_iload dX7_mixWords_73 rfl rfl ?_
      refine g_bipush (v := 6) dX7_mixWords_75 (by decide) rfl ?_
      refine g_iushr dX7_mixWords_77 rfl ?_
      refine g_iload dX7_mixWords_78 rfl rfl ?_
      refine g_bipush (v := 26) dX7_mixWords_80 (by decide) rfl ?_
      refine g_ishl dX7_mixWords_82 rfl ?_
      refine g_ior dX7_mixWords_83 rfl ?_
      refine g_iload dX7_mixWords_84 rfl rfl ?_
      refine g_bipush (v := 11) dX7_mixWords_86 (by decide) rfl ?_
      refine g_iushr dX7_mixWords_88 rfl ?_
      refine g_iload dX7_mixWords_89 rfl rfl ?_
      refine g_bipush (v := 21) dX7_mixWords_91 (by decide) rfl ?_
      refine g_ishl dX7_mixWords_93 rfl ?_
      refine g_ior dX7_mixWords_94 rfl ?_
      refine g_ixor dX7_mixWords_95 rfl ?_
      refine g_iload dX7_mixWords_96 rfl rfl ?_
      refine g_bipush (v := 25) dX7_mixWords_98 (by decide) rfl ?_
      refine g_iushr dX7_mixWords_100 rfl ?_
      refine g_iload dX7_mixWords_101 rfl rfl ?_
      refine g_bipush (v := 7) dX7_mixWords_103 (by decide) rfl ?_
      refine g_ishl dX7_mixWords_105 rfl ?_
      refine g_ior dX7_mixWords_106 rfl ?_
      refine g_ixor dX7_mixWords_107 rfl ?_
      refine g_istoreL (L1 := [(0, _), (1, _), (2, _), (3, _), (4, _), (5, _), (6, _), (7, _), (8, _), (9, _), (10, _)]) dX7_mixWords_108 (by decide) rfl rfl ?_
      refine g_iload dX7_mixWords_110 rfl rfl ?_
      refine g_iload dX7_mixWords_112 rfl rfl ?_
      refine g_iadd dX7_mixWords_114 rfl ?_
      refine g_iload dX7_mixWords_115 rfl rfl ?_
      refine g_iload dX7_mixWords_117 rfl rfl ?_
      refine g_iand dX7_mixWords_119 rfl ?_
      refine g_iload dX7_mixWords_120 rfl rfl ?_
      refine g_iconst (v := (-1)) dX7_mixWords_122 (by decide) rfl ?_
      refine g_ixor dX7_mixWords_123 rfl ?_
      refine g_iload dX7_mixWords_124 rfl rfl ?_
      refine g_iand dX7_mixWords_126 rfl ?_
      refine g_ixor dX7_mixWords_127 rfl ?_
      refine g_iadd dX7_mixWords_128 rfl ?_
      refine g_gets (i := 5) rfl fs_X7_71 dX7_mixWords_129 rfl ?_
      refine g_iload dX7_mixWords_132 rfl rfl ?_
      have o11 := hQ.1
      replace hQ := hQ.2
      refine g_tld (by decide) (hT 5 (by decide)) o11 dX7_mixWords_134 rfl ?_
      refine g_iadd dX7_mixWords_135 rfl ?_
      refine g_aload_n dX7_mixWords_136 rfl rfl rfl ?_
      refine g_get gClX7 2 (by decide) fl_X7_19 dX7_mixWords_137 (ho_7 _ _) rfl rfl ?_
      refine g_iload dX7_mixWords_140 rfl rfl ?_
      have o12 := hQ.1
      replace hQ := hQ.2
      refine g_iald (ha_10 _ _) o12 dX7_mixWords_142 rfl ?_
      refine g_iadd dX7_mixWords_143 rfl ?_
      refine g_istoreL (L1 := [(0, _), (1, _), (2, _), (3, _), (4, _), (5, _), (6, _), (7, _), (8, _), (9, _), (10, _), (11, _)]) dX7_mixWords_144 (by decide) rfl rfl ?_
      refine g_iload_n dX7_mixWords_146 rfl rfl rfl ?_
      refine g_iconst (v := 2) dX7_mixWords_147 (by decide) rfl ?_
      refine g_iushr dX7_mixWords_148 rfl ?_
      refine g_iload_n dX7_mixWords_149 rfl rfl rfl ?_
      refine g_bipush (v := 30) dX7_mixWords_150 (by decide) rfl ?_
      refine g_ishl dX7_mixWords_152 rfl ?_
      refine g_ior dX7_mixWords_153 rfl ?_
      refine g_iload_n dX7_mixWords_154 rfl rfl rfl ?_
      refine g_bipush (v := 13) dX7_mixWords_155 (by decide) rfl ?_
      refine g_iushr dX7_mixWords_157 rfl ?_
      refine g_iload_n dX7_mixWords_158 rfl rfl rfl ?_
      refine g_bipush (v := 19) dX7_mixWords_159 (by decide) rfl ?_
      refine g_ishl dX7_mixWords_161 rfl ?_
      refine g_ior dX7_mixWords_162 rfl ?_
      refine g_ixor dX7_mixWords_163 rfl ?_
      refine g_iload_n dX7_mixWords_164 rfl rfl rfl ?_
      refine g_bipush (v := 22) dX7_mixWords_165 (by decide) rfl ?_
      refine g_iushr dX7_mixWords_167 rfl ?_
      refine g_iload_n dX7_mixWords_168 rfl rfl rfl ?_
      refine g_bipush (v := 10) dX7_mixWords_169 (by decide) rfl ?_
      refine g_ishl dX7_mixWords_171 rfl ?_
      refine g_ior dX7_mixWords_172 rfl ?_
      refine g_ixor dX7_mixWords_173 rfl ?_
      refine g_istoreL (L1 := [(0, _), (1, _), (2, _), (3, _), (4, _), (5, _), (6, _), (7, _), (8, _), (9, _), (10, _), (11, _), (12, _)]) dX7_mixWords_174 (by decide) rfl rfl ?_
      refine g_iload dX7_mixWords_176 rfl rfl ?_
      refine g_iload_n dX7_mixWords_178 rfl rfl rfl ?_
      refine g_iload_n dX7_mixWords_179 rfl rfl rfl ?_
      refine g_iand dX7_mixWords_180 rfl ?_
      refine g_iload_n dX7_mixWords_181 rfl rfl rfl ?_
      refine g_iload_n dX7_mixWords_182 rfl rfl rfl ?_
      refine g_iand dX7_mixWords_183 rfl ?_
      refine g_ixor dX7_mixWords_184 rfl ?_
      refine g_iload_n dX7_mixWords_185 rfl rfl rfl ?_
      refine g_iload_n dX7_mixWords_186 rfl rfl rfl ?_
      refine g_iand dX7_mixWords_187 rfl ?_
      refine g_ixor dX7_mixWords_188 rfl ?_
      refine g_iadd dX7_mixWords_189 rfl ?_
      refine g_istoreL (L1 := [(0, _), (1, _), (2, _), (3, _), (4, _), (5, _), (6, _), (7, _), (8, _), (9, _), (10, _), (11, _), (12, _), (13, _)]) dX7_mixWords_190 (by decide) rfl rfl ?_
      refine g_iload dX7_mixWords_192 rfl rfl ?_
      refine g_istoreL (L1 := [(0, _), (1, _), (2, _), (3, _), (4, _), (5, _), (6, _), (7, _), (8, _), (9, _), (10, _), (11, _), (12, _), (13, _)]) dX7_mixWords_194 (by decide) rfl rfl ?_
      refine g_iload dX7_mixWords_196 rfl rfl ?_
      refine g_istoreL (L1 := [(0, _), (1, _), (2, _), (3, _), (4, _), (5, _), (6, _), (7, _), (8, _), (9, _), (10, _), (11, _), (12, _), (13, _)]) dX7_mixWords_198 (by decide) rfl rfl ?_
      refine g_iload dX7_mixWords_200 rfl rfl ?_
      refine g_istoreL (L1 := [(0, _), (1, _), (2, _), (3, _), (4, _), (5, _), (6, _), (7, _), (8, _), (9, _), (10, _), (11, _), (12, _), (13, _)]) dX7_mixWords_202 (by decide) rfl rfl ?_
      refine g_iload dX7_mixWords_204 rfl rfl ?_
      refine g_iload dX7_mixWords_206 rfl rfl ?_
      refine g_iadd dX7_mixWords_208 rfl ?_
      refine g_istoreL (L1 := [(0, _), (1, _), (2, _), (3, _), (4, _), (5, _), (6, _), (7, _), (8, _), (9, _), (10, _), (11, _), (12, _), (13, _)]) dX7_mixWords_209 (by decide) rfl rfl ?_
      refine g_iload_n dX7_mixWords_211 rfl rfl rfl ?_
      refine g_istoreL (L1 := [(0, _), (1, _), (2, _), (3, _), (4, _), (5, _), (6, _), (7, _), (8, _), (9, _), (10, _), (11, _), (12, _), (13, _)]) dX7_mixWords_212 (by decide) rfl rfl ?_
      refine g_iload_n dX7_mixWords_214 rfl rfl rfl ?_
      refine g_istoreL_n (L1 := [(0, _), (1, _), (2, _), (3, _), (4, _), (5, _), (6, _), (7, _), (8, _), (9, _), (10, _), (11, _), (12, _), (13, _)]) dX7_mixWords_215 rfl (by decide) rfl rfl ?_
      refine g_iload_n dX7_mixWords_216 rfl rfl rfl ?_
      refine g_istoreL_n (L1 := [(0, _), (1, _), (2, _), (3, _), (4, _), (5, _), (6, _), (7, _), (8, _), (9, _), (10, _), (11, _), (12, _), (13, _)]) dX7_mixWords_217 rfl (by decide) rfl rfl ?_
      refine g_iload dX7_mixWords_218 rfl rfl ?_
      refine g_iload dX7_mixWords_220 rfl rfl ?_
      refine g_iadd dX7_mixWords_222 rfl ?_
      refine g_istoreL_n (L1 := [(0, _), (1, _), (2, _), (3, _), (4, _), (5, _), (6, _), (7, _), (8, _), (9, _), (10, _), (11, _), (12, _), (13, _)]) dX7_mixWords_223 rfl (by decide) rfl rfl ?_
      refine g_iincL (L1 := [(0, _), (1, _), (2, _), (3, _), (4, _), (5, _), (6, _), (7, _), (8, _), (9, _), (10, _), (11, _), (12, _), (13, _)]) dX7_mixWords_224 rfl (by decide) rfl rfl ?_
      refine g_goto (tgt := 66) dX7_mixWords_227 (by decide) ?_
      refine g_sub [0, 1, 2, 3, 4, 5, 6, 7, 8, 9] rfl ?_
      exact ihL66 _ _ _ _ _ _ _ _ _ _ hQ hF
noncomputable def Fr_X7_mixWords (σ : gS)  : gS :=
  G_X7_mixWords_L66  4000 (σ 11 (ix (0 : Int32))) (σ 11 (ix (1 : Int32))) (σ 11 (ix (2 : Int32))) (σ 11 (ix (3 : Int32))) (σ 11 (ix (4 : Int32))) (σ 11 (ix (5 : Int32))) (σ 11 (ix (6 : Int32))) (σ 11 (ix (7 : Int32))) (0 : Int32) σ
noncomputable def F_X7_mixWords : gS → gS := Classical.choose (⟨Fr_X7_mixWords, rfl⟩ : ∃ f : gS → gS, f = Fr_X7_mixWords)
theorem F_X7_mixWords_eq : F_X7_mixWords = Fr_X7_mixWords := Classical.choose_spec (⟨Fr_X7_mixWords, rfl⟩ : ∃ f : gS → gS, f = Fr_X7_mixWords)
def Q_X7_mixWords (σ : gS)  : Prop :=
  QG_X7_mixWords_L66  4000 (σ 11 (ix (0 : Int32))) (σ 11 (ix (1 : Int32))) (σ 11 (ix (2 : Int32))) (σ 11 (ix (3 : Int32))) (σ 11 (ix (4 : Int32))) (σ 11 (ix (5 : Int32))) (σ 11 (ix (6 : Int32))) (σ 11 (ix (7 : Int32))) (0 : Int32) σ
set_option maxHeartbeats 4000000 in
set_option maxRecDepth 100000 in
theorem c_X7_mixWords (l : Launch) (g : gE)  (hT : gTab g) {σ : gS} {ζ : gQ}  (hQ : Q_X7_mixWords σ ) : gC l g mX7_mixWords (rm 0 0) [.ref 7] (hp σ ζ) (fun r h => r = none ∧ h = hp (F_X7_mixWords σ ) ζ) := by
  refine gC_of (by decide) (Nat.le_of_ble_eq_true rfl) ?_
  generalize hF : (F_X7_mixWords σ ) = fr
  rw [F_X7_mixWords_eq] at hF
  unfold Fr_X7_mixWords at hF
  unfold Q_X7_mixWords at hQ
  refine g_aload_n dX7_mixWords_0 rfl rfl rfl ?_
  refine g_get gClX7 3 (by decide) fl_X7_22 dX7_mixWords_1 (ho_7 _ _) rfl rfl ?_
  refine g_iconst (v := 0) dX7_mixWords_4 (by decide) rfl ?_
  refine g_iald (ha_11 _ _) (vinc (by decide)) dX7_mixWords_5 rfl ?_
  refine g_istoreL_n (L1 := [(0, _), (1, _)]) dX7_mixWords_6 rfl (by decide) rfl rfl ?_
  refine g_aload_n dX7_mixWords_7 rfl rfl rfl ?_
  refine g_get gClX7 3 (by decide) fl_X7_22 dX7_mixWords_8 (ho_7 _ _) rfl rfl ?_
  refine g_iconst (v := 1) dX7_mixWords_11 (by decide) rfl ?_
  refine g_iald (ha_11 _ _) (vinc (by decide)) dX7_mixWords_12 rfl ?_
  refine g_istoreL_n (L1 := [(0, _), (1, _), (2, _)]) dX7_mixWords_13 rfl (by decide) rfl rfl ?_
  refine g_aload_n dX7_mixWords_14 rfl rfl rfl ?_
  refine g_get gClX7 3 (by decide) fl_X7_22 dX7_mixWords_15 (ho_7 _ _) rfl rfl ?_
  refine g_iconst (v := 2) dX7_mixWords_18 (by decide) rfl ?_
  refine g_iald (ha_11 _ _) (vinc (by decide)) dX7_mixWords_19 rfl ?_
  refine g_istoreL_n (L1 := [(0, _), (1, _), (2, _), (3, _)]) dX7_mixWords_20 rfl (by decide) rfl rfl ?_
  refine g_aload_n dX7_mixWords_21 rfl rfl rfl ?_
  refine g_get gClX7 3 (by decide) fl_X7_22 dX7_mixWords_22 (ho_7 _ _) rfl rfl ?_
  refine g_iconst (v := 3) dX7_mixWords_25 (by decide) rfl ?_
  refine g_iald (ha_11 _ _) (vinc (by decide)) dX7_mixWords_26 rfl ?_
  refine g_istoreL (L1 := [(0, _), (1, _), (2, _), (3, _), (4, _)]) dX7_mixWords_27 (by decide) rfl rfl ?_
  refine g_aload_n dX7_mixWords_29 rfl rfl rfl ?_
  refine g_get gClX7 3 (by decide) fl_X7_22 dX7_mixWords_30 (ho_7 _ _) rfl rfl ?_
  refine g_iconst (v := 4) dX7_mixWords_33 (by decide) rfl ?_
  refine g_iald (ha_11 _ _) (vinc (by decide)) dX7_mixWords_34 rfl ?_
  refine g_istoreL (L1 := [(0, _), (1, _), (2, _), (3, _), (4, _), (5, _)]) dX7_mixWords_35 (by decide) rfl rfl ?_
  refine g_aload_n dX7_mixWords_37 rfl rfl rfl ?_
  refine g_get gClX7 3 (by decide) fl_X7_22 dX7_mixWords_38 (ho_7 _ _) rfl rfl ?_
  refine g_iconst (v := 5) dX7_mixWords_41 (by decide) rfl ?_
  refine g_iald (ha_11 _ _) (vinc (by decide)) dX7_mixWords_42 rfl ?_
  refine g_istoreL (L1 := [(0, _), (1, _), (2, _), (3, _), (4, _), (5, _), (6, _)]) dX7_mixWords_43 (by decide) rfl rfl ?_
  refine g_aload_n dX7_mixWords_45 rfl rfl rfl ?_
  refine g_get gClX7 3 (by decide) fl_X7_22 dX7_mixWords_46 (ho_7 _ _) rfl rfl ?_
  refine g_bipush (v := 6) dX7_mixWords_49 (by decide) rfl ?_
  refine g_iald (ha_11 _ _) (vinc (by decide)) dX7_mixWords_51 rfl ?_
  refine g_istoreL (L1 := [(0, _), (1, _), (2, _), (3, _), (4, _), (5, _), (6, _), (7, _)]) dX7_mixWords_52 (by decide) rfl rfl ?_
  refine g_aload_n dX7_mixWords_54 rfl rfl rfl ?_
  refine g_get gClX7 3 (by decide) fl_X7_22 dX7_mixWords_55 (ho_7 _ _) rfl rfl ?_
  refine g_bipush (v := 7) dX7_mixWords_58 (by decide) rfl ?_
  refine g_iald (ha_11 _ _) (vinc (by decide)) dX7_mixWords_60 rfl ?_
  refine g_istoreL (L1 := [(0, _), (1, _), (2, _), (3, _), (4, _), (5, _), (6, _), (7, _), (8, _)]) dX7_mixWords_61 (by decide) rfl rfl ?_
  refine g_iconst (v := 0) dX7_mixWords_63 (by decide) rfl ?_
  refine g_istoreL (L1 := [(0, _), (1, _), (2, _), (3, _), (4, _), (5, _), (6, _), (7, _), (8, _), (9, _)]) dX7_mixWords_64 (by decide) rfl rfl ?_
  refine g_sub [0, 1, 2, 3, 4, 5, 6, 7, 8, 9] rfl ?_
  exact t_X7_mixWords_L66 l g hT 4000 _ _ _ _ _ _ _ _ _ _ hQ hF
