/-! decode rows, as printed -/
theorem dX10_isNotAbove_149 : decode cX10_isNotAbove 149 = .ok (.ldc2_w 120, 3) := by decide +kernel
theorem dX10_isNotAbove_152 : decode cX10_isNotAbove 152 = .ok (.land, 1) := by decide +kernel
theorem dX10_isNotAbove_153 : decode cX10_isNotAbove 153 = .ok (.lload 4, 2) := by decide +kernel
theorem dX10_isNotAbove_155 : decode cX10_isNotAbove 155 = .ok (.lmul, 1) := by decide +kernel
theorem dX10_isNotAbove_156 : decode cX10_isNotAbove 156 = .ok (.ladd, 1) := by decide +kernel
theorem dX10_isNotAbove_157 : decode cX10_isNotAbove 157 = .ok (.lstore 18, 2) := by decide +kernel
theorem dX10_isNotAbove_159 : decode cX10_isNotAbove 159 = .ok (.lload 12, 2) := by decide +kernel
theorem dX10_isNotAbove_161 : decode cX10_isNotAbove 161 = .ok (.ldc2_w 120, 3) := by decide +kernel
theorem dX10_isNotAbove_164 : decode cX10_isNotAbove 164 = .ok (.land, 1) := by decide +kernel
theorem dX10_isNotAbove_165 : decode cX10_isNotAbove 165 = .ok (.lload 6, 2) := by decide +kernel
theorem dX10_isNotAbove_167 : decode cX10_isNotAbove 167 = .ok (.lmul, 1) := by decide +kernel
theorem dX10_isNotAbove_168 : decode cX10_isNotAbove 168 = .ok (.lload 12, 2) := by decide +kernel
theorem dX10_isNotAbove_170 : decode cX10_isNotAbove 170 = .ok (.bipush 24, 2) := by decide +kernel
theorem dX10_isNotAbove_172 : decode cX10_isNotAbove 172 = .ok (.lushr, 1) := by decide +kernel
theorem dX10_isNotAbove_173 : decode cX10_isNotAbove 173 = .ok (.lload 4, 2) := by decide +kernel
theorem dX10_isNotAbove_175 : decode cX10_isNotAbove 175 = .ok (.lmul, 1) := by decide +kernel
theorem dX10_isNotAbove_176 : decode cX10_isNotAbove 176 = .ok (.ladd, 1) := by decide +kernel
theorem dX10_isNotAbove_177 : decode cX10_isNotAbove 177 = .ok (.lstore 20, 2) := by decide +kernel
theorem dX10_isNotAbove_179 : decode cX10_isNotAbove 179 = .ok (.lload 12, 2) := by decide +kernel
theorem dX10_isNotAbove_181 : decode cX10_isNotAbove 181 = .ok (.bipush 24, 2) := by decide +kernel
theorem dX10_isNotAbove_183 : decode cX10_isNotAbove 183 = .ok (.lushr, 1) := by decide +kernel
theorem dX10_isNotAbove_184 : decode cX10_isNotAbove 184 = .ok (.lload 6, 2) := by decide +kernel
theorem dX10_isNotAbove_186 : decode cX10_isNotAbove 186 = .ok (.lmul, 1) := by decide +kernel
theorem dX10_isNotAbove_187 : decode cX10_isNotAbove 187 = .ok (.lstore 22, 2) := by decide +kernel
theorem dX10_isNotAbove_189 : decode cX10_isNotAbove 189 = .ok (.lload 16, 2) := by decide +kernel
theorem dX10_isNotAbove_191 : decode cX10_isNotAbove 191 = .ok (.lload 14, 2) := by decide +kernel
theorem dX10_isNotAbove_193 : decode cX10_isNotAbove 193 = .ok (.bipush 24, 2) := by decide +kernel
theorem dX10_isNotAbove_195 : decode cX10_isNotAbove 195 = .ok (.lushr, 1) := by decide +kernel
theorem dX10_isNotAbove_196 : decode cX10_isNotAbove 196 = .ok (.ladd, 1) := by decide +kernel
theorem dX10_isNotAbove_197 : decode cX10_isNotAbove 197 = .ok (.lstore 16, 2) := by decide +kernel
theorem dX10_isNotAbove_199 : decode cX10_isNotAbove 199 = .ok (.lload 14, 2) := by decide +kernel
theorem dX10_isNotAbove_201 : decode cX10_isNotAbove 201 = .ok (.ldc2_w 120, 3) := by decide +kernel
theorem dX10_isNotAbove_204 : decode cX10_isNotAbove 204 = .ok (.land, 1) := by decide +kernel
theorem dX10_isNotAbove_205 : decode cX10_isNotAbove 205 = .ok (.lstore 14, 2) := by decide +kernel
theorem dX10_isNotAbove_207 : decode cX10_isNotAbove 207 = .ok (.lload 18, 2) := by decide +kernel
theorem dX10_isNotAbove_209 : decode cX10_isNotAbove 209 = .ok (.lload 16, 2) := by decide +kernel
theorem dX10_isNotAbove_211 : decode cX10_isNotAbove 211 = .ok (.bipush 24, 2) := by decide +kernel
theorem dX10_isNotAbove_213 : decode cX10_isNotAbove 213 = .ok (.lushr, 1) := by decide +kernel
theorem dX10_isNotAbove_214 : decode cX10_isNotAbove 214 = .ok (.ladd, 1) := by decide +kernel
theorem dX10_isNotAbove_215 : decode cX10_isNotAbove 215 = .ok (.lstore 18, 2) := by decide +kernel
theorem dX10_isNotAbove_217 : decode cX10_isNotAbove 217 = .ok (.lload 16, 2) := by decide +kernel
theorem dX10_isNotAbove_219 : decode cX10_isNotAbove 219 = .ok (.ldc2_w 120, 3) := by decide +kernel
theorem dX10_isNotAbove_222 : decode cX10_isNotAbove 222 = .ok (.land, 1) := by decide +kernel
theorem dX10_isNotAbove_223 : decode cX10_isNotAbove 223 = .ok (.lstore 16, 2) := by decide +kernel
theorem dX10_isNotAbove_225 : decode cX10_isNotAbove 225 = .ok (.lload 20, 2) := by decide +kernel
theorem dX10_isNotAbove_227 : decode cX10_isNotAbove 227 = .ok (.lload 18, 2) := by decide +kernel
theorem dX10_isNotAbove_229 : decode cX10_isNotAbove 229 = .ok (.bipush 24, 2) := by decide +kernel
theorem dX10_isNotAbove_231 : decode cX10_isNotAbove 231 = .ok (.lushr, 1) := by decide +kernel
theorem dX10_isNotAbove_232 : decode cX10_isNotAbove 232 = .ok (.ladd, 1) := by decide +kernel
theorem dX10_isNotAbove_233 : decode cX10_isNotAbove 233 = .ok (.lstore 20, 2) := by decide +kernel
theorem dX10_isNotAbove_235 : decode cX10_isNotAbove 235 = .ok (.lload 18, 2) := by decide +kernel
theorem dX10_isNotAbove_237 : decode cX10_isNotAbove 237 = .ok (.ldc2_w 120, 3) := by decide +kernel
theorem dX10_isNotAbove_240 : decode cX10_isNotAbove 240 = .ok (.land, 1) := by decide +kernel
theorem dX10_isNotAbove_241 : decode cX10_isNotAbove 241 = .ok (.lstore 18, 2) := by decide +kernel
theorem dX10_isNotAbove_243 : decode cX10_isNotAbove 243 = .ok (.lload 22, 2) := by decide +kernel
theorem dX10_isNotAbove_245 : decode cX10_isNotAbove 245 = .ok (.lload 20, 2) := by decide +kernel
theorem dX10_isNotAbove_247 : decode cX10_isNotAbove 247 = .ok (.bipush 24, 2) := by decide +kernel
theorem dX10_isNotAbove_249 : decode cX10_isNotAbove 249 = .ok (.lushr, 1) := by decide +kernel
theorem dX10_isNotAbove_250 : decode cX10_isNotAbove 250 = .ok (.ladd, 1) := by decide +kernel
theorem dX10_isNotAbove_251 : decode cX10_isNotAbove 251 = .ok (.lstore 22, 2) := by decide +kernel
theorem dX10_isNotAbove_253 : decode cX10_isNotAbove 253 = .ok (.lload 20, 2) := by decide +kernel
theorem dX10_isNotAbove_255 : decode cX10_isNotAbove 255 = .ok (.ldc2_w 120, 3) := by decide +kernel
theorem dX10_isNotAbove_258 : decode cX10_isNotAbove 258 = .ok (.land, 1) := by decide +kernel
theorem dX10_isNotAbove_259 : decode cX10_isNotAbove 259 = .ok (.lstore 20, 2) := by decide +kernel
theorem dX10_isNotAbove_261 : decode cX10_isNotAbove 261 = .ok (.lload 22, 2) := by decide +kernel
theorem dX10_isNotAbove_263 : decode cX10_isNotAbove 263 = .ok (.iload_n 2, 1) := by decide +kernel
theorem dX10_isNotAbove_264 : decode cX10_isNotAbove 264 = .ok (.i2l, 1) := by decide +kernel
theorem dX10_isNotAbove_265 : decode cX10_isNotAbove 265 = .ok (.lcmp, 1) := by decide +kernel
theorem dX10_isNotAbove_266 : decode cX10_isNotAbove 266 = .ok (.ifCond .lt 39, 3) := by decide +kernel
theorem dX10_isNotAbove_269 : decode cX10_isNotAbove 269 = .ok (.lload 22, 2) := by decide +kernel
theorem dX10_isNotAbove_271 : decode cX10_isNotAbove 271 = .ok (.iload_n 2, 1) := by decide +kernel
theorem dX10_isNotAbove_272 : decode cX10_isNotAbove 272 = .ok (.i2l, 1) := by decide +kernel
theorem dX10_isNotAbove_273 : decode cX10_isNotAbove 273 = .ok (.lcmp, 1) := by decide +kernel
theorem dX10_isNotAbove_274 : decode cX10_isNotAbove 274 = .ok (.ifCond .ne 35, 3) := by decide +kernel
theorem dX10_isNotAbove_277 : decode cX10_isNotAbove 277 = .ok (.lload 20, 2) := by decide +kernel
theorem dX10_isNotAbove_279 : decode cX10_isNotAbove 279 = .ok (.lconst 0, 1) := by decide +kernel
theorem dX10_isNotAbove_280 : decode cX10_isNotAbove 280 = .ok (.lcmp, 1) := by decide +kernel
theorem dX10_isNotAbove_281 : decode cX10_isNotAbove 281 = .ok (.ifCond .ne 28, 3) := by decide +kernel
theorem dX10_isNotAbove_284 : decode cX10_isNotAbove 284 = .ok (.lload 18, 2) := by decide +kernel
theorem dX10_isNotAbove_286 : decode cX10_isNotAbove 286 = .ok (.lconst 0, 1) := by decide +kernel
theorem dX10_isNotAbove_287 : decode cX10_isNotAbove 287 = .ok (.lcmp, 1) := by decide +kernel
theorem dX10_isNotAbove_288 : decode cX10_isNotAbove 288 = .ok (.ifCond .ne 21, 3) := by decide +kernel
theorem dX10_isNotAbove_291 : decode cX10_isNotAbove 291 = .ok (.lload 16, 2) := by decide +kernel
theorem dX10_isNotAbove_293 : decode cX10_isNotAbove 293 = .ok (.lconst 0, 1) := by decide +kernel
theorem dX10_isNotAbove_294 : decode cX10_isNotAbove 294 = .ok (.lcmp, 1) := by decide +kernel
theorem dX10_isNotAbove_295 : decode cX10_isNotAbove 295 = .ok (.ifCond .ne 14, 3) := by decide +kernel
theorem dX10_isNotAbove_298 : decode cX10_isNotAbove 298 = .ok (.lload 14, 2) := by decide +kernel
theorem dX10_isNotAbove_300 : decode cX10_isNotAbove 300 = .ok (.lconst 0, 1) := by decide +kernel
theorem dX10_isNotAbove_301 : decode cX10_isNotAbove 301 = .ok (.lcmp, 1) := by decide +kernel
theorem dX10_isNotAbove_302 : decode cX10_isNotAbove 302 = .ok (.ifCond .ne 7, 3) := by decide +kernel
theorem dX10_isNotAbove_305 : decode cX10_isNotAbove 305 = .ok (.iconst 1, 1) := by decide +kernel
theorem dX10_isNotAbove_306 : decode cX10_isNotAbove 306 = .ok (.goto 4, 3) := by decide +kernel
theorem dX10_isNotAbove_309 : decode cX10_isNotAbove 309 = .ok (.iconst 0, 1) := by decide +kernel
theorem dX10_isNotAbove_310 : decode cX10_isNotAbove 310 = .ok (.ireturn, 1) := by decide +kernel
theorem dX10_prepare_0 : decode cX10_prepare 0 = .ok (.iconst 2, 1) := by decide +kernel
theorem dX10_prepare_1 : decode cX10_prepare 1 = .ok (.istore_n 1, 1) := by decide +kernel
theorem dX10_prepare_2 : decode cX10_prepare 2 = .ok (.iconst 0, 1) := by decide +kernel
theorem dX10_prepare_3 : decode cX10_prepare 3 = .ok (.istore_n 2, 1) := by decide +kernel
theorem dX10_prepare_4 : decode cX10_prepare 4 = .ok (.iload_n 2, 1) := by decide +kernel
theorem dX10_prepare_5 : decode cX10_prepare 5 = .ok (.bipush 64, 2) := by decide +kernel
theorem dX10_prepare_7 : decode cX10_prepare 7 = .ok (.if_icmp .ge 107, 3) := by decide +kernel
theorem dX10_prepare_10 : decode cX10_prepare 10 = .ok (.iconst 0, 1) := by decide +kernel
theorem dX10_prepare_11 : decode cX10_prepare 11 = .ok (.istore_n 3, 1) := by decide +kernel
theorem dX10_prepare_12 : decode cX10_prepare 12 = .ok (.iload_n 3, 1) := by decide +kernel
theorem dX10_prepare_13 : decode cX10_prepare 13 = .ok (.ifCond .ne 57, 3) := by decide +kernel
theorem dX10_prepare_16 : decode cX10_prepare 16 = .ok (.iconst 1, 1) := by decide +kernel
theorem dX10_prepare_17 : decode cX10_prepare 17 = .ok (.istore_n 3, 1) := by decide +kernel
theorem dX10_prepare_18 : decode cX10_prepare 18 = .ok (.iconst 0, 1) := by decide +kernel
theorem dX10_prepare_19 : decode cX10_prepare 19 = .ok (.istore 4, 2) := by decide +kernel
theorem dX10_prepare_21 : decode cX10_prepare 21 = .ok (.iload 4, 2) := by decide +kernel
theorem dX10_prepare_23 : decode cX10_prepare 23 = .ok (.iload_n 2, 1) := by decide +kernel
theorem dX10_prepare_24 : decode cX10_prepare 24 = .ok (.if_icmp .ge 31, 3) := by decide +kernel
theorem dX10_prepare_27 : decode cX10_prepare 27 = .ok (.iload_n 3, 1) := by decide +kernel
theorem dX10_prepare_28 : decode cX10_prepare 28 = .ok (.ifCond .eq 19, 3) := by decide +kernel
theorem dX10_prepare_31 : decode cX10_prepare 31 = .ok (.iload_n 1, 1) := by decide +kernel
theorem dX10_prepare_32 : decode cX10_prepare 32 = .ok (.aload_n 0, 1) := by decide +kernel
theorem dX10_prepare_33 : decode cX10_prepare 33 = .ok (.getfield 13, 3) := by decide +kernel
theorem dX10_prepare_36 : decode cX10_prepare 36 = .ok (.iload 4, 2) := by decide +kernel
theorem dX10_prepare_38 : decode cX10_prepare 38 = .ok (.iaload, 1) := by decide +kernel
theorem dX10_prepare_39 : decode cX10_prepare 39 = .ok (.irem, 1) := by decide +kernel
theorem dX10_prepare_40 : decode cX10_prepare 40 = .ok (.ifCond .eq 7, 3) := by decide +kernel
theorem dX10_prepare_43 : decode cX10_prepare 43 = .ok (.iconst 1, 1) := by decide +kernel
theorem dX10_prepare_44 : decode cX10_prepare 44 = .ok (.goto 4, 3) := by decide +kernel
theorem dX10_prepare_47 : decode cX10_prepare 47 = .ok (.iconst 0, 1) := by decide +kernel
theorem dX10_prepare_48 : decode cX10_prepare 48 = .ok (.istore_n 3, 1) := by decide +kernel
theorem dX10_prepare_49 : decode cX10_prepare 49 = .ok (.iinc 4 1, 3) := by decide +kernel
theorem dX10_prepare_52 : decode cX10_prepare 52 = .ok (.goto (-31), 3) := by decide +kernel
theorem dX10_prepare_55 : decode cX10_prepare 55 = .ok (.iload_n 1, 1) := by decide +kernel
theorem dX10_prepare_56 : decode cX10_prepare 56 = .ok (.iload_n 3, 1) := by decide +kernel
theorem dX10_prepare_57 : decode cX10_prepare 57 = .ok (.ifCond .eq 7, 3) := by decide +kernel
theorem dX10_prepare_60 : decode cX10_prepare 60 = .ok (.iconst 0, 1) := by decide +kernel
theorem dX10_prepare_61 : decode cX10_prepare 61 = .ok (.goto 4, 3) := by decide +kernel
theorem dX10_prepare_64 : decode cX10_prepare 64 = .ok (.iconst 1, 1) := by decide +kernel
theorem dX10_prepare_65 : decode cX10_prepare 65 = .ok (.iadd, 1) := by decide +kernel
theorem dX10_prepare_66 : decode cX10_prepare 66 = .ok (.istore_n 1, 1) := by decide +kernel
theorem dX10_prepare_67 : decode cX10_prepare 67 = .ok (.goto (-55), 3) := by decide +kernel
theorem dX10_prepare_70 : decode cX10_prepare 70 = .ok (.aload_n 0, 1) := by decide +kernel
theorem dX10_prepare_71 : decode cX10_prepare 71 = .ok (.getfield 13, 3) := by decide +kernel
theorem dX10_prepare_74 : decode cX10_prepare 74 = .ok (.iload_n 2, 1) := by decide +kernel
theorem dX10_prepare_75 : decode cX10_prepare 75 = .ok (.iload_n 1, 1) := by decide +kernel
theorem dX10_prepare_76 : decode cX10_prepare 76 = .ok (.iastore, 1) := by decide +kernel
theorem dX10_prepare_77 : decode cX10_prepare 77 = .ok (.aload_n 0, 1) := by decide +kernel
theorem dX10_prepare_78 : decode cX10_prepare 78 = .ok (.getfield 17, 3) := by decide +kernel
theorem dX10_prepare_81 : decode cX10_prepare 81 = .ok (.iload_n 2, 1) := by decide +kernel
theorem dX10_prepare_82 : decode cX10_prepare 82 = .ok (.iload_n 1, 1) := by decide +kernel
theorem dX10_prepare_83 : decode cX10_prepare 83 = .ok (.iconst 1, 1) := by decide +kernel
theorem dX10_prepare_84 : decode cX10_prepare 84 = .ok (.invokestatic 126, 3) := by decide +kernel
theorem dX10_prepare_87 : decode cX10_prepare 87 = .ok (.iastore, 1) := by decide +kernel
theorem dX10_prepare_88 : decode cX10_prepare 88 = .ok (.iload_n 2, 1) := by decide +kernel
theorem dX10_prepare_89 : decode cX10_prepare 89 = .ok (.bipush 8, 2) := by decide +kernel
theorem dX10_prepare_91 : decode cX10_prepare 91 = .ok (.if_icmp .ge 14, 3) := by decide +kernel
theorem dX10_prepare_94 : decode cX10_prepare 94 = .ok (.aload_n 0, 1) := by decide +kernel
theorem dX10_prepare_95 : decode cX10_prepare 95 = .ok (.getfield 20, 3) := by decide +kernel
theorem dX10_prepare_98 : decode cX10_prepare 98 = .ok (.iload_n 2, 1) := by decide +kernel
theorem dX10_prepare_99 : decode cX10_prepare 99 = .ok (.iload_n 1, 1) := by decide +kernel
theorem dX10_prepare_100 : decode cX10_prepare 100 = .ok (.iconst 0, 1) := by decide +kernel
theorem dX10_prepare_101 : decode cX10_prepare 101 = .ok (.invokestatic 126, 3) := by decide +kernel
theorem dX10_prepare_104 : decode cX10_prepare 104 = .ok (.iastore, 1) := by decide +kernel
theorem dX10_prepare_105 : decode cX10_prepare 105 = .ok (.iinc 1 1, 3) := by decide +kernel
theorem dX10_prepare_108 : decode cX10_prepare 108 = .ok (.iinc 2 1, 3) := by decide +kernel
theorem dX10_prepare_111 : decode cX10_prepare 111 = .ok (.goto (-107), 3) := by decide +kernel
theorem dX10_prepare_114 : decode cX10_prepare 114 = .ok (.aload_n 0, 1) := by decide +kernel
theorem dX10_prepare_115 : decode cX10_prepare 115 = .ok (.iconst 1, 1) := by decide +kernel
theorem dX10_prepare_116 : decode cX10_prepare 116 = .ok (.putfield 130, 3) := by decide +kernel
theorem dX10_prepare_119 : decode cX10_prepare 119 = .ok (.return_, 1) := by decide +kernel
theorem dX10_turn_0 : decode cX10_turn 0 = .ok (.iload_n 0, 1) := by decide +kernel
theorem dX10_turn_1 : decode cX10_turn 1 = .ok (.iload_n 1, 1) := by decide +kernel
theorem dX10_turn_2 : decode cX10_turn 2 = .ok (.iushr, 1) := by decide +kernel
theorem dX10_turn_3 : decode cX10_turn 3 = .ok (.iload_n 0, 1) := by decide +kernel
theorem dX10_turn_4 : decode cX10_turn 4 = .ok (.bipush 32, 2) := by decide +kernel
theorem dX10_turn_6 : decode cX10_turn 6 = .ok (.iload_n 1, 1) := by decide +kernel
theorem dX10_turn_7 : decode cX10_turn 7 = .ok (.isub, 1) := by decide +kernel
theorem dX10_turn_8 : decode cX10_turn 8 = .ok (.ishl, 1) := by decide +kernel
theorem dX10_turn_9 : decode cX10_turn 9 = .ok (.ior, 1) := by decide +kernel
theorem dX10_turn_10 : decode cX10_turn 10 = .ok (.ireturn, 1) := by decide +kernel
theorem dX10_eat_0 : decode cX10_eat 0 = .ok (.iconst 0, 1) := by decide +kernel
theorem dX10_eat_1 : decode cX10_eat 1 = .ok (.istore_n 1, 1) := by decide +kernel
theorem dX10_eat_2 : decode cX10_eat 2 = .ok (.iload_n 1, 1) := by decide +kernel
theorem dX10_eat_3 : decode cX10_eat 3 = .ok (.bipush 16, 2) := by decide +kernel
theorem dX10_eat_5 : decode cX10_eat 5 = .ok (.if_icmp .ge 81, 3) := by decide +kernel
theorem dX10_eat_8 : decode cX10_eat 8 = .ok (.aload_n 0, 1) := by decide +kernel
theorem dX10_eat_9 : decode cX10_eat 9 = .ok (.getfield 26, 3) := by decide +kernel
theorem dX10_eat_12 : decode cX10_eat 12 = .ok (.iload_n 1, 1) := by decide +kernel
theorem dX10_eat_13 : decode cX10_eat 13 = .ok (.aload_n 0, 1) := by decide +kernel
theorem dX10_eat_14 : decode cX10_eat 14 = .ok (.getfield 29, 3) := by decide +kernel
theorem dX10_eat_17 : decode cX10_eat 17 = .ok (.iconst 4, 1) := by decide +kernel
theorem dX10_eat_18 : decode cX10_eat 18 = .ok (.iload_n 1, 1) := by decide +kernel
theorem dX10_eat_19 : decode cX10_eat 19 = .ok (.imul, 1) := by decide +kernel
theorem dX10_eat_20 : decode cX10_eat 20 = .ok (.baload, 1) := by decide +kernel
theorem dX10_eat_21 : decode cX10_eat 21 = .ok (.sipush 255, 3) := by decide +kernel
theorem dX10_eat_24 : decode cX10_eat 24 = .ok (.iand, 1) := by decide +kernel
theorem dX10_eat_25 : decode cX10_eat 25 = .ok (.bipush 24, 2) := by decide +kernel
theorem dX10_eat_27 : decode cX10_eat 27 = .ok (.ishl, 1) := by decide +kernel
theorem dX10_eat_28 : decode cX10_eat 28 = .ok (.aload_n 0, 1) := by decide +kernel
theorem dX10_eat_29 : decode cX10_eat 29 = .ok (.getfield 29, 3) := by decide +kernel
theorem dX10_eat_32 : decode cX10_eat 32 = .ok (.iconst 4, 1) := by decide +kernel
theorem dX10_eat_33 : decode cX10_eat 33 = .ok (.iload_n 1, 1) := by decide +kernel
theorem dX10_eat_34 : decode cX10_eat 34 = .ok (.imul, 1) := by decide +kernel
theorem dX10_eat_35 : decode cX10_eat 35 = .ok (.iconst 1, 1) := by decide +kernel
theorem dX10_eat_36 : decode cX10_eat 36 = .ok (.iadd, 1) := by decide +kernel
theorem dX10_eat_37 : decode cX10_eat 37 = .ok (.baload, 1) := by decide +kernel
theorem dX10_eat_38 : decode cX10_eat 38 = .ok (.sipush 255, 3) := by decide +kernel
theorem dX10_eat_41 : decode cX10_eat 41 = .ok (.iand, 1) := by decide +kernel
theorem dX10_eat_42 : decode cX10_eat 42 = .ok (.bipush 16, 2) := by decide +kernel
theorem dX10_eat_44 : decode cX10_eat 44 = .ok (.ishl, 1) := by decide +kernel
theorem dX10_eat_45 : decode cX10_eat 45 = .ok (.ior, 1) := by decide +kernel
theorem dX10_eat_46 : decode cX10_eat 46 = .ok (.aload_n 0, 1) := by decide +kernel
theorem dX10_eat_47 : decode cX10_eat 47 = .ok (.getfield 29, 3) := by decide +kernel
theorem dX10_eat_50 : decode cX10_eat 50 = .ok (.iconst 4, 1) := by decide +kernel
theorem dX10_eat_51 : decode cX10_eat 51 = .ok (.iload_n 1, 1) := by decide +kernel
theorem dX10_eat_52 : decode cX10_eat 52 = .ok (.imul, 1) := by decide +kernel
theorem dX10_eat_53 : decode cX10_eat 53 = .ok (.iconst 2, 1) := by decide +kernel
theorem dX10_eat_54 : decode cX10_eat 54 = .ok (.iadd, 1) := by decide +kernel
theorem dX10_eat_55 : decode cX10_eat 55 = .ok (.baload, 1) := by decide +kernel
theorem dX10_eat_56 : decode cX10_eat 56 = .ok (.sipush 255, 3) := by decide +kernel
theorem dX10_eat_59 : decode cX10_eat 59 = .ok (.iand, 1) := by decide +kernel
theorem dX10_eat_60 : decode cX10_eat 60 = .ok (.bipush 8, 2) := by decide +kernel
theorem dX10_eat_62 : decode cX10_eat 62 = .ok (.ishl, 1) := by decide +kernel
theorem dX10_eat_63 : decode cX10_eat 63 = .ok (.ior, 1) := by decide +kernel
theorem dX10_eat_64 : decode cX10_eat 64 = .ok (.aload_n 0, 1) := by decide +kernel
theorem dX10_eat_65 : decode cX10_eat 65 = .ok (.getfield 29, 3) := by decide +kernel
theorem dX10_eat_68 : decode cX10_eat 68 = .ok (.iconst 4, 1) := by decide +kernel
theorem dX10_eat_69 : decode cX10_eat 69 = .ok (.iload_n 1, 1) := by decide +kernel
theorem dX10_eat_70 : decode cX10_eat 70 = .ok (.imul, 1) := by decide +kernel
theorem dX10_eat_71 : decode cX10_eat 71 = .ok (.iconst 3, 1) := by decide +kernel
theorem dX10_eat_72 : decode cX10_eat 72 = .ok (.iadd, 1) := by decide +kernel
theorem dX10_eat_73 : decode cX10_eat 73 = .ok (.baload, 1) := by decide +kernel
theorem dX10_eat_74 : decode cX10_eat 74 = .ok (.sipush 255, 3) := by decide +kernel
theorem dX10_eat_77 : decode cX10_eat 77 = .ok (.iand, 1) := by decide +kernel
theorem dX10_eat_78 : decode cX10_eat 78 = .ok (.ior, 1) := by decide +kernel
theorem dX10_eat_79 : decode cX10_eat 79 = .ok (.iastore, 1) := by decide +kernel
theorem dX10_eat_80 : decode cX10_eat 80 = .ok (.iinc 1 1, 3) := by decide +kernel
theorem dX10_eat_83 : decode cX10_eat 83 = .ok (.goto (-81), 3) := by decide +kernel
theorem dX10_eat_86 : decode cX10_eat 86 = .ok (.bipush 16, 2) := by decide +kernel
theorem dX10_eat_88 : decode cX10_eat 88 = .ok (.istore_n 1, 1) := by decide +kernel
theorem dX10_eat_89 : decode cX10_eat 89 = .ok (.iload_n 1, 1) := by decide +kernel
theorem dX10_eat_90 : decode cX10_eat 90 = .ok (.bipush 64, 2) := by decide +kernel
theorem dX10_eat_92 : decode cX10_eat 92 = .ok (.if_icmp .ge 90, 3) := by decide +kernel
theorem dX10_eat_95 : decode cX10_eat 95 = .ok (.aload_n 0, 1) := by decide +kernel
theorem dX10_eat_96 : decode cX10_eat 96 = .ok (.getfield 26, 3) := by decide +kernel
theorem dX10_eat_99 : decode cX10_eat 99 = .ok (.iload_n 1, 1) := by decide +kernel
theorem dX10_eat_100 : decode cX10_eat 100 = .ok (.bipush 15, 2) := by decide +kernel
theorem dX10_eat_102 : decode cX10_eat 102 = .ok (.isub, 1) := by decide +kernel
theorem dX10_eat_103 : decode cX10_eat 103 = .ok (.iaload, 1) := by decide +kernel
theorem dX10_eat_104 : decode cX10_eat 104 = .ok (.istore_n 2, 1) := by decide +kernel
theorem dX10_eat_105 : decode cX10_eat 105 = .ok (.aload_n 0, 1) := by decide +kernel
theorem dX10_eat_106 : decode cX10_eat 106 = .ok (.getfield 26, 3) := by decide +kernel
theorem dX10_eat_109 : decode cX10_eat 109 = .ok (.iload_n 1, 1) := by decide +kernel
theorem dX10_eat_110 : decode cX10_eat 110 = .ok (.iconst 2, 1) := by decide +kernel
theorem dX10_eat_111 : decode cX10_eat 111 = .ok (.isub, 1) := by decide +kernel
theorem dX10_eat_112 : decode cX10_eat 112 = .ok (.iaload, 1) := by decide +kernel
theorem dX10_eat_113 : decode cX10_eat 113 = .ok (.istore_n 3, 1) := by decide +kernel
theorem dX10_eat_114 : decode cX10_eat 114 = .ok (.aload_n 0, 1) := by decide +kernel
theorem dX10_eat_115 : decode cX10_eat 115 = .ok (.getfield 26, 3) := by decide +kernel
theorem dX10_eat_118 : decode cX10_eat 118 = .ok (.iload_n 1, 1) := by decide +kernel
theorem dX10_eat_119 : decode cX10_eat 119 = .ok (.aload_n 0, 1) := by decide +kernel
theorem dX10_eat_120 : decode cX10_eat 120 = .ok (.getfield 26, 3) := by decide +kernel
theorem dX10_eat_123 : decode cX10_eat 123 = .ok (.iload_n 1, 1) := by decide +kernel
theorem dX10_eat_124 : decode cX10_eat 124 = .ok (.bipush 16, 2) := by decide +kernel
theorem dX10_eat_126 : decode cX10_eat 126 = .ok (.isub, 1) := by decide +kernel
theorem dX10_eat_127 : decode cX10_eat 127 = .ok (.iaload, 1) := by decide +kernel
theorem dX10_eat_128 : decode cX10_eat 128 = .ok (.iload_n 2, 1) := by decide +kernel
theorem dX10_eat_129 : decode cX10_eat 129 = .ok (.bipush 7, 2) := by decide +kernel
theorem dX10_eat_131 : decode cX10_eat 131 = .ok (.invokestatic 134, 3) := by decide +kernel
theorem dX10_eat_134 : decode cX10_eat 134 = .ok (.iload_n 2, 1) := by decide +kernel
theorem dX10_eat_135 : decode cX10_eat 135 = .ok (.bipush 18, 2) := by decide +kernel
theorem dX10_eat_137 : decode cX10_eat 137 = .ok (.invokestatic 134, 3) := by decide +kernel
theorem dX10_eat_140 : decode cX10_eat 140 = .ok (.ixor, 1) := by decide +kernel
theorem dX10_eat_141 : decode cX10_eat 141 = .ok (.iload_n 2, 1) := by decide +kernel
theorem dX10_eat_142 : decode cX10_eat 142 = .ok (.iconst 3, 1) := by decide +kernel
theorem dX10_eat_143 : decode cX10_eat 143 = .ok (.iushr, 1) := by decide +kernel
theorem dX10_eat_144 : decode cX10_eat 144 = .ok (.ixor, 1) := by decide +kernel
theorem dX10_eat_145 : decode cX10_eat 145 = .ok (.iadd, 1) := by decide +kernel
theorem dX10_eat_146 : decode cX10_eat 146 = .ok (.aload_n 0, 1) := by decide +kernel
theorem dX10_eat_147 : decode cX10_eat 147 = .ok (.getfield 26, 3) := by decide +kernel
theorem dX10_eat_150 : decode cX10_eat 150 = .ok (.iload_n 1, 1) := by decide +kernel
theorem dX10_eat_151 : decode cX10_eat 151 = .ok (.bipush 7, 2) := by decide +kernel
theorem dX10_eat_153 : decode cX10_eat 153 = .ok (.isub, 1) := by decide +kernel
theorem dX10_eat_154 : decode cX10_eat 154 = .ok (.iaload, 1) := by decide +kernel
theorem dX10_eat_155 : decode cX10_eat 155 = .ok (.iadd, 1) := by decide +kernel
theorem dX10_eat_156 : decode cX10_eat 156 = .ok (.iload_n 3, 1) := by decide +kernel
theorem dX10_eat_157 : decode cX10_eat 157 = .ok (.bipush 17, 2) := by decide +kernel
theorem dX10_eat_159 : decode cX10_eat 159 = .ok (.invokestatic 134, 3) := by decide +kernel
theorem dX10_eat_162 : decode cX10_eat 162 = .ok (.iload_n 3, 1) := by decide +kernel
theorem dX10_eat_163 : decode cX10_eat 163 = .ok (.bipush 19, 2) := by decide +kernel
theorem dX10_eat_165 : decode cX10_eat 165 = .ok (.invokestatic 134, 3) := by decide +kernel
theorem dX10_eat_168 : decode cX10_eat 168 = .ok (.ixor, 1) := by decide +kernel
theorem dX10_eat_169 : decode cX10_eat 169 = .ok (.iload_n 3, 1) := by decide +kernel
theorem dX10_eat_170 : decode cX10_eat 170 = .ok (.bipush 10, 2) := by decide +kernel
theorem dX10_eat_172 : decode cX10_eat 172 = .ok (.iushr, 1) := by decide +kernel
theorem dX10_eat_173 : decode cX10_eat 173 = .ok (.ixor, 1) := by decide +kernel
theorem dX10_eat_174 : decode cX10_eat 174 = .ok (.iadd, 1) := by decide +kernel
theorem dX10_eat_175 : decode cX10_eat 175 = .ok (.iastore, 1) := by decide +kernel
theorem dX10_eat_176 : decode cX10_eat 176 = .ok (.iinc 1 1, 3) := by decide +kernel
theorem dX10_eat_179 : decode cX10_eat 179 = .ok (.goto (-90), 3) := by decide +kernel
theorem dX10_eat_182 : decode cX10_eat 182 = .ok (.aload_n 0, 1) := by decide +kernel
theorem dX10_eat_183 : decode cX10_eat 183 = .ok (.getfield 23, 3) := by decide +kernel
theorem dX10_eat_186 : decode cX10_eat 186 = .ok (.iconst 0, 1) := by decide +kernel
theorem dX10_eat_187 : decode cX10_eat 187 = .ok (.iaload, 1) := by decide +kernel
theorem dX10_eat_188 : decode cX10_eat 188 = .ok (.istore_n 1, 1) := by decide +kernel
theorem dX10_eat_189 : decode cX10_eat 189 = .ok (.aload_n 0, 1) := by decide +kernel
theorem dX10_eat_190 : decode cX10_eat 190 = .ok (.getfield 23, 3) := by decide +kernel
theorem dX10_eat_193 : decode cX10_eat 193 = .ok (.iconst 1, 1) := by decide +kernel
theorem dX10_eat_194 : decode cX10_eat 194 = .ok (.iaload, 1) := by decide +kernel
theorem dX10_eat_195 : decode cX10_eat 195 = .ok (.istore_n 2, 1) := by decide +kernel
theorem dX10_eat_196 : decode cX10_eat 196 = .ok (.aload_n 0, 1) := by decide +kernel
theorem dX10_eat_197 : decode cX10_eat 197 = .ok (.getfield 23, 3) := by decide +kernel
theorem dX10_eat_200 : decode cX10_eat 200 = .ok (.iconst 2, 1) := by decide +kernel
theorem dX10_eat_201 : decode cX10_eat 201 = .ok (.iaload, 1) := by decide +kernel
theorem dX10_eat_202 : decode cX10_eat 202 = .ok (.istore_n 3, 1) := by decide +kernel
theorem dX10_eat_203 : decode cX10_eat 203 = .ok (.aload_n 0, 1) := by decide +kernel
theorem dX10_eat_204 : decode cX10_eat 204 = .ok (.getfield 23, 3) := by decide +kernel
theorem dX10_eat_207 : decode cX10_eat 207 = .ok (.iconst 3, 1) := by decide +kernel
theorem dX10_eat_208 : decode cX10_eat 208 = .ok (.iaload, 1) := by decide +kernel
theorem dX10_eat_209 : decode cX10_eat 209 = .ok (.istore 4, 2) := by decide +kernel
theorem dX10_eat_211 : decode cX10_eat 211 = .ok (.aload_n 0, 1) := by decide +kernel
theorem dX10_eat_212 : decode cX10_eat 212 = .ok (.getfield 23, 3) := by decide +kernel
theorem dX10_eat_215 : decode cX10_eat 215 = .ok (.iconst 4, 1) := by decide +kernel
theorem dX10_eat_216 : decode cX10_eat 216 = .ok (.iaload, 1) := by decide +kernel
theorem dX10_eat_217 : decode cX10_eat 217 = .ok (.istore 5, 2) := by decide +kernel
theorem dX10_eat_219 : decode cX10_eat 219 = .ok (.aload_n 0, 1) := by decide +kernel
theorem dX10_eat_220 : decode cX10_eat 220 = .ok (.getfield 23, 3) := by decide +kernel
theorem dX10_eat_223 : decode cX10_eat 223 = .ok (.iconst 5, 1) := by decide +kernel
theorem dX10_eat_224 : decode cX10_eat 224 = .ok (.iaload, 1) := by decide +kernel
theorem dX10_eat_225 : decode cX10_eat 225 = .ok (.istore 6, 2) := by decide +kernel
theorem dX10_eat_227 : decode cX10_eat 227 = .ok (.aload_n 0, 1) := by decide +kernel
theorem dX10_eat_228 : decode cX10_eat 228 = .ok (.getfield 23, 3) := by decide +kernel
theorem dX10_eat_231 : decode cX10_eat 231 = .ok (.bipush 6, 2) := by decide +kernel
theorem dX10_eat_233 : decode cX10_eat 233 = .ok (.iaload, 1) := by decide +kernel
theorem dX10_eat_234 : decode cX10_eat 234 = .ok (.istore 7, 2) := by decide +kernel
theorem dX10_eat_236 : decode cX10_eat 236 = .ok (.aload_n 0, 1) := by decide +kernel
theorem dX10_eat_237 : decode cX10_eat 237 = .ok (.getfield 23, 3) := by decide +kernel
theorem dX10_eat_240 : decode cX10_eat 240 = .ok (.bipush 7, 2) := by decide +kernel
theorem dX10_eat_242 : decode cX10_eat 242 = .ok (.iaload, 1) := by decide +kernel
theorem dX10_eat_243 : decode cX10_eat 243 = .ok (.istore 8, 2) := by decide +kernel
theorem dX10_eat_245 : decode cX10_eat 245 = .ok (.iconst 0, 1) := by decide +kernel
theorem dX10_eat_246 : decode cX10_eat 246 = .ok (.istore 9, 2) := by decide +kernel
theorem dX10_eat_248 : decode cX10_eat 248 = .ok (.iload 9, 2) := by decide +kernel
theorem dX10_eat_250 : decode cX10_eat 250 = .ok (.bipush 64, 2) := by decide +kernel
theorem dX10_eat_252 : decode cX10_eat 252 = .ok (.if_icmp .ge 132, 3) := by decide +kernel
theorem dX10_eat_255 : decode cX10_eat 255 = .ok (.iload 8, 2) := by decide +kernel
theorem dX10_eat_257 : decode cX10_eat 257 = .ok (.iload 5, 2) := by decide +kernel
theorem dX10_eat_259 : decode cX10_eat 259 = .ok (.bipush 6, 2) := by decide +kernel
theorem dX10_eat_261 : decode cX10_eat 261 = .ok (.invokestatic 134, 3) := by decide +kernel
theorem dX10_eat_264 : decode cX10_eat 264 = .ok (.iload 5, 2) := by decide +kernel
theorem dX10_eat_266 : decode cX10_eat 266 = .ok (.bipush 11, 2) := by decide +kernel
theorem dX10_eat_268 : decode cX10_eat 268 = .ok (.invokestatic 134, 3) := by decide +kernel
theorem dX10_eat_271 : decode cX10_eat 271 = .ok (.ixor, 1) := by decide +kernel
theorem dX10_eat_272 : decode cX10_eat 272 = .ok (.iload 5, 2) := by decide +kernel
theorem dX10_eat_274 : decode cX10_eat 274 = .ok (.bipush 25, 2) := by decide +kernel
theorem dX10_eat_276 : decode cX10_eat 276 = .ok (.invokestatic 134, 3) := by decide +kernel
theorem dX10_eat_279 : decode cX10_eat 279 = .ok (.ixor, 1) := by decide +kernel
theorem dX10_eat_280 : decode cX10_eat 280 = .ok (.iadd, 1) := by decide +kernel
theorem dX10_eat_281 : decode cX10_eat 281 = .ok (.iload 5, 2) := by decide +kernel
theorem dX10_eat_283 : decode cX10_eat 283 = .ok (.iload 6, 2) := by decide +kernel
theorem dX10_eat_285 : decode cX10_eat 285 = .ok (.iand, 1) := by decide +kernel
theorem dX10_eat_286 : decode cX10_eat 286 = .ok (.iload 5, 2) := by decide +kernel
theorem dX10_eat_288 : decode cX10_eat 288 = .ok (.iconst (-1), 1) := by decide +kernel
theorem dX10_eat_289 : decode cX10_eat 289 = .ok (.ixor, 1) := by decide +kernel
theorem dX10_eat_290 : decode cX10_eat 290 = .ok (.iload 7, 2) := by decide +kernel
theorem dX10_eat_292 : decode cX10_eat 292 = .ok (.iand, 1) := by decide +kernel
theorem dX10_eat_293 : decode cX10_eat 293 = .ok (.ixor, 1) := by decide +kernel
theorem dX10_eat_294 : decode cX10_eat 294 = .ok (.iadd, 1) := by decide +kernel
theorem dX10_eat_295 : decode cX10_eat 295 = .ok (.aload_n 0, 1) := by decide +kernel
theorem dX10_eat_296 : decode cX10_eat 296 = .ok (.getfield 17, 3) := by decide +kernel
theorem dX10_eat_299 : decode cX10_eat 299 = .ok (.iload 9, 2) := by decide +kernel
theorem dX10_eat_301 : decode cX10_eat 301 = .ok (.iaload, 1) := by decide +kernel
theorem dX10_eat_302 : decode cX10_eat 302 = .ok (.iadd, 1) := by decide +kernel
theorem dX10_eat_303 : decode cX10_eat 303 = .ok (.aload_n 0, 1) := by decide +kernel
theorem dX10_eat_304 : decode cX10_eat 304 = .ok (.getfield 26, 3) := by decide +kernel
theorem dX10_eat_307 : decode cX10_eat 307 = .ok (.iload 9, 2) := by decide +kernel
theorem dX10_eat_309 : decode cX10_eat 309 = .ok (.iaload, 1) := by decide +kernel
theorem dX10_eat_310 : decode cX10_eat 310 = .ok (.iadd, 1) := by decide +kernel
theorem dX10_eat_311 : decode cX10_eat 311 = .ok (.istore 10, 2) := by decide +kernel
theorem dX10_eat_313 : decode cX10_eat 313 = .ok (.iload_n 1, 1) := by decide +kernel
theorem dX10_eat_314 : decode cX10_eat 314 = .ok (.iconst 2, 1) := by decide +kernel
theorem dX10_eat_315 : decode cX10_eat 315 = .ok (.invokestatic 134, 3) := by decide +kernel
theorem dX10_eat_318 : decode cX10_eat 318 = .ok (.iload_n 1, 1) := by decide +kernel
theorem dX10_eat_319 : decode cX10_eat 319 = .ok (.bipush 13, 2) := by decide +kernel
theorem dX10_eat_321 : decode cX10_eat 321 = .ok (.invokestatic 134, 3) := by decide +kernel
theorem dX10_eat_324 : decode cX10_eat 324 = .ok (.ixor, 1) := by decide +kernel
theorem dX10_eat_325 : decode cX10_eat 325 = .ok (.iload_n 1, 1) := by decide +kernel
theorem dX10_eat_326 : decode cX10_eat 326 = .ok (.bipush 22, 2) := by decide +kernel
theorem dX10_eat_328 : decode cX10_eat 328 = .ok (.invokestatic 134, 3) := by decide +kernel
theorem dX10_eat_331 : decode cX10_eat 331 = .ok (.ixor, 1) := by decide +kernel
theorem dX10_eat_332 : decode cX10_eat 332 = .ok (.iload_n 1, 1) := by decide +kernel
theorem dX10_eat_333 : decode cX10_eat 333 = .ok (.iload_n 2, 1) := by decide +kernel
theorem dX10_eat_334 : decode cX10_eat 334 = .ok (.iand, 1) := by decide +kernel
theorem dX10_eat_335 : decode cX10_eat 335 = .ok (.iload_n 1, 1) := by decide +kernel
theorem dX10_eat_336 : decode cX10_eat 336 = .ok (.iload_n 3, 1) := by decide +kernel
theorem dX10_eat_337 : decode cX10_eat 337 = .ok (.iand, 1) := by decide +kernel
theorem dX10_eat_338 : decode cX10_eat 338 = .ok (.ixor, 1) := by decide +kernel
theorem dX10_eat_339 : decode cX10_eat 339 = .ok (.iload_n 2, 1) := by decide +kernel
theorem dX10_eat_340 : decode cX10_eat 340 = .ok (.iload_n 3, 1) := by decide +kernel
theorem dX10_eat_341 : decode cX10_eat 341 = .ok (.iand, 1) := by decide +kernel
theorem dX10_eat_342 : decode cX10_eat 342 = .ok (.ixor, 1) := by decide +kernel
theorem dX10_eat_343 : decode cX10_eat 343 = .ok (.iadd, 1) := by decide +kernel
theorem dX10_eat_344 : decode cX10_eat 344 = .ok (.istore 11, 2) := by decide +kernel
theorem dX10_eat_346 : decode cX10_eat 346 = .ok (.iload 7, 2) := by decide +kernel
theorem dX10_eat_348 : decode cX10_eat 348 = .ok (.istore 8, 2) := by decide +kernel
theorem dX10_eat_350 : decode cX10_eat 350 = .ok (.iload 6, 2) := by decide +kernel
theorem dX10_eat_352 : decode cX10_eat 352 = .ok (.istore 7, 2) := by decide +kernel
theorem dX10_eat_354 : decode cX10_eat 354 = .ok (.iload 5, 2) := by decide +kernel
theorem dX10_eat_356 : decode cX10_eat 356 = .ok (.istore 6, 2) := by decide +kernel
theorem dX10_eat_358 : decode cX10_eat 358 = .ok (.iload 4, 2) := by decide +kernel
theorem dX10_eat_360 : decode cX10_eat 360 = .ok (.iload 10, 2) := by decide +kernel
theorem dX10_eat_362 : decode cX10_eat 362 = .ok (.iadd, 1) := by decide +kernel
theorem dX10_eat_363 : decode cX10_eat 363 = .ok (.istore 5, 2) := by decide +kernel
theorem dX10_eat_365 : decode cX10_eat 365 = .ok (.iload_n 3, 1) := by decide +kernel
theorem dX10_eat_366 : decode cX10_eat 366 = .ok (.istore 4, 2) := by decide +kernel
theorem dX10_eat_368 : decode cX10_eat 368 = .ok (.iload_n 2, 1) := by decide +kernel
theorem dX10_eat_369 : decode cX10_eat 369 = .ok (.istore_n 3, 1) := by decide +kernel
theorem dX10_eat_370 : decode cX10_eat 370 = .ok (.iload_n 1, 1) := by decide +kernel
theorem dX10_eat_371 : decode cX10_eat 371 = .ok (.istore_n 2, 1) := by decide +kernel
theorem dX10_eat_372 : decode cX10_eat 372 = .ok (.iload 10, 2) := by decide +kernel
theorem dX10_eat_374 : decode cX10_eat 374 = .ok (.iload 11, 2) := by decide +kernel
theorem dX10_eat_376 : decode cX10_eat 376 = .ok (.iadd, 1) := by decide +kernel
theorem dX10_eat_377 : decode cX10_eat 377 = .ok (.istore_n 1, 1) := by decide +kernel
theorem dX10_eat_378 : decode cX10_eat 378 = .ok (.iinc 9 1, 3) := by decide +kernel
theorem dX10_eat_381 : decode cX10_eat 381 = .ok (.goto (-133), 3) := by decide +kernel
theorem dX10_eat_384 : decode cX10_eat 384 = .ok (.aload_n 0, 1) := by decide +kernel
theorem dX10_eat_385 : decode cX10_eat 385 = .ok (.getfield 23, 3) := by decide +kernel
theorem dX10_eat_388 : decode cX10_eat 388 = .ok (.iconst 0, 1) := by decide +kernel
theorem dX10_eat_389 : decode cX10_eat 389 = .ok (.dup2, 1) := by decide +kernel
theorem dX10_eat_390 : decode cX10_eat 390 = .ok (.iaload, 1) := by decide +kernel
theorem dX10_eat_391 : decode cX10_eat 391 = .ok (.iload_n 1, 1) := by decide +kernel
theorem dX10_eat_392 : decode cX10_eat 392 = .ok (.iadd, 1) := by decide +kernel
theorem dX10_eat_393 : decode cX10_eat 393 = .ok (.iastore, 1) := by decide +kernel
theorem dX10_eat_394 : decode cX10_eat 394 = .ok (.aload_n 0, 1) := by decide +kernel
theorem dX10_eat_395 : decode cX10_eat 395 = .ok (.getfield 23, 3) := by decide +kernel
theorem dX10_eat_398 : decode cX10_eat 398 = .ok (.iconst 1, 1) := by decide +kernel
theorem dX10_eat_399 : decode cX10_eat 399 = .ok (.dup2, 1) := by decide +kernel
theorem dX10_eat_400 : decode cX10_eat 400 = .ok (.iaload, 1) := by decide +kernel
theorem dX10_eat_401 : decode cX10_eat 401 = .ok (.iload_n 2, 1) := by decide +kernel
theorem dX10_eat_402 : decode cX10_eat 402 = .ok (.iadd, 1) := by decide +kernel
theorem dX10_eat_403 : decode cX10_eat 403 = .ok (.iastore, 1) := by decide +kernel
theorem dX10_eat_404 : decode cX10_eat 404 = .ok (.aload_n 0, 1) := by decide +kernel
theorem dX10_eat_405 : decode cX10_eat 405 = .ok (.getfield 23, 3) := by decide +kernel
theorem dX10_eat_408 : decode cX10_eat 408 = .ok (.iconst 2, 1) := by decide +kernel
theorem dX10_eat_409 : decode cX10_eat 409 = .ok (.dup2, 1) := by decide +kernel
theorem dX10_eat_410 : decode cX10_eat 410 = .ok (.iaload, 1) := by decide +kernel
theorem dX10_eat_411 : decode cX10_eat 411 = .ok (.iload_n 3, 1) := by decide +kernel
theorem dX10_eat_412 : decode cX10_eat 412 = .ok (.iadd, 1) := by decide +kernel
theorem dX10_eat_413 : decode cX10_eat 413 = .ok (.iastore, 1) := by decide +kernel
theorem dX10_eat_414 : decode cX10_eat 414 = .ok (.aload_n 0, 1) := by decide +kernel
theorem dX10_eat_415 : decode cX10_eat 415 = .ok (.getfield 23, 3) := by decide +kernel
theorem dX10_eat_418 : decode cX10_eat 418 = .ok (.iconst 3, 1) := by decide +kernel
theorem dX10_eat_419 : decode cX10_eat 419 = .ok (.dup2, 1) := by decide +kernel
theorem dX10_eat_420 : decode cX10_eat 420 = .ok (.iaload, 1) := by decide +kernel
theorem dX10_eat_421 : decode cX10_eat 421 = .ok (.iload 4, 2) := by decide +kernel
theorem dX10_eat_423 : decode cX10_eat 423 = .ok (.iadd, 1) := by decide +kernel
theorem dX10_eat_424 : decode cX10_eat 424 = .ok (.iastore, 1) := by decide +kernel
theorem dX10_eat_425 : decode cX10_eat 425 = .ok (.aload_n 0, 1) := by decide +kernel
theorem dX10_eat_426 : decode cX10_eat 426 = .ok (.getfield 23, 3) := by decide +kernel
theorem dX10_eat_429 : decode cX10_eat 429 = .ok (.iconst 4, 1) := by decide +kernel
theorem dX10_eat_430 : decode cX10_eat 430 = .ok (.dup2, 1) := by decide +kernel
theorem dX10_eat_431 : decode cX10_eat 431 = .ok (.iaload, 1) := by decide +kernel
theorem dX10_eat_432 : decode cX10_eat 432 = .ok (.iload 5, 2) := by decide +kernel
theorem dX10_eat_434 : decode cX10_eat 434 = .ok (.iadd, 1) := by decide +kernel
theorem dX10_eat_435 : decode cX10_eat 435 = .ok (.iastore, 1) := by decide +kernel
theorem dX10_eat_436 : decode cX10_eat 436 = .ok (.aload_n 0, 1) := by decide +kernel
theorem dX10_eat_437 : decode cX10_eat 437 = .ok (.getfield 23, 3) := by decide +kernel
theorem dX10_eat_440 : decode cX10_eat 440 = .ok (.iconst 5, 1) := by decide +kernel
theorem dX10_eat_441 : decode cX10_eat 441 = .ok (.dup2, 1) := by decide +kernel
theorem dX10_eat_442 : decode cX10_eat 442 = .ok (.iaload, 1) := by decide +kernel
theorem dX10_eat_443 : decode cX10_eat 443 = .ok (.iload 6, 2) := by decide +kernel
theorem dX10_eat_445 : decode cX10_eat 445 = .ok (.iadd, 1) := by decide +kernel
theorem dX10_eat_446 : decode cX10_eat 446 = .ok (.iastore, 1) := by decide +kernel
theorem dX10_eat_447 : decode cX10_eat 447 = .ok (.aload_n 0, 1) := by decide +kernel
theorem dX10_eat_448 : decode cX10_eat 448 = .ok (.getfield 23, 3) := by decide +kernel
theorem dX10_eat_451 : decode cX10_eat 451 = .ok (.bipush 6, 2) := by decide +kernel
theorem dX10_eat_453 : decode cX10_eat 453 = .ok (.dup2, 1) := by decide +kernel
theorem dX10_eat_454 : decode cX10_eat 454 = .ok (.iaload, 1) := by decide +kernel
theorem dX10_eat_455 : decode cX10_eat 455 = .ok (.iload 7, 2) := by decide +kernel
theorem dX10_eat_457 : decode cX10_eat 457 = .ok (.iadd, 1) := by decide +kernel
theorem dX10_eat_458 : decode cX10_eat 458 = .ok (.iastore, 1) := by decide +kernel
theorem dX10_eat_459 : decode cX10_eat 459 = .ok (.aload_n 0, 1) := by decide +kernel
theorem dX10_eat_460 : decode cX10_eat 460 = .ok (.getfield 23, 3) := by decide +kernel
theorem dX10_eat_463 : decode cX10_eat 463 = .ok (.bipush 7, 2) := by decide +kernel
theorem dX10_eat_465 : decode cX10_eat 465 = .ok (.dup2, 1) := by decide +kernel
theorem dX10_eat_466 : decode cX10_eat 466 = .ok (.iaload, 1) := by decide +kernel
theorem dX10_eat_467 : decode cX10_eat 467 = .ok (.iload 8, 2) := by decide +kernel
theorem dX10_eat_469 : decode cX10_eat 469 = .ok (.iadd, 1) := by decide +kernel
theorem dX10_eat_470 : decode cX10_eat 470 = .ok (.iastore, 1) := by decide +kernel
theorem dX10_eat_471 : decode cX10_eat 471 = .ok (.return_, 1) := by decide +kernel
theorem dX10_hash_0 : decode cX10_hash 0 = .ok (.aload_n 0, 1) := by decide +kernel
theorem dX10_hash_1 : decode cX10_hash 1 = .ok (.getfield 130, 3) := by decide +kernel
theorem dX10_hash_4 : decode cX10_hash 4 = .ok (.ifCond .ne 7, 3) := by decide +kernel
theorem dX10_hash_7 : decode cX10_hash 7 = .ok (.aload_n 0, 1) := by decide +kernel
theorem dX10_hash_8 : decode cX10_hash 8 = .ok (.invokevirtual 138, 3) := by decide +kernel
theorem dX10_hash_11 : decode cX10_hash 11 = .ok (.iconst 0, 1) := by decide +kernel
theorem dX10_hash_12 : decode cX10_hash 12 = .ok (.istore 7, 2) := by decide +kernel
theorem dX10_hash_14 : decode cX10_hash 14 = .ok (.iload 7, 2) := by decide +kernel
theorem dX10_hash_16 : decode cX10_hash 16 = .ok (.bipush 8, 2) := by decide +kernel
theorem dX10_hash_18 : decode cX10_hash 18 = .ok (.if_icmp .ge 23, 3) := by decide +kernel
theorem dX10_hash_21 : decode cX10_hash 21 = .ok (.aload_n 0, 1) := by decide +kernel
theorem dX10_hash_22 : decode cX10_hash 22 = .ok (.getfield 23, 3) := by decide +kernel
theorem dX10_hash_25 : decode cX10_hash 25 = .ok (.iload 7, 2) := by decide +kernel
theorem dX10_hash_27 : decode cX10_hash 27 = .ok (.aload_n 0, 1) := by decide +kernel
theorem dX10_hash_28 : decode cX10_hash 28 = .ok (.getfield 20, 3) := by decide +kernel
theorem dX10_hash_31 : decode cX10_hash 31 = .ok (.iload 7, 2) := by decide +kernel
theorem dX10_hash_33 : decode cX10_hash 33 = .ok (.iaload, 1) := by decide +kernel
theorem dX10_hash_34 : decode cX10_hash 34 = .ok (.iastore, 1) := by decide +kernel
theorem dX10_hash_35 : decode cX10_hash 35 = .ok (.iinc 7 1, 3) := by decide +kernel
theorem dX10_hash_38 : decode cX10_hash 38 = .ok (.goto (-24), 3) := by decide +kernel
theorem dX10_hash_41 : decode cX10_hash 41 = .ok (.iconst 0, 1) := by decide +kernel
theorem dX10_hash_42 : decode cX10_hash 42 = .ok (.istore 7, 2) := by decide +kernel
theorem dX10_hash_44 : decode cX10_hash 44 = .ok (.iload 7, 2) := by decide +kernel
theorem dX10_hash_46 : decode cX10_hash 46 = .ok (.bipush 64, 2) := by decide +kernel
theorem dX10_hash_48 : decode cX10_hash 48 = .ok (.if_icmp .ge 36, 3) := by decide +kernel
theorem dX10_hash_51 : decode cX10_hash 51 = .ok (.aload_n 0, 1) := by decide +kernel
theorem dX10_hash_52 : decode cX10_hash 52 = .ok (.getfield 29, 3) := by decide +kernel
theorem dX10_hash_55 : decode cX10_hash 55 = .ok (.iload 7, 2) := by decide +kernel
theorem dX10_hash_57 : decode cX10_hash 57 = .ok (.iload 7, 2) := by decide +kernel
theorem dX10_hash_59 : decode cX10_hash 59 = .ok (.bipush 16, 2) := by decide +kernel
theorem dX10_hash_61 : decode cX10_hash 61 = .ok (.if_icmp .ge 12, 3) := by decide +kernel
theorem dX10_hash_64 : decode cX10_hash 64 = .ok (.aload_n 1, 1) := by decide +kernel
theorem dX10_hash_65 : decode cX10_hash 65 = .ok (.iload_n 2, 1) := by decide +kernel
theorem dX10_hash_66 : decode cX10_hash 66 = .ok (.iload 7, 2) := by decide +kernel
theorem dX10_hash_68 : decode cX10_hash 68 = .ok (.iadd, 1) := by decide +kernel
theorem dX10_hash_69 : decode cX10_hash 69 = .ok (.baload, 1) := by decide +kernel
theorem dX10_hash_70 : decode cX10_hash 70 = .ok (.goto 4, 3) := by decide +kernel
theorem dX10_hash_73 : decode cX10_hash 73 = .ok (.iconst 0, 1) := by decide +kernel
theorem dX10_hash_74 : decode cX10_hash 74 = .ok (.iload_n 3, 1) := by decide +kernel
theorem dX10_hash_75 : decode cX10_hash 75 = .ok (.ixor, 1) := by decide +kernel
theorem dX10_hash_76 : decode cX10_hash 76 = .ok (.i2b, 1) := by decide +kernel
theorem dX10_hash_77 : decode cX10_hash 77 = .ok (.bastore, 1) := by decide +kernel
theorem dX10_hash_78 : decode cX10_hash 78 = .ok (.iinc 7 1, 3) := by decide +kernel
theorem dX10_hash_81 : decode cX10_hash 81 = .ok (.goto (-37), 3) := by decide +kernel
theorem dX10_hash_84 : decode cX10_hash 84 = .ok (.aload_n 0, 1) := by decide +kernel
theorem dX10_hash_85 : decode cX10_hash 85 = .ok (.invokevirtual 141, 3) := by decide +kernel
theorem dX10_hash_88 : decode cX10_hash 88 = .ok (.iload 6, 2) := by decide +kernel
theorem dX10_hash_90 : decode cX10_hash 90 = .ok (.bipush 9, 2) := by decide +kernel
theorem dX10_hash_92 : decode cX10_hash 92 = .ok (.iadd, 1) := by decide +kernel
theorem dX10_hash_93 : decode cX10_hash 93 = .ok (.istore 7, 2) := by decide +kernel
theorem dX10_hash_95 : decode cX10_hash 95 = .ok (.iload 7, 2) := by decide +kernel
theorem dX10_hash_97 : decode cX10_hash 97 = .ok (.bipush 63, 2) := by decide +kernel
theorem dX10_hash_99 : decode cX10_hash 99 = .ok (.iadd, 1) := by decide +kernel
theorem dX10_hash_100 : decode cX10_hash 100 = .ok (.bipush 64, 2) := by decide +kernel
theorem dX10_hash_102 : decode cX10_hash 102 = .ok (.idiv, 1) := by decide +kernel
theorem dX10_hash_103 : decode cX10_hash 103 = .ok (.bipush 64, 2) := by decide +kernel
theorem dX10_hash_105 : decode cX10_hash 105 = .ok (.imul, 1) := by decide +kernel
theorem dX10_hash_106 : decode cX10_hash 106 = .ok (.istore 7, 2) := by decide +kernel
theorem dX10_hash_108 : decode cX10_hash 108 = .ok (.ldc2_w 144, 3) := by decide +kernel
theorem dX10_hash_111 : decode cX10_hash 111 = .ok (.bipush 64, 2) := by decide +kernel
theorem dX10_hash_113 : decode cX10_hash 113 = .ok (.iload 6, 2) := by decide +kernel
theorem dX10_hash_115 : decode cX10_hash 115 = .ok (.iadd, 1) := by decide +kernel
theorem dX10_hash_116 : decode cX10_hash 116 = .ok (.i2l, 1) := by decide +kernel
theorem dX10_hash_117 : decode cX10_hash 117 = .ok (.lmul, 1) := by decide +kernel
theorem dX10_hash_118 : decode cX10_hash 118 = .ok (.lstore 8, 2) := by decide +kernel
theorem dX10_hash_120 : decode cX10_hash 120 = .ok (.iconst 0, 1) := by decide +kernel
theorem dX10_hash_121 : decode cX10_hash 121 = .ok (.istore 10, 2) := by decide +kernel
theorem dX10_hash_123 : decode cX10_hash 123 = .ok (.iload 10, 2) := by decide +kernel
theorem dX10_hash_125 : decode cX10_hash 125 = .ok (.iload 7, 2) := by decide +kernel
theorem dX10_hash_127 : decode cX10_hash 127 = .ok (.if_icmp .ge 97, 3) := by decide +kernel
theorem dX10_hash_130 : decode cX10_hash 130 = .ok (.iload 10, 2) := by decide +kernel
theorem dX10_hash_132 : decode cX10_hash 132 = .ok (.iload 6, 2) := by decide +kernel
theorem dX10_hash_134 : decode cX10_hash 134 = .ok (.if_icmp .ge 14, 3) := by decide +kernel
theorem dX10_hash_137 : decode cX10_hash 137 = .ok (.aload 4, 2) := by decide +kernel
theorem dX10_hash_139 : decode cX10_hash 139 = .ok (.iload 5, 2) := by decide +kernel
theorem dX10_hash_141 : decode cX10_hash 141 = .ok (.iload 10, 2) := by decide +kernel
theorem dX10_hash_143 : decode cX10_hash 143 = .ok (.iadd, 1) := by decide +kernel
theorem dX10_hash_144 : decode cX10_hash 144 = .ok (.baload, 1) := by decide +kernel
theorem dX10_hash_145 : decode cX10_hash 145 = .ok (.goto 44, 3) := by decide +kernel
theorem dX10_hash_148 : decode cX10_hash 148 = .ok (.iload 10, 2) := by decide +kernel
theorem dX10_hash_150 : decode cX10_hash 150 = .ok (.iload 6, 2) := by decide +kernel
theorem dX10_hash_152 : decode cX10_hash 152 = .ok (.if_icmp .ne 9, 3) := by decide +kernel
theorem dX10_hash_155 : decode cX10_hash 155 = .ok (.sipush 128, 3) := by decide +kernel
theorem dX10_hash_158 : decode cX10_hash 158 = .ok (.goto 31, 3) := by decide +kernel
theorem dX10_hash_161 : decode cX10_hash 161 = .ok (.iload 10, 2) := by decide +kernel
theorem dX10_hash_163 : decode cX10_hash 163 = .ok (.iload 7, 2) := by decide +kernel
theorem dX10_hash_165 : decode cX10_hash 165 = .ok (.bipush 8, 2) := by decide +kernel
theorem dX10_hash_167 : decode cX10_hash 167 = .ok (.isub, 1) := by decide +kernel
theorem dX10_hash_168 : decode cX10_hash 168 = .ok (.if_icmp .lt 20, 3) := by decide +kernel
theorem dX10_hash_171 : decode cX10_hash 171 = .ok (.lload 8, 2) := by decide +kernel
theorem dX10_hash_173 : decode cX10_hash 173 = .ok (.bipush 8, 2) := by decide +kernel
theorem dX10_hash_175 : decode cX10_hash 175 = .ok (.iload 7, 2) := by decide +kernel
theorem dX10_hash_177 : decode cX10_hash 177 = .ok (.iconst 1, 1) := by decide +kernel
theorem dX10_hash_178 : decode cX10_hash 178 = .ok (.isub, 1) := by decide +kernel
theorem dX10_hash_179 : decode cX10_hash 179 = .ok (.iload 10, 2) := by decide +kernel
theorem dX10_hash_181 : decode cX10_hash 181 = .ok (.isub, 1) := by decide +kernel
theorem dX10_hash_182 : decode cX10_hash 182 = .ok (.imul, 1) := by decide +kernel
theorem dX10_hash_183 : decode cX10_hash 183 = .ok (.lushr, 1) := by decide +kernel
theorem dX10_hash_184 : decode cX10_hash 184 = .ok (.l2i, 1) := by decide +kernel
theorem dX10_hash_185 : decode cX10_hash 185 = .ok (.goto 4, 3) := by decide +kernel
theorem dX10_hash_188 : decode cX10_hash 188 = .ok (.iconst 0, 1) := by decide +kernel
theorem dX10_hash_189 : decode cX10_hash 189 = .ok (.istore 11, 2) := by decide +kernel
theorem dX10_hash_191 : decode cX10_hash 191 = .ok (.aload_n 0, 1) := by decide +kernel
theorem dX10_hash_192 : decode cX10_hash 192 = .ok (.getfield 29, 3) := by decide +kernel
theorem dX10_hash_195 : decode cX10_hash 195 = .ok (.iload 10, 2) := by decide +kernel
theorem dX10_hash_197 : decode cX10_hash 197 = .ok (.bipush 64, 2) := by decide +kernel
theorem dX10_hash_199 : decode cX10_hash 199 = .ok (.irem, 1) := by decide +kernel
theorem dX10_hash_200 : decode cX10_hash 200 = .ok (.iload 11, 2) := by decide +kernel
theorem dX10_hash_202 : decode cX10_hash 202 = .ok (.i2b, 1) := by decide +kernel
theorem dX10_hash_203 : decode cX10_hash 203 = .ok (.bastore, 1) := by decide +kernel
theorem dX10_hash_204 : decode cX10_hash 204 = .ok (.iload 10, 2) := by decide +kernel
theorem dX10_hash_206 : decode cX10_hash 206 = .ok (.bipush 64, 2) := by decide +kernel
theorem dX10_hash_208 : decode cX10_hash 208 = .ok (.irem, 1) := by decide +kernel
theorem dX10_hash_209 : decode cX10_hash 209 = .ok (.bipush 63, 2) := by decide +kernel
theorem dX10_hash_211 : decode cX10_hash 211 = .ok (.if_icmp .ne 7, 3) := by decide +kernel
theorem dX10_hash_214 : decode cX10_hash 214 = .ok (.aload_n 0, 1) := by decide +kernel
theorem dX10_hash_215 : decode cX10_hash 215 = .ok (.invokevirtual 141, 3) := by decide +kernel
theorem dX10_hash_218 : decode cX10_hash 218 = .ok (.iinc 10 1, 3) := by decide +kernel
theorem dX10_hash_221 : decode cX10_hash 221 = .ok (.goto (-98), 3) := by decide +kernel
theorem dX10_hash_224 : decode cX10_hash 224 = .ok (.iconst 0, 1) := by decide +kernel
theorem dX10_hash_225 : decode cX10_hash 225 = .ok (.istore 10, 2) := by decide +kernel
theorem dX10_hash_227 : decode cX10_hash 227 = .ok (.iload 10, 2) := by decide +kernel
theorem dX10_hash_229 : decode cX10_hash 229 = .ok (.bipush 32, 2) := by decide +kernel
theorem dX10_hash_231 : decode cX10_hash 231 = .ok (.if_icmp .ge 37, 3) := by decide +kernel
theorem dX10_hash_234 : decode cX10_hash 234 = .ok (.aload_n 0, 1) := by decide +kernel
theorem dX10_hash_235 : decode cX10_hash 235 = .ok (.getfield 32, 3) := by decide +kernel
theorem dX10_hash_238 : decode cX10_hash 238 = .ok (.iload 10, 2) := by decide +kernel
theorem dX10_hash_240 : decode cX10_hash 240 = .ok (.aload_n 0, 1) := by decide +kernel
theorem dX10_hash_241 : decode cX10_hash 241 = .ok (.getfield 23, 3) := by decide +kernel
theorem dX10_hash_244 : decode cX10_hash 244 = .ok (.iload 10, 2) := by decide +kernel
theorem dX10_hash_246 : decode cX10_hash 246 = .ok (.iconst 4, 1) := by decide +kernel
theorem dX10_hash_247 : decode cX10_hash 247 = .ok (.idiv, 1) := by decide +kernel
theorem dX10_hash_248 : decode cX10_hash 248 = .ok (.iaload, 1) := by decide +kernel
theorem dX10_hash_249 : decode cX10_hash 249 = .ok (.bipush 24, 2) := by decide +kernel
theorem dX10_hash_251 : decode cX10_hash 251 = .ok (.bipush 8, 2) := by decide +kernel
theorem dX10_hash_253 : decode cX10_hash 253 = .ok (.iload 10, 2) := by decide +kernel
theorem dX10_hash_255 : decode cX10_hash 255 = .ok (.iconst 4, 1) := by decide +kernel
theorem dX10_hash_256 : decode cX10_hash 256 = .ok (.irem, 1) := by decide +kernel
theorem dX10_hash_257 : decode cX10_hash 257 = .ok (.imul, 1) := by decide +kernel
theorem dX10_hash_258 : decode cX10_hash 258 = .ok (.isub, 1) := by decide +kernel
theorem dX10_hash_259 : decode cX10_hash 259 = .ok (.ishr, 1) := by decide +kernel
theorem dX10_hash_260 : decode cX10_hash 260 = .ok (.i2b, 1) := by decide +kernel
theorem dX10_hash_261 : decode cX10_hash 261 = .ok (.bastore, 1) := by decide +kernel
theorem dX10_hash_262 : decode cX10_hash 262 = .ok (.iinc 10 1, 3) := by decide +kernel
theorem dX10_hash_265 : decode cX10_hash 265 = .ok (.goto (-38), 3) := by decide +kernel
theorem dX10_hash_268 : decode cX10_hash 268 = .ok (.return_, 1) := by decide +kernel
theorem dX10_sealOf_0 : decode cX10_sealOf 0 = .ok (.aload_n 0, 1) := by decide +kernel
theorem dX10_sealOf_1 : decode cX10_sealOf 1 = .ok (.aload_n 1, 1) := by decide +kernel
theorem dX10_sealOf_2 : decode cX10_sealOf 2 = .ok (.iload_n 2, 1) := by decide +kernel
theorem dX10_sealOf_3 : decode cX10_sealOf 3 = .ok (.bipush 54, 2) := by decide +kernel
theorem dX10_sealOf_5 : decode cX10_sealOf 5 = .ok (.aload_n 3, 1) := by decide +kernel
theorem dX10_sealOf_6 : decode cX10_sealOf 6 = .ok (.iload 4, 2) := by decide +kernel
theorem dX10_sealOf_8 : decode cX10_sealOf 8 = .ok (.iload 5, 2) := by decide +kernel
theorem dX10_sealOf_10 : decode cX10_sealOf 10 = .ok (.invokevirtual 146, 3) := by decide +kernel
theorem dX10_sealOf_13 : decode cX10_sealOf 13 = .ok (.iconst 0, 1) := by decide +kernel
theorem dX10_sealOf_14 : decode cX10_sealOf 14 = .ok (.istore 6, 2) := by decide +kernel
theorem dX10_sealOf_16 : decode cX10_sealOf 16 = .ok (.iload 6, 2) := by decide +kernel
theorem dX10_sealOf_18 : decode cX10_sealOf 18 = .ok (.bipush 32, 2) := by decide +kernel
theorem dX10_sealOf_20 : decode cX10_sealOf 20 = .ok (.if_icmp .ge 23, 3) := by decide +kernel
theorem dX10_sealOf_23 : decode cX10_sealOf 23 = .ok (.aload_n 0, 1) := by decide +kernel
theorem dX10_sealOf_24 : decode cX10_sealOf 24 = .ok (.getfield 35, 3) := by decide +kernel
theorem dX10_sealOf_27 : decode cX10_sealOf 27 = .ok (.iload 6, 2) := by decide +kernel
theorem dX10_sealOf_29 : decode cX10_sealOf 29 = .ok (.aload_n 0, 1) := by decide +kernel
theorem dX10_sealOf_30 : decode cX10_sealOf 30 = .ok (.getfield 32, 3) := by decide +kernel
theorem dX10_sealOf_33 : decode cX10_sealOf 33 = .ok (.iload 6, 2) := by decide +kernel
theorem dX10_sealOf_35 : decode cX10_sealOf 35 = .ok (.baload, 1) := by decide +kernel
theorem dX10_sealOf_36 : decode cX10_sealOf 36 = .ok (.bastore, 1) := by decide +kernel
theorem dX10_sealOf_37 : decode cX10_sealOf 37 = .ok (.iinc 6 1, 3) := by decide +kernel
theorem dX10_sealOf_40 : decode cX10_sealOf 40 = .ok (.goto (-24), 3) := by decide +kernel
theorem dX10_sealOf_43 : decode cX10_sealOf 43 = .ok (.aload_n 0, 1) := by decide +kernel
theorem dX10_sealOf_44 : decode cX10_sealOf 44 = .ok (.aload_n 1, 1) := by decide +kernel
theorem dX10_sealOf_45 : decode cX10_sealOf 45 = .ok (.iload_n 2, 1) := by decide +kernel
theorem dX10_sealOf_46 : decode cX10_sealOf 46 = .ok (.bipush 92, 2) := by decide +kernel
theorem dX10_sealOf_48 : decode cX10_sealOf 48 = .ok (.aload_n 0, 1) := by decide +kernel
theorem dX10_sealOf_49 : decode cX10_sealOf 49 = .ok (.getfield 35, 3) := by decide +kernel
theorem dX10_sealOf_52 : decode cX10_sealOf 52 = .ok (.iconst 0, 1) := by decide +kernel
theorem dX10_sealOf_53 : decode cX10_sealOf 53 = .ok (.bipush 32, 2) := by decide +kernel
theorem dX10_sealOf_55 : decode cX10_sealOf 55 = .ok (.invokevirtual 146, 3) := by decide +kernel
theorem dX10_sealOf_58 : decode cX10_sealOf 58 = .ok (.return_, 1) := by decide +kernel
theorem dX10_seal_0 : decode cX10_seal 0 = .ok (.aload_n 0, 1) := by decide +kernel
theorem dX10_seal_1 : decode cX10_seal 1 = .ok (.getfield 107, 3) := by decide +kernel
theorem dX10_seal_4 : decode cX10_seal 4 = .ok (.bipush 16, 2) := by decide +kernel
theorem dX10_seal_6 : decode cX10_seal 6 = .ok (.iadd, 1) := by decide +kernel
theorem dX10_seal_7 : decode cX10_seal 7 = .ok (.sipush 400, 3) := by decide +kernel
theorem dX10_seal_10 : decode cX10_seal 10 = .ok (.if_icmp .le 5, 3) := by decide +kernel
theorem dX10_seal_13 : decode cX10_seal 13 = .ok (.iconst (-1), 1) := by decide +kernel
theorem dX10_seal_14 : decode cX10_seal 14 = .ok (.ireturn, 1) := by decide +kernel
theorem dX10_seal_15 : decode cX10_seal 15 = .ok (.iconst 0, 1) := by decide +kernel
theorem dX10_seal_16 : decode cX10_seal 16 = .ok (.istore 5, 2) := by decide +kernel
theorem dX10_seal_18 : decode cX10_seal 18 = .ok (.iload 5, 2) := by decide +kernel
theorem dX10_seal_20 : decode cX10_seal 20 = .ok (.bipush 16, 2) := by decide +kernel
theorem dX10_seal_22 : decode cX10_seal 22 = .ok (.if_icmp .ge 66, 3) := by decide +kernel
theorem dX10_seal_25 : decode cX10_seal 25 = .ok (.iload 5, 2) := by decide +kernel
theorem dX10_seal_27 : decode cX10_seal 27 = .ok (.iconst 4, 1) := by decide +kernel
theorem dX10_seal_28 : decode cX10_seal 28 = .ok (.if_icmp .ge 7, 3) := by decide +kernel
theorem dX10_seal_31 : decode cX10_seal 31 = .ok (.iload_n 1, 1) := by decide +kernel
theorem dX10_seal_32 : decode cX10_seal 32 = .ok (.goto 27, 3) := by decide +kernel
theorem dX10_seal_35 : decode cX10_seal 35 = .ok (.iload 5, 2) := by decide +kernel
theorem dX10_seal_37 : decode cX10_seal 37 = .ok (.bipush 8, 2) := by decide +kernel
theorem dX10_seal_39 : decode cX10_seal 39 = .ok (.if_icmp .ge 7, 3) := by decide +kernel
theorem dX10_seal_42 : decode cX10_seal 42 = .ok (.iload_n 2, 1) := by decide +kernel
theorem dX10_seal_43 : decode cX10_seal 43 = .ok (.goto 16, 3) := by decide +kernel
theorem dX10_seal_46 : decode cX10_seal 46 = .ok (.iload 5, 2) := by decide +kernel
theorem dX10_seal_48 : decode cX10_seal 48 = .ok (.bipush 12, 2) := by decide +kernel
theorem dX10_seal_50 : decode cX10_seal 50 = .ok (.if_icmp .ge 7, 3) := by decide +kernel
theorem dX10_seal_53 : decode cX10_seal 53 = .ok (.iload_n 3, 1) := by decide +kernel
theorem dX10_seal_54 : decode cX10_seal 54 = .ok (.goto 5, 3) := by decide +kernel
theorem dX10_seal_57 : decode cX10_seal 57 = .ok (.iload 4, 2) := by decide +kernel
theorem dX10_seal_59 : decode cX10_seal 59 = .ok (.istore 6, 2) := by decide +kernel
theorem dX10_seal_61 : decode cX10_seal 61 = .ok (.aload_n 0, 1) := by decide +kernel
theorem dX10_seal_62 : decode cX10_seal 62 = .ok (.getfield 38, 3) := by decide +kernel
theorem dX10_seal_65 : decode cX10_seal 65 = .ok (.iload 5, 2) := by decide +kernel
theorem dX10_seal_67 : decode cX10_seal 67 = .ok (.iload 6, 2) := by decide +kernel
theorem dX10_seal_69 : decode cX10_seal 69 = .ok (.bipush 24, 2) := by decide +kernel
theorem dX10_seal_71 : decode cX10_seal 71 = .ok (.bipush 8, 2) := by decide +kernel
theorem dX10_seal_73 : decode cX10_seal 73 = .ok (.iload 5, 2) := by decide +kernel
theorem dX10_seal_75 : decode cX10_seal 75 = .ok (.iconst 4, 1) := by decide +kernel
theorem dX10_seal_76 : decode cX10_seal 76 = .ok (.irem, 1) := by decide +kernel
theorem dX10_seal_77 : decode cX10_seal 77 = .ok (.imul, 1) := by decide +kernel
theorem dX10_seal_78 : decode cX10_seal 78 = .ok (.isub, 1) := by decide +kernel
theorem dX10_seal_79 : decode cX10_seal 79 = .ok (.ishr, 1) := by decide +kernel
theorem dX10_seal_80 : decode cX10_seal 80 = .ok (.i2b, 1) := by decide +kernel
theorem dX10_seal_81 : decode cX10_seal 81 = .ok (.bastore, 1) := by decide +kernel
theorem dX10_seal_82 : decode cX10_seal 82 = .ok (.iinc 5 1, 3) := by decide +kernel
theorem dX10_seal_85 : decode cX10_seal 85 = .ok (.goto (-67), 3) := by decide +kernel
theorem dX10_seal_88 : decode cX10_seal 88 = .ok (.aload_n 0, 1) := by decide +kernel
theorem dX10_seal_89 : decode cX10_seal 89 = .ok (.aload_n 0, 1) := by decide +kernel
theorem dX10_seal_90 : decode cX10_seal 90 = .ok (.getfield 38, 3) := by decide +kernel
theorem dX10_seal_93 : decode cX10_seal 93 = .ok (.iconst 0, 1) := by decide +kernel
theorem dX10_seal_94 : decode cX10_seal 94 = .ok (.aload_n 0, 1) := by decide +kernel
theorem dX10_seal_95 : decode cX10_seal 95 = .ok (.getfield 7, 3) := by decide +kernel
theorem dX10_seal_98 : decode cX10_seal 98 = .ok (.iconst 0, 1) := by decide +kernel
theorem dX10_seal_99 : decode cX10_seal 99 = .ok (.aload_n 0, 1) := by decide +kernel
theorem dX10_seal_100 : decode cX10_seal 100 = .ok (.getfield 107, 3) := by decide +kernel
theorem dX10_seal_103 : decode cX10_seal 103 = .ok (.invokevirtual 150, 3) := by decide +kernel
theorem dX10_seal_106 : decode cX10_seal 106 = .ok (.iconst 0, 1) := by decide +kernel
theorem dX10_seal_107 : decode cX10_seal 107 = .ok (.istore 5, 2) := by decide +kernel
theorem dX10_seal_109 : decode cX10_seal 109 = .ok (.iload 5, 2) := by decide +kernel
theorem dX10_seal_111 : decode cX10_seal 111 = .ok (.bipush 16, 2) := by decide +kernel
theorem dX10_seal_113 : decode cX10_seal 113 = .ok (.if_icmp .ge 28, 3) := by decide +kernel
theorem dX10_seal_116 : decode cX10_seal 116 = .ok (.aload_n 0, 1) := by decide +kernel
theorem dX10_seal_117 : decode cX10_seal 117 = .ok (.getfield 7, 3) := by decide +kernel
theorem dX10_seal_120 : decode cX10_seal 120 = .ok (.aload_n 0, 1) := by decide +kernel
theorem dX10_seal_121 : decode cX10_seal 121 = .ok (.getfield 107, 3) := by decide +kernel
theorem dX10_seal_124 : decode cX10_seal 124 = .ok (.iload 5, 2) := by decide +kernel
theorem dX10_seal_126 : decode cX10_seal 126 = .ok (.iadd, 1) := by decide +kernel
theorem dX10_seal_127 : decode cX10_seal 127 = .ok (.aload_n 0, 1) := by decide +kernel
theorem dX10_seal_128 : decode cX10_seal 128 = .ok (.getfield 32, 3) := by decide +kernel
theorem dX10_seal_131 : decode cX10_seal 131 = .ok (.iload 5, 2) := by decide +kernel
theorem dX10_seal_133 : decode cX10_seal 133 = .ok (.baload, 1) := by decide +kernel
theorem dX10_seal_134 : decode cX10_seal 134 = .ok (.bastore, 1) := by decide +kernel
theorem dX10_seal_135 : decode cX10_seal 135 = .ok (.iinc 5 1, 3) := by decide +kernel
theorem dX10_seal_138 : decode cX10_seal 138 = .ok (.goto (-29), 3) := by decide +kernel
theorem dX10_seal_141 : decode cX10_seal 141 = .ok (.aload_n 0, 1) := by decide +kernel
theorem dX10_seal_142 : decode cX10_seal 142 = .ok (.dup, 1) := by decide +kernel
theorem dX10_seal_143 : decode cX10_seal 143 = .ok (.getfield 107, 3) := by decide +kernel
theorem dX10_seal_146 : decode cX10_seal 146 = .ok (.bipush 16, 2) := by decide +kernel
theorem dX10_seal_148 : decode cX10_seal 148 = .ok (.iadd, 1) := by decide +kernel
theorem dX10_seal_149 : decode cX10_seal 149 = .ok (.putfield 107, 3) := by decide +kernel
theorem dX10_seal_152 : decode cX10_seal 152 = .ok (.aload_n 0, 1) := by decide +kernel
theorem dX10_seal_153 : decode cX10_seal 153 = .ok (.getfield 107, 3) := by decide +kernel
theorem dX10_seal_156 : decode cX10_seal 156 = .ok (.ireturn, 1) := by decide +kernel
theorem dX10_isCard_0 : decode cX10_isCard 0 = .ok (.iload_n 0, 1) := by decide +kernel
theorem dX10_isCard_1 : decode cX10_isCard 1 = .ok (.ifCond .lt 13, 3) := by decide +kernel
theorem dX10_isCard_4 : decode cX10_isCard 4 = .ok (.iload_n 0, 1) := by decide +kernel
theorem dX10_isCard_5 : decode cX10_isCard 5 = .ok (.bipush 16, 2) := by decide +kernel
theorem dX10_isCard_7 : decode cX10_isCard 7 = .ok (.if_icmp .ge 7, 3) := by decide +kernel
theorem dX10_isCard_10 : decode cX10_isCard 10 = .ok (.iconst 1, 1) := by decide +kernel
theorem dX10_isCard_11 : decode cX10_isCard 11 = .ok (.goto 4, 3) := by decide +kernel
theorem dX10_isCard_14 : decode cX10_isCard 14 = .ok (.iconst 0, 1) := by decide +kernel
theorem dX10_isCard_15 : decode cX10_isCard 15 = .ok (.ireturn, 1) := by decide +kernel
theorem dX10_card_0 : decode cX10_card 0 = .ok (.aload_n 0, 1) := by decide +kernel
theorem dX10_card_1 : decode cX10_card 1 = .ok (.getfield 107, 3) := by decide +kernel
theorem dX10_card_4 : decode cX10_card 4 = .ok (.istore_n 3, 1) := by decide +kernel
theorem dX10_card_5 : decode cX10_card 5 = .ok (.aload_n 0, 1) := by decide +kernel
theorem dX10_card_6 : decode cX10_card 6 = .ok (.iconst 0, 1) := by decide +kernel
theorem dX10_card_7 : decode cX10_card 7 = .ok (.putfield 107, 3) := by decide +kernel
theorem dX10_card_10 : decode cX10_card 10 = .ok (.iload_n 1, 1) := by decide +kernel
theorem dX10_card_11 : decode cX10_card 11 = .ok (.invokestatic 154, 3) := by decide +kernel
theorem dX10_card_14 : decode cX10_card 14 = .ok (.ifCond .eq 18, 3) := by decide +kernel
theorem dX10_card_17 : decode cX10_card 17 = .ok (.iload_n 2, 1) := by decide +kernel
theorem dX10_card_18 : decode cX10_card 18 = .ok (.ifCond .lt 14, 3) := by decide +kernel
theorem dX10_card_21 : decode cX10_card 21 = .ok (.iload_n 2, 1) := by decide +kernel
theorem dX10_card_22 : decode cX10_card 22 = .ok (.iconst 3, 1) := by decide +kernel
theorem dX10_card_23 : decode cX10_card 23 = .ok (.if_icmp .gt 9, 3) := by decide +kernel
theorem dX10_card_26 : decode cX10_card 26 = .ok (.iload_n 3, 1) := by decide +kernel
theorem dX10_card_27 : decode cX10_card 27 = .ok (.bipush 48, 2) := by decide +kernel
theorem dX10_card_29 : decode cX10_card 29 = .ok (.if_icmp .le 5, 3) := by decide +kernel
theorem dX10_card_32 : decode cX10_card 32 = .ok (.iconst 0, 1) := by decide +kernel
theorem dX10_card_33 : decode cX10_card 33 = .ok (.ireturn, 1) := by decide +kernel
theorem dX10_card_34 : decode cX10_card 34 = .ok (.iconst 0, 1) := by decide +kernel
theorem dX10_card_35 : decode cX10_card 35 = .ok (.istore 4, 2) := by decide +kernel
theorem dX10_card_37 : decode cX10_card 37 = .ok (.iload 4, 2) := by decide +kernel
theorem dX10_card_39 : decode cX10_card 39 = .ok (.iload_n 3, 1) := by decide +kernel
theorem dX10_card_40 : decode cX10_card 40 = .ok (.if_icmp .ge 32, 3) := by decide +kernel
theorem dX10_card_43 : decode cX10_card 43 = .ok (.aload_n 0, 1) := by decide +kernel
theorem dX10_card_44 : decode cX10_card 44 = .ok (.getfield 41, 3) := by decide +kernel
theorem dX10_card_47 : decode cX10_card 47 = .ok (.bipush 48, 2) := by decide +kernel
theorem dX10_card_49 : decode cX10_card 49 = .ok (.iconst 4, 1) := by decide +kernel
theorem dX10_card_50 : decode cX10_card 50 = .ok (.iload_n 1, 1) := by decide +kernel
theorem dX10_card_51 : decode cX10_card 51 = .ok (.imul, 1) := by decide +kernel
theorem dX10_card_52 : decode cX10_card 52 = .ok (.iload_n 2, 1) := by decide +kernel
theorem dX10_card_53 : decode cX10_card 53 = .ok (.iadd, 1) := by decide +kernel
theorem dX10_card_54 : decode cX10_card 54 = .ok (.imul, 1) := by decide +kernel
theorem dX10_card_55 : decode cX10_card 55 = .ok (.iload 4, 2) := by decide +kernel
theorem dX10_card_57 : decode cX10_card 57 = .ok (.iadd, 1) := by decide +kernel
theorem dX10_card_58 : decode cX10_card 58 = .ok (.aload_n 0, 1) := by decide +kernel
theorem dX10_card_59 : decode cX10_card 59 = .ok (.getfield 7, 3) := by decide +kernel
theorem dX10_card_62 : decode cX10_card 62 = .ok (.iload 4, 2) := by decide +kernel
theorem dX10_card_64 : decode cX10_card 64 = .ok (.baload, 1) := by decide +kernel
theorem dX10_card_65 : decode cX10_card 65 = .ok (.bastore, 1) := by decide +kernel
theorem dX10_card_66 : decode cX10_card 66 = .ok (.iinc 4 1, 3) := by decide +kernel
theorem dX10_card_69 : decode cX10_card 69 = .ok (.goto (-32), 3) := by decide +kernel
theorem dX10_card_72 : decode cX10_card 72 = .ok (.aload_n 0, 1) := by decide +kernel
theorem dX10_card_73 : decode cX10_card 73 = .ok (.getfield 44, 3) := by decide +kernel
theorem dX10_card_76 : decode cX10_card 76 = .ok (.iconst 4, 1) := by decide +kernel
theorem dX10_card_77 : decode cX10_card 77 = .ok (.iload_n 1, 1) := by decide +kernel
theorem dX10_card_78 : decode cX10_card 78 = .ok (.imul, 1) := by decide +kernel
theorem dX10_card_79 : decode cX10_card 79 = .ok (.iload_n 2, 1) := by decide +kernel
theorem dX10_card_80 : decode cX10_card 80 = .ok (.iadd, 1) := by decide +kernel
theorem dX10_card_81 : decode cX10_card 81 = .ok (.iload_n 3, 1) := by decide +kernel
theorem dX10_card_82 : decode cX10_card 82 = .ok (.iastore, 1) := by decide +kernel
theorem dX10_card_83 : decode cX10_card 83 = .ok (.iconst 1, 1) := by decide +kernel
theorem dX10_card_84 : decode cX10_card 84 = .ok (.ireturn, 1) := by decide +kernel
theorem dX10_writable_0 : decode cX10_writable 0 = .ok (.iload_n 1, 1) := by decide +kernel
theorem dX10_writable_1 : decode cX10_writable 1 = .ok (.invokestatic 154, 3) := by decide +kernel
theorem dX10_writable_4 : decode cX10_writable 4 = .ok (.ifCond .ne 5, 3) := by decide +kernel
theorem dX10_writable_7 : decode cX10_writable 7 = .ok (.iconst 0, 1) := by decide +kernel
theorem dX10_writable_8 : decode cX10_writable 8 = .ok (.ireturn, 1) := by decide +kernel
theorem dX10_writable_9 : decode cX10_writable 9 = .ok (.aload_n 0, 1) := by decide +kernel
theorem dX10_writable_10 : decode cX10_writable 10 = .ok (.getfield 47, 3) := by decide +kernel
theorem dX10_writable_13 : decode cX10_writable 13 = .ok (.iload_n 1, 1) := by decide +kernel
theorem dX10_writable_14 : decode cX10_writable 14 = .ok (.iload_n 2, 1) := by decide +kernel
theorem dX10_writable_15 : decode cX10_writable 15 = .ok (.bastore, 1) := by decide +kernel
theorem dX10_writable_16 : decode cX10_writable 16 = .ok (.iconst 1, 1) := by decide +kernel
theorem dX10_writable_17 : decode cX10_writable 17 = .ok (.ireturn, 1) := by decide +kernel
theorem dX10_size_0 : decode cX10_size 0 = .ok (.iload_n 1, 1) := by decide +kernel
theorem dX10_size_1 : decode cX10_size 1 = .ok (.invokestatic 154, 3) := by decide +kernel
theorem dX10_size_4 : decode cX10_size 4 = .ok (.ifCond .eq 25, 3) := by decide +kernel
theorem dX10_size_7 : decode cX10_size 7 = .ok (.iload_n 2, 1) := by decide +kernel
theorem dX10_size_8 : decode cX10_size 8 = .ok (.ifCond .lt 21, 3) := by decide +kernel
theorem dX10_size_11 : decode cX10_size 11 = .ok (.iload_n 2, 1) := by decide +kernel
theorem dX10_size_12 : decode cX10_size 12 = .ok (.iconst 3, 1) := by decide +kernel
theorem dX10_size_13 : decode cX10_size 13 = .ok (.if_icmp .gt 16, 3) := by decide +kernel
theorem dX10_size_16 : decode cX10_size 16 = .ok (.aload_n 0, 1) := by decide +kernel
theorem dX10_size_17 : decode cX10_size 17 = .ok (.getfield 44, 3) := by decide +kernel
theorem dX10_size_20 : decode cX10_size 20 = .ok (.iconst 4, 1) := by decide +kernel
theorem dX10_size_21 : decode cX10_size 21 = .ok (.iload_n 1, 1) := by decide +kernel
theorem dX10_size_22 : decode cX10_size 22 = .ok (.imul, 1) := by decide +kernel
theorem dX10_size_23 : decode cX10_size 23 = .ok (.iload_n 2, 1) := by decide +kernel
theorem dX10_size_24 : decode cX10_size 24 = .ok (.iadd, 1) := by decide +kernel
theorem dX10_size_25 : decode cX10_size 25 = .ok (.iaload, 1) := by decide +kernel
theorem dX10_size_26 : decode cX10_size 26 = .ok (.goto 4, 3) := by decide +kernel
theorem dX10_size_29 : decode cX10_size 29 = .ok (.iconst (-1), 1) := by decide +kernel
theorem dX10_size_30 : decode cX10_size 30 = .ok (.ireturn, 1) := by decide +kernel
theorem dX10_at_0 : decode cX10_at 0 = .ok (.aload_n 0, 1) := by decide +kernel
theorem dX10_at_1 : decode cX10_at 1 = .ok (.iload_n 1, 1) := by decide +kernel
theorem dX10_at_2 : decode cX10_at 2 = .ok (.iload_n 2, 1) := by decide +kernel
theorem dX10_at_3 : decode cX10_at 3 = .ok (.invokevirtual 158, 3) := by decide +kernel
theorem dX10_at_6 : decode cX10_at 6 = .ok (.ifCond .lt 43, 3) := by decide +kernel
theorem dX10_at_9 : decode cX10_at 9 = .ok (.iload_n 3, 1) := by decide +kernel
theorem dX10_at_10 : decode cX10_at 10 = .ok (.ifCond .lt 39, 3) := by decide +kernel
theorem dX10_at_13 : decode cX10_at 13 = .ok (.iload_n 3, 1) := by decide +kernel
theorem dX10_at_14 : decode cX10_at 14 = .ok (.aload_n 0, 1) := by decide +kernel
theorem dX10_at_15 : decode cX10_at 15 = .ok (.getfield 44, 3) := by decide +kernel
theorem dX10_at_18 : decode cX10_at 18 = .ok (.iconst 4, 1) := by decide +kernel
theorem dX10_at_19 : decode cX10_at 19 = .ok (.iload_n 1, 1) := by decide +kernel
theorem dX10_at_20 : decode cX10_at 20 = .ok (.imul, 1) := by decide +kernel
theorem dX10_at_21 : decode cX10_at 21 = .ok (.iload_n 2, 1) := by decide +kernel
theorem dX10_at_22 : decode cX10_at 22 = .ok (.iadd, 1) := by decide +kernel
theorem dX10_at_23 : decode cX10_at 23 = .ok (.iaload, 1) := by decide +kernel
theorem dX10_at_24 : decode cX10_at 24 = .ok (.if_icmp .ge 25, 3) := by decide +kernel
theorem dX10_at_27 : decode cX10_at 27 = .ok (.aload_n 0, 1) := by decide +kernel
theorem dX10_at_28 : decode cX10_at 28 = .ok (.getfield 41, 3) := by decide +kernel
theorem dX10_at_31 : decode cX10_at 31 = .ok (.bipush 48, 2) := by decide +kernel
theorem dX10_at_33 : decode cX10_at 33 = .ok (.iconst 4, 1) := by decide +kernel
theorem dX10_at_34 : decode cX10_at 34 = .ok (.iload_n 1, 1) := by decide +kernel
theorem dX10_at_35 : decode cX10_at 35 = .ok (.imul, 1) := by decide +kernel
theorem dX10_at_36 : decode cX10_at 36 = .ok (.iload_n 2, 1) := by decide +kernel
theorem dX10_at_37 : decode cX10_at 37 = .ok (.iadd, 1) := by decide +kernel
theorem dX10_at_38 : decode cX10_at 38 = .ok (.imul, 1) := by decide +kernel
theorem dX10_at_39 : decode cX10_at 39 = .ok (.iload_n 3, 1) := by decide +kernel
theorem dX10_at_40 : decode cX10_at 40 = .ok (.iadd, 1) := by decide +kernel
theorem dX10_at_41 : decode cX10_at 41 = .ok (.baload, 1) := by decide +kernel
theorem dX10_at_42 : decode cX10_at 42 = .ok (.sipush 255, 3) := by decide +kernel
theorem dX10_at_45 : decode cX10_at 45 = .ok (.iand, 1) := by decide +kernel
theorem dX10_at_46 : decode cX10_at 46 = .ok (.goto 4, 3) := by decide +kernel
theorem dX10_at_49 : decode cX10_at 49 = .ok (.iconst (-1), 1) := by decide +kernel
theorem dX10_at_50 : decode cX10_at 50 = .ok (.ireturn, 1) := by decide +kernel
theorem dX10_field_0 : decode cX10_field 0 = .ok (.lconst 0, 1) := by decide +kernel
theorem dX10_field_1 : decode cX10_field 1 = .ok (.lstore 5, 2) := by decide +kernel
theorem dX10_field_3 : decode cX10_field 3 = .ok (.iload_n 3, 1) := by decide +kernel
theorem dX10_field_4 : decode cX10_field 4 = .ok (.istore 7, 2) := by decide +kernel
theorem dX10_field_6 : decode cX10_field 6 = .ok (.iload 7, 2) := by decide +kernel
theorem dX10_field_8 : decode cX10_field 8 = .ok (.iload_n 3, 1) := by decide +kernel
theorem dX10_field_9 : decode cX10_field 9 = .ok (.iload 4, 2) := by decide +kernel
theorem dX10_field_11 : decode cX10_field 11 = .ok (.iadd, 1) := by decide +kernel
theorem dX10_field_12 : decode cX10_field 12 = .ok (.if_icmp .ge 38, 3) := by decide +kernel
theorem dX10_field_15 : decode cX10_field 15 = .ok (.lload 5, 2) := by decide +kernel
theorem dX10_field_17 : decode cX10_field 17 = .ok (.bipush 8, 2) := by decide +kernel
theorem dX10_field_19 : decode cX10_field 19 = .ok (.lshl, 1) := by decide +kernel
theorem dX10_field_20 : decode cX10_field 20 = .ok (.aload_n 0, 1) := by decide +kernel
theorem dX10_field_21 : decode cX10_field 21 = .ok (.getfield 41, 3) := by decide +kernel
theorem dX10_field_24 : decode cX10_field 24 = .ok (.bipush 48, 2) := by decide +kernel
theorem dX10_field_26 : decode cX10_field 26 = .ok (.iconst 4, 1) := by decide +kernel
theorem dX10_field_27 : decode cX10_field 27 = .ok (.iload_n 1, 1) := by decide +kernel
theorem dX10_field_28 : decode cX10_field 28 = .ok (.imul, 1) := by decide +kernel
theorem dX10_field_29 : decode cX10_field 29 = .ok (.iload_n 2, 1) := by decide +kernel
theorem dX10_field_30 : decode cX10_field 30 = .ok (.iadd, 1) := by decide +kernel
theorem dX10_field_31 : decode cX10_field 31 = .ok (.imul, 1) := by decide +kernel
theorem dX10_field_32 : decode cX10_field 32 = .ok (.iload 7, 2) := by decide +kernel
theorem dX10_field_34 : decode cX10_field 34 = .ok (.iadd, 1) := by decide +kernel
theorem dX10_field_35 : decode cX10_field 35 = .ok (.baload, 1) := by decide +kernel
theorem dX10_field_36 : decode cX10_field 36 = .ok (.i2l, 1) := by decide +kernel
theorem dX10_field_37 : decode cX10_field 37 = .ok (.ldc2_w 161, 3) := by decide +kernel
theorem dX10_field_40 : decode cX10_field 40 = .ok (.land, 1) := by decide +kernel
theorem dX10_field_41 : decode cX10_field 41 = .ok (.lor, 1) := by decide +kernel
theorem dX10_field_42 : decode cX10_field 42 = .ok (.lstore 5, 2) := by decide +kernel
theorem dX10_field_44 : decode cX10_field 44 = .ok (.iinc 7 1, 3) := by decide +kernel
theorem dX10_field_47 : decode cX10_field 47 = .ok (.goto (-41), 3) := by decide +kernel
theorem dX10_field_50 : decode cX10_field 50 = .ok (.lload 5, 2) := by decide +kernel
theorem dX10_field_52 : decode cX10_field 52 = .ok (.lreturn, 1) := by decide +kernel
theorem dX10_keyOf_0 : decode cX10_keyOf 0 = .ok (.iconst 0, 1) := by decide +kernel
theorem dX10_keyOf_1 : decode cX10_keyOf 1 = .ok (.istore_n 3, 1) := by decide +kernel
theorem dX10_keyOf_2 : decode cX10_keyOf 2 = .ok (.iload_n 3, 1) := by decide +kernel
theorem dX10_keyOf_3 : decode cX10_keyOf 3 = .ok (.aload_n 0, 1) := by decide +kernel
theorem dX10_keyOf_4 : decode cX10_keyOf 4 = .ok (.getfield 163, 3) := by decide +kernel
theorem dX10_keyOf_7 : decode cX10_keyOf 7 = .ok (.if_icmp .ge 23, 3) := by decide +kernel
theorem dX10_keyOf_10 : decode cX10_keyOf 10 = .ok (.aload_n 0, 1) := by decide +kernel
theorem dX10_keyOf_11 : decode cX10_keyOf 11 = .ok (.getfield 51, 3) := by decide +kernel
theorem dX10_keyOf_14 : decode cX10_keyOf 14 = .ok (.iload_n 3, 1) := by decide +kernel
theorem dX10_keyOf_15 : decode cX10_keyOf 15 = .ok (.iaload, 1) := by decide +kernel
theorem dX10_keyOf_16 : decode cX10_keyOf 16 = .ok (.i2l, 1) := by decide +kernel
theorem dX10_keyOf_17 : decode cX10_keyOf 17 = .ok (.lload_n 1, 1) := by decide +kernel
theorem dX10_keyOf_18 : decode cX10_keyOf 18 = .ok (.lcmp, 1) := by decide +kernel
theorem dX10_keyOf_19 : decode cX10_keyOf 19 = .ok (.ifCond .ne 5, 3) := by decide +kernel
theorem dX10_keyOf_22 : decode cX10_keyOf 22 = .ok (.iload_n 3, 1) := by decide +kernel
theorem dX10_keyOf_23 : decode cX10_keyOf 23 = .ok (.ireturn, 1) := by decide +kernel
theorem dX10_keyOf_24 : decode cX10_keyOf 24 = .ok (.iinc 3 1, 3) := by decide +kernel
theorem dX10_keyOf_27 : decode cX10_keyOf 27 = .ok (.goto (-25), 3) := by decide +kernel
theorem dX10_keyOf_30 : decode cX10_keyOf 30 = .ok (.iconst (-1), 1) := by decide +kernel
theorem dX10_keyOf_31 : decode cX10_keyOf 31 = .ok (.ireturn, 1) := by decide +kernel
theorem dX10_sizeOf_0 : decode cX10_sizeOf 0 = .ok (.iload_n 0, 1) := by decide +kernel
theorem dX10_sizeOf_1 : decode cX10_sizeOf 1 = .ok (.ifCond .ne 8, 3) := by decide +kernel
theorem dX10_sizeOf_4 : decode cX10_sizeOf 4 = .ok (.bipush 41, 2) := by decide +kernel
theorem dX10_sizeOf_6 : decode cX10_sizeOf 6 = .ok (.goto 5, 3) := by decide +kernel
theorem dX10_sizeOf_9 : decode cX10_sizeOf 9 = .ok (.bipush 39, 2) := by decide +kernel
theorem dX10_sizeOf_11 : decode cX10_sizeOf 11 = .ok (.ireturn, 1) := by decide +kernel
theorem dX10_isGood_0 : decode cX10_isGood 0 = .ok (.iload_n 2, 1) := by decide +kernel
theorem dX10_isGood_1 : decode cX10_isGood 1 = .ok (.invokestatic 166, 3) := by decide +kernel
theorem dX10_isGood_4 : decode cX10_isGood 4 = .ok (.istore_n 3, 1) := by decide +kernel
theorem dX10_isGood_5 : decode cX10_isGood 5 = .ok (.iload_n 1, 1) := by decide +kernel
theorem dX10_isGood_6 : decode cX10_isGood 6 = .ok (.ifCond .lt 33, 3) := by decide +kernel
theorem dX10_isGood_9 : decode cX10_isGood 9 = .ok (.aload_n 0, 1) := by decide +kernel
theorem dX10_isGood_10 : decode cX10_isGood 10 = .ok (.getfield 44, 3) := by decide +kernel
theorem dX10_isGood_13 : decode cX10_isGood 13 = .ok (.iconst 4, 1) := by decide +kernel
theorem dX10_isGood_14 : decode cX10_isGood 14 = .ok (.iload_n 1, 1) := by decide +kernel
theorem dX10_isGood_15 : decode cX10_isGood 15 = .ok (.imul, 1) := by decide +kernel
theorem dX10_isGood_16 : decode cX10_isGood 16 = .ok (.iload_n 2, 1) := by decide +kernel
theorem dX10_isGood_17 : decode cX10_isGood 17 = .ok (.iadd, 1) := by decide +kernel
theorem dX10_isGood_18 : decode cX10_isGood 18 = .ok (.iaload, 1) := by decide +kernel
theorem dX10_isGood_19 : decode cX10_isGood 19 = .ok (.iload_n 3, 1) := by decide +kernel
theorem dX10_isGood_20 : decode cX10_isGood 20 = .ok (.if_icmp .ne 19, 3) := by decide +kernel
theorem dX10_isGood_23 : decode cX10_isGood 23 = .ok (.aload_n 0, 1) := by decide +kernel
theorem dX10_isGood_24 : decode cX10_isGood 24 = .ok (.iload_n 1, 1) := by decide +kernel
theorem dX10_isGood_25 : decode cX10_isGood 25 = .ok (.iload_n 2, 1) := by decide +kernel
theorem dX10_isGood_26 : decode cX10_isGood 26 = .ok (.iconst 0, 1) := by decide +kernel
theorem dX10_isGood_27 : decode cX10_isGood 27 = .ok (.iconst 1, 1) := by decide +kernel
theorem dX10_isGood_28 : decode cX10_isGood 28 = .ok (.invokevirtual 170, 3) := by decide +kernel
theorem dX10_isGood_31 : decode cX10_isGood 31 = .ok (.iload_n 2, 1) := by decide +kernel
theorem dX10_isGood_32 : decode cX10_isGood 32 = .ok (.iconst 1, 1) := by decide +kernel
theorem dX10_isGood_33 : decode cX10_isGood 33 = .ok (.iadd, 1) := by decide +kernel
theorem dX10_isGood_34 : decode cX10_isGood 34 = .ok (.i2l, 1) := by decide +kernel
theorem dX10_isGood_35 : decode cX10_isGood 35 = .ok (.lcmp, 1) := by decide +kernel
theorem dX10_isGood_36 : decode cX10_isGood 36 = .ok (.ifCond .eq 5, 3) := by decide +kernel
theorem dX10_isGood_39 : decode cX10_isGood 39 = .ok (.iconst 0, 1) := by decide +kernel
theorem dX10_isGood_40 : decode cX10_isGood 40 = .ok (.ireturn, 1) := by decide +kernel
theorem dX10_isGood_41 : decode cX10_isGood 41 = .ok (.iload_n 2, 1) := by decide +kernel
theorem dX10_isGood_42 : decode cX10_isGood 42 = .ok (.iconst 1, 1) := by decide +kernel
theorem dX10_isGood_43 : decode cX10_isGood 43 = .ok (.if_icmp .eq 8, 3) := by decide +kernel
theorem dX10_isGood_46 : decode cX10_isGood 46 = .ok (.iload_n 2, 1) := by decide +kernel
theorem dX10_isGood_47 : decode cX10_isGood 47 = .ok (.iconst 3, 1) := by decide +kernel
theorem dX10_isGood_48 : decode cX10_isGood 48 = .ok (.if_icmp .ne 37, 3) := by decide +kernel
theorem dX10_isGood_51 : decode cX10_isGood 51 = .ok (.aload_n 0, 1) := by decide +kernel
theorem dX10_isGood_52 : decode cX10_isGood 52 = .ok (.iload_n 1, 1) := by decide +kernel
theorem dX10_isGood_53 : decode cX10_isGood 53 = .ok (.iload_n 2, 1) := by decide +kernel
theorem dX10_isGood_54 : decode cX10_isGood 54 = .ok (.bipush 21, 2) := by decide +kernel
theorem dX10_isGood_56 : decode cX10_isGood 56 = .ok (.iconst 1, 1) := by decide +kernel
theorem dX10_isGood_57 : decode cX10_isGood 57 = .ok (.invokevirtual 170, 3) := by decide +kernel
theorem dX10_isGood_60 : decode cX10_isGood 60 = .ok (.ldc2_w 174, 3) := by decide +kernel
theorem dX10_isGood_63 : decode cX10_isGood 63 = .ok (.lcmp, 1) := by decide +kernel
theorem dX10_isGood_64 : decode cX10_isGood 64 = .ok (.ifCond .gt 19, 3) := by decide +kernel
theorem dX10_isGood_67 : decode cX10_isGood 67 = .ok (.aload_n 0, 1) := by decide +kernel
theorem dX10_isGood_68 : decode cX10_isGood 68 = .ok (.iload_n 1, 1) := by decide +kernel
theorem dX10_isGood_69 : decode cX10_isGood 69 = .ok (.iload_n 2, 1) := by decide +kernel
theorem dX10_isGood_70 : decode cX10_isGood 70 = .ok (.bipush 22, 2) := by decide +kernel
theorem dX10_isGood_72 : decode cX10_isGood 72 = .ok (.iconst 1, 1) := by decide +kernel
theorem dX10_isGood_73 : decode cX10_isGood 73 = .ok (.invokevirtual 170, 3) := by decide +kernel
theorem dX10_isGood_76 : decode cX10_isGood 76 = .ok (.ldc2_w 176, 3) := by decide +kernel
theorem dX10_isGood_79 : decode cX10_isGood 79 = .ok (.lcmp, 1) := by decide +kernel
theorem dX10_isGood_80 : decode cX10_isGood 80 = .ok (.ifCond .le 5, 3) := by decide +kernel
theorem dX10_isGood_83 : decode cX10_isGood 83 = .ok (.iconst 0, 1) := by decide +kernel
theorem dX10_isGood_84 : decode cX10_isGood 84 = .ok (.ireturn, 1) := by decide +kernel
theorem dX10_isGood_85 : decode cX10_isGood 85 = .ok (.iload_n 2, 1) := by decide +kernel
theorem dX10_isGood_86 : decode cX10_isGood 86 = .ok (.ifCond .ne 33, 3) := by decide +kernel
theorem dX10_isGood_89 : decode cX10_isGood 89 = .ok (.aload_n 0, 1) := by decide +kernel
theorem dX10_isGood_90 : decode cX10_isGood 90 = .ok (.iload_n 1, 1) := by decide +kernel
theorem dX10_isGood_91 : decode cX10_isGood 91 = .ok (.iconst 0, 1) := by decide +kernel
theorem dX10_isGood_92 : decode cX10_isGood 92 = .ok (.bipush 7, 2) := by decide +kernel
theorem dX10_isGood_94 : decode cX10_isGood 94 = .ok (.iconst 2, 1) := by decide +kernel
theorem dX10_isGood_95 : decode cX10_isGood 95 = .ok (.invokevirtual 170, 3) := by decide +kernel
theorem dX10_isGood_98 : decode cX10_isGood 98 = .ok (.lconst 0, 1) := by decide +kernel
theorem dX10_isGood_99 : decode cX10_isGood 99 = .ok (.lcmp, 1) := by decide +kernel
theorem dX10_isGood_100 : decode cX10_isGood 100 = .ok (.ifCond .ne 17, 3) := by decide +kernel
theorem dX10_isGood_103 : decode cX10_isGood 103 = .ok (.aload_n 0, 1) := by decide +kernel
theorem dX10_isGood_104 : decode cX10_isGood 104 = .ok (.iload_n 1, 1) := by decide +kernel
theorem dX10_isGood_105 : decode cX10_isGood 105 = .ok (.iconst 0, 1) := by decide +kernel
theorem dX10_isGood_106 : decode cX10_isGood 106 = .ok (.bipush 9, 2) := by decide +kernel
theorem dX10_isGood_108 : decode cX10_isGood 108 = .ok (.iconst 4, 1) := by decide +kernel
theorem dX10_isGood_109 : decode cX10_isGood 109 = .ok (.invokevirtual 170, 3) := by decide +kernel
theorem dX10_isGood_112 : decode cX10_isGood 112 = .ok (.lconst 0, 1) := by decide +kernel
theorem dX10_isGood_113 : decode cX10_isGood 113 = .ok (.lcmp, 1) := by decide +kernel
theorem dX10_isGood_114 : decode cX10_isGood 114 = .ok (.ifCond .eq 5, 3) := by decide +kernel
theorem dX10_isGood_117 : decode cX10_isGood 117 = .ok (.iconst 0, 1) := by decide +kernel
theorem dX10_isGood_118 : decode cX10_isGood 118 = .ok (.ireturn, 1) := by decide +kernel
theorem dX10_isGood_119 : decode cX10_isGood 119 = .ok (.aload_n 0, 1) := by decide +kernel
theorem dX10_isGood_120 : decode cX10_isGood 120 = .ok (.aload_n 0, 1) := by decide +kernel
theorem dX10_isGood_121 : decode cX10_isGood 121 = .ok (.iload_n 1, 1) := by decide +kernel
theorem dX10_isGood_122 : decode cX10_isGood 122 = .ok (.iload_n 2, 1) := by decide +kernel
theorem dX10_isGood_123 : decode cX10_isGood 123 = .ok (.iconst 1, 1) := by decide +kernel
theorem dX10_isGood_124 : decode cX10_isGood 124 = .ok (.iconst 2, 1) := by decide +kernel
theorem dX10_isGood_125 : decode cX10_isGood 125 = .ok (.invokevirtual 170, 3) := by decide +kernel
theorem dX10_isGood_128 : decode cX10_isGood 128 = .ok (.invokevirtual 178, 3) := by decide +kernel
theorem dX10_isGood_131 : decode cX10_isGood 131 = .ok (.istore 4, 2) := by decide +kernel
theorem dX10_isGood_133 : decode cX10_isGood 133 = .ok (.iload 4, 2) := by decide +kernel
theorem dX10_isGood_135 : decode cX10_isGood 135 = .ok (.ifCond .ge 5, 3) := by decide +kernel
theorem dX10_isGood_138 : decode cX10_isGood 138 = .ok (.iconst 0, 1) := by decide +kernel
theorem dX10_isGood_139 : decode cX10_isGood 139 = .ok (.ireturn, 1) := by decide +kernel
theorem dX10_isGood_140 : decode cX10_isGood 140 = .ok (.bipush 48, 2) := by decide +kernel
theorem dX10_isGood_142 : decode cX10_isGood 142 = .ok (.iconst 4, 1) := by decide +kernel
theorem dX10_isGood_143 : decode cX10_isGood 143 = .ok (.iload_n 1, 1) := by decide +kernel
theorem dX10_isGood_144 : decode cX10_isGood 144 = .ok (.imul, 1) := by decide +kernel
theorem dX10_isGood_145 : decode cX10_isGood 145 = .ok (.iload_n 2, 1) := by decide +kernel
theorem dX10_isGood_146 : decode cX10_isGood 146 = .ok (.iadd, 1) := by decide +kernel
theorem dX10_isGood_147 : decode cX10_isGood 147 = .ok (.imul, 1) := by decide +kernel
theorem dX10_isGood_148 : decode cX10_isGood 148 = .ok (.istore 5, 2) := by decide +kernel
theorem dX10_isGood_150 : decode cX10_isGood 150 = .ok (.aload_n 0, 1) := by decide +kernel
theorem dX10_isGood_151 : decode cX10_isGood 151 = .ok (.aload_n 0, 1) := by decide +kernel
theorem dX10_isGood_152 : decode cX10_isGood 152 = .ok (.getfield 54, 3) := by decide +kernel
theorem dX10_isGood_155 : decode cX10_isGood 155 = .ok (.bipush 16, 2) := by decide +kernel
theorem dX10_isGood_157 : decode cX10_isGood 157 = .ok (.iload 4, 2) := by decide +kernel
theorem dX10_isGood_159 : decode cX10_isGood 159 = .ok (.imul, 1) := by decide +kernel
theorem dX10_isGood_160 : decode cX10_isGood 160 = .ok (.aload_n 0, 1) := by decide +kernel
theorem dX10_isGood_161 : decode cX10_isGood 161 = .ok (.getfield 41, 3) := by decide +kernel
theorem dX10_isGood_164 : decode cX10_isGood 164 = .ok (.iload 5, 2) := by decide +kernel
theorem dX10_isGood_166 : decode cX10_isGood 166 = .ok (.iload_n 3, 1) := by decide +kernel
theorem dX10_isGood_167 : decode cX10_isGood 167 = .ok (.bipush 16, 2) := by decide +kernel
theorem dX10_isGood_169 : decode cX10_isGood 169 = .ok (.isub, 1) := by decide +kernel
theorem dX10_isGood_170 : decode cX10_isGood 170 = .ok (.invokevirtual 150, 3) := by decide +kernel
theorem dX10_isGood_173 : decode cX10_isGood 173 = .ok (.iconst 1, 1) := by decide +kernel
theorem dX10_isGood_174 : decode cX10_isGood 174 = .ok (.istore 6, 2) := by decide +kernel
theorem dX10_isGood_176 : decode cX10_isGood 176 = .ok (.iconst 0, 1) := by decide +kernel
theorem dX10_isGood_177 : decode cX10_isGood 177 = .ok (.istore 7, 2) := by decide +kernel
theorem dX10_isGood_179 : decode cX10_isGood 179 = .ok (.iload 7, 2) := by decide +kernel
theorem dX10_isGood_181 : decode cX10_isGood 181 = .ok (.bipush 16, 2) := by decide +kernel
theorem dX10_isGood_183 : decode cX10_isGood 183 = .ok (.if_icmp .ge 46, 3) := by decide +kernel
theorem dX10_isGood_186 : decode cX10_isGood 186 = .ok (.iload 6, 2) := by decide +kernel
theorem dX10_isGood_188 : decode cX10_isGood 188 = .ok (.ifCond .eq 32, 3) := by decide +kernel
theorem dX10_isGood_191 : decode cX10_isGood 191 = .ok (.aload_n 0, 1) := by decide +kernel
theorem dX10_isGood_192 : decode cX10_isGood 192 = .ok (.getfield 32, 3) := by decide +kernel
theorem dX10_isGood_195 : decode cX10_isGood 195 = .ok (.iload 7, 2) := by decide +kernel
theorem dX10_isGood_197 : decode cX10_isGood 197 = .ok (.baload, 1) := by decide +kernel
theorem dX10_isGood_198 : decode cX10_isGood 198 = .ok (.aload_n 0, 1) := by decide +kernel
theorem dX10_isGood_199 : decode cX10_isGood 199 = .ok (.getfield 41, 3) := by decide +kernel
theorem dX10_isGood_202 : decode cX10_isGood 202 = .ok (.iload 5, 2) := by decide +kernel
theorem dX10_isGood_204 : decode cX10_isGood 204 = .ok (.iload_n 3, 1) := by decide +kernel
theorem dX10_isGood_205 : decode cX10_isGood 205 = .ok (.iadd, 1) := by decide +kernel
theorem dX10_isGood_206 : decode cX10_isGood 206 = .ok (.bipush 16, 2) := by decide +kernel
theorem dX10_isGood_208 : decode cX10_isGood 208 = .ok (.isub, 1) := by decide +kernel
theorem dX10_isGood_209 : decode cX10_isGood 209 = .ok (.iload 7, 2) := by decide +kernel
theorem dX10_isGood_211 : decode cX10_isGood 211 = .ok (.iadd, 1) := by decide +kernel
theorem dX10_isGood_212 : decode cX10_isGood 212 = .ok (.baload, 1) := by decide +kernel
theorem dX10_isGood_213 : decode cX10_isGood 213 = .ok (.if_icmp .ne 7, 3) := by decide +kernel
theorem dX10_isGood_216 : decode cX10_isGood 216 = .ok (.iconst 1, 1) := by decide +kernel
theorem dX10_isGood_217 : decode cX10_isGood 217 = .ok (.goto 4, 3) := by decide +kernel
theorem dX10_isGood_220 : decode cX10_isGood 220 = .ok (.iconst 0, 1) := by decide +kernel
theorem dX10_isGood_221 : decode cX10_isGood 221 = .ok (.istore 6, 2) := by decide +kernel
theorem dX10_isGood_223 : decode cX10_isGood 223 = .ok (.iinc 7 1, 3) := by decide +kernel
theorem dX10_isGood_226 : decode cX10_isGood 226 = .ok (.goto (-47), 3) := by decide +kernel
theorem dX10_isGood_229 : decode cX10_isGood 229 = .ok (.iload 6, 2) := by decide +kernel
theorem dX10_isGood_231 : decode cX10_isGood 231 = .ok (.ifCond .eq 41, 3) := by decide +kernel
theorem dX10_isGood_234 : decode cX10_isGood 234 = .ok (.aload_n 0, 1) := by decide +kernel
theorem dX10_isGood_235 : decode cX10_isGood 235 = .ok (.getfield 182, 3) := by decide +kernel
theorem dX10_isGood_238 : decode cX10_isGood 238 = .ok (.aload_n 0, 1) := by decide +kernel
theorem dX10_isGood_239 : decode cX10_isGood 239 = .ok (.iload_n 1, 1) := by decide +kernel
theorem dX10_isGood_240 : decode cX10_isGood 240 = .ok (.iload_n 2, 1) := by decide +kernel
theorem dX10_isGood_241 : decode cX10_isGood 241 = .ok (.bipush 13, 2) := by decide +kernel
theorem dX10_isGood_243 : decode cX10_isGood 243 = .ok (.iconst 4, 1) := by decide +kernel
theorem dX10_isGood_244 : decode cX10_isGood 244 = .ok (.invokevirtual 170, 3) := by decide +kernel
theorem dX10_isGood_247 : decode cX10_isGood 247 = .ok (.lcmp, 1) := by decide +kernel
theorem dX10_isGood_248 : decode cX10_isGood 248 = .ok (.ifCond .lt 24, 3) := by decide +kernel
theorem dX10_isGood_251 : decode cX10_isGood 251 = .ok (.aload_n 0, 1) := by decide +kernel
theorem dX10_isGood_252 : decode cX10_isGood 252 = .ok (.getfield 182, 3) := by decide +kernel
theorem dX10_isGood_255 : decode cX10_isGood 255 = .ok (.aload_n 0, 1) := by decide +kernel
theorem dX10_isGood_256 : decode cX10_isGood 256 = .ok (.iload_n 1, 1) := by decide +kernel
theorem dX10_isGood_257 : decode cX10_isGood 257 = .ok (.iload_n 2, 1) := by decide +kernel
theorem dX10_isGood_258 : decode cX10_isGood 258 = .ok (.bipush 17, 2) := by decide +kernel
theorem dX10_isGood_260 : decode cX10_isGood 260 = .ok (.iconst 4, 1) := by decide +kernel
theorem dX10_isGood_261 : decode cX10_isGood 261 = .ok (.invokevirtual 170, 3) := by decide +kernel
theorem dX10_isGood_264 : decode cX10_isGood 264 = .ok (.lcmp, 1) := by decide +kernel
theorem dX10_isGood_265 : decode cX10_isGood 265 = .ok (.ifCond .gt 7, 3) := by decide +kernel
theorem dX10_isGood_268 : decode cX10_isGood 268 = .ok (.iconst 1, 1) := by decide +kernel
theorem dX10_isGood_269 : decode cX10_isGood 269 = .ok (.goto 4, 3) := by decide +kernel
theorem dX10_isGood_272 : decode cX10_isGood 272 = .ok (.iconst 0, 1) := by decide +kernel
theorem dX10_isGood_273 : decode cX10_isGood 273 = .ok (.ireturn, 1) := by decide +kernel
theorem dX10_isHeld_0 : decode cX10_isHeld 0 = .ok (.aload_n 0, 1) := by decide +kernel
theorem dX10_isHeld_1 : decode cX10_isHeld 1 = .ok (.iload_n 1, 1) := by decide +kernel
theorem dX10_isHeld_2 : decode cX10_isHeld 2 = .ok (.iload_n 2, 1) := by decide +kernel
theorem dX10_isHeld_3 : decode cX10_isHeld 3 = .ok (.bipush 7, 2) := by decide +kernel
theorem dX10_isHeld_5 : decode cX10_isHeld 5 = .ok (.iconst 2, 1) := by decide +kernel
theorem dX10_isHeld_6 : decode cX10_isHeld 6 = .ok (.invokevirtual 170, 3) := by decide +kernel
theorem dX10_isHeld_9 : decode cX10_isHeld 9 = .ok (.aload_n 0, 1) := by decide +kernel
theorem dX10_isHeld_10 : decode cX10_isHeld 10 = .ok (.iload_n 1, 1) := by decide +kernel
theorem dX10_isHeld_11 : decode cX10_isHeld 11 = .ok (.iconst 0, 1) := by decide +kernel
theorem dX10_isHeld_12 : decode cX10_isHeld 12 = .ok (.iconst 1, 1) := by decide +kernel
theorem dX10_isHeld_13 : decode cX10_isHeld 13 = .ok (.iconst 2, 1) := by decide +kernel
theorem dX10_isHeld_14 : decode cX10_isHeld 14 = .ok (.invokevirtual 170, 3) := by decide +kernel
theorem dX10_isHeld_17 : decode cX10_isHeld 17 = .ok (.lcmp, 1) := by decide +kernel
theorem dX10_isHeld_18 : decode cX10_isHeld 18 = .ok (.ifCond .ne 28, 3) := by decide +kernel
theorem dX10_isHeld_21 : decode cX10_isHeld 21 = .ok (.aload_n 0, 1) := by decide +kernel
theorem dX10_isHeld_22 : decode cX10_isHeld 22 = .ok (.iload_n 1, 1) := by decide +kernel
theorem dX10_isHeld_23 : decode cX10_isHeld 23 = .ok (.iload_n 2, 1) := by decide +kernel
theorem dX10_isHeld_24 : decode cX10_isHeld 24 = .ok (.bipush 9, 2) := by decide +kernel
theorem dX10_isHeld_26 : decode cX10_isHeld 26 = .ok (.iconst 4, 1) := by decide +kernel
theorem dX10_isHeld_27 : decode cX10_isHeld 27 = .ok (.invokevirtual 170, 3) := by decide +kernel
theorem dX10_isHeld_30 : decode cX10_isHeld 30 = .ok (.aload_n 0, 1) := by decide +kernel
theorem dX10_isHeld_31 : decode cX10_isHeld 31 = .ok (.iload_n 1, 1) := by decide +kernel
theorem dX10_isHeld_32 : decode cX10_isHeld 32 = .ok (.iconst 0, 1) := by decide +kernel
theorem dX10_isHeld_33 : decode cX10_isHeld 33 = .ok (.iconst 3, 1) := by decide +kernel
theorem dX10_isHeld_34 : decode cX10_isHeld 34 = .ok (.iconst 4, 1) := by decide +kernel
theorem dX10_isHeld_35 : decode cX10_isHeld 35 = .ok (.invokevirtual 170, 3) := by decide +kernel
theorem dX10_isHeld_38 : decode cX10_isHeld 38 = .ok (.lcmp, 1) := by decide +kernel
theorem dX10_isHeld_39 : decode cX10_isHeld 39 = .ok (.ifCond .ne 7, 3) := by decide +kernel
theorem dX10_isHeld_42 : decode cX10_isHeld 42 = .ok (.iconst 1, 1) := by decide +kernel
theorem dX10_isHeld_43 : decode cX10_isHeld 43 = .ok (.goto 4, 3) := by decide +kernel
theorem dX10_isHeld_46 : decode cX10_isHeld 46 = .ok (.iconst 0, 1) := by decide +kernel
theorem dX10_isHeld_47 : decode cX10_isHeld 47 = .ok (.ireturn, 1) := by decide +kernel
theorem dX10_isSound_0 : decode cX10_isSound 0 = .ok (.aload_n 0, 1) := by decide +kernel
theorem dX10_isSound_1 : decode cX10_isSound 1 = .ok (.iload_n 1, 1) := by decide +kernel
theorem dX10_isSound_2 : decode cX10_isSound 2 = .ok (.iconst 0, 1) := by decide +kernel
theorem dX10_isSound_3 : decode cX10_isSound 3 = .ok (.invokevirtual 185, 3) := by decide +kernel
theorem dX10_isSound_6 : decode cX10_isSound 6 = .ok (.ifCond .eq 43, 3) := by decide +kernel
theorem dX10_isSound_9 : decode cX10_isSound 9 = .ok (.aload_n 0, 1) := by decide +kernel
theorem dX10_isSound_10 : decode cX10_isSound 10 = .ok (.iload_n 1, 1) := by decide +kernel
theorem dX10_isSound_11 : decode cX10_isSound 11 = .ok (.iconst 1, 1) := by decide +kernel
theorem dX10_isSound_12 : decode cX10_isSound 12 = .ok (.invokevirtual 185, 3) := by decide +kernel
theorem dX10_isSound_15 : decode cX10_isSound 15 = .ok (.ifCond .eq 34, 3) := by decide +kernel
theorem dX10_isSound_18 : decode cX10_isSound 18 = .ok (.aload_n 0, 1) := by decide +kernel
theorem dX10_isSound_19 : decode cX10_isSound 19 = .ok (.iload_n 1, 1) := by decide +kernel
theorem dX10_isSound_20 : decode cX10_isSound 20 = .ok (.iconst 2, 1) := by decide +kernel
theorem dX10_isSound_21 : decode cX10_isSound 21 = .ok (.invokevirtual 185, 3) := by decide +kernel
theorem dX10_isSound_24 : decode cX10_isSound 24 = .ok (.ifCond .eq 25, 3) := by decide +kernel
theorem dX10_isSound_27 : decode cX10_isSound 27 = .ok (.aload_n 0, 1) := by decide +kernel
theorem dX10_isSound_28 : decode cX10_isSound 28 = .ok (.iload_n 1, 1) := by decide +kernel
theorem dX10_isSound_29 : decode cX10_isSound 29 = .ok (.iconst 1, 1) := by decide +kernel
theorem dX10_isSound_30 : decode cX10_isSound 30 = .ok (.invokevirtual 189, 3) := by decide +kernel
theorem dX10_isSound_33 : decode cX10_isSound 33 = .ok (.ifCond .eq 16, 3) := by decide +kernel
theorem dX10_isSound_36 : decode cX10_isSound 36 = .ok (.aload_n 0, 1) := by decide +kernel
theorem dX10_isSound_37 : decode cX10_isSound 37 = .ok (.iload_n 1, 1) := by decide +kernel
theorem dX10_isSound_38 : decode cX10_isSound 38 = .ok (.iconst 2, 1) := by decide +kernel
theorem dX10_isSound_39 : decode cX10_isSound 39 = .ok (.invokevirtual 189, 3) := by decide +kernel
theorem dX10_isSound_42 : decode cX10_isSound 42 = .ok (.ifCond .eq 7, 3) := by decide +kernel
theorem dX10_isSound_45 : decode cX10_isSound 45 = .ok (.iconst 1, 1) := by decide +kernel
theorem dX10_isSound_46 : decode cX10_isSound 46 = .ok (.goto 4, 3) := by decide +kernel
theorem dX10_isSound_49 : decode cX10_isSound 49 = .ok (.iconst 0, 1) := by decide +kernel
theorem dX10_isSound_50 : decode cX10_isSound 50 = .ok (.ireturn, 1) := by decide +kernel
theorem dX10_hasPass_0 : decode cX10_hasPass 0 = .ok (.aload_n 0, 1) := by decide +kernel
theorem dX10_hasPass_1 : decode cX10_hasPass 1 = .ok (.iload_n 1, 1) := by decide +kernel
theorem dX10_hasPass_2 : decode cX10_hasPass 2 = .ok (.iconst 3, 1) := by decide +kernel
theorem dX10_hasPass_3 : decode cX10_hasPass 3 = .ok (.invokevirtual 185, 3) := by decide +kernel
theorem dX10_hasPass_6 : decode cX10_hasPass 6 = .ok (.ifCond .eq 42, 3) := by decide +kernel
theorem dX10_hasPass_9 : decode cX10_hasPass 9 = .ok (.aload_n 0, 1) := by decide +kernel
theorem dX10_hasPass_10 : decode cX10_hasPass 10 = .ok (.iload_n 1, 1) := by decide +kernel
theorem dX10_hasPass_11 : decode cX10_hasPass 11 = .ok (.iconst 3, 1) := by decide +kernel
theorem dX10_hasPass_12 : decode cX10_hasPass 12 = .ok (.iconst 1, 1) := by decide +kernel
theorem dX10_hasPass_13 : decode cX10_hasPass 13 = .ok (.iconst 2, 1) := by decide +kernel
theorem dX10_hasPass_14 : decode cX10_hasPass 14 = .ok (.invokevirtual 170, 3) := by decide +kernel
theorem dX10_hasPass_17 : decode cX10_hasPass 17 = .ok (.aload_n 0, 1) := by decide +kernel
theorem dX10_hasPass_18 : decode cX10_hasPass 18 = .ok (.getfield 88, 3) := by decide +kernel
theorem dX10_hasPass_21 : decode cX10_hasPass 21 = .ok (.i2l, 1) := by decide +kernel
theorem dX10_hasPass_22 : decode cX10_hasPass 22 = .ok (.lcmp, 1) := by decide +kernel
theorem dX10_hasPass_23 : decode cX10_hasPass 23 = .ok (.ifCond .ne 25, 3) := by decide +kernel
theorem dX10_hasPass_26 : decode cX10_hasPass 26 = .ok (.aload_n 0, 1) := by decide +kernel
theorem dX10_hasPass_27 : decode cX10_hasPass 27 = .ok (.iload_n 1, 1) := by decide +kernel
theorem dX10_hasPass_28 : decode cX10_hasPass 28 = .ok (.iconst 0, 1) := by decide +kernel
theorem dX10_hasPass_29 : decode cX10_hasPass 29 = .ok (.invokevirtual 185, 3) := by decide +kernel
theorem dX10_hasPass_32 : decode cX10_hasPass 32 = .ok (.ifCond .eq 16, 3) := by decide +kernel
theorem dX10_hasPass_35 : decode cX10_hasPass 35 = .ok (.aload_n 0, 1) := by decide +kernel
theorem dX10_hasPass_36 : decode cX10_hasPass 36 = .ok (.iload_n 1, 1) := by decide +kernel
theorem dX10_hasPass_37 : decode cX10_hasPass 37 = .ok (.iconst 3, 1) := by decide +kernel
theorem dX10_hasPass_38 : decode cX10_hasPass 38 = .ok (.invokevirtual 189, 3) := by decide +kernel
theorem dX10_hasPass_41 : decode cX10_hasPass 41 = .ok (.ifCond .eq 7, 3) := by decide +kernel
theorem dX10_hasPass_44 : decode cX10_hasPass 44 = .ok (.iconst 1, 1) := by decide +kernel
theorem dX10_hasPass_45 : decode cX10_hasPass 45 = .ok (.goto 4, 3) := by decide +kernel
theorem dX10_hasPass_48 : decode cX10_hasPass 48 = .ok (.iconst 0, 1) := by decide +kernel
theorem dX10_hasPass_49 : decode cX10_hasPass 49 = .ok (.ireturn, 1) := by decide +kernel
theorem dX10_put_0 : decode cX10_put 0 = .ok (.iload_n 1, 1) := by decide +kernel
theorem dX10_put_1 : decode cX10_put 1 = .ok (.ifCond .eq 8, 3) := by decide +kernel
theorem dX10_put_4 : decode cX10_put 4 = .ok (.iload_n 1, 1) := by decide +kernel
theorem dX10_put_5 : decode cX10_put 5 = .ok (.iconst 1, 1) := by decide +kernel
theorem dX10_put_6 : decode cX10_put 6 = .ok (.if_icmp .ne 19, 3) := by decide +kernel
theorem dX10_put_9 : decode cX10_put 9 = .ok (.iload_n 2, 1) := by decide +kernel
theorem dX10_put_10 : decode cX10_put 10 = .ok (.iconst (-1), 1) := by decide +kernel
theorem dX10_put_11 : decode cX10_put 11 = .ok (.if_icmp .eq 10, 3) := by decide +kernel
theorem dX10_put_14 : decode cX10_put 14 = .ok (.iload_n 2, 1) := by decide +kernel
theorem dX10_put_15 : decode cX10_put 15 = .ok (.invokestatic 154, 3) := by decide +kernel
theorem dX10_put_18 : decode cX10_put 18 = .ok (.ifCond .eq 7, 3) := by decide +kernel
theorem dX10_put_21 : decode cX10_put 21 = .ok (.iconst 1, 1) := by decide +kernel
theorem dX10_put_22 : decode cX10_put 22 = .ok (.goto 4, 3) := by decide +kernel
theorem dX10_put_25 : decode cX10_put 25 = .ok (.iconst 0, 1) := by decide +kernel
theorem dX10_put_26 : decode cX10_put 26 = .ok (.istore_n 3, 1) := by decide +kernel
theorem dX10_put_27 : decode cX10_put 27 = .ok (.iload_n 3, 1) := by decide +kernel
theorem dX10_put_28 : decode cX10_put 28 = .ok (.ifCond .eq 27, 3) := by decide +kernel
theorem dX10_put_31 : decode cX10_put 31 = .ok (.iload_n 2, 1) := by decide +kernel
theorem dX10_put_32 : decode cX10_put 32 = .ok (.iconst (-1), 1) := by decide +kernel
theorem dX10_put_33 : decode cX10_put 33 = .ok (.if_icmp .eq 24, 3) := by decide +kernel
theorem dX10_put_36 : decode cX10_put 36 = .ok (.iload_n 1, 1) := by decide +kernel
theorem dX10_put_37 : decode cX10_put 37 = .ok (.ifCond .ne 10, 3) := by decide +kernel
theorem dX10_put_40 : decode cX10_put 40 = .ok (.aload_n 0, 1) := by decide +kernel
theorem dX10_put_41 : decode cX10_put 41 = .ok (.getfield 73, 3) := by decide +kernel
theorem dX10_put_44 : decode cX10_put 44 = .ok (.goto 7, 3) := by decide +kernel
theorem dX10_put_47 : decode cX10_put 47 = .ok (.aload_n 0, 1) := by decide +kernel
theorem dX10_put_48 : decode cX10_put 48 = .ok (.getfield 69, 3) := by decide +kernel
theorem dX10_put_51 : decode cX10_put 51 = .ok (.iload_n 2, 1) := by decide +kernel
theorem dX10_put_52 : decode cX10_put 52 = .ok (.if_icmp .ne 5, 3) := by decide +kernel
theorem dX10_put_55 : decode cX10_put 55 = .ok (.iconst 0, 1) := by decide +kernel
theorem dX10_put_56 : decode cX10_put 56 = .ok (.ireturn, 1) := by decide +kernel
theorem dX10_put_57 : decode cX10_put 57 = .ok (.iload_n 1, 1) := by decide +kernel
theorem dX10_put_58 : decode cX10_put 58 = .ok (.ifCond .ne 11, 3) := by decide +kernel
theorem dX10_put_61 : decode cX10_put 61 = .ok (.aload_n 0, 1) := by decide +kernel
theorem dX10_put_62 : decode cX10_put 62 = .ok (.iload_n 2, 1) := by decide +kernel
theorem dX10_put_63 : decode cX10_put 63 = .ok (.putfield 69, 3) := by decide +kernel
theorem dX10_put_66 : decode cX10_put 66 = .ok (.goto 8, 3) := by decide +kernel
theorem dX10_put_69 : decode cX10_put 69 = .ok (.aload_n 0, 1) := by decide +kernel
theorem dX10_put_70 : decode cX10_put 70 = .ok (.iload_n 2, 1) := by decide +kernel
theorem dX10_put_71 : decode cX10_put 71 = .ok (.putfield 73, 3) := by decide +kernel
theorem dX10_put_74 : decode cX10_put 74 = .ok (.iconst 1, 1) := by decide +kernel
theorem dX10_put_75 : decode cX10_put 75 = .ok (.ireturn, 1) := by decide +kernel
theorem dX10_finger_0 : decode cX10_finger 0 = .ok (.iload_n 1, 1) := by decide +kernel
theorem dX10_finger_1 : decode cX10_finger 1 = .ok (.iconst (-1), 1) := by decide +kernel
theorem dX10_finger_2 : decode cX10_finger 2 = .ok (.if_icmp .lt 9, 3) := by decide +kernel
theorem dX10_finger_5 : decode cX10_finger 5 = .ok (.iload_n 1, 1) := by decide +kernel
theorem dX10_finger_6 : decode cX10_finger 6 = .ok (.ldc 192, 2) := by decide +kernel
theorem dX10_finger_8 : decode cX10_finger 8 = .ok (.if_icmp .le 5, 3) := by decide +kernel
theorem dX10_finger_11 : decode cX10_finger 11 = .ok (.iconst 0, 1) := by decide +kernel
theorem dX10_finger_12 : decode cX10_finger 12 = .ok (.ireturn, 1) := by decide +kernel
theorem dX10_finger_13 : decode cX10_finger 13 = .ok (.aload_n 0, 1) := by decide +kernel
theorem dX10_finger_14 : decode cX10_finger 14 = .ok (.iload_n 1, 1) := by decide +kernel
theorem dX10_finger_15 : decode cX10_finger 15 = .ok (.putfield 76, 3) := by decide +kernel
theorem dX10_finger_18 : decode cX10_finger 18 = .ok (.iconst 1, 1) := by decide +kernel
theorem dX10_finger_19 : decode cX10_finger 19 = .ok (.ireturn, 1) := by decide +kernel
theorem dX10_door_0 : decode cX10_door 0 = .ok (.aload_n 0, 1) := by decide +kernel
theorem dX10_door_1 : decode cX10_door 1 = .ok (.iload_n 1, 1) := by decide +kernel
theorem dX10_door_2 : decode cX10_door 2 = .ok (.putfield 193, 3) := by decide +kernel
theorem dX10_door_5 : decode cX10_door 5 = .ok (.return_, 1) := by decide +kernel
theorem dX10_disk_0 : decode cX10_disk 0 = .ok (.aload_n 0, 1) := by decide +kernel
theorem dX10_disk_1 : decode cX10_disk 1 = .ok (.aload_n 0, 1) := by decide +kernel
theorem dX10_disk_2 : decode cX10_disk 2 = .ok (.getfield 107, 3) := by decide +kernel
theorem dX10_disk_5 : decode cX10_disk 5 = .ok (.putfield 79, 3) := by decide +kernel
theorem dX10_disk_8 : decode cX10_disk 8 = .ok (.aload_n 0, 1) := by decide +kernel
theorem dX10_disk_9 : decode cX10_disk 9 = .ok (.iconst 0, 1) := by decide +kernel
theorem dX10_disk_10 : decode cX10_disk 10 = .ok (.putfield 107, 3) := by decide +kernel
theorem dX10_disk_13 : decode cX10_disk 13 = .ok (.iconst 0, 1) := by decide +kernel
theorem dX10_disk_14 : decode cX10_disk 14 = .ok (.istore_n 1, 1) := by decide +kernel
theorem dX10_disk_15 : decode cX10_disk 15 = .ok (.iload_n 1, 1) := by decide +kernel
theorem dX10_disk_16 : decode cX10_disk 16 = .ok (.aload_n 0, 1) := by decide +kernel
theorem dX10_disk_17 : decode cX10_disk 17 = .ok (.getfield 79, 3) := by decide +kernel
theorem dX10_disk_20 : decode cX10_disk 20 = .ok (.if_icmp .ge 21, 3) := by decide +kernel
theorem dX10_disk_23 : decode cX10_disk 23 = .ok (.aload_n 0, 1) := by decide +kernel
theorem dX10_disk_24 : decode cX10_disk 24 = .ok (.getfield 57, 3) := by decide +kernel
theorem dX10_disk_27 : decode cX10_disk 27 = .ok (.iload_n 1, 1) := by decide +kernel
theorem dX10_disk_28 : decode cX10_disk 28 = .ok (.aload_n 0, 1) := by decide +kernel
theorem dX10_disk_29 : decode cX10_disk 29 = .ok (.getfield 7, 3) := by decide +kernel
theorem dX10_disk_32 : decode cX10_disk 32 = .ok (.iload_n 1, 1) := by decide +kernel
theorem dX10_disk_33 : decode cX10_disk 33 = .ok (.baload, 1) := by decide +kernel
theorem dX10_disk_34 : decode cX10_disk 34 = .ok (.bastore, 1) := by decide +kernel
theorem dX10_disk_35 : decode cX10_disk 35 = .ok (.iinc 1 1, 3) := by decide +kernel
theorem dX10_disk_38 : decode cX10_disk 38 = .ok (.goto (-23), 3) := by decide +kernel
theorem dX10_disk_41 : decode cX10_disk 41 = .ok (.aload_n 0, 1) := by decide +kernel
theorem dX10_disk_42 : decode cX10_disk 42 = .ok (.getfield 79, 3) := by decide +kernel
theorem dX10_disk_45 : decode cX10_disk 45 = .ok (.ireturn, 1) := by decide +kernel
theorem dX10_noDisk_0 : decode cX10_noDisk 0 = .ok (.aload_n 0, 1) := by decide +kernel
theorem dX10_noDisk_1 : decode cX10_noDisk 1 = .ok (.getfield 79, 3) := by decide +kernel
theorem dX10_noDisk_4 : decode cX10_noDisk 4 = .ok (.ifCond .lt 7, 3) := by decide +kernel
theorem dX10_noDisk_7 : decode cX10_noDisk 7 = .ok (.iconst 1, 1) := by decide +kernel
theorem dX10_noDisk_8 : decode cX10_noDisk 8 = .ok (.goto 4, 3) := by decide +kernel
theorem dX10_noDisk_11 : decode cX10_noDisk 11 = .ok (.iconst 0, 1) := by decide +kernel
theorem dX10_noDisk_12 : decode cX10_noDisk 12 = .ok (.istore_n 1, 1) := by decide +kernel
theorem dX10_noDisk_13 : decode cX10_noDisk 13 = .ok (.aload_n 0, 1) := by decide +kernel
theorem dX10_noDisk_14 : decode cX10_noDisk 14 = .ok (.iconst (-1), 1) := by decide +kernel
theorem dX10_noDisk_15 : decode cX10_noDisk 15 = .ok (.putfield 79, 3) := by decide +kernel
theorem dX10_noDisk_18 : decode cX10_noDisk 18 = .ok (.iload_n 1, 1) := by decide +kernel
theorem dX10_noDisk_19 : decode cX10_noDisk 19 = .ok (.ireturn, 1) := by decide +kernel
theorem dX10_key_0 : decode cX10_key 0 = .ok (.iload_n 1, 1) := by decide +kernel
theorem dX10_key_1 : decode cX10_key 1 = .ok (.ifCond .lt 8, 3) := by decide +kernel
theorem dX10_key_4 : decode cX10_key 4 = .ok (.iload_n 1, 1) := by decide +kernel
theorem dX10_key_5 : decode cX10_key 5 = .ok (.iconst 4, 1) := by decide +kernel
theorem dX10_key_6 : decode cX10_key 6 = .ok (.if_icmp .le 5, 3) := by decide +kernel
theorem dX10_key_9 : decode cX10_key 9 = .ok (.iconst 0, 1) := by decide +kernel
theorem dX10_key_10 : decode cX10_key 10 = .ok (.ireturn, 1) := by decide +kernel
theorem dX10_key_11 : decode cX10_key 11 = .ok (.aload_n 0, 1) := by decide +kernel
theorem dX10_key_12 : decode cX10_key 12 = .ok (.iload_n 1, 1) := by decide +kernel
theorem dX10_key_13 : decode cX10_key 13 = .ok (.putfield 196, 3) := by decide +kernel
theorem dX10_key_16 : decode cX10_key 16 = .ok (.iconst 1, 1) := by decide +kernel
theorem dX10_key_17 : decode cX10_key 17 = .ok (.ireturn, 1) := by decide +kernel
theorem dX10_tick_0 : decode cX10_tick 0 = .ok (.iload_n 1, 1) := by decide +kernel
theorem dX10_tick_1 : decode cX10_tick 1 = .ok (.ifCond .lt 23, 3) := by decide +kernel
theorem dX10_tick_4 : decode cX10_tick 4 = .ok (.iload_n 1, 1) := by decide +kernel
theorem dX10_tick_5 : decode cX10_tick 5 = .ok (.ldc 199, 2) := by decide +kernel
theorem dX10_tick_7 : decode cX10_tick 7 = .ok (.if_icmp .gt 17, 3) := by decide +kernel
theorem dX10_tick_10 : decode cX10_tick 10 = .ok (.aload_n 0, 1) := by decide +kernel
theorem dX10_tick_11 : decode cX10_tick 11 = .ok (.getfield 182, 3) := by decide +kernel
theorem dX10_tick_14 : decode cX10_tick 14 = .ok (.iload_n 1, 1) := by decide +kernel
theorem dX10_tick_15 : decode cX10_tick 15 = .ok (.i2l, 1) := by decide +kernel
theorem dX10_tick_16 : decode cX10_tick 16 = .ok (.ladd, 1) := by decide +kernel
theorem dX10_tick_17 : decode cX10_tick 17 = .ok (.ldc2_w 200, 3) := by decide +kernel
theorem dX10_tick_20 : decode cX10_tick 20 = .ok (.lcmp, 1) := by decide +kernel
theorem dX10_tick_21 : decode cX10_tick 21 = .ok (.ifCond .le 5, 3) := by decide +kernel
theorem dX10_tick_24 : decode cX10_tick 24 = .ok (.iconst 0, 1) := by decide +kernel
theorem dX10_tick_25 : decode cX10_tick 25 = .ok (.ireturn, 1) := by decide +kernel
theorem dX10_tick_26 : decode cX10_tick 26 = .ok (.aload_n 0, 1) := by decide +kernel
theorem dX10_tick_27 : decode cX10_tick 27 = .ok (.dup, 1) := by decide +kernel
theorem dX10_tick_28 : decode cX10_tick 28 = .ok (.getfield 182, 3) := by decide +kernel
theorem dX10_tick_31 : decode cX10_tick 31 = .ok (.iload_n 1, 1) := by decide +kernel
theorem dX10_tick_32 : decode cX10_tick 32 = .ok (.i2l, 1) := by decide +kernel
theorem dX10_tick_33 : decode cX10_tick 33 = .ok (.ladd, 1) := by decide +kernel
theorem dX10_tick_34 : decode cX10_tick 34 = .ok (.putfield 182, 3) := by decide +kernel
theorem dX10_tick_37 : decode cX10_tick 37 = .ok (.iconst 1, 1) := by decide +kernel
theorem dX10_tick_38 : decode cX10_tick 38 = .ok (.ireturn, 1) := by decide +kernel
theorem dX10_cutAt_0 : decode cX10_cutAt 0 = .ok (.iload_n 1, 1) := by decide +kernel
theorem dX10_cutAt_1 : decode cX10_cutAt 1 = .ok (.ifCond .lt 9, 3) := by decide +kernel
theorem dX10_cutAt_4 : decode cX10_cutAt 4 = .ok (.iload_n 1, 1) := by decide +kernel
theorem dX10_cutAt_5 : decode cX10_cutAt 5 = .ok (.bipush 10, 2) := by decide +kernel
theorem dX10_cutAt_7 : decode cX10_cutAt 7 = .ok (.if_icmp .le 5, 3) := by decide +kernel
theorem dX10_cutAt_10 : decode cX10_cutAt 10 = .ok (.iconst 0, 1) := by decide +kernel
theorem dX10_cutAt_11 : decode cX10_cutAt 11 = .ok (.ireturn, 1) := by decide +kernel
theorem dX10_cutAt_12 : decode cX10_cutAt 12 = .ok (.aload_n 0, 1) := by decide +kernel
theorem dX10_cutAt_13 : decode cX10_cutAt 13 = .ok (.iload_n 1, 1) := by decide +kernel
theorem dX10_cutAt_14 : decode cX10_cutAt 14 = .ok (.putfield 97, 3) := by decide +kernel
theorem dX10_cutAt_17 : decode cX10_cutAt 17 = .ok (.iconst 1, 1) := by decide +kernel
theorem dX10_cutAt_18 : decode cX10_cutAt 18 = .ok (.ireturn, 1) := by decide +kernel
theorem dX10_diskAt_0 : decode cX10_diskAt 0 = .ok (.iload_n 1, 1) := by decide +kernel
theorem dX10_diskAt_1 : decode cX10_diskAt 1 = .ok (.ifCond .lt 24, 3) := by decide +kernel
theorem dX10_diskAt_4 : decode cX10_diskAt 4 = .ok (.iload_n 1, 1) := by decide +kernel
theorem dX10_diskAt_5 : decode cX10_diskAt 5 = .ok (.aload_n 0, 1) := by decide +kernel
theorem dX10_diskAt_6 : decode cX10_diskAt 6 = .ok (.getfield 79, 3) := by decide +kernel
theorem dX10_diskAt_9 : decode cX10_diskAt 9 = .ok (.if_icmp .ge 16, 3) := by decide +kernel
theorem dX10_diskAt_12 : decode cX10_diskAt 12 = .ok (.aload_n 0, 1) := by decide +kernel
theorem dX10_diskAt_13 : decode cX10_diskAt 13 = .ok (.getfield 57, 3) := by decide +kernel
theorem dX10_diskAt_16 : decode cX10_diskAt 16 = .ok (.iload_n 1, 1) := by decide +kernel
theorem dX10_diskAt_17 : decode cX10_diskAt 17 = .ok (.baload, 1) := by decide +kernel
theorem dX10_diskAt_18 : decode cX10_diskAt 18 = .ok (.sipush 255, 3) := by decide +kernel
theorem dX10_diskAt_21 : decode cX10_diskAt 21 = .ok (.iand, 1) := by decide +kernel
theorem dX10_diskAt_22 : decode cX10_diskAt 22 = .ok (.goto 4, 3) := by decide +kernel
theorem dX10_diskAt_25 : decode cX10_diskAt 25 = .ok (.iconst (-1), 1) := by decide +kernel
theorem dX10_diskAt_26 : decode cX10_diskAt 26 = .ok (.ireturn, 1) := by decide +kernel
theorem dX10_write_0 : decode cX10_write 0 = .ok (.iconst 0, 1) := by decide +kernel
theorem dX10_write_1 : decode cX10_write 1 = .ok (.istore 5, 2) := by decide +kernel
theorem dX10_write_3 : decode cX10_write 3 = .ok (.iload 5, 2) := by decide +kernel
theorem dX10_write_5 : decode cX10_write 5 = .ok (.iload 4, 2) := by decide +kernel
theorem dX10_write_7 : decode cX10_write 7 = .ok (.if_icmp .ge 40, 3) := by decide +kernel
theorem dX10_write_10 : decode cX10_write 10 = .ok (.aload_n 0, 1) := by decide +kernel
theorem dX10_write_11 : decode cX10_write 11 = .ok (.getfield 60, 3) := by decide +kernel
theorem dX10_write_14 : decode cX10_write 14 = .ok (.bipush 16, 2) := by decide +kernel
theorem dX10_write_16 : decode cX10_write 16 = .ok (.aload_n 0, 1) := by decide +kernel
theorem dX10_write_17 : decode cX10_write 17 = .ok (.getfield 202, 3) := by decide +kernel
theorem dX10_write_20 : decode cX10_write 20 = .ok (.imul, 1) := by decide +kernel
theorem dX10_write_21 : decode cX10_write 21 = .ok (.iload_n 1, 1) := by decide +kernel
theorem dX10_write_22 : decode cX10_write 22 = .ok (.iadd, 1) := by decide +kernel
theorem dX10_write_23 : decode cX10_write 23 = .ok (.iload 5, 2) := by decide +kernel
theorem dX10_write_25 : decode cX10_write 25 = .ok (.iadd, 1) := by decide +kernel
theorem dX10_write_26 : decode cX10_write 26 = .ok (.lload_n 2, 1) := by decide +kernel
theorem dX10_write_27 : decode cX10_write 27 = .ok (.bipush 8, 2) := by decide +kernel
theorem dX10_write_29 : decode cX10_write 29 = .ok (.iload 4, 2) := by decide +kernel
theorem dX10_write_31 : decode cX10_write 31 = .ok (.iconst 1, 1) := by decide +kernel
theorem dX10_write_32 : decode cX10_write 32 = .ok (.isub, 1) := by decide +kernel
theorem dX10_write_33 : decode cX10_write 33 = .ok (.iload 5, 2) := by decide +kernel
theorem dX10_write_35 : decode cX10_write 35 = .ok (.isub, 1) := by decide +kernel
theorem dX10_write_36 : decode cX10_write 36 = .ok (.imul, 1) := by decide +kernel
theorem dX10_write_37 : decode cX10_write 37 = .ok (.lushr, 1) := by decide +kernel
theorem dX10_write_38 : decode cX10_write 38 = .ok (.l2i, 1) := by decide +kernel
theorem dX10_write_39 : decode cX10_write 39 = .ok (.i2b, 1) := by decide +kernel
theorem dX10_write_40 : decode cX10_write 40 = .ok (.bastore, 1) := by decide +kernel
theorem dX10_write_41 : decode cX10_write 41 = .ok (.iinc 5 1, 3) := by decide +kernel
theorem dX10_write_44 : decode cX10_write 44 = .ok (.goto (-41), 3) := by decide +kernel
theorem dX10_write_47 : decode cX10_write 47 = .ok (.return_, 1) := by decide +kernel
theorem dX10_drop_0 : decode cX10_drop 0 = .ok (.aload_n 0, 1) := by decide +kernel
theorem dX10_drop_1 : decode cX10_drop 1 = .ok (.dup, 1) := by decide +kernel
theorem dX10_drop_2 : decode cX10_drop 2 = .ok (.getfield 202, 3) := by decide +kernel
theorem dX10_drop_5 : decode cX10_drop 5 = .ok (.iload_n 1, 1) := by decide +kernel
theorem dX10_drop_6 : decode cX10_drop 6 = .ok (.isub, 1) := by decide +kernel
theorem dX10_drop_7 : decode cX10_drop 7 = .ok (.putfield 202, 3) := by decide +kernel
theorem dX10_drop_10 : decode cX10_drop 10 = .ok (.iconst 0, 1) := by decide +kernel
theorem dX10_drop_11 : decode cX10_drop 11 = .ok (.istore_n 2, 1) := by decide +kernel
theorem dX10_drop_12 : decode cX10_drop 12 = .ok (.iload_n 2, 1) := by decide +kernel
theorem dX10_drop_13 : decode cX10_drop 13 = .ok (.bipush 16, 2) := by decide +kernel
theorem dX10_drop_15 : decode cX10_drop 15 = .ok (.aload_n 0, 1) := by decide +kernel
theorem dX10_drop_16 : decode cX10_drop 16 = .ok (.getfield 202, 3) := by decide +kernel
theorem dX10_drop_19 : decode cX10_drop 19 = .ok (.imul, 1) := by decide +kernel
theorem dX10_drop_20 : decode cX10_drop 20 = .ok (.if_icmp .ge 26, 3) := by decide +kernel
theorem dX10_drop_23 : decode cX10_drop 23 = .ok (.aload_n 0, 1) := by decide +kernel
theorem dX10_drop_24 : decode cX10_drop 24 = .ok (.getfield 60, 3) := by decide +kernel
theorem dX10_drop_27 : decode cX10_drop 27 = .ok (.iload_n 2, 1) := by decide +kernel
theorem dX10_drop_28 : decode cX10_drop 28 = .ok (.aload_n 0, 1) := by decide +kernel
theorem dX10_drop_29 : decode cX10_drop 29 = .ok (.getfield 60, 3) := by decide +kernel
theorem dX10_drop_32 : decode cX10_drop 32 = .ok (.iload_n 2, 1) := by decide +kernel
theorem dX10_drop_33 : decode cX10_drop 33 = .ok (.bipush 16, 2) := by decide +kernel
theorem dX10_drop_35 : decode cX10_drop 35 = .ok (.iload_n 1, 1) := by decide +kernel
theorem dX10_drop_36 : decode cX10_drop 36 = .ok (.imul, 1) := by decide +kernel
theorem dX10_drop_37 : decode cX10_drop 37 = .ok (.iadd, 1) := by decide +kernel
theorem dX10_drop_38 : decode cX10_drop 38 = .ok (.baload, 1) := by decide +kernel
theorem dX10_drop_39 : decode cX10_drop 39 = .ok (.bastore, 1) := by decide +kernel
theorem dX10_drop_40 : decode cX10_drop 40 = .ok (.iinc 2 1, 3) := by decide +kernel
theorem dX10_drop_43 : decode cX10_drop 43 = .ok (.goto (-31), 3) := by decide +kernel
theorem dX10_drop_46 : decode cX10_drop 46 = .ok (.return_, 1) := by decide +kernel
theorem dX10_lay__0 : decode cX10_lay_ 0 = .ok (.aload_n 0, 1) := by decide +kernel
theorem dX10_lay__1 : decode cX10_lay_ 1 = .ok (.iconst 0, 1) := by decide +kernel
theorem dX10_lay__2 : decode cX10_lay_ 2 = .ok (.aload_n 0, 1) := by decide +kernel
theorem dX10_lay__3 : decode cX10_lay_ 3 = .ok (.getfield 100, 3) := by decide +kernel
theorem dX10_lay__6 : decode cX10_lay_ 6 = .ok (.iconst 4, 1) := by decide +kernel
theorem dX10_lay__7 : decode cX10_lay_ 7 = .ok (.invokevirtual 205, 3) := by decide +kernel
theorem dX10_lay__10 : decode cX10_lay_ 10 = .ok (.aload_n 0, 1) := by decide +kernel
theorem dX10_lay__11 : decode cX10_lay_ 11 = .ok (.iconst 4, 1) := by decide +kernel
theorem dX10_lay__12 : decode cX10_lay_ 12 = .ok (.aload_n 0, 1) := by decide +kernel
theorem dX10_lay__13 : decode cX10_lay_ 13 = .ok (.getfield 182, 3) := by decide +kernel
theorem dX10_lay__16 : decode cX10_lay_ 16 = .ok (.iconst 4, 1) := by decide +kernel
theorem dX10_lay__17 : decode cX10_lay_ 17 = .ok (.invokevirtual 205, 3) := by decide +kernel
theorem dX10_lay__20 : decode cX10_lay_ 20 = .ok (.aload_n 0, 1) := by decide +kernel
theorem dX10_lay__21 : decode cX10_lay_ 21 = .ok (.bipush 8, 2) := by decide +kernel
theorem dX10_lay__23 : decode cX10_lay_ 23 = .ok (.iload_n 1, 1) := by decide +kernel
theorem dX10_lay__24 : decode cX10_lay_ 24 = .ok (.i2l, 1) := by decide +kernel
theorem dX10_lay__25 : decode cX10_lay_ 25 = .ok (.iconst 1, 1) := by decide +kernel
theorem dX10_lay__26 : decode cX10_lay_ 26 = .ok (.invokevirtual 205, 3) := by decide +kernel
theorem dX10_lay__29 : decode cX10_lay_ 29 = .ok (.aload_n 0, 1) := by decide +kernel
theorem dX10_lay__30 : decode cX10_lay_ 30 = .ok (.bipush 9, 2) := by decide +kernel
theorem dX10_lay__32 : decode cX10_lay_ 32 = .ok (.iload_n 2, 1) := by decide +kernel
theorem dX10_lay__33 : decode cX10_lay_ 33 = .ok (.i2l, 1) := by decide +kernel
theorem dX10_lay__34 : decode cX10_lay_ 34 = .ok (.iconst 1, 1) := by decide +kernel
theorem dX10_lay__35 : decode cX10_lay_ 35 = .ok (.invokevirtual 205, 3) := by decide +kernel
theorem dX10_lay__38 : decode cX10_lay_ 38 = .ok (.aload_n 0, 1) := by decide +kernel
theorem dX10_lay__39 : decode cX10_lay_ 39 = .ok (.bipush 10, 2) := by decide +kernel
theorem dX10_lay__41 : decode cX10_lay_ 41 = .ok (.iload_n 3, 1) := by decide +kernel
theorem dX10_lay__42 : decode cX10_lay_ 42 = .ok (.ifCond .ge 9, 3) := by decide +kernel
theorem dX10_lay__45 : decode cX10_lay_ 45 = .ok (.ldc2_w 161, 3) := by decide +kernel
theorem dX10_lay__48 : decode cX10_lay_ 48 = .ok (.goto 5, 3) := by decide +kernel
theorem dX10_lay__51 : decode cX10_lay_ 51 = .ok (.iload_n 3, 1) := by decide +kernel
theorem dX10_lay__52 : decode cX10_lay_ 52 = .ok (.i2l, 1) := by decide +kernel
theorem dX10_lay__53 : decode cX10_lay_ 53 = .ok (.iconst 1, 1) := by decide +kernel
theorem dX10_lay__54 : decode cX10_lay_ 54 = .ok (.invokevirtual 205, 3) := by decide +kernel
theorem dX10_lay__57 : decode cX10_lay_ 57 = .ok (.aload_n 0, 1) := by decide +kernel
theorem dX10_lay__58 : decode cX10_lay_ 58 = .ok (.bipush 11, 2) := by decide +kernel
theorem dX10_lay__60 : decode cX10_lay_ 60 = .ok (.lconst 0, 1) := by decide +kernel
theorem dX10_lay__61 : decode cX10_lay_ 61 = .ok (.iconst 1, 1) := by decide +kernel
theorem dX10_lay__62 : decode cX10_lay_ 62 = .ok (.invokevirtual 205, 3) := by decide +kernel
theorem dX10_lay__65 : decode cX10_lay_ 65 = .ok (.aload_n 0, 1) := by decide +kernel
theorem dX10_lay__66 : decode cX10_lay_ 66 = .ok (.bipush 12, 2) := by decide +kernel
theorem dX10_lay__68 : decode cX10_lay_ 68 = .ok (.lload 4, 2) := by decide +kernel
theorem dX10_lay__70 : decode cX10_lay_ 70 = .ok (.iconst 4, 1) := by decide +kernel
theorem dX10_lay__71 : decode cX10_lay_ 71 = .ok (.invokevirtual 205, 3) := by decide +kernel
theorem dX10_lay__74 : decode cX10_lay_ 74 = .ok (.aload_n 0, 1) := by decide +kernel
theorem dX10_lay__75 : decode cX10_lay_ 75 = .ok (.dup, 1) := by decide +kernel
theorem dX10_lay__76 : decode cX10_lay_ 76 = .ok (.getfield 100, 3) := by decide +kernel
theorem dX10_lay__79 : decode cX10_lay_ 79 = .ok (.lconst 1, 1) := by decide +kernel
theorem dX10_lay__80 : decode cX10_lay_ 80 = .ok (.ladd, 1) := by decide +kernel
theorem dX10_lay__81 : decode cX10_lay_ 81 = .ok (.putfield 100, 3) := by decide +kernel
theorem dX10_lay__84 : decode cX10_lay_ 84 = .ok (.aload_n 0, 1) := by decide +kernel
theorem dX10_lay__85 : decode cX10_lay_ 85 = .ok (.dup, 1) := by decide +kernel
theorem dX10_lay__86 : decode cX10_lay_ 86 = .ok (.getfield 202, 3) := by decide +kernel
theorem dX10_lay__89 : decode cX10_lay_ 89 = .ok (.iconst 1, 1) := by decide +kernel
theorem dX10_lay__90 : decode cX10_lay_ 90 = .ok (.iadd, 1) := by decide +kernel
theorem dX10_lay__91 : decode cX10_lay_ 91 = .ok (.putfield 202, 3) := by decide +kernel
theorem dX10_lay__94 : decode cX10_lay_ 94 = .ok (.return_, 1) := by decide +kernel
theorem dX10_count_0 : decode cX10_count 0 = .ok (.aload_n 0, 1) := by decide +kernel
theorem dX10_count_1 : decode cX10_count 1 = .ok (.dup, 1) := by decide +kernel
theorem dX10_count_2 : decode cX10_count 2 = .ok (.getfield 209, 3) := by decide +kernel
theorem dX10_count_5 : decode cX10_count 5 = .ok (.iconst 1, 1) := by decide +kernel
theorem dX10_count_6 : decode cX10_count 6 = .ok (.iadd, 1) := by decide +kernel
theorem dX10_count_7 : decode cX10_count 7 = .ok (.putfield 209, 3) := by decide +kernel
theorem dX10_count_10 : decode cX10_count 10 = .ok (.aload_n 0, 1) := by decide +kernel
theorem dX10_count_11 : decode cX10_count 11 = .ok (.getfield 97, 3) := by decide +kernel
theorem dX10_count_14 : decode cX10_count 14 = .ok (.ifCond .lt 19, 3) := by decide +kernel
theorem dX10_count_17 : decode cX10_count 17 = .ok (.aload_n 0, 1) := by decide +kernel
theorem dX10_count_18 : decode cX10_count 18 = .ok (.getfield 209, 3) := by decide +kernel
theorem dX10_count_21 : decode cX10_count 21 = .ok (.aload_n 0, 1) := by decide +kernel
theorem dX10_count_22 : decode cX10_count 22 = .ok (.getfield 97, 3) := by decide +kernel
theorem dX10_count_25 : decode cX10_count 25 = .ok (.if_icmp .lt 8, 3) := by decide +kernel
theorem dX10_count_28 : decode cX10_count 28 = .ok (.aload_n 0, 1) := by decide +kernel
theorem dX10_count_29 : decode cX10_count 29 = .ok (.iconst 1, 1) := by decide +kernel
theorem dX10_count_30 : decode cX10_count 30 = .ok (.putfield 212, 3) := by decide +kernel
theorem dX10_count_33 : decode cX10_count 33 = .ok (.return_, 1) := by decide +kernel
theorem dX10_put__0 : decode cX10_put_ 0 = .ok (.aload_n 0, 1) := by decide +kernel
theorem dX10_put__1 : decode cX10_put_ 1 = .ok (.getfield 212, 3) := by decide +kernel
theorem dX10_put__4 : decode cX10_put_ 4 = .ok (.ifCond .eq 5, 3) := by decide +kernel
theorem dX10_put__7 : decode cX10_put_ 7 = .ok (.iconst 0, 1) := by decide +kernel
theorem dX10_put__8 : decode cX10_put_ 8 = .ok (.ireturn, 1) := by decide +kernel
theorem dX10_put__9 : decode cX10_put_ 9 = .ok (.iload_n 3, 1) := by decide +kernel
theorem dX10_put__10 : decode cX10_put_ 10 = .ok (.ifCond .lt 23, 3) := by decide +kernel
theorem dX10_put__13 : decode cX10_put_ 13 = .ok (.aload_n 0, 1) := by decide +kernel
theorem dX10_put__14 : decode cX10_put_ 14 = .ok (.iload_n 3, 1) := by decide +kernel
theorem dX10_put__15 : decode cX10_put_ 15 = .ok (.iconst 0, 1) := by decide +kernel
theorem dX10_put__16 : decode cX10_put_ 16 = .ok (.invokevirtual 185, 3) := by decide +kernel
theorem dX10_put__19 : decode cX10_put_ 19 = .ok (.ifCond .eq 14, 3) := by decide +kernel
theorem dX10_put__22 : decode cX10_put_ 22 = .ok (.aload_n 0, 1) := by decide +kernel
theorem dX10_put__23 : decode cX10_put_ 23 = .ok (.iload_n 3, 1) := by decide +kernel
theorem dX10_put__24 : decode cX10_put_ 24 = .ok (.iconst 0, 1) := by decide +kernel
theorem dX10_put__25 : decode cX10_put_ 25 = .ok (.iconst 3, 1) := by decide +kernel
theorem dX10_put__26 : decode cX10_put_ 26 = .ok (.iconst 4, 1) := by decide +kernel
theorem dX10_put__27 : decode cX10_put_ 27 = .ok (.invokevirtual 170, 3) := by decide +kernel
theorem dX10_put__30 : decode cX10_put_ 30 = .ok (.goto 4, 3) := by decide +kernel
theorem dX10_put__33 : decode cX10_put_ 33 = .ok (.lconst 0, 1) := by decide +kernel
theorem dX10_put__34 : decode cX10_put_ 34 = .ok (.lstore 4, 2) := by decide +kernel
theorem dX10_put__36 : decode cX10_put_ 36 = .ok (.aload_n 0, 1) := by decide +kernel
theorem dX10_put__37 : decode cX10_put_ 37 = .ok (.getfield 202, 3) := by decide +kernel
theorem dX10_put__40 : decode cX10_put_ 40 = .ok (.bipush 96, 2) := by decide +kernel
theorem dX10_put__42 : decode cX10_put_ 42 = .ok (.if_icmp .ne 36, 3) := by decide +kernel
theorem dX10_put__45 : decode cX10_put_ 45 = .ok (.aload_n 0, 1) := by decide +kernel
theorem dX10_put__46 : decode cX10_put_ 46 = .ok (.bipush 8, 2) := by decide +kernel
theorem dX10_put__48 : decode cX10_put_ 48 = .ok (.invokevirtual 215, 3) := by decide +kernel
theorem dX10_put__51 : decode cX10_put_ 51 = .ok (.aload_n 0, 1) := by decide +kernel
theorem dX10_put__52 : decode cX10_put_ 52 = .ok (.bipush 30, 2) := by decide +kernel
theorem dX10_put__54 : decode cX10_put_ 54 = .ok (.iconst 2, 1) := by decide +kernel
theorem dX10_put__55 : decode cX10_put_ 55 = .ok (.iconst (-1), 1) := by decide +kernel
theorem dX10_put__56 : decode cX10_put_ 56 = .ok (.lconst 0, 1) := by decide +kernel
theorem dX10_put__57 : decode cX10_put_ 57 = .ok (.invokevirtual 218, 3) := by decide +kernel
theorem dX10_put__60 : decode cX10_put_ 60 = .ok (.aload_n 0, 1) := by decide +kernel
theorem dX10_put__61 : decode cX10_put_ 61 = .ok (.iconst 1, 1) := by decide +kernel
theorem dX10_put__62 : decode cX10_put_ 62 = .ok (.putfield 221, 3) := by decide +kernel
theorem dX10_put__65 : decode cX10_put_ 65 = .ok (.aload_n 0, 1) := by decide +kernel
theorem dX10_put__66 : decode cX10_put_ 66 = .ok (.invokevirtual 224, 3) := by decide +kernel
theorem dX10_put__69 : decode cX10_put_ 69 = .ok (.aload_n 0, 1) := by decide +kernel
theorem dX10_put__70 : decode cX10_put_ 70 = .ok (.getfield 212, 3) := by decide +kernel
theorem dX10_put__73 : decode cX10_put_ 73 = .ok (.ifCond .eq 5, 3) := by decide +kernel
theorem dX10_put__76 : decode cX10_put_ 76 = .ok (.iconst 0, 1) := by decide +kernel
theorem dX10_put__77 : decode cX10_put_ 77 = .ok (.ireturn, 1) := by decide +kernel
theorem dX10_put__78 : decode cX10_put_ 78 = .ok (.aload_n 0, 1) := by decide +kernel
theorem dX10_put__79 : decode cX10_put_ 79 = .ok (.iload_n 1, 1) := by decide +kernel
theorem dX10_put__80 : decode cX10_put_ 80 = .ok (.iload_n 2, 1) := by decide +kernel
theorem dX10_put__81 : decode cX10_put_ 81 = .ok (.iload_n 3, 1) := by decide +kernel
theorem dX10_put__82 : decode cX10_put_ 82 = .ok (.lload 4, 2) := by decide +kernel
theorem dX10_put__84 : decode cX10_put_ 84 = .ok (.invokevirtual 218, 3) := by decide +kernel
theorem dX10_put__87 : decode cX10_put_ 87 = .ok (.aload_n 0, 1) := by decide +kernel
theorem dX10_put__88 : decode cX10_put_ 88 = .ok (.invokevirtual 224, 3) := by decide +kernel
theorem dX10_put__91 : decode cX10_put_ 91 = .ok (.iconst 1, 1) := by decide +kernel
theorem dX10_put__92 : decode cX10_put_ 92 = .ok (.ireturn, 1) := by decide +kernel
theorem dX10_record_0 : decode cX10_record 0 = .ok (.iload_n 1, 1) := by decide +kernel
theorem dX10_record_1 : decode cX10_record 1 = .ok (.ifCond .lt 39, 3) := by decide +kernel
theorem dX10_record_4 : decode cX10_record 4 = .ok (.iload_n 1, 1) := by decide +kernel
theorem dX10_record_5 : decode cX10_record 5 = .ok (.aload_n 0, 1) := by decide +kernel
theorem dX10_record_6 : decode cX10_record 6 = .ok (.getfield 202, 3) := by decide +kernel
theorem dX10_record_9 : decode cX10_record 9 = .ok (.if_icmp .ge 31, 3) := by decide +kernel
theorem dX10_record_12 : decode cX10_record 12 = .ok (.iload_n 2, 1) := by decide +kernel
theorem dX10_record_13 : decode cX10_record 13 = .ok (.ifCond .lt 27, 3) := by decide +kernel
theorem dX10_record_16 : decode cX10_record 16 = .ok (.iload_n 2, 1) := by decide +kernel
theorem dX10_record_17 : decode cX10_record 17 = .ok (.bipush 16, 2) := by decide +kernel
theorem dX10_record_19 : decode cX10_record 19 = .ok (.if_icmp .ge 21, 3) := by decide +kernel
theorem dX10_record_22 : decode cX10_record 22 = .ok (.aload_n 0, 1) := by decide +kernel
theorem dX10_record_23 : decode cX10_record 23 = .ok (.getfield 60, 3) := by decide +kernel
theorem dX10_record_26 : decode cX10_record 26 = .ok (.bipush 16, 2) := by decide +kernel
theorem dX10_record_28 : decode cX10_record 28 = .ok (.iload_n 1, 1) := by decide +kernel
theorem dX10_record_29 : decode cX10_record 29 = .ok (.imul, 1) := by decide +kernel
theorem dX10_record_30 : decode cX10_record 30 = .ok (.iload_n 2, 1) := by decide +kernel
theorem dX10_record_31 : decode cX10_record 31 = .ok (.iadd, 1) := by decide +kernel
theorem dX10_record_32 : decode cX10_record 32 = .ok (.baload, 1) := by decide +kernel
theorem dX10_record_33 : decode cX10_record 33 = .ok (.sipush 255, 3) := by decide +kernel
theorem dX10_record_36 : decode cX10_record 36 = .ok (.iand, 1) := by decide +kernel
theorem dX10_record_37 : decode cX10_record 37 = .ok (.goto 4, 3) := by decide +kernel
theorem dX10_record_40 : decode cX10_record 40 = .ok (.iconst (-1), 1) := by decide +kernel
theorem dX10_record_41 : decode cX10_record 41 = .ok (.ireturn, 1) := by decide +kernel
theorem dX10_poll_0 : decode cX10_poll 0 = .ok (.aload_n 0, 1) := by decide +kernel
theorem dX10_poll_1 : decode cX10_poll 1 = .ok (.iconst 0, 1) := by decide +kernel
theorem dX10_poll_2 : decode cX10_poll 2 = .ok (.putfield 209, 3) := by decide +kernel
theorem dX10_poll_5 : decode cX10_poll 5 = .ok (.aload_n 0, 1) := by decide +kernel
theorem dX10_poll_6 : decode cX10_poll 6 = .ok (.aload_n 0, 1) := by decide +kernel
theorem dX10_poll_7 : decode cX10_poll 7 = .ok (.getfield 97, 3) := by decide +kernel
theorem dX10_poll_10 : decode cX10_poll 10 = .ok (.ifCond .ne 7, 3) := by decide +kernel
theorem dX10_poll_13 : decode cX10_poll 13 = .ok (.iconst 1, 1) := by decide +kernel
theorem dX10_poll_14 : decode cX10_poll 14 = .ok (.goto 4, 3) := by decide +kernel
theorem dX10_poll_17 : decode cX10_poll 17 = .ok (.iconst 0, 1) := by decide +kernel
theorem dX10_poll_18 : decode cX10_poll 18 = .ok (.putfield 212, 3) := by decide +kernel
theorem dX10_poll_21 : decode cX10_poll 21 = .ok (.aload_n 0, 1) := by decide +kernel
theorem dX10_poll_22 : decode cX10_poll 22 = .ok (.getfield 227, 3) := by decide +kernel
theorem dX10_poll_25 : decode cX10_poll 25 = .ok (.bipush 7, 2) := by decide +kernel
theorem dX10_poll_27 : decode cX10_poll 27 = .ok (.if_icmp .eq 7, 3) := by decide +kernel
theorem dX10_poll_30 : decode cX10_poll 30 = .ok (.aload_n 0, 1) := by decide +kernel
theorem dX10_poll_31 : decode cX10_poll 31 = .ok (.invokevirtual 230, 3) := by decide +kernel
theorem dX10_poll_34 : decode cX10_poll 34 = .ok (.aload_n 0, 1) := by decide +kernel
theorem dX10_poll_35 : decode cX10_poll 35 = .ok (.getfield 97, 3) := by decide +kernel
theorem dX10_poll_38 : decode cX10_poll 38 = .ok (.ifCond .lt 7, 3) := by decide +kernel
theorem dX10_poll_41 : decode cX10_poll 41 = .ok (.iconst 1, 1) := by decide +kernel
theorem dX10_poll_42 : decode cX10_poll 42 = .ok (.goto 4, 3) := by decide +kernel
theorem dX10_poll_45 : decode cX10_poll 45 = .ok (.iconst 0, 1) := by decide +kernel
theorem dX10_poll_46 : decode cX10_poll 46 = .ok (.istore_n 1, 1) := by decide +kernel
theorem dX10_poll_47 : decode cX10_poll 47 = .ok (.aload_n 0, 1) := by decide +kernel
theorem dX10_poll_48 : decode cX10_poll 48 = .ok (.iconst (-1), 1) := by decide +kernel
theorem dX10_poll_49 : decode cX10_poll 49 = .ok (.putfield 97, 3) := by decide +kernel
theorem dX10_poll_52 : decode cX10_poll 52 = .ok (.aload_n 0, 1) := by decide +kernel
theorem dX10_poll_53 : decode cX10_poll 53 = .ok (.iconst 0, 1) := by decide +kernel
theorem dX10_poll_54 : decode cX10_poll 54 = .ok (.putfield 212, 3) := by decide +kernel
theorem dX10_poll_57 : decode cX10_poll 57 = .ok (.aload_n 0, 1) := by decide +kernel
theorem dX10_poll_58 : decode cX10_poll 58 = .ok (.getfield 209, 3) := by decide +kernel
theorem dX10_poll_61 : decode cX10_poll 61 = .ok (.istore_n 2, 1) := by decide +kernel
theorem dX10_poll_62 : decode cX10_poll 62 = .ok (.iload_n 1, 1) := by decide +kernel
theorem dX10_poll_63 : decode cX10_poll 63 = .ok (.ifCond .eq 12, 3) := by decide +kernel
theorem dX10_poll_66 : decode cX10_poll 66 = .ok (.aload_n 0, 1) := by decide +kernel
theorem dX10_poll_67 : decode cX10_poll 67 = .ok (.invokevirtual 233, 3) := by decide +kernel
theorem dX10_poll_70 : decode cX10_poll 70 = .ok (.bipush (-2), 2) := by decide +kernel
theorem dX10_poll_72 : decode cX10_poll 72 = .ok (.iload_n 2, 1) := by decide +kernel
theorem dX10_poll_73 : decode cX10_poll 73 = .ok (.isub, 1) := by decide +kernel
theorem dX10_poll_74 : decode cX10_poll 74 = .ok (.ireturn, 1) := by decide +kernel
theorem dX10_poll_75 : decode cX10_poll 75 = .ok (.iload_n 2, 1) := by decide +kernel
theorem dX10_poll_76 : decode cX10_poll 76 = .ok (.ireturn, 1) := by decide +kernel
theorem dX10_look_0 : decode cX10_look 0 = .ok (.aload_n 0, 1) := by decide +kernel
theorem dX10_look_1 : decode cX10_look 1 = .ok (.getfield 236, 3) := by decide +kernel
theorem dX10_look_4 : decode cX10_look 4 = .ok (.aload_n 0, 1) := by decide +kernel
theorem dX10_look_5 : decode cX10_look 5 = .ok (.getfield 193, 3) := by decide +kernel
theorem dX10_look_8 : decode cX10_look 8 = .ok (.if_icmp .eq 32, 3) := by decide +kernel
theorem dX10_look_11 : decode cX10_look 11 = .ok (.aload_n 0, 1) := by decide +kernel
theorem dX10_look_12 : decode cX10_look 12 = .ok (.aload_n 0, 1) := by decide +kernel
theorem dX10_look_13 : decode cX10_look 13 = .ok (.getfield 193, 3) := by decide +kernel
theorem dX10_look_16 : decode cX10_look 16 = .ok (.putfield 236, 3) := by decide +kernel
theorem dX10_look_19 : decode cX10_look 19 = .ok (.aload_n 0, 1) := by decide +kernel
theorem dX10_look_20 : decode cX10_look 20 = .ok (.aload_n 0, 1) := by decide +kernel
theorem dX10_look_21 : decode cX10_look 21 = .ok (.getfield 193, 3) := by decide +kernel
theorem dX10_look_24 : decode cX10_look 24 = .ok (.ifCond .eq 8, 3) := by decide +kernel
theorem dX10_look_27 : decode cX10_look 27 = .ok (.bipush 20, 2) := by decide +kernel
theorem dX10_look_29 : decode cX10_look 29 = .ok (.goto 5, 3) := by decide +kernel
theorem dX10_look_32 : decode cX10_look 32 = .ok (.bipush 21, 2) := by decide +kernel
theorem dX10_look_34 : decode cX10_look 34 = .ok (.iconst 0, 1) := by decide +kernel
theorem dX10_look_35 : decode cX10_look 35 = .ok (.iconst (-1), 1) := by decide +kernel
theorem dX10_look_36 : decode cX10_look 36 = .ok (.invokevirtual 239, 3) := by decide +kernel
theorem dX10_look_39 : decode cX10_look 39 = .ok (.pop, 1) := by decide +kernel
theorem dX10_look_40 : decode cX10_look 40 = .ok (.aload_n 0, 1) := by decide +kernel
theorem dX10_look_41 : decode cX10_look 41 = .ok (.invokevirtual 243, 3) := by decide +kernel
theorem dX10_look_44 : decode cX10_look 44 = .ok (.aload_n 0, 1) := by decide +kernel
theorem dX10_look_45 : decode cX10_look 45 = .ok (.getfield 227, 3) := by decide +kernel
theorem dX10_look_48 : decode cX10_look 48 = .ok (.iconst 1, 1) := by decide +kernel
theorem dX10_look_49 : decode cX10_look 49 = .ok (.if_icmp .le 7, 3) := by decide +kernel
theorem dX10_look_52 : decode cX10_look 52 = .ok (.iconst 1, 1) := by decide +kernel
theorem dX10_look_53 : decode cX10_look 53 = .ok (.goto 4, 3) := by decide +kernel
theorem dX10_look_56 : decode cX10_look 56 = .ok (.iconst 0, 1) := by decide +kernel
theorem dX10_look_57 : decode cX10_look 57 = .ok (.istore_n 1, 1) := by decide +kernel
theorem dX10_look_58 : decode cX10_look 58 = .ok (.iconst 0, 1) := by decide +kernel
theorem dX10_look_59 : decode cX10_look 59 = .ok (.istore_n 2, 1) := by decide +kernel
theorem dX10_look_60 : decode cX10_look 60 = .ok (.aload_n 0, 1) := by decide +kernel
theorem dX10_look_61 : decode cX10_look 61 = .ok (.getfield 212, 3) := by decide +kernel
theorem dX10_look_64 : decode cX10_look 64 = .ok (.ifCond .ne 49, 3) := by decide +kernel
theorem dX10_look_67 : decode cX10_look 67 = .ok (.iload_n 1, 1) := by decide +kernel
theorem dX10_look_68 : decode cX10_look 68 = .ok (.ifCond .eq 27, 3) := by decide +kernel
theorem dX10_look_71 : decode cX10_look 71 = .ok (.aload_n 0, 1) := by decide +kernel
theorem dX10_look_72 : decode cX10_look 72 = .ok (.getfield 246, 3) := by decide +kernel
theorem dX10_look_75 : decode cX10_look 75 = .ok (.ifCond .eq 20, 3) := by decide +kernel
theorem dX10_look_78 : decode cX10_look 78 = .ok (.aload_n 0, 1) := by decide +kernel
theorem dX10_look_79 : decode cX10_look 79 = .ok (.invokevirtual 249, 3) := by decide +kernel
theorem dX10_look_82 : decode cX10_look 82 = .ok (.istore_n 2, 1) := by decide +kernel
theorem dX10_look_83 : decode cX10_look 83 = .ok (.iload_n 2, 1) := by decide +kernel
theorem dX10_look_84 : decode cX10_look 84 = .ok (.ifCond .ne 29, 3) := by decide +kernel
theorem dX10_look_87 : decode cX10_look 87 = .ok (.aload_n 0, 1) := by decide +kernel
theorem dX10_look_88 : decode cX10_look 88 = .ok (.invokevirtual 253, 3) := by decide +kernel
theorem dX10_look_91 : decode cX10_look 91 = .ok (.pop, 1) := by decide +kernel
theorem dX10_look_92 : decode cX10_look 92 = .ok (.goto 21, 3) := by decide +kernel
theorem dX10_look_95 : decode cX10_look 95 = .ok (.aload_n 0, 1) := by decide +kernel
theorem dX10_look_96 : decode cX10_look 96 = .ok (.invokevirtual 253, 3) := by decide +kernel
theorem dX10_look_99 : decode cX10_look 99 = .ok (.istore_n 2, 1) := by decide +kernel
theorem dX10_look_100 : decode cX10_look 100 = .ok (.iload_n 2, 1) := by decide +kernel
theorem dX10_look_101 : decode cX10_look 101 = .ok (.ifCond .ne 12, 3) := by decide +kernel
theorem dX10_look_104 : decode cX10_look 104 = .ok (.iload_n 1, 1) := by decide +kernel
theorem dX10_look_105 : decode cX10_look 105 = .ok (.ifCond .eq 8, 3) := by decide +kernel
theorem dX10_look_108 : decode cX10_look 108 = .ok (.aload_n 0, 1) := by decide +kernel
theorem dX10_look_109 : decode cX10_look 109 = .ok (.invokevirtual 249, 3) := by decide +kernel
theorem dX10_look_112 : decode cX10_look 112 = .ok (.pop, 1) := by decide +kernel
theorem dX10_look_113 : decode cX10_look 113 = .ok (.aload_n 0, 1) := by decide +kernel
theorem dX10_look_114 : decode cX10_look 114 = .ok (.invokevirtual 243, 3) := by decide +kernel
theorem dX10_look_117 : decode cX10_look 117 = .ok (.return_, 1) := by decide +kernel
theorem dX10_latch_0 : decode cX10_latch 0 = .ok (.aload_n 0, 1) := by decide +kernel
theorem dX10_latch_1 : decode cX10_latch 1 = .ok (.getfield 212, 3) := by decide +kernel
theorem dX10_latch_4 : decode cX10_latch 4 = .ok (.ifCond .eq 4, 3) := by decide +kernel
theorem dX10_latch_7 : decode cX10_latch 7 = .ok (.return_, 1) := by decide +kernel
theorem dX10_latch_8 : decode cX10_latch 8 = .ok (.aload_n 0, 1) := by decide +kernel
theorem dX10_latch_9 : decode cX10_latch 9 = .ok (.getfield 256, 3) := by decide +kernel
theorem dX10_latch_12 : decode cX10_latch 12 = .ok (.ifCond .eq 36, 3) := by decide +kernel
theorem dX10_latch_15 : decode cX10_latch 15 = .ok (.aload_n 0, 1) := by decide +kernel
theorem dX10_latch_16 : decode cX10_latch 16 = .ok (.getfield 182, 3) := by decide +kernel
theorem dX10_latch_19 : decode cX10_latch 19 = .ok (.aload_n 0, 1) := by decide +kernel
theorem dX10_latch_20 : decode cX10_latch 20 = .ok (.getfield 259, 3) := by decide +kernel
theorem dX10_latch_23 : decode cX10_latch 23 = .ok (.lcmp, 1) := by decide +kernel
theorem dX10_latch_24 : decode cX10_latch 24 = .ok (.ifCond .lt 24, 3) := by decide +kernel
theorem dX10_latch_27 : decode cX10_latch 27 = .ok (.aload_n 0, 1) := by decide +kernel
theorem dX10_latch_28 : decode cX10_latch 28 = .ok (.bipush 23, 2) := by decide +kernel
theorem dX10_latch_30 : decode cX10_latch 30 = .ok (.iconst 0, 1) := by decide +kernel
theorem dX10_latch_31 : decode cX10_latch 31 = .ok (.iconst (-1), 1) := by decide +kernel
theorem dX10_latch_32 : decode cX10_latch 32 = .ok (.invokevirtual 239, 3) := by decide +kernel
theorem dX10_latch_35 : decode cX10_latch 35 = .ok (.pop, 1) := by decide +kernel
theorem dX10_latch_36 : decode cX10_latch 36 = .ok (.aload_n 0, 1) := by decide +kernel
theorem dX10_latch_37 : decode cX10_latch 37 = .ok (.invokevirtual 262, 3) := by decide +kernel
theorem dX10_latch_40 : decode cX10_latch 40 = .ok (.aload_n 0, 1) := by decide +kernel
theorem dX10_latch_41 : decode cX10_latch 41 = .ok (.getfield 212, 3) := by decide +kernel
theorem dX10_latch_44 : decode cX10_latch 44 = .ok (.ifCond .eq 4, 3) := by decide +kernel
theorem dX10_latch_47 : decode cX10_latch 47 = .ok (.return_, 1) := by decide +kernel
theorem dX10_latch_48 : decode cX10_latch 48 = .ok (.aload_n 0, 1) := by decide +kernel
theorem dX10_latch_49 : decode cX10_latch 49 = .ok (.getfield 193, 3) := by decide +kernel
theorem dX10_latch_52 : decode cX10_latch 52 = .ok (.ifCond .eq 26, 3) := by decide +kernel
theorem dX10_latch_55 : decode cX10_latch 55 = .ok (.aload_n 0, 1) := by decide +kernel
theorem dX10_latch_56 : decode cX10_latch 56 = .ok (.getfield 256, 3) := by decide +kernel
theorem dX10_latch_59 : decode cX10_latch 59 = .ok (.ifCond .ne 19, 3) := by decide +kernel
theorem dX10_latch_62 : decode cX10_latch 62 = .ok (.aload_n 0, 1) := by decide +kernel
theorem dX10_latch_63 : decode cX10_latch 63 = .ok (.getfield 182, 3) := by decide +kernel
theorem dX10_latch_66 : decode cX10_latch 66 = .ok (.aload_n 0, 1) := by decide +kernel
theorem dX10_latch_67 : decode cX10_latch 67 = .ok (.getfield 265, 3) := by decide +kernel
theorem dX10_latch_70 : decode cX10_latch 70 = .ok (.lcmp, 1) := by decide +kernel
theorem dX10_latch_71 : decode cX10_latch 71 = .ok (.ifCond .lt 7, 3) := by decide +kernel
theorem dX10_latch_74 : decode cX10_latch 74 = .ok (.iconst 1, 1) := by decide +kernel
theorem dX10_latch_75 : decode cX10_latch 75 = .ok (.goto 4, 3) := by decide +kernel
theorem dX10_latch_78 : decode cX10_latch 78 = .ok (.iconst 0, 1) := by decide +kernel
theorem dX10_latch_79 : decode cX10_latch 79 = .ok (.istore_n 1, 1) := by decide +kernel
theorem dX10_latch_80 : decode cX10_latch 80 = .ok (.iload_n 1, 1) := by decide +kernel
theorem dX10_latch_81 : decode cX10_latch 81 = .ok (.aload_n 0, 1) := by decide +kernel
theorem dX10_latch_82 : decode cX10_latch 82 = .ok (.getfield 268, 3) := by decide +kernel
theorem dX10_latch_85 : decode cX10_latch 85 = .ok (.if_icmp .eq 36, 3) := by decide +kernel
theorem dX10_latch_88 : decode cX10_latch 88 = .ok (.aload_n 0, 1) := by decide +kernel
theorem dX10_latch_89 : decode cX10_latch 89 = .ok (.iload_n 1, 1) := by decide +kernel
theorem dX10_latch_90 : decode cX10_latch 90 = .ok (.ifCond .eq 8, 3) := by decide +kernel
theorem dX10_latch_93 : decode cX10_latch 93 = .ok (.bipush 24, 2) := by decide +kernel
theorem dX10_latch_95 : decode cX10_latch 95 = .ok (.goto 5, 3) := by decide +kernel
theorem dX10_latch_98 : decode cX10_latch 98 = .ok (.bipush 25, 2) := by decide +kernel
theorem dX10_latch_100 : decode cX10_latch 100 = .ok (.iload_n 1, 1) := by decide +kernel
theorem dX10_latch_101 : decode cX10_latch 101 = .ok (.ifCond .eq 7, 3) := by decide +kernel
theorem dX10_latch_104 : decode cX10_latch 104 = .ok (.iconst 2, 1) := by decide +kernel
theorem dX10_latch_105 : decode cX10_latch 105 = .ok (.goto 4, 3) := by decide +kernel
theorem dX10_latch_108 : decode cX10_latch 108 = .ok (.iconst 0, 1) := by decide +kernel
theorem dX10_latch_109 : decode cX10_latch 109 = .ok (.iconst (-1), 1) := by decide +kernel
theorem dX10_latch_110 : decode cX10_latch 110 = .ok (.invokevirtual 239, 3) := by decide +kernel
theorem dX10_latch_113 : decode cX10_latch 113 = .ok (.ifCond .eq 8, 3) := by decide +kernel
theorem dX10_latch_116 : decode cX10_latch 116 = .ok (.aload_n 0, 1) := by decide +kernel
theorem dX10_latch_117 : decode cX10_latch 117 = .ok (.iload_n 1, 1) := by decide +kernel
theorem dX10_latch_118 : decode cX10_latch 118 = .ok (.putfield 268, 3) := by decide +kernel
theorem dX10_latch_121 : decode cX10_latch 121 = .ok (.return_, 1) := by decide +kernel
theorem dX10_locks_0 : decode cX10_locks 0 = .ok (.aload_n 0, 1) := by decide +kernel
theorem dX10_locks_1 : decode cX10_locks 1 = .ok (.iconst 0, 1) := by decide +kernel
theorem dX10_locks_2 : decode cX10_locks 2 = .ok (.putfield 256, 3) := by decide +kernel
theorem dX10_locks_5 : decode cX10_locks 5 = .ok (.aload_n 0, 1) := by decide +kernel
theorem dX10_locks_6 : decode cX10_locks 6 = .ok (.aload_n 0, 1) := by decide +kernel
theorem dX10_locks_7 : decode cX10_locks 7 = .ok (.getfield 271, 3) := by decide +kernel
theorem dX10_locks_10 : decode cX10_locks 10 = .ok (.bipush 7, 2) := by decide +kernel
theorem dX10_locks_12 : decode cX10_locks 12 = .ok (.if_icmp .ne 7, 3) := by decide +kernel
theorem dX10_locks_15 : decode cX10_locks 15 = .ok (.iconst 1, 1) := by decide +kernel
theorem dX10_locks_16 : decode cX10_locks 16 = .ok (.goto 7, 3) := by decide +kernel
theorem dX10_locks_19 : decode cX10_locks 19 = .ok (.aload_n 0, 1) := by decide +kernel
theorem dX10_locks_20 : decode cX10_locks 20 = .ok (.getfield 271, 3) := by decide +kernel
theorem dX10_locks_23 : decode cX10_locks 23 = .ok (.putfield 271, 3) := by decide +kernel
theorem dX10_locks_26 : decode cX10_locks 26 = .ok (.return_, 1) := by decide +kernel
theorem dX10_opens_0 : decode cX10_opens 0 = .ok (.aload_n 0, 1) := by decide +kernel
theorem dX10_opens_1 : decode cX10_opens 1 = .ok (.iconst 1, 1) := by decide +kernel
theorem dX10_opens_2 : decode cX10_opens 2 = .ok (.putfield 256, 3) := by decide +kernel
theorem dX10_opens_5 : decode cX10_opens 5 = .ok (.aload_n 0, 1) := by decide +kernel
theorem dX10_opens_6 : decode cX10_opens 6 = .ok (.aload_n 0, 1) := by decide +kernel
theorem dX10_opens_7 : decode cX10_opens 7 = .ok (.getfield 182, 3) := by decide +kernel
theorem dX10_opens_10 : decode cX10_opens 10 = .ok (.aload_n 0, 1) := by decide +kernel
theorem dX10_opens_11 : decode cX10_opens 11 = .ok (.getfield 63, 3) := by decide +kernel
theorem dX10_opens_14 : decode cX10_opens 14 = .ok (.iconst 0, 1) := by decide +kernel
theorem dX10_opens_15 : decode cX10_opens 15 = .ok (.iaload, 1) := by decide +kernel
theorem dX10_opens_16 : decode cX10_opens 16 = .ok (.i2l, 1) := by decide +kernel
theorem dX10_opens_17 : decode cX10_opens 17 = .ok (.ladd, 1) := by decide +kernel
theorem dX10_opens_18 : decode cX10_opens 18 = .ok (.putfield 259, 3) := by decide +kernel
theorem dX10_opens_21 : decode cX10_opens 21 = .ok (.aload_n 0, 1) := by decide +kernel
theorem dX10_opens_22 : decode cX10_opens 22 = .ok (.aload_n 0, 1) := by decide +kernel
theorem dX10_opens_23 : decode cX10_opens 23 = .ok (.getfield 259, 3) := by decide +kernel
theorem dX10_opens_26 : decode cX10_opens 26 = .ok (.aload_n 0, 1) := by decide +kernel
theorem dX10_opens_27 : decode cX10_opens 27 = .ok (.getfield 63, 3) := by decide +kernel
theorem dX10_opens_30 : decode cX10_opens 30 = .ok (.iconst 1, 1) := by decide +kernel
theorem dX10_opens_31 : decode cX10_opens 31 = .ok (.iaload, 1) := by decide +kernel
theorem dX10_opens_32 : decode cX10_opens 32 = .ok (.i2l, 1) := by decide +kernel
theorem dX10_opens_33 : decode cX10_opens 33 = .ok (.ladd, 1) := by decide +kernel
theorem dX10_opens_34 : decode cX10_opens 34 = .ok (.putfield 265, 3) := by decide +kernel
theorem dX10_opens_37 : decode cX10_opens 37 = .ok (.aload_n 0, 1) := by decide +kernel
theorem dX10_opens_38 : decode cX10_opens 38 = .ok (.bipush 7, 2) := by decide +kernel
theorem dX10_opens_40 : decode cX10_opens 40 = .ok (.putfield 271, 3) := by decide +kernel
theorem dX10_opens_43 : decode cX10_opens 43 = .ok (.return_, 1) := by decide +kernel
theorem dX10_starts_0 : decode cX10_starts 0 = .ok (.aload_n 0, 1) := by decide +kernel
theorem dX10_starts_1 : decode cX10_starts 1 = .ok (.getfield 227, 3) := by decide +kernel
theorem dX10_starts_4 : decode cX10_starts 4 = .ok (.iconst 1, 1) := by decide +kernel
theorem dX10_starts_5 : decode cX10_starts 5 = .ok (.if_icmp .le 7, 3) := by decide +kernel
theorem dX10_starts_8 : decode cX10_starts 8 = .ok (.iconst 1, 1) := by decide +kernel
theorem dX10_starts_9 : decode cX10_starts 9 = .ok (.goto 4, 3) := by decide +kernel
theorem dX10_starts_12 : decode cX10_starts 12 = .ok (.iconst 0, 1) := by decide +kernel
theorem dX10_starts_13 : decode cX10_starts 13 = .ok (.istore_n 1, 1) := by decide +kernel
theorem dX10_starts_14 : decode cX10_starts 14 = .ok (.aload_n 0, 1) := by decide +kernel
theorem dX10_starts_15 : decode cX10_starts 15 = .ok (.iconst 0, 1) := by decide +kernel
theorem dX10_starts_16 : decode cX10_starts 16 = .ok (.putfield 209, 3) := by decide +kernel
theorem dX10_starts_19 : decode cX10_starts 19 = .ok (.iload_n 1, 1) := by decide +kernel
theorem dX10_starts_20 : decode cX10_starts 20 = .ok (.ifCond .eq 12, 3) := by decide +kernel
theorem dX10_starts_23 : decode cX10_starts 23 = .ok (.aload_n 0, 1) := by decide +kernel
theorem dX10_starts_24 : decode cX10_starts 24 = .ok (.bipush 70, 2) := by decide +kernel
theorem dX10_starts_26 : decode cX10_starts 26 = .ok (.iconst 1, 1) := by decide +kernel
theorem dX10_starts_27 : decode cX10_starts 27 = .ok (.iconst (-1), 1) := by decide +kernel
theorem dX10_starts_28 : decode cX10_starts 28 = .ok (.invokevirtual 239, 3) := by decide +kernel
theorem dX10_starts_31 : decode cX10_starts 31 = .ok (.pop, 1) := by decide +kernel
theorem dX10_starts_32 : decode cX10_starts 32 = .ok (.aload_n 0, 1) := by decide +kernel
theorem dX10_starts_33 : decode cX10_starts 33 = .ok (.iconst 0, 1) := by decide +kernel
theorem dX10_starts_34 : decode cX10_starts 34 = .ok (.putfield 256, 3) := by decide +kernel
theorem dX10_starts_37 : decode cX10_starts 37 = .ok (.aload_n 0, 1) := by decide +kernel
theorem dX10_starts_38 : decode cX10_starts 38 = .ok (.iconst 0, 1) := by decide +kernel
theorem dX10_starts_39 : decode cX10_starts 39 = .ok (.putfield 268, 3) := by decide +kernel
theorem dX10_starts_42 : decode cX10_starts 42 = .ok (.aload_n 0, 1) := by decide +kernel
theorem dX10_starts_43 : decode cX10_starts 43 = .ok (.aload_n 0, 1) := by decide +kernel
theorem dX10_starts_44 : decode cX10_starts 44 = .ok (.getfield 182, 3) := by decide +kernel
theorem dX10_starts_47 : decode cX10_starts 47 = .ok (.putfield 265, 3) := by decide +kernel
theorem dX10_starts_50 : decode cX10_starts 50 = .ok (.aload_n 0, 1) := by decide +kernel
theorem dX10_starts_51 : decode cX10_starts 51 = .ok (.aload_n 0, 1) := by decide +kernel
theorem dX10_starts_52 : decode cX10_starts 52 = .ok (.getfield 182, 3) := by decide +kernel
theorem dX10_starts_55 : decode cX10_starts 55 = .ok (.putfield 259, 3) := by decide +kernel
theorem dX10_starts_58 : decode cX10_starts 58 = .ok (.aload_n 0, 1) := by decide +kernel
theorem dX10_starts_59 : decode cX10_starts 59 = .ok (.iconst 0, 1) := by decide +kernel
theorem dX10_starts_60 : decode cX10_starts 60 = .ok (.putfield 246, 3) := by decide +kernel
theorem dX10_starts_63 : decode cX10_starts 63 = .ok (.aload_n 0, 1) := by decide +kernel
theorem dX10_starts_64 : decode cX10_starts 64 = .ok (.iconst (-1), 1) := by decide +kernel
theorem dX10_starts_65 : decode cX10_starts 65 = .ok (.putfield 91, 3) := by decide +kernel
theorem dX10_starts_68 : decode cX10_starts 68 = .ok (.aload_n 0, 1) := by decide +kernel
theorem dX10_starts_69 : decode cX10_starts 69 = .ok (.iload_n 1, 1) := by decide +kernel
theorem dX10_starts_70 : decode cX10_starts 70 = .ok (.ifCond .eq 7, 3) := by decide +kernel
theorem dX10_starts_73 : decode cX10_starts 73 = .ok (.iconst 1, 1) := by decide +kernel
theorem dX10_starts_74 : decode cX10_starts 74 = .ok (.goto 4, 3) := by decide +kernel
theorem dX10_starts_77 : decode cX10_starts 77 = .ok (.iconst 0, 1) := by decide +kernel
theorem dX10_starts_78 : decode cX10_starts 78 = .ok (.putfield 271, 3) := by decide +kernel
theorem dX10_starts_81 : decode cX10_starts 81 = .ok (.aload_n 0, 1) := by decide +kernel
theorem dX10_starts_82 : decode cX10_starts 82 = .ok (.iload_n 1, 1) := by decide +kernel
theorem dX10_starts_83 : decode cX10_starts 83 = .ok (.ifCond .eq 7, 3) := by decide +kernel
theorem dX10_starts_86 : decode cX10_starts 86 = .ok (.iconst 2, 1) := by decide +kernel
theorem dX10_starts_87 : decode cX10_starts 87 = .ok (.goto 4, 3) := by decide +kernel
theorem dX10_starts_90 : decode cX10_starts 90 = .ok (.iconst 0, 1) := by decide +kernel
theorem dX10_starts_91 : decode cX10_starts 91 = .ok (.putfield 227, 3) := by decide +kernel
theorem dX10_starts_94 : decode cX10_starts 94 = .ok (.aload_n 0, 1) := by decide +kernel
theorem dX10_starts_95 : decode cX10_starts 95 = .ok (.iload_n 1, 1) := by decide +kernel
theorem dX10_starts_96 : decode cX10_starts 96 = .ok (.ifCond .eq 7, 3) := by decide +kernel
theorem dX10_starts_99 : decode cX10_starts 99 = .ok (.iconst 1, 1) := by decide +kernel
theorem dX10_starts_100 : decode cX10_starts 100 = .ok (.goto 5, 3) := by decide +kernel
theorem dX10_starts_103 : decode cX10_starts 103 = .ok (.bipush 8, 2) := by decide +kernel
theorem dX10_starts_105 : decode cX10_starts 105 = .ok (.putfield 82, 3) := by decide +kernel
theorem dX10_starts_108 : decode cX10_starts 108 = .ok (.aload_n 0, 1) := by decide +kernel
theorem dX10_starts_109 : decode cX10_starts 109 = .ok (.iconst (-1), 1) := by decide +kernel
theorem dX10_starts_110 : decode cX10_starts 110 = .ok (.putfield 94, 3) := by decide +kernel
theorem dX10_starts_113 : decode cX10_starts 113 = .ok (.aload_n 0, 1) := by decide +kernel
theorem dX10_starts_114 : decode cX10_starts 114 = .ok (.iconst (-1), 1) := by decide +kernel
theorem dX10_starts_115 : decode cX10_starts 115 = .ok (.putfield 85, 3) := by decide +kernel
theorem dX10_starts_118 : decode cX10_starts 118 = .ok (.aload_n 0, 1) := by decide +kernel
theorem dX10_starts_119 : decode cX10_starts 119 = .ok (.iconst 0, 1) := by decide +kernel
theorem dX10_starts_120 : decode cX10_starts 120 = .ok (.putfield 274, 3) := by decide +kernel
theorem dX10_starts_123 : decode cX10_starts 123 = .ok (.aload_n 0, 1) := by decide +kernel
theorem dX10_starts_124 : decode cX10_starts 124 = .ok (.aload_n 0, 1) := by decide +kernel
theorem dX10_starts_125 : decode cX10_starts 125 = .ok (.getfield 193, 3) := by decide +kernel
theorem dX10_starts_128 : decode cX10_starts 128 = .ok (.putfield 236, 3) := by decide +kernel
theorem dX10_starts_131 : decode cX10_starts 131 = .ok (.return_, 1) := by decide +kernel
theorem dX10_outsideTo_0 : decode cX10_outsideTo 0 = .ok (.aload_n 0, 1) := by decide +kernel
theorem dX10_outsideTo_1 : decode cX10_outsideTo 1 = .ok (.iload_n 1, 1) := by decide +kernel
theorem dX10_outsideTo_2 : decode cX10_outsideTo 2 = .ok (.putfield 246, 3) := by decide +kernel
theorem dX10_outsideTo_5 : decode cX10_outsideTo 5 = .ok (.aload_n 0, 1) := by decide +kernel
theorem dX10_outsideTo_6 : decode cX10_outsideTo 6 = .ok (.iload_n 2, 1) := by decide +kernel
theorem dX10_outsideTo_7 : decode cX10_outsideTo 7 = .ok (.putfield 271, 3) := by decide +kernel
theorem dX10_outsideTo_10 : decode cX10_outsideTo 10 = .ok (.return_, 1) := by decide +kernel
theorem dX10_actOutside_0 : decode cX10_actOutside 0 = .ok (.aload_n 0, 1) := by decide +kernel
theorem dX10_actOutside_1 : decode cX10_actOutside 1 = .ok (.getfield 246, 3) := by decide +kernel
theorem dX10_actOutside_4 : decode cX10_actOutside 4 = .ok (.ifCond .ne 10, 3) := by decide +kernel
theorem dX10_actOutside_7 : decode cX10_actOutside 7 = .ok (.aload_n 0, 1) := by decide +kernel
theorem dX10_actOutside_8 : decode cX10_actOutside 8 = .ok (.getfield 69, 3) := by decide +kernel
theorem dX10_actOutside_11 : decode cX10_actOutside 11 = .ok (.goto 7, 3) := by decide +kernel
theorem dX10_actOutside_14 : decode cX10_actOutside 14 = .ok (.aload_n 0, 1) := by decide +kernel
theorem dX10_actOutside_15 : decode cX10_actOutside 15 = .ok (.getfield 91, 3) := by decide +kernel
theorem dX10_actOutside_18 : decode cX10_actOutside 18 = .ok (.istore_n 1, 1) := by decide +kernel
theorem dX10_actOutside_19 : decode cX10_actOutside 19 = .ok (.aload_n 0, 1) := by decide +kernel
theorem dX10_actOutside_20 : decode cX10_actOutside 20 = .ok (.getfield 246, 3) := by decide +kernel
theorem dX10_actOutside_23 : decode cX10_actOutside 23 = .ok (.iconst 1, 1) := by decide +kernel
theorem dX10_actOutside_24 : decode cX10_actOutside 24 = .ok (.if_icmp .lt 37, 3) := by decide +kernel
theorem dX10_actOutside_27 : decode cX10_actOutside 27 = .ok (.aload_n 0, 1) := by decide +kernel
theorem dX10_actOutside_28 : decode cX10_actOutside 28 = .ok (.getfield 246, 3) := by decide +kernel
theorem dX10_actOutside_31 : decode cX10_actOutside 31 = .ok (.iconst 5, 1) := by decide +kernel
theorem dX10_actOutside_32 : decode cX10_actOutside 32 = .ok (.if_icmp .gt 29, 3) := by decide +kernel
theorem dX10_actOutside_35 : decode cX10_actOutside 35 = .ok (.aload_n 0, 1) := by decide +kernel
theorem dX10_actOutside_36 : decode cX10_actOutside 36 = .ok (.getfield 69, 3) := by decide +kernel
theorem dX10_actOutside_39 : decode cX10_actOutside 39 = .ok (.iload_n 1, 1) := by decide +kernel
theorem dX10_actOutside_40 : decode cX10_actOutside 40 = .ok (.if_icmp .eq 21, 3) := by decide +kernel
theorem dX10_actOutside_43 : decode cX10_actOutside 43 = .ok (.aload_n 0, 1) := by decide +kernel
theorem dX10_actOutside_44 : decode cX10_actOutside 44 = .ok (.iconst 1, 1) := by decide +kernel
theorem dX10_actOutside_45 : decode cX10_actOutside 45 = .ok (.iconst 1, 1) := by decide +kernel
theorem dX10_actOutside_46 : decode cX10_actOutside 46 = .ok (.iload_n 1, 1) := by decide +kernel
theorem dX10_actOutside_47 : decode cX10_actOutside 47 = .ok (.invokevirtual 239, 3) := by decide +kernel
theorem dX10_actOutside_50 : decode cX10_actOutside 50 = .ok (.ifCond .eq 9, 3) := by decide +kernel
theorem dX10_actOutside_53 : decode cX10_actOutside 53 = .ok (.aload_n 0, 1) := by decide +kernel
theorem dX10_actOutside_54 : decode cX10_actOutside 54 = .ok (.iconst 0, 1) := by decide +kernel
theorem dX10_actOutside_55 : decode cX10_actOutside 55 = .ok (.iconst 1, 1) := by decide +kernel
theorem dX10_actOutside_56 : decode cX10_actOutside 56 = .ok (.invokevirtual 277, 3) := by decide +kernel
theorem dX10_actOutside_59 : decode cX10_actOutside 59 = .ok (.iconst 1, 1) := by decide +kernel
theorem dX10_actOutside_60 : decode cX10_actOutside 60 = .ok (.ireturn, 1) := by decide +kernel
theorem dX10_actOutside_61 : decode cX10_actOutside 61 = .ok (.aload_n 0, 1) := by decide +kernel
theorem dX10_actOutside_62 : decode cX10_actOutside 62 = .ok (.getfield 246, 3) := by decide +kernel
theorem dX10_actOutside_65 : decode cX10_actOutside 65 = .ok (.tableswitch 330 0 6 #[43, 75, 82, 88, 171, 178, 324], 43) := by decide +kernel
theorem dX10_actOutside_108 : decode cX10_actOutside 108 = .ok (.aload_n 0, 1) := by decide +kernel
theorem dX10_actOutside_109 : decode cX10_actOutside 109 = .ok (.getfield 69, 3) := by decide +kernel
theorem dX10_actOutside_112 : decode cX10_actOutside 112 = .ok (.ifCond .ge 5, 3) := by decide +kernel
theorem dX10_actOutside_115 : decode cX10_actOutside 115 = .ok (.iconst 0, 1) := by decide +kernel
theorem dX10_actOutside_116 : decode cX10_actOutside 116 = .ok (.ireturn, 1) := by decide +kernel
theorem dX10_actOutside_117 : decode cX10_actOutside 117 = .ok (.aload_n 0, 1) := by decide +kernel
theorem dX10_actOutside_118 : decode cX10_actOutside 118 = .ok (.iconst 2, 1) := by decide +kernel
theorem dX10_actOutside_119 : decode cX10_actOutside 119 = .ok (.iconst 0, 1) := by decide +kernel
theorem dX10_actOutside_120 : decode cX10_actOutside 120 = .ok (.iload_n 1, 1) := by decide +kernel
theorem dX10_actOutside_121 : decode cX10_actOutside 121 = .ok (.invokevirtual 239, 3) := by decide +kernel
theorem dX10_actOutside_124 : decode cX10_actOutside 124 = .ok (.ifCond .eq 14, 3) := by decide +kernel
theorem dX10_actOutside_127 : decode cX10_actOutside 127 = .ok (.aload_n 0, 1) := by decide +kernel
theorem dX10_actOutside_128 : decode cX10_actOutside 128 = .ok (.iload_n 1, 1) := by decide +kernel
theorem dX10_actOutside_129 : decode cX10_actOutside 129 = .ok (.putfield 91, 3) := by decide +kernel
theorem dX10_actOutside_132 : decode cX10_actOutside 132 = .ok (.aload_n 0, 1) := by decide +kernel
theorem dX10_actOutside_133 : decode cX10_actOutside 133 = .ok (.iconst 1, 1) := by decide +kernel
theorem dX10_actOutside_134 : decode cX10_actOutside 134 = .ok (.iconst 3, 1) := by decide +kernel
theorem dX10_actOutside_135 : decode cX10_actOutside 135 = .ok (.invokevirtual 277, 3) := by decide +kernel
theorem dX10_actOutside_138 : decode cX10_actOutside 138 = .ok (.iconst 1, 1) := by decide +kernel
theorem dX10_actOutside_139 : decode cX10_actOutside 139 = .ok (.ireturn, 1) := by decide +kernel
theorem dX10_actOutside_140 : decode cX10_actOutside 140 = .ok (.aload_n 0, 1) := by decide +kernel
theorem dX10_actOutside_141 : decode cX10_actOutside 141 = .ok (.iload_n 1, 1) := by decide +kernel
theorem dX10_actOutside_142 : decode cX10_actOutside 142 = .ok (.invokevirtual 281, 3) := by decide +kernel
theorem dX10_actOutside_145 : decode cX10_actOutside 145 = .ok (.iconst 1, 1) := by decide +kernel
theorem dX10_actOutside_146 : decode cX10_actOutside 146 = .ok (.ireturn, 1) := by decide +kernel
theorem dX10_actOutside_147 : decode cX10_actOutside 147 = .ok (.aload_n 0, 1) := by decide +kernel
theorem dX10_actOutside_148 : decode cX10_actOutside 148 = .ok (.iload_n 1, 1) := by decide +kernel
theorem dX10_actOutside_149 : decode cX10_actOutside 149 = .ok (.invokevirtual 284, 3) := by decide +kernel
theorem dX10_actOutside_152 : decode cX10_actOutside 152 = .ok (.ireturn, 1) := by decide +kernel
theorem dX10_actOutside_153 : decode cX10_actOutside 153 = .ok (.aload_n 0, 1) := by decide +kernel
theorem dX10_actOutside_154 : decode cX10_actOutside 154 = .ok (.iload_n 1, 1) := by decide +kernel
theorem dX10_actOutside_155 : decode cX10_actOutside 155 = .ok (.iconst 2, 1) := by decide +kernel
theorem dX10_actOutside_156 : decode cX10_actOutside 156 = .ok (.invokevirtual 185, 3) := by decide +kernel
theorem dX10_actOutside_159 : decode cX10_actOutside 159 = .ok (.ifCond .eq 22, 3) := by decide +kernel
theorem dX10_actOutside_162 : decode cX10_actOutside 162 = .ok (.aload_n 0, 1) := by decide +kernel
theorem dX10_actOutside_163 : decode cX10_actOutside 163 = .ok (.iload_n 1, 1) := by decide +kernel
theorem dX10_actOutside_164 : decode cX10_actOutside 164 = .ok (.invokevirtual 287, 3) := by decide +kernel
theorem dX10_actOutside_167 : decode cX10_actOutside 167 = .ok (.aload_n 0, 1) := by decide +kernel
theorem dX10_actOutside_168 : decode cX10_actOutside 168 = .ok (.getfield 63, 3) := by decide +kernel
theorem dX10_actOutside_171 : decode cX10_actOutside 171 = .ok (.bipush 6, 2) := by decide +kernel
theorem dX10_actOutside_173 : decode cX10_actOutside 173 = .ok (.iaload, 1) := by decide +kernel
theorem dX10_actOutside_174 : decode cX10_actOutside 174 = .ok (.if_icmp .lt 7, 3) := by decide +kernel
theorem dX10_actOutside_177 : decode cX10_actOutside 177 = .ok (.iconst 1, 1) := by decide +kernel
theorem dX10_actOutside_178 : decode cX10_actOutside 178 = .ok (.goto 4, 3) := by decide +kernel
theorem dX10_actOutside_181 : decode cX10_actOutside 181 = .ok (.iconst 0, 1) := by decide +kernel
theorem dX10_actOutside_182 : decode cX10_actOutside 182 = .ok (.istore_n 2, 1) := by decide +kernel
theorem dX10_actOutside_183 : decode cX10_actOutside 183 = .ok (.aload_n 0, 1) := by decide +kernel
theorem dX10_actOutside_184 : decode cX10_actOutside 184 = .ok (.iload_n 2, 1) := by decide +kernel
theorem dX10_actOutside_185 : decode cX10_actOutside 185 = .ok (.ifCond .eq 8, 3) := by decide +kernel
theorem dX10_actOutside_188 : decode cX10_actOutside 188 = .ok (.bipush 8, 2) := by decide +kernel
theorem dX10_actOutside_190 : decode cX10_actOutside 190 = .ok (.goto 5, 3) := by decide +kernel
theorem dX10_actOutside_193 : decode cX10_actOutside 193 = .ok (.bipush 9, 2) := by decide +kernel
theorem dX10_actOutside_195 : decode cX10_actOutside 195 = .ok (.iload_n 2, 1) := by decide +kernel
theorem dX10_actOutside_196 : decode cX10_actOutside 196 = .ok (.ifCond .eq 7, 3) := by decide +kernel
theorem dX10_actOutside_199 : decode cX10_actOutside 199 = .ok (.iconst 0, 1) := by decide +kernel
theorem dX10_actOutside_200 : decode cX10_actOutside 200 = .ok (.goto 4, 3) := by decide +kernel
theorem dX10_actOutside_203 : decode cX10_actOutside 203 = .ok (.iconst 1, 1) := by decide +kernel
theorem dX10_actOutside_204 : decode cX10_actOutside 204 = .ok (.iload_n 1, 1) := by decide +kernel
theorem dX10_actOutside_205 : decode cX10_actOutside 205 = .ok (.invokevirtual 239, 3) := by decide +kernel
theorem dX10_actOutside_208 : decode cX10_actOutside 208 = .ok (.ifCond .eq 26, 3) := by decide +kernel
theorem dX10_actOutside_211 : decode cX10_actOutside 211 = .ok (.aload_n 0, 1) := by decide +kernel
theorem dX10_actOutside_212 : decode cX10_actOutside 212 = .ok (.iload_n 2, 1) := by decide +kernel
theorem dX10_actOutside_213 : decode cX10_actOutside 213 = .ok (.ifCond .eq 7, 3) := by decide +kernel
theorem dX10_actOutside_216 : decode cX10_actOutside 216 = .ok (.iconst 4, 1) := by decide +kernel
theorem dX10_actOutside_217 : decode cX10_actOutside 217 = .ok (.goto 5, 3) := by decide +kernel
theorem dX10_actOutside_220 : decode cX10_actOutside 220 = .ok (.bipush 7, 2) := by decide +kernel
theorem dX10_actOutside_222 : decode cX10_actOutside 222 = .ok (.iload_n 2, 1) := by decide +kernel
theorem dX10_actOutside_223 : decode cX10_actOutside 223 = .ok (.ifCond .eq 7, 3) := by decide +kernel
theorem dX10_actOutside_226 : decode cX10_actOutside 226 = .ok (.iconst 3, 1) := by decide +kernel
theorem dX10_actOutside_227 : decode cX10_actOutside 227 = .ok (.goto 4, 3) := by decide +kernel
theorem dX10_actOutside_230 : decode cX10_actOutside 230 = .ok (.iconst 5, 1) := by decide +kernel
theorem dX10_actOutside_231 : decode cX10_actOutside 231 = .ok (.invokevirtual 277, 3) := by decide +kernel
theorem dX10_actOutside_234 : decode cX10_actOutside 234 = .ok (.iconst 1, 1) := by decide +kernel
theorem dX10_actOutside_235 : decode cX10_actOutside 235 = .ok (.ireturn, 1) := by decide +kernel
theorem dX10_actOutside_236 : decode cX10_actOutside 236 = .ok (.aload_n 0, 1) := by decide +kernel
theorem dX10_actOutside_237 : decode cX10_actOutside 237 = .ok (.iload_n 1, 1) := by decide +kernel
theorem dX10_actOutside_238 : decode cX10_actOutside 238 = .ok (.invokevirtual 290, 3) := by decide +kernel
theorem dX10_actOutside_241 : decode cX10_actOutside 241 = .ok (.iconst 1, 1) := by decide +kernel
theorem dX10_actOutside_242 : decode cX10_actOutside 242 = .ok (.ireturn, 1) := by decide +kernel
theorem dX10_actOutside_243 : decode cX10_actOutside 243 = .ok (.aload_n 0, 1) := by decide +kernel
theorem dX10_actOutside_244 : decode cX10_actOutside 244 = .ok (.iload_n 1, 1) := by decide +kernel
theorem dX10_actOutside_245 : decode cX10_actOutside 245 = .ok (.invokevirtual 293, 3) := by decide +kernel
theorem dX10_actOutside_248 : decode cX10_actOutside 248 = .ok (.istore_n 3, 1) := by decide +kernel
theorem dX10_actOutside_249 : decode cX10_actOutside 249 = .ok (.iload_n 3, 1) := by decide +kernel
theorem dX10_actOutside_250 : decode cX10_actOutside 250 = .ok (.ifCond .ne 11, 3) := by decide +kernel
theorem dX10_actOutside_253 : decode cX10_actOutside 253 = .ok (.aload_n 0, 1) := by decide +kernel
theorem dX10_actOutside_254 : decode cX10_actOutside 254 = .ok (.iload_n 1, 1) := by decide +kernel
theorem dX10_actOutside_255 : decode cX10_actOutside 255 = .ok (.invokevirtual 296, 3) := by decide +kernel
theorem dX10_actOutside_258 : decode cX10_actOutside 258 = .ok (.ifCond .eq 42, 3) := by decide +kernel
theorem dX10_actOutside_261 : decode cX10_actOutside 261 = .ok (.aload_n 0, 1) := by decide +kernel
theorem dX10_actOutside_262 : decode cX10_actOutside 262 = .ok (.iload_n 1, 1) := by decide +kernel
theorem dX10_actOutside_263 : decode cX10_actOutside 263 = .ok (.iload_n 3, 1) := by decide +kernel
theorem dX10_actOutside_264 : decode cX10_actOutside 264 = .ok (.ifCond .eq 7, 3) := by decide +kernel
theorem dX10_actOutside_267 : decode cX10_actOutside 267 = .ok (.iconst 3, 1) := by decide +kernel
theorem dX10_actOutside_268 : decode cX10_actOutside 268 = .ok (.goto 4, 3) := by decide +kernel
theorem dX10_actOutside_271 : decode cX10_actOutside 271 = .ok (.iconst 1, 1) := by decide +kernel
theorem dX10_actOutside_272 : decode cX10_actOutside 272 = .ok (.bipush 22, 2) := by decide +kernel
theorem dX10_actOutside_274 : decode cX10_actOutside 274 = .ok (.iconst 1, 1) := by decide +kernel
theorem dX10_actOutside_275 : decode cX10_actOutside 275 = .ok (.invokevirtual 170, 3) := by decide +kernel
theorem dX10_actOutside_278 : decode cX10_actOutside 278 = .ok (.aload_n 0, 1) := by decide +kernel
theorem dX10_actOutside_279 : decode cX10_actOutside 279 = .ok (.getfield 63, 3) := by decide +kernel
theorem dX10_actOutside_282 : decode cX10_actOutside 282 = .ok (.iconst 5, 1) := by decide +kernel
theorem dX10_actOutside_283 : decode cX10_actOutside 283 = .ok (.iaload, 1) := by decide +kernel
theorem dX10_actOutside_284 : decode cX10_actOutside 284 = .ok (.i2l, 1) := by decide +kernel
theorem dX10_actOutside_285 : decode cX10_actOutside 285 = .ok (.lcmp, 1) := by decide +kernel
theorem dX10_actOutside_286 : decode cX10_actOutside 286 = .ok (.ifCond .lt 14, 3) := by decide +kernel
theorem dX10_actOutside_289 : decode cX10_actOutside 289 = .ok (.aload_n 0, 1) := by decide +kernel
theorem dX10_actOutside_290 : decode cX10_actOutside 290 = .ok (.invokevirtual 299, 3) := by decide +kernel
theorem dX10_actOutside_293 : decode cX10_actOutside 293 = .ok (.ifCond .eq 7, 3) := by decide +kernel
theorem dX10_actOutside_296 : decode cX10_actOutside 296 = .ok (.iconst 1, 1) := by decide +kernel
theorem dX10_actOutside_297 : decode cX10_actOutside 297 = .ok (.goto 4, 3) := by decide +kernel
theorem dX10_actOutside_300 : decode cX10_actOutside 300 = .ok (.iconst 0, 1) := by decide +kernel
theorem dX10_actOutside_301 : decode cX10_actOutside 301 = .ok (.istore 4, 2) := by decide +kernel
theorem dX10_actOutside_303 : decode cX10_actOutside 303 = .ok (.aload_n 0, 1) := by decide +kernel
theorem dX10_actOutside_304 : decode cX10_actOutside 304 = .ok (.iload 4, 2) := by decide +kernel
theorem dX10_actOutside_306 : decode cX10_actOutside 306 = .ok (.ifCond .eq 8, 3) := by decide +kernel
theorem dX10_actOutside_309 : decode cX10_actOutside 309 = .ok (.bipush 12, 2) := by decide +kernel
theorem dX10_actOutside_311 : decode cX10_actOutside 311 = .ok (.goto 5, 3) := by decide +kernel
theorem dX10_actOutside_314 : decode cX10_actOutside 314 = .ok (.bipush 13, 2) := by decide +kernel
theorem dX10_actOutside_316 : decode cX10_actOutside 316 = .ok (.iload 4, 2) := by decide +kernel
theorem dX10_actOutside_318 : decode cX10_actOutside 318 = .ok (.ifCond .eq 7, 3) := by decide +kernel
theorem dX10_actOutside_321 : decode cX10_actOutside 321 = .ok (.iconst 0, 1) := by decide +kernel
theorem dX10_actOutside_322 : decode cX10_actOutside 322 = .ok (.goto 4, 3) := by decide +kernel
theorem dX10_actOutside_325 : decode cX10_actOutside 325 = .ok (.iconst 1, 1) := by decide +kernel
theorem dX10_actOutside_326 : decode cX10_actOutside 326 = .ok (.iload_n 1, 1) := by decide +kernel
theorem dX10_actOutside_327 : decode cX10_actOutside 327 = .ok (.invokevirtual 239, 3) := by decide +kernel
theorem dX10_actOutside_330 : decode cX10_actOutside 330 = .ok (.ifCond .eq 57, 3) := by decide +kernel
theorem dX10_actOutside_333 : decode cX10_actOutside 333 = .ok (.aload_n 0, 1) := by decide +kernel
theorem dX10_actOutside_334 : decode cX10_actOutside 334 = .ok (.iload 4, 2) := by decide +kernel
theorem dX10_actOutside_336 : decode cX10_actOutside 336 = .ok (.ifCond .eq 8, 3) := by decide +kernel
theorem dX10_actOutside_339 : decode cX10_actOutside 339 = .ok (.bipush 6, 2) := by decide +kernel
theorem dX10_actOutside_341 : decode cX10_actOutside 341 = .ok (.goto 5, 3) := by decide +kernel
theorem dX10_actOutside_344 : decode cX10_actOutside 344 = .ok (.bipush 7, 2) := by decide +kernel
theorem dX10_actOutside_346 : decode cX10_actOutside 346 = .ok (.iload 4, 2) := by decide +kernel
theorem dX10_actOutside_348 : decode cX10_actOutside 348 = .ok (.ifCond .eq 7, 3) := by decide +kernel
theorem dX10_actOutside_351 : decode cX10_actOutside 351 = .ok (.iconst 4, 1) := by decide +kernel
theorem dX10_actOutside_352 : decode cX10_actOutside 352 = .ok (.goto 4, 3) := by decide +kernel
theorem dX10_actOutside_355 : decode cX10_actOutside 355 = .ok (.iconst 5, 1) := by decide +kernel
theorem dX10_actOutside_356 : decode cX10_actOutside 356 = .ok (.invokevirtual 277, 3) := by decide +kernel
theorem dX10_actOutside_359 : decode cX10_actOutside 359 = .ok (.aload_n 0, 1) := by decide +kernel
theorem dX10_actOutside_360 : decode cX10_actOutside 360 = .ok (.iload 4, 2) := by decide +kernel
theorem dX10_actOutside_362 : decode cX10_actOutside 362 = .ok (.ifCond .eq 18, 3) := by decide +kernel
theorem dX10_actOutside_365 : decode cX10_actOutside 365 = .ok (.aload_n 0, 1) := by decide +kernel
theorem dX10_actOutside_366 : decode cX10_actOutside 366 = .ok (.getfield 182, 3) := by decide +kernel
theorem dX10_actOutside_369 : decode cX10_actOutside 369 = .ok (.aload_n 0, 1) := by decide +kernel
theorem dX10_actOutside_370 : decode cX10_actOutside 370 = .ok (.getfield 63, 3) := by decide +kernel
theorem dX10_actOutside_373 : decode cX10_actOutside 373 = .ok (.iconst 3, 1) := by decide +kernel
theorem dX10_actOutside_374 : decode cX10_actOutside 374 = .ok (.iaload, 1) := by decide +kernel
theorem dX10_actOutside_375 : decode cX10_actOutside 375 = .ok (.i2l, 1) := by decide +kernel
theorem dX10_actOutside_376 : decode cX10_actOutside 376 = .ok (.ladd, 1) := by decide +kernel
theorem dX10_actOutside_377 : decode cX10_actOutside 377 = .ok (.goto 7, 3) := by decide +kernel
theorem dX10_actOutside_380 : decode cX10_actOutside 380 = .ok (.aload_n 0, 1) := by decide +kernel
theorem dX10_actOutside_381 : decode cX10_actOutside 381 = .ok (.getfield 302, 3) := by decide +kernel
theorem dX10_actOutside_384 : decode cX10_actOutside 384 = .ok (.putfield 302, 3) := by decide +kernel
theorem dX10_actOutside_387 : decode cX10_actOutside 387 = .ok (.iconst 1, 1) := by decide +kernel
theorem dX10_actOutside_388 : decode cX10_actOutside 388 = .ok (.ireturn, 1) := by decide +kernel
theorem dX10_actOutside_389 : decode cX10_actOutside 389 = .ok (.aload_n 0, 1) := by decide +kernel
theorem dX10_actOutside_390 : decode cX10_actOutside 390 = .ok (.iload_n 1, 1) := by decide +kernel
theorem dX10_actOutside_391 : decode cX10_actOutside 391 = .ok (.invokevirtual 305, 3) := by decide +kernel
theorem dX10_actOutside_394 : decode cX10_actOutside 394 = .ok (.ireturn, 1) := by decide +kernel
theorem dX10_actOutside_395 : decode cX10_actOutside 395 = .ok (.aload_n 0, 1) := by decide +kernel
