/-! p29: open walks: areOpened areScores -/
theorem v_516 : Cond.methodLink "PuzzleRegistryLaw" 114 yL_of ∈ TW := q_mem 516 (by decide +kernel) rfl
theorem v_667 : Cond.code yL_areOpened cL_areOpened 13 (some .boolean) ∈ TW := q_mem 667 (by decide +kernel) rfl
theorem v_666 : Cond.static yL_areOpened ∈ TW := q_mem 666 (by decide +kernel) rfl
theorem v_687 : Cond.methodLink "PuzzleRegistryLaw" 128 yL_last ∈ TW := q_mem 687 (by decide +kernel) rfl
theorem v_682 : Cond.code yL_areScores cL_areScores 14 (some .boolean) ∈ TW := q_mem 682 (by decide +kernel) rfl
theorem v_681 : Cond.static yL_areScores ∈ TW := q_mem 681 (by decide +kernel) rfl
theorem dL_areOpened_0 : decode cL_areOpened 0 = .ok (.iconst 1, 1) := by decide +kernel
theorem dL_areOpened_1 : decode cL_areOpened 1 = .ok (.istore 5, 2) := by decide +kernel
theorem dL_areOpened_3 : decode cL_areOpened 3 = .ok (.iconst 0, 1) := by decide +kernel
theorem dL_areOpened_4 : decode cL_areOpened 4 = .ok (.istore 6, 2) := by decide +kernel
theorem dL_areOpened_6 : decode cL_areOpened 6 = .ok (.iload 6, 2) := by decide +kernel
theorem dL_areOpened_8 : decode cL_areOpened 8 = .ok (.aload 4, 2) := by decide +kernel
theorem dL_areOpened_10 : decode cL_areOpened 10 = .ok (.iconst 0, 1) := by decide +kernel
theorem dL_areOpened_11 : decode cL_areOpened 11 = .ok (.iaload, 1) := by decide +kernel
theorem dL_areOpened_12 : decode cL_areOpened 12 = .ok (.if_icmp .ge 365, 3) := by decide +kernel
theorem dL_areOpened_15 : decode cL_areOpened 15 = .ok (.iload 5, 2) := by decide +kernel
theorem dL_areOpened_17 : decode cL_areOpened 17 = .ok (.ifCond .eq 360, 3) := by decide +kernel
theorem dL_areOpened_20 : decode cL_areOpened 20 = .ok (.iconst 0, 1) := by decide +kernel
theorem dL_areOpened_21 : decode cL_areOpened 21 = .ok (.istore 7, 2) := by decide +kernel
theorem dL_areOpened_23 : decode cL_areOpened 23 = .ok (.iconst 0, 1) := by decide +kernel
theorem dL_areOpened_24 : decode cL_areOpened 24 = .ok (.istore 8, 2) := by decide +kernel
theorem dL_areOpened_26 : decode cL_areOpened 26 = .ok (.iload 8, 2) := by decide +kernel
theorem dL_areOpened_28 : decode cL_areOpened 28 = .ok (.aload 4, 2) := by decide +kernel
theorem dL_areOpened_30 : decode cL_areOpened 30 = .ok (.iconst 1, 1) := by decide +kernel
theorem dL_areOpened_31 : decode cL_areOpened 31 = .ok (.iaload, 1) := by decide +kernel
theorem dL_areOpened_32 : decode cL_areOpened 32 = .ok (.if_icmp .ge 302, 3) := by decide +kernel
theorem dL_areOpened_35 : decode cL_areOpened 35 = .ok (.iload 5, 2) := by decide +kernel
theorem dL_areOpened_37 : decode cL_areOpened 37 = .ok (.ifCond .eq 297, 3) := by decide +kernel
theorem dL_areOpened_40 : decode cL_areOpened 40 = .ok (.iconst 0, 1) := by decide +kernel
theorem dL_areOpened_41 : decode cL_areOpened 41 = .ok (.istore 9, 2) := by decide +kernel
theorem dL_areOpened_43 : decode cL_areOpened 43 = .ok (.iconst 0, 1) := by decide +kernel
theorem dL_areOpened_44 : decode cL_areOpened 44 = .ok (.istore 10, 2) := by decide +kernel
theorem dL_areOpened_46 : decode cL_areOpened 46 = .ok (.iload 10, 2) := by decide +kernel
theorem dL_areOpened_48 : decode cL_areOpened 48 = .ok (.iload 6, 2) := by decide +kernel
theorem dL_areOpened_50 : decode cL_areOpened 50 = .ok (.if_icmp .ge 92, 3) := by decide +kernel
theorem dL_areOpened_53 : decode cL_areOpened 53 = .ok (.aload_n 1, 1) := by decide +kernel
theorem dL_areOpened_54 : decode cL_areOpened 54 = .ok (.bipush 6, 2) := by decide +kernel
theorem dL_areOpened_56 : decode cL_areOpened 56 = .ok (.iload 6, 2) := by decide +kernel
theorem dL_areOpened_58 : decode cL_areOpened 58 = .ok (.imul, 1) := by decide +kernel
theorem dL_areOpened_59 : decode cL_areOpened 59 = .ok (.iconst 4, 1) := by decide +kernel
theorem dL_areOpened_60 : decode cL_areOpened 60 = .ok (.iadd, 1) := by decide +kernel
theorem dL_areOpened_61 : decode cL_areOpened 61 = .ok (.iaload, 1) := by decide +kernel
theorem dL_areOpened_62 : decode cL_areOpened 62 = .ok (.iload 10, 2) := by decide +kernel
theorem dL_areOpened_64 : decode cL_areOpened 64 = .ok (.ishr, 1) := by decide +kernel
theorem dL_areOpened_65 : decode cL_areOpened 65 = .ok (.iconst 1, 1) := by decide +kernel
theorem dL_areOpened_66 : decode cL_areOpened 66 = .ok (.iand, 1) := by decide +kernel
theorem dL_areOpened_67 : decode cL_areOpened 67 = .ok (.iconst 1, 1) := by decide +kernel
theorem dL_areOpened_68 : decode cL_areOpened 68 = .ok (.if_icmp .ne 7, 3) := by decide +kernel
theorem dL_areOpened_75 : decode cL_areOpened 75 = .ok (.iconst 0, 1) := by decide +kernel
theorem dL_areOpened_76 : decode cL_areOpened 76 = .ok (.istore 11, 2) := by decide +kernel
theorem dL_areOpened_78 : decode cL_areOpened 78 = .ok (.iload 11, 2) := by decide +kernel
theorem dL_areOpened_80 : decode cL_areOpened 80 = .ok (.ifCond .eq 8, 3) := by decide +kernel
theorem dL_areOpened_88 : decode cL_areOpened 88 = .ok (.iload 9, 2) := by decide +kernel
theorem dL_areOpened_90 : decode cL_areOpened 90 = .ok (.goto 44, 3) := by decide +kernel
theorem dL_areOpened_134 : decode cL_areOpened 134 = .ok (.istore 9, 2) := by decide +kernel
theorem dL_areOpened_136 : decode cL_areOpened 136 = .ok (.iinc 10 1, 3) := by decide +kernel
theorem dL_areOpened_139 : decode cL_areOpened 139 = .ok (.goto (-93), 3) := by decide +kernel
theorem dL_areOpened_142 : decode cL_areOpened 142 = .ok (.aload_n 2, 1) := by decide +kernel
theorem dL_areOpened_143 : decode cL_areOpened 143 = .ok (.bipush 8, 2) := by decide +kernel
theorem dL_areOpened_145 : decode cL_areOpened 145 = .ok (.iload 8, 2) := by decide +kernel
theorem dL_areOpened_147 : decode cL_areOpened 147 = .ok (.imul, 1) := by decide +kernel
theorem dL_areOpened_148 : decode cL_areOpened 148 = .ok (.iload 6, 2) := by decide +kernel
theorem dL_areOpened_150 : decode cL_areOpened 150 = .ok (.iadd, 1) := by decide +kernel
theorem dL_areOpened_151 : decode cL_areOpened 151 = .ok (.iaload, 1) := by decide +kernel
theorem dL_areOpened_152 : decode cL_areOpened 152 = .ok (.iconst 3, 1) := by decide +kernel
theorem dL_areOpened_153 : decode cL_areOpened 153 = .ok (.iand, 1) := by decide +kernel
theorem dL_areOpened_154 : decode cL_areOpened 154 = .ok (.istore 10, 2) := by decide +kernel
theorem dL_areOpened_156 : decode cL_areOpened 156 = .ok (.iconst 0, 1) := by decide +kernel
theorem dL_areOpened_157 : decode cL_areOpened 157 = .ok (.istore 11, 2) := by decide +kernel
theorem dL_areOpened_159 : decode cL_areOpened 159 = .ok (.iconst 0, 1) := by decide +kernel
theorem dL_areOpened_160 : decode cL_areOpened 160 = .ok (.istore 12, 2) := by decide +kernel
theorem dL_areOpened_162 : decode cL_areOpened 162 = .ok (.iload 12, 2) := by decide +kernel
theorem dL_areOpened_164 : decode cL_areOpened 164 = .ok (.aload 4, 2) := by decide +kernel
theorem dL_areOpened_166 : decode cL_areOpened 166 = .ok (.iconst 1, 1) := by decide +kernel
theorem dL_areOpened_167 : decode cL_areOpened 167 = .ok (.iaload, 1) := by decide +kernel
theorem dL_areOpened_168 : decode cL_areOpened 168 = .ok (.if_icmp .ge 36, 3) := by decide +kernel
theorem dL_areOpened_171 : decode cL_areOpened 171 = .ok (.iload 11, 2) := by decide +kernel
theorem dL_areOpened_173 : decode cL_areOpened 173 = .ok (.aload_n 2, 1) := by decide +kernel
theorem dL_areOpened_174 : decode cL_areOpened 174 = .ok (.bipush 8, 2) := by decide +kernel
theorem dL_areOpened_176 : decode cL_areOpened 176 = .ok (.iload 12, 2) := by decide +kernel
theorem dL_areOpened_178 : decode cL_areOpened 178 = .ok (.imul, 1) := by decide +kernel
theorem dL_areOpened_179 : decode cL_areOpened 179 = .ok (.iload 6, 2) := by decide +kernel
theorem dL_areOpened_181 : decode cL_areOpened 181 = .ok (.iadd, 1) := by decide +kernel
theorem dL_areOpened_182 : decode cL_areOpened 182 = .ok (.iaload, 1) := by decide +kernel
theorem dL_areOpened_183 : decode cL_areOpened 183 = .ok (.iconst 3, 1) := by decide +kernel
theorem dL_areOpened_184 : decode cL_areOpened 184 = .ok (.iand, 1) := by decide +kernel
theorem dL_areOpened_185 : decode cL_areOpened 185 = .ok (.iload 10, 2) := by decide +kernel
theorem dL_areOpened_187 : decode cL_areOpened 187 = .ok (.if_icmp .le 7, 3) := by decide +kernel
theorem dL_areOpened_194 : decode cL_areOpened 194 = .ok (.iconst 0, 1) := by decide +kernel
theorem dL_areOpened_195 : decode cL_areOpened 195 = .ok (.iadd, 1) := by decide +kernel
theorem dL_areOpened_196 : decode cL_areOpened 196 = .ok (.istore 11, 2) := by decide +kernel
theorem dL_areOpened_198 : decode cL_areOpened 198 = .ok (.iinc 12 1, 3) := by decide +kernel
theorem dL_areOpened_201 : decode cL_areOpened 201 = .ok (.goto (-39), 3) := by decide +kernel
theorem dL_areOpened_204 : decode cL_areOpened 204 = .ok (.aload_n 1, 1) := by decide +kernel
theorem dL_areOpened_205 : decode cL_areOpened 205 = .ok (.bipush 6, 2) := by decide +kernel
theorem dL_areOpened_207 : decode cL_areOpened 207 = .ok (.iload 6, 2) := by decide +kernel
theorem dL_areOpened_209 : decode cL_areOpened 209 = .ok (.imul, 1) := by decide +kernel
theorem dL_areOpened_210 : decode cL_areOpened 210 = .ok (.iconst 3, 1) := by decide +kernel
theorem dL_areOpened_211 : decode cL_areOpened 211 = .ok (.iadd, 1) := by decide +kernel
theorem dL_areOpened_212 : decode cL_areOpened 212 = .ok (.iaload, 1) := by decide +kernel
theorem dL_areOpened_213 : decode cL_areOpened 213 = .ok (.aload_n 0, 1) := by decide +kernel
theorem dL_areOpened_214 : decode cL_areOpened 214 = .ok (.invokevirtual 98, 3) := by decide +kernel
theorem dL_areOpened_217 : decode cL_areOpened 217 = .ok (.iload 9, 2) := by decide +kernel
theorem dL_areOpened_219 : decode cL_areOpened 219 = .ok (.isub, 1) := by decide +kernel
theorem dL_areOpened_220 : decode cL_areOpened 220 = .ok (.bipush 10, 2) := by decide +kernel
theorem dL_areOpened_222 : decode cL_areOpened 222 = .ok (.idiv, 1) := by decide +kernel
theorem dL_areOpened_223 : decode cL_areOpened 223 = .ok (.isub, 1) := by decide +kernel
theorem dL_areOpened_224 : decode cL_areOpened 224 = .ok (.iload 11, 2) := by decide +kernel
theorem dL_areOpened_226 : decode cL_areOpened 226 = .ok (.isub, 1) := by decide +kernel
theorem dL_areOpened_227 : decode cL_areOpened 227 = .ok (.istore 12, 2) := by decide +kernel
theorem dL_areOpened_229 : decode cL_areOpened 229 = .ok (.iload 7, 2) := by decide +kernel
theorem dL_areOpened_231 : decode cL_areOpened 231 = .ok (.aload_n 3, 1) := by decide +kernel
theorem dL_areOpened_232 : decode cL_areOpened 232 = .ok (.iload 8, 2) := by decide +kernel
theorem dL_areOpened_234 : decode cL_areOpened 234 = .ok (.iaload, 1) := by decide +kernel
theorem dL_areOpened_235 : decode cL_areOpened 235 = .ok (.ior, 1) := by decide +kernel
theorem dL_areOpened_236 : decode cL_areOpened 236 = .ok (.istore 7, 2) := by decide +kernel
theorem dL_areOpened_238 : decode cL_areOpened 238 = .ok (.aload_n 0, 1) := by decide +kernel
theorem dL_areOpened_239 : decode cL_areOpened 239 = .ok (.iload 8, 2) := by decide +kernel
theorem dL_areOpened_241 : decode cL_areOpened 241 = .ok (.iload 6, 2) := by decide +kernel
theorem dL_areOpened_243 : decode cL_areOpened 243 = .ok (.invokevirtual 59, 3) := by decide +kernel
theorem dL_areOpened_246 : decode cL_areOpened 246 = .ok (.iload 9, 2) := by decide +kernel
theorem dL_areOpened_248 : decode cL_areOpened 248 = .ok (.if_icmp .ne 77, 3) := by decide +kernel
theorem dL_areOpened_251 : decode cL_areOpened 251 = .ok (.aload_n 0, 1) := by decide +kernel
theorem dL_areOpened_252 : decode cL_areOpened 252 = .ok (.iconst 0, 1) := by decide +kernel
theorem dL_areOpened_253 : decode cL_areOpened 253 = .ok (.iload 8, 2) := by decide +kernel
theorem dL_areOpened_255 : decode cL_areOpened 255 = .ok (.iload 6, 2) := by decide +kernel
theorem dL_areOpened_257 : decode cL_areOpened 257 = .ok (.invokestatic 114, 3) := by decide +kernel
theorem dL_areOpened_260 : decode cL_areOpened 260 = .ok (.iload 9, 2) := by decide +kernel
theorem dL_areOpened_262 : decode cL_areOpened 262 = .ok (.ifCond .lt 9, 3) := by decide +kernel
theorem dL_areOpened_265 : decode cL_areOpened 265 = .ok (.iload 10, 2) := by decide +kernel
theorem dL_areOpened_267 : decode cL_areOpened 267 = .ok (.iconst 3, 1) := by decide +kernel
theorem dL_areOpened_268 : decode cL_areOpened 268 = .ok (.if_icmp .ne 9, 3) := by decide +kernel
theorem dL_areOpened_277 : decode cL_areOpened 277 = .ok (.iload 12, 2) := by decide +kernel
theorem dL_areOpened_279 : decode cL_areOpened 279 = .ok (.iconst 1, 1) := by decide +kernel
theorem dL_areOpened_280 : decode cL_areOpened 280 = .ok (.if_icmp .ge 7, 3) := by decide +kernel
theorem dL_areOpened_283 : decode cL_areOpened 283 = .ok (.iconst 1, 1) := by decide +kernel
theorem dL_areOpened_284 : decode cL_areOpened 284 = .ok (.goto 5, 3) := by decide +kernel
theorem dL_areOpened_287 : decode cL_areOpened 287 = .ok (.iload 12, 2) := by decide +kernel
theorem dL_areOpened_289 : decode cL_areOpened 289 = .ok (.if_icmp .ne 36, 3) := by decide +kernel
theorem dL_areOpened_292 : decode cL_areOpened 292 = .ok (.aload_n 0, 1) := by decide +kernel
theorem dL_areOpened_293 : decode cL_areOpened 293 = .ok (.iload 8, 2) := by decide +kernel
theorem dL_areOpened_295 : decode cL_areOpened 295 = .ok (.iload 6, 2) := by decide +kernel
theorem dL_areOpened_297 : decode cL_areOpened 297 = .ok (.invokevirtual 62, 3) := by decide +kernel
theorem dL_areOpened_300 : decode cL_areOpened 300 = .ok (.ifCond .lt 21, 3) := by decide +kernel
theorem dL_areOpened_303 : decode cL_areOpened 303 = .ok (.iload 9, 2) := by decide +kernel
theorem dL_areOpened_305 : decode cL_areOpened 305 = .ok (.ifCond .lt 20, 3) := by decide +kernel
theorem dL_areOpened_308 : decode cL_areOpened 308 = .ok (.aload_n 0, 1) := by decide +kernel
theorem dL_areOpened_309 : decode cL_areOpened 309 = .ok (.iload 8, 2) := by decide +kernel
theorem dL_areOpened_311 : decode cL_areOpened 311 = .ok (.iload 6, 2) := by decide +kernel
theorem dL_areOpened_313 : decode cL_areOpened 313 = .ok (.invokevirtual 62, 3) := by decide +kernel
theorem dL_areOpened_316 : decode cL_areOpened 316 = .ok (.iload 9, 2) := by decide +kernel
theorem dL_areOpened_318 : decode cL_areOpened 318 = .ok (.if_icmp .lt 7, 3) := by decide +kernel
theorem dL_areOpened_321 : decode cL_areOpened 321 = .ok (.iconst 1, 1) := by decide +kernel
theorem dL_areOpened_322 : decode cL_areOpened 322 = .ok (.goto 4, 3) := by decide +kernel
theorem dL_areOpened_325 : decode cL_areOpened 325 = .ok (.iconst 0, 1) := by decide +kernel
theorem dL_areOpened_326 : decode cL_areOpened 326 = .ok (.istore 5, 2) := by decide +kernel
theorem dL_areOpened_328 : decode cL_areOpened 328 = .ok (.iinc 8 1, 3) := by decide +kernel
theorem dL_areOpened_331 : decode cL_areOpened 331 = .ok (.goto (-305), 3) := by decide +kernel
theorem dL_areOpened_334 : decode cL_areOpened 334 = .ok (.iload 5, 2) := by decide +kernel
theorem dL_areOpened_336 : decode cL_areOpened 336 = .ok (.ifCond .eq 32, 3) := by decide +kernel
theorem dL_areOpened_339 : decode cL_areOpened 339 = .ok (.aload_n 0, 1) := by decide +kernel
theorem dL_areOpened_340 : decode cL_areOpened 340 = .ok (.iload 6, 2) := by decide +kernel
theorem dL_areOpened_342 : decode cL_areOpened 342 = .ok (.invokevirtual 65, 3) := by decide +kernel
theorem dL_areOpened_345 : decode cL_areOpened 345 = .ok (.iload 7, 2) := by decide +kernel
theorem dL_areOpened_347 : decode cL_areOpened 347 = .ok (.iload 6, 2) := by decide +kernel
theorem dL_areOpened_349 : decode cL_areOpened 349 = .ok (.ishr, 1) := by decide +kernel
theorem dL_areOpened_350 : decode cL_areOpened 350 = .ok (.iconst 1, 1) := by decide +kernel
theorem dL_areOpened_351 : decode cL_areOpened 351 = .ok (.iand, 1) := by decide +kernel
theorem dL_areOpened_352 : decode cL_areOpened 352 = .ok (.iconst 1, 1) := by decide +kernel
theorem dL_areOpened_353 : decode cL_areOpened 353 = .ok (.if_icmp .ne 7, 3) := by decide +kernel
theorem dL_areOpened_360 : decode cL_areOpened 360 = .ok (.iconst 0, 1) := by decide +kernel
theorem dL_areOpened_361 : decode cL_areOpened 361 = .ok (.if_icmp .ne 7, 3) := by decide +kernel
theorem dL_areOpened_364 : decode cL_areOpened 364 = .ok (.iconst 1, 1) := by decide +kernel
theorem dL_areOpened_365 : decode cL_areOpened 365 = .ok (.goto 4, 3) := by decide +kernel
theorem dL_areOpened_368 : decode cL_areOpened 368 = .ok (.iconst 0, 1) := by decide +kernel
theorem dL_areOpened_369 : decode cL_areOpened 369 = .ok (.istore 5, 2) := by decide +kernel
theorem dL_areOpened_371 : decode cL_areOpened 371 = .ok (.iinc 6 1, 3) := by decide +kernel
theorem dL_areOpened_374 : decode cL_areOpened 374 = .ok (.goto (-368), 3) := by decide +kernel
theorem dL_areOpened_377 : decode cL_areOpened 377 = .ok (.iload 5, 2) := by decide +kernel
theorem dL_areOpened_379 : decode cL_areOpened 379 = .ok (.ireturn, 1) := by decide +kernel
theorem dL_areScores_0 : decode cL_areScores 0 = .ok (.aload_n 0, 1) := by decide +kernel
theorem dL_areScores_1 : decode cL_areScores 1 = .ok (.aload 4, 2) := by decide +kernel
theorem dL_areScores_3 : decode cL_areScores 3 = .ok (.iconst 1, 1) := by decide +kernel
theorem dL_areScores_4 : decode cL_areScores 4 = .ok (.iaload, 1) := by decide +kernel
theorem dL_areScores_5 : decode cL_areScores 5 = .ok (.invokevirtual 107, 3) := by decide +kernel
theorem dL_areScores_8 : decode cL_areScores 8 = .ok (.iconst (-1), 1) := by decide +kernel
theorem dL_areScores_9 : decode cL_areScores 9 = .ok (.if_icmp .ne 16, 3) := by decide +kernel
theorem dL_areScores_12 : decode cL_areScores 12 = .ok (.aload_n 0, 1) := by decide +kernel
theorem dL_areScores_13 : decode cL_areScores 13 = .ok (.iconst (-1), 1) := by decide +kernel
theorem dL_areScores_14 : decode cL_areScores 14 = .ok (.invokevirtual 107, 3) := by decide +kernel
theorem dL_areScores_17 : decode cL_areScores 17 = .ok (.iconst (-1), 1) := by decide +kernel
theorem dL_areScores_18 : decode cL_areScores 18 = .ok (.if_icmp .ne 7, 3) := by decide +kernel
theorem dL_areScores_21 : decode cL_areScores 21 = .ok (.iconst 1, 1) := by decide +kernel
theorem dL_areScores_22 : decode cL_areScores 22 = .ok (.goto 4, 3) := by decide +kernel
theorem dL_areScores_25 : decode cL_areScores 25 = .ok (.iconst 0, 1) := by decide +kernel
theorem dL_areScores_26 : decode cL_areScores 26 = .ok (.istore 5, 2) := by decide +kernel
theorem dL_areScores_28 : decode cL_areScores 28 = .ok (.iconst 0, 1) := by decide +kernel
theorem dL_areScores_29 : decode cL_areScores 29 = .ok (.istore 6, 2) := by decide +kernel
theorem dL_areScores_31 : decode cL_areScores 31 = .ok (.iconst 0, 1) := by decide +kernel
theorem dL_areScores_32 : decode cL_areScores 32 = .ok (.istore 7, 2) := by decide +kernel
theorem dL_areScores_34 : decode cL_areScores 34 = .ok (.iconst 0, 1) := by decide +kernel
theorem dL_areScores_35 : decode cL_areScores 35 = .ok (.istore 8, 2) := by decide +kernel
theorem dL_areScores_37 : decode cL_areScores 37 = .ok (.iload 8, 2) := by decide +kernel
theorem dL_areScores_39 : decode cL_areScores 39 = .ok (.aload 4, 2) := by decide +kernel
theorem dL_areScores_41 : decode cL_areScores 41 = .ok (.iconst 1, 1) := by decide +kernel
theorem dL_areScores_42 : decode cL_areScores 42 = .ok (.iaload, 1) := by decide +kernel
theorem dL_areScores_43 : decode cL_areScores 43 = .ok (.if_icmp .ge 205, 3) := by decide +kernel
theorem dL_areScores_46 : decode cL_areScores 46 = .ok (.iload 5, 2) := by decide +kernel
theorem dL_areScores_48 : decode cL_areScores 48 = .ok (.ifCond .eq 200, 3) := by decide +kernel
theorem dL_areScores_51 : decode cL_areScores 51 = .ok (.iconst 0, 1) := by decide +kernel
theorem dL_areScores_52 : decode cL_areScores 52 = .ok (.istore 9, 2) := by decide +kernel
theorem dL_areScores_54 : decode cL_areScores 54 = .ok (.iconst 0, 1) := by decide +kernel
theorem dL_areScores_55 : decode cL_areScores 55 = .ok (.istore 10, 2) := by decide +kernel
theorem dL_areScores_57 : decode cL_areScores 57 = .ok (.iload 10, 2) := by decide +kernel
theorem dL_areScores_59 : decode cL_areScores 59 = .ok (.aload 4, 2) := by decide +kernel
theorem dL_areScores_61 : decode cL_areScores 61 = .ok (.iconst 0, 1) := by decide +kernel
theorem dL_areScores_62 : decode cL_areScores 62 = .ok (.iaload, 1) := by decide +kernel
theorem dL_areScores_63 : decode cL_areScores 63 = .ok (.if_icmp .ge 86, 3) := by decide +kernel
theorem dL_areScores_66 : decode cL_areScores 66 = .ok (.iload 9, 2) := by decide +kernel
theorem dL_areScores_68 : decode cL_areScores 68 = .ok (.aload_n 0, 1) := by decide +kernel
theorem dL_areScores_69 : decode cL_areScores 69 = .ok (.iload 8, 2) := by decide +kernel
theorem dL_areScores_71 : decode cL_areScores 71 = .ok (.iload 10, 2) := by decide +kernel
theorem dL_areScores_73 : decode cL_areScores 73 = .ok (.invokevirtual 62, 3) := by decide +kernel
theorem dL_areScores_76 : decode cL_areScores 76 = .ok (.ifCond .lt 33, 3) := by decide +kernel
theorem dL_areScores_79 : decode cL_areScores 79 = .ok (.aload_n 0, 1) := by decide +kernel
theorem dL_areScores_80 : decode cL_areScores 80 = .ok (.iload 8, 2) := by decide +kernel
theorem dL_areScores_82 : decode cL_areScores 82 = .ok (.iload 10, 2) := by decide +kernel
theorem dL_areScores_84 : decode cL_areScores 84 = .ok (.invokevirtual 78, 3) := by decide +kernel
theorem dL_areScores_87 : decode cL_areScores 87 = .ok (.ifCond .ne 22, 3) := by decide +kernel
theorem dL_areScores_90 : decode cL_areScores 90 = .ok (.aload_n 0, 1) := by decide +kernel
theorem dL_areScores_91 : decode cL_areScores 91 = .ok (.iload 10, 2) := by decide +kernel
theorem dL_areScores_93 : decode cL_areScores 93 = .ok (.invokevirtual 65, 3) := by decide +kernel
theorem dL_areScores_96 : decode cL_areScores 96 = .ok (.ifCond .ne 13, 3) := by decide +kernel
theorem dL_areScores_99 : decode cL_areScores 99 = .ok (.aload_n 1, 1) := by decide +kernel
theorem dL_areScores_100 : decode cL_areScores 100 = .ok (.bipush 6, 2) := by decide +kernel
theorem dL_areScores_102 : decode cL_areScores 102 = .ok (.iload 10, 2) := by decide +kernel
theorem dL_areScores_104 : decode cL_areScores 104 = .ok (.imul, 1) := by decide +kernel
theorem dL_areScores_105 : decode cL_areScores 105 = .ok (.iaload, 1) := by decide +kernel
theorem dL_areScores_106 : decode cL_areScores 106 = .ok (.goto 4, 3) := by decide +kernel
theorem dL_areScores_109 : decode cL_areScores 109 = .ok (.iconst 0, 1) := by decide +kernel
theorem dL_areScores_110 : decode cL_areScores 110 = .ok (.iadd, 1) := by decide +kernel
theorem dL_areScores_111 : decode cL_areScores 111 = .ok (.istore 9, 2) := by decide +kernel
theorem dL_areScores_113 : decode cL_areScores 113 = .ok (.iload 9, 2) := by decide +kernel
theorem dL_areScores_115 : decode cL_areScores 115 = .ok (.aload_n 0, 1) := by decide +kernel
theorem dL_areScores_116 : decode cL_areScores 116 = .ok (.iload 10, 2) := by decide +kernel
theorem dL_areScores_118 : decode cL_areScores 118 = .ok (.invokevirtual 65, 3) := by decide +kernel
theorem dL_areScores_121 : decode cL_areScores 121 = .ok (.ifCond .eq 7, 3) := by decide +kernel
theorem dL_areScores_124 : decode cL_areScores 124 = .ok (.iconst 0, 1) := by decide +kernel
theorem dL_areScores_125 : decode cL_areScores 125 = .ok (.goto 15, 3) := by decide +kernel
theorem dL_areScores_128 : decode cL_areScores 128 = .ok (.aload_n 2, 1) := by decide +kernel
theorem dL_areScores_129 : decode cL_areScores 129 = .ok (.bipush 8, 2) := by decide +kernel
theorem dL_areScores_131 : decode cL_areScores 131 = .ok (.iload 8, 2) := by decide +kernel
theorem dL_areScores_133 : decode cL_areScores 133 = .ok (.imul, 1) := by decide +kernel
theorem dL_areScores_134 : decode cL_areScores 134 = .ok (.iload 10, 2) := by decide +kernel
theorem dL_areScores_136 : decode cL_areScores 136 = .ok (.iadd, 1) := by decide +kernel
theorem dL_areScores_137 : decode cL_areScores 137 = .ok (.iaload, 1) := by decide +kernel
theorem dL_areScores_138 : decode cL_areScores 138 = .ok (.iconst 2, 1) := by decide +kernel
theorem dL_areScores_139 : decode cL_areScores 139 = .ok (.ishr, 1) := by decide +kernel
theorem dL_areScores_140 : decode cL_areScores 140 = .ok (.isub, 1) := by decide +kernel
theorem dL_areScores_141 : decode cL_areScores 141 = .ok (.istore 9, 2) := by decide +kernel
theorem dL_areScores_143 : decode cL_areScores 143 = .ok (.iinc 10 1, 3) := by decide +kernel
theorem dL_areScores_146 : decode cL_areScores 146 = .ok (.goto (-89), 3) := by decide +kernel
theorem dL_areScores_149 : decode cL_areScores 149 = .ok (.iload 7, 2) := by decide +kernel
theorem dL_areScores_151 : decode cL_areScores 151 = .ok (.aload_n 3, 1) := by decide +kernel
theorem dL_areScores_152 : decode cL_areScores 152 = .ok (.iload 8, 2) := by decide +kernel
theorem dL_areScores_154 : decode cL_areScores 154 = .ok (.iaload, 1) := by decide +kernel
theorem dL_areScores_155 : decode cL_areScores 155 = .ok (.iadd, 1) := by decide +kernel
theorem dL_areScores_156 : decode cL_areScores 156 = .ok (.istore 7, 2) := by decide +kernel
theorem dL_areScores_158 : decode cL_areScores 158 = .ok (.iload 6, 2) := by decide +kernel
theorem dL_areScores_160 : decode cL_areScores 160 = .ok (.aload 4, 2) := by decide +kernel
theorem dL_areScores_162 : decode cL_areScores 162 = .ok (.iconst 4, 1) := by decide +kernel
theorem dL_areScores_163 : decode cL_areScores 163 = .ok (.iaload, 1) := by decide +kernel
theorem dL_areScores_164 : decode cL_areScores 164 = .ok (.iconst 1, 1) := by decide +kernel
theorem dL_areScores_165 : decode cL_areScores 165 = .ok (.if_icmp .ne 12, 3) := by decide +kernel
theorem dL_areScores_177 : decode cL_areScores 177 = .ok (.iconst 0, 1) := by decide +kernel
theorem dL_areScores_178 : decode cL_areScores 178 = .ok (.iadd, 1) := by decide +kernel
theorem dL_areScores_179 : decode cL_areScores 179 = .ok (.istore 6, 2) := by decide +kernel
theorem dL_areScores_181 : decode cL_areScores 181 = .ok (.aload_n 0, 1) := by decide +kernel
theorem dL_areScores_182 : decode cL_areScores 182 = .ok (.iload 8, 2) := by decide +kernel
theorem dL_areScores_184 : decode cL_areScores 184 = .ok (.invokevirtual 84, 3) := by decide +kernel
theorem dL_areScores_187 : decode cL_areScores 187 = .ok (.iload 9, 2) := by decide +kernel
theorem dL_areScores_189 : decode cL_areScores 189 = .ok (.if_icmp .ne 50, 3) := by decide +kernel
theorem dL_areScores_192 : decode cL_areScores 192 = .ok (.aload_n 0, 1) := by decide +kernel
theorem dL_areScores_193 : decode cL_areScores 193 = .ok (.iload 8, 2) := by decide +kernel
theorem dL_areScores_195 : decode cL_areScores 195 = .ok (.invokevirtual 87, 3) := by decide +kernel
theorem dL_areScores_198 : decode cL_areScores 198 = .ok (.iload 9, 2) := by decide +kernel
theorem dL_areScores_200 : decode cL_areScores 200 = .ok (.if_icmp .ne 39, 3) := by decide +kernel
theorem dL_areScores_203 : decode cL_areScores 203 = .ok (.aload_n 0, 1) := by decide +kernel
theorem dL_areScores_204 : decode cL_areScores 204 = .ok (.bipush 12, 2) := by decide +kernel
theorem dL_areScores_206 : decode cL_areScores 206 = .ok (.iload 8, 2) := by decide +kernel
theorem dL_areScores_208 : decode cL_areScores 208 = .ok (.iconst 0, 1) := by decide +kernel
theorem dL_areScores_209 : decode cL_areScores 209 = .ok (.invokestatic 114, 3) := by decide +kernel
theorem dL_areScores_212 : decode cL_areScores 212 = .ok (.aload 4, 2) := by decide +kernel
theorem dL_areScores_214 : decode cL_areScores 214 = .ok (.iconst 4, 1) := by decide +kernel
theorem dL_areScores_215 : decode cL_areScores 215 = .ok (.iaload, 1) := by decide +kernel
theorem dL_areScores_216 : decode cL_areScores 216 = .ok (.iconst 1, 1) := by decide +kernel
theorem dL_areScores_217 : decode cL_areScores 217 = .ok (.if_icmp .ne 12, 3) := by decide +kernel
theorem dL_areScores_229 : decode cL_areScores 229 = .ok (.sipush (-1203), 3) := by decide +kernel
theorem dL_areScores_232 : decode cL_areScores 232 = .ok (.if_icmp .ne 7, 3) := by decide +kernel
theorem dL_areScores_235 : decode cL_areScores 235 = .ok (.iconst 1, 1) := by decide +kernel
theorem dL_areScores_236 : decode cL_areScores 236 = .ok (.goto 4, 3) := by decide +kernel
theorem dL_areScores_239 : decode cL_areScores 239 = .ok (.iconst 0, 1) := by decide +kernel
theorem dL_areScores_240 : decode cL_areScores 240 = .ok (.istore 5, 2) := by decide +kernel
theorem dL_areScores_242 : decode cL_areScores 242 = .ok (.iinc 8 1, 3) := by decide +kernel
theorem dL_areScores_245 : decode cL_areScores 245 = .ok (.goto (-208), 3) := by decide +kernel
theorem dL_areScores_248 : decode cL_areScores 248 = .ok (.iconst 0, 1) := by decide +kernel
theorem dL_areScores_249 : decode cL_areScores 249 = .ok (.istore 8, 2) := by decide +kernel
theorem dL_areScores_251 : decode cL_areScores 251 = .ok (.iload 8, 2) := by decide +kernel
theorem dL_areScores_253 : decode cL_areScores 253 = .ok (.aload 4, 2) := by decide +kernel
theorem dL_areScores_255 : decode cL_areScores 255 = .ok (.iconst 1, 1) := by decide +kernel
theorem dL_areScores_256 : decode cL_areScores 256 = .ok (.iaload, 1) := by decide +kernel
theorem dL_areScores_257 : decode cL_areScores 257 = .ok (.if_icmp .ge 205, 3) := by decide +kernel
theorem dL_areScores_260 : decode cL_areScores 260 = .ok (.iload 5, 2) := by decide +kernel
theorem dL_areScores_262 : decode cL_areScores 262 = .ok (.ifCond .eq 200, 3) := by decide +kernel
theorem dL_areScores_265 : decode cL_areScores 265 = .ok (.aload_n 0, 1) := by decide +kernel
theorem dL_areScores_266 : decode cL_areScores 266 = .ok (.iload 8, 2) := by decide +kernel
theorem dL_areScores_268 : decode cL_areScores 268 = .ok (.invokevirtual 107, 3) := by decide +kernel
theorem dL_areScores_271 : decode cL_areScores 271 = .ok (.istore 9, 2) := by decide +kernel
theorem dL_areScores_273 : decode cL_areScores 273 = .ok (.iload 8, 2) := by decide +kernel
theorem dL_areScores_275 : decode cL_areScores 275 = .ok (.ifCond .ne 7, 3) := by decide +kernel
theorem dL_areScores_278 : decode cL_areScores 278 = .ok (.iconst (-1), 1) := by decide +kernel
theorem dL_areScores_279 : decode cL_areScores 279 = .ok (.goto 11, 3) := by decide +kernel
theorem dL_areScores_282 : decode cL_areScores 282 = .ok (.aload_n 0, 1) := by decide +kernel
theorem dL_areScores_283 : decode cL_areScores 283 = .ok (.iload 8, 2) := by decide +kernel
theorem dL_areScores_285 : decode cL_areScores 285 = .ok (.iconst 1, 1) := by decide +kernel
theorem dL_areScores_286 : decode cL_areScores 286 = .ok (.isub, 1) := by decide +kernel
theorem dL_areScores_287 : decode cL_areScores 287 = .ok (.invokevirtual 107, 3) := by decide +kernel
theorem dL_areScores_290 : decode cL_areScores 290 = .ok (.istore 10, 2) := by decide +kernel
theorem dL_areScores_292 : decode cL_areScores 292 = .ok (.iload 10, 2) := by decide +kernel
theorem dL_areScores_294 : decode cL_areScores 294 = .ok (.ifCond .ge 23, 3) := by decide +kernel
theorem dL_areScores_297 : decode cL_areScores 297 = .ok (.aload_n 0, 1) := by decide +kernel
theorem dL_areScores_298 : decode cL_areScores 298 = .ok (.iload 9, 2) := by decide +kernel
theorem dL_areScores_300 : decode cL_areScores 300 = .ok (.invokevirtual 90, 3) := by decide +kernel
theorem dL_areScores_303 : decode cL_areScores 303 = .ok (.iconst 1, 1) := by decide +kernel
theorem dL_areScores_304 : decode cL_areScores 304 = .ok (.if_icmp .ne 7, 3) := by decide +kernel
theorem dL_areScores_307 : decode cL_areScores 307 = .ok (.iconst 1, 1) := by decide +kernel
theorem dL_areScores_308 : decode cL_areScores 308 = .ok (.goto 4, 3) := by decide +kernel
theorem dL_areScores_311 : decode cL_areScores 311 = .ok (.iconst 0, 1) := by decide +kernel
theorem dL_areScores_312 : decode cL_areScores 312 = .ok (.istore 5, 2) := by decide +kernel
theorem dL_areScores_314 : decode cL_areScores 314 = .ok (.goto 142, 3) := by decide +kernel
theorem dL_areScores_317 : decode cL_areScores 317 = .ok (.aload_n 0, 1) := by decide +kernel
theorem dL_areScores_318 : decode cL_areScores 318 = .ok (.iload 10, 2) := by decide +kernel
theorem dL_areScores_320 : decode cL_areScores 320 = .ok (.invokevirtual 84, 3) := by decide +kernel
theorem dL_areScores_323 : decode cL_areScores 323 = .ok (.aload_n 0, 1) := by decide +kernel
theorem dL_areScores_324 : decode cL_areScores 324 = .ok (.iload 9, 2) := by decide +kernel
theorem dL_areScores_326 : decode cL_areScores 326 = .ok (.invokevirtual 84, 3) := by decide +kernel
theorem dL_areScores_329 : decode cL_areScores 329 = .ok (.isub, 1) := by decide +kernel
theorem dL_areScores_330 : decode cL_areScores 330 = .ok (.istore 11, 2) := by decide +kernel
theorem dL_areScores_332 : decode cL_areScores 332 = .ok (.aload_n 0, 1) := by decide +kernel
theorem dL_areScores_333 : decode cL_areScores 333 = .ok (.aload 4, 2) := by decide +kernel
theorem dL_areScores_335 : decode cL_areScores 335 = .ok (.iload 9, 2) := by decide +kernel
theorem dL_areScores_337 : decode cL_areScores 337 = .ok (.invokestatic 128, 3) := by decide +kernel
theorem dL_areScores_340 : decode cL_areScores 340 = .ok (.aload_n 0, 1) := by decide +kernel
theorem dL_areScores_341 : decode cL_areScores 341 = .ok (.aload 4, 2) := by decide +kernel
theorem dL_areScores_343 : decode cL_areScores 343 = .ok (.iload 10, 2) := by decide +kernel
theorem dL_areScores_345 : decode cL_areScores 345 = .ok (.invokestatic 128, 3) := by decide +kernel
theorem dL_areScores_348 : decode cL_areScores 348 = .ok (.isub, 1) := by decide +kernel
theorem dL_areScores_349 : decode cL_areScores 349 = .ok (.istore 12, 2) := by decide +kernel
theorem dL_areScores_351 : decode cL_areScores 351 = .ok (.iload 11, 2) := by decide +kernel
theorem dL_areScores_353 : decode cL_areScores 353 = .ok (.ifCond .ne 12, 3) := by decide +kernel
theorem dL_areScores_356 : decode cL_areScores 356 = .ok (.iload 12, 2) := by decide +kernel
theorem dL_areScores_358 : decode cL_areScores 358 = .ok (.ifCond .ne 7, 3) := by decide +kernel
theorem dL_areScores_361 : decode cL_areScores 361 = .ok (.iconst 1, 1) := by decide +kernel
theorem dL_areScores_362 : decode cL_areScores 362 = .ok (.goto 4, 3) := by decide +kernel
theorem dL_areScores_365 : decode cL_areScores 365 = .ok (.iconst 0, 1) := by decide +kernel
theorem dL_areScores_366 : decode cL_areScores 366 = .ok (.istore 13, 2) := by decide +kernel
theorem dL_areScores_368 : decode cL_areScores 368 = .ok (.iload 11, 2) := by decide +kernel
theorem dL_areScores_370 : decode cL_areScores 370 = .ok (.ifCond .gt 25, 3) := by decide +kernel
theorem dL_areScores_373 : decode cL_areScores 373 = .ok (.iload 11, 2) := by decide +kernel
theorem dL_areScores_375 : decode cL_areScores 375 = .ok (.ifCond .ne 8, 3) := by decide +kernel
theorem dL_areScores_378 : decode cL_areScores 378 = .ok (.iload 12, 2) := by decide +kernel
theorem dL_areScores_380 : decode cL_areScores 380 = .ok (.ifCond .gt 15, 3) := by decide +kernel
theorem dL_areScores_383 : decode cL_areScores 383 = .ok (.iload 13, 2) := by decide +kernel
theorem dL_areScores_385 : decode cL_areScores 385 = .ok (.ifCond .eq 68, 3) := by decide +kernel
theorem dL_areScores_388 : decode cL_areScores 388 = .ok (.iload 10, 2) := by decide +kernel
theorem dL_areScores_390 : decode cL_areScores 390 = .ok (.iload 9, 2) := by decide +kernel
theorem dL_areScores_392 : decode cL_areScores 392 = .ok (.if_icmp .ge 61, 3) := by decide +kernel
theorem dL_areScores_395 : decode cL_areScores 395 = .ok (.aload_n 0, 1) := by decide +kernel
theorem dL_areScores_396 : decode cL_areScores 396 = .ok (.iload 9, 2) := by decide +kernel
theorem dL_areScores_398 : decode cL_areScores 398 = .ok (.invokevirtual 90, 3) := by decide +kernel
theorem dL_areScores_401 : decode cL_areScores 401 = .ok (.iload 13, 2) := by decide +kernel
theorem dL_areScores_403 : decode cL_areScores 403 = .ok (.ifCond .eq 12, 3) := by decide +kernel
theorem dL_areScores_406 : decode cL_areScores 406 = .ok (.aload_n 0, 1) := by decide +kernel
theorem dL_areScores_407 : decode cL_areScores 407 = .ok (.iload 10, 2) := by decide +kernel
theorem dL_areScores_409 : decode cL_areScores 409 = .ok (.invokevirtual 90, 3) := by decide +kernel
theorem dL_areScores_412 : decode cL_areScores 412 = .ok (.goto 7, 3) := by decide +kernel
theorem dL_areScores_415 : decode cL_areScores 415 = .ok (.iload 8, 2) := by decide +kernel
theorem dL_areScores_417 : decode cL_areScores 417 = .ok (.iconst 1, 1) := by decide +kernel
theorem dL_areScores_418 : decode cL_areScores 418 = .ok (.iadd, 1) := by decide +kernel
theorem dL_areScores_419 : decode cL_areScores 419 = .ok (.if_icmp .ne 34, 3) := by decide +kernel
theorem dL_areScores_422 : decode cL_areScores 422 = .ok (.aload 4, 2) := by decide +kernel
theorem dL_areScores_424 : decode cL_areScores 424 = .ok (.iconst 4, 1) := by decide +kernel
theorem dL_areScores_425 : decode cL_areScores 425 = .ok (.iaload, 1) := by decide +kernel
theorem dL_areScores_426 : decode cL_areScores 426 = .ok (.ifCond .eq 23, 3) := by decide +kernel
theorem dL_areScores_449 : decode cL_areScores 449 = .ok (.iconst 1, 1) := by decide +kernel
theorem dL_areScores_450 : decode cL_areScores 450 = .ok (.goto 4, 3) := by decide +kernel
theorem dL_areScores_453 : decode cL_areScores 453 = .ok (.iconst 0, 1) := by decide +kernel
theorem dL_areScores_454 : decode cL_areScores 454 = .ok (.istore 5, 2) := by decide +kernel
theorem dL_areScores_456 : decode cL_areScores 456 = .ok (.iinc 8 1, 3) := by decide +kernel
theorem dL_areScores_459 : decode cL_areScores 459 = .ok (.goto (-208), 3) := by decide +kernel
theorem dL_areScores_462 : decode cL_areScores 462 = .ok (.iload 5, 2) := by decide +kernel
theorem dL_areScores_464 : decode cL_areScores 464 = .ok (.ifCond .eq 46, 3) := by decide +kernel
theorem dL_areScores_467 : decode cL_areScores 467 = .ok (.aload 4, 2) := by decide +kernel
theorem dL_areScores_469 : decode cL_areScores 469 = .ok (.iconst 4, 1) := by decide +kernel
theorem dL_areScores_470 : decode cL_areScores 470 = .ok (.iaload, 1) := by decide +kernel
theorem dL_areScores_471 : decode cL_areScores 471 = .ok (.ifCond .eq 35, 3) := by decide +kernel
theorem dL_areScores_506 : decode cL_areScores 506 = .ok (.iconst 1, 1) := by decide +kernel
theorem dL_areScores_507 : decode cL_areScores 507 = .ok (.goto 4, 3) := by decide +kernel
theorem dL_areScores_510 : decode cL_areScores 510 = .ok (.iconst 0, 1) := by decide +kernel
theorem dL_areScores_511 : decode cL_areScores 511 = .ok (.ireturn, 1) := by decide +kernel
theorem ck_L_areOpened : CKg yL_areOpened (Cond.code yL_areOpened cL_areOpened 13 (some .boolean)) 5 := ⟨v_667, w_60, ⟨by decide +kernel, by decide +kernel⟩, by decide +kernel, v_666⟩
theorem ck_L_areScores : CKg yL_areScores (Cond.code yL_areScores cL_areScores 14 (some .boolean)) 5 := ⟨v_682, w_60, ⟨by decide +kernel, by decide +kernel⟩, by decide +kernel, v_681⟩
set_option maxHeartbeats 8000000 in
set_option maxRecDepth 100000 in
theorem t_areOpened {l : Launch} (hfl : l.flags = flags0) {D : va_G} {cI cZ cL : ClassId} {ad aa : Nat → Nat} {fa S : Mem} {m0 m1 : Nat} (hD : va_D (aC ad cI) (wC ad cI mem0)) (hA : ∀ q, aW (wA aa cI mem0) q → ¬ aC ad cI q) (hfa : FA fa m0 m1) (hJ : JS S m0 m1) :
    GM l D cI cZ cL ad aa fa S yL_areOpened [Cond.code yL_areOpened cL_areOpened 13 (some .boolean)] 9 6 [.ref (ad 0), .ref (aa 0), .ref (aa 2), .ref (aa 3), .ref (aa 5)] m0 m1 (pB) := by
  refine GM.of (by decide) (Nat.le_of_ble_eq_true rfl) hfl hD hA hJ ?_
  intro p e s m args below meth c ls hx hb hr hlk hown C hw hl
  obtain ⟨⟨hm0, hm1⟩, ⟨f50, f51, f52, f54⟩, fh, ff, fr⟩ := hfa
  have hl : lv_has ls 13 [(0, .ref (ad 0)), (1, .ref (aa 0)), (2, .ref (aa 2)), (3, .ref (aa 3)), (4, .ref (aa 5))] := hl
  refine lv_iconst (v := 1) hx hb dL_areOpened_0 (by decide) ?_
  refine lv_istore (lv' := [(5, .int 1), (0, .ref (ad 0)), (1, .ref (aa 0)), (2, .ref (aa 2)), (3, .ref (aa 3)), (4, .ref (aa 5))]) hx hb dL_areOpened_1 hl (by decide) rfl (fun ls hl => ?_)
  refine lv_iconst (v := 0) hx hb dL_areOpened_3 (by decide) ?_
  refine lv_istore (lv' := [(6, .int 0), (5, .int 1), (0, .ref (ad 0)), (1, .ref (aa 0)), (2, .ref (aa 2)), (3, .ref (aa 3)), (4, .ref (aa 5))]) hx hb dL_areOpened_4 hl (by decide) rfl (fun ls hl => ?_)
  have hj_377_3 : ∀ (S : Mem) (H : Heap) (locs : List Loc), GW D cI (aC ad cI) ad aa fa m0 m1 s S H locs → ∀ z2 : Bool, ∀ ls : Array Slot, lv_has ls 13 [(5, .int (bI z2))] → W p l e (rg 9 6) s m args below meth c H locs (2 * m0 + 0) (6 * (2 * m0 + 0)) (MQ below (QG D cI ad m0 m1 (pB)) args s 6 (6 * 6) (aC ad cI)) (F0 m 377 ls []) := by
    intro S H locs hw z2 ls hl
    refine lv_iload hx hb dL_areOpened_377 (lv_at hl 0 rfl) ?_
    exact g_ret (mc := 6) hx hb hr hlk hw (n_bI _) (⟨z2, rfl⟩) ⟨by omega, by omega⟩ dL_areOpened_379
  have hloop_6_5 : ∀ (n i1 : Nat), i1 ≤ m0 → m0 < i1 + n → 0 ≤ i1 → ∀ (S : Mem) (H : Heap) (locs : List Loc), GW D cI (aC ad cI) ad aa fa m0 m1 s S H locs → ∀ z4 : Bool, ∀ ls : Array Slot, lv_has ls 13 [(6, .int (nI i1)), (5, .int (bI z4)), (0, .ref (ad 0)), (1, .ref (aa 0)), (2, .ref (aa 2)), (3, .ref (aa 3)), (4, .ref (aa 5))] → W p l e (rg 9 6) s m args below meth c H locs (2 * i1 + 0) (6 * (2 * i1 + 0)) (MQ below (QG D cI ad m0 m1 (pB)) args s 6 (6 * 6) (aC ad cI)) (F0 m 6 ls []) := by
    intro n
    induction n with
    | zero => intro i1 h1 h2; exact absurd h2 (by omega)
    | succ n ih_6 =>
      intro i1 hi_6 hn_6 hs_6 S H locs hw z4 ls hl
      refine lv_iload hx hb dL_areOpened_6 (lv_at hl 0 rfl) ?_
      refine lv_aload hx hb dL_areOpened_8 (lv_at hl 6 rfl) ?_
      refine lv_iconst (v := 0) hx hb dL_areOpened_10 (by decide) ?_
      refine g_ld (n := 5) (i := 0) C hw 5 rfl (by omega) (Nat.le_of_ble_eq_true rfl) dL_areOpened_11 ?_
      refine q_top (y := nI m0) (f50) ?_
      refine lv_icmp_ge (tgt := 377) hx hb dL_areOpened_12 (by decide) (fun c_6 => ?_) (fun c_6 => ?_)
      · skip
        have c_6 : m0 ≤ i1 := n_le (a := m0) (b := i1) (by omega) (by omega) c_6
        refine W.widen (k := 2 * m0 + 0) (n := 6 * (2 * m0 + 0)) (by omega) (by omega) ?_
        exact hj_377_3 S H locs hw z4 ls (lv_sub hl [1] rfl)
      · skip
        have c_6 : i1 < m0 := n_nle (a := m0) (b := i1) (by omega) (by omega) c_6
        refine lv_iload hx hb dL_areOpened_15 (lv_at hl 1 rfl) ?_
        refine lv_if_eq (tgt := 377) hx hb dL_areOpened_17 (by decide) (fun c_7 => ?_) (fun c_7 => ?_)
        · skip
          have c_7 : z4 = false := b_f c_7
          subst c_7
          refine W.widen (k := 2 * m0 + 0) (n := 6 * (2 * m0 + 0)) (by omega) (by omega) ?_
          exact hj_377_3 S H locs hw false ls (lv_sub hl [1] rfl)
        · skip
          have c_7 : z4 = true := b_t c_7
          subst c_7
          refine lv_iconst (v := 0) hx hb dL_areOpened_20 (by decide) ?_
          refine lv_istore (lv' := [(7, .int 0), (6, .int (nI i1)), (5, .int (bI true)), (0, .ref (ad 0)), (1, .ref (aa 0)), (2, .ref (aa 2)), (3, .ref (aa 3)), (4, .ref (aa 5))]) hx hb dL_areOpened_21 hl (by decide) rfl (fun ls hl => ?_)
          refine lv_iconst (v := 0) hx hb dL_areOpened_23 (by decide) ?_
          refine lv_istore (lv' := [(8, .int 0), (7, .int 0), (6, .int (nI i1)), (5, .int (bI true)), (0, .ref (ad 0)), (1, .ref (aa 0)), (2, .ref (aa 2)), (3, .ref (aa 3)), (4, .ref (aa 5))]) hx hb dL_areOpened_24 hl (by decide) rfl (fun ls hl => ?_)
          have hj_334_10 : ∀ (S : Mem) (H : Heap) (locs : List Loc), GW D cI (aC ad cI) ad aa fa m0 m1 s S H locs → ∀ z9 : Bool, ∀ ls : Array Slot, lv_has ls 13 [(7, .int 0), (6, .int (nI i1)), (5, .int (bI z9)), (0, .ref (ad 0)), (1, .ref (aa 0)), (2, .ref (aa 2)), (3, .ref (aa 3)), (4, .ref (aa 5))] → W p l e (rg 9 6) s m args below meth c H locs (2 * i1 + 1 * m1 + 0) (6 * (2 * i1 + 1 * m1 + 0)) (MQ below (QG D cI ad m0 m1 (pB)) args s 6 (6 * 6) (aC ad cI)) (F0 m 334 ls []) := by
            intro S H locs hw z9 ls hl
            refine lv_iload hx hb dL_areOpened_334 (lv_at hl 2 rfl) ?_
            have hj_369_12 : ∀ (S : Mem) (H : Heap) (locs : List Loc), GW D cI (aC ad cI) ad aa fa m0 m1 s S H locs → ∀ z11 : Bool, ∀ ls : Array Slot, lv_has ls 13 [(6, .int (nI i1)), (0, .ref (ad 0)), (1, .ref (aa 0)), (2, .ref (aa 2)), (3, .ref (aa 3)), (4, .ref (aa 5))] → W p l e (rg 9 6) s m args below meth c H locs (2 * i1 + 1 * m1 + 0) (6 * (2 * i1 + 1 * m1 + 0)) (MQ below (QG D cI ad m0 m1 (pB)) args s 6 (6 * 6) (aC ad cI)) (F0 m 369 ls [.int (bI z11)]) := by
              intro S H locs hw z11 ls hl
              refine lv_istore (lv' := [(5, .int (bI z11)), (6, .int (nI i1)), (0, .ref (ad 0)), (1, .ref (aa 0)), (2, .ref (aa 2)), (3, .ref (aa 3)), (4, .ref (aa 5))]) hx hb dL_areOpened_369 hl (by decide) rfl (fun ls hl => ?_)
              refine lv_iinc (v := nI (i1 + 1)) (lv' := [(6, .int (nI (i1 + 1))), (5, .int (bI z11)), (0, .ref (ad 0)), (1, .ref (aa 0)), (2, .ref (aa 2)), (3, .ref (aa 3)), (4, .ref (aa 5))]) hx hb dL_areOpened_371 hl (k := 1) rfl (nI_1 i1) (by decide) rfl (fun ls hl => ?_)
              refine lv_goto (tgt := 6) hx hb dL_areOpened_374 (by decide) ?_
              refine W.widen (k := 2 * (i1 + 1) + 0) (n := 6 * (2 * (i1 + 1) + 0)) (by omega) (by omega) ?_
              exact ih_6 (i1 + 1) (by omega) (by omega) (by omega) S H locs hw z11 ls (lv_sub hl [0, 1, 2, 3, 4, 5, 6] rfl)
            refine lv_if_eq (tgt := 368) hx hb dL_areOpened_336 (by decide) (fun c_13 => ?_) (fun c_13 => ?_)
            · skip
              have c_13 : z9 = false := b_f c_13
              subst c_13
              refine lv_iconst (v := 0) hx hb dL_areOpened_368 (by decide) ?_
              exact hj_369_12 S H locs hw false ls (lv_sub hl [1, 3, 4, 5, 6, 7] rfl)
            · skip
              have c_13 : z9 = true := b_t c_13
              subst c_13
              refine lv_aload_n hx hb dL_areOpened_339 rfl (lv_at hl 3 rfl) ?_
              refine lv_iload hx hb dL_areOpened_340 (lv_at hl 1 rfl) ?_
              refine g_rd (rest := []) C hw (c_X5_isFree l D cI cZ cL ad S (nI i1) hw.2.2.2.i0 (nn_free hw.2.2.2 (by omega))) ck_X5_isFree v_319 rfl hl.1 rfl ⟨Nat.le_of_ble_eq_true rfl, Nat.le_of_ble_eq_true rfl⟩ (Nat.le_of_ble_eq_true rfl) dL_areOpened_342 ⟨by omega, by omega⟩ ?_
              refine g_any (fun z14 => ?_)
              refine lv_iload hx hb dL_areOpened_345 (lv_at hl 0 rfl) ?_
              refine lv_iload hx hb dL_areOpened_347 (lv_at hl 1 rfl) ?_
              refine lv_ishr hx hb dL_areOpened_349 ?_
              refine q_top (y := 0) (shr_0 _) ?_
              refine lv_iconst (v := 1) hx hb dL_areOpened_350 (by decide) ?_
              refine lv_iand hx hb dL_areOpened_351 ?_
              refine q_top (y := 0) (by decide) ?_
              refine lv_iconst (v := 1) hx hb dL_areOpened_352 (by decide) ?_
              refine lv_icmp_ne (tgt := 360) hx hb dL_areOpened_353 (by decide) (fun c_15 => ?_) (fun c_15 => ?_)
              · skip
                refine lv_iconst (v := 0) hx hb dL_areOpened_360 (by decide) ?_
                refine lv_icmp_ne (tgt := 368) hx hb dL_areOpened_361 (by decide) (fun c_16 => ?_) (fun c_16 => ?_)
                · skip
                  refine lv_iconst (v := 0) hx hb dL_areOpened_368 (by decide) ?_
                  exact hj_369_12 S H locs hw false ls (lv_sub hl [1, 3, 4, 5, 6, 7] rfl)
                · skip
                  refine lv_iconst (v := 1) hx hb dL_areOpened_364 (by decide) ?_
                  refine lv_goto (tgt := 369) hx hb dL_areOpened_365 (by decide) ?_
                  exact hj_369_12 S H locs hw true ls (lv_sub hl [1, 3, 4, 5, 6, 7] rfl)
              · skip
                exact absurd c_15 (by decide)
          have hloop_26_18 : ∀ (n i8 : Nat), i8 ≤ m1 → m1 < i8 + n → 0 ≤ i8 → ∀ (S : Mem) (H : Heap) (locs : List Loc), GW D cI (aC ad cI) ad aa fa m0 m1 s S H locs → ∀ z17 : Bool, ∀ ls : Array Slot, lv_has ls 13 [(8, .int (nI i8)), (7, .int 0), (6, .int (nI i1)), (5, .int (bI z17)), (0, .ref (ad 0)), (1, .ref (aa 0)), (2, .ref (aa 2)), (3, .ref (aa 3)), (4, .ref (aa 5))] → W p l e (rg 9 6) s m args below meth c H locs (2 * i1 + 1 * i8 + 0) (6 * (2 * i1 + 1 * i8 + 0)) (MQ below (QG D cI ad m0 m1 (pB)) args s 6 (6 * 6) (aC ad cI)) (F0 m 26 ls []) := by
            intro n
            induction n with
            | zero => intro i8 h1 h2; exact absurd h2 (by omega)
            | succ n ih_26 =>
              intro i8 hi_26 hn_26 hs_26 S H locs hw z17 ls hl
              refine lv_iload hx hb dL_areOpened_26 (lv_at hl 0 rfl) ?_
              refine lv_aload hx hb dL_areOpened_28 (lv_at hl 8 rfl) ?_
              refine lv_iconst (v := 1) hx hb dL_areOpened_30 (by decide) ?_
              refine g_ld (n := 5) (i := 1) C hw 5 rfl (by omega) (Nat.le_of_ble_eq_true rfl) dL_areOpened_31 ?_
              refine q_top (y := nI m1) (f51) ?_
              refine lv_icmp_ge (tgt := 334) hx hb dL_areOpened_32 (by decide) (fun c_19 => ?_) (fun c_19 => ?_)
              · skip
                have c_19 : m1 ≤ i8 := n_le (a := m1) (b := i8) (by omega) (by omega) c_19
                refine W.widen (k := 2 * i1 + 1 * m1 + 0) (n := 6 * (2 * i1 + 1 * m1 + 0)) (by omega) (by omega) ?_
                exact hj_334_10 S H locs hw z17 ls (lv_sub hl [1, 2, 3, 4, 5, 6, 7, 8] rfl)
              · skip
                have c_19 : i8 < m1 := n_nle (a := m1) (b := i8) (by omega) (by omega) c_19
                refine lv_iload hx hb dL_areOpened_35 (lv_at hl 3 rfl) ?_
                refine lv_if_eq (tgt := 334) hx hb dL_areOpened_37 (by decide) (fun c_20 => ?_) (fun c_20 => ?_)
                · skip
                  have c_20 : z17 = false := b_f c_20
                  subst c_20
                  refine W.widen (k := 2 * i1 + 1 * m1 + 0) (n := 6 * (2 * i1 + 1 * m1 + 0)) (by omega) (by omega) ?_
                  exact hj_334_10 S H locs hw false ls (lv_sub hl [1, 2, 3, 4, 5, 6, 7, 8] rfl)
                · skip
                  have c_20 : z17 = true := b_t c_20
                  subst c_20
                  refine lv_iconst (v := 0) hx hb dL_areOpened_40 (by decide) ?_
                  refine lv_istore (lv' := [(9, .int 0), (8, .int (nI i8)), (7, .int 0), (6, .int (nI i1)), (5, .int (bI true)), (0, .ref (ad 0)), (1, .ref (aa 0)), (2, .ref (aa 2)), (3, .ref (aa 3)), (4, .ref (aa 5))]) hx hb dL_areOpened_41 hl (by decide) rfl (fun ls hl => ?_)
                  refine lv_iconst (v := 0) hx hb dL_areOpened_43 (by decide) ?_
                  refine lv_istore (lv' := [(10, .int 0), (9, .int 0), (8, .int (nI i8)), (7, .int 0), (6, .int (nI i1)), (5, .int (bI true)), (0, .ref (ad 0)), (1, .ref (aa 0)), (2, .ref (aa 2)), (3, .ref (aa 3)), (4, .ref (aa 5))]) hx hb dL_areOpened_44 hl (by decide) rfl (fun ls hl => ?_)
                  have hj_142_22 : ∀ (S : Mem) (H : Heap) (locs : List Loc), GW D cI (aC ad cI) ad aa fa m0 m1 s S H locs → ∀ ls : Array Slot, lv_has ls 13 [(9, .int 0), (8, .int (nI i8)), (7, .int 0), (6, .int (nI i1)), (0, .ref (ad 0)), (1, .ref (aa 0)), (2, .ref (aa 2)), (3, .ref (aa 3)), (4, .ref (aa 5))] → W p l e (rg 9 6) s m args below meth c H locs (2 * i1 + 1 * i8 + 0) (6 * (2 * i1 + 1 * i8 + 0)) (MQ below (QG D cI ad m0 m1 (pB)) args s 6 (6 * 6) (aC ad cI)) (F0 m 142 ls []) := by
                    intro S H locs hw ls hl
                    refine lv_aload_n hx hb dL_areOpened_142 rfl (lv_at hl 6 rfl) ?_
                    refine lv_bipush (v := 8) hx hb dL_areOpened_143 (by decide) ?_
                    refine lv_iload hx hb dL_areOpened_145 (lv_at hl 1 rfl) ?_
                    refine lv_imul hx hb dL_areOpened_147 ?_
                    refine q_top (y := nI (8 * i8)) (pk_mul 8 i8) ?_
                    refine lv_iload hx hb dL_areOpened_148 (lv_at hl 3 rfl) ?_
                    refine lv_iadd hx hb dL_areOpened_150 ?_
                    refine q_top (y := nI (8 * i8 + i1)) (nI_add (8 * i8) i1) ?_
                    refine g_ld (n := 40) (i := (8 * i8 + i1)) C hw 2 rfl (by omega) (Nat.le_of_ble_eq_true rfl) dL_areOpened_151 ?_
                    refine q_top (y := 0) (fh _) ?_
                    refine lv_iconst (v := 3) hx hb dL_areOpened_152 (by decide) ?_
                    refine lv_iand hx hb dL_areOpened_153 ?_
                    refine q_top (y := 0) (by decide) ?_
                    refine lv_istore (lv' := [(10, .int 0), (9, .int 0), (8, .int (nI i8)), (7, .int 0), (6, .int (nI i1)), (0, .ref (ad 0)), (1, .ref (aa 0)), (2, .ref (aa 2)), (3, .ref (aa 3)), (4, .ref (aa 5))]) hx hb dL_areOpened_154 hl (by decide) rfl (fun ls hl => ?_)
                    refine lv_iconst (v := 0) hx hb dL_areOpened_156 (by decide) ?_
                    refine lv_istore (lv' := [(11, .int 0), (10, .int 0), (9, .int 0), (8, .int (nI i8)), (7, .int 0), (6, .int (nI i1)), (0, .ref (ad 0)), (1, .ref (aa 0)), (2, .ref (aa 2)), (3, .ref (aa 3)), (4, .ref (aa 5))]) hx hb dL_areOpened_157 hl (by decide) rfl (fun ls hl => ?_)
                    refine lv_iconst (v := 0) hx hb dL_areOpened_159 (by decide) ?_
                    refine lv_istore (lv' := [(12, .int 0), (11, .int 0), (10, .int 0), (9, .int 0), (8, .int (nI i8)), (7, .int 0), (6, .int (nI i1)), (0, .ref (ad 0)), (1, .ref (aa 0)), (2, .ref (aa 2)), (3, .ref (aa 3)), (4, .ref (aa 5))]) hx hb dL_areOpened_160 hl (by decide) rfl (fun ls hl => ?_)
                    have hj_204_24 : ∀ (S : Mem) (H : Heap) (locs : List Loc), GW D cI (aC ad cI) ad aa fa m0 m1 s S H locs → ∀ ls : Array Slot, lv_has ls 13 [(11, .int 0), (10, .int 0), (9, .int 0), (8, .int (nI i8)), (7, .int 0), (6, .int (nI i1)), (0, .ref (ad 0)), (1, .ref (aa 0)), (2, .ref (aa 2)), (3, .ref (aa 3)), (4, .ref (aa 5))] → W p l e (rg 9 6) s m args below meth c H locs (2 * i1 + 1 * i8 + 0) (6 * (2 * i1 + 1 * i8 + 0)) (MQ below (QG D cI ad m0 m1 (pB)) args s 6 (6 * 6) (aC ad cI)) (F0 m 204 ls []) := by
                      intro S H locs hw ls hl
                      refine lv_aload_n hx hb dL_areOpened_204 rfl (lv_at hl 7 rfl) ?_
                      refine lv_bipush (v := 6) hx hb dL_areOpened_205 (by decide) ?_
                      refine lv_iload hx hb dL_areOpened_207 (lv_at hl 5 rfl) ?_
                      refine lv_imul hx hb dL_areOpened_209 ?_
                      refine q_top (y := nI (6 * i1)) (pk_mul 6 i1) ?_
                      refine lv_iconst (v := 3) hx hb dL_areOpened_210 (by decide) ?_
                      refine lv_iadd hx hb dL_areOpened_211 ?_
                      refine q_top (y := nI (6 * i1 + 3)) (nI_add (6 * i1) 3) ?_
                      refine g_ld (n := 48) (i := (6 * i1 + 3)) C hw 0 rfl (by omega) (Nat.le_of_ble_eq_true rfl) dL_areOpened_212 ?_
                      refine g_any (fun z25 => ?_)
                      refine lv_aload_n hx hb dL_areOpened_213 rfl (lv_at hl 6 rfl) ?_
                      refine g_rd (rest := [.int z25]) C hw (c_X5_now l D cI cZ cL ad S hw.2.2.2.i0) ck_X5_now v_227 rfl hl.1 rfl ⟨Nat.le_of_ble_eq_true rfl, Nat.le_of_ble_eq_true rfl⟩ (Nat.le_of_ble_eq_true rfl) dL_areOpened_214 ⟨by omega, by omega⟩ ?_
                      refine g_any (fun z26 => ?_)
                      refine lv_iload hx hb dL_areOpened_217 (lv_at hl 2 rfl) ?_
                      refine lv_isub hx hb dL_areOpened_219 ?_
                      refine g_any (fun z27 => ?_)
                      refine lv_bipush (v := 10) hx hb dL_areOpened_220 (by decide) ?_
                      refine lv_idiv hx hb dL_areOpened_222 (by decide) ?_
                      refine g_any (fun z28 => ?_)
                      refine lv_isub hx hb dL_areOpened_223 ?_
                      refine g_any (fun z29 => ?_)
                      refine lv_iload hx hb dL_areOpened_224 (lv_at hl 0 rfl) ?_
                      refine lv_isub hx hb dL_areOpened_226 ?_
                      refine g_any (fun z30 => ?_)
                      refine lv_istore (lv' := [(12, .int z30), (11, .int 0), (10, .int 0), (9, .int 0), (8, .int (nI i8)), (7, .int 0), (6, .int (nI i1)), (0, .ref (ad 0)), (1, .ref (aa 0)), (2, .ref (aa 2)), (3, .ref (aa 3)), (4, .ref (aa 5))]) hx hb dL_areOpened_227 hl (by decide) rfl (fun ls hl => ?_)
                      refine lv_iload hx hb dL_areOpened_229 (lv_at hl 5 rfl) ?_
                      refine lv_aload_n hx hb dL_areOpened_231 rfl (lv_at hl 10 rfl) ?_
                      refine lv_iload hx hb dL_areOpened_232 (lv_at hl 4 rfl) ?_
                      refine g_ld (n := 5) (i := i8) C hw 3 rfl (by omega) (Nat.le_of_ble_eq_true rfl) dL_areOpened_234 ?_
                      refine q_top (y := 0) (ff _) ?_
                      refine lv_ior hx hb dL_areOpened_235 ?_
                      refine q_top (y := 0) (by decide) ?_
                      refine lv_istore (lv' := [(7, .int 0), (12, .int z30), (11, .int 0), (10, .int 0), (9, .int 0), (8, .int (nI i8)), (6, .int (nI i1)), (0, .ref (ad 0)), (1, .ref (aa 0)), (2, .ref (aa 2)), (3, .ref (aa 3)), (4, .ref (aa 5))]) hx hb dL_areOpened_236 hl (by decide) rfl (fun ls hl => ?_)
                      refine lv_aload_n hx hb dL_areOpened_238 rfl (lv_at hl 7 rfl) ?_
                      refine lv_iload hx hb dL_areOpened_239 (lv_at hl 5 rfl) ?_
                      refine lv_iload hx hb dL_areOpened_241 (lv_at hl 6 rfl) ?_
                      refine g_rd (rest := []) C hw (c_X5_openedAt l D cI cZ cL ad S (nI i8) (nI i1) hw.2.2.2.i0 (nn_opened hw.2.2.2 (by omega) (by omega))) ck_X5_openedAt v_540 rfl hl.1 rfl ⟨Nat.le_of_ble_eq_true rfl, Nat.le_of_ble_eq_true rfl⟩ (Nat.le_of_ble_eq_true rfl) dL_areOpened_243 ⟨by omega, by omega⟩ ?_
                      refine g_any (fun z31 => ?_)
                      refine lv_iload hx hb dL_areOpened_246 (lv_at hl 4 rfl) ?_
                      have hj_326_33 : ∀ (S : Mem) (H : Heap) (locs : List Loc), GW D cI (aC ad cI) ad aa fa m0 m1 s S H locs → ∀ z32 : Bool, ∀ ls : Array Slot, lv_has ls 13 [(7, .int 0), (8, .int (nI i8)), (6, .int (nI i1)), (0, .ref (ad 0)), (1, .ref (aa 0)), (2, .ref (aa 2)), (3, .ref (aa 3)), (4, .ref (aa 5))] → W p l e (rg 9 6) s m args below meth c H locs (2 * i1 + 1 * i8 + 1) (6 * (2 * i1 + 1 * i8 + 1)) (MQ below (QG D cI ad m0 m1 (pB)) args s 6 (6 * 6) (aC ad cI)) (F0 m 326 ls [.int (bI z32)]) := by
                        intro S H locs hw z32 ls hl
                        refine lv_istore (lv' := [(5, .int (bI z32)), (7, .int 0), (8, .int (nI i8)), (6, .int (nI i1)), (0, .ref (ad 0)), (1, .ref (aa 0)), (2, .ref (aa 2)), (3, .ref (aa 3)), (4, .ref (aa 5))]) hx hb dL_areOpened_326 hl (by decide) rfl (fun ls hl => ?_)
                        refine lv_iinc (v := nI (i8 + 1)) (lv' := [(8, .int (nI (i8 + 1))), (5, .int (bI z32)), (7, .int 0), (6, .int (nI i1)), (0, .ref (ad 0)), (1, .ref (aa 0)), (2, .ref (aa 2)), (3, .ref (aa 3)), (4, .ref (aa 5))]) hx hb dL_areOpened_328 hl (k := 2) rfl (nI_1 i8) (by decide) rfl (fun ls hl => ?_)
                        refine lv_goto (tgt := 26) hx hb dL_areOpened_331 (by decide) ?_
                        refine W.widen (k := 2 * i1 + 1 * (i8 + 1) + 0) (n := 6 * (2 * i1 + 1 * (i8 + 1) + 0)) (by omega) (by omega) ?_
                        exact ih_26 (i8 + 1) (by omega) (by omega) (by omega) S H locs hw z32 ls (lv_sub hl [0, 2, 3, 1, 4, 5, 6, 7, 8] rfl)
                      refine lv_icmp_ne (tgt := 325) hx hb dL_areOpened_248 (by decide) (fun c_34 => ?_) (fun c_34 => ?_)
                      · skip
                        refine lv_iconst (v := 0) hx hb dL_areOpened_325 (by decide) ?_
                        refine W.widen (k := 2 * i1 + 1 * i8 + 1) (n := 6 * (2 * i1 + 1 * i8 + 1)) (by omega) (by omega) ?_
                        exact hj_326_33 S H locs hw false ls (lv_sub hl [0, 5, 6, 7, 8, 9, 10, 11] rfl)
                      · skip
                        refine lv_aload_n hx hb dL_areOpened_251 rfl (lv_at hl 7 rfl) ?_
                        refine lv_iconst (v := 0) hx hb dL_areOpened_252 (by decide) ?_
                        refine lv_iload hx hb dL_areOpened_253 (lv_at hl 5 rfl) ?_
                        refine lv_iload hx hb dL_areOpened_255 (lv_at hl 6 rfl) ?_
                        refine g_hlW (rest := []) C hw (of0 C.1.2.2.2.2 C.2.2.1 C.2.2.2.1 hw.2.2.2 (t := i8) (k := i1) (by omega) (by omega)) ck_L_of v_516 hl.1 rfl ⟨Nat.le_of_ble_eq_true rfl, Nat.le_of_ble_eq_true rfl⟩ (Nat.le_of_ble_eq_true rfl) dL_areOpened_257 ⟨by omega, by omega⟩ (fun v S H locs hpo hle hw => ?_)
                        obtain ⟨z35, rfl⟩ := hpo
                        refine W.widen (k := 2 * i1 + 1 * i8 + 1) (n := 6 * (2 * i1 + 1 * i8 + 1)) (by omega) (by omega) ?_
                        refine lv_iload hx hb dL_areOpened_260 (lv_at hl 4 rfl) ?_
                        refine lv_if_lt (tgt := 271) hx hb dL_areOpened_262 (by decide) (fun c_36 => ?_) (fun c_36 => ?_)
                        · skip
                          exact absurd c_36 (by decide)
                        · skip
                          refine lv_iload hx hb dL_areOpened_265 (lv_at hl 3 rfl) ?_
                          refine lv_iconst (v := 3) hx hb dL_areOpened_267 (by decide) ?_
                          refine lv_icmp_ne (tgt := 277) hx hb dL_areOpened_268 (by decide) (fun c_37 => ?_) (fun c_37 => ?_)
                          · skip
                            refine lv_iload hx hb dL_areOpened_277 (lv_at hl 1 rfl) ?_
                            refine lv_iconst (v := 1) hx hb dL_areOpened_279 (by decide) ?_
                            have hj_289_39 : ∀ (S : Mem) (H : Heap) (locs : List Loc), GW D cI (aC ad cI) ad aa fa m0 m1 s S H locs → ∀ z38 : Int32, ∀ ls : Array Slot, lv_has ls 13 [(7, .int 0), (9, .int 0), (8, .int (nI i8)), (6, .int (nI i1)), (0, .ref (ad 0)), (1, .ref (aa 0)), (2, .ref (aa 2)), (3, .ref (aa 3)), (4, .ref (aa 5))] → W p l e (rg 9 6) s m args below meth c H locs (2 * i1 + 1 * i8 + 1) (6 * (2 * i1 + 1 * i8 + 1)) (MQ below (QG D cI ad m0 m1 (pB)) args s 6 (6 * 6) (aC ad cI)) (F0 m 289 ls [.int z38, .int z35]) := by
                              intro S H locs hw z38 ls hl
                              refine lv_icmp_ne (tgt := 325) hx hb dL_areOpened_289 (by decide) (fun c_40 => ?_) (fun c_40 => ?_)
                              · skip
                                refine lv_iconst (v := 0) hx hb dL_areOpened_325 (by decide) ?_
                                exact hj_326_33 S H locs hw false ls (lv_sub hl [0, 2, 3, 4, 5, 6, 7, 8] rfl)
                              · skip
                                refine lv_aload_n hx hb dL_areOpened_292 rfl (lv_at hl 4 rfl) ?_
                                refine lv_iload hx hb dL_areOpened_293 (lv_at hl 2 rfl) ?_
                                refine lv_iload hx hb dL_areOpened_295 (lv_at hl 3 rfl) ?_
                                refine g_rd (rest := []) C hw (c_X5_solvedAt l D cI cZ cL ad S (nI i8) (nI i1) hw.2.2.2.i0 (nn_solved hw.2.2.2 (by omega) (by omega))) ck_X5_solvedAt v_231 rfl hl.1 rfl ⟨Nat.le_of_ble_eq_true rfl, Nat.le_of_ble_eq_true rfl⟩ (Nat.le_of_ble_eq_true rfl) dL_areOpened_297 ⟨by omega, by omega⟩ ?_
                                refine g_any (fun z41 => ?_)
                                refine lv_if_lt (tgt := 321) hx hb dL_areOpened_300 (by decide) (fun c_42 => ?_) (fun c_42 => ?_)
                                · skip
                                  refine lv_iconst (v := 1) hx hb dL_areOpened_321 (by decide) ?_
                                  refine lv_goto (tgt := 326) hx hb dL_areOpened_322 (by decide) ?_
                                  exact hj_326_33 S H locs hw true ls (lv_sub hl [0, 2, 3, 4, 5, 6, 7, 8] rfl)
                                · skip
                                  refine lv_iload hx hb dL_areOpened_303 (lv_at hl 1 rfl) ?_
                                  refine lv_if_lt (tgt := 325) hx hb dL_areOpened_305 (by decide) (fun c_43 => ?_) (fun c_43 => ?_)
                                  · skip
                                    exact absurd c_43 (by decide)
                                  · skip
                                    refine lv_aload_n hx hb dL_areOpened_308 rfl (lv_at hl 4 rfl) ?_
                                    refine lv_iload hx hb dL_areOpened_309 (lv_at hl 2 rfl) ?_
                                    refine lv_iload hx hb dL_areOpened_311 (lv_at hl 3 rfl) ?_
                                    refine g_rd (rest := []) C hw (c_X5_solvedAt l D cI cZ cL ad S (nI i8) (nI i1) hw.2.2.2.i0 (nn_solved hw.2.2.2 (by omega) (by omega))) ck_X5_solvedAt v_231 rfl hl.1 rfl ⟨Nat.le_of_ble_eq_true rfl, Nat.le_of_ble_eq_true rfl⟩ (Nat.le_of_ble_eq_true rfl) dL_areOpened_313 ⟨by omega, by omega⟩ ?_
                                    refine g_any (fun z44 => ?_)
                                    refine lv_iload hx hb dL_areOpened_316 (lv_at hl 1 rfl) ?_
                                    refine lv_icmp_lt (tgt := 325) hx hb dL_areOpened_318 (by decide) (fun c_45 => ?_) (fun c_45 => ?_)
                                    · skip
                                      refine lv_iconst (v := 0) hx hb dL_areOpened_325 (by decide) ?_
                                      exact hj_326_33 S H locs hw false ls (lv_sub hl [0, 2, 3, 4, 5, 6, 7, 8] rfl)
                                    · skip
                                      refine lv_iconst (v := 1) hx hb dL_areOpened_321 (by decide) ?_
                                      refine lv_goto (tgt := 326) hx hb dL_areOpened_322 (by decide) ?_
                                      exact hj_326_33 S H locs hw true ls (lv_sub hl [0, 2, 3, 4, 5, 6, 7, 8] rfl)
                            refine lv_icmp_ge (tgt := 287) hx hb dL_areOpened_280 (by decide) (fun c_46 => ?_) (fun c_46 => ?_)
                            · skip
                              refine lv_iload hx hb dL_areOpened_287 (lv_at hl 1 rfl) ?_
                              exact hj_289_39 S H locs hw (z30) ls (lv_sub hl [0, 4, 5, 6, 7, 8, 9, 10, 11] rfl)
                            · skip
                              refine lv_iconst (v := 1) hx hb dL_areOpened_283 (by decide) ?_
                              refine lv_goto (tgt := 289) hx hb dL_areOpened_284 (by decide) ?_
                              exact hj_289_39 S H locs hw (1) ls (lv_sub hl [0, 4, 5, 6, 7, 8, 9, 10, 11] rfl)
                          · skip
                            exact absurd c_37 (by decide)
                    have hloop_162_47 : ∀ (n i23 : Nat), i23 ≤ m1 → m1 < i23 + n → 0 ≤ i23 → ∀ (S : Mem) (H : Heap) (locs : List Loc), GW D cI (aC ad cI) ad aa fa m0 m1 s S H locs → ∀ ls : Array Slot, lv_has ls 13 [(12, .int (nI i23)), (11, .int 0), (10, .int 0), (9, .int 0), (8, .int (nI i8)), (7, .int 0), (6, .int (nI i1)), (0, .ref (ad 0)), (1, .ref (aa 0)), (2, .ref (aa 2)), (3, .ref (aa 3)), (4, .ref (aa 5))] → W p l e (rg 9 6) s m args below meth c H locs (2 * i1 + 1 * i8 + 0) (6 * (2 * i1 + 1 * i8 + 0)) (MQ below (QG D cI ad m0 m1 (pB)) args s 6 (6 * 6) (aC ad cI)) (F0 m 162 ls []) := by
                      intro n
                      induction n with
                      | zero => intro i23 h1 h2; exact absurd h2 (by omega)
                      | succ n ih_162 =>
                        intro i23 hi_162 hn_162 hs_162 S H locs hw ls hl
                        refine lv_iload hx hb dL_areOpened_162 (lv_at hl 0 rfl) ?_
                        refine lv_aload hx hb dL_areOpened_164 (lv_at hl 11 rfl) ?_
                        refine lv_iconst (v := 1) hx hb dL_areOpened_166 (by decide) ?_
                        refine g_ld (n := 5) (i := 1) C hw 5 rfl (by omega) (Nat.le_of_ble_eq_true rfl) dL_areOpened_167 ?_
                        refine q_top (y := nI m1) (f51) ?_
                        refine lv_icmp_ge (tgt := 204) hx hb dL_areOpened_168 (by decide) (fun c_48 => ?_) (fun c_48 => ?_)
                        · skip
                          have c_48 : m1 ≤ i23 := n_le (a := m1) (b := i23) (by omega) (by omega) c_48
                          exact hj_204_24 S H locs hw  ls (lv_sub hl [1, 2, 3, 4, 5, 6, 7, 8, 9, 10, 11] rfl)
                        · skip
                          have c_48 : i23 < m1 := n_nle (a := m1) (b := i23) (by omega) (by omega) c_48
                          refine lv_iload hx hb dL_areOpened_171 (lv_at hl 1 rfl) ?_
                          refine lv_aload_n hx hb dL_areOpened_173 rfl (lv_at hl 9 rfl) ?_
                          refine lv_bipush (v := 8) hx hb dL_areOpened_174 (by decide) ?_
                          refine lv_iload hx hb dL_areOpened_176 (lv_at hl 0 rfl) ?_
                          refine lv_imul hx hb dL_areOpened_178 ?_
                          refine q_top (y := nI (8 * i23)) (pk_mul 8 i23) ?_
                          refine lv_iload hx hb dL_areOpened_179 (lv_at hl 6 rfl) ?_
                          refine lv_iadd hx hb dL_areOpened_181 ?_
                          refine q_top (y := nI (8 * i23 + i1)) (nI_add (8 * i23) i1) ?_
                          refine g_ld (n := 40) (i := (8 * i23 + i1)) C hw 2 rfl (by omega) (Nat.le_of_ble_eq_true rfl) dL_areOpened_182 ?_
                          refine q_top (y := 0) (fh _) ?_
                          refine lv_iconst (v := 3) hx hb dL_areOpened_183 (by decide) ?_
                          refine lv_iand hx hb dL_areOpened_184 ?_
                          refine q_top (y := 0) (by decide) ?_
                          refine lv_iload hx hb dL_areOpened_185 (lv_at hl 2 rfl) ?_
                          refine lv_icmp_le (tgt := 194) hx hb dL_areOpened_187 (by decide) (fun c_49 => ?_) (fun c_49 => ?_)
                          · skip
                            refine lv_iconst (v := 0) hx hb dL_areOpened_194 (by decide) ?_
                            refine lv_iadd hx hb dL_areOpened_195 ?_
                            refine q_top (y := 0) (by decide) ?_
                            refine lv_istore (lv' := [(11, .int 0), (12, .int (nI i23)), (10, .int 0), (9, .int 0), (8, .int (nI i8)), (7, .int 0), (6, .int (nI i1)), (0, .ref (ad 0)), (1, .ref (aa 0)), (2, .ref (aa 2)), (3, .ref (aa 3)), (4, .ref (aa 5))]) hx hb dL_areOpened_196 hl (by decide) rfl (fun ls hl => ?_)
                            refine lv_iinc (v := nI (i23 + 1)) (lv' := [(12, .int (nI (i23 + 1))), (11, .int 0), (10, .int 0), (9, .int 0), (8, .int (nI i8)), (7, .int 0), (6, .int (nI i1)), (0, .ref (ad 0)), (1, .ref (aa 0)), (2, .ref (aa 2)), (3, .ref (aa 3)), (4, .ref (aa 5))]) hx hb dL_areOpened_198 hl (k := 1) rfl (nI_1 i23) (by decide) rfl (fun ls hl => ?_)
                            refine lv_goto (tgt := 162) hx hb dL_areOpened_201 (by decide) ?_
                            exact ih_162 (i23 + 1) (by omega) (by omega) (by omega) S H locs hw  ls (lv_sub hl [0, 1, 2, 3, 4, 5, 6, 7, 8, 9, 10, 11] rfl)
                          · skip
                            exact absurd c_49 (by decide)
                    exact hloop_162_47 (m1 + 1) (0) (by omega) (by omega) (by omega) S H locs hw  ls (lv_sub hl [0, 1, 2, 3, 4, 5, 6, 7, 8, 9, 10, 11] rfl)
                  have hloop_46_50 : ∀ (n i21 : Nat), i21 ≤ i1 → i1 < i21 + n → 0 ≤ i21 → ∀ (S : Mem) (H : Heap) (locs : List Loc), GW D cI (aC ad cI) ad aa fa m0 m1 s S H locs → ∀ ls : Array Slot, lv_has ls 13 [(10, .int (nI i21)), (9, .int 0), (8, .int (nI i8)), (7, .int 0), (6, .int (nI i1)), (0, .ref (ad 0)), (1, .ref (aa 0)), (2, .ref (aa 2)), (3, .ref (aa 3)), (4, .ref (aa 5))] → W p l e (rg 9 6) s m args below meth c H locs (2 * i1 + 1 * i8 + 0) (6 * (2 * i1 + 1 * i8 + 0)) (MQ below (QG D cI ad m0 m1 (pB)) args s 6 (6 * 6) (aC ad cI)) (F0 m 46 ls []) := by
                    intro n
                    induction n with
                    | zero => intro i21 h1 h2; exact absurd h2 (by omega)
                    | succ n ih_46 =>
                      intro i21 hi_46 hn_46 hs_46 S H locs hw ls hl
                      refine lv_iload hx hb dL_areOpened_46 (lv_at hl 0 rfl) ?_
                      refine lv_iload hx hb dL_areOpened_48 (lv_at hl 4 rfl) ?_
                      refine lv_icmp_ge (tgt := 142) hx hb dL_areOpened_50 (by decide) (fun c_51 => ?_) (fun c_51 => ?_)
                      · skip
                        have c_51 : i1 ≤ i21 := n_le (a := i1) (b := i21) (by omega) (by omega) c_51
                        exact hj_142_22 S H locs hw  ls (lv_sub hl [1, 2, 3, 4, 5, 6, 7, 8, 9] rfl)
                      · skip
                        have c_51 : i21 < i1 := n_nle (a := i1) (b := i21) (by omega) (by omega) c_51
                        refine lv_aload_n hx hb dL_areOpened_53 rfl (lv_at hl 6 rfl) ?_
                        refine lv_bipush (v := 6) hx hb dL_areOpened_54 (by decide) ?_
                        refine lv_iload hx hb dL_areOpened_56 (lv_at hl 4 rfl) ?_
                        refine lv_imul hx hb dL_areOpened_58 ?_
                        refine q_top (y := nI (6 * i1)) (pk_mul 6 i1) ?_
                        refine lv_iconst (v := 4) hx hb dL_areOpened_59 (by decide) ?_
                        refine lv_iadd hx hb dL_areOpened_60 ?_
                        refine q_top (y := nI (6 * i1 + 4)) (nI_add (6 * i1) 4) ?_
                        refine g_ld (n := 48) (i := (6 * i1 + 4)) C hw 0 rfl (by omega) (Nat.le_of_ble_eq_true rfl) dL_areOpened_61 ?_
                        refine q_top (y := 0) ((fr _).1) ?_
                        refine lv_iload hx hb dL_areOpened_62 (lv_at hl 0 rfl) ?_
                        refine lv_ishr hx hb dL_areOpened_64 ?_
                        refine q_top (y := 0) (shr_0 _) ?_
                        refine lv_iconst (v := 1) hx hb dL_areOpened_65 (by decide) ?_
                        refine lv_iand hx hb dL_areOpened_66 ?_
                        refine q_top (y := 0) (by decide) ?_
                        refine lv_iconst (v := 1) hx hb dL_areOpened_67 (by decide) ?_
                        refine lv_icmp_ne (tgt := 75) hx hb dL_areOpened_68 (by decide) (fun c_52 => ?_) (fun c_52 => ?_)
                        · skip
                          refine lv_iconst (v := 0) hx hb dL_areOpened_75 (by decide) ?_
                          refine lv_istore (lv' := [(11, .int 0), (10, .int (nI i21)), (9, .int 0), (8, .int (nI i8)), (7, .int 0), (6, .int (nI i1)), (0, .ref (ad 0)), (1, .ref (aa 0)), (2, .ref (aa 2)), (3, .ref (aa 3)), (4, .ref (aa 5))]) hx hb dL_areOpened_76 hl (by decide) rfl (fun ls hl => ?_)
                          refine lv_iload hx hb dL_areOpened_78 (lv_at hl 0 rfl) ?_
                          refine lv_if_eq (tgt := 88) hx hb dL_areOpened_80 (by decide) (fun c_53 => ?_) (fun c_53 => ?_)
                          · skip
                            refine lv_iload hx hb dL_areOpened_88 (lv_at hl 2 rfl) ?_
                            refine lv_goto (tgt := 134) hx hb dL_areOpened_90 (by decide) ?_
                            refine lv_istore (lv' := [(9, .int 0), (11, .int 0), (10, .int (nI i21)), (8, .int (nI i8)), (7, .int 0), (6, .int (nI i1)), (0, .ref (ad 0)), (1, .ref (aa 0)), (2, .ref (aa 2)), (3, .ref (aa 3)), (4, .ref (aa 5))]) hx hb dL_areOpened_134 hl (by decide) rfl (fun ls hl => ?_)
                            refine lv_iinc (v := nI (i21 + 1)) (lv' := [(10, .int (nI (i21 + 1))), (9, .int 0), (11, .int 0), (8, .int (nI i8)), (7, .int 0), (6, .int (nI i1)), (0, .ref (ad 0)), (1, .ref (aa 0)), (2, .ref (aa 2)), (3, .ref (aa 3)), (4, .ref (aa 5))]) hx hb dL_areOpened_136 hl (k := 2) rfl (nI_1 i21) (by decide) rfl (fun ls hl => ?_)
                            refine lv_goto (tgt := 46) hx hb dL_areOpened_139 (by decide) ?_
                            exact ih_46 (i21 + 1) (by omega) (by omega) (by omega) S H locs hw  ls (lv_sub hl [0, 1, 3, 4, 5, 6, 7, 8, 9, 10] rfl)
                          · skip
                            exact absurd c_53 (by decide)
                        · skip
                          exact absurd c_52 (by decide)
                  exact hloop_46_50 (i1 + 1) (0) (by omega) (by omega) (by omega) S H locs hw  ls (lv_sub hl [0, 1, 2, 3, 4, 6, 7, 8, 9, 10] rfl)
          refine W.widen (k := 2 * i1 + 1 * (0) + 0) (n := 6 * (2 * i1 + 1 * (0) + 0)) (by omega) (by omega) ?_
          exact hloop_26_18 (m1 + 1) (0) (by omega) (by omega) (by omega) S H locs hw true ls (lv_sub hl [0, 1, 2, 3, 4, 5, 6, 7, 8] rfl)
  refine W.widen (k := 2 * (0) + 0) (n := 6 * (2 * (0) + 0)) (by omega) (by omega) ?_
  exact hloop_6_5 (m0 + 1) (0) (by omega) (by omega) (by omega) S s.heap [] hw true ls (lv_sub hl [0, 1, 2, 3, 4, 5, 6] rfl)

set_option maxHeartbeats 8000000 in
set_option maxRecDepth 100000 in
theorem t_areScores {l : Launch} (hfl : l.flags = flags0) {D : va_G} {cI cZ cL : ClassId} {ad aa : Nat → Nat} {fa S : Mem} {m0 m1 : Nat} (hD : va_D (aC ad cI) (wC ad cI mem0)) (hA : ∀ q, aW (wA aa cI mem0) q → ¬ aC ad cI q) (hfa : FA fa m0 m1) (hJ : JS S m0 m1) :
    GM l D cI cZ cL ad aa fa S yL_areScores [Cond.code yL_areScores cL_areScores 14 (some .boolean)] 9 2 [.ref (ad 0), .ref (aa 0), .ref (aa 2), .ref (aa 4), .ref (aa 5)] m0 m1 (pB) := by
  refine GM.of (by decide) (Nat.le_of_ble_eq_true rfl) hfl hD hA hJ ?_
  intro p e s m args below meth c ls hx hb hr hlk hown C hw hl
  obtain ⟨⟨hm0, hm1⟩, ⟨f50, f51, f52, f54⟩, fh, ff, fr⟩ := hfa
  have hl : lv_has ls 14 [(0, .ref (ad 0)), (1, .ref (aa 0)), (2, .ref (aa 2)), (3, .ref (aa 4)), (4, .ref (aa 5))] := hl
  refine lv_aload_n hx hb dL_areScores_0 rfl (lv_at hl 0 rfl) ?_
  refine lv_aload hx hb dL_areScores_1 (lv_at hl 4 rfl) ?_
  refine lv_iconst (v := 1) hx hb dL_areScores_3 (by decide) ?_
  refine g_ld (n := 5) (i := 1) C hw 5 rfl (by omega) (Nat.le_of_ble_eq_true rfl) dL_areScores_4 ?_
  refine q_top (y := nI m1) (f51) ?_
  refine g_wr (rest := []) C hw (c_X5_teamAt l D cI cZ cL ad S (aC ad cI) (wC_D C.2.2.1) (nI m1) hw.2.2.2.i0) (js_at hw.2.2.2) ck_X5_teamAt v_683 rfl hl.1 rfl ⟨Nat.le_of_ble_eq_true rfl, Nat.le_of_ble_eq_true rfl⟩ (Nat.le_of_ble_eq_true rfl) dL_areScores_5 ⟨by omega, by omega⟩ (fun S H locs hle hw => ?_)
  refine g_any (fun z1 => ?_)
  refine lv_iconst (v := (-1)) hx hb dL_areScores_8 (by decide) ?_
  have hj_26_3 : ∀ (S : Mem) (H : Heap) (locs : List Loc), GW D cI (aC ad cI) ad aa fa m0 m1 s S H locs → ∀ z2 : Bool, ∀ ls : Array Slot, lv_has ls 14 [(0, .ref (ad 0)), (1, .ref (aa 0)), (2, .ref (aa 2)), (3, .ref (aa 4)), (4, .ref (aa 5))] → W p l e (rg 9 2) s m args below meth c H locs (0) (6 * (0)) (MQ below (QG D cI ad m0 m1 (pB)) args s 2 (6 * 2) (aC ad cI)) (F0 m 26 ls [.int (bI z2)]) := by
    intro S H locs hw z2 ls hl
    refine lv_istore (lv' := [(5, .int (bI z2)), (0, .ref (ad 0)), (1, .ref (aa 0)), (2, .ref (aa 2)), (3, .ref (aa 4)), (4, .ref (aa 5))]) hx hb dL_areScores_26 hl (by decide) rfl (fun ls hl => ?_)
    refine lv_iconst (v := 0) hx hb dL_areScores_28 (by decide) ?_
    refine lv_istore (lv' := [(6, .int 0), (5, .int (bI z2)), (0, .ref (ad 0)), (1, .ref (aa 0)), (2, .ref (aa 2)), (3, .ref (aa 4)), (4, .ref (aa 5))]) hx hb dL_areScores_29 hl (by decide) rfl (fun ls hl => ?_)
    refine lv_iconst (v := 0) hx hb dL_areScores_31 (by decide) ?_
    refine lv_istore (lv' := [(7, .int 0), (6, .int 0), (5, .int (bI z2)), (0, .ref (ad 0)), (1, .ref (aa 0)), (2, .ref (aa 2)), (3, .ref (aa 4)), (4, .ref (aa 5))]) hx hb dL_areScores_32 hl (by decide) rfl (fun ls hl => ?_)
    refine lv_iconst (v := 0) hx hb dL_areScores_34 (by decide) ?_
    refine lv_istore (lv' := [(8, .int 0), (7, .int 0), (6, .int 0), (5, .int (bI z2)), (0, .ref (ad 0)), (1, .ref (aa 0)), (2, .ref (aa 2)), (3, .ref (aa 4)), (4, .ref (aa 5))]) hx hb dL_areScores_35 hl (by decide) rfl (fun ls hl => ?_)
    have hj_248_8 : ∀ (S : Mem) (H : Heap) (locs : List Loc), GW D cI (aC ad cI) ad aa fa m0 m1 s S H locs → ∀ z5 : Int32, ∀ z6 : Int32, ∀ z7 : Bool, ∀ ls : Array Slot, lv_has ls 14 [(7, .int z5), (6, .int z6), (5, .int (bI z7)), (0, .ref (ad 0)), (4, .ref (aa 5))] → W p l e (rg 9 2) s m args below meth c H locs (1 * m1 + 0) (6 * (1 * m1 + 0)) (MQ below (QG D cI ad m0 m1 (pB)) args s 2 (6 * 2) (aC ad cI)) (F0 m 248 ls []) := by
      intro S H locs hw z5 z6 z7 ls hl
      refine lv_iconst (v := 0) hx hb dL_areScores_248 (by decide) ?_
      refine lv_istore (lv' := [(8, .int 0), (7, .int z5), (6, .int z6), (5, .int (bI z7)), (0, .ref (ad 0)), (4, .ref (aa 5))]) hx hb dL_areScores_249 hl (by decide) rfl (fun ls hl => ?_)
      have hj_462_11 : ∀ (S : Mem) (H : Heap) (locs : List Loc), GW D cI (aC ad cI) ad aa fa m0 m1 s S H locs → ∀ z10 : Bool, ∀ ls : Array Slot, lv_has ls 14 [(7, .int z5), (6, .int z6), (5, .int (bI z10)), (4, .ref (aa 5))] → W p l e (rg 9 2) s m args below meth c H locs (1 * m1 + 0) (6 * (1 * m1 + 0)) (MQ below (QG D cI ad m0 m1 (pB)) args s 2 (6 * 2) (aC ad cI)) (F0 m 462 ls []) := by
        intro S H locs hw z10 ls hl
        refine lv_iload hx hb dL_areScores_462 (lv_at hl 2 rfl) ?_
        have hj_511_13 : ∀ (S : Mem) (H : Heap) (locs : List Loc), GW D cI (aC ad cI) ad aa fa m0 m1 s S H locs → ∀ z12 : Bool, ∀ ls : Array Slot, lv_has ls 14 [] → W p l e (rg 9 2) s m args below meth c H locs (1 * m1 + 0) (6 * (1 * m1 + 0)) (MQ below (QG D cI ad m0 m1 (pB)) args s 2 (6 * 2) (aC ad cI)) (F0 m 511 ls [.int (bI z12)]) := by
          intro S H locs hw z12 ls hl
          exact g_ret (mc := 2) hx hb hr hlk hw (n_bI _) (⟨z12, rfl⟩) ⟨by omega, by omega⟩ dL_areScores_511
        refine lv_if_eq (tgt := 510) hx hb dL_areScores_464 (by decide) (fun c_14 => ?_) (fun c_14 => ?_)
        · skip
          have c_14 : z10 = false := b_f c_14
          subst c_14
          refine lv_iconst (v := 0) hx hb dL_areScores_510 (by decide) ?_
          exact hj_511_13 S H locs hw false ls (lv_sub hl [] rfl)
        · skip
          have c_14 : z10 = true := b_t c_14
          subst c_14
          refine lv_aload hx hb dL_areScores_467 (lv_at hl 3 rfl) ?_
          refine lv_iconst (v := 4) hx hb dL_areScores_469 (by decide) ?_
          refine g_ld (n := 5) (i := 4) C hw 5 rfl (by omega) (Nat.le_of_ble_eq_true rfl) dL_areScores_470 ?_
          refine q_top (y := 0) (f54) ?_
          refine lv_if_eq (tgt := 506) hx hb dL_areScores_471 (by decide) (fun c_15 => ?_) (fun c_15 => ?_)
          · skip
            refine lv_iconst (v := 1) hx hb dL_areScores_506 (by decide) ?_
            refine lv_goto (tgt := 511) hx hb dL_areScores_507 (by decide) ?_
            exact hj_511_13 S H locs hw true ls (lv_sub hl [] rfl)
          · skip
            exact absurd c_15 (by decide)
      have hloop_251_17 : ∀ (n i9 : Nat), i9 ≤ m1 → m1 < i9 + n → 0 ≤ i9 → ∀ (S : Mem) (H : Heap) (locs : List Loc), GW D cI (aC ad cI) ad aa fa m0 m1 s S H locs → ∀ z16 : Bool, ∀ ls : Array Slot, lv_has ls 14 [(8, .int (nI i9)), (7, .int z5), (6, .int z6), (5, .int (bI z16)), (0, .ref (ad 0)), (4, .ref (aa 5))] → W p l e (rg 9 2) s m args below meth c H locs (1 * m1 + 0) (6 * (1 * m1 + 0)) (MQ below (QG D cI ad m0 m1 (pB)) args s 2 (6 * 2) (aC ad cI)) (F0 m 251 ls []) := by
        intro n
        induction n with
        | zero => intro i9 h1 h2; exact absurd h2 (by omega)
        | succ n ih_251 =>
          intro i9 hi_251 hn_251 hs_251 S H locs hw z16 ls hl
          refine lv_iload hx hb dL_areScores_251 (lv_at hl 0 rfl) ?_
          refine lv_aload hx hb dL_areScores_253 (lv_at hl 5 rfl) ?_
          refine lv_iconst (v := 1) hx hb dL_areScores_255 (by decide) ?_
          refine g_ld (n := 5) (i := 1) C hw 5 rfl (by omega) (Nat.le_of_ble_eq_true rfl) dL_areScores_256 ?_
          refine q_top (y := nI m1) (f51) ?_
          refine lv_icmp_ge (tgt := 462) hx hb dL_areScores_257 (by decide) (fun c_18 => ?_) (fun c_18 => ?_)
          · skip
            have c_18 : m1 ≤ i9 := n_le (a := m1) (b := i9) (by omega) (by omega) c_18
            exact hj_462_11 S H locs hw z16 ls (lv_sub hl [1, 2, 3, 5] rfl)
          · skip
            have c_18 : i9 < m1 := n_nle (a := m1) (b := i9) (by omega) (by omega) c_18
            refine lv_iload hx hb dL_areScores_260 (lv_at hl 3 rfl) ?_
            refine lv_if_eq (tgt := 462) hx hb dL_areScores_262 (by decide) (fun c_19 => ?_) (fun c_19 => ?_)
            · skip
              have c_19 : z16 = false := b_f c_19
              subst c_19
              exact hj_462_11 S H locs hw false ls (lv_sub hl [1, 2, 3, 5] rfl)
            · skip
              have c_19 : z16 = true := b_t c_19
              subst c_19
              refine lv_aload_n hx hb dL_areScores_265 rfl (lv_at hl 4 rfl) ?_
              refine lv_iload hx hb dL_areScores_266 (lv_at hl 0 rfl) ?_
              have hv_268 := v_at hw.2.2.2 (a := i9) (by omega)
              refine g_wr (rest := []) C hw (c_X5_teamAt l D cI cZ cL ad S (aC ad cI) (wC_D C.2.2.1) (nI i9) hw.2.2.2.i0) (js_at hw.2.2.2) ck_X5_teamAt v_683 rfl hl.1 rfl ⟨Nat.le_of_ble_eq_true rfl, Nat.le_of_ble_eq_true rfl⟩ (Nat.le_of_ble_eq_true rfl) dL_areScores_268 ⟨by omega, by omega⟩ (fun S H locs hle hw => ?_)
              refine q_top (y := nI i9) (hv_268) ?_
              refine lv_istore (lv' := [(9, .int (nI i9)), (8, .int (nI i9)), (7, .int z5), (6, .int z6), (5, .int (bI true)), (0, .ref (ad 0)), (4, .ref (aa 5))]) hx hb dL_areScores_271 hl (by decide) rfl (fun ls hl => ?_)
              refine lv_iload hx hb dL_areScores_273 (lv_at hl 1 rfl) ?_
              refine lv_if_ne (tgt := 282) hx hb dL_areScores_275 (by decide) (fun c_20 => ?_) (fun c_20 => ?_)
              · skip
                have c_20 : ¬ i9 = 0 := n_ne (a := i9) (b := 0) (by omega) (by omega) c_20
                refine lv_aload_n hx hb dL_areScores_282 rfl (lv_at hl 5 rfl) ?_
                refine lv_iload hx hb dL_areScores_283 (lv_at hl 1 rfl) ?_
                refine lv_iconst (v := 1) hx hb dL_areScores_285 (by decide) ?_
                refine lv_isub hx hb dL_areScores_286 ?_
                refine q_top (y := nI (i9 - 1)) (sub1 (by omega)) ?_
                have hv_287 := v_at hw.2.2.2 (a := (i9 - 1)) (by omega)
                refine g_wr (rest := []) C hw (c_X5_teamAt l D cI cZ cL ad S (aC ad cI) (wC_D C.2.2.1) (nI (i9 - 1)) hw.2.2.2.i0) (js_at hw.2.2.2) ck_X5_teamAt v_683 rfl hl.1 rfl ⟨Nat.le_of_ble_eq_true rfl, Nat.le_of_ble_eq_true rfl⟩ (Nat.le_of_ble_eq_true rfl) dL_areScores_287 ⟨by omega, by omega⟩ (fun S H locs hle hw => ?_)
                refine q_top (y := nI (i9 - 1)) (hv_287) ?_
                refine lv_istore (lv' := [(10, .int (nI (i9 - 1))), (9, .int (nI i9)), (8, .int (nI i9)), (7, .int z5), (6, .int z6), (5, .int (bI true)), (0, .ref (ad 0)), (4, .ref (aa 5))]) hx hb dL_areScores_290 hl (by decide) rfl (fun ls hl => ?_)
                refine lv_iload hx hb dL_areScores_292 (lv_at hl 0 rfl) ?_
                have hj_456_22 : ∀ (S : Mem) (H : Heap) (locs : List Loc), GW D cI (aC ad cI) ad aa fa m0 m1 s S H locs → ∀ z21 : Bool, ∀ ls : Array Slot, lv_has ls 14 [(8, .int (nI i9)), (7, .int z5), (6, .int z6), (5, .int (bI z21)), (0, .ref (ad 0)), (4, .ref (aa 5))] → W p l e (rg 9 2) s m args below meth c H locs (1 * m1 + 0) (6 * (1 * m1 + 0)) (MQ below (QG D cI ad m0 m1 (pB)) args s 2 (6 * 2) (aC ad cI)) (F0 m 456 ls []) := by
                  intro S H locs hw z21 ls hl
                  refine lv_iinc (v := nI (i9 + 1)) (lv' := [(8, .int (nI (i9 + 1))), (7, .int z5), (6, .int z6), (5, .int (bI z21)), (0, .ref (ad 0)), (4, .ref (aa 5))]) hx hb dL_areScores_456 hl (k := 0) rfl (nI_1 i9) (by decide) rfl (fun ls hl => ?_)
                  refine lv_goto (tgt := 251) hx hb dL_areScores_459 (by decide) ?_
                  exact ih_251 (i9 + 1) (by omega) (by omega) (by omega) S H locs hw z21 ls (lv_sub hl [0, 1, 2, 3, 4, 5] rfl)
                refine lv_if_ge (tgt := 317) hx hb dL_areScores_294 (by decide) (fun c_23 => ?_) (fun c_23 => ?_)
                · skip
                  have c_23 : 0 ≤ (i9 - 1) := n_le (a := 0) (b := (i9 - 1)) (by omega) (by omega) c_23
                  refine lv_aload_n hx hb dL_areScores_317 rfl (lv_at hl 6 rfl) ?_
                  refine lv_iload hx hb dL_areScores_318 (lv_at hl 0 rfl) ?_
                  refine g_rd (rest := []) C hw (c_X5_score l D cI cZ cL ad S (nI (i9 - 1)) hw.2.2.2.i0 (nn_score hw.2.2.2 (by omega))) ck_X5_score v_587 rfl hl.1 rfl ⟨Nat.le_of_ble_eq_true rfl, Nat.le_of_ble_eq_true rfl⟩ (Nat.le_of_ble_eq_true rfl) dL_areScores_320 ⟨by omega, by omega⟩ ?_
                  refine g_any (fun z24 => ?_)
                  refine lv_aload_n hx hb dL_areScores_323 rfl (lv_at hl 6 rfl) ?_
                  refine lv_iload hx hb dL_areScores_324 (lv_at hl 1 rfl) ?_
                  refine g_rd (rest := [.int z24]) C hw (c_X5_score l D cI cZ cL ad S (nI i9) hw.2.2.2.i0 (nn_score hw.2.2.2 (by omega))) ck_X5_score v_587 rfl hl.1 rfl ⟨Nat.le_of_ble_eq_true rfl, Nat.le_of_ble_eq_true rfl⟩ (Nat.le_of_ble_eq_true rfl) dL_areScores_326 ⟨by omega, by omega⟩ ?_
                  refine g_any (fun z25 => ?_)
                  refine lv_isub hx hb dL_areScores_329 ?_
                  refine g_any (fun z26 => ?_)
                  refine lv_istore (lv' := [(11, .int z26), (10, .int (nI (i9 - 1))), (9, .int (nI i9)), (8, .int (nI i9)), (7, .int z5), (6, .int z6), (5, .int (bI true)), (0, .ref (ad 0)), (4, .ref (aa 5))]) hx hb dL_areScores_330 hl (by decide) rfl (fun ls hl => ?_)
                  refine lv_aload_n hx hb dL_areScores_332 rfl (lv_at hl 7 rfl) ?_
                  refine lv_aload hx hb dL_areScores_333 (lv_at hl 8 rfl) ?_
                  refine lv_iload hx hb dL_areScores_335 (lv_at hl 2 rfl) ?_
                  refine g_hl (rest := []) C hw (t_last C.1.2.2.2.2 C.2.2.1 C.2.2.2.1 ⟨⟨hm0, hm1⟩, ⟨f50, f51, f52, f54⟩, fh, ff, fr⟩ hw.2.2.2 i9 (by omega)) ck_L_last v_687 hl.1 rfl ⟨Nat.le_of_ble_eq_true rfl, Nat.le_of_ble_eq_true rfl⟩ (Nat.le_of_ble_eq_true rfl) dL_areScores_337 ⟨by omega, by omega⟩ (fun v S H locs hpo hle hw => ?_)
                  obtain ⟨z27, rfl⟩ := hpo
                  refine W.widen (k := 1 * m1 + 0) (n := 6 * (1 * m1 + 0)) (by omega) (by omega) ?_
                  refine lv_aload_n hx hb dL_areScores_340 rfl (lv_at hl 7 rfl) ?_
                  refine lv_aload hx hb dL_areScores_341 (lv_at hl 8 rfl) ?_
                  refine lv_iload hx hb dL_areScores_343 (lv_at hl 1 rfl) ?_
                  refine g_hl (rest := [.int z27]) C hw (t_last C.1.2.2.2.2 C.2.2.1 C.2.2.2.1 ⟨⟨hm0, hm1⟩, ⟨f50, f51, f52, f54⟩, fh, ff, fr⟩ hw.2.2.2 (i9 - 1) (by omega)) ck_L_last v_687 hl.1 rfl ⟨Nat.le_of_ble_eq_true rfl, Nat.le_of_ble_eq_true rfl⟩ (Nat.le_of_ble_eq_true rfl) dL_areScores_345 ⟨by omega, by omega⟩ (fun v S H locs hpo hle hw => ?_)
                  obtain ⟨z28, rfl⟩ := hpo
                  refine W.widen (k := 1 * m1 + 0) (n := 6 * (1 * m1 + 0)) (by omega) (by omega) ?_
                  refine lv_isub hx hb dL_areScores_348 ?_
                  refine g_any (fun z29 => ?_)
                  refine lv_istore (lv' := [(12, .int z29), (11, .int z26), (10, .int (nI (i9 - 1))), (9, .int (nI i9)), (8, .int (nI i9)), (7, .int z5), (6, .int z6), (5, .int (bI true)), (0, .ref (ad 0)), (4, .ref (aa 5))]) hx hb dL_areScores_349 hl (by decide) rfl (fun ls hl => ?_)
                  refine lv_iload hx hb dL_areScores_351 (lv_at hl 1 rfl) ?_
                  have hj_366_31 : ∀ (S : Mem) (H : Heap) (locs : List Loc), GW D cI (aC ad cI) ad aa fa m0 m1 s S H locs → ∀ z30 : Bool, ∀ ls : Array Slot, lv_has ls 14 [(12, .int z29), (11, .int z26), (10, .int (nI (i9 - 1))), (9, .int (nI i9)), (8, .int (nI i9)), (7, .int z5), (6, .int z6), (0, .ref (ad 0)), (4, .ref (aa 5))] → W p l e (rg 9 2) s m args below meth c H locs (1 * m1 + 0) (6 * (1 * m1 + 0)) (MQ below (QG D cI ad m0 m1 (pB)) args s 2 (6 * 2) (aC ad cI)) (F0 m 366 ls [.int (bI z30)]) := by
                    intro S H locs hw z30 ls hl
                    refine lv_istore (lv' := [(13, .int (bI z30)), (12, .int z29), (11, .int z26), (10, .int (nI (i9 - 1))), (9, .int (nI i9)), (8, .int (nI i9)), (7, .int z5), (6, .int z6), (0, .ref (ad 0)), (4, .ref (aa 5))]) hx hb dL_areScores_366 hl (by decide) rfl (fun ls hl => ?_)
                    refine lv_iload hx hb dL_areScores_368 (lv_at hl 2 rfl) ?_
                    have hj_454_33 : ∀ (S : Mem) (H : Heap) (locs : List Loc), GW D cI (aC ad cI) ad aa fa m0 m1 s S H locs → ∀ z32 : Bool, ∀ ls : Array Slot, lv_has ls 14 [(8, .int (nI i9)), (7, .int z5), (6, .int z6), (0, .ref (ad 0)), (4, .ref (aa 5))] → W p l e (rg 9 2) s m args below meth c H locs (1 * m1 + 0) (6 * (1 * m1 + 0)) (MQ below (QG D cI ad m0 m1 (pB)) args s 2 (6 * 2) (aC ad cI)) (F0 m 454 ls [.int (bI z32)]) := by
                      intro S H locs hw z32 ls hl
                      refine lv_istore (lv' := [(5, .int (bI z32)), (8, .int (nI i9)), (7, .int z5), (6, .int z6), (0, .ref (ad 0)), (4, .ref (aa 5))]) hx hb dL_areScores_454 hl (by decide) rfl (fun ls hl => ?_)
                      exact hj_456_22 S H locs hw z32 ls (lv_sub hl [1, 2, 3, 0, 4, 5] rfl)
                    refine lv_if_gt (tgt := 395) hx hb dL_areScores_370 (by decide) (fun c_34 => ?_) (fun c_34 => ?_)
                    · skip
                      refine lv_aload_n hx hb dL_areScores_395 rfl (lv_at hl 8 rfl) ?_
                      refine lv_iload hx hb dL_areScores_396 (lv_at hl 4 rfl) ?_
                      refine g_wr (rest := []) C hw (c_X5_place l D cI cZ cL ad S (aC ad cI) (wC_D C.2.2.1) (nI i9) hw.2.2.2.i0 (nn_place hw.2.2.2 (by omega))) (js_place hw.2.2.2 (by omega)) ck_X5_place v_640 rfl hl.1 rfl ⟨Nat.le_of_ble_eq_true rfl, Nat.le_of_ble_eq_true rfl⟩ (Nat.le_of_ble_eq_true rfl) dL_areScores_398 ⟨by omega, by omega⟩ (fun S H locs hle hw => ?_)
                      refine g_any (fun z35 => ?_)
                      refine lv_iload hx hb dL_areScores_401 (lv_at hl 0 rfl) ?_
                      have hj_419_37 : ∀ (S : Mem) (H : Heap) (locs : List Loc), GW D cI (aC ad cI) ad aa fa m0 m1 s S H locs → ∀ z36 : Int32, ∀ ls : Array Slot, lv_has ls 14 [(13, .int (bI z30)), (10, .int (nI (i9 - 1))), (9, .int (nI i9)), (8, .int (nI i9)), (7, .int z5), (6, .int z6), (0, .ref (ad 0)), (4, .ref (aa 5))] → W p l e (rg 9 2) s m args below meth c H locs (1 * m1 + 0) (6 * (1 * m1 + 0)) (MQ below (QG D cI ad m0 m1 (pB)) args s 2 (6 * 2) (aC ad cI)) (F0 m 419 ls [.int z36, .int z35]) := by
                        intro S H locs hw z36 ls hl
                        refine lv_icmp_ne (tgt := 453) hx hb dL_areScores_419 (by decide) (fun c_38 => ?_) (fun c_38 => ?_)
                        · skip
                          refine lv_iconst (v := 0) hx hb dL_areScores_453 (by decide) ?_
                          exact hj_454_33 S H locs hw false ls (lv_sub hl [3, 4, 5, 6, 7] rfl)
                        · skip
                          refine lv_aload hx hb dL_areScores_422 (lv_at hl 7 rfl) ?_
                          refine lv_iconst (v := 4) hx hb dL_areScores_424 (by decide) ?_
                          refine g_ld (n := 5) (i := 4) C hw 5 rfl (by omega) (Nat.le_of_ble_eq_true rfl) dL_areScores_425 ?_
                          refine q_top (y := 0) (f54) ?_
                          refine lv_if_eq (tgt := 449) hx hb dL_areScores_426 (by decide) (fun c_39 => ?_) (fun c_39 => ?_)
                          · skip
                            refine lv_iconst (v := 1) hx hb dL_areScores_449 (by decide) ?_
                            refine lv_goto (tgt := 454) hx hb dL_areScores_450 (by decide) ?_
                            exact hj_454_33 S H locs hw true ls (lv_sub hl [3, 4, 5, 6, 7] rfl)
                          · skip
                            exact absurd c_39 (by decide)
                      refine lv_if_eq (tgt := 415) hx hb dL_areScores_403 (by decide) (fun c_40 => ?_) (fun c_40 => ?_)
                      · skip
                        have c_40 : z30 = false := b_f c_40
                        subst c_40
                        refine lv_iload hx hb dL_areScores_415 (lv_at hl 5 rfl) ?_
                        refine lv_iconst (v := 1) hx hb dL_areScores_417 (by decide) ?_
                        refine lv_iadd hx hb dL_areScores_418 ?_
                        refine q_top (y := nI (i9 + 1)) (nI_add i9 1) ?_
                        exact hj_419_37 S H locs hw (nI (i9 + 1)) ls (lv_sub hl [0, 3, 4, 5, 6, 7, 8, 9] rfl)
                      · skip
                        have c_40 : z30 = true := b_t c_40
                        subst c_40
                        refine lv_aload_n hx hb dL_areScores_406 rfl (lv_at hl 8 rfl) ?_
                        refine lv_iload hx hb dL_areScores_407 (lv_at hl 3 rfl) ?_
                        refine g_wr (rest := [.int z35]) C hw (c_X5_place l D cI cZ cL ad S (aC ad cI) (wC_D C.2.2.1) (nI (i9 - 1)) hw.2.2.2.i0 (nn_place hw.2.2.2 (by omega))) (js_place hw.2.2.2 (by omega)) ck_X5_place v_640 rfl hl.1 rfl ⟨Nat.le_of_ble_eq_true rfl, Nat.le_of_ble_eq_true rfl⟩ (Nat.le_of_ble_eq_true rfl) dL_areScores_409 ⟨by omega, by omega⟩ (fun S H locs hle hw => ?_)
                        refine g_any (fun z41 => ?_)
                        refine lv_goto (tgt := 419) hx hb dL_areScores_412 (by decide) ?_
                        exact hj_419_37 S H locs hw (z41) ls (lv_sub hl [0, 3, 4, 5, 6, 7, 8, 9] rfl)
                    · skip
                      refine lv_iload hx hb dL_areScores_373 (lv_at hl 2 rfl) ?_
                      refine lv_if_ne (tgt := 383) hx hb dL_areScores_375 (by decide) (fun c_42 => ?_) (fun c_42 => ?_)
                      · skip
                        refine lv_iload hx hb dL_areScores_383 (lv_at hl 0 rfl) ?_
                        refine lv_if_eq (tgt := 453) hx hb dL_areScores_385 (by decide) (fun c_43 => ?_) (fun c_43 => ?_)
                        · skip
                          have c_43 : z30 = false := b_f c_43
                          subst c_43
                          refine lv_iconst (v := 0) hx hb dL_areScores_453 (by decide) ?_
                          exact hj_454_33 S H locs hw false ls (lv_sub hl [5, 6, 7, 8, 9] rfl)
                        · skip
                          have c_43 : z30 = true := b_t c_43
                          subst c_43
                          refine lv_iload hx hb dL_areScores_388 (lv_at hl 3 rfl) ?_
                          refine lv_iload hx hb dL_areScores_390 (lv_at hl 4 rfl) ?_
                          refine lv_icmp_ge (tgt := 453) hx hb dL_areScores_392 (by decide) (fun c_44 => ?_) (fun c_44 => ?_)
                          · skip
                            have c_44 : i9 ≤ (i9 - 1) := n_le (a := i9) (b := (i9 - 1)) (by omega) (by omega) c_44
                            refine lv_iconst (v := 0) hx hb dL_areScores_453 (by decide) ?_
                            exact hj_454_33 S H locs hw false ls (lv_sub hl [5, 6, 7, 8, 9] rfl)
                          · skip
                            have c_44 : (i9 - 1) < i9 := n_nle (a := i9) (b := (i9 - 1)) (by omega) (by omega) c_44
                            refine lv_aload_n hx hb dL_areScores_395 rfl (lv_at hl 8 rfl) ?_
                            refine lv_iload hx hb dL_areScores_396 (lv_at hl 4 rfl) ?_
                            refine g_wr (rest := []) C hw (c_X5_place l D cI cZ cL ad S (aC ad cI) (wC_D C.2.2.1) (nI i9) hw.2.2.2.i0 (nn_place hw.2.2.2 (by omega))) (js_place hw.2.2.2 (by omega)) ck_X5_place v_640 rfl hl.1 rfl ⟨Nat.le_of_ble_eq_true rfl, Nat.le_of_ble_eq_true rfl⟩ (Nat.le_of_ble_eq_true rfl) dL_areScores_398 ⟨by omega, by omega⟩ (fun S H locs hle hw => ?_)
                            refine g_any (fun z45 => ?_)
                            refine lv_iload hx hb dL_areScores_401 (lv_at hl 0 rfl) ?_
                            refine lv_if_eq (tgt := 415) hx hb dL_areScores_403 (by decide) (fun c_46 => ?_) (fun c_46 => ?_)
                            · skip
                              exact absurd c_46 (by decide)
                            · skip
                              refine lv_aload_n hx hb dL_areScores_406 rfl (lv_at hl 8 rfl) ?_
                              refine lv_iload hx hb dL_areScores_407 (lv_at hl 3 rfl) ?_
                              refine g_wr (rest := [.int z45]) C hw (c_X5_place l D cI cZ cL ad S (aC ad cI) (wC_D C.2.2.1) (nI (i9 - 1)) hw.2.2.2.i0 (nn_place hw.2.2.2 (by omega))) (js_place hw.2.2.2 (by omega)) ck_X5_place v_640 rfl hl.1 rfl ⟨Nat.le_of_ble_eq_true rfl, Nat.le_of_ble_eq_true rfl⟩ (Nat.le_of_ble_eq_true rfl) dL_areScores_409 ⟨by omega, by omega⟩ (fun S H locs hle hw => ?_)
                              refine g_any (fun z47 => ?_)
                              refine lv_goto (tgt := 419) hx hb dL_areScores_412 (by decide) ?_
                              refine lv_icmp_ne (tgt := 453) hx hb dL_areScores_419 (by decide) (fun c_48 => ?_) (fun c_48 => ?_)
                              · skip
                                refine lv_iconst (v := 0) hx hb dL_areScores_453 (by decide) ?_
                                exact hj_454_33 S H locs hw false ls (lv_sub hl [5, 6, 7, 8, 9] rfl)
                              · skip
                                refine lv_aload hx hb dL_areScores_422 (lv_at hl 9 rfl) ?_
                                refine lv_iconst (v := 4) hx hb dL_areScores_424 (by decide) ?_
                                refine g_ld (n := 5) (i := 4) C hw 5 rfl (by omega) (Nat.le_of_ble_eq_true rfl) dL_areScores_425 ?_
                                refine q_top (y := 0) (f54) ?_
                                refine lv_if_eq (tgt := 449) hx hb dL_areScores_426 (by decide) (fun c_49 => ?_) (fun c_49 => ?_)
                                · skip
                                  refine lv_iconst (v := 1) hx hb dL_areScores_449 (by decide) ?_
                                  refine lv_goto (tgt := 454) hx hb dL_areScores_450 (by decide) ?_
                                  exact hj_454_33 S H locs hw true ls (lv_sub hl [5, 6, 7, 8, 9] rfl)
                                · skip
                                  exact absurd c_49 (by decide)
                      · skip
                        refine lv_iload hx hb dL_areScores_378 (lv_at hl 1 rfl) ?_
                        refine lv_if_gt (tgt := 395) hx hb dL_areScores_380 (by decide) (fun c_50 => ?_) (fun c_50 => ?_)
                        · skip
                          refine lv_aload_n hx hb dL_areScores_395 rfl (lv_at hl 8 rfl) ?_
                          refine lv_iload hx hb dL_areScores_396 (lv_at hl 4 rfl) ?_
                          refine g_wr (rest := []) C hw (c_X5_place l D cI cZ cL ad S (aC ad cI) (wC_D C.2.2.1) (nI i9) hw.2.2.2.i0 (nn_place hw.2.2.2 (by omega))) (js_place hw.2.2.2 (by omega)) ck_X5_place v_640 rfl hl.1 rfl ⟨Nat.le_of_ble_eq_true rfl, Nat.le_of_ble_eq_true rfl⟩ (Nat.le_of_ble_eq_true rfl) dL_areScores_398 ⟨by omega, by omega⟩ (fun S H locs hle hw => ?_)
                          refine g_any (fun z51 => ?_)
                          refine lv_iload hx hb dL_areScores_401 (lv_at hl 0 rfl) ?_
                          have hj_419_53 : ∀ (S : Mem) (H : Heap) (locs : List Loc), GW D cI (aC ad cI) ad aa fa m0 m1 s S H locs → ∀ z52 : Int32, ∀ ls : Array Slot, lv_has ls 14 [(13, .int (bI z30)), (10, .int (nI (i9 - 1))), (9, .int (nI i9)), (8, .int (nI i9)), (7, .int z5), (6, .int z6), (0, .ref (ad 0)), (4, .ref (aa 5))] → W p l e (rg 9 2) s m args below meth c H locs (1 * m1 + 0) (6 * (1 * m1 + 0)) (MQ below (QG D cI ad m0 m1 (pB)) args s 2 (6 * 2) (aC ad cI)) (F0 m 419 ls [.int z52, .int z51]) := by
                            intro S H locs hw z52 ls hl
                            refine lv_icmp_ne (tgt := 453) hx hb dL_areScores_419 (by decide) (fun c_54 => ?_) (fun c_54 => ?_)
                            · skip
                              refine lv_iconst (v := 0) hx hb dL_areScores_453 (by decide) ?_
                              exact hj_454_33 S H locs hw false ls (lv_sub hl [3, 4, 5, 6, 7] rfl)
                            · skip
                              refine lv_aload hx hb dL_areScores_422 (lv_at hl 7 rfl) ?_
                              refine lv_iconst (v := 4) hx hb dL_areScores_424 (by decide) ?_
                              refine g_ld (n := 5) (i := 4) C hw 5 rfl (by omega) (Nat.le_of_ble_eq_true rfl) dL_areScores_425 ?_
                              refine q_top (y := 0) (f54) ?_
                              refine lv_if_eq (tgt := 449) hx hb dL_areScores_426 (by decide) (fun c_55 => ?_) (fun c_55 => ?_)
                              · skip
                                refine lv_iconst (v := 1) hx hb dL_areScores_449 (by decide) ?_
                                refine lv_goto (tgt := 454) hx hb dL_areScores_450 (by decide) ?_
                                exact hj_454_33 S H locs hw true ls (lv_sub hl [3, 4, 5, 6, 7] rfl)
                              · skip
                                exact absurd c_55 (by decide)
                          refine lv_if_eq (tgt := 415) hx hb dL_areScores_403 (by decide) (fun c_56 => ?_) (fun c_56 => ?_)
                          · skip
                            have c_56 : z30 = false := b_f c_56
                            subst c_56
                            refine lv_iload hx hb dL_areScores_415 (lv_at hl 5 rfl) ?_
                            refine lv_iconst (v := 1) hx hb dL_areScores_417 (by decide) ?_
                            refine lv_iadd hx hb dL_areScores_418 ?_
                            refine q_top (y := nI (i9 + 1)) (nI_add i9 1) ?_
                            exact hj_419_53 S H locs hw (nI (i9 + 1)) ls (lv_sub hl [0, 3, 4, 5, 6, 7, 8, 9] rfl)
                          · skip
                            have c_56 : z30 = true := b_t c_56
                            subst c_56
                            refine lv_aload_n hx hb dL_areScores_406 rfl (lv_at hl 8 rfl) ?_
                            refine lv_iload hx hb dL_areScores_407 (lv_at hl 3 rfl) ?_
                            refine g_wr (rest := [.int z51]) C hw (c_X5_place l D cI cZ cL ad S (aC ad cI) (wC_D C.2.2.1) (nI (i9 - 1)) hw.2.2.2.i0 (nn_place hw.2.2.2 (by omega))) (js_place hw.2.2.2 (by omega)) ck_X5_place v_640 rfl hl.1 rfl ⟨Nat.le_of_ble_eq_true rfl, Nat.le_of_ble_eq_true rfl⟩ (Nat.le_of_ble_eq_true rfl) dL_areScores_409 ⟨by omega, by omega⟩ (fun S H locs hle hw => ?_)
                            refine g_any (fun z57 => ?_)
                            refine lv_goto (tgt := 419) hx hb dL_areScores_412 (by decide) ?_
                            exact hj_419_53 S H locs hw (z57) ls (lv_sub hl [0, 3, 4, 5, 6, 7, 8, 9] rfl)
                        · skip
                          refine lv_iload hx hb dL_areScores_383 (lv_at hl 0 rfl) ?_
                          refine lv_if_eq (tgt := 453) hx hb dL_areScores_385 (by decide) (fun c_58 => ?_) (fun c_58 => ?_)
                          · skip
                            have c_58 : z30 = false := b_f c_58
                            subst c_58
                            refine lv_iconst (v := 0) hx hb dL_areScores_453 (by decide) ?_
                            exact hj_454_33 S H locs hw false ls (lv_sub hl [5, 6, 7, 8, 9] rfl)
                          · skip
                            have c_58 : z30 = true := b_t c_58
                            subst c_58
                            refine lv_iload hx hb dL_areScores_388 (lv_at hl 3 rfl) ?_
                            refine lv_iload hx hb dL_areScores_390 (lv_at hl 4 rfl) ?_
                            refine lv_icmp_ge (tgt := 453) hx hb dL_areScores_392 (by decide) (fun c_59 => ?_) (fun c_59 => ?_)
                            · skip
                              have c_59 : i9 ≤ (i9 - 1) := n_le (a := i9) (b := (i9 - 1)) (by omega) (by omega) c_59
                              refine lv_iconst (v := 0) hx hb dL_areScores_453 (by decide) ?_
                              exact hj_454_33 S H locs hw false ls (lv_sub hl [5, 6, 7, 8, 9] rfl)
                            · skip
                              have c_59 : (i9 - 1) < i9 := n_nle (a := i9) (b := (i9 - 1)) (by omega) (by omega) c_59
                              refine lv_aload_n hx hb dL_areScores_395 rfl (lv_at hl 8 rfl) ?_
                              refine lv_iload hx hb dL_areScores_396 (lv_at hl 4 rfl) ?_
                              refine g_wr (rest := []) C hw (c_X5_place l D cI cZ cL ad S (aC ad cI) (wC_D C.2.2.1) (nI i9) hw.2.2.2.i0 (nn_place hw.2.2.2 (by omega))) (js_place hw.2.2.2 (by omega)) ck_X5_place v_640 rfl hl.1 rfl ⟨Nat.le_of_ble_eq_true rfl, Nat.le_of_ble_eq_true rfl⟩ (Nat.le_of_ble_eq_true rfl) dL_areScores_398 ⟨by omega, by omega⟩ (fun S H locs hle hw => ?_)
                              refine g_any (fun z60 => ?_)
                              refine lv_iload hx hb dL_areScores_401 (lv_at hl 0 rfl) ?_
                              refine lv_if_eq (tgt := 415) hx hb dL_areScores_403 (by decide) (fun c_61 => ?_) (fun c_61 => ?_)
                              · skip
                                exact absurd c_61 (by decide)
                              · skip
                                refine lv_aload_n hx hb dL_areScores_406 rfl (lv_at hl 8 rfl) ?_
                                refine lv_iload hx hb dL_areScores_407 (lv_at hl 3 rfl) ?_
                                refine g_wr (rest := [.int z60]) C hw (c_X5_place l D cI cZ cL ad S (aC ad cI) (wC_D C.2.2.1) (nI (i9 - 1)) hw.2.2.2.i0 (nn_place hw.2.2.2 (by omega))) (js_place hw.2.2.2 (by omega)) ck_X5_place v_640 rfl hl.1 rfl ⟨Nat.le_of_ble_eq_true rfl, Nat.le_of_ble_eq_true rfl⟩ (Nat.le_of_ble_eq_true rfl) dL_areScores_409 ⟨by omega, by omega⟩ (fun S H locs hle hw => ?_)
                                refine g_any (fun z62 => ?_)
                                refine lv_goto (tgt := 419) hx hb dL_areScores_412 (by decide) ?_
                                refine lv_icmp_ne (tgt := 453) hx hb dL_areScores_419 (by decide) (fun c_63 => ?_) (fun c_63 => ?_)
                                · skip
                                  refine lv_iconst (v := 0) hx hb dL_areScores_453 (by decide) ?_
                                  exact hj_454_33 S H locs hw false ls (lv_sub hl [5, 6, 7, 8, 9] rfl)
                                · skip
                                  refine lv_aload hx hb dL_areScores_422 (lv_at hl 9 rfl) ?_
                                  refine lv_iconst (v := 4) hx hb dL_areScores_424 (by decide) ?_
                                  refine g_ld (n := 5) (i := 4) C hw 5 rfl (by omega) (Nat.le_of_ble_eq_true rfl) dL_areScores_425 ?_
                                  refine q_top (y := 0) (f54) ?_
                                  refine lv_if_eq (tgt := 449) hx hb dL_areScores_426 (by decide) (fun c_64 => ?_) (fun c_64 => ?_)
                                  · skip
                                    refine lv_iconst (v := 1) hx hb dL_areScores_449 (by decide) ?_
                                    refine lv_goto (tgt := 454) hx hb dL_areScores_450 (by decide) ?_
                                    exact hj_454_33 S H locs hw true ls (lv_sub hl [5, 6, 7, 8, 9] rfl)
                                  · skip
                                    exact absurd c_64 (by decide)
                  refine lv_if_ne (tgt := 365) hx hb dL_areScores_353 (by decide) (fun c_65 => ?_) (fun c_65 => ?_)
                  · skip
                    refine lv_iconst (v := 0) hx hb dL_areScores_365 (by decide) ?_
                    exact hj_366_31 S H locs hw false ls (lv_sub hl [0, 1, 2, 3, 4, 5, 6, 8, 9] rfl)
                  · skip
                    refine lv_iload hx hb dL_areScores_356 (lv_at hl 0 rfl) ?_
                    refine lv_if_ne (tgt := 365) hx hb dL_areScores_358 (by decide) (fun c_66 => ?_) (fun c_66 => ?_)
                    · skip
                      refine lv_iconst (v := 0) hx hb dL_areScores_365 (by decide) ?_
                      exact hj_366_31 S H locs hw false ls (lv_sub hl [0, 1, 2, 3, 4, 5, 6, 8, 9] rfl)
                    · skip
                      refine lv_iconst (v := 1) hx hb dL_areScores_361 (by decide) ?_
                      refine lv_goto (tgt := 366) hx hb dL_areScores_362 (by decide) ?_
                      exact hj_366_31 S H locs hw true ls (lv_sub hl [0, 1, 2, 3, 4, 5, 6, 8, 9] rfl)
                · skip
                  have c_23 : (i9 - 1) < 0 := n_nle (a := 0) (b := (i9 - 1)) (by omega) (by omega) c_23
                  refine lv_aload_n hx hb dL_areScores_297 rfl (lv_at hl 6 rfl) ?_
                  refine lv_iload hx hb dL_areScores_298 (lv_at hl 1 rfl) ?_
                  refine g_wr (rest := []) C hw (c_X5_place l D cI cZ cL ad S (aC ad cI) (wC_D C.2.2.1) (nI i9) hw.2.2.2.i0 (nn_place hw.2.2.2 (by omega))) (js_place hw.2.2.2 (by omega)) ck_X5_place v_640 rfl hl.1 rfl ⟨Nat.le_of_ble_eq_true rfl, Nat.le_of_ble_eq_true rfl⟩ (Nat.le_of_ble_eq_true rfl) dL_areScores_300 ⟨by omega, by omega⟩ (fun S H locs hle hw => ?_)
                  refine g_any (fun z67 => ?_)
                  refine lv_iconst (v := 1) hx hb dL_areScores_303 (by decide) ?_
                  have hj_312_69 : ∀ (S : Mem) (H : Heap) (locs : List Loc), GW D cI (aC ad cI) ad aa fa m0 m1 s S H locs → ∀ z68 : Bool, ∀ ls : Array Slot, lv_has ls 14 [(8, .int (nI i9)), (7, .int z5), (6, .int z6), (0, .ref (ad 0)), (4, .ref (aa 5))] → W p l e (rg 9 2) s m args below meth c H locs (1 * m1 + 0) (6 * (1 * m1 + 0)) (MQ below (QG D cI ad m0 m1 (pB)) args s 2 (6 * 2) (aC ad cI)) (F0 m 312 ls [.int (bI z68)]) := by
                    intro S H locs hw z68 ls hl
                    refine lv_istore (lv' := [(5, .int (bI z68)), (8, .int (nI i9)), (7, .int z5), (6, .int z6), (0, .ref (ad 0)), (4, .ref (aa 5))]) hx hb dL_areScores_312 hl (by decide) rfl (fun ls hl => ?_)
                    refine lv_goto (tgt := 456) hx hb dL_areScores_314 (by decide) ?_
                    exact hj_456_22 S H locs hw z68 ls (lv_sub hl [1, 2, 3, 0, 4, 5] rfl)
                  refine lv_icmp_ne (tgt := 311) hx hb dL_areScores_304 (by decide) (fun c_70 => ?_) (fun c_70 => ?_)
                  · skip
                    refine lv_iconst (v := 0) hx hb dL_areScores_311 (by decide) ?_
                    exact hj_312_69 S H locs hw false ls (lv_sub hl [2, 3, 4, 6, 7] rfl)
                  · skip
                    refine lv_iconst (v := 1) hx hb dL_areScores_307 (by decide) ?_
                    refine lv_goto (tgt := 312) hx hb dL_areScores_308 (by decide) ?_
                    exact hj_312_69 S H locs hw true ls (lv_sub hl [2, 3, 4, 6, 7] rfl)
              · skip
                have c_20 : i9 = 0 := n_eq (a := i9) (b := 0) (by omega) (by omega) c_20
                refine lv_iconst (v := (-1)) hx hb dL_areScores_278 (by decide) ?_
                refine lv_goto (tgt := 290) hx hb dL_areScores_279 (by decide) ?_
                refine lv_istore (lv' := [(10, .int (-1)), (9, .int (nI i9)), (8, .int (nI i9)), (7, .int z5), (6, .int z6), (5, .int (bI true)), (0, .ref (ad 0)), (4, .ref (aa 5))]) hx hb dL_areScores_290 hl (by decide) rfl (fun ls hl => ?_)
                refine lv_iload hx hb dL_areScores_292 (lv_at hl 0 rfl) ?_
                refine lv_if_ge (tgt := 317) hx hb dL_areScores_294 (by decide) (fun c_71 => ?_) (fun c_71 => ?_)
                · skip
                  exact absurd c_71 (by decide)
                · skip
                  refine lv_aload_n hx hb dL_areScores_297 rfl (lv_at hl 6 rfl) ?_
                  refine lv_iload hx hb dL_areScores_298 (lv_at hl 1 rfl) ?_
                  refine g_wr (rest := []) C hw (c_X5_place l D cI cZ cL ad S (aC ad cI) (wC_D C.2.2.1) (nI i9) hw.2.2.2.i0 (nn_place hw.2.2.2 (by omega))) (js_place hw.2.2.2 (by omega)) ck_X5_place v_640 rfl hl.1 rfl ⟨Nat.le_of_ble_eq_true rfl, Nat.le_of_ble_eq_true rfl⟩ (Nat.le_of_ble_eq_true rfl) dL_areScores_300 ⟨by omega, by omega⟩ (fun S H locs hle hw => ?_)
                  refine g_any (fun z72 => ?_)
                  refine lv_iconst (v := 1) hx hb dL_areScores_303 (by decide) ?_
                  have hj_312_74 : ∀ (S : Mem) (H : Heap) (locs : List Loc), GW D cI (aC ad cI) ad aa fa m0 m1 s S H locs → ∀ z73 : Bool, ∀ ls : Array Slot, lv_has ls 14 [(8, .int (nI i9)), (7, .int z5), (6, .int z6), (0, .ref (ad 0)), (4, .ref (aa 5))] → W p l e (rg 9 2) s m args below meth c H locs (1 * m1 + 0) (6 * (1 * m1 + 0)) (MQ below (QG D cI ad m0 m1 (pB)) args s 2 (6 * 2) (aC ad cI)) (F0 m 312 ls [.int (bI z73)]) := by
                    intro S H locs hw z73 ls hl
                    refine lv_istore (lv' := [(5, .int (bI z73)), (8, .int (nI i9)), (7, .int z5), (6, .int z6), (0, .ref (ad 0)), (4, .ref (aa 5))]) hx hb dL_areScores_312 hl (by decide) rfl (fun ls hl => ?_)
                    refine lv_goto (tgt := 456) hx hb dL_areScores_314 (by decide) ?_
                    refine lv_iinc (v := nI (i9 + 1)) (lv' := [(8, .int (nI (i9 + 1))), (5, .int (bI z73)), (7, .int z5), (6, .int z6), (0, .ref (ad 0)), (4, .ref (aa 5))]) hx hb dL_areScores_456 hl (k := 1) rfl (nI_1 i9) (by decide) rfl (fun ls hl => ?_)
                    refine lv_goto (tgt := 251) hx hb dL_areScores_459 (by decide) ?_
                    exact ih_251 (i9 + 1) (by omega) (by omega) (by omega) S H locs hw z73 ls (lv_sub hl [0, 2, 3, 1, 4, 5] rfl)
                  refine lv_icmp_ne (tgt := 311) hx hb dL_areScores_304 (by decide) (fun c_75 => ?_) (fun c_75 => ?_)
                  · skip
                    refine lv_iconst (v := 0) hx hb dL_areScores_311 (by decide) ?_
                    exact hj_312_74 S H locs hw false ls (lv_sub hl [2, 3, 4, 6, 7] rfl)
                  · skip
                    refine lv_iconst (v := 1) hx hb dL_areScores_307 (by decide) ?_
                    refine lv_goto (tgt := 312) hx hb dL_areScores_308 (by decide) ?_
                    exact hj_312_74 S H locs hw true ls (lv_sub hl [2, 3, 4, 6, 7] rfl)
      exact hloop_251_17 (m1 + 1) (0) (by omega) (by omega) (by omega) S H locs hw z7 ls (lv_sub hl [0, 1, 2, 3, 4, 5] rfl)
    have hloop_37_79 : ∀ (n i4 : Nat), i4 ≤ m1 → m1 < i4 + n → 0 ≤ i4 → ∀ (S : Mem) (H : Heap) (locs : List Loc), GW D cI (aC ad cI) ad aa fa m0 m1 s S H locs → ∀ z76 : Int32, ∀ z77 : Int32, ∀ z78 : Bool, ∀ ls : Array Slot, lv_has ls 14 [(8, .int (nI i4)), (7, .int z76), (6, .int z77), (5, .int (bI z78)), (0, .ref (ad 0)), (1, .ref (aa 0)), (2, .ref (aa 2)), (3, .ref (aa 4)), (4, .ref (aa 5))] → W p l e (rg 9 2) s m args below meth c H locs (1 * i4 + 0) (6 * (1 * i4 + 0)) (MQ below (QG D cI ad m0 m1 (pB)) args s 2 (6 * 2) (aC ad cI)) (F0 m 37 ls []) := by
      intro n
      induction n with
      | zero => intro i4 h1 h2; exact absurd h2 (by omega)
      | succ n ih_37 =>
        intro i4 hi_37 hn_37 hs_37 S H locs hw z76 z77 z78 ls hl
        refine lv_iload hx hb dL_areScores_37 (lv_at hl 0 rfl) ?_
        refine lv_aload hx hb dL_areScores_39 (lv_at hl 8 rfl) ?_
        refine lv_iconst (v := 1) hx hb dL_areScores_41 (by decide) ?_
        refine g_ld (n := 5) (i := 1) C hw 5 rfl (by omega) (Nat.le_of_ble_eq_true rfl) dL_areScores_42 ?_
        refine q_top (y := nI m1) (f51) ?_
        refine lv_icmp_ge (tgt := 248) hx hb dL_areScores_43 (by decide) (fun c_80 => ?_) (fun c_80 => ?_)
        · skip
          have c_80 : m1 ≤ i4 := n_le (a := m1) (b := i4) (by omega) (by omega) c_80
          refine W.widen (k := 1 * m1 + 0) (n := 6 * (1 * m1 + 0)) (by omega) (by omega) ?_
          exact hj_248_8 S H locs hw (z76) (z77) z78 ls (lv_sub hl [1, 2, 3, 4, 8] rfl)
        · skip
          have c_80 : i4 < m1 := n_nle (a := m1) (b := i4) (by omega) (by omega) c_80
          refine lv_iload hx hb dL_areScores_46 (lv_at hl 3 rfl) ?_
          refine lv_if_eq (tgt := 248) hx hb dL_areScores_48 (by decide) (fun c_81 => ?_) (fun c_81 => ?_)
          · skip
            have c_81 : z78 = false := b_f c_81
            subst c_81
            refine W.widen (k := 1 * m1 + 0) (n := 6 * (1 * m1 + 0)) (by omega) (by omega) ?_
            exact hj_248_8 S H locs hw (z76) (z77) false ls (lv_sub hl [1, 2, 3, 4, 8] rfl)
          · skip
            have c_81 : z78 = true := b_t c_81
            subst c_81
            refine lv_iconst (v := 0) hx hb dL_areScores_51 (by decide) ?_
            refine lv_istore (lv' := [(9, .int 0), (8, .int (nI i4)), (7, .int z76), (6, .int z77), (5, .int (bI true)), (0, .ref (ad 0)), (1, .ref (aa 0)), (2, .ref (aa 2)), (3, .ref (aa 4)), (4, .ref (aa 5))]) hx hb dL_areScores_52 hl (by decide) rfl (fun ls hl => ?_)
            refine lv_iconst (v := 0) hx hb dL_areScores_54 (by decide) ?_
            refine lv_istore (lv' := [(10, .int 0), (9, .int 0), (8, .int (nI i4)), (7, .int z76), (6, .int z77), (5, .int (bI true)), (0, .ref (ad 0)), (1, .ref (aa 0)), (2, .ref (aa 2)), (3, .ref (aa 4)), (4, .ref (aa 5))]) hx hb dL_areScores_55 hl (by decide) rfl (fun ls hl => ?_)
            have hj_149_84 : ∀ (S : Mem) (H : Heap) (locs : List Loc), GW D cI (aC ad cI) ad aa fa m0 m1 s S H locs → ∀ z83 : Int32, ∀ ls : Array Slot, lv_has ls 14 [(9, .int z83), (8, .int (nI i4)), (7, .int z76), (6, .int z77), (0, .ref (ad 0)), (1, .ref (aa 0)), (2, .ref (aa 2)), (3, .ref (aa 4)), (4, .ref (aa 5))] → W p l e (rg 9 2) s m args below meth c H locs (1 * i4 + 0) (6 * (1 * i4 + 0)) (MQ below (QG D cI ad m0 m1 (pB)) args s 2 (6 * 2) (aC ad cI)) (F0 m 149 ls []) := by
              intro S H locs hw z83 ls hl
              refine lv_iload hx hb dL_areScores_149 (lv_at hl 2 rfl) ?_
              refine lv_aload_n hx hb dL_areScores_151 rfl (lv_at hl 7 rfl) ?_
              refine lv_iload hx hb dL_areScores_152 (lv_at hl 1 rfl) ?_
              refine g_ld (n := 8) (i := i4) C hw 4 rfl (by omega) (Nat.le_of_ble_eq_true rfl) dL_areScores_154 ?_
              refine g_any (fun z85 => ?_)
              refine lv_iadd hx hb dL_areScores_155 ?_
              refine g_any (fun z86 => ?_)
              refine lv_istore (lv' := [(7, .int z86), (9, .int z83), (8, .int (nI i4)), (6, .int z77), (0, .ref (ad 0)), (1, .ref (aa 0)), (2, .ref (aa 2)), (3, .ref (aa 4)), (4, .ref (aa 5))]) hx hb dL_areScores_156 hl (by decide) rfl (fun ls hl => ?_)
              refine lv_iload hx hb dL_areScores_158 (lv_at hl 3 rfl) ?_
              refine lv_aload hx hb dL_areScores_160 (lv_at hl 8 rfl) ?_
              refine lv_iconst (v := 4) hx hb dL_areScores_162 (by decide) ?_
              refine g_ld (n := 5) (i := 4) C hw 5 rfl (by omega) (Nat.le_of_ble_eq_true rfl) dL_areScores_163 ?_
              refine q_top (y := 0) (f54) ?_
              refine lv_iconst (v := 1) hx hb dL_areScores_164 (by decide) ?_
              refine lv_icmp_ne (tgt := 177) hx hb dL_areScores_165 (by decide) (fun c_87 => ?_) (fun c_87 => ?_)
              · skip
                refine lv_iconst (v := 0) hx hb dL_areScores_177 (by decide) ?_
                refine lv_iadd hx hb dL_areScores_178 ?_
                refine g_any (fun z88 => ?_)
                refine lv_istore (lv' := [(6, .int z88), (7, .int z86), (9, .int z83), (8, .int (nI i4)), (0, .ref (ad 0)), (1, .ref (aa 0)), (2, .ref (aa 2)), (3, .ref (aa 4)), (4, .ref (aa 5))]) hx hb dL_areScores_179 hl (by decide) rfl (fun ls hl => ?_)
                refine lv_aload_n hx hb dL_areScores_181 rfl (lv_at hl 4 rfl) ?_
                refine lv_iload hx hb dL_areScores_182 (lv_at hl 3 rfl) ?_
                refine g_rd (rest := []) C hw (c_X5_score l D cI cZ cL ad S (nI i4) hw.2.2.2.i0 (nn_score hw.2.2.2 (by omega))) ck_X5_score v_587 rfl hl.1 rfl ⟨Nat.le_of_ble_eq_true rfl, Nat.le_of_ble_eq_true rfl⟩ (Nat.le_of_ble_eq_true rfl) dL_areScores_184 ⟨by omega, by omega⟩ ?_
                refine g_any (fun z89 => ?_)
                refine lv_iload hx hb dL_areScores_187 (lv_at hl 2 rfl) ?_
                have hj_240_91 : ∀ (S : Mem) (H : Heap) (locs : List Loc), GW D cI (aC ad cI) ad aa fa m0 m1 s S H locs → ∀ z90 : Bool, ∀ ls : Array Slot, lv_has ls 14 [(6, .int z88), (7, .int z86), (8, .int (nI i4)), (0, .ref (ad 0)), (1, .ref (aa 0)), (2, .ref (aa 2)), (3, .ref (aa 4)), (4, .ref (aa 5))] → W p l e (rg 9 2) s m args below meth c H locs (1 * i4 + 1) (6 * (1 * i4 + 1)) (MQ below (QG D cI ad m0 m1 (pB)) args s 2 (6 * 2) (aC ad cI)) (F0 m 240 ls [.int (bI z90)]) := by
                  intro S H locs hw z90 ls hl
                  refine lv_istore (lv' := [(5, .int (bI z90)), (6, .int z88), (7, .int z86), (8, .int (nI i4)), (0, .ref (ad 0)), (1, .ref (aa 0)), (2, .ref (aa 2)), (3, .ref (aa 4)), (4, .ref (aa 5))]) hx hb dL_areScores_240 hl (by decide) rfl (fun ls hl => ?_)
                  refine lv_iinc (v := nI (i4 + 1)) (lv' := [(8, .int (nI (i4 + 1))), (5, .int (bI z90)), (6, .int z88), (7, .int z86), (0, .ref (ad 0)), (1, .ref (aa 0)), (2, .ref (aa 2)), (3, .ref (aa 4)), (4, .ref (aa 5))]) hx hb dL_areScores_242 hl (k := 3) rfl (nI_1 i4) (by decide) rfl (fun ls hl => ?_)
                  refine lv_goto (tgt := 37) hx hb dL_areScores_245 (by decide) ?_
                  refine W.widen (k := 1 * (i4 + 1) + 0) (n := 6 * (1 * (i4 + 1) + 0)) (by omega) (by omega) ?_
                  exact ih_37 (i4 + 1) (by omega) (by omega) (by omega) S H locs hw (z86) (z88) z90 ls (lv_sub hl [0, 3, 2, 1, 4, 5, 6, 7, 8] rfl)
                refine lv_icmp_ne (tgt := 239) hx hb dL_areScores_189 (by decide) (fun c_92 => ?_) (fun c_92 => ?_)
                · skip
                  refine lv_iconst (v := 0) hx hb dL_areScores_239 (by decide) ?_
                  refine W.widen (k := 1 * i4 + 1) (n := 6 * (1 * i4 + 1)) (by omega) (by omega) ?_
                  exact hj_240_91 S H locs hw false ls (lv_sub hl [0, 1, 3, 4, 5, 6, 7, 8] rfl)
                · skip
                  refine lv_aload_n hx hb dL_areScores_192 rfl (lv_at hl 4 rfl) ?_
                  refine lv_iload hx hb dL_areScores_193 (lv_at hl 3 rfl) ?_
                  refine g_wr (rest := []) C hw (c_X5_scoreAnew l D cI cZ cL ad S (aC ad cI) (wC_D C.2.2.1) (nI i4) hw.2.2.2.i0 (nn_anew hw.2.2.2 (by omega))) (js_anew hw.2.2.2 (by omega)) ck_X5_scoreAnew v_599 rfl hl.1 rfl ⟨Nat.le_of_ble_eq_true rfl, Nat.le_of_ble_eq_true rfl⟩ (Nat.le_of_ble_eq_true rfl) dL_areScores_195 ⟨by omega, by omega⟩ (fun S H locs hle hw => ?_)
                  refine g_any (fun z93 => ?_)
                  refine lv_iload hx hb dL_areScores_198 (lv_at hl 2 rfl) ?_
                  refine lv_icmp_ne (tgt := 239) hx hb dL_areScores_200 (by decide) (fun c_94 => ?_) (fun c_94 => ?_)
                  · skip
                    refine lv_iconst (v := 0) hx hb dL_areScores_239 (by decide) ?_
                    refine W.widen (k := 1 * i4 + 1) (n := 6 * (1 * i4 + 1)) (by omega) (by omega) ?_
                    exact hj_240_91 S H locs hw false ls (lv_sub hl [0, 1, 3, 4, 5, 6, 7, 8] rfl)
                  · skip
                    refine lv_aload_n hx hb dL_areScores_203 rfl (lv_at hl 4 rfl) ?_
                    refine lv_bipush (v := 12) hx hb dL_areScores_204 (by decide) ?_
                    refine lv_iload hx hb dL_areScores_206 (lv_at hl 3 rfl) ?_
                    refine lv_iconst (v := 0) hx hb dL_areScores_208 (by decide) ?_
                    refine g_hlW (rest := []) C hw (of12 C.1.2.2.2.2 C.2.2.1 C.2.2.2.1 hw.2.2.2 (t := i4) (by omega)) ck_L_of v_516 hl.1 rfl ⟨Nat.le_of_ble_eq_true rfl, Nat.le_of_ble_eq_true rfl⟩ (Nat.le_of_ble_eq_true rfl) dL_areScores_209 ⟨by omega, by omega⟩ (fun v S H locs hpo hle hw => ?_)
                    obtain ⟨z95, rfl⟩ := hpo
                    refine W.widen (k := 1 * i4 + 1) (n := 6 * (1 * i4 + 1)) (by omega) (by omega) ?_
                    refine lv_aload hx hb dL_areScores_212 (lv_at hl 8 rfl) ?_
                    refine lv_iconst (v := 4) hx hb dL_areScores_214 (by decide) ?_
                    refine g_ld (n := 5) (i := 4) C hw 5 rfl (by omega) (Nat.le_of_ble_eq_true rfl) dL_areScores_215 ?_
                    refine q_top (y := 0) (f54) ?_
                    refine lv_iconst (v := 1) hx hb dL_areScores_216 (by decide) ?_
                    refine lv_icmp_ne (tgt := 229) hx hb dL_areScores_217 (by decide) (fun c_96 => ?_) (fun c_96 => ?_)
                    · skip
                      refine lv_sipush (v := (-1203)) hx hb dL_areScores_229 (by decide) ?_
                      refine lv_icmp_ne (tgt := 239) hx hb dL_areScores_232 (by decide) (fun c_97 => ?_) (fun c_97 => ?_)
                      · skip
                        refine lv_iconst (v := 0) hx hb dL_areScores_239 (by decide) ?_
                        exact hj_240_91 S H locs hw false ls (lv_sub hl [0, 1, 3, 4, 5, 6, 7, 8] rfl)
                      · skip
                        refine lv_iconst (v := 1) hx hb dL_areScores_235 (by decide) ?_
                        refine lv_goto (tgt := 240) hx hb dL_areScores_236 (by decide) ?_
                        exact hj_240_91 S H locs hw true ls (lv_sub hl [0, 1, 3, 4, 5, 6, 7, 8] rfl)
                    · skip
                      exact absurd c_96 (by decide)
              · skip
                exact absurd c_87 (by decide)
            have hloop_57_99 : ∀ (n i82 : Nat), i82 ≤ m0 → m0 < i82 + n → 0 ≤ i82 → ∀ (S : Mem) (H : Heap) (locs : List Loc), GW D cI (aC ad cI) ad aa fa m0 m1 s S H locs → ∀ z98 : Int32, ∀ ls : Array Slot, lv_has ls 14 [(10, .int (nI i82)), (9, .int z98), (8, .int (nI i4)), (7, .int z76), (6, .int z77), (0, .ref (ad 0)), (1, .ref (aa 0)), (2, .ref (aa 2)), (3, .ref (aa 4)), (4, .ref (aa 5))] → W p l e (rg 9 2) s m args below meth c H locs (1 * i4 + 0) (6 * (1 * i4 + 0)) (MQ below (QG D cI ad m0 m1 (pB)) args s 2 (6 * 2) (aC ad cI)) (F0 m 57 ls []) := by
              intro n
              induction n with
              | zero => intro i82 h1 h2; exact absurd h2 (by omega)
              | succ n ih_57 =>
                intro i82 hi_57 hn_57 hs_57 S H locs hw z98 ls hl
                refine lv_iload hx hb dL_areScores_57 (lv_at hl 0 rfl) ?_
                refine lv_aload hx hb dL_areScores_59 (lv_at hl 9 rfl) ?_
                refine lv_iconst (v := 0) hx hb dL_areScores_61 (by decide) ?_
                refine g_ld (n := 5) (i := 0) C hw 5 rfl (by omega) (Nat.le_of_ble_eq_true rfl) dL_areScores_62 ?_
                refine q_top (y := nI m0) (f50) ?_
                refine lv_icmp_ge (tgt := 149) hx hb dL_areScores_63 (by decide) (fun c_100 => ?_) (fun c_100 => ?_)
                · skip
                  have c_100 : m0 ≤ i82 := n_le (a := m0) (b := i82) (by omega) (by omega) c_100
                  exact hj_149_84 S H locs hw (z98) ls (lv_sub hl [1, 2, 3, 4, 5, 6, 7, 8, 9] rfl)
                · skip
                  have c_100 : i82 < m0 := n_nle (a := m0) (b := i82) (by omega) (by omega) c_100
                  refine lv_iload hx hb dL_areScores_66 (lv_at hl 1 rfl) ?_
                  refine lv_aload_n hx hb dL_areScores_68 rfl (lv_at hl 5 rfl) ?_
                  refine lv_iload hx hb dL_areScores_69 (lv_at hl 2 rfl) ?_
                  refine lv_iload hx hb dL_areScores_71 (lv_at hl 0 rfl) ?_
                  refine g_rd (rest := [.int z98]) C hw (c_X5_solvedAt l D cI cZ cL ad S (nI i4) (nI i82) hw.2.2.2.i0 (nn_solved hw.2.2.2 (by omega) (by omega))) ck_X5_solvedAt v_231 rfl hl.1 rfl ⟨Nat.le_of_ble_eq_true rfl, Nat.le_of_ble_eq_true rfl⟩ (Nat.le_of_ble_eq_true rfl) dL_areScores_73 ⟨by omega, by omega⟩ ?_
                  refine g_any (fun z101 => ?_)
                  have hj_110_103 : ∀ (S : Mem) (H : Heap) (locs : List Loc), GW D cI (aC ad cI) ad aa fa m0 m1 s S H locs → ∀ z102 : Int32, ∀ ls : Array Slot, lv_has ls 14 [(10, .int (nI i82)), (8, .int (nI i4)), (7, .int z76), (6, .int z77), (0, .ref (ad 0)), (1, .ref (aa 0)), (2, .ref (aa 2)), (3, .ref (aa 4)), (4, .ref (aa 5))] → W p l e (rg 9 2) s m args below meth c H locs (1 * i4 + 0) (6 * (1 * i4 + 0)) (MQ below (QG D cI ad m0 m1 (pB)) args s 2 (6 * 2) (aC ad cI)) (F0 m 110 ls [.int z102, .int z98]) := by
                    intro S H locs hw z102 ls hl
                    refine lv_iadd hx hb dL_areScores_110 ?_
                    refine g_any (fun z104 => ?_)
                    refine lv_istore (lv' := [(9, .int z104), (10, .int (nI i82)), (8, .int (nI i4)), (7, .int z76), (6, .int z77), (0, .ref (ad 0)), (1, .ref (aa 0)), (2, .ref (aa 2)), (3, .ref (aa 4)), (4, .ref (aa 5))]) hx hb dL_areScores_111 hl (by decide) rfl (fun ls hl => ?_)
                    refine lv_iload hx hb dL_areScores_113 (lv_at hl 0 rfl) ?_
                    refine lv_aload_n hx hb dL_areScores_115 rfl (lv_at hl 5 rfl) ?_
                    refine lv_iload hx hb dL_areScores_116 (lv_at hl 1 rfl) ?_
                    refine g_rd (rest := [.int z104]) C hw (c_X5_isFree l D cI cZ cL ad S (nI i82) hw.2.2.2.i0 (nn_free hw.2.2.2 (by omega))) ck_X5_isFree v_319 rfl hl.1 rfl ⟨Nat.le_of_ble_eq_true rfl, Nat.le_of_ble_eq_true rfl⟩ (Nat.le_of_ble_eq_true rfl) dL_areScores_118 ⟨by omega, by omega⟩ ?_
                    refine g_any (fun z105 => ?_)
                    have hj_140_107 : ∀ (S : Mem) (H : Heap) (locs : List Loc), GW D cI (aC ad cI) ad aa fa m0 m1 s S H locs → ∀ z106 : Int32, ∀ ls : Array Slot, lv_has ls 14 [(10, .int (nI i82)), (8, .int (nI i4)), (7, .int z76), (6, .int z77), (0, .ref (ad 0)), (1, .ref (aa 0)), (2, .ref (aa 2)), (3, .ref (aa 4)), (4, .ref (aa 5))] → W p l e (rg 9 2) s m args below meth c H locs (1 * i4 + 0) (6 * (1 * i4 + 0)) (MQ below (QG D cI ad m0 m1 (pB)) args s 2 (6 * 2) (aC ad cI)) (F0 m 140 ls [.int z106, .int z104]) := by
                      intro S H locs hw z106 ls hl
                      refine lv_isub hx hb dL_areScores_140 ?_
                      refine g_any (fun z108 => ?_)
                      refine lv_istore (lv' := [(9, .int z108), (10, .int (nI i82)), (8, .int (nI i4)), (7, .int z76), (6, .int z77), (0, .ref (ad 0)), (1, .ref (aa 0)), (2, .ref (aa 2)), (3, .ref (aa 4)), (4, .ref (aa 5))]) hx hb dL_areScores_141 hl (by decide) rfl (fun ls hl => ?_)
                      refine lv_iinc (v := nI (i82 + 1)) (lv' := [(10, .int (nI (i82 + 1))), (9, .int z108), (8, .int (nI i4)), (7, .int z76), (6, .int z77), (0, .ref (ad 0)), (1, .ref (aa 0)), (2, .ref (aa 2)), (3, .ref (aa 4)), (4, .ref (aa 5))]) hx hb dL_areScores_143 hl (k := 1) rfl (nI_1 i82) (by decide) rfl (fun ls hl => ?_)
                      refine lv_goto (tgt := 57) hx hb dL_areScores_146 (by decide) ?_
                      exact ih_57 (i82 + 1) (by omega) (by omega) (by omega) S H locs hw (z108) ls (lv_sub hl [0, 1, 2, 3, 4, 5, 6, 7, 8, 9] rfl)
                    refine lv_if_eq (tgt := 128) hx hb dL_areScores_121 (by decide) (fun c_109 => ?_) (fun c_109 => ?_)
                    · skip
                      refine lv_aload_n hx hb dL_areScores_128 rfl (lv_at hl 7 rfl) ?_
                      refine lv_bipush (v := 8) hx hb dL_areScores_129 (by decide) ?_
                      refine lv_iload hx hb dL_areScores_131 (lv_at hl 2 rfl) ?_
                      refine lv_imul hx hb dL_areScores_133 ?_
                      refine q_top (y := nI (8 * i4)) (pk_mul 8 i4) ?_
                      refine lv_iload hx hb dL_areScores_134 (lv_at hl 1 rfl) ?_
                      refine lv_iadd hx hb dL_areScores_136 ?_
                      refine q_top (y := nI (8 * i4 + i82)) (nI_add (8 * i4) i82) ?_
                      refine g_ld (n := 40) (i := (8 * i4 + i82)) C hw 2 rfl (by omega) (Nat.le_of_ble_eq_true rfl) dL_areScores_137 ?_
                      refine q_top (y := 0) (fh _) ?_
                      refine lv_iconst (v := 2) hx hb dL_areScores_138 (by decide) ?_
                      refine lv_ishr hx hb dL_areScores_139 ?_
                      refine q_top (y := 0) (by decide) ?_
                      exact hj_140_107 S H locs hw (0) ls (lv_sub hl [1, 2, 3, 4, 5, 6, 7, 8, 9] rfl)
                    · skip
                      refine lv_iconst (v := 0) hx hb dL_areScores_124 (by decide) ?_
                      refine lv_goto (tgt := 140) hx hb dL_areScores_125 (by decide) ?_
                      exact hj_140_107 S H locs hw (0) ls (lv_sub hl [1, 2, 3, 4, 5, 6, 7, 8, 9] rfl)
                  refine lv_if_lt (tgt := 109) hx hb dL_areScores_76 (by decide) (fun c_110 => ?_) (fun c_110 => ?_)
                  · skip
                    refine lv_iconst (v := 0) hx hb dL_areScores_109 (by decide) ?_
                    exact hj_110_103 S H locs hw (0) ls (lv_sub hl [0, 2, 3, 4, 5, 6, 7, 8, 9] rfl)
                  · skip
                    refine lv_aload_n hx hb dL_areScores_79 rfl (lv_at hl 5 rfl) ?_
                    refine lv_iload hx hb dL_areScores_80 (lv_at hl 2 rfl) ?_
                    refine lv_iload hx hb dL_areScores_82 (lv_at hl 0 rfl) ?_
                    refine g_rd (rest := [.int z98]) C hw (c_X5_isVoid l D cI cZ cL ad S (nI i4) (nI i82) hw.2.2.2.i0 (nn_void hw.2.2.2 (by omega) (by omega))) ck_X5_isVoid v_565 rfl hl.1 rfl ⟨Nat.le_of_ble_eq_true rfl, Nat.le_of_ble_eq_true rfl⟩ (Nat.le_of_ble_eq_true rfl) dL_areScores_84 ⟨by omega, by omega⟩ ?_
                    refine g_any (fun z111 => ?_)
                    refine lv_if_ne (tgt := 109) hx hb dL_areScores_87 (by decide) (fun c_112 => ?_) (fun c_112 => ?_)
                    · skip
                      refine lv_iconst (v := 0) hx hb dL_areScores_109 (by decide) ?_
                      exact hj_110_103 S H locs hw (0) ls (lv_sub hl [0, 2, 3, 4, 5, 6, 7, 8, 9] rfl)
                    · skip
                      refine lv_aload_n hx hb dL_areScores_90 rfl (lv_at hl 5 rfl) ?_
                      refine lv_iload hx hb dL_areScores_91 (lv_at hl 0 rfl) ?_
                      refine g_rd (rest := [.int z98]) C hw (c_X5_isFree l D cI cZ cL ad S (nI i82) hw.2.2.2.i0 (nn_free hw.2.2.2 (by omega))) ck_X5_isFree v_319 rfl hl.1 rfl ⟨Nat.le_of_ble_eq_true rfl, Nat.le_of_ble_eq_true rfl⟩ (Nat.le_of_ble_eq_true rfl) dL_areScores_93 ⟨by omega, by omega⟩ ?_
                      refine g_any (fun z113 => ?_)
                      refine lv_if_ne (tgt := 109) hx hb dL_areScores_96 (by decide) (fun c_114 => ?_) (fun c_114 => ?_)
                      · skip
                        refine lv_iconst (v := 0) hx hb dL_areScores_109 (by decide) ?_
                        exact hj_110_103 S H locs hw (0) ls (lv_sub hl [0, 2, 3, 4, 5, 6, 7, 8, 9] rfl)
                      · skip
                        refine lv_aload_n hx hb dL_areScores_99 rfl (lv_at hl 6 rfl) ?_
                        refine lv_bipush (v := 6) hx hb dL_areScores_100 (by decide) ?_
                        refine lv_iload hx hb dL_areScores_102 (lv_at hl 0 rfl) ?_
                        refine lv_imul hx hb dL_areScores_104 ?_
                        refine q_top (y := nI (6 * i82)) (pk_mul 6 i82) ?_
                        refine g_ld (n := 48) (i := (6 * i82)) C hw 0 rfl (by omega) (Nat.le_of_ble_eq_true rfl) dL_areScores_105 ?_
                        refine g_any (fun z115 => ?_)
                        refine lv_goto (tgt := 110) hx hb dL_areScores_106 (by decide) ?_
                        exact hj_110_103 S H locs hw (z115) ls (lv_sub hl [0, 2, 3, 4, 5, 6, 7, 8, 9] rfl)
            exact hloop_57_99 (m0 + 1) (0) (by omega) (by omega) (by omega) S H locs hw (0) ls (lv_sub hl [0, 1, 2, 3, 4, 6, 7, 8, 9, 10] rfl)
    refine W.widen (k := 1 * (0) + 0) (n := 6 * (1 * (0) + 0)) (by omega) (by omega) ?_
    exact hloop_37_79 (m1 + 1) (0) (by omega) (by omega) (by omega) S H locs hw (0) (0) z2 ls (lv_sub hl [0, 1, 2, 3, 4, 5, 6, 7, 8] rfl)
  refine lv_icmp_ne (tgt := 25) hx hb dL_areScores_9 (by decide) (fun c_116 => ?_) (fun c_116 => ?_)
  · skip
    refine lv_iconst (v := 0) hx hb dL_areScores_25 (by decide) ?_
    exact hj_26_3 S H locs hw false ls (lv_sub hl [0, 1, 2, 3, 4] rfl)
  · skip
    refine lv_aload_n hx hb dL_areScores_12 rfl (lv_at hl 0 rfl) ?_
    refine lv_iconst (v := (-1)) hx hb dL_areScores_13 (by decide) ?_
    refine g_wr (rest := []) C hw (c_X5_teamAt l D cI cZ cL ad S (aC ad cI) (wC_D C.2.2.1) ((-1)) hw.2.2.2.i0) (js_at hw.2.2.2) ck_X5_teamAt v_683 rfl hl.1 rfl ⟨Nat.le_of_ble_eq_true rfl, Nat.le_of_ble_eq_true rfl⟩ (Nat.le_of_ble_eq_true rfl) dL_areScores_14 ⟨by omega, by omega⟩ (fun S H locs hle hw => ?_)
    refine g_any (fun z117 => ?_)
    refine lv_iconst (v := (-1)) hx hb dL_areScores_17 (by decide) ?_
    refine lv_icmp_ne (tgt := 25) hx hb dL_areScores_18 (by decide) (fun c_118 => ?_) (fun c_118 => ?_)
    · skip
      refine lv_iconst (v := 0) hx hb dL_areScores_25 (by decide) ?_
      exact hj_26_3 S H locs hw false ls (lv_sub hl [0, 1, 2, 3, 4] rfl)
    · skip
      refine lv_iconst (v := 1) hx hb dL_areScores_21 (by decide) ?_
      refine lv_goto (tgt := 26) hx hb dL_areScores_22 (by decide) ?_
      exact hj_26_3 S H locs hw true ls (lv_sub hl [0, 1, 2, 3, 4] rfl)

