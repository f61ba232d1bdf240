/-! p29: the law's act and of, a contract for each call and each way out -/
theorem v_338 : Cond.methodLink "PuzzleRegistryLaw" 9 yX5_pass ∈ TW := q_mem 338 (by decide +kernel) rfl
theorem v_335 : Cond.classLink "PuzzleRegistryLaw" 50 "java/lang/IndexOutOfBoundsException" ∈ TW := q_mem 335 (by decide +kernel) rfl
theorem v_336 : Cond.classLink "PuzzleRegistryLaw" 52 "java/lang/IllegalArgumentException" ∈ TW := q_mem 336 (by decide +kernel) rfl
theorem v_377 : Cond.methodLink "PuzzleRegistryLaw" 15 yX5_addRiddle ∈ TW := q_mem 377 (by decide +kernel) rfl
theorem v_386 : Cond.methodLink "PuzzleRegistryLaw" 19 yX5_need ∈ TW := q_mem 386 (by decide +kernel) rfl
theorem v_411 : Cond.methodLink "PuzzleRegistryLaw" 30 yX5_answer ∈ TW := q_mem 411 (by decide +kernel) rfl
theorem v_462 : Cond.methodLink "PuzzleRegistryLaw" 34 yX5_hint ∈ TW := q_mem 462 (by decide +kernel) rfl
theorem v_492 : Cond.methodLink "PuzzleRegistryLaw" 37 yX5_clear ∈ TW := q_mem 492 (by decide +kernel) rfl
theorem v_337 : Cond.classLink "PuzzleRegistryLaw" 54 "java/lang/IllegalStateException" ∈ TW := q_mem 337 (by decide +kernel) rfl
theorem v_497 : Cond.methodLink "PuzzleRegistryLaw" 41 yX5_pardon ∈ TW := q_mem 497 (by decide +kernel) rfl
theorem v_508 : Cond.methodLink "PuzzleRegistryLaw" 44 yX5_setBound ∈ TW := q_mem 508 (by decide +kernel) rfl
theorem v_512 : Cond.methodLink "PuzzleRegistryLaw" 47 yX5_setPrize ∈ TW := q_mem 512 (by decide +kernel) rfl
theorem v_401 : Cond.methodLink "PuzzleRegistryLaw" 23 yX5_addTeam ∈ TW := q_mem 401 (by decide +kernel) rfl
theorem v_520 : Cond.methodLink "PuzzleRegistryLaw" 56 yX5_price ∈ TW := q_mem 520 (by decide +kernel) rfl
theorem v_540 : Cond.methodLink "PuzzleRegistryLaw" 59 yX5_openedAt ∈ TW := q_mem 540 (by decide +kernel) rfl
theorem v_231 : Cond.methodLink "PuzzleRegistryLaw" 62 yX5_solvedAt ∈ TW := q_mem 231 (by decide +kernel) rfl
theorem v_319 : Cond.methodLink "PuzzleRegistryLaw" 65 yX5_isFree ∈ TW := q_mem 319 (by decide +kernel) rfl
theorem v_544 : Cond.methodLink "PuzzleRegistryLaw" 69 yX5_likeness ∈ TW := q_mem 544 (by decide +kernel) rfl
theorem v_549 : Cond.methodLink "PuzzleRegistryLaw" 72 yX5_areLinked ∈ TW := q_mem 549 (by decide +kernel) rfl
theorem v_557 : Cond.methodLink "PuzzleRegistryLaw" 75 yX5_isCheated ∈ TW := q_mem 557 (by decide +kernel) rfl
theorem v_565 : Cond.methodLink "PuzzleRegistryLaw" 78 yX5_isVoid ∈ TW := q_mem 565 (by decide +kernel) rfl
theorem v_578 : Cond.methodLink "PuzzleRegistryLaw" 81 yX5_hanging ∈ TW := q_mem 578 (by decide +kernel) rfl
theorem v_587 : Cond.methodLink "PuzzleRegistryLaw" 84 yX5_score ∈ TW := q_mem 587 (by decide +kernel) rfl
theorem v_599 : Cond.methodLink "PuzzleRegistryLaw" 87 yX5_scoreAnew ∈ TW := q_mem 599 (by decide +kernel) rfl
theorem v_640 : Cond.methodLink "PuzzleRegistryLaw" 90 yX5_place ∈ TW := q_mem 640 (by decide +kernel) rfl
theorem v_519 : Cond.classLink "PuzzleRegistryLaw" 96 "java/util/NoSuchElementException" ∈ TW := q_mem 519 (by decide +kernel) rfl
theorem v_334 : Cond.codeWith yL_act cL_act 7 (some .int) [(0, 173, 174, 50), (0, 173, 180, 52), (0, 173, 186, 54)] ∈ TW := q_mem 334 (by decide +kernel) rfl
theorem v_333 : Cond.static yL_act ∈ TW := q_mem 333 (by decide +kernel) rfl
theorem v_518 : Cond.codeWith yL_of cL_of 5 (some .int) [(0, 205, 206, 50), (0, 205, 212, 54), (0, 205, 218, 96)] ∈ TW := q_mem 518 (by decide +kernel) rfl
theorem v_517 : Cond.static yL_of ∈ TW := q_mem 517 (by decide +kernel) rfl
theorem dL_act_0 : decode cL_act 0 = .ok (.iload_n 1, 1) := by decide +kernel
theorem dL_act_1 : decode cL_act 1 = .ok (.ifCond .ne 11, 3) := by decide +kernel
theorem dL_act_4 : decode cL_act 4 = .ok (.aload_n 0, 1) := by decide +kernel
theorem dL_act_5 : decode cL_act 5 = .ok (.iload_n 2, 1) := by decide +kernel
theorem dL_act_6 : decode cL_act 6 = .ok (.invokevirtual 9, 3) := by decide +kernel
theorem dL_act_12 : decode cL_act 12 = .ok (.iload_n 1, 1) := by decide +kernel
theorem dL_act_13 : decode cL_act 13 = .ok (.iconst 1, 1) := by decide +kernel
theorem dL_act_14 : decode cL_act 14 = .ok (.if_icmp .ne 16, 3) := by decide +kernel
theorem dL_act_17 : decode cL_act 17 = .ok (.aload_n 0, 1) := by decide +kernel
theorem dL_act_18 : decode cL_act 18 = .ok (.iload_n 2, 1) := by decide +kernel
theorem dL_act_19 : decode cL_act 19 = .ok (.iload_n 3, 1) := by decide +kernel
theorem dL_act_20 : decode cL_act 20 = .ok (.iload 4, 2) := by decide +kernel
theorem dL_act_22 : decode cL_act 22 = .ok (.iload 5, 2) := by decide +kernel
theorem dL_act_24 : decode cL_act 24 = .ok (.invokevirtual 15, 3) := by decide +kernel
theorem dL_act_27 : decode cL_act 27 = .ok (.goto 146, 3) := by decide +kernel
theorem dL_act_30 : decode cL_act 30 = .ok (.iload_n 1, 1) := by decide +kernel
theorem dL_act_31 : decode cL_act 31 = .ok (.iconst 2, 1) := by decide +kernel
theorem dL_act_32 : decode cL_act 32 = .ok (.if_icmp .ne 12, 3) := by decide +kernel
theorem dL_act_35 : decode cL_act 35 = .ok (.aload_n 0, 1) := by decide +kernel
theorem dL_act_36 : decode cL_act 36 = .ok (.iload_n 2, 1) := by decide +kernel
theorem dL_act_37 : decode cL_act 37 = .ok (.iload_n 3, 1) := by decide +kernel
theorem dL_act_38 : decode cL_act 38 = .ok (.invokevirtual 19, 3) := by decide +kernel
theorem dL_act_44 : decode cL_act 44 = .ok (.iload_n 1, 1) := by decide +kernel
theorem dL_act_45 : decode cL_act 45 = .ok (.iconst 3, 1) := by decide +kernel
theorem dL_act_46 : decode cL_act 46 = .ok (.if_icmp .ne 10, 3) := by decide +kernel
theorem dL_act_49 : decode cL_act 49 = .ok (.aload_n 0, 1) := by decide +kernel
theorem dL_act_50 : decode cL_act 50 = .ok (.invokevirtual 23, 3) := by decide +kernel
theorem dL_act_53 : decode cL_act 53 = .ok (.goto 120, 3) := by decide +kernel
theorem dL_act_56 : decode cL_act 56 = .ok (.iload_n 1, 1) := by decide +kernel
theorem dL_act_57 : decode cL_act 57 = .ok (.iconst 4, 1) := by decide +kernel
theorem dL_act_58 : decode cL_act 58 = .ok (.if_icmp .ne 10, 3) := by decide +kernel
theorem dL_act_68 : decode cL_act 68 = .ok (.iload_n 1, 1) := by decide +kernel
theorem dL_act_69 : decode cL_act 69 = .ok (.iconst 5, 1) := by decide +kernel
theorem dL_act_70 : decode cL_act 70 = .ok (.if_icmp .ne 22, 3) := by decide +kernel
theorem dL_act_73 : decode cL_act 73 = .ok (.aload_n 0, 1) := by decide +kernel
theorem dL_act_74 : decode cL_act 74 = .ok (.iload_n 2, 1) := by decide +kernel
theorem dL_act_75 : decode cL_act 75 = .ok (.iload_n 3, 1) := by decide +kernel
theorem dL_act_76 : decode cL_act 76 = .ok (.iload 4, 2) := by decide +kernel
theorem dL_act_78 : decode cL_act 78 = .ok (.invokevirtual 30, 3) := by decide +kernel
theorem dL_act_92 : decode cL_act 92 = .ok (.iload_n 1, 1) := by decide +kernel
theorem dL_act_93 : decode cL_act 93 = .ok (.bipush 6, 2) := by decide +kernel
theorem dL_act_95 : decode cL_act 95 = .ok (.if_icmp .ne 12, 3) := by decide +kernel
theorem dL_act_98 : decode cL_act 98 = .ok (.aload_n 0, 1) := by decide +kernel
theorem dL_act_99 : decode cL_act 99 = .ok (.iload_n 2, 1) := by decide +kernel
theorem dL_act_100 : decode cL_act 100 = .ok (.iload_n 3, 1) := by decide +kernel
theorem dL_act_101 : decode cL_act 101 = .ok (.invokevirtual 34, 3) := by decide +kernel
theorem dL_act_107 : decode cL_act 107 = .ok (.iload_n 1, 1) := by decide +kernel
theorem dL_act_108 : decode cL_act 108 = .ok (.bipush 7, 2) := by decide +kernel
theorem dL_act_110 : decode cL_act 110 = .ok (.if_icmp .ne 20, 3) := by decide +kernel
theorem dL_act_113 : decode cL_act 113 = .ok (.aload_n 0, 1) := by decide +kernel
theorem dL_act_114 : decode cL_act 114 = .ok (.iload_n 2, 1) := by decide +kernel
theorem dL_act_115 : decode cL_act 115 = .ok (.iload_n 3, 1) := by decide +kernel
theorem dL_act_116 : decode cL_act 116 = .ok (.invokevirtual 37, 3) := by decide +kernel
theorem dL_act_130 : decode cL_act 130 = .ok (.iload_n 1, 1) := by decide +kernel
theorem dL_act_131 : decode cL_act 131 = .ok (.bipush 8, 2) := by decide +kernel
theorem dL_act_133 : decode cL_act 133 = .ok (.if_icmp .ne 20, 3) := by decide +kernel
theorem dL_act_136 : decode cL_act 136 = .ok (.aload_n 0, 1) := by decide +kernel
theorem dL_act_137 : decode cL_act 137 = .ok (.iload_n 2, 1) := by decide +kernel
theorem dL_act_138 : decode cL_act 138 = .ok (.iload_n 3, 1) := by decide +kernel
theorem dL_act_139 : decode cL_act 139 = .ok (.invokevirtual 41, 3) := by decide +kernel
theorem dL_act_153 : decode cL_act 153 = .ok (.iload_n 1, 1) := by decide +kernel
theorem dL_act_154 : decode cL_act 154 = .ok (.bipush 9, 2) := by decide +kernel
theorem dL_act_156 : decode cL_act 156 = .ok (.if_icmp .ne 11, 3) := by decide +kernel
theorem dL_act_159 : decode cL_act 159 = .ok (.aload_n 0, 1) := by decide +kernel
theorem dL_act_160 : decode cL_act 160 = .ok (.iload_n 2, 1) := by decide +kernel
theorem dL_act_161 : decode cL_act 161 = .ok (.invokevirtual 44, 3) := by decide +kernel
theorem dL_act_167 : decode cL_act 167 = .ok (.aload_n 0, 1) := by decide +kernel
theorem dL_act_168 : decode cL_act 168 = .ok (.iload_n 2, 1) := by decide +kernel
theorem dL_act_169 : decode cL_act 169 = .ok (.iload_n 3, 1) := by decide +kernel
theorem dL_act_170 : decode cL_act 170 = .ok (.invokevirtual 47, 3) := by decide +kernel
theorem dL_act_173 : decode cL_act 173 = .ok (.ireturn, 1) := by decide +kernel
theorem dL_act_174 : decode cL_act 174 = .ok (.astore 6, 2) := by decide +kernel
theorem dL_act_176 : decode cL_act 176 = .ok (.sipush (-1201), 3) := by decide +kernel
theorem dL_act_179 : decode cL_act 179 = .ok (.ireturn, 1) := by decide +kernel
theorem dL_act_180 : decode cL_act 180 = .ok (.astore 6, 2) := by decide +kernel
theorem dL_act_182 : decode cL_act 182 = .ok (.sipush (-1202), 3) := by decide +kernel
theorem dL_act_185 : decode cL_act 185 = .ok (.ireturn, 1) := by decide +kernel
theorem dL_act_186 : decode cL_act 186 = .ok (.astore 6, 2) := by decide +kernel
theorem dL_act_188 : decode cL_act 188 = .ok (.sipush (-1203), 3) := by decide +kernel
theorem dL_act_191 : decode cL_act 191 = .ok (.ireturn, 1) := by decide +kernel
theorem dL_of_0 : decode cL_of 0 = .ok (.iload_n 1, 1) := by decide +kernel
theorem dL_of_1 : decode cL_of 1 = .ok (.ifCond .ne 12, 3) := by decide +kernel
theorem dL_of_4 : decode cL_of 4 = .ok (.aload_n 0, 1) := by decide +kernel
theorem dL_of_5 : decode cL_of 5 = .ok (.iload_n 2, 1) := by decide +kernel
theorem dL_of_6 : decode cL_of 6 = .ok (.iload_n 3, 1) := by decide +kernel
theorem dL_of_7 : decode cL_of 7 = .ok (.invokevirtual 56, 3) := by decide +kernel
theorem dL_of_10 : decode cL_of 10 = .ok (.goto 195, 3) := by decide +kernel
theorem dL_of_13 : decode cL_of 13 = .ok (.iload_n 1, 1) := by decide +kernel
theorem dL_of_14 : decode cL_of 14 = .ok (.iconst 1, 1) := by decide +kernel
theorem dL_of_15 : decode cL_of 15 = .ok (.if_icmp .ne 12, 3) := by decide +kernel
theorem dL_of_18 : decode cL_of 18 = .ok (.aload_n 0, 1) := by decide +kernel
theorem dL_of_19 : decode cL_of 19 = .ok (.iload_n 2, 1) := by decide +kernel
theorem dL_of_20 : decode cL_of 20 = .ok (.iload_n 3, 1) := by decide +kernel
theorem dL_of_21 : decode cL_of 21 = .ok (.invokevirtual 59, 3) := by decide +kernel
theorem dL_of_27 : decode cL_of 27 = .ok (.iload_n 1, 1) := by decide +kernel
theorem dL_of_28 : decode cL_of 28 = .ok (.iconst 2, 1) := by decide +kernel
theorem dL_of_29 : decode cL_of 29 = .ok (.if_icmp .ne 12, 3) := by decide +kernel
theorem dL_of_32 : decode cL_of 32 = .ok (.aload_n 0, 1) := by decide +kernel
theorem dL_of_33 : decode cL_of 33 = .ok (.iload_n 2, 1) := by decide +kernel
theorem dL_of_34 : decode cL_of 34 = .ok (.iload_n 3, 1) := by decide +kernel
theorem dL_of_35 : decode cL_of 35 = .ok (.invokevirtual 62, 3) := by decide +kernel
theorem dL_of_41 : decode cL_of 41 = .ok (.iload_n 1, 1) := by decide +kernel
theorem dL_of_42 : decode cL_of 42 = .ok (.iconst 3, 1) := by decide +kernel
theorem dL_of_43 : decode cL_of 43 = .ok (.if_icmp .ne 19, 3) := by decide +kernel
theorem dL_of_46 : decode cL_of 46 = .ok (.aload_n 0, 1) := by decide +kernel
theorem dL_of_47 : decode cL_of 47 = .ok (.iload_n 2, 1) := by decide +kernel
theorem dL_of_48 : decode cL_of 48 = .ok (.invokevirtual 65, 3) := by decide +kernel
theorem dL_of_62 : decode cL_of 62 = .ok (.iload_n 1, 1) := by decide +kernel
theorem dL_of_63 : decode cL_of 63 = .ok (.iconst 4, 1) := by decide +kernel
theorem dL_of_64 : decode cL_of 64 = .ok (.if_icmp .ne 12, 3) := by decide +kernel
theorem dL_of_67 : decode cL_of 67 = .ok (.aload_n 0, 1) := by decide +kernel
theorem dL_of_68 : decode cL_of 68 = .ok (.iload_n 2, 1) := by decide +kernel
theorem dL_of_69 : decode cL_of 69 = .ok (.iload_n 3, 1) := by decide +kernel
theorem dL_of_70 : decode cL_of 70 = .ok (.invokevirtual 69, 3) := by decide +kernel
theorem dL_of_76 : decode cL_of 76 = .ok (.iload_n 1, 1) := by decide +kernel
theorem dL_of_77 : decode cL_of 77 = .ok (.iconst 5, 1) := by decide +kernel
theorem dL_of_78 : decode cL_of 78 = .ok (.if_icmp .ne 20, 3) := by decide +kernel
theorem dL_of_81 : decode cL_of 81 = .ok (.aload_n 0, 1) := by decide +kernel
theorem dL_of_82 : decode cL_of 82 = .ok (.iload_n 2, 1) := by decide +kernel
theorem dL_of_83 : decode cL_of 83 = .ok (.iload_n 3, 1) := by decide +kernel
theorem dL_of_84 : decode cL_of 84 = .ok (.invokevirtual 72, 3) := by decide +kernel
theorem dL_of_98 : decode cL_of 98 = .ok (.iload_n 1, 1) := by decide +kernel
theorem dL_of_99 : decode cL_of 99 = .ok (.bipush 6, 2) := by decide +kernel
theorem dL_of_101 : decode cL_of 101 = .ok (.if_icmp .ne 20, 3) := by decide +kernel
theorem dL_of_104 : decode cL_of 104 = .ok (.aload_n 0, 1) := by decide +kernel
theorem dL_of_105 : decode cL_of 105 = .ok (.iload_n 2, 1) := by decide +kernel
theorem dL_of_106 : decode cL_of 106 = .ok (.iload_n 3, 1) := by decide +kernel
theorem dL_of_107 : decode cL_of 107 = .ok (.invokevirtual 75, 3) := by decide +kernel
theorem dL_of_121 : decode cL_of 121 = .ok (.iload_n 1, 1) := by decide +kernel
theorem dL_of_122 : decode cL_of 122 = .ok (.bipush 7, 2) := by decide +kernel
theorem dL_of_124 : decode cL_of 124 = .ok (.if_icmp .ne 20, 3) := by decide +kernel
theorem dL_of_127 : decode cL_of 127 = .ok (.aload_n 0, 1) := by decide +kernel
theorem dL_of_128 : decode cL_of 128 = .ok (.iload_n 2, 1) := by decide +kernel
theorem dL_of_129 : decode cL_of 129 = .ok (.iload_n 3, 1) := by decide +kernel
theorem dL_of_130 : decode cL_of 130 = .ok (.invokevirtual 78, 3) := by decide +kernel
theorem dL_of_144 : decode cL_of 144 = .ok (.iload_n 1, 1) := by decide +kernel
theorem dL_of_145 : decode cL_of 145 = .ok (.bipush 8, 2) := by decide +kernel
theorem dL_of_147 : decode cL_of 147 = .ok (.if_icmp .ne 11, 3) := by decide +kernel
theorem dL_of_150 : decode cL_of 150 = .ok (.aload_n 0, 1) := by decide +kernel
theorem dL_of_151 : decode cL_of 151 = .ok (.iload_n 2, 1) := by decide +kernel
theorem dL_of_152 : decode cL_of 152 = .ok (.invokevirtual 81, 3) := by decide +kernel
theorem dL_of_158 : decode cL_of 158 = .ok (.iload_n 1, 1) := by decide +kernel
theorem dL_of_159 : decode cL_of 159 = .ok (.bipush 9, 2) := by decide +kernel
theorem dL_of_161 : decode cL_of 161 = .ok (.if_icmp .ne 11, 3) := by decide +kernel
theorem dL_of_164 : decode cL_of 164 = .ok (.aload_n 0, 1) := by decide +kernel
theorem dL_of_165 : decode cL_of 165 = .ok (.iload_n 2, 1) := by decide +kernel
theorem dL_of_166 : decode cL_of 166 = .ok (.invokevirtual 84, 3) := by decide +kernel
theorem dL_of_172 : decode cL_of 172 = .ok (.iload_n 1, 1) := by decide +kernel
theorem dL_of_173 : decode cL_of 173 = .ok (.bipush 10, 2) := by decide +kernel
theorem dL_of_175 : decode cL_of 175 = .ok (.if_icmp .ne 11, 3) := by decide +kernel
theorem dL_of_178 : decode cL_of 178 = .ok (.aload_n 0, 1) := by decide +kernel
theorem dL_of_179 : decode cL_of 179 = .ok (.iload_n 2, 1) := by decide +kernel
theorem dL_of_180 : decode cL_of 180 = .ok (.invokevirtual 87, 3) := by decide +kernel
theorem dL_of_186 : decode cL_of 186 = .ok (.iload_n 1, 1) := by decide +kernel
theorem dL_of_187 : decode cL_of 187 = .ok (.bipush 11, 2) := by decide +kernel
theorem dL_of_189 : decode cL_of 189 = .ok (.if_icmp .ne 11, 3) := by decide +kernel
theorem dL_of_192 : decode cL_of 192 = .ok (.aload_n 0, 1) := by decide +kernel
theorem dL_of_193 : decode cL_of 193 = .ok (.iload_n 2, 1) := by decide +kernel
theorem dL_of_194 : decode cL_of 194 = .ok (.invokevirtual 90, 3) := by decide +kernel
theorem dL_of_200 : decode cL_of 200 = .ok (.aload_n 0, 1) := by decide +kernel
theorem dL_of_201 : decode cL_of 201 = .ok (.iload_n 2, 1) := by decide +kernel
theorem dL_of_202 : decode cL_of 202 = .ok (.invokevirtual 93, 3) := by decide +kernel
theorem dL_of_205 : decode cL_of 205 = .ok (.ireturn, 1) := by decide +kernel
theorem dL_of_206 : decode cL_of 206 = .ok (.astore 4, 2) := by decide +kernel
theorem dL_of_208 : decode cL_of 208 = .ok (.sipush (-1201), 3) := by decide +kernel
theorem dL_of_211 : decode cL_of 211 = .ok (.ireturn, 1) := by decide +kernel
theorem dL_of_212 : decode cL_of 212 = .ok (.astore 4, 2) := by decide +kernel
theorem dL_of_214 : decode cL_of 214 = .ok (.sipush (-1203), 3) := by decide +kernel
theorem dL_of_217 : decode cL_of 217 = .ok (.ireturn, 1) := by decide +kernel
theorem dL_of_218 : decode cL_of 218 = .ok (.astore 4, 2) := by decide +kernel
theorem dL_of_220 : decode cL_of 220 = .ok (.sipush (-1204), 3) := by decide +kernel
theorem dL_of_223 : decode cL_of 223 = .ok (.ireturn, 1) := by decide +kernel
theorem ck_L_act : CKg yL_act (Cond.codeWith yL_act cL_act 7 (some .int) [(0, 173, 174, 50), (0, 173, 180, 52), (0, 173, 186, 54)]) 6 := ⟨v_334, w_60, ⟨by decide +kernel, by decide +kernel⟩, by decide +kernel, v_333⟩
theorem ck_L_of : CKg yL_of (Cond.codeWith yL_of cL_of 5 (some .int) [(0, 205, 206, 50), (0, 205, 212, 54), (0, 205, 218, 96)]) 4 := ⟨v_518, w_60, ⟨by decide +kernel, by decide +kernel⟩, by decide +kernel, v_517⟩
set_option maxHeartbeats 4000000 in
set_option maxRecDepth 100000 in
theorem h_act_0A {l : Launch} (hfl : l.flags = flags0) {D : va_G} {cI cZ cL : ClassId} {ad aa : Nat → Nat} {fa S : Mem} {m0 m1 : Nat} (hD : va_D (aC ad cI) (wC ad cI mem0)) (hA : ∀ q, aW (wA aa cI mem0) q → ¬ aC ad cI q) (hJ : JS S m0 m1) (x1 x2 x3 x4 : Int32) (hth : (oPass S x1).1 = some "java/lang/IllegalArgumentException") :
    GM l D cI cZ cL ad aa fa S yL_act [Cond.codeWith yL_act cL_act 7 (some .int) [(0, 173, 174, 50), (0, 173, 180, 52), (0, 173, 186, 54)]] 8 1 [.ref (ad 0), .int 0, .int x1, .int x2, .int x3, .int x4] m0 m1 (pC (-1202)) := by
  refine GM.ofW (by decide) (Nat.le_of_ble_eq_true rfl) hfl hD hA hJ ?_
  intro p e s m args below meth c ls hx hb hr hlk hown htb C hw hl
  have hl : lv_has ls 7 [(0, .ref (ad 0)), (1, .int 0), (2, .int x1), (3, .int x2), (4, .int x3), (5, .int x4)] := hl
  have hml := C.1.2.2.1
  refine lv_iload_n hx hb dL_act_0 rfl (lv_at hl 1 rfl) ?_
  refine lv_if_ne (tgt := 12) hx hb dL_act_1 (by decide) (fun c_1 => absurd c_1 (by decide)) (fun c_1 => ?_)
  refine lv_aload_n hx hb dL_act_4 rfl (lv_at hl 0 rfl) ?_
  refine lv_iload_n hx hb dL_act_5 rfl (lv_at hl 2 rfl) ?_
  obtain ⟨hE, hT, hZ, hC⟩ := C.2.1
  refine q_thH (q_thV (rest := []) hx hb hml hown hE hT (hZ.narrow (fun _ h => h.elim)) (c_X5_pass_T0 l hfl D cI cZ cL ad S x1 hJ.i0 hth) ck_X5_pass v_338 hw.1 0 rfl rfl hl.1 rfl ⟨Nat.le_of_ble_eq_true rfl, Nat.le_of_ble_eq_true rfl⟩ (Nat.le_of_ble_eq_true rfl) dL_act_6 ⟨Nat.le_of_ble_eq_true rfl, Nat.le_of_ble_eq_true rfl⟩) hown (tableOf [(0, 173, 174, 50)]) _ _ htb (by intro z hz; simp only [tableOf, List.map_cons, List.map_nil, List.mem_cons, List.not_mem_nil, or_false] at hz; rcases hz with rfl <;> first | exact Or.inr ⟨by decide, _, hE.1 _ v_335 args, hC ("java/lang/IllegalArgumentException", "java/lang/IndexOutOfBoundsException") (by decide)⟩) (by decide +kernel) (by decide +kernel) (hE.1 _ v_336 args) (hE.1 _ w_333 args) (fun q H hlt hS => ?_)
  refine W.eq (g2 := F0 m 180 ls [.ref q]) rfl ?_
  refine lv_astore (lv' := [(6, .ref q), (0, .ref (ad 0)), (1, .int 0), (2, .int x1), (3, .int x2), (4, .int x3), (5, .int x4)]) hx hb dL_act_180 hl (by decide) rfl (fun ls hl => ?_)
  refine lv_sipush (v := (-1202)) hx hb dL_act_182 (by decide) ?_
  exact g_ret (mc := 1) hx hb hr hlk (hw.grow hS) rfl ⟨rfl, hlt⟩ ⟨Nat.le_of_ble_eq_true rfl, Nat.le_of_ble_eq_true rfl⟩ dL_act_185
set_option maxHeartbeats 4000000 in
set_option maxRecDepth 100000 in
theorem h_act_1A {l : Launch} (hfl : l.flags = flags0) {D : va_G} {cI cZ cL : ClassId} {ad aa : Nat → Nat} {fa S : Mem} {m0 m1 : Nat} (hD : va_D (aC ad cI) (wC ad cI mem0)) (hA : ∀ q, aW (wA aa cI mem0) q → ¬ aC ad cI q) (hJ : JS S m0 m1) (x1 x2 x3 x4 : Int32) (hth : (oAddR S x1 x2 x3 x4).1 = some "java/lang/IllegalArgumentException") :
    GM l D cI cZ cL ad aa fa S yL_act [Cond.codeWith yL_act cL_act 7 (some .int) [(0, 173, 174, 50), (0, 173, 180, 52), (0, 173, 186, 54)]] 8 1 [.ref (ad 0), .int 1, .int x1, .int x2, .int x3, .int x4] m0 m1 (pC (-1202)) := by
  refine GM.ofW (by decide) (Nat.le_of_ble_eq_true rfl) hfl hD hA hJ ?_
  intro p e s m args below meth c ls hx hb hr hlk hown htb C hw hl
  have hl : lv_has ls 7 [(0, .ref (ad 0)), (1, .int 1), (2, .int x1), (3, .int x2), (4, .int x3), (5, .int x4)] := hl
  have hml := C.1.2.2.1
  refine lv_iload_n hx hb dL_act_0 rfl (lv_at hl 1 rfl) ?_
  refine lv_if_ne (tgt := 12) hx hb dL_act_1 (by decide) (fun c_1 => ?_) (fun c_1 => absurd c_1 (by decide))
  refine lv_iload_n hx hb dL_act_12 rfl (lv_at hl 1 rfl) ?_
  refine lv_iconst (v := 1) hx hb dL_act_13 (by decide) ?_
  refine lv_icmp_ne (tgt := 30) hx hb dL_act_14 (by decide) (fun c_1 => absurd c_1 (by decide)) (fun c_1 => ?_)
  refine lv_aload_n hx hb dL_act_17 rfl (lv_at hl 0 rfl) ?_
  refine lv_iload_n hx hb dL_act_18 rfl (lv_at hl 2 rfl) ?_
  refine lv_iload_n hx hb dL_act_19 rfl (lv_at hl 3 rfl) ?_
  refine lv_iload hx hb dL_act_20 (lv_at hl 4 rfl) ?_
  refine lv_iload hx hb dL_act_22 (lv_at hl 5 rfl) ?_
  obtain ⟨hE, hT, hZ, hC⟩ := C.2.1
  refine q_thH (q_thV (rest := []) hx hb hml hown hE hT (hZ.narrow (fun _ h => h.elim)) (c_X5_addRiddle_T0 l hfl D cI cZ cL ad S x1 x2 x3 x4 hJ.i0 hth) ck_X5_addRiddle v_377 hw.1 0 rfl rfl hl.1 rfl ⟨Nat.le_of_ble_eq_true rfl, Nat.le_of_ble_eq_true rfl⟩ (Nat.le_of_ble_eq_true rfl) dL_act_24 ⟨Nat.le_of_ble_eq_true rfl, Nat.le_of_ble_eq_true rfl⟩) hown (tableOf [(0, 173, 174, 50)]) _ _ htb (by intro z hz; simp only [tableOf, List.map_cons, List.map_nil, List.mem_cons, List.not_mem_nil, or_false] at hz; rcases hz with rfl <;> first | exact Or.inr ⟨by decide, _, hE.1 _ v_335 args, hC ("java/lang/IllegalArgumentException", "java/lang/IndexOutOfBoundsException") (by decide)⟩) (by decide +kernel) (by decide +kernel) (hE.1 _ v_336 args) (hE.1 _ w_333 args) (fun q H hlt hS => ?_)
  refine W.eq (g2 := F0 m 180 ls [.ref q]) rfl ?_
  refine lv_astore (lv' := [(6, .ref q), (0, .ref (ad 0)), (1, .int 1), (2, .int x1), (3, .int x2), (4, .int x3), (5, .int x4)]) hx hb dL_act_180 hl (by decide) rfl (fun ls hl => ?_)
  refine lv_sipush (v := (-1202)) hx hb dL_act_182 (by decide) ?_
  exact g_ret (mc := 1) hx hb hr hlk (hw.grow hS) rfl ⟨rfl, hlt⟩ ⟨Nat.le_of_ble_eq_true rfl, Nat.le_of_ble_eq_true rfl⟩ dL_act_185
set_option maxHeartbeats 4000000 in
set_option maxRecDepth 100000 in
theorem h_act_2I {l : Launch} (hfl : l.flags = flags0) {D : va_G} {cI cZ cL : ClassId} {ad aa : Nat → Nat} {fa S : Mem} {m0 m1 : Nat} (hD : va_D (aC ad cI) (wC ad cI mem0)) (hA : ∀ q, aW (wA aa cI mem0) q → ¬ aC ad cI q) (hJ : JS S m0 m1) (x1 x2 x3 x4 : Int32) (hth : (oNeed S x1 x2).1 = some "java/lang/IndexOutOfBoundsException") :
    GM l D cI cZ cL ad aa fa S yL_act [Cond.codeWith yL_act cL_act 7 (some .int) [(0, 173, 174, 50), (0, 173, 180, 52), (0, 173, 186, 54)]] 8 1 [.ref (ad 0), .int 2, .int x1, .int x2, .int x3, .int x4] m0 m1 (pC (-1201)) := by
  refine GM.ofW (by decide) (Nat.le_of_ble_eq_true rfl) hfl hD hA hJ ?_
  intro p e s m args below meth c ls hx hb hr hlk hown htb C hw hl
  have hl : lv_has ls 7 [(0, .ref (ad 0)), (1, .int 2), (2, .int x1), (3, .int x2), (4, .int x3), (5, .int x4)] := hl
  have hml := C.1.2.2.1
  refine lv_iload_n hx hb dL_act_0 rfl (lv_at hl 1 rfl) ?_
  refine lv_if_ne (tgt := 12) hx hb dL_act_1 (by decide) (fun c_1 => ?_) (fun c_1 => absurd c_1 (by decide))
  refine lv_iload_n hx hb dL_act_12 rfl (lv_at hl 1 rfl) ?_
  refine lv_iconst (v := 1) hx hb dL_act_13 (by decide) ?_
  refine lv_icmp_ne (tgt := 30) hx hb dL_act_14 (by decide) (fun c_1 => ?_) (fun c_1 => absurd c_1 (by decide))
  refine lv_iload_n hx hb dL_act_30 rfl (lv_at hl 1 rfl) ?_
  refine lv_iconst (v := 2) hx hb dL_act_31 (by decide) ?_
  refine lv_icmp_ne (tgt := 44) hx hb dL_act_32 (by decide) (fun c_1 => absurd c_1 (by decide)) (fun c_1 => ?_)
  refine lv_aload_n hx hb dL_act_35 rfl (lv_at hl 0 rfl) ?_
  refine lv_iload_n hx hb dL_act_36 rfl (lv_at hl 2 rfl) ?_
  refine lv_iload_n hx hb dL_act_37 rfl (lv_at hl 3 rfl) ?_
  obtain ⟨hE, hT, hZ, hC⟩ := C.2.1
  refine q_thH (q_thV (rest := []) hx hb hml hown hE hT (hZ.narrow (fun _ h => h.elim)) (c_X5_need_T0 l hfl D cI cZ cL ad S x1 x2 hJ.i0 hth) ck_X5_need v_386 hw.1 0 rfl rfl hl.1 rfl ⟨Nat.le_of_ble_eq_true rfl, Nat.le_of_ble_eq_true rfl⟩ (Nat.le_of_ble_eq_true rfl) dL_act_38 ⟨Nat.le_of_ble_eq_true rfl, Nat.le_of_ble_eq_true rfl⟩) hown [] _ _ htb (fun z hz => nomatch hz) (by decide +kernel) (by decide +kernel) (hE.1 _ v_335 args) (hE.1 _ w_442 args) (fun q H hlt hS => ?_)
  refine W.eq (g2 := F0 m 174 ls [.ref q]) rfl ?_
  refine lv_astore (lv' := [(6, .ref q), (0, .ref (ad 0)), (1, .int 2), (2, .int x1), (3, .int x2), (4, .int x3), (5, .int x4)]) hx hb dL_act_174 hl (by decide) rfl (fun ls hl => ?_)
  refine lv_sipush (v := (-1201)) hx hb dL_act_176 (by decide) ?_
  exact g_ret (mc := 1) hx hb hr hlk (hw.grow hS) rfl ⟨rfl, hlt⟩ ⟨Nat.le_of_ble_eq_true rfl, Nat.le_of_ble_eq_true rfl⟩ dL_act_179
set_option maxHeartbeats 4000000 in
set_option maxRecDepth 100000 in
theorem h_act_2A {l : Launch} (hfl : l.flags = flags0) {D : va_G} {cI cZ cL : ClassId} {ad aa : Nat → Nat} {fa S : Mem} {m0 m1 : Nat} (hD : va_D (aC ad cI) (wC ad cI mem0)) (hA : ∀ q, aW (wA aa cI mem0) q → ¬ aC ad cI q) (hJ : JS S m0 m1) (x1 x2 x3 x4 : Int32) (hth : (oNeed S x1 x2).1 = some "java/lang/IllegalArgumentException") :
    GM l D cI cZ cL ad aa fa S yL_act [Cond.codeWith yL_act cL_act 7 (some .int) [(0, 173, 174, 50), (0, 173, 180, 52), (0, 173, 186, 54)]] 8 1 [.ref (ad 0), .int 2, .int x1, .int x2, .int x3, .int x4] m0 m1 (pC (-1202)) := by
  refine GM.ofW (by decide) (Nat.le_of_ble_eq_true rfl) hfl hD hA hJ ?_
  intro p e s m args below meth c ls hx hb hr hlk hown htb C hw hl
  have hl : lv_has ls 7 [(0, .ref (ad 0)), (1, .int 2), (2, .int x1), (3, .int x2), (4, .int x3), (5, .int x4)] := hl
  have hml := C.1.2.2.1
  refine lv_iload_n hx hb dL_act_0 rfl (lv_at hl 1 rfl) ?_
  refine lv_if_ne (tgt := 12) hx hb dL_act_1 (by decide) (fun c_1 => ?_) (fun c_1 => absurd c_1 (by decide))
  refine lv_iload_n hx hb dL_act_12 rfl (lv_at hl 1 rfl) ?_
  refine lv_iconst (v := 1) hx hb dL_act_13 (by decide) ?_
  refine lv_icmp_ne (tgt := 30) hx hb dL_act_14 (by decide) (fun c_1 => ?_) (fun c_1 => absurd c_1 (by decide))
  refine lv_iload_n hx hb dL_act_30 rfl (lv_at hl 1 rfl) ?_
  refine lv_iconst (v := 2) hx hb dL_act_31 (by decide) ?_
  refine lv_icmp_ne (tgt := 44) hx hb dL_act_32 (by decide) (fun c_1 => absurd c_1 (by decide)) (fun c_1 => ?_)
  refine lv_aload_n hx hb dL_act_35 rfl (lv_at hl 0 rfl) ?_
  refine lv_iload_n hx hb dL_act_36 rfl (lv_at hl 2 rfl) ?_
  refine lv_iload_n hx hb dL_act_37 rfl (lv_at hl 3 rfl) ?_
  obtain ⟨hE, hT, hZ, hC⟩ := C.2.1
  refine q_thH (q_thV (rest := []) hx hb hml hown hE hT (hZ.narrow (fun _ h => h.elim)) (c_X5_need_T1 l hfl D cI cZ cL ad S x1 x2 hJ.i0 hth) ck_X5_need v_386 hw.1 0 rfl rfl hl.1 rfl ⟨Nat.le_of_ble_eq_true rfl, Nat.le_of_ble_eq_true rfl⟩ (Nat.le_of_ble_eq_true rfl) dL_act_38 ⟨Nat.le_of_ble_eq_true rfl, Nat.le_of_ble_eq_true rfl⟩) hown (tableOf [(0, 173, 174, 50)]) _ _ htb (by intro z hz; simp only [tableOf, List.map_cons, List.map_nil, List.mem_cons, List.not_mem_nil, or_false] at hz; rcases hz with rfl <;> first | exact Or.inr ⟨by decide, _, hE.1 _ v_335 args, hC ("java/lang/IllegalArgumentException", "java/lang/IndexOutOfBoundsException") (by decide)⟩) (by decide +kernel) (by decide +kernel) (hE.1 _ v_336 args) (hE.1 _ w_333 args) (fun q H hlt hS => ?_)
  refine W.eq (g2 := F0 m 180 ls [.ref q]) rfl ?_
  refine lv_astore (lv' := [(6, .ref q), (0, .ref (ad 0)), (1, .int 2), (2, .int x1), (3, .int x2), (4, .int x3), (5, .int x4)]) hx hb dL_act_180 hl (by decide) rfl (fun ls hl => ?_)
  refine lv_sipush (v := (-1202)) hx hb dL_act_182 (by decide) ?_
  exact g_ret (mc := 1) hx hb hr hlk (hw.grow hS) rfl ⟨rfl, hlt⟩ ⟨Nat.le_of_ble_eq_true rfl, Nat.le_of_ble_eq_true rfl⟩ dL_act_185
set_option maxHeartbeats 4000000 in
set_option maxRecDepth 100000 in
theorem h_act_5I {l : Launch} (hfl : l.flags = flags0) {D : va_G} {cI cZ cL : ClassId} {ad aa : Nat → Nat} {fa S : Mem} {m0 m1 : Nat} (hD : va_D (aC ad cI) (wC ad cI mem0)) (hA : ∀ q, aW (wA aa cI mem0) q → ¬ aC ad cI q) (hJ : JS S m0 m1) (x1 x2 x3 x4 : Int32) (hth : (oAns S x1 x2 x3).1 = some "java/lang/IndexOutOfBoundsException") :
    GM l D cI cZ cL ad aa fa S yL_act [Cond.codeWith yL_act cL_act 7 (some .int) [(0, 173, 174, 50), (0, 173, 180, 52), (0, 173, 186, 54)]] 8 1 [.ref (ad 0), .int 5, .int x1, .int x2, .int x3, .int x4] m0 m1 (pC (-1201)) := by
  refine GM.ofW (by decide) (Nat.le_of_ble_eq_true rfl) hfl hD hA hJ ?_
  intro p e s m args below meth c ls hx hb hr hlk hown htb C hw hl
  have hl : lv_has ls 7 [(0, .ref (ad 0)), (1, .int 5), (2, .int x1), (3, .int x2), (4, .int x3), (5, .int x4)] := hl
  have hml := C.1.2.2.1
  refine lv_iload_n hx hb dL_act_0 rfl (lv_at hl 1 rfl) ?_
  refine lv_if_ne (tgt := 12) hx hb dL_act_1 (by decide) (fun c_1 => ?_) (fun c_1 => absurd c_1 (by decide))
  refine lv_iload_n hx hb dL_act_12 rfl (lv_at hl 1 rfl) ?_
  refine lv_iconst (v := 1) hx hb dL_act_13 (by decide) ?_
  refine lv_icmp_ne (tgt := 30) hx hb dL_act_14 (by decide) (fun c_1 => ?_) (fun c_1 => absurd c_1 (by decide))
  refine lv_iload_n hx hb dL_act_30 rfl (lv_at hl 1 rfl) ?_
  refine lv_iconst (v := 2) hx hb dL_act_31 (by decide) ?_
  refine lv_icmp_ne (tgt := 44) hx hb dL_act_32 (by decide) (fun c_1 => ?_) (fun c_1 => absurd c_1 (by decide))
  refine lv_iload_n hx hb dL_act_44 rfl (lv_at hl 1 rfl) ?_
  refine lv_iconst (v := 3) hx hb dL_act_45 (by decide) ?_
  refine lv_icmp_ne (tgt := 56) hx hb dL_act_46 (by decide) (fun c_1 => ?_) (fun c_1 => absurd c_1 (by decide))
  refine lv_iload_n hx hb dL_act_56 rfl (lv_at hl 1 rfl) ?_
  refine lv_iconst (v := 4) hx hb dL_act_57 (by decide) ?_
  refine lv_icmp_ne (tgt := 68) hx hb dL_act_58 (by decide) (fun c_1 => ?_) (fun c_1 => absurd c_1 (by decide))
  refine lv_iload_n hx hb dL_act_68 rfl (lv_at hl 1 rfl) ?_
  refine lv_iconst (v := 5) hx hb dL_act_69 (by decide) ?_
  refine lv_icmp_ne (tgt := 92) hx hb dL_act_70 (by decide) (fun c_1 => absurd c_1 (by decide)) (fun c_1 => ?_)
  refine lv_aload_n hx hb dL_act_73 rfl (lv_at hl 0 rfl) ?_
  refine lv_iload_n hx hb dL_act_74 rfl (lv_at hl 2 rfl) ?_
  refine lv_iload_n hx hb dL_act_75 rfl (lv_at hl 3 rfl) ?_
  refine lv_iload hx hb dL_act_76 (lv_at hl 4 rfl) ?_
  obtain ⟨hE, hT, hZ, hC⟩ := C.2.1
  refine q_thH (q_thV (rest := []) hx hb hml hown hE hT (hZ.narrow (fun _ h => h.elim)) (c_X5_answer_T0 l hfl D cI cZ cL ad S x1 x2 x3 hJ.i0 hth) ck_X5_answer v_411 hw.1 0 rfl rfl hl.1 rfl ⟨Nat.le_of_ble_eq_true rfl, Nat.le_of_ble_eq_true rfl⟩ (Nat.le_of_ble_eq_true rfl) dL_act_78 ⟨Nat.le_of_ble_eq_true rfl, Nat.le_of_ble_eq_true rfl⟩) hown [] _ _ htb (fun z hz => nomatch hz) (by decide +kernel) (by decide +kernel) (hE.1 _ v_335 args) (hE.1 _ w_442 args) (fun q H hlt hS => ?_)
  refine W.eq (g2 := F0 m 174 ls [.ref q]) rfl ?_
  refine lv_astore (lv' := [(6, .ref q), (0, .ref (ad 0)), (1, .int 5), (2, .int x1), (3, .int x2), (4, .int x3), (5, .int x4)]) hx hb dL_act_174 hl (by decide) rfl (fun ls hl => ?_)
  refine lv_sipush (v := (-1201)) hx hb dL_act_176 (by decide) ?_
  exact g_ret (mc := 1) hx hb hr hlk (hw.grow hS) rfl ⟨rfl, hlt⟩ ⟨Nat.le_of_ble_eq_true rfl, Nat.le_of_ble_eq_true rfl⟩ dL_act_179
set_option maxHeartbeats 4000000 in
set_option maxRecDepth 100000 in
theorem h_act_5A {l : Launch} (hfl : l.flags = flags0) {D : va_G} {cI cZ cL : ClassId} {ad aa : Nat → Nat} {fa S : Mem} {m0 m1 : Nat} (hD : va_D (aC ad cI) (wC ad cI mem0)) (hA : ∀ q, aW (wA aa cI mem0) q → ¬ aC ad cI q) (hJ : JS S m0 m1) (x1 x2 x3 x4 : Int32) (hth : (oAns S x1 x2 x3).1 = some "java/lang/IllegalArgumentException") :
    GM l D cI cZ cL ad aa fa S yL_act [Cond.codeWith yL_act cL_act 7 (some .int) [(0, 173, 174, 50), (0, 173, 180, 52), (0, 173, 186, 54)]] 8 1 [.ref (ad 0), .int 5, .int x1, .int x2, .int x3, .int x4] m0 m1 (pC (-1202)) := by
  refine GM.ofW (by decide) (Nat.le_of_ble_eq_true rfl) hfl hD hA hJ ?_
  intro p e s m args below meth c ls hx hb hr hlk hown htb C hw hl
  have hl : lv_has ls 7 [(0, .ref (ad 0)), (1, .int 5), (2, .int x1), (3, .int x2), (4, .int x3), (5, .int x4)] := hl
  have hml := C.1.2.2.1
  refine lv_iload_n hx hb dL_act_0 rfl (lv_at hl 1 rfl) ?_
  refine lv_if_ne (tgt := 12) hx hb dL_act_1 (by decide) (fun c_1 => ?_) (fun c_1 => absurd c_1 (by decide))
  refine lv_iload_n hx hb dL_act_12 rfl (lv_at hl 1 rfl) ?_
  refine lv_iconst (v := 1) hx hb dL_act_13 (by decide) ?_
  refine lv_icmp_ne (tgt := 30) hx hb dL_act_14 (by decide) (fun c_1 => ?_) (fun c_1 => absurd c_1 (by decide))
  refine lv_iload_n hx hb dL_act_30 rfl (lv_at hl 1 rfl) ?_
  refine lv_iconst (v := 2) hx hb dL_act_31 (by decide) ?_
  refine lv_icmp_ne (tgt := 44) hx hb dL_act_32 (by decide) (fun c_1 => ?_) (fun c_1 => absurd c_1 (by decide))
  refine lv_iload_n hx hb dL_act_44 rfl (lv_at hl 1 rfl) ?_
  refine lv_iconst (v := 3) hx hb dL_act_45 (by decide) ?_
  refine lv_icmp_ne (tgt := 56) hx hb dL_act_46 (by decide) (fun c_1 => ?_) (fun c_1 => absurd c_1 (by decide))
  refine lv_iload_n hx hb dL_act_56 rfl (lv_at hl 1 rfl) ?_
  refine lv_iconst (v := 4) hx hb dL_act_57 (by decide) ?_
  refine lv_icmp_ne (tgt := 68) hx hb dL_act_58 (by decide) (fun c_1 => ?_) (fun c_1 => absurd c_1 (by decide))
  refine lv_iload_n hx hb dL_act_68 rfl (lv_at hl 1 rfl) ?_
  refine lv_iconst (v := 5) hx hb dL_act_69 (by decide) ?_
  refine lv_icmp_ne (tgt := 92) hx hb dL_act_70 (by decide) (fun c_1 => absurd c_1 (by decide)) (fun c_1 => ?_)
  refine lv_aload_n hx hb dL_act_73 rfl (lv_at hl 0 rfl) ?_
  refine lv_iload_n hx hb dL_act_74 rfl (lv_at hl 2 rfl) ?_
  refine lv_iload_n hx hb dL_act_75 rfl (lv_at hl 3 rfl) ?_
  refine lv_iload hx hb dL_act_76 (lv_at hl 4 rfl) ?_
  obtain ⟨hE, hT, hZ, hC⟩ := C.2.1
  refine q_thH (q_thV (rest := []) hx hb hml hown hE hT (hZ.narrow (fun _ h => h.elim)) (c_X5_answer_T1 l hfl D cI cZ cL ad S x1 x2 x3 hJ.i0 hth) ck_X5_answer v_411 hw.1 0 rfl rfl hl.1 rfl ⟨Nat.le_of_ble_eq_true rfl, Nat.le_of_ble_eq_true rfl⟩ (Nat.le_of_ble_eq_true rfl) dL_act_78 ⟨Nat.le_of_ble_eq_true rfl, Nat.le_of_ble_eq_true rfl⟩) hown (tableOf [(0, 173, 174, 50)]) _ _ htb (by intro z hz; simp only [tableOf, List.map_cons, List.map_nil, List.mem_cons, List.not_mem_nil, or_false] at hz; rcases hz with rfl <;> first | exact Or.inr ⟨by decide, _, hE.1 _ v_335 args, hC ("java/lang/IllegalArgumentException", "java/lang/IndexOutOfBoundsException") (by decide)⟩) (by decide +kernel) (by decide +kernel) (hE.1 _ v_336 args) (hE.1 _ w_333 args) (fun q H hlt hS => ?_)
  refine W.eq (g2 := F0 m 180 ls [.ref q]) rfl ?_
  refine lv_astore (lv' := [(6, .ref q), (0, .ref (ad 0)), (1, .int 5), (2, .int x1), (3, .int x2), (4, .int x3), (5, .int x4)]) hx hb dL_act_180 hl (by decide) rfl (fun ls hl => ?_)
  refine lv_sipush (v := (-1202)) hx hb dL_act_182 (by decide) ?_
  exact g_ret (mc := 1) hx hb hr hlk (hw.grow hS) rfl ⟨rfl, hlt⟩ ⟨Nat.le_of_ble_eq_true rfl, Nat.le_of_ble_eq_true rfl⟩ dL_act_185
set_option maxHeartbeats 4000000 in
set_option maxRecDepth 100000 in
theorem h_act_6I {l : Launch} (hfl : l.flags = flags0) {D : va_G} {cI cZ cL : ClassId} {ad aa : Nat → Nat} {fa S : Mem} {m0 m1 : Nat} (hD : va_D (aC ad cI) (wC ad cI mem0)) (hA : ∀ q, aW (wA aa cI mem0) q → ¬ aC ad cI q) (hJ : JS S m0 m1) (x1 x2 x3 x4 : Int32) (hth : (oHint S x1 x2).1 = some "java/lang/IndexOutOfBoundsException") :
    GM l D cI cZ cL ad aa fa S yL_act [Cond.codeWith yL_act cL_act 7 (some .int) [(0, 173, 174, 50), (0, 173, 180, 52), (0, 173, 186, 54)]] 8 1 [.ref (ad 0), .int 6, .int x1, .int x2, .int x3, .int x4] m0 m1 (pC (-1201)) := by
  refine GM.ofW (by decide) (Nat.le_of_ble_eq_true rfl) hfl hD hA hJ ?_
  intro p e s m args below meth c ls hx hb hr hlk hown htb C hw hl
  have hl : lv_has ls 7 [(0, .ref (ad 0)), (1, .int 6), (2, .int x1), (3, .int x2), (4, .int x3), (5, .int x4)] := hl
  have hml := C.1.2.2.1
  refine lv_iload_n hx hb dL_act_0 rfl (lv_at hl 1 rfl) ?_
  refine lv_if_ne (tgt := 12) hx hb dL_act_1 (by decide) (fun c_1 => ?_) (fun c_1 => absurd c_1 (by decide))
  refine lv_iload_n hx hb dL_act_12 rfl (lv_at hl 1 rfl) ?_
  refine lv_iconst (v := 1) hx hb dL_act_13 (by decide) ?_
  refine lv_icmp_ne (tgt := 30) hx hb dL_act_14 (by decide) (fun c_1 => ?_) (fun c_1 => absurd c_1 (by decide))
  refine lv_iload_n hx hb dL_act_30 rfl (lv_at hl 1 rfl) ?_
  refine lv_iconst (v := 2) hx hb dL_act_31 (by decide) ?_
  refine lv_icmp_ne (tgt := 44) hx hb dL_act_32 (by decide) (fun c_1 => ?_) (fun c_1 => absurd c_1 (by decide))
  refine lv_iload_n hx hb dL_act_44 rfl (lv_at hl 1 rfl) ?_
  refine lv_iconst (v := 3) hx hb dL_act_45 (by decide) ?_
  refine lv_icmp_ne (tgt := 56) hx hb dL_act_46 (by decide) (fun c_1 => ?_) (fun c_1 => absurd c_1 (by decide))
  refine lv_iload_n hx hb dL_act_56 rfl (lv_at hl 1 rfl) ?_
  refine lv_iconst (v := 4) hx hb dL_act_57 (by decide) ?_
  refine lv_icmp_ne (tgt := 68) hx hb dL_act_58 (by decide) (fun c_1 => ?_) (fun c_1 => absurd c_1 (by decide))
  refine lv_iload_n hx hb dL_act_68 rfl (lv_at hl 1 rfl) ?_
  refine lv_iconst (v := 5) hx hb dL_act_69 (by decide) ?_
  refine lv_icmp_ne (tgt := 92) hx hb dL_act_70 (by decide) (fun c_1 => ?_) (fun c_1 => absurd c_1 (by decide))
  refine lv_iload_n hx hb dL_act_92 rfl (lv_at hl 1 rfl) ?_
  refine lv_bipush (v := 6) hx hb dL_act_93 (by decide) ?_
  refine lv_icmp_ne (tgt := 107) hx hb dL_act_95 (by decide) (fun c_1 => absurd c_1 (by decide)) (fun c_1 => ?_)
  refine lv_aload_n hx hb dL_act_98 rfl (lv_at hl 0 rfl) ?_
  refine lv_iload_n hx hb dL_act_99 rfl (lv_at hl 2 rfl) ?_
  refine lv_iload_n hx hb dL_act_100 rfl (lv_at hl 3 rfl) ?_
  obtain ⟨hE, hT, hZ, hC⟩ := C.2.1
  refine q_thH (q_thV (rest := []) hx hb hml hown hE hT (hZ.narrow (fun _ h => h.elim)) (c_X5_hint_T0 l hfl D cI cZ cL ad S x1 x2 hJ.i0 hth) ck_X5_hint v_462 hw.1 0 rfl rfl hl.1 rfl ⟨Nat.le_of_ble_eq_true rfl, Nat.le_of_ble_eq_true rfl⟩ (Nat.le_of_ble_eq_true rfl) dL_act_101 ⟨Nat.le_of_ble_eq_true rfl, Nat.le_of_ble_eq_true rfl⟩) hown [] _ _ htb (fun z hz => nomatch hz) (by decide +kernel) (by decide +kernel) (hE.1 _ v_335 args) (hE.1 _ w_442 args) (fun q H hlt hS => ?_)
  refine W.eq (g2 := F0 m 174 ls [.ref q]) rfl ?_
  refine lv_astore (lv' := [(6, .ref q), (0, .ref (ad 0)), (1, .int 6), (2, .int x1), (3, .int x2), (4, .int x3), (5, .int x4)]) hx hb dL_act_174 hl (by decide) rfl (fun ls hl => ?_)
  refine lv_sipush (v := (-1201)) hx hb dL_act_176 (by decide) ?_
  exact g_ret (mc := 1) hx hb hr hlk (hw.grow hS) rfl ⟨rfl, hlt⟩ ⟨Nat.le_of_ble_eq_true rfl, Nat.le_of_ble_eq_true rfl⟩ dL_act_179
set_option maxHeartbeats 4000000 in
set_option maxRecDepth 100000 in
theorem h_act_7I {l : Launch} (hfl : l.flags = flags0) {D : va_G} {cI cZ cL : ClassId} {ad aa : Nat → Nat} {fa S : Mem} {m0 m1 : Nat} (hD : va_D (aC ad cI) (wC ad cI mem0)) (hA : ∀ q, aW (wA aa cI mem0) q → ¬ aC ad cI q) (hJ : JS S m0 m1) (x1 x2 x3 x4 : Int32) (hth : (oClear S x1 x2).1 = some "java/lang/IndexOutOfBoundsException") :
    GM l D cI cZ cL ad aa fa S yL_act [Cond.codeWith yL_act cL_act 7 (some .int) [(0, 173, 174, 50), (0, 173, 180, 52), (0, 173, 186, 54)]] 8 1 [.ref (ad 0), .int 7, .int x1, .int x2, .int x3, .int x4] m0 m1 (pC (-1201)) := by
  refine GM.ofW (by decide) (Nat.le_of_ble_eq_true rfl) hfl hD hA hJ ?_
  intro p e s m args below meth c ls hx hb hr hlk hown htb C hw hl
  have hl : lv_has ls 7 [(0, .ref (ad 0)), (1, .int 7), (2, .int x1), (3, .int x2), (4, .int x3), (5, .int x4)] := hl
  have hml := C.1.2.2.1
  refine lv_iload_n hx hb dL_act_0 rfl (lv_at hl 1 rfl) ?_
  refine lv_if_ne (tgt := 12) hx hb dL_act_1 (by decide) (fun c_1 => ?_) (fun c_1 => absurd c_1 (by decide))
  refine lv_iload_n hx hb dL_act_12 rfl (lv_at hl 1 rfl) ?_
  refine lv_iconst (v := 1) hx hb dL_act_13 (by decide) ?_
  refine lv_icmp_ne (tgt := 30) hx hb dL_act_14 (by decide) (fun c_1 => ?_) (fun c_1 => absurd c_1 (by decide))
  refine lv_iload_n hx hb dL_act_30 rfl (lv_at hl 1 rfl) ?_
  refine lv_iconst (v := 2) hx hb dL_act_31 (by decide) ?_
  refine lv_icmp_ne (tgt := 44) hx hb dL_act_32 (by decide) (fun c_1 => ?_) (fun c_1 => absurd c_1 (by decide))
  refine lv_iload_n hx hb dL_act_44 rfl (lv_at hl 1 rfl) ?_
  refine lv_iconst (v := 3) hx hb dL_act_45 (by decide) ?_
  refine lv_icmp_ne (tgt := 56) hx hb dL_act_46 (by decide) (fun c_1 => ?_) (fun c_1 => absurd c_1 (by decide))
  refine lv_iload_n hx hb dL_act_56 rfl (lv_at hl 1 rfl) ?_
  refine lv_iconst (v := 4) hx hb dL_act_57 (by decide) ?_
  refine lv_icmp_ne (tgt := 68) hx hb dL_act_58 (by decide) (fun c_1 => ?_) (fun c_1 => absurd c_1 (by decide))
  refine lv_iload_n hx hb dL_act_68 rfl (lv_at hl 1 rfl) ?_
  refine lv_iconst (v := 5) hx hb dL_act_69 (by decide) ?_
  refine lv_icmp_ne (tgt := 92) hx hb dL_act_70 (by decide) (fun c_1 => ?_) (fun c_1 => absurd c_1 (by decide))
  refine lv_iload_n hx hb dL_act_92 rfl (lv_at hl 1 rfl) ?_
  refine lv_bipush (v := 6) hx hb dL_act_93 (by decide) ?_
  refine lv_icmp_ne (tgt := 107) hx hb dL_act_95 (by decide) (fun c_1 => ?_) (fun c_1 => absurd c_1 (by decide))
  refine lv_iload_n hx hb dL_act_107 rfl (lv_at hl 1 rfl) ?_
  refine lv_bipush (v := 7) hx hb dL_act_108 (by decide) ?_
  refine lv_icmp_ne (tgt := 130) hx hb dL_act_110 (by decide) (fun c_1 => absurd c_1 (by decide)) (fun c_1 => ?_)
  refine lv_aload_n hx hb dL_act_113 rfl (lv_at hl 0 rfl) ?_
  refine lv_iload_n hx hb dL_act_114 rfl (lv_at hl 2 rfl) ?_
  refine lv_iload_n hx hb dL_act_115 rfl (lv_at hl 3 rfl) ?_
  obtain ⟨hE, hT, hZ, hC⟩ := C.2.1
  refine q_thH (q_thV (rest := []) hx hb hml hown hE hT (hZ.narrow (fun _ h => h.elim)) (c_X5_clear_T0 l hfl D cI cZ cL ad S x1 x2 hJ.i0 hth) ck_X5_clear v_492 hw.1 0 rfl rfl hl.1 rfl ⟨Nat.le_of_ble_eq_true rfl, Nat.le_of_ble_eq_true rfl⟩ (Nat.le_of_ble_eq_true rfl) dL_act_116 ⟨Nat.le_of_ble_eq_true rfl, Nat.le_of_ble_eq_true rfl⟩) hown [] _ _ htb (fun z hz => nomatch hz) (by decide +kernel) (by decide +kernel) (hE.1 _ v_335 args) (hE.1 _ w_442 args) (fun q H hlt hS => ?_)
  refine W.eq (g2 := F0 m 174 ls [.ref q]) rfl ?_
  refine lv_astore (lv' := [(6, .ref q), (0, .ref (ad 0)), (1, .int 7), (2, .int x1), (3, .int x2), (4, .int x3), (5, .int x4)]) hx hb dL_act_174 hl (by decide) rfl (fun ls hl => ?_)
  refine lv_sipush (v := (-1201)) hx hb dL_act_176 (by decide) ?_
  exact g_ret (mc := 1) hx hb hr hlk (hw.grow hS) rfl ⟨rfl, hlt⟩ ⟨Nat.le_of_ble_eq_true rfl, Nat.le_of_ble_eq_true rfl⟩ dL_act_179
set_option maxHeartbeats 4000000 in
set_option maxRecDepth 100000 in
theorem h_act_7S {l : Launch} (hfl : l.flags = flags0) {D : va_G} {cI cZ cL : ClassId} {ad aa : Nat → Nat} {fa S : Mem} {m0 m1 : Nat} (hD : va_D (aC ad cI) (wC ad cI mem0)) (hA : ∀ q, aW (wA aa cI mem0) q → ¬ aC ad cI q) (hJ : JS S m0 m1) (x1 x2 x3 x4 : Int32) (hth : (oClear S x1 x2).1 = some "java/lang/IllegalStateException") :
    GM l D cI cZ cL ad aa fa S yL_act [Cond.codeWith yL_act cL_act 7 (some .int) [(0, 173, 174, 50), (0, 173, 180, 52), (0, 173, 186, 54)]] 8 1 [.ref (ad 0), .int 7, .int x1, .int x2, .int x3, .int x4] m0 m1 (pC (-1203)) := by
  refine GM.ofW (by decide) (Nat.le_of_ble_eq_true rfl) hfl hD hA hJ ?_
  intro p e s m args below meth c ls hx hb hr hlk hown htb C hw hl
  have hl : lv_has ls 7 [(0, .ref (ad 0)), (1, .int 7), (2, .int x1), (3, .int x2), (4, .int x3), (5, .int x4)] := hl
  have hml := C.1.2.2.1
  refine lv_iload_n hx hb dL_act_0 rfl (lv_at hl 1 rfl) ?_
  refine lv_if_ne (tgt := 12) hx hb dL_act_1 (by decide) (fun c_1 => ?_) (fun c_1 => absurd c_1 (by decide))
  refine lv_iload_n hx hb dL_act_12 rfl (lv_at hl 1 rfl) ?_
  refine lv_iconst (v := 1) hx hb dL_act_13 (by decide) ?_
  refine lv_icmp_ne (tgt := 30) hx hb dL_act_14 (by decide) (fun c_1 => ?_) (fun c_1 => absurd c_1 (by decide))
  refine lv_iload_n hx hb dL_act_30 rfl (lv_at hl 1 rfl) ?_
  refine lv_iconst (v := 2) hx hb dL_act_31 (by decide) ?_
  refine lv_icmp_ne (tgt := 44) hx hb dL_act_32 (by decide) (fun c_1 => ?_) (fun c_1 => absurd c_1 (by decide))
  refine lv_iload_n hx hb dL_act_44 rfl (lv_at hl 1 rfl) ?_
  refine lv_iconst (v := 3) hx hb dL_act_45 (by decide) ?_
  refine lv_icmp_ne (tgt := 56) hx hb dL_act_46 (by decide) (fun c_1 => ?_) (fun c_1 => absurd c_1 (by decide))
  refine lv_iload_n hx hb dL_act_56 rfl (lv_at hl 1 rfl) ?_
  refine lv_iconst (v := 4) hx hb dL_act_57 (by decide) ?_
  refine lv_icmp_ne (tgt := 68) hx hb dL_act_58 (by decide) (fun c_1 => ?_) (fun c_1 => absurd c_1 (by decide))
  refine lv_iload_n hx hb dL_act_68 rfl (lv_at hl 1 rfl) ?_
  refine lv_iconst (v := 5) hx hb dL_act_69 (by decide) ?_
  refine lv_icmp_ne (tgt := 92) hx hb dL_act_70 (by decide) (fun c_1 => ?_) (fun c_1 => absurd c_1 (by decide))
  refine lv_iload_n hx hb dL_act_92 rfl (lv_at hl 1 rfl) ?_
  refine lv_bipush (v := 6) hx hb dL_act_93 (by decide) ?_
  refine lv_icmp_ne (tgt := 107) hx hb dL_act_95 (by decide) (fun c_1 => ?_) (fun c_1 => absurd c_1 (by decide))
  refine lv_iload_n hx hb dL_act_107 rfl (lv_at hl 1 rfl) ?_
  refine lv_bipush (v := 7) hx hb dL_act_108 (by decide) ?_
  refine lv_icmp_ne (tgt := 130) hx hb dL_act_110 (by decide) (fun c_1 => absurd c_1 (by decide)) (fun c_1 => ?_)
  refine lv_aload_n hx hb dL_act_113 rfl (lv_at hl 0 rfl) ?_
  refine lv_iload_n hx hb dL_act_114 rfl (lv_at hl 2 rfl) ?_
  refine lv_iload_n hx hb dL_act_115 rfl (lv_at hl 3 rfl) ?_
  obtain ⟨hE, hT, hZ, hC⟩ := C.2.1
  refine q_thH (q_thV (rest := []) hx hb hml hown hE hT (hZ.narrow (fun _ h => h.elim)) (c_X5_clear_T1 l hfl D cI cZ cL ad S x1 x2 hJ.i0 hth) ck_X5_clear v_492 hw.1 0 rfl rfl hl.1 rfl ⟨Nat.le_of_ble_eq_true rfl, Nat.le_of_ble_eq_true rfl⟩ (Nat.le_of_ble_eq_true rfl) dL_act_116 ⟨Nat.le_of_ble_eq_true rfl, Nat.le_of_ble_eq_true rfl⟩) hown (tableOf [(0, 173, 174, 50), (0, 173, 180, 52)]) _ _ htb (by intro z hz; simp only [tableOf, List.map_cons, List.map_nil, List.mem_cons, List.not_mem_nil, or_false] at hz; rcases hz with rfl | rfl <;> first | exact Or.inr ⟨by decide, _, hE.1 _ v_335 args, hC ("java/lang/IllegalStateException", "java/lang/IndexOutOfBoundsException") (by decide)⟩ | exact Or.inr ⟨by decide, _, hE.1 _ v_336 args, hC ("java/lang/IllegalStateException", "java/lang/IllegalArgumentException") (by decide)⟩) (by decide +kernel) (by decide +kernel) (hE.1 _ v_337 args) (hE.1 _ w_402 args) (fun q H hlt hS => ?_)
  refine W.eq (g2 := F0 m 186 ls [.ref q]) rfl ?_
  refine lv_astore (lv' := [(6, .ref q), (0, .ref (ad 0)), (1, .int 7), (2, .int x1), (3, .int x2), (4, .int x3), (5, .int x4)]) hx hb dL_act_186 hl (by decide) rfl (fun ls hl => ?_)
  refine lv_sipush (v := (-1203)) hx hb dL_act_188 (by decide) ?_
  exact g_ret (mc := 1) hx hb hr hlk (hw.grow hS) rfl ⟨rfl, hlt⟩ ⟨Nat.le_of_ble_eq_true rfl, Nat.le_of_ble_eq_true rfl⟩ dL_act_191
set_option maxHeartbeats 4000000 in
set_option maxRecDepth 100000 in
theorem h_act_8I {l : Launch} (hfl : l.flags = flags0) {D : va_G} {cI cZ cL : ClassId} {ad aa : Nat → Nat} {fa S : Mem} {m0 m1 : Nat} (hD : va_D (aC ad cI) (wC ad cI mem0)) (hA : ∀ q, aW (wA aa cI mem0) q → ¬ aC ad cI q) (hJ : JS S m0 m1) (x1 x2 x3 x4 : Int32) (hth : (oPardon S x1 x2).1 = some "java/lang/IndexOutOfBoundsException") :
    GM l D cI cZ cL ad aa fa S yL_act [Cond.codeWith yL_act cL_act 7 (some .int) [(0, 173, 174, 50), (0, 173, 180, 52), (0, 173, 186, 54)]] 8 1 [.ref (ad 0), .int 8, .int x1, .int x2, .int x3, .int x4] m0 m1 (pC (-1201)) := by
  refine GM.ofW (by decide) (Nat.le_of_ble_eq_true rfl) hfl hD hA hJ ?_
  intro p e s m args below meth c ls hx hb hr hlk hown htb C hw hl
  have hl : lv_has ls 7 [(0, .ref (ad 0)), (1, .int 8), (2, .int x1), (3, .int x2), (4, .int x3), (5, .int x4)] := hl
  have hml := C.1.2.2.1
  refine lv_iload_n hx hb dL_act_0 rfl (lv_at hl 1 rfl) ?_
  refine lv_if_ne (tgt := 12) hx hb dL_act_1 (by decide) (fun c_1 => ?_) (fun c_1 => absurd c_1 (by decide))
  refine lv_iload_n hx hb dL_act_12 rfl (lv_at hl 1 rfl) ?_
  refine lv_iconst (v := 1) hx hb dL_act_13 (by decide) ?_
  refine lv_icmp_ne (tgt := 30) hx hb dL_act_14 (by decide) (fun c_1 => ?_) (fun c_1 => absurd c_1 (by decide))
  refine lv_iload_n hx hb dL_act_30 rfl (lv_at hl 1 rfl) ?_
  refine lv_iconst (v := 2) hx hb dL_act_31 (by decide) ?_
  refine lv_icmp_ne (tgt := 44) hx hb dL_act_32 (by decide) (fun c_1 => ?_) (fun c_1 => absurd c_1 (by decide))
  refine lv_iload_n hx hb dL_act_44 rfl (lv_at hl 1 rfl) ?_
  refine lv_iconst (v := 3) hx hb dL_act_45 (by decide) ?_
  refine lv_icmp_ne (tgt := 56) hx hb dL_act_46 (by decide) (fun c_1 => ?_) (fun c_1 => absurd c_1 (by decide))
  refine lv_iload_n hx hb dL_act_56 rfl (lv_at hl 1 rfl) ?_
  refine lv_iconst (v := 4) hx hb dL_act_57 (by decide) ?_
  refine lv_icmp_ne (tgt := 68) hx hb dL_act_58 (by decide) (fun c_1 => ?_) (fun c_1 => absurd c_1 (by decide))
  refine lv_iload_n hx hb dL_act_68 rfl (lv_at hl 1 rfl) ?_
  refine lv_iconst (v := 5) hx hb dL_act_69 (by decide) ?_
  refine lv_icmp_ne (tgt := 92) hx hb dL_act_70 (by decide) (fun c_1 => ?_) (fun c_1 => absurd c_1 (by decide))
  refine lv_iload_n hx hb dL_act_92 rfl (lv_at hl 1 rfl) ?_
  refine lv_bipush (v := 6) hx hb dL_act_93 (by decide) ?_
  refine lv_icmp_ne (tgt := 107) hx hb dL_act_95 (by decide) (fun c_1 => ?_) (fun c_1 => absurd c_1 (by decide))
  refine lv_iload_n hx hb dL_act_107 rfl (lv_at hl 1 rfl) ?_
  refine lv_bipush (v := 7) hx hb dL_act_108 (by decide) ?_
  refine lv_icmp_ne (tgt := 130) hx hb dL_act_110 (by decide) (fun c_1 => ?_) (fun c_1 => absurd c_1 (by decide))
  refine lv_iload_n hx hb dL_act_130 rfl (lv_at hl 1 rfl) ?_
  refine lv_bipush (v := 8) hx hb dL_act_131 (by decide) ?_
  refine lv_icmp_ne (tgt := 153) hx hb dL_act_133 (by decide) (fun c_1 => absurd c_1 (by decide)) (fun c_1 => ?_)
  refine lv_aload_n hx hb dL_act_136 rfl (lv_at hl 0 rfl) ?_
  refine lv_iload_n hx hb dL_act_137 rfl (lv_at hl 2 rfl) ?_
  refine lv_iload_n hx hb dL_act_138 rfl (lv_at hl 3 rfl) ?_
  obtain ⟨hE, hT, hZ, hC⟩ := C.2.1
  refine q_thH (q_thV (rest := []) hx hb hml hown hE hT (hZ.narrow (fun _ h => h.elim)) (c_X5_pardon_T0 l hfl D cI cZ cL ad S x1 x2 hJ.i0 hth) ck_X5_pardon v_497 hw.1 0 rfl rfl hl.1 rfl ⟨Nat.le_of_ble_eq_true rfl, Nat.le_of_ble_eq_true rfl⟩ (Nat.le_of_ble_eq_true rfl) dL_act_139 ⟨Nat.le_of_ble_eq_true rfl, Nat.le_of_ble_eq_true rfl⟩) hown [] _ _ htb (fun z hz => nomatch hz) (by decide +kernel) (by decide +kernel) (hE.1 _ v_335 args) (hE.1 _ w_442 args) (fun q H hlt hS => ?_)
  refine W.eq (g2 := F0 m 174 ls [.ref q]) rfl ?_
  refine lv_astore (lv' := [(6, .ref q), (0, .ref (ad 0)), (1, .int 8), (2, .int x1), (3, .int x2), (4, .int x3), (5, .int x4)]) hx hb dL_act_174 hl (by decide) rfl (fun ls hl => ?_)
  refine lv_sipush (v := (-1201)) hx hb dL_act_176 (by decide) ?_
  exact g_ret (mc := 1) hx hb hr hlk (hw.grow hS) rfl ⟨rfl, hlt⟩ ⟨Nat.le_of_ble_eq_true rfl, Nat.le_of_ble_eq_true rfl⟩ dL_act_179
set_option maxHeartbeats 4000000 in
set_option maxRecDepth 100000 in
theorem h_act_8A {l : Launch} (hfl : l.flags = flags0) {D : va_G} {cI cZ cL : ClassId} {ad aa : Nat → Nat} {fa S : Mem} {m0 m1 : Nat} (hD : va_D (aC ad cI) (wC ad cI mem0)) (hA : ∀ q, aW (wA aa cI mem0) q → ¬ aC ad cI q) (hJ : JS S m0 m1) (x1 x2 x3 x4 : Int32) (hth : (oPardon S x1 x2).1 = some "java/lang/IllegalArgumentException") :
    GM l D cI cZ cL ad aa fa S yL_act [Cond.codeWith yL_act cL_act 7 (some .int) [(0, 173, 174, 50), (0, 173, 180, 52), (0, 173, 186, 54)]] 8 1 [.ref (ad 0), .int 8, .int x1, .int x2, .int x3, .int x4] m0 m1 (pC (-1202)) := by
  refine GM.ofW (by decide) (Nat.le_of_ble_eq_true rfl) hfl hD hA hJ ?_
  intro p e s m args below meth c ls hx hb hr hlk hown htb C hw hl
  have hl : lv_has ls 7 [(0, .ref (ad 0)), (1, .int 8), (2, .int x1), (3, .int x2), (4, .int x3), (5, .int x4)] := hl
  have hml := C.1.2.2.1
  refine lv_iload_n hx hb dL_act_0 rfl (lv_at hl 1 rfl) ?_
  refine lv_if_ne (tgt := 12) hx hb dL_act_1 (by decide) (fun c_1 => ?_) (fun c_1 => absurd c_1 (by decide))
  refine lv_iload_n hx hb dL_act_12 rfl (lv_at hl 1 rfl) ?_
  refine lv_iconst (v := 1) hx hb dL_act_13 (by decide) ?_
  refine lv_icmp_ne (tgt := 30) hx hb dL_act_14 (by decide) (fun c_1 => ?_) (fun c_1 => absurd c_1 (by decide))
  refine lv_iload_n hx hb dL_act_30 rfl (lv_at hl 1 rfl) ?_
  refine lv_iconst (v := 2) hx hb dL_act_31 (by decide) ?_
  refine lv_icmp_ne (tgt := 44) hx hb dL_act_32 (by decide) (fun c_1 => ?_) (fun c_1 => absurd c_1 (by decide))
  refine lv_iload_n hx hb dL_act_44 rfl (lv_at hl 1 rfl) ?_
  refine lv_iconst (v := 3) hx hb dL_act_45 (by decide) ?_
  refine lv_icmp_ne (tgt := 56) hx hb dL_act_46 (by decide) (fun c_1 => ?_) (fun c_1 => absurd c_1 (by decide))
  refine lv_iload_n hx hb dL_act_56 rfl (lv_at hl 1 rfl) ?_
  refine lv_iconst (v := 4) hx hb dL_act_57 (by decide) ?_
  refine lv_icmp_ne (tgt := 68) hx hb dL_act_58 (by decide) (fun c_1 => ?_) (fun c_1 => absurd c_1 (by decide))
  refine lv_iload_n hx hb dL_act_68 rfl (lv_at hl 1 rfl) ?_
  refine lv_iconst (v := 5) hx hb dL_act_69 (by decide) ?_
  refine lv_icmp_ne (tgt := 92) hx hb dL_act_70 (by decide) (fun c_1 => ?_) (fun c_1 => absurd c_1 (by decide))
  refine lv_iload_n hx hb dL_act_92 rfl (lv_at hl 1 rfl) ?_
  refine lv_bipush (v := 6) hx hb dL_act_93 (by decide) ?_
  refine lv_icmp_ne (tgt := 107) hx hb dL_act_95 (by decide) (fun c_1 => ?_) (fun c_1 => absurd c_1 (by decide))
  refine lv_iload_n hx hb dL_act_107 rfl (lv_at hl 1 rfl) ?_
  refine lv_bipush (v := 7) hx hb dL_act_108 (by decide) ?_
  refine lv_icmp_ne (tgt := 130) hx hb dL_act_110 (by decide) (fun c_1 => ?_) (fun c_1 => absurd c_1 (by decide))
  refine lv_iload_n hx hb dL_act_130 rfl (lv_at hl 1 rfl) ?_
  refine lv_bipush (v := 8) hx hb dL_act_131 (by decide) ?_
  refine lv_icmp_ne (tgt := 153) hx hb dL_act_133 (by decide) (fun c_1 => absurd c_1 (by decide)) (fun c_1 => ?_)
  refine lv_aload_n hx hb dL_act_136 rfl (lv_at hl 0 rfl) ?_
  refine lv_iload_n hx hb dL_act_137 rfl (lv_at hl 2 rfl) ?_
  refine lv_iload_n hx hb dL_act_138 rfl (lv_at hl 3 rfl) ?_
  obtain ⟨hE, hT, hZ, hC⟩ := C.2.1
  refine q_thH (q_thV (rest := []) hx hb hml hown hE hT (hZ.narrow (fun _ h => h.elim)) (c_X5_pardon_T1 l hfl D cI cZ cL ad S x1 x2 hJ.i0 hth) ck_X5_pardon v_497 hw.1 0 rfl rfl hl.1 rfl ⟨Nat.le_of_ble_eq_true rfl, Nat.le_of_ble_eq_true rfl⟩ (Nat.le_of_ble_eq_true rfl) dL_act_139 ⟨Nat.le_of_ble_eq_true rfl, Nat.le_of_ble_eq_true rfl⟩) hown (tableOf [(0, 173, 174, 50)]) _ _ htb (by intro z hz; simp only [tableOf, List.map_cons, List.map_nil, List.mem_cons, List.not_mem_nil, or_false] at hz; rcases hz with rfl <;> first | exact Or.inr ⟨by decide, _, hE.1 _ v_335 args, hC ("java/lang/IllegalArgumentException", "java/lang/IndexOutOfBoundsException") (by decide)⟩) (by decide +kernel) (by decide +kernel) (hE.1 _ v_336 args) (hE.1 _ w_333 args) (fun q H hlt hS => ?_)
  refine W.eq (g2 := F0 m 180 ls [.ref q]) rfl ?_
  refine lv_astore (lv' := [(6, .ref q), (0, .ref (ad 0)), (1, .int 8), (2, .int x1), (3, .int x2), (4, .int x3), (5, .int x4)]) hx hb dL_act_180 hl (by decide) rfl (fun ls hl => ?_)
  refine lv_sipush (v := (-1202)) hx hb dL_act_182 (by decide) ?_
  exact g_ret (mc := 1) hx hb hr hlk (hw.grow hS) rfl ⟨rfl, hlt⟩ ⟨Nat.le_of_ble_eq_true rfl, Nat.le_of_ble_eq_true rfl⟩ dL_act_185
set_option maxHeartbeats 4000000 in
set_option maxRecDepth 100000 in
theorem h_act_9A {l : Launch} (hfl : l.flags = flags0) {D : va_G} {cI cZ cL : ClassId} {ad aa : Nat → Nat} {fa S : Mem} {m0 m1 : Nat} (hD : va_D (aC ad cI) (wC ad cI mem0)) (hA : ∀ q, aW (wA aa cI mem0) q → ¬ aC ad cI q) (hJ : JS S m0 m1) (x1 x2 x3 x4 : Int32) (hth : (oBound S x1).1 = some "java/lang/IllegalArgumentException") :
    GM l D cI cZ cL ad aa fa S yL_act [Cond.codeWith yL_act cL_act 7 (some .int) [(0, 173, 174, 50), (0, 173, 180, 52), (0, 173, 186, 54)]] 8 1 [.ref (ad 0), .int 9, .int x1, .int x2, .int x3, .int x4] m0 m1 (pC (-1202)) := by
  refine GM.ofW (by decide) (Nat.le_of_ble_eq_true rfl) hfl hD hA hJ ?_
  intro p e s m args below meth c ls hx hb hr hlk hown htb C hw hl
  have hl : lv_has ls 7 [(0, .ref (ad 0)), (1, .int 9), (2, .int x1), (3, .int x2), (4, .int x3), (5, .int x4)] := hl
  have hml := C.1.2.2.1
  refine lv_iload_n hx hb dL_act_0 rfl (lv_at hl 1 rfl) ?_
  refine lv_if_ne (tgt := 12) hx hb dL_act_1 (by decide) (fun c_1 => ?_) (fun c_1 => absurd c_1 (by decide))
  refine lv_iload_n hx hb dL_act_12 rfl (lv_at hl 1 rfl) ?_
  refine lv_iconst (v := 1) hx hb dL_act_13 (by decide) ?_
  refine lv_icmp_ne (tgt := 30) hx hb dL_act_14 (by decide) (fun c_1 => ?_) (fun c_1 => absurd c_1 (by decide))
  refine lv_iload_n hx hb dL_act_30 rfl (lv_at hl 1 rfl) ?_
  refine lv_iconst (v := 2) hx hb dL_act_31 (by decide) ?_
  refine lv_icmp_ne (tgt := 44) hx hb dL_act_32 (by decide) (fun c_1 => ?_) (fun c_1 => absurd c_1 (by decide))
  refine lv_iload_n hx hb dL_act_44 rfl (lv_at hl 1 rfl) ?_
  refine lv_iconst (v := 3) hx hb dL_act_45 (by decide) ?_
  refine lv_icmp_ne (tgt := 56) hx hb dL_act_46 (by decide) (fun c_1 => ?_) (fun c_1 => absurd c_1 (by decide))
  refine lv_iload_n hx hb dL_act_56 rfl (lv_at hl 1 rfl) ?_
  refine lv_iconst (v := 4) hx hb dL_act_57 (by decide) ?_
  refine lv_icmp_ne (tgt := 68) hx hb dL_act_58 (by decide) (fun c_1 => ?_) (fun c_1 => absurd c_1 (by decide))
  refine lv_iload_n hx hb dL_act_68 rfl (lv_at hl 1 rfl) ?_
  refine lv_iconst (v := 5) hx hb dL_act_69 (by decide) ?_
  refine lv_icmp_ne (tgt := 92) hx hb dL_act_70 (by decide) (fun c_1 => ?_) (fun c_1 => absurd c_1 (by decide))
  refine lv_iload_n hx hb dL_act_92 rfl (lv_at hl 1 rfl) ?_
  refine lv_bipush (v := 6) hx hb dL_act_93 (by decide) ?_
  refine lv_icmp_ne (tgt := 107) hx hb dL_act_95 (by decide) (fun c_1 => ?_) (fun c_1 => absurd c_1 (by decide))
  refine lv_iload_n hx hb dL_act_107 rfl (lv_at hl 1 rfl) ?_
  refine lv_bipush (v := 7) hx hb dL_act_108 (by decide) ?_
  refine lv_icmp_ne (tgt := 130) hx hb dL_act_110 (by decide) (fun c_1 => ?_) (fun c_1 => absurd c_1 (by decide))
  refine lv_iload_n hx hb dL_act_130 rfl (lv_at hl 1 rfl) ?_
  refine lv_bipush (v := 8) hx hb dL_act_131 (by decide) ?_
  refine lv_icmp_ne (tgt := 153) hx hb dL_act_133 (by decide) (fun c_1 => ?_) (fun c_1 => absurd c_1 (by decide))
  refine lv_iload_n hx hb dL_act_153 rfl (lv_at hl 1 rfl) ?_
  refine lv_bipush (v := 9) hx hb dL_act_154 (by decide) ?_
  refine lv_icmp_ne (tgt := 167) hx hb dL_act_156 (by decide) (fun c_1 => absurd c_1 (by decide)) (fun c_1 => ?_)
  refine lv_aload_n hx hb dL_act_159 rfl (lv_at hl 0 rfl) ?_
  refine lv_iload_n hx hb dL_act_160 rfl (lv_at hl 2 rfl) ?_
  obtain ⟨hE, hT, hZ, hC⟩ := C.2.1
  refine q_thH (q_thV (rest := []) hx hb hml hown hE hT (hZ.narrow (fun _ h => h.elim)) (c_X5_setBound_T0 l hfl D cI cZ cL ad S x1 hJ.i0 hth) ck_X5_setBound v_508 hw.1 0 rfl rfl hl.1 rfl ⟨Nat.le_of_ble_eq_true rfl, Nat.le_of_ble_eq_true rfl⟩ (Nat.le_of_ble_eq_true rfl) dL_act_161 ⟨Nat.le_of_ble_eq_true rfl, Nat.le_of_ble_eq_true rfl⟩) hown (tableOf [(0, 173, 174, 50)]) _ _ htb (by intro z hz; simp only [tableOf, List.map_cons, List.map_nil, List.mem_cons, List.not_mem_nil, or_false] at hz; rcases hz with rfl <;> first | exact Or.inr ⟨by decide, _, hE.1 _ v_335 args, hC ("java/lang/IllegalArgumentException", "java/lang/IndexOutOfBoundsException") (by decide)⟩) (by decide +kernel) (by decide +kernel) (hE.1 _ v_336 args) (hE.1 _ w_333 args) (fun q H hlt hS => ?_)
  refine W.eq (g2 := F0 m 180 ls [.ref q]) rfl ?_
  refine lv_astore (lv' := [(6, .ref q), (0, .ref (ad 0)), (1, .int 9), (2, .int x1), (3, .int x2), (4, .int x3), (5, .int x4)]) hx hb dL_act_180 hl (by decide) rfl (fun ls hl => ?_)
  refine lv_sipush (v := (-1202)) hx hb dL_act_182 (by decide) ?_
  exact g_ret (mc := 1) hx hb hr hlk (hw.grow hS) rfl ⟨rfl, hlt⟩ ⟨Nat.le_of_ble_eq_true rfl, Nat.le_of_ble_eq_true rfl⟩ dL_act_185
set_option maxHeartbeats 4000000 in
set_option maxRecDepth 100000 in
theorem h_act_10A {l : Launch} (hfl : l.flags = flags0) {D : va_G} {cI cZ cL : ClassId} {ad aa : Nat → Nat} {fa S : Mem} {m0 m1 : Nat} (hD : va_D (aC ad cI) (wC ad cI mem0)) (hA : ∀ q, aW (wA aa cI mem0) q → ¬ aC ad cI q) (hJ : JS S m0 m1) (x1 x2 x3 x4 : Int32) (hth : (oSetP S x1 x2).1 = some "java/lang/IllegalArgumentException") :
    GM l D cI cZ cL ad aa fa S yL_act [Cond.codeWith yL_act cL_act 7 (some .int) [(0, 173, 174, 50), (0, 173, 180, 52), (0, 173, 186, 54)]] 8 1 [.ref (ad 0), .int 10, .int x1, .int x2, .int x3, .int x4] m0 m1 (pC (-1202)) := by
  refine GM.ofW (by decide) (Nat.le_of_ble_eq_true rfl) hfl hD hA hJ ?_
  intro p e s m args below meth c ls hx hb hr hlk hown htb C hw hl
  have hl : lv_has ls 7 [(0, .ref (ad 0)), (1, .int 10), (2, .int x1), (3, .int x2), (4, .int x3), (5, .int x4)] := hl
  have hml := C.1.2.2.1
  refine lv_iload_n hx hb dL_act_0 rfl (lv_at hl 1 rfl) ?_
  refine lv_if_ne (tgt := 12) hx hb dL_act_1 (by decide) (fun c_1 => ?_) (fun c_1 => absurd c_1 (by decide))
  refine lv_iload_n hx hb dL_act_12 rfl (lv_at hl 1 rfl) ?_
  refine lv_iconst (v := 1) hx hb dL_act_13 (by decide) ?_
  refine lv_icmp_ne (tgt := 30) hx hb dL_act_14 (by decide) (fun c_1 => ?_) (fun c_1 => absurd c_1 (by decide))
  refine lv_iload_n hx hb dL_act_30 rfl (lv_at hl 1 rfl) ?_
  refine lv_iconst (v := 2) hx hb dL_act_31 (by decide) ?_
  refine lv_icmp_ne (tgt := 44) hx hb dL_act_32 (by decide) (fun c_1 => ?_) (fun c_1 => absurd c_1 (by decide))
  refine lv_iload_n hx hb dL_act_44 rfl (lv_at hl 1 rfl) ?_
  refine lv_iconst (v := 3) hx hb dL_act_45 (by decide) ?_
  refine lv_icmp_ne (tgt := 56) hx hb dL_act_46 (by decide) (fun c_1 => ?_) (fun c_1 => absurd c_1 (by decide))
  refine lv_iload_n hx hb dL_act_56 rfl (lv_at hl 1 rfl) ?_
  refine lv_iconst (v := 4) hx hb dL_act_57 (by decide) ?_
  refine lv_icmp_ne (tgt := 68) hx hb dL_act_58 (by decide) (fun c_1 => ?_) (fun c_1 => absurd c_1 (by decide))
  refine lv_iload_n hx hb dL_act_68 rfl (lv_at hl 1 rfl) ?_
  refine lv_iconst (v := 5) hx hb dL_act_69 (by decide) ?_
  refine lv_icmp_ne (tgt := 92) hx hb dL_act_70 (by decide) (fun c_1 => ?_) (fun c_1 => absurd c_1 (by decide))
  refine lv_iload_n hx hb dL_act_92 rfl (lv_at hl 1 rfl) ?_
  refine lv_bipush (v := 6) hx hb dL_act_93 (by decide) ?_
  refine lv_icmp_ne (tgt := 107) hx hb dL_act_95 (by decide) (fun c_1 => ?_) (fun c_1 => absurd c_1 (by decide))
  refine lv_iload_n hx hb dL_act_107 rfl (lv_at hl 1 rfl) ?_
  refine lv_bipush (v := 7) hx hb dL_act_108 (by decide) ?_
  refine lv_icmp_ne (tgt := 130) hx hb dL_act_110 (by decide) (fun c_1 => ?_) (fun c_1 => absurd c_1 (by decide))
  refine lv_iload_n hx hb dL_act_130 rfl (lv_at hl 1 rfl) ?_
  refine lv_bipush (v := 8) hx hb dL_act_131 (by decide) ?_
  refine lv_icmp_ne (tgt := 153) hx hb dL_act_133 (by decide) (fun c_1 => ?_) (fun c_1 => absurd c_1 (by decide))
  refine lv_iload_n hx hb dL_act_153 rfl (lv_at hl 1 rfl) ?_
  refine lv_bipush (v := 9) hx hb dL_act_154 (by decide) ?_
  refine lv_icmp_ne (tgt := 167) hx hb dL_act_156 (by decide) (fun c_1 => ?_) (fun c_1 => absurd c_1 (by decide))
  refine lv_aload_n hx hb dL_act_167 rfl (lv_at hl 0 rfl) ?_
  refine lv_iload_n hx hb dL_act_168 rfl (lv_at hl 2 rfl) ?_
  refine lv_iload_n hx hb dL_act_169 rfl (lv_at hl 3 rfl) ?_
  obtain ⟨hE, hT, hZ, hC⟩ := C.2.1
  refine q_thH (q_thV (rest := []) hx hb hml hown hE hT (hZ.narrow (fun _ h => h.elim)) (c_X5_setPrize_T0 l hfl D cI cZ cL ad S x1 x2 hJ.i0 hth) ck_X5_setPrize v_512 hw.1 0 rfl rfl hl.1 rfl ⟨Nat.le_of_ble_eq_true rfl, Nat.le_of_ble_eq_true rfl⟩ (Nat.le_of_ble_eq_true rfl) dL_act_170 ⟨Nat.le_of_ble_eq_true rfl, Nat.le_of_ble_eq_true rfl⟩) hown (tableOf [(0, 173, 174, 50)]) _ _ htb (by intro z hz; simp only [tableOf, List.map_cons, List.map_nil, List.mem_cons, List.not_mem_nil, or_false] at hz; rcases hz with rfl <;> first | exact Or.inr ⟨by decide, _, hE.1 _ v_335 args, hC ("java/lang/IllegalArgumentException", "java/lang/IndexOutOfBoundsException") (by decide)⟩) (by decide +kernel) (by decide +kernel) (hE.1 _ v_336 args) (hE.1 _ w_333 args) (fun q H hlt hS => ?_)
  refine W.eq (g2 := F0 m 180 ls [.ref q]) rfl ?_
  refine lv_astore (lv' := [(6, .ref q), (0, .ref (ad 0)), (1, .int 10), (2, .int x1), (3, .int x2), (4, .int x3), (5, .int x4)]) hx hb dL_act_180 hl (by decide) rfl (fun ls hl => ?_)
  refine lv_sipush (v := (-1202)) hx hb dL_act_182 (by decide) ?_
  exact g_ret (mc := 1) hx hb hr hlk (hw.grow hS) rfl ⟨rfl, hlt⟩ ⟨Nat.le_of_ble_eq_true rfl, Nat.le_of_ble_eq_true rfl⟩ dL_act_185
set_option maxHeartbeats 4000000 in
set_option maxRecDepth 100000 in
theorem h_act_3 {l : Launch} (hfl : l.flags = flags0) {D : va_G} {cI cZ cL : ClassId} {ad aa : Nat → Nat} {fa S : Mem} {m0 m1 : Nat} (hD : va_D (aC ad cI) (wC ad cI mem0)) (hA : ∀ q, aW (wA aa cI mem0) q → ¬ aC ad cI q) (hJ : JS S m0 m1) (x1 x2 x3 x4 : Int32) {m0' m1' : Nat} (hJ' : JS (oAddT S).2.2 m0' m1') (hth : (oAddT S).1 = none) :
    GM l D cI cZ cL ad aa fa S yL_act [Cond.codeWith yL_act cL_act 7 (some .int) [(0, 173, 174, 50), (0, 173, 180, 52), (0, 173, 186, 54)]] 8 1 [.ref (ad 0), .int 3, .int x1, .int x2, .int x3, .int x4] m0' m1' (pV (oAddT S).2.1) := by
  refine GM.ofW (by decide) (Nat.le_of_ble_eq_true rfl) hfl hD hA hJ ?_
  intro p e s m args below meth c ls hx hb hr hlk hown htb C hw hl
  have hl : lv_has ls 7 [(0, .ref (ad 0)), (1, .int 3), (2, .int x1), (3, .int x2), (4, .int x3), (5, .int x4)] := hl
  have hml := C.1.2.2.1
  refine lv_iload_n hx hb dL_act_0 rfl (lv_at hl 1 rfl) ?_
  refine lv_if_ne (tgt := 12) hx hb dL_act_1 (by decide) (fun c_1 => ?_) (fun c_1 => absurd c_1 (by decide))
  refine lv_iload_n hx hb dL_act_12 rfl (lv_at hl 1 rfl) ?_
  refine lv_iconst (v := 1) hx hb dL_act_13 (by decide) ?_
  refine lv_icmp_ne (tgt := 30) hx hb dL_act_14 (by decide) (fun c_1 => ?_) (fun c_1 => absurd c_1 (by decide))
  refine lv_iload_n hx hb dL_act_30 rfl (lv_at hl 1 rfl) ?_
  refine lv_iconst (v := 2) hx hb dL_act_31 (by decide) ?_
  refine lv_icmp_ne (tgt := 44) hx hb dL_act_32 (by decide) (fun c_1 => ?_) (fun c_1 => absurd c_1 (by decide))
  refine lv_iload_n hx hb dL_act_44 rfl (lv_at hl 1 rfl) ?_
  refine lv_iconst (v := 3) hx hb dL_act_45 (by decide) ?_
  refine lv_icmp_ne (tgt := 56) hx hb dL_act_46 (by decide) (fun c_1 => absurd c_1 (by decide)) (fun c_1 => ?_)
  refine lv_aload_n hx hb dL_act_49 rfl (lv_at hl 0 rfl) ?_
  refine g_wr (rest := []) C hw (c_X5_addTeam l D cI cZ cL ad S (aC ad cI) (wC_D hD) hJ.i0 hth) hJ' ck_X5_addTeam v_401 (by decide) hl.1 rfl ⟨Nat.le_of_ble_eq_true rfl, Nat.le_of_ble_eq_true rfl⟩ (Nat.le_of_ble_eq_true rfl) dL_act_50 ⟨Nat.le_of_ble_eq_true rfl, Nat.le_of_ble_eq_true rfl⟩ (fun S9 H locs hle hw => ?_)
  refine lv_goto (tgt := 173) hx hb dL_act_53 (by decide) ?_
  exact g_ret (mc := 1) hx hb hr hlk hw rfl rfl ⟨Nat.zero_le _, Nat.zero_le _⟩ dL_act_173
set_option maxHeartbeats 4000000 in
set_option maxRecDepth 100000 in
theorem h_act_1 {l : Launch} (hfl : l.flags = flags0) {D : va_G} {cI cZ cL : ClassId} {ad aa : Nat → Nat} {fa S : Mem} {m0 m1 : Nat} (hD : va_D (aC ad cI) (wC ad cI mem0)) (hA : ∀ q, aW (wA aa cI mem0) q → ¬ aC ad cI q) (hJ : JS S m0 m1) (x1 x2 x3 x4 : Int32) {m0' m1' : Nat} (hJ' : JS (oAddR S x1 x2 x3 x4).2.2 m0' m1') (hth : (oAddR S x1 x2 x3 x4).1 = none) :
    GM l D cI cZ cL ad aa fa S yL_act [Cond.codeWith yL_act cL_act 7 (some .int) [(0, 173, 174, 50), (0, 173, 180, 52), (0, 173, 186, 54)]] 8 1 [.ref (ad 0), .int 1, .int x1, .int x2, .int x3, .int x4] m0' m1' (pV (oAddR S x1 x2 x3 x4).2.1) := by
  refine GM.ofW (by decide) (Nat.le_of_ble_eq_true rfl) hfl hD hA hJ ?_
  intro p e s m args below meth c ls hx hb hr hlk hown htb C hw hl
  have hl : lv_has ls 7 [(0, .ref (ad 0)), (1, .int 1), (2, .int x1), (3, .int x2), (4, .int x3), (5, .int x4)] := hl
  have hml := C.1.2.2.1
  refine lv_iload_n hx hb dL_act_0 rfl (lv_at hl 1 rfl) ?_
  refine lv_if_ne (tgt := 12) hx hb dL_act_1 (by decide) (fun c_1 => ?_) (fun c_1 => absurd c_1 (by decide))
  refine lv_iload_n hx hb dL_act_12 rfl (lv_at hl 1 rfl) ?_
  refine lv_iconst (v := 1) hx hb dL_act_13 (by decide) ?_
  refine lv_icmp_ne (tgt := 30) hx hb dL_act_14 (by decide) (fun c_1 => absurd c_1 (by decide)) (fun c_1 => ?_)
  refine lv_aload_n hx hb dL_act_17 rfl (lv_at hl 0 rfl) ?_
  refine lv_iload_n hx hb dL_act_18 rfl (lv_at hl 2 rfl) ?_
  refine lv_iload_n hx hb dL_act_19 rfl (lv_at hl 3 rfl) ?_
  refine lv_iload hx hb dL_act_20 (lv_at hl 4 rfl) ?_
  refine lv_iload hx hb dL_act_22 (lv_at hl 5 rfl) ?_
  refine g_wr (rest := []) C hw (c_X5_addRiddle l D cI cZ cL ad S (aC ad cI) (wC_D hD) x1 x2 x3 x4 hJ.i0 hth) hJ' ck_X5_addRiddle v_377 (by decide) hl.1 rfl ⟨Nat.le_of_ble_eq_true rfl, Nat.le_of_ble_eq_true rfl⟩ (Nat.le_of_ble_eq_true rfl) dL_act_24 ⟨Nat.le_of_ble_eq_true rfl, Nat.le_of_ble_eq_true rfl⟩ (fun S9 H locs hle hw => ?_)
  refine lv_goto (tgt := 173) hx hb dL_act_27 (by decide) ?_
  exact g_ret (mc := 1) hx hb hr hlk hw rfl rfl ⟨Nat.zero_le _, Nat.zero_le _⟩ dL_act_173
set_option maxHeartbeats 4000000 in
set_option maxRecDepth 100000 in
theorem h_of_0I {l : Launch} (hfl : l.flags = flags0) {D : va_G} {cI cZ cL : ClassId} {ad aa : Nat → Nat} {fa S : Mem} {m0 m1 : Nat} (hD : va_D (aC ad cI) (wC ad cI mem0)) (hA : ∀ q, aW (wA aa cI mem0) q → ¬ aC ad cI q) (hJ : JS S m0 m1) (x1 x2 : Int32) (hth : (oPrice S x1 x2).1 = some "java/lang/IndexOutOfBoundsException") :
    GM l D cI cZ cL ad aa fa S yL_of [Cond.codeWith yL_of cL_of 5 (some .int) [(0, 205, 206, 50), (0, 205, 212, 54), (0, 205, 218, 96)]] 8 1 [.ref (ad 0), .int 0, .int x1, .int x2] m0 m1 (pC (-1201)) := by
  refine GM.ofW (by decide) (Nat.le_of_ble_eq_true rfl) hfl hD hA hJ ?_
  intro p e s m args below meth c ls hx hb hr hlk hown htb C hw hl
  have hl : lv_has ls 5 [(0, .ref (ad 0)), (1, .int 0), (2, .int x1), (3, .int x2)] := hl
  have hml := C.1.2.2.1
  refine lv_iload_n hx hb dL_of_0 rfl (lv_at hl 1 rfl) ?_
  refine lv_if_ne (tgt := 13) hx hb dL_of_1 (by decide) (fun c_1 => absurd c_1 (by decide)) (fun c_1 => ?_)
  refine lv_aload_n hx hb dL_of_4 rfl (lv_at hl 0 rfl) ?_
  refine lv_iload_n hx hb dL_of_5 rfl (lv_at hl 2 rfl) ?_
  refine lv_iload_n hx hb dL_of_6 rfl (lv_at hl 3 rfl) ?_
  obtain ⟨hE, hT, hZ, hC⟩ := C.2.1
  refine q_thH (q_thV (rest := []) hx hb hml hown hE hT (hZ.narrow (fun _ h => h.elim)) (c_X5_price_T0 l hfl D cI cZ cL ad S x1 x2 hJ.i0 hth) ck_X5_price v_520 hw.1 0 rfl rfl hl.1 rfl ⟨Nat.le_of_ble_eq_true rfl, Nat.le_of_ble_eq_true rfl⟩ (Nat.le_of_ble_eq_true rfl) dL_of_7 ⟨Nat.le_of_ble_eq_true rfl, Nat.le_of_ble_eq_true rfl⟩) hown [] _ _ htb (fun z hz => nomatch hz) (by decide +kernel) (by decide +kernel) (hE.1 _ v_335 args) (hE.1 _ w_442 args) (fun q H hlt hS => ?_)
  refine W.eq (g2 := F0 m 206 ls [.ref q]) rfl ?_
  refine lv_astore (lv' := [(4, .ref q), (0, .ref (ad 0)), (1, .int 0), (2, .int x1), (3, .int x2)]) hx hb dL_of_206 hl (by decide) rfl (fun ls hl => ?_)
  refine lv_sipush (v := (-1201)) hx hb dL_of_208 (by decide) ?_
  exact g_ret (mc := 1) hx hb hr hlk (hw.grow hS) rfl ⟨rfl, hlt⟩ ⟨Nat.le_of_ble_eq_true rfl, Nat.le_of_ble_eq_true rfl⟩ dL_of_211
set_option maxHeartbeats 4000000 in
set_option maxRecDepth 100000 in
theorem h_of_1I {l : Launch} (hfl : l.flags = flags0) {D : va_G} {cI cZ cL : ClassId} {ad aa : Nat → Nat} {fa S : Mem} {m0 m1 : Nat} (hD : va_D (aC ad cI) (wC ad cI mem0)) (hA : ∀ q, aW (wA aa cI mem0) q → ¬ aC ad cI q) (hJ : JS S m0 m1) (x1 x2 : Int32) (hth : (oOpened S x1 x2).1 = some "java/lang/IndexOutOfBoundsException") :
    GM l D cI cZ cL ad aa fa S yL_of [Cond.codeWith yL_of cL_of 5 (some .int) [(0, 205, 206, 50), (0, 205, 212, 54), (0, 205, 218, 96)]] 8 1 [.ref (ad 0), .int 1, .int x1, .int x2] m0 m1 (pC (-1201)) := by
  refine GM.ofW (by decide) (Nat.le_of_ble_eq_true rfl) hfl hD hA hJ ?_
  intro p e s m args below meth c ls hx hb hr hlk hown htb C hw hl
  have hl : lv_has ls 5 [(0, .ref (ad 0)), (1, .int 1), (2, .int x1), (3, .int x2)] := hl
  have hml := C.1.2.2.1
  refine lv_iload_n hx hb dL_of_0 rfl (lv_at hl 1 rfl) ?_
  refine lv_if_ne (tgt := 13) hx hb dL_of_1 (by decide) (fun c_1 => ?_) (fun c_1 => absurd c_1 (by decide))
  refine lv_iload_n hx hb dL_of_13 rfl (lv_at hl 1 rfl) ?_
  refine lv_iconst (v := 1) hx hb dL_of_14 (by decide) ?_
  refine lv_icmp_ne (tgt := 27) hx hb dL_of_15 (by decide) (fun c_1 => absurd c_1 (by decide)) (fun c_1 => ?_)
  refine lv_aload_n hx hb dL_of_18 rfl (lv_at hl 0 rfl) ?_
  refine lv_iload_n hx hb dL_of_19 rfl (lv_at hl 2 rfl) ?_
  refine lv_iload_n hx hb dL_of_20 rfl (lv_at hl 3 rfl) ?_
  obtain ⟨hE, hT, hZ, hC⟩ := C.2.1
  refine q_thH (q_thV (rest := []) hx hb hml hown hE hT (hZ.narrow (fun _ h => h.elim)) (c_X5_openedAt_T0 l hfl D cI cZ cL ad S x1 x2 hJ.i0 hth) ck_X5_openedAt v_540 hw.1 0 rfl rfl hl.1 rfl ⟨Nat.le_of_ble_eq_true rfl, Nat.le_of_ble_eq_true rfl⟩ (Nat.le_of_ble_eq_true rfl) dL_of_21 ⟨Nat.le_of_ble_eq_true rfl, Nat.le_of_ble_eq_true rfl⟩) hown [] _ _ htb (fun z hz => nomatch hz) (by decide +kernel) (by decide +kernel) (hE.1 _ v_335 args) (hE.1 _ w_442 args) (fun q H hlt hS => ?_)
  refine W.eq (g2 := F0 m 206 ls [.ref q]) rfl ?_
  refine lv_astore (lv' := [(4, .ref q), (0, .ref (ad 0)), (1, .int 1), (2, .int x1), (3, .int x2)]) hx hb dL_of_206 hl (by decide) rfl (fun ls hl => ?_)
  refine lv_sipush (v := (-1201)) hx hb dL_of_208 (by decide) ?_
  exact g_ret (mc := 1) hx hb hr hlk (hw.grow hS) rfl ⟨rfl, hlt⟩ ⟨Nat.le_of_ble_eq_true rfl, Nat.le_of_ble_eq_true rfl⟩ dL_of_211
set_option maxHeartbeats 4000000 in
set_option maxRecDepth 100000 in
theorem h_of_2I {l : Launch} (hfl : l.flags = flags0) {D : va_G} {cI cZ cL : ClassId} {ad aa : Nat → Nat} {fa S : Mem} {m0 m1 : Nat} (hD : va_D (aC ad cI) (wC ad cI mem0)) (hA : ∀ q, aW (wA aa cI mem0) q → ¬ aC ad cI q) (hJ : JS S m0 m1) (x1 x2 : Int32) (hth : (oSolved S x1 x2).1 = some "java/lang/IndexOutOfBoundsException") :
    GM l D cI cZ cL ad aa fa S yL_of [Cond.codeWith yL_of cL_of 5 (some .int) [(0, 205, 206, 50), (0, 205, 212, 54), (0, 205, 218, 96)]] 8 1 [.ref (ad 0), .int 2, .int x1, .int x2] m0 m1 (pC (-1201)) := by
  refine GM.ofW (by decide) (Nat.le_of_ble_eq_true rfl) hfl hD hA hJ ?_
  intro p e s m args below meth c ls hx hb hr hlk hown htb C hw hl
  have hl : lv_has ls 5 [(0, .ref (ad 0)), (1, .int 2), (2, .int x1), (3, .int x2)] := hl
  have hml := C.1.2.2.1
  refine lv_iload_n hx hb dL_of_0 rfl (lv_at hl 1 rfl) ?_
  refine lv_if_ne (tgt := 13) hx hb dL_of_1 (by decide) (fun c_1 => ?_) (fun c_1 => absurd c_1 (by decide))
  refine lv_iload_n hx hb dL_of_13 rfl (lv_at hl 1 rfl) ?_
  refine lv_iconst (v := 1) hx hb dL_of_14 (by decide) ?_
  refine lv_icmp_ne (tgt := 27) hx hb dL_of_15 (by decide) (fun c_1 => ?_) (fun c_1 => absurd c_1 (by decide))
  refine lv_iload_n hx hb dL_of_27 rfl (lv_at hl 1 rfl) ?_
  refine lv_iconst (v := 2) hx hb dL_of_28 (by decide) ?_
  refine lv_icmp_ne (tgt := 41) hx hb dL_of_29 (by decide) (fun c_1 => absurd c_1 (by decide)) (fun c_1 => ?_)
  refine lv_aload_n hx hb dL_of_32 rfl (lv_at hl 0 rfl) ?_
  refine lv_iload_n hx hb dL_of_33 rfl (lv_at hl 2 rfl) ?_
  refine lv_iload_n hx hb dL_of_34 rfl (lv_at hl 3 rfl) ?_
  obtain ⟨hE, hT, hZ, hC⟩ := C.2.1
  refine q_thH (q_thV (rest := []) hx hb hml hown hE hT (hZ.narrow (fun _ h => h.elim)) (c_X5_solvedAt_T0 l hfl D cI cZ cL ad S x1 x2 hJ.i0 hth) ck_X5_solvedAt v_231 hw.1 0 rfl rfl hl.1 rfl ⟨Nat.le_of_ble_eq_true rfl, Nat.le_of_ble_eq_true rfl⟩ (Nat.le_of_ble_eq_true rfl) dL_of_35 ⟨Nat.le_of_ble_eq_true rfl, Nat.le_of_ble_eq_true rfl⟩) hown [] _ _ htb (fun z hz => nomatch hz) (by decide +kernel) (by decide +kernel) (hE.1 _ v_335 args) (hE.1 _ w_442 args) (fun q H hlt hS => ?_)
  refine W.eq (g2 := F0 m 206 ls [.ref q]) rfl ?_
  refine lv_astore (lv' := [(4, .ref q), (0, .ref (ad 0)), (1, .int 2), (2, .int x1), (3, .int x2)]) hx hb dL_of_206 hl (by decide) rfl (fun ls hl => ?_)
  refine lv_sipush (v := (-1201)) hx hb dL_of_208 (by decide) ?_
  exact g_ret (mc := 1) hx hb hr hlk (hw.grow hS) rfl ⟨rfl, hlt⟩ ⟨Nat.le_of_ble_eq_true rfl, Nat.le_of_ble_eq_true rfl⟩ dL_of_211
set_option maxHeartbeats 4000000 in
set_option maxRecDepth 100000 in
theorem h_of_3I {l : Launch} (hfl : l.flags = flags0) {D : va_G} {cI cZ cL : ClassId} {ad aa : Nat → Nat} {fa S : Mem} {m0 m1 : Nat} (hD : va_D (aC ad cI) (wC ad cI mem0)) (hA : ∀ q, aW (wA aa cI mem0) q → ¬ aC ad cI q) (hJ : JS S m0 m1) (x1 x2 : Int32) (hth : (oFree S x1).1 = some "java/lang/IndexOutOfBoundsException") :
    GM l D cI cZ cL ad aa fa S yL_of [Cond.codeWith yL_of cL_of 5 (some .int) [(0, 205, 206, 50), (0, 205, 212, 54), (0, 205, 218, 96)]] 8 1 [.ref (ad 0), .int 3, .int x1, .int x2] m0 m1 (pC (-1201)) := by
  refine GM.ofW (by decide) (Nat.le_of_ble_eq_true rfl) hfl hD hA hJ ?_
  intro p e s m args below meth c ls hx hb hr hlk hown htb C hw hl
  have hl : lv_has ls 5 [(0, .ref (ad 0)), (1, .int 3), (2, .int x1), (3, .int x2)] := hl
  have hml := C.1.2.2.1
  refine lv_iload_n hx hb dL_of_0 rfl (lv_at hl 1 rfl) ?_
  refine lv_if_ne (tgt := 13) hx hb dL_of_1 (by decide) (fun c_1 => ?_) (fun c_1 => absurd c_1 (by decide))
  refine lv_iload_n hx hb dL_of_13 rfl (lv_at hl 1 rfl) ?_
  refine lv_iconst (v := 1) hx hb dL_of_14 (by decide) ?_
  refine lv_icmp_ne (tgt := 27) hx hb dL_of_15 (by decide) (fun c_1 => ?_) (fun c_1 => absurd c_1 (by decide))
  refine lv_iload_n hx hb dL_of_27 rfl (lv_at hl 1 rfl) ?_
  refine lv_iconst (v := 2) hx hb dL_of_28 (by decide) ?_
  refine lv_icmp_ne (tgt := 41) hx hb dL_of_29 (by decide) (fun c_1 => ?_) (fun c_1 => absurd c_1 (by decide))
  refine lv_iload_n hx hb dL_of_41 rfl (lv_at hl 1 rfl) ?_
  refine lv_iconst (v := 3) hx hb dL_of_42 (by decide) ?_
  refine lv_icmp_ne (tgt := 62) hx hb dL_of_43 (by decide) (fun c_1 => absurd c_1 (by decide)) (fun c_1 => ?_)
  refine lv_aload_n hx hb dL_of_46 rfl (lv_at hl 0 rfl) ?_
  refine lv_iload_n hx hb dL_of_47 rfl (lv_at hl 2 rfl) ?_
  obtain ⟨hE, hT, hZ, hC⟩ := C.2.1
  refine q_thH (q_thV (rest := []) hx hb hml hown hE hT (hZ.narrow (fun _ h => h.elim)) (c_X5_isFree_T0 l hfl D cI cZ cL ad S x1 hJ.i0 hth) ck_X5_isFree v_319 hw.1 0 rfl rfl hl.1 rfl ⟨Nat.le_of_ble_eq_true rfl, Nat.le_of_ble_eq_true rfl⟩ (Nat.le_of_ble_eq_true rfl) dL_of_48 ⟨Nat.le_of_ble_eq_true rfl, Nat.le_of_ble_eq_true rfl⟩) hown [] _ _ htb (fun z hz => nomatch hz) (by decide +kernel) (by decide +kernel) (hE.1 _ v_335 args) (hE.1 _ w_442 args) (fun q H hlt hS => ?_)
  refine W.eq (g2 := F0 m 206 ls [.ref q]) rfl ?_
  refine lv_astore (lv' := [(4, .ref q), (0, .ref (ad 0)), (1, .int 3), (2, .int x1), (3, .int x2)]) hx hb dL_of_206 hl (by decide) rfl (fun ls hl => ?_)
  refine lv_sipush (v := (-1201)) hx hb dL_of_208 (by decide) ?_
  exact g_ret (mc := 1) hx hb hr hlk (hw.grow hS) rfl ⟨rfl, hlt⟩ ⟨Nat.le_of_ble_eq_true rfl, Nat.le_of_ble_eq_true rfl⟩ dL_of_211
set_option maxHeartbeats 4000000 in
set_option maxRecDepth 100000 in
theorem h_of_4I {l : Launch} (hfl : l.flags = flags0) {D : va_G} {cI cZ cL : ClassId} {ad aa : Nat → Nat} {fa S : Mem} {m0 m1 : Nat} (hD : va_D (aC ad cI) (wC ad cI mem0)) (hA : ∀ q, aW (wA aa cI mem0) q → ¬ aC ad cI q) (hJ : JS S m0 m1) (x1 x2 : Int32) (hth : (oLike S x1 x2).1 = some "java/lang/IndexOutOfBoundsException") :
    GM l D cI cZ cL ad aa fa S yL_of [Cond.codeWith yL_of cL_of 5 (some .int) [(0, 205, 206, 50), (0, 205, 212, 54), (0, 205, 218, 96)]] 8 1 [.ref (ad 0), .int 4, .int x1, .int x2] m0 m1 (pC (-1201)) := by
  refine GM.ofW (by decide) (Nat.le_of_ble_eq_true rfl) hfl hD hA hJ ?_
  intro p e s m args below meth c ls hx hb hr hlk hown htb C hw hl
  have hl : lv_has ls 5 [(0, .ref (ad 0)), (1, .int 4), (2, .int x1), (3, .int x2)] := hl
  have hml := C.1.2.2.1
  refine lv_iload_n hx hb dL_of_0 rfl (lv_at hl 1 rfl) ?_
  refine lv_if_ne (tgt := 13) hx hb dL_of_1 (by decide) (fun c_1 => ?_) (fun c_1 => absurd c_1 (by decide))
  refine lv_iload_n hx hb dL_of_13 rfl (lv_at hl 1 rfl) ?_
  refine lv_iconst (v := 1) hx hb dL_of_14 (by decide) ?_
  refine lv_icmp_ne (tgt := 27) hx hb dL_of_15 (by decide) (fun c_1 => ?_) (fun c_1 => absurd c_1 (by decide))
  refine lv_iload_n hx hb dL_of_27 rfl (lv_at hl 1 rfl) ?_
  refine lv_iconst (v := 2) hx hb dL_of_28 (by decide) ?_
  refine lv_icmp_ne (tgt := 41) hx hb dL_of_29 (by decide) (fun c_1 => ?_) (fun c_1 => absurd c_1 (by decide))
  refine lv_iload_n hx hb dL_of_41 rfl (lv_at hl 1 rfl) ?_
  refine lv_iconst (v := 3) hx hb dL_of_42 (by decide) ?_
  refine lv_icmp_ne (tgt := 62) hx hb dL_of_43 (by decide) (fun c_1 => ?_) (fun c_1 => absurd c_1 (by decide))
  refine lv_iload_n hx hb dL_of_62 rfl (lv_at hl 1 rfl) ?_
  refine lv_iconst (v := 4) hx hb dL_of_63 (by decide) ?_
  refine lv_icmp_ne (tgt := 76) hx hb dL_of_64 (by decide) (fun c_1 => absurd c_1 (by decide)) (fun c_1 => ?_)
  refine lv_aload_n hx hb dL_of_67 rfl (lv_at hl 0 rfl) ?_
  refine lv_iload_n hx hb dL_of_68 rfl (lv_at hl 2 rfl) ?_
  refine lv_iload_n hx hb dL_of_69 rfl (lv_at hl 3 rfl) ?_
  obtain ⟨hE, hT, hZ, hC⟩ := C.2.1
  refine q_thH (q_thV (rest := []) hx hb hml hown hE hT (hZ.narrow (fun _ h => h.elim)) (c_X5_likeness_T0 l hfl D cI cZ cL ad S x1 x2 hJ.i0 hth) ck_X5_likeness v_544 hw.1 0 rfl rfl hl.1 rfl ⟨Nat.le_of_ble_eq_true rfl, Nat.le_of_ble_eq_true rfl⟩ (Nat.le_of_ble_eq_true rfl) dL_of_70 ⟨Nat.le_of_ble_eq_true rfl, Nat.le_of_ble_eq_true rfl⟩) hown [] _ _ htb (fun z hz => nomatch hz) (by decide +kernel) (by decide +kernel) (hE.1 _ v_335 args) (hE.1 _ w_442 args) (fun q H hlt hS => ?_)
  refine W.eq (g2 := F0 m 206 ls [.ref q]) rfl ?_
  refine lv_astore (lv' := [(4, .ref q), (0, .ref (ad 0)), (1, .int 4), (2, .int x1), (3, .int x2)]) hx hb dL_of_206 hl (by decide) rfl (fun ls hl => ?_)
  refine lv_sipush (v := (-1201)) hx hb dL_of_208 (by decide) ?_
  exact g_ret (mc := 1) hx hb hr hlk (hw.grow hS) rfl ⟨rfl, hlt⟩ ⟨Nat.le_of_ble_eq_true rfl, Nat.le_of_ble_eq_true rfl⟩ dL_of_211
set_option maxHeartbeats 4000000 in
set_option maxRecDepth 100000 in
theorem h_of_5I {l : Launch} (hfl : l.flags = flags0) {D : va_G} {cI cZ cL : ClassId} {ad aa : Nat → Nat} {fa S : Mem} {m0 m1 : Nat} (hD : va_D (aC ad cI) (wC ad cI mem0)) (hA : ∀ q, aW (wA aa cI mem0) q → ¬ aC ad cI q) (hJ : JS S m0 m1) (x1 x2 : Int32) (hth : (oLinked S x1 x2).1 = some "java/lang/IndexOutOfBoundsException") :
    GM l D cI cZ cL ad aa fa S yL_of [Cond.codeWith yL_of cL_of 5 (some .int) [(0, 205, 206, 50), (0, 205, 212, 54), (0, 205, 218, 96)]] 8 1 [.ref (ad 0), .int 5, .int x1, .int x2] m0 m1 (pC (-1201)) := by
  refine GM.ofW (by decide) (Nat.le_of_ble_eq_true rfl) hfl hD hA hJ ?_
  intro p e s m args below meth c ls hx hb hr hlk hown htb C hw hl
  have hl : lv_has ls 5 [(0, .ref (ad 0)), (1, .int 5), (2, .int x1), (3, .int x2)] := hl
  have hml := C.1.2.2.1
  refine lv_iload_n hx hb dL_of_0 rfl (lv_at hl 1 rfl) ?_
  refine lv_if_ne (tgt := 13) hx hb dL_of_1 (by decide) (fun c_1 => ?_) (fun c_1 => absurd c_1 (by decide))
  refine lv_iload_n hx hb dL_of_13 rfl (lv_at hl 1 rfl) ?_
  refine lv_iconst (v := 1) hx hb dL_of_14 (by decide) ?_
  refine lv_icmp_ne (tgt := 27) hx hb dL_of_15 (by decide) (fun c_1 => ?_) (fun c_1 => absurd c_1 (by decide))
  refine lv_iload_n hx hb dL_of_27 rfl (lv_at hl 1 rfl) ?_
  refine lv_iconst (v := 2) hx hb dL_of_28 (by decide) ?_
  refine lv_icmp_ne (tgt := 41) hx hb dL_of_29 (by decide) (fun c_1 => ?_) (fun c_1 => absurd c_1 (by decide))
  refine lv_iload_n hx hb dL_of_41 rfl (lv_at hl 1 rfl) ?_
  refine lv_iconst (v := 3) hx hb dL_of_42 (by decide) ?_
  refine lv_icmp_ne (tgt := 62) hx hb dL_of_43 (by decide) (fun c_1 => ?_) (fun c_1 => absurd c_1 (by decide))
  refine lv_iload_n hx hb dL_of_62 rfl (lv_at hl 1 rfl) ?_
  refine lv_iconst (v := 4) hx hb dL_of_63 (by decide) ?_
  refine lv_icmp_ne (tgt := 76) hx hb dL_of_64 (by decide) (fun c_1 => ?_) (fun c_1 => absurd c_1 (by decide))
  refine lv_iload_n hx hb dL_of_76 rfl (lv_at hl 1 rfl) ?_
  refine lv_iconst (v := 5) hx hb dL_of_77 (by decide) ?_
  refine lv_icmp_ne (tgt := 98) hx hb dL_of_78 (by decide) (fun c_1 => absurd c_1 (by decide)) (fun c_1 => ?_)
  refine lv_aload_n hx hb dL_of_81 rfl (lv_at hl 0 rfl) ?_
  refine lv_iload_n hx hb dL_of_82 rfl (lv_at hl 2 rfl) ?_
  refine lv_iload_n hx hb dL_of_83 rfl (lv_at hl 3 rfl) ?_
  obtain ⟨hE, hT, hZ, hC⟩ := C.2.1
  refine q_thH (q_thV (rest := []) hx hb hml hown hE hT (hZ.narrow (fun _ h => h.elim)) (c_X5_areLinked_T0 l hfl D cI cZ cL ad S x1 x2 hJ.i0 hth) ck_X5_areLinked v_549 hw.1 0 rfl rfl hl.1 rfl ⟨Nat.le_of_ble_eq_true rfl, Nat.le_of_ble_eq_true rfl⟩ (Nat.le_of_ble_eq_true rfl) dL_of_84 ⟨Nat.le_of_ble_eq_true rfl, Nat.le_of_ble_eq_true rfl⟩) hown [] _ _ htb (fun z hz => nomatch hz) (by decide +kernel) (by decide +kernel) (hE.1 _ v_335 args) (hE.1 _ w_442 args) (fun q H hlt hS => ?_)
  refine W.eq (g2 := F0 m 206 ls [.ref q]) rfl ?_
  refine lv_astore (lv' := [(4, .ref q), (0, .ref (ad 0)), (1, .int 5), (2, .int x1), (3, .int x2)]) hx hb dL_of_206 hl (by decide) rfl (fun ls hl => ?_)
  refine lv_sipush (v := (-1201)) hx hb dL_of_208 (by decide) ?_
  exact g_ret (mc := 1) hx hb hr hlk (hw.grow hS) rfl ⟨rfl, hlt⟩ ⟨Nat.le_of_ble_eq_true rfl, Nat.le_of_ble_eq_true rfl⟩ dL_of_211
set_option maxHeartbeats 4000000 in
set_option maxRecDepth 100000 in
theorem h_of_6I {l : Launch} (hfl : l.flags = flags0) {D : va_G} {cI cZ cL : ClassId} {ad aa : Nat → Nat} {fa S : Mem} {m0 m1 : Nat} (hD : va_D (aC ad cI) (wC ad cI mem0)) (hA : ∀ q, aW (wA aa cI mem0) q → ¬ aC ad cI q) (hJ : JS S m0 m1) (x1 x2 : Int32) (hth : (oCheat S x1 x2).1 = some "java/lang/IndexOutOfBoundsException") :
    GM l D cI cZ cL ad aa fa S yL_of [Cond.codeWith yL_of cL_of 5 (some .int) [(0, 205, 206, 50), (0, 205, 212, 54), (0, 205, 218, 96)]] 8 1 [.ref (ad 0), .int 6, .int x1, .int x2] m0 m1 (pC (-1201)) := by
  refine GM.ofW (by decide) (Nat.le_of_ble_eq_true rfl) hfl hD hA hJ ?_
  intro p e s m args below meth c ls hx hb hr hlk hown htb C hw hl
  have hl : lv_has ls 5 [(0, .ref (ad 0)), (1, .int 6), (2, .int x1), (3, .int x2)] := hl
  have hml := C.1.2.2.1
  refine lv_iload_n hx hb dL_of_0 rfl (lv_at hl 1 rfl) ?_
  refine lv_if_ne (tgt := 13) hx hb dL_of_1 (by decide) (fun c_1 => ?_) (fun c_1 => absurd c_1 (by decide))
  refine lv_iload_n hx hb dL_of_13 rfl (lv_at hl 1 rfl) ?_
  refine lv_iconst (v := 1) hx hb dL_of_14 (by decide) ?_
  refine lv_icmp_ne (tgt := 27) hx hb dL_of_15 (by decide) (fun c_1 => ?_) (fun c_1 => absurd c_1 (by decide))
  refine lv_iload_n hx hb dL_of_27 rfl (lv_at hl 1 rfl) ?_
  refine lv_iconst (v := 2) hx hb dL_of_28 (by decide) ?_
  refine lv_icmp_ne (tgt := 41) hx hb dL_of_29 (by decide) (fun c_1 => ?_) (fun c_1 => absurd c_1 (by decide))
  refine lv_iload_n hx hb dL_of_41 rfl (lv_at hl 1 rfl) ?_
  refine lv_iconst (v := 3) hx hb dL_of_42 (by decide) ?_
  refine lv_icmp_ne (tgt := 62) hx hb dL_of_43 (by decide) (fun c_1 => ?_) (fun c_1 => absurd c_1 (by decide))
  refine lv_iload_n hx hb dL_of_62 rfl (lv_at hl 1 rfl) ?_
  refine lv_iconst (v := 4) hx hb dL_of_63 (by decide) ?_
  refine lv_icmp_ne (tgt := 76) hx hb dL_of_64 (by decide) (fun c_1 => ?_) (fun c_1 => absurd c_1 (by decide))
  refine lv_iload_n hx hb dL_of_76 rfl (lv_at hl 1 rfl) ?_
  refine lv_iconst (v := 5) hx hb dL_of_77 (by decide) ?_
  refine lv_icmp_ne (tgt := 98) hx hb dL_of_78 (by decide) (fun c_1 => ?_) (fun c_1 => absurd c_1 (by decide))
  refine lv_iload_n hx hb dL_of_98 rfl (lv_at hl 1 rfl) ?_
  refine lv_bipush (v := 6) hx hb dL_of_99 (by decide) ?_
  refine lv_icmp_ne (tgt := 121) hx hb dL_of_101 (by decide) (fun c_1 => absurd c_1 (by decide)) (fun c_1 => ?_)
  refine lv_aload_n hx hb dL_of_104 rfl (lv_at hl 0 rfl) ?_
  refine lv_iload_n hx hb dL_of_105 rfl (lv_at hl 2 rfl) ?_
  refine lv_iload_n hx hb dL_of_106 rfl (lv_at hl 3 rfl) ?_
  obtain ⟨hE, hT, hZ, hC⟩ := C.2.1
  refine q_thH (q_thV (rest := []) hx hb hml hown hE hT (hZ.narrow (fun _ h => h.elim)) (c_X5_isCheated_T0 l hfl D cI cZ cL ad S x1 x2 hJ.i0 hth) ck_X5_isCheated v_557 hw.1 0 rfl rfl hl.1 rfl ⟨Nat.le_of_ble_eq_true rfl, Nat.le_of_ble_eq_true rfl⟩ (Nat.le_of_ble_eq_true rfl) dL_of_107 ⟨Nat.le_of_ble_eq_true rfl, Nat.le_of_ble_eq_true rfl⟩) hown [] _ _ htb (fun z hz => nomatch hz) (by decide +kernel) (by decide +kernel) (hE.1 _ v_335 args) (hE.1 _ w_442 args) (fun q H hlt hS => ?_)
  refine W.eq (g2 := F0 m 206 ls [.ref q]) rfl ?_
  refine lv_astore (lv' := [(4, .ref q), (0, .ref (ad 0)), (1, .int 6), (2, .int x1), (3, .int x2)]) hx hb dL_of_206 hl (by decide) rfl (fun ls hl => ?_)
  refine lv_sipush (v := (-1201)) hx hb dL_of_208 (by decide) ?_
  exact g_ret (mc := 1) hx hb hr hlk (hw.grow hS) rfl ⟨rfl, hlt⟩ ⟨Nat.le_of_ble_eq_true rfl, Nat.le_of_ble_eq_true rfl⟩ dL_of_211
set_option maxHeartbeats 4000000 in
set_option maxRecDepth 100000 in
theorem h_of_7I {l : Launch} (hfl : l.flags = flags0) {D : va_G} {cI cZ cL : ClassId} {ad aa : Nat → Nat} {fa S : Mem} {m0 m1 : Nat} (hD : va_D (aC ad cI) (wC ad cI mem0)) (hA : ∀ q, aW (wA aa cI mem0) q → ¬ aC ad cI q) (hJ : JS S m0 m1) (x1 x2 : Int32) (hth : (oVoid S x1 x2).1 = some "java/lang/IndexOutOfBoundsException") :
    GM l D cI cZ cL ad aa fa S yL_of [Cond.codeWith yL_of cL_of 5 (some .int) [(0, 205, 206, 50), (0, 205, 212, 54), (0, 205, 218, 96)]] 8 1 [.ref (ad 0), .int 7, .int x1, .int x2] m0 m1 (pC (-1201)) := by
  refine GM.ofW (by decide) (Nat.le_of_ble_eq_true rfl) hfl hD hA hJ ?_
  intro p e s m args below meth c ls hx hb hr hlk hown htb C hw hl
  have hl : lv_has ls 5 [(0, .ref (ad 0)), (1, .int 7), (2, .int x1), (3, .int x2)] := hl
  have hml := C.1.2.2.1
  refine lv_iload_n hx hb dL_of_0 rfl (lv_at hl 1 rfl) ?_
  refine lv_if_ne (tgt := 13) hx hb dL_of_1 (by decide) (fun c_1 => ?_) (fun c_1 => absurd c_1 (by decide))
  refine lv_iload_n hx hb dL_of_13 rfl (lv_at hl 1 rfl) ?_
  refine lv_iconst (v := 1) hx hb dL_of_14 (by decide) ?_
  refine lv_icmp_ne (tgt := 27) hx hb dL_of_15 (by decide) (fun c_1 => ?_) (fun c_1 => absurd c_1 (by decide))
  refine lv_iload_n hx hb dL_of_27 rfl (lv_at hl 1 rfl) ?_
  refine lv_iconst (v := 2) hx hb dL_of_28 (by decide) ?_
  refine lv_icmp_ne (tgt := 41) hx hb dL_of_29 (by decide) (fun c_1 => ?_) (fun c_1 => absurd c_1 (by decide))
  refine lv_iload_n hx hb dL_of_41 rfl (lv_at hl 1 rfl) ?_
  refine lv_iconst (v := 3) hx hb dL_of_42 (by decide) ?_
  refine lv_icmp_ne (tgt := 62) hx hb dL_of_43 (by decide) (fun c_1 => ?_) (fun c_1 => absurd c_1 (by decide))
  refine lv_iload_n hx hb dL_of_62 rfl (lv_at hl 1 rfl) ?_
  refine lv_iconst (v := 4) hx hb dL_of_63 (by decide) ?_
  refine lv_icmp_ne (tgt := 76) hx hb dL_of_64 (by decide) (fun c_1 => ?_) (fun c_1 => absurd c_1 (by decide))
  refine lv_iload_n hx hb dL_of_76 rfl (lv_at hl 1 rfl) ?_
  refine lv_iconst (v := 5) hx hb dL_of_77 (by decide) ?_
  refine lv_icmp_ne (tgt := 98) hx hb dL_of_78 (by decide) (fun c_1 => ?_) (fun c_1 => absurd c_1 (by decide))
  refine lv_iload_n hx hb dL_of_98 rfl (lv_at hl 1 rfl) ?_
  refine lv_bipush (v := 6) hx hb dL_of_99 (by decide) ?_
  refine lv_icmp_ne (tgt := 121) hx hb dL_of_101 (by decide) (fun c_1 => ?_) (fun c_1 => absurd c_1 (by decide))
  refine lv_iload_n hx hb dL_of_121 rfl (lv_at hl 1 rfl) ?_
  refine lv_bipush (v := 7) hx hb dL_of_122 (by decide) ?_
  refine lv_icmp_ne (tgt := 144) hx hb dL_of_124 (by decide) (fun c_1 => absurd c_1 (by decide)) (fun c_1 => ?_)
  refine lv_aload_n hx hb dL_of_127 rfl (lv_at hl 0 rfl) ?_
  refine lv_iload_n hx hb dL_of_128 rfl (lv_at hl 2 rfl) ?_
  refine lv_iload_n hx hb dL_of_129 rfl (lv_at hl 3 rfl) ?_
  obtain ⟨hE, hT, hZ, hC⟩ := C.2.1
  refine q_thH (q_thV (rest := []) hx hb hml hown hE hT (hZ.narrow (fun _ h => h.elim)) (c_X5_isVoid_T0 l hfl D cI cZ cL ad S x1 x2 hJ.i0 hth) ck_X5_isVoid v_565 hw.1 0 rfl rfl hl.1 rfl ⟨Nat.le_of_ble_eq_true rfl, Nat.le_of_ble_eq_true rfl⟩ (Nat.le_of_ble_eq_true rfl) dL_of_130 ⟨Nat.le_of_ble_eq_true rfl, Nat.le_of_ble_eq_true rfl⟩) hown [] _ _ htb (fun z hz => nomatch hz) (by decide +kernel) (by decide +kernel) (hE.1 _ v_335 args) (hE.1 _ w_442 args) (fun q H hlt hS => ?_)
  refine W.eq (g2 := F0 m 206 ls [.ref q]) rfl ?_
  refine lv_astore (lv' := [(4, .ref q), (0, .ref (ad 0)), (1, .int 7), (2, .int x1), (3, .int x2)]) hx hb dL_of_206 hl (by decide) rfl (fun ls hl => ?_)
  refine lv_sipush (v := (-1201)) hx hb dL_of_208 (by decide) ?_
  exact g_ret (mc := 1) hx hb hr hlk (hw.grow hS) rfl ⟨rfl, hlt⟩ ⟨Nat.le_of_ble_eq_true rfl, Nat.le_of_ble_eq_true rfl⟩ dL_of_211
set_option maxHeartbeats 4000000 in
set_option maxRecDepth 100000 in
theorem h_of_8I {l : Launch} (hfl : l.flags = flags0) {D : va_G} {cI cZ cL : ClassId} {ad aa : Nat → Nat} {fa S : Mem} {m0 m1 : Nat} (hD : va_D (aC ad cI) (wC ad cI mem0)) (hA : ∀ q, aW (wA aa cI mem0) q → ¬ aC ad cI q) (hJ : JS S m0 m1) (x1 x2 : Int32) (hth : (oHang S x1).1 = some "java/lang/IndexOutOfBoundsException") :
    GM l D cI cZ cL ad aa fa S yL_of [Cond.codeWith yL_of cL_of 5 (some .int) [(0, 205, 206, 50), (0, 205, 212, 54), (0, 205, 218, 96)]] 8 1 [.ref (ad 0), .int 8, .int x1, .int x2] m0 m1 (pC (-1201)) := by
  refine GM.ofW (by decide) (Nat.le_of_ble_eq_true rfl) hfl hD hA hJ ?_
  intro p e s m args below meth c ls hx hb hr hlk hown htb C hw hl
  have hl : lv_has ls 5 [(0, .ref (ad 0)), (1, .int 8), (2, .int x1), (3, .int x2)] := hl
  have hml := C.1.2.2.1
  refine lv_iload_n hx hb dL_of_0 rfl (lv_at hl 1 rfl) ?_
  refine lv_if_ne (tgt := 13) hx hb dL_of_1 (by decide) (fun c_1 => ?_) (fun c_1 => absurd c_1 (by decide))
  refine lv_iload_n hx hb dL_of_13 rfl (lv_at hl 1 rfl) ?_
  refine lv_iconst (v := 1) hx hb dL_of_14 (by decide) ?_
  refine lv_icmp_ne (tgt := 27) hx hb dL_of_15 (by decide) (fun c_1 => ?_) (fun c_1 => absurd c_1 (by decide))
  refine lv_iload_n hx hb dL_of_27 rfl (lv_at hl 1 rfl) ?_
  refine lv_iconst (v := 2) hx hb dL_of_28 (by decide) ?_
  refine lv_icmp_ne (tgt := 41) hx hb dL_of_29 (by decide) (fun c_1 => ?_) (fun c_1 => absurd c_1 (by decide))
  refine lv_iload_n hx hb dL_of_41 rfl (lv_at hl 1 rfl) ?_
  refine lv_iconst (v := 3) hx hb dL_of_42 (by decide) ?_
  refine lv_icmp_ne (tgt := 62) hx hb dL_of_43 (by decide) (fun c_1 => ?_) (fun c_1 => absurd c_1 (by decide))
  refine lv_iload_n hx hb dL_of_62 rfl (lv_at hl 1 rfl) ?_
  refine lv_iconst (v := 4) hx hb dL_of_63 (by decide) ?_
  refine lv_icmp_ne (tgt := 76) hx hb dL_of_64 (by decide) (fun c_1 => ?_) (fun c_1 => absurd c_1 (by decide))
  refine lv_iload_n hx hb dL_of_76 rfl (lv_at hl 1 rfl) ?_
  refine lv_iconst (v := 5) hx hb dL_of_77 (by decide) ?_
  refine lv_icmp_ne (tgt := 98) hx hb dL_of_78 (by decide) (fun c_1 => ?_) (fun c_1 => absurd c_1 (by decide))
  refine lv_iload_n hx hb dL_of_98 rfl (lv_at hl 1 rfl) ?_
  refine lv_bipush (v := 6) hx hb dL_of_99 (by decide) ?_
  refine lv_icmp_ne (tgt := 121) hx hb dL_of_101 (by decide) (fun c_1 => ?_) (fun c_1 => absurd c_1 (by decide))
  refine lv_iload_n hx hb dL_of_121 rfl (lv_at hl 1 rfl) ?_
  refine lv_bipush (v := 7) hx hb dL_of_122 (by decide) ?_
  refine lv_icmp_ne (tgt := 144) hx hb dL_of_124 (by decide) (fun c_1 => ?_) (fun c_1 => absurd c_1 (by decide))
  refine lv_iload_n hx hb dL_of_144 rfl (lv_at hl 1 rfl) ?_
  refine lv_bipush (v := 8) hx hb dL_of_145 (by decide) ?_
  refine lv_icmp_ne (tgt := 158) hx hb dL_of_147 (by decide) (fun c_1 => absurd c_1 (by decide)) (fun c_1 => ?_)
  refine lv_aload_n hx hb dL_of_150 rfl (lv_at hl 0 rfl) ?_
  refine lv_iload_n hx hb dL_of_151 rfl (lv_at hl 2 rfl) ?_
  obtain ⟨hE, hT, hZ, hC⟩ := C.2.1
  refine q_thH (q_thV (rest := []) hx hb hml hown hE hT (hZ.narrow (fun _ h => h.elim)) (c_X5_hanging_T0 l hfl D cI cZ cL ad S x1 hJ.i0 hth) ck_X5_hanging v_578 hw.1 0 rfl rfl hl.1 rfl ⟨Nat.le_of_ble_eq_true rfl, Nat.le_of_ble_eq_true rfl⟩ (Nat.le_of_ble_eq_true rfl) dL_of_152 ⟨Nat.le_of_ble_eq_true rfl, Nat.le_of_ble_eq_true rfl⟩) hown [] _ _ htb (fun z hz => nomatch hz) (by decide +kernel) (by decide +kernel) (hE.1 _ v_335 args) (hE.1 _ w_442 args) (fun q H hlt hS => ?_)
  refine W.eq (g2 := F0 m 206 ls [.ref q]) rfl ?_
  refine lv_astore (lv' := [(4, .ref q), (0, .ref (ad 0)), (1, .int 8), (2, .int x1), (3, .int x2)]) hx hb dL_of_206 hl (by decide) rfl (fun ls hl => ?_)
  refine lv_sipush (v := (-1201)) hx hb dL_of_208 (by decide) ?_
  exact g_ret (mc := 1) hx hb hr hlk (hw.grow hS) rfl ⟨rfl, hlt⟩ ⟨Nat.le_of_ble_eq_true rfl, Nat.le_of_ble_eq_true rfl⟩ dL_of_211
set_option maxHeartbeats 4000000 in
set_option maxRecDepth 100000 in
theorem h_of_9I {l : Launch} (hfl : l.flags = flags0) {D : va_G} {cI cZ cL : ClassId} {ad aa : Nat → Nat} {fa S : Mem} {m0 m1 : Nat} (hD : va_D (aC ad cI) (wC ad cI mem0)) (hA : ∀ q, aW (wA aa cI mem0) q → ¬ aC ad cI q) (hJ : JS S m0 m1) (x1 x2 : Int32) (hth : (oScore S x1).1 = some "java/lang/IndexOutOfBoundsException") :
    GM l D cI cZ cL ad aa fa S yL_of [Cond.codeWith yL_of cL_of 5 (some .int) [(0, 205, 206, 50), (0, 205, 212, 54), (0, 205, 218, 96)]] 8 1 [.ref (ad 0), .int 9, .int x1, .int x2] m0 m1 (pC (-1201)) := by
  refine GM.ofW (by decide) (Nat.le_of_ble_eq_true rfl) hfl hD hA hJ ?_
  intro p e s m args below meth c ls hx hb hr hlk hown htb C hw hl
  have hl : lv_has ls 5 [(0, .ref (ad 0)), (1, .int 9), (2, .int x1), (3, .int x2)] := hl
  have hml := C.1.2.2.1
  refine lv_iload_n hx hb dL_of_0 rfl (lv_at hl 1 rfl) ?_
  refine lv_if_ne (tgt := 13) hx hb dL_of_1 (by decide) (fun c_1 => ?_) (fun c_1 => absurd c_1 (by decide))
  refine lv_iload_n hx hb dL_of_13 rfl (lv_at hl 1 rfl) ?_
  refine lv_iconst (v := 1) hx hb dL_of_14 (by decide) ?_
  refine lv_icmp_ne (tgt := 27) hx hb dL_of_15 (by decide) (fun c_1 => ?_) (fun c_1 => absurd c_1 (by decide))
  refine lv_iload_n hx hb dL_of_27 rfl (lv_at hl 1 rfl) ?_
  refine lv_iconst (v := 2) hx hb dL_of_28 (by decide) ?_
  refine lv_icmp_ne (tgt := 41) hx hb dL_of_29 (by decide) (fun c_1 => ?_) (fun c_1 => absurd c_1 (by decide))
  refine lv_iload_n hx hb dL_of_41 rfl (lv_at hl 1 rfl) ?_
  refine lv_iconst (v := 3) hx hb dL_of_42 (by decide) ?_
  refine lv_icmp_ne (tgt := 62) hx hb dL_of_43 (by decide) (fun c_1 => ?_) (fun c_1 => absurd c_1 (by decide))
  refine lv_iload_n hx hb dL_of_62 rfl (lv_at hl 1 rfl) ?_
  refine lv_iconst (v := 4) hx hb dL_of_63 (by decide) ?_
  refine lv_icmp_ne (tgt := 76) hx hb dL_of_64 (by decide) (fun c_1 => ?_) (fun c_1 => absurd c_1 (by decide))
  refine lv_iload_n hx hb dL_of_76 rfl (lv_at hl 1 rfl) ?_
  refine lv_iconst (v := 5) hx hb dL_of_77 (by decide) ?_
  refine lv_icmp_ne (tgt := 98) hx hb dL_of_78 (by decide) (fun c_1 => ?_) (fun c_1 => absurd c_1 (by decide))
  refine lv_iload_n hx hb dL_of_98 rfl (lv_at hl 1 rfl) ?_
  refine lv_bipush (v := 6) hx hb dL_of_99 (by decide) ?_
  refine lv_icmp_ne (tgt := 121) hx hb dL_of_101 (by decide) (fun c_1 => ?_) (fun c_1 => absurd c_1 (by decide))
  refine lv_iload_n hx hb dL_of_121 rfl (lv_at hl 1 rfl) ?_
  refine lv_bipush (v := 7) hx hb dL_of_122 (by decide) ?_
  refine lv_icmp_ne (tgt := 144) hx hb dL_of_124 (by decide) (fun c_1 => ?_) (fun c_1 => absurd c_1 (by decide))
  refine lv_iload_n hx hb dL_of_144 rfl (lv_at hl 1 rfl) ?_
  refine lv_bipush (v := 8) hx hb dL_of_145 (by decide) ?_
  refine lv_icmp_ne (tgt := 158) hx hb dL_of_147 (by decide) (fun c_1 => ?_) (fun c_1 => absurd c_1 (by decide))
  refine lv_iload_n hx hb dL_of_158 rfl (lv_at hl 1 rfl) ?_
  refine lv_bipush (v := 9) hx hb dL_of_159 (by decide) ?_
  refine lv_icmp_ne (tgt := 172) hx hb dL_of_161 (by decide) (fun c_1 => absurd c_1 (by decide)) (fun c_1 => ?_)
  refine lv_aload_n hx hb dL_of_164 rfl (lv_at hl 0 rfl) ?_
  refine lv_iload_n hx hb dL_of_165 rfl (lv_at hl 2 rfl) ?_
  obtain ⟨hE, hT, hZ, hC⟩ := C.2.1
  refine q_thH (q_thV (rest := []) hx hb hml hown hE hT (hZ.narrow (fun _ h => h.elim)) (c_X5_score_T0 l hfl D cI cZ cL ad S x1 hJ.i0 hth) ck_X5_score v_587 hw.1 0 rfl rfl hl.1 rfl ⟨Nat.le_of_ble_eq_true rfl, Nat.le_of_ble_eq_true rfl⟩ (Nat.le_of_ble_eq_true rfl) dL_of_166 ⟨Nat.le_of_ble_eq_true rfl, Nat.le_of_ble_eq_true rfl⟩) hown [] _ _ htb (fun z hz => nomatch hz) (by decide +kernel) (by decide +kernel) (hE.1 _ v_335 args) (hE.1 _ w_442 args) (fun q H hlt hS => ?_)
  refine W.eq (g2 := F0 m 206 ls [.ref q]) rfl ?_
  refine lv_astore (lv' := [(4, .ref q), (0, .ref (ad 0)), (1, .int 9), (2, .int x1), (3, .int x2)]) hx hb dL_of_206 hl (by decide) rfl (fun ls hl => ?_)
  refine lv_sipush (v := (-1201)) hx hb dL_of_208 (by decide) ?_
  exact g_ret (mc := 1) hx hb hr hlk (hw.grow hS) rfl ⟨rfl, hlt⟩ ⟨Nat.le_of_ble_eq_true rfl, Nat.le_of_ble_eq_true rfl⟩ dL_of_211
set_option maxHeartbeats 4000000 in
set_option maxRecDepth 100000 in
theorem h_of_10I {l : Launch} (hfl : l.flags = flags0) {D : va_G} {cI cZ cL : ClassId} {ad aa : Nat → Nat} {fa S : Mem} {m0 m1 : Nat} (hD : va_D (aC ad cI) (wC ad cI mem0)) (hA : ∀ q, aW (wA aa cI mem0) q → ¬ aC ad cI q) (hJ : JS S m0 m1) (x1 x2 : Int32) (hth : (oAnew S x1).1 = some "java/lang/IndexOutOfBoundsException") :
    GM l D cI cZ cL ad aa fa S yL_of [Cond.codeWith yL_of cL_of 5 (some .int) [(0, 205, 206, 50), (0, 205, 212, 54), (0, 205, 218, 96)]] 8 1 [.ref (ad 0), .int 10, .int x1, .int x2] m0 m1 (pC (-1201)) := by
  refine GM.ofW (by decide) (Nat.le_of_ble_eq_true rfl) hfl hD hA hJ ?_
  intro p e s m args below meth c ls hx hb hr hlk hown htb C hw hl
  have hl : lv_has ls 5 [(0, .ref (ad 0)), (1, .int 10), (2, .int x1), (3, .int x2)] := hl
  have hml := C.1.2.2.1
  refine lv_iload_n hx hb dL_of_0 rfl (lv_at hl 1 rfl) ?_
  refine lv_if_ne (tgt := 13) hx hb dL_of_1 (by decide) (fun c_1 => ?_) (fun c_1 => absurd c_1 (by decide))
  refine lv_iload_n hx hb dL_of_13 rfl (lv_at hl 1 rfl) ?_
  refine lv_iconst (v := 1) hx hb dL_of_14 (by decide) ?_
  refine lv_icmp_ne (tgt := 27) hx hb dL_of_15 (by decide) (fun c_1 => ?_) (fun c_1 => absurd c_1 (by decide))
  refine lv_iload_n hx hb dL_of_27 rfl (lv_at hl 1 rfl) ?_
  refine lv_iconst (v := 2) hx hb dL_of_28 (by decide) ?_
  refine lv_icmp_ne (tgt := 41) hx hb dL_of_29 (by decide) (fun c_1 => ?_) (fun c_1 => absurd c_1 (by decide))
  refine lv_iload_n hx hb dL_of_41 rfl (lv_at hl 1 rfl) ?_
  refine lv_iconst (v := 3) hx hb dL_of_42 (by decide) ?_
  refine lv_icmp_ne (tgt := 62) hx hb dL_of_43 (by decide) (fun c_1 => ?_) (fun c_1 => absurd c_1 (by decide))
  refine lv_iload_n hx hb dL_of_62 rfl (lv_at hl 1 rfl) ?_
  refine lv_iconst (v := 4) hx hb dL_of_63 (by decide) ?_
  refine lv_icmp_ne (tgt := 76) hx hb dL_of_64 (by decide) (fun c_1 => ?_) (fun c_1 => absurd c_1 (by decide))
  refine lv_iload_n hx hb dL_of_76 rfl (lv_at hl 1 rfl) ?_
  refine lv_iconst (v := 5) hx hb dL_of_77 (by decide) ?_
  refine lv_icmp_ne (tgt := 98) hx hb dL_of_78 (by decide) (fun c_1 => ?_) (fun c_1 => absurd c_1 (by decide))
  refine lv_iload_n hx hb dL_of_98 rfl (lv_at hl 1 rfl) ?_
  refine lv_bipush (v := 6) hx hb dL_of_99 (by decide) ?_
  refine lv_icmp_ne (tgt := 121) hx hb dL_of_101 (by decide) (fun c_1 => ?_) (fun c_1 => absurd c_1 (by decide))
  refine lv_iload_n hx hb dL_of_121 rfl (lv_at hl 1 rfl) ?_
  refine lv_bipush (v := 7) hx hb dL_of_122 (by decide) ?_
  refine lv_icmp_ne (tgt := 144) hx hb dL_of_124 (by decide) (fun c_1 => ?_) (fun c_1 => absurd c_1 (by decide))
  refine lv_iload_n hx hb dL_of_144 rfl (lv_at hl 1 rfl) ?_
  refine lv_bipush (v := 8) hx hb dL_of_145 (by decide) ?_
  refine lv_icmp_ne (tgt := 158) hx hb dL_of_147 (by decide) (fun c_1 => ?_) (fun c_1 => absurd c_1 (by decide))
  refine lv_iload_n hx hb dL_of_158 rfl (lv_at hl 1 rfl) ?_
  refine lv_bipush (v := 9) hx hb dL_of_159 (by decide) ?_
  refine lv_icmp_ne (tgt := 172) hx hb dL_of_161 (by decide) (fun c_1 => ?_) (fun c_1 => absurd c_1 (by decide))
  refine lv_iload_n hx hb dL_of_172 rfl (lv_at hl 1 rfl) ?_
  refine lv_bipush (v := 10) hx hb dL_of_173 (by decide) ?_
  refine lv_icmp_ne (tgt := 186) hx hb dL_of_175 (by decide) (fun c_1 => absurd c_1 (by decide)) (fun c_1 => ?_)
  refine lv_aload_n hx hb dL_of_178 rfl (lv_at hl 0 rfl) ?_
  refine lv_iload_n hx hb dL_of_179 rfl (lv_at hl 2 rfl) ?_
  obtain ⟨hE, hT, hZ, hC⟩ := C.2.1
  refine q_thH (q_thV (rest := []) hx hb hml hown hE hT (hZ.narrow (fun _ h => h.elim)) (c_X5_scoreAnew_T0 l hfl D cI cZ cL ad S x1 hJ.i0 hth) ck_X5_scoreAnew v_599 hw.1 0 rfl rfl hl.1 rfl ⟨Nat.le_of_ble_eq_true rfl, Nat.le_of_ble_eq_true rfl⟩ (Nat.le_of_ble_eq_true rfl) dL_of_180 ⟨Nat.le_of_ble_eq_true rfl, Nat.le_of_ble_eq_true rfl⟩) hown [] _ _ htb (fun z hz => nomatch hz) (by decide +kernel) (by decide +kernel) (hE.1 _ v_335 args) (hE.1 _ w_442 args) (fun q H hlt hS => ?_)
  refine W.eq (g2 := F0 m 206 ls [.ref q]) rfl ?_
  refine lv_astore (lv' := [(4, .ref q), (0, .ref (ad 0)), (1, .int 10), (2, .int x1), (3, .int x2)]) hx hb dL_of_206 hl (by decide) rfl (fun ls hl => ?_)
  refine lv_sipush (v := (-1201)) hx hb dL_of_208 (by decide) ?_
  exact g_ret (mc := 1) hx hb hr hlk (hw.grow hS) rfl ⟨rfl, hlt⟩ ⟨Nat.le_of_ble_eq_true rfl, Nat.le_of_ble_eq_true rfl⟩ dL_of_211
set_option maxHeartbeats 4000000 in
set_option maxRecDepth 100000 in
theorem h_of_11I {l : Launch} (hfl : l.flags = flags0) {D : va_G} {cI cZ cL : ClassId} {ad aa : Nat → Nat} {fa S : Mem} {m0 m1 : Nat} (hD : va_D (aC ad cI) (wC ad cI mem0)) (hA : ∀ q, aW (wA aa cI mem0) q → ¬ aC ad cI q) (hJ : JS S m0 m1) (x1 x2 : Int32) (hth : (oPlace S x1).1 = some "java/lang/IndexOutOfBoundsException") :
    GM l D cI cZ cL ad aa fa S yL_of [Cond.codeWith yL_of cL_of 5 (some .int) [(0, 205, 206, 50), (0, 205, 212, 54), (0, 205, 218, 96)]] 8 1 [.ref (ad 0), .int 11, .int x1, .int x2] m0 m1 (pC (-1201)) := by
  refine GM.ofW (by decide) (Nat.le_of_ble_eq_true rfl) hfl hD hA hJ ?_
  intro p e s m args below meth c ls hx hb hr hlk hown htb C hw hl
  have hl : lv_has ls 5 [(0, .ref (ad 0)), (1, .int 11), (2, .int x1), (3, .int x2)] := hl
  have hml := C.1.2.2.1
  refine lv_iload_n hx hb dL_of_0 rfl (lv_at hl 1 rfl) ?_
  refine lv_if_ne (tgt := 13) hx hb dL_of_1 (by decide) (fun c_1 => ?_) (fun c_1 => absurd c_1 (by decide))
  refine lv_iload_n hx hb dL_of_13 rfl (lv_at hl 1 rfl) ?_
  refine lv_iconst (v := 1) hx hb dL_of_14 (by decide) ?_
  refine lv_icmp_ne (tgt := 27) hx hb dL_of_15 (by decide) (fun c_1 => ?_) (fun c_1 => absurd c_1 (by decide))
  refine lv_iload_n hx hb dL_of_27 rfl (lv_at hl 1 rfl) ?_
  refine lv_iconst (v := 2) hx hb dL_of_28 (by decide) ?_
  refine lv_icmp_ne (tgt := 41) hx hb dL_of_29 (by decide) (fun c_1 => ?_) (fun c_1 => absurd c_1 (by decide))
  refine lv_iload_n hx hb dL_of_41 rfl (lv_at hl 1 rfl) ?_
  refine lv_iconst (v := 3) hx hb dL_of_42 (by decide) ?_
  refine lv_icmp_ne (tgt := 62) hx hb dL_of_43 (by decide) (fun c_1 => ?_) (fun c_1 => absurd c_1 (by decide))
  refine lv_iload_n hx hb dL_of_62 rfl (lv_at hl 1 rfl) ?_
  refine lv_iconst (v := 4) hx hb dL_of_63 (by decide) ?_
  refine lv_icmp_ne (tgt := 76) hx hb dL_of_64 (by decide) (fun c_1 => ?_) (fun c_1 => absurd c_1 (by decide))
  refine lv_iload_n hx hb dL_of_76 rfl (lv_at hl 1 rfl) ?_
  refine lv_iconst (v := 5) hx hb dL_of_77 (by decide) ?_
  refine lv_icmp_ne (tgt := 98) hx hb dL_of_78 (by decide) (fun c_1 => ?_) (fun c_1 => absurd c_1 (by decide))
  refine lv_iload_n hx hb dL_of_98 rfl (lv_at hl 1 rfl) ?_
  refine lv_bipush (v := 6) hx hb dL_of_99 (by decide) ?_
  refine lv_icmp_ne (tgt := 121) hx hb dL_of_101 (by decide) (fun c_1 => ?_) (fun c_1 => absurd c_1 (by decide))
  refine lv_iload_n hx hb dL_of_121 rfl (lv_at hl 1 rfl) ?_
  refine lv_bipush (v := 7) hx hb dL_of_122 (by decide) ?_
  refine lv_icmp_ne (tgt := 144) hx hb dL_of_124 (by decide) (fun c_1 => ?_) (fun c_1 => absurd c_1 (by decide))
  refine lv_iload_n hx hb dL_of_144 rfl (lv_at hl 1 rfl) ?_
  refine lv_bipush (v := 8) hx hb dL_of_145 (by decide) ?_
  refine lv_icmp_ne (tgt := 158) hx hb dL_of_147 (by decide) (fun c_1 => ?_) (fun c_1 => absurd c_1 (by decide))
  refine lv_iload_n hx hb dL_of_158 rfl (lv_at hl 1 rfl) ?_
  refine lv_bipush (v := 9) hx hb dL_of_159 (by decide) ?_
  refine lv_icmp_ne (tgt := 172) hx hb dL_of_161 (by decide) (fun c_1 => ?_) (fun c_1 => absurd c_1 (by decide))
  refine lv_iload_n hx hb dL_of_172 rfl (lv_at hl 1 rfl) ?_
  refine lv_bipush (v := 10) hx hb dL_of_173 (by decide) ?_
  refine lv_icmp_ne (tgt := 186) hx hb dL_of_175 (by decide) (fun c_1 => ?_) (fun c_1 => absurd c_1 (by decide))
  refine lv_iload_n hx hb dL_of_186 rfl (lv_at hl 1 rfl) ?_
  refine lv_bipush (v := 11) hx hb dL_of_187 (by decide) ?_
  refine lv_icmp_ne (tgt := 200) hx hb dL_of_189 (by decide) (fun c_1 => absurd c_1 (by decide)) (fun c_1 => ?_)
  refine lv_aload_n hx hb dL_of_192 rfl (lv_at hl 0 rfl) ?_
  refine lv_iload_n hx hb dL_of_193 rfl (lv_at hl 2 rfl) ?_
  obtain ⟨hE, hT, hZ, hC⟩ := C.2.1
  refine q_thH (q_thV (rest := []) hx hb hml hown hE hT (hZ.narrow (fun _ h => h.elim)) (c_X5_place_T0 l hfl D cI cZ cL ad S x1 hJ.i0 hth) ck_X5_place v_640 hw.1 0 rfl rfl hl.1 rfl ⟨Nat.le_of_ble_eq_true rfl, Nat.le_of_ble_eq_true rfl⟩ (Nat.le_of_ble_eq_true rfl) dL_of_194 ⟨Nat.le_of_ble_eq_true rfl, Nat.le_of_ble_eq_true rfl⟩) hown [] _ _ htb (fun z hz => nomatch hz) (by decide +kernel) (by decide +kernel) (hE.1 _ v_335 args) (hE.1 _ w_442 args) (fun q H hlt hS => ?_)
  refine W.eq (g2 := F0 m 206 ls [.ref q]) rfl ?_
  refine lv_astore (lv' := [(4, .ref q), (0, .ref (ad 0)), (1, .int 11), (2, .int x1), (3, .int x2)]) hx hb dL_of_206 hl (by decide) rfl (fun ls hl => ?_)
  refine lv_sipush (v := (-1201)) hx hb dL_of_208 (by decide) ?_
  exact g_ret (mc := 1) hx hb hr hlk (hw.grow hS) rfl ⟨rfl, hlt⟩ ⟨Nat.le_of_ble_eq_true rfl, Nat.le_of_ble_eq_true rfl⟩ dL_of_211
set_option maxHeartbeats 4000000 in
set_option maxRecDepth 100000 in
theorem h_of_12I {l : Launch} (hfl : l.flags = flags0) {D : va_G} {cI cZ cL : ClassId} {ad aa : Nat → Nat} {fa S : Mem} {m0 m1 : Nat} (hD : va_D (aC ad cI) (wC ad cI mem0)) (hA : ∀ q, aW (wA aa cI mem0) q → ¬ aC ad cI q) (hJ : JS S m0 m1) (x1 x2 : Int32) (hth : (oPrize S x1).1 = some "java/lang/IndexOutOfBoundsException") :
    GM l D cI cZ cL ad aa fa S yL_of [Cond.codeWith yL_of cL_of 5 (some .int) [(0, 205, 206, 50), (0, 205, 212, 54), (0, 205, 218, 96)]] 8 1 [.ref (ad 0), .int 12, .int x1, .int x2] m0 m1 (pC (-1201)) := by
  refine GM.ofW (by decide) (Nat.le_of_ble_eq_true rfl) hfl hD hA hJ ?_
  intro p e s m args below meth c ls hx hb hr hlk hown htb C hw hl
  have hl : lv_has ls 5 [(0, .ref (ad 0)), (1, .int 12), (2, .int x1), (3, .int x2)] := hl
  have hml := C.1.2.2.1
  refine lv_iload_n hx hb dL_of_0 rfl (lv_at hl 1 rfl) ?_
  refine lv_if_ne (tgt := 13) hx hb dL_of_1 (by decide) (fun c_1 => ?_) (fun c_1 => absurd c_1 (by decide))
  refine lv_iload_n hx hb dL_of_13 rfl (lv_at hl 1 rfl) ?_
  refine lv_iconst (v := 1) hx hb dL_of_14 (by decide) ?_
  refine lv_icmp_ne (tgt := 27) hx hb dL_of_15 (by decide) (fun c_1 => ?_) (fun c_1 => absurd c_1 (by decide))
  refine lv_iload_n hx hb dL_of_27 rfl (lv_at hl 1 rfl) ?_
  refine lv_iconst (v := 2) hx hb dL_of_28 (by decide) ?_
  refine lv_icmp_ne (tgt := 41) hx hb dL_of_29 (by decide) (fun c_1 => ?_) (fun c_1 => absurd c_1 (by decide))
  refine lv_iload_n hx hb dL_of_41 rfl (lv_at hl 1 rfl) ?_
  refine lv_iconst (v := 3) hx hb dL_of_42 (by decide) ?_
  refine lv_icmp_ne (tgt := 62) hx hb dL_of_43 (by decide) (fun c_1 => ?_) (fun c_1 => absurd c_1 (by decide))
  refine lv_iload_n hx hb dL_of_62 rfl (lv_at hl 1 rfl) ?_
  refine lv_iconst (v := 4) hx hb dL_of_63 (by decide) ?_
  refine lv_icmp_ne (tgt := 76) hx hb dL_of_64 (by decide) (fun c_1 => ?_) (fun c_1 => absurd c_1 (by decide))
  refine lv_iload_n hx hb dL_of_76 rfl (lv_at hl 1 rfl) ?_
  refine lv_iconst (v := 5) hx hb dL_of_77 (by decide) ?_
  refine lv_icmp_ne (tgt := 98) hx hb dL_of_78 (by decide) (fun c_1 => ?_) (fun c_1 => absurd c_1 (by decide))
  refine lv_iload_n hx hb dL_of_98 rfl (lv_at hl 1 rfl) ?_
  refine lv_bipush (v := 6) hx hb dL_of_99 (by decide) ?_
  refine lv_icmp_ne (tgt := 121) hx hb dL_of_101 (by decide) (fun c_1 => ?_) (fun c_1 => absurd c_1 (by decide))
  refine lv_iload_n hx hb dL_of_121 rfl (lv_at hl 1 rfl) ?_
  refine lv_bipush (v := 7) hx hb dL_of_122 (by decide) ?_
  refine lv_icmp_ne (tgt := 144) hx hb dL_of_124 (by decide) (fun c_1 => ?_) (fun c_1 => absurd c_1 (by decide))
  refine lv_iload_n hx hb dL_of_144 rfl (lv_at hl 1 rfl) ?_
  refine lv_bipush (v := 8) hx hb dL_of_145 (by decide) ?_
  refine lv_icmp_ne (tgt := 158) hx hb dL_of_147 (by decide) (fun c_1 => ?_) (fun c_1 => absurd c_1 (by decide))
  refine lv_iload_n hx hb dL_of_158 rfl (lv_at hl 1 rfl) ?_
  refine lv_bipush (v := 9) hx hb dL_of_159 (by decide) ?_
  refine lv_icmp_ne (tgt := 172) hx hb dL_of_161 (by decide) (fun c_1 => ?_) (fun c_1 => absurd c_1 (by decide))
  refine lv_iload_n hx hb dL_of_172 rfl (lv_at hl 1 rfl) ?_
  refine lv_bipush (v := 10) hx hb dL_of_173 (by decide) ?_
  refine lv_icmp_ne (tgt := 186) hx hb dL_of_175 (by decide) (fun c_1 => ?_) (fun c_1 => absurd c_1 (by decide))
  refine lv_iload_n hx hb dL_of_186 rfl (lv_at hl 1 rfl) ?_
  refine lv_bipush (v := 11) hx hb dL_of_187 (by decide) ?_
  refine lv_icmp_ne (tgt := 200) hx hb dL_of_189 (by decide) (fun c_1 => ?_) (fun c_1 => absurd c_1 (by decide))
  refine lv_aload_n hx hb dL_of_200 rfl (lv_at hl 0 rfl) ?_
  refine lv_iload_n hx hb dL_of_201 rfl (lv_at hl 2 rfl) ?_
  obtain ⟨hE, hT, hZ, hC⟩ := C.2.1
  refine q_thH (q_thV (rest := []) hx hb hml hown hE hT (hZ.narrow (fun _ h => h.elim)) (c_X5_prize_T0 l hfl D cI cZ cL ad S x1 hJ.i0 hth) ck_X5_prize w_743 hw.1 0 rfl rfl hl.1 rfl ⟨Nat.le_of_ble_eq_true rfl, Nat.le_of_ble_eq_true rfl⟩ (Nat.le_of_ble_eq_true rfl) dL_of_202 ⟨Nat.le_of_ble_eq_true rfl, Nat.le_of_ble_eq_true rfl⟩) hown [] _ _ htb (fun z hz => nomatch hz) (by decide +kernel) (by decide +kernel) (hE.1 _ v_335 args) (hE.1 _ w_442 args) (fun q H hlt hS => ?_)
  refine W.eq (g2 := F0 m 206 ls [.ref q]) rfl ?_
  refine lv_astore (lv' := [(4, .ref q), (0, .ref (ad 0)), (1, .int 12), (2, .int x1), (3, .int x2)]) hx hb dL_of_206 hl (by decide) rfl (fun ls hl => ?_)
  refine lv_sipush (v := (-1201)) hx hb dL_of_208 (by decide) ?_
  exact g_ret (mc := 1) hx hb hr hlk (hw.grow hS) rfl ⟨rfl, hlt⟩ ⟨Nat.le_of_ble_eq_true rfl, Nat.le_of_ble_eq_true rfl⟩ dL_of_211
set_option maxHeartbeats 4000000 in
set_option maxRecDepth 100000 in
theorem h_of_0 {l : Launch} (hfl : l.flags = flags0) {D : va_G} {cI cZ cL : ClassId} {ad aa : Nat → Nat} {fa S : Mem} {m0 m1 : Nat} (hD : va_D (aC ad cI) (wC ad cI mem0)) (hA : ∀ q, aW (wA aa cI mem0) q → ¬ aC ad cI q) (hJ : JS S m0 m1) (x1 x2 : Int32) (hth : (oPrice S x1 x2).1 = none) :
    GM l D cI cZ cL ad aa fa S yL_of [Cond.codeWith yL_of cL_of 5 (some .int) [(0, 205, 206, 50), (0, 205, 212, 54), (0, 205, 218, 96)]] 8 1 [.ref (ad 0), .int 0, .int x1, .int x2] m0 m1 (pI) := by
  refine GM.ofW (by decide) (Nat.le_of_ble_eq_true rfl) hfl hD hA hJ ?_
  intro p e s m args below meth c ls hx hb hr hlk hown htb C hw hl
  have hl : lv_has ls 5 [(0, .ref (ad 0)), (1, .int 0), (2, .int x1), (3, .int x2)] := hl
  have hml := C.1.2.2.1
  refine lv_iload_n hx hb dL_of_0 rfl (lv_at hl 1 rfl) ?_
  refine lv_if_ne (tgt := 13) hx hb dL_of_1 (by decide) (fun c_1 => absurd c_1 (by decide)) (fun c_1 => ?_)
  refine lv_aload_n hx hb dL_of_4 rfl (lv_at hl 0 rfl) ?_
  refine lv_iload_n hx hb dL_of_5 rfl (lv_at hl 2 rfl) ?_
  refine lv_iload_n hx hb dL_of_6 rfl (lv_at hl 3 rfl) ?_
  refine g_rd (rest := []) C hw (c_X5_price l D cI cZ cL ad S x1 x2 hJ.i0 hth) ck_X5_price v_520 (by decide) hl.1 rfl ⟨Nat.le_of_ble_eq_true rfl, Nat.le_of_ble_eq_true rfl⟩ (Nat.le_of_ble_eq_true rfl) dL_of_7 ⟨Nat.le_of_ble_eq_true rfl, Nat.le_of_ble_eq_true rfl⟩ ?_
  refine g_any (fun z => ?_)
  refine lv_goto (tgt := 205) hx hb dL_of_10 (by decide) ?_
  exact g_ret (mc := 1) hx hb hr hlk hw rfl ⟨z, rfl⟩ ⟨Nat.zero_le _, Nat.zero_le _⟩ dL_of_205
set_option maxHeartbeats 4000000 in
set_option maxRecDepth 100000 in
theorem h_of_0N {l : Launch} (hfl : l.flags = flags0) {D : va_G} {cI cZ cL : ClassId} {ad aa : Nat → Nat} {fa S : Mem} {m0 m1 : Nat} (hD : va_D (aC ad cI) (wC ad cI mem0)) (hA : ∀ q, aW (wA aa cI mem0) q → ¬ aC ad cI q) (hJ : JS S m0 m1) (x1 x2 : Int32) (hth : (oPrice S x1 x2).1 = some "java/util/NoSuchElementException") :
    GM l D cI cZ cL ad aa fa S yL_of [Cond.codeWith yL_of cL_of 5 (some .int) [(0, 205, 206, 50), (0, 205, 212, 54), (0, 205, 218, 96)]] 8 1 [.ref (ad 0), .int 0, .int x1, .int x2] m0 m1 (pI) := by
  refine GM.ofW (by decide) (Nat.le_of_ble_eq_true rfl) hfl hD hA hJ ?_
  intro p e s m args below meth c ls hx hb hr hlk hown htb C hw hl
  have hl : lv_has ls 5 [(0, .ref (ad 0)), (1, .int 0), (2, .int x1), (3, .int x2)] := hl
  have hml := C.1.2.2.1
  refine lv_iload_n hx hb dL_of_0 rfl (lv_at hl 1 rfl) ?_
  refine lv_if_ne (tgt := 13) hx hb dL_of_1 (by decide) (fun c_1 => absurd c_1 (by decide)) (fun c_1 => ?_)
  refine lv_aload_n hx hb dL_of_4 rfl (lv_at hl 0 rfl) ?_
  refine lv_iload_n hx hb dL_of_5 rfl (lv_at hl 2 rfl) ?_
  refine lv_iload_n hx hb dL_of_6 rfl (lv_at hl 3 rfl) ?_
  obtain ⟨hE, hT, hZ, hC⟩ := C.2.1
  refine q_thH (q_thV (rest := []) hx hb hml hown hE hT (hZ.narrow (fun _ h => h.elim)) (c_X5_price_T1 l hfl D cI cZ cL ad S x1 x2 hJ.i0 hth) ck_X5_price v_520 hw.1 0 rfl rfl hl.1 rfl ⟨Nat.le_of_ble_eq_true rfl, Nat.le_of_ble_eq_true rfl⟩ (Nat.le_of_ble_eq_true rfl) dL_of_7 ⟨Nat.le_of_ble_eq_true rfl, Nat.le_of_ble_eq_true rfl⟩) hown (tableOf [(0, 205, 206, 50), (0, 205, 212, 54)]) _ _ htb (by intro z hz; simp only [tableOf, List.map_cons, List.map_nil, List.mem_cons, List.not_mem_nil, or_false] at hz; rcases hz with rfl | rfl <;> first | exact Or.inr ⟨by decide, _, hE.1 _ v_335 args, hC ("java/util/NoSuchElementException", "java/lang/IndexOutOfBoundsException") (by decide)⟩ | exact Or.inr ⟨by decide, _, hE.1 _ v_337 args, hC ("java/util/NoSuchElementException", "java/lang/IllegalStateException") (by decide)⟩) (by decide +kernel) (by decide +kernel) (hE.1 _ v_519 args) (hE.1 _ w_572 args) (fun q H hlt hS => ?_)
  refine W.eq (g2 := F0 m 218 ls [.ref q]) rfl ?_
  refine lv_astore (lv' := [(4, .ref q), (0, .ref (ad 0)), (1, .int 0), (2, .int x1), (3, .int x2)]) hx hb dL_of_218 hl (by decide) rfl (fun ls hl => ?_)
  refine lv_sipush (v := (-1204)) hx hb dL_of_220 (by decide) ?_
  exact g_ret (mc := 1) hx hb hr hlk (hw.grow hS) rfl ⟨_, rfl⟩ ⟨Nat.le_of_ble_eq_true rfl, Nat.le_of_ble_eq_true rfl⟩ dL_of_223
set_option maxHeartbeats 4000000 in
set_option maxRecDepth 100000 in
theorem h_of_12S {l : Launch} (hfl : l.flags = flags0) {D : va_G} {cI cZ cL : ClassId} {ad aa : Nat → Nat} {fa S : Mem} {m0 m1 : Nat} (hD : va_D (aC ad cI) (wC ad cI mem0)) (hA : ∀ q, aW (wA aa cI mem0) q → ¬ aC ad cI q) (hJ : JS S m0 m1) (x1 x2 : Int32) (hth : (oPrize S x1).1 = some "java/lang/IllegalStateException") :
    GM l D cI cZ cL ad aa fa S yL_of [Cond.codeWith yL_of cL_of 5 (some .int) [(0, 205, 206, 50), (0, 205, 212, 54), (0, 205, 218, 96)]] 8 1 [.ref (ad 0), .int 12, .int x1, .int x2] m0 m1 (pI) := by
  refine GM.ofW (by decide) (Nat.le_of_ble_eq_true rfl) hfl hD hA hJ ?_
  intro p e s m args below meth c ls hx hb hr hlk hown htb C hw hl
  have hl : lv_has ls 5 [(0, .ref (ad 0)), (1, .int 12), (2, .int x1), (3, .int x2)] := hl
  have hml := C.1.2.2.1
  refine lv_iload_n hx hb dL_of_0 rfl (lv_at hl 1 rfl) ?_
  refine lv_if_ne (tgt := 13) hx hb dL_of_1 (by decide) (fun c_1 => ?_) (fun c_1 => absurd c_1 (by decide))
  refine lv_iload_n hx hb dL_of_13 rfl (lv_at hl 1 rfl) ?_
  refine lv_iconst (v := 1) hx hb dL_of_14 (by decide) ?_
  refine lv_icmp_ne (tgt := 27) hx hb dL_of_15 (by decide) (fun c_1 => ?_) (fun c_1 => absurd c_1 (by decide))
  refine lv_iload_n hx hb dL_of_27 rfl (lv_at hl 1 rfl) ?_
  refine lv_iconst (v := 2) hx hb dL_of_28 (by decide) ?_
  refine lv_icmp_ne (tgt := 41) hx hb dL_of_29 (by decide) (fun c_1 => ?_) (fun c_1 => absurd c_1 (by decide))
  refine lv_iload_n hx hb dL_of_41 rfl (lv_at hl 1 rfl) ?_
  refine lv_iconst (v := 3) hx hb dL_of_42 (by decide) ?_
  refine lv_icmp_ne (tgt := 62) hx hb dL_of_43 (by decide) (fun c_1 => ?_) (fun c_1 => absurd c_1 (by decide))
  refine lv_iload_n hx hb dL_of_62 rfl (lv_at hl 1 rfl) ?_
  refine lv_iconst (v := 4) hx hb dL_of_63 (by decide) ?_
  refine lv_icmp_ne (tgt := 76) hx hb dL_of_64 (by decide) (fun c_1 => ?_) (fun c_1 => absurd c_1 (by decide))
  refine lv_iload_n hx hb dL_of_76 rfl (lv_at hl 1 rfl) ?_
  refine lv_iconst (v := 5) hx hb dL_of_77 (by decide) ?_
  refine lv_icmp_ne (tgt := 98) hx hb dL_of_78 (by decide) (fun c_1 => ?_) (fun c_1 => absurd c_1 (by decide))
  refine lv_iload_n hx hb dL_of_98 rfl (lv_at hl 1 rfl) ?_
  refine lv_bipush (v := 6) hx hb dL_of_99 (by decide) ?_
  refine lv_icmp_ne (tgt := 121) hx hb dL_of_101 (by decide) (fun c_1 => ?_) (fun c_1 => absurd c_1 (by decide))
  refine lv_iload_n hx hb dL_of_121 rfl (lv_at hl 1 rfl) ?_
  refine lv_bipush (v := 7) hx hb dL_of_122 (by decide) ?_
  refine lv_icmp_ne (tgt := 144) hx hb dL_of_124 (by decide) (fun c_1 => ?_) (fun c_1 => absurd c_1 (by decide))
  refine lv_iload_n hx hb dL_of_144 rfl (lv_at hl 1 rfl) ?_
  refine lv_bipush (v := 8) hx hb dL_of_145 (by decide) ?_
  refine lv_icmp_ne (tgt := 158) hx hb dL_of_147 (by decide) (fun c_1 => ?_) (fun c_1 => absurd c_1 (by decide))
  refine lv_iload_n hx hb dL_of_158 rfl (lv_at hl 1 rfl) ?_
  refine lv_bipush (v := 9) hx hb dL_of_159 (by decide) ?_
  refine lv_icmp_ne (tgt := 172) hx hb dL_of_161 (by decide) (fun c_1 => ?_) (fun c_1 => absurd c_1 (by decide))
  refine lv_iload_n hx hb dL_of_172 rfl (lv_at hl 1 rfl) ?_
  refine lv_bipush (v := 10) hx hb dL_of_173 (by decide) ?_
  refine lv_icmp_ne (tgt := 186) hx hb dL_of_175 (by decide) (fun c_1 => ?_) (fun c_1 => absurd c_1 (by decide))
  refine lv_iload_n hx hb dL_of_186 rfl (lv_at hl 1 rfl) ?_
  refine lv_bipush (v := 11) hx hb dL_of_187 (by decide) ?_
  refine lv_icmp_ne (tgt := 200) hx hb dL_of_189 (by decide) (fun c_1 => ?_) (fun c_1 => absurd c_1 (by decide))
  refine lv_aload_n hx hb dL_of_200 rfl (lv_at hl 0 rfl) ?_
  refine lv_iload_n hx hb dL_of_201 rfl (lv_at hl 2 rfl) ?_
  obtain ⟨hE, hT, hZ, hC⟩ := C.2.1
  refine q_thH (q_thV (rest := []) hx hb hml hown hE hT (hZ.narrow (fun _ h => h.elim)) (c_X5_prize_T1 l hfl D cI cZ cL ad S x1 hJ.i0 hth) ck_X5_prize w_743 hw.1 0 rfl rfl hl.1 rfl ⟨Nat.le_of_ble_eq_true rfl, Nat.le_of_ble_eq_true rfl⟩ (Nat.le_of_ble_eq_true rfl) dL_of_202 ⟨Nat.le_of_ble_eq_true rfl, Nat.le_of_ble_eq_true rfl⟩) hown (tableOf [(0, 205, 206, 50)]) _ _ htb (by intro z hz; simp only [tableOf, List.map_cons, List.map_nil, List.mem_cons, List.not_mem_nil, or_false] at hz; rcases hz with rfl <;> first | exact Or.inr ⟨by decide, _, hE.1 _ v_335 args, hC ("java/lang/IllegalStateException", "java/lang/IndexOutOfBoundsException") (by decide)⟩) (by decide +kernel) (by decide +kernel) (hE.1 _ v_337 args) (hE.1 _ w_402 args) (fun q H hlt hS => ?_)
  refine W.eq (g2 := F0 m 212 ls [.ref q]) rfl ?_
  refine lv_astore (lv' := [(4, .ref q), (0, .ref (ad 0)), (1, .int 12), (2, .int x1), (3, .int x2)]) hx hb dL_of_212 hl (by decide) rfl (fun ls hl => ?_)
  refine lv_sipush (v := (-1203)) hx hb dL_of_214 (by decide) ?_
  exact g_ret (mc := 1) hx hb hr hlk (hw.grow hS) rfl ⟨_, rfl⟩ ⟨Nat.le_of_ble_eq_true rfl, Nat.le_of_ble_eq_true rfl⟩ dL_of_217
