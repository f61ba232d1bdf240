/-! p29: open walks: last all areLinks areVoid -/
theorem v_689 : Cond.code yL_last cL_last 6 (some .int) ∈ TW := q_mem 689 (by decide +kernel) rfl
theorem v_688 : Cond.static yL_last ∈ TW := q_mem 688 (by decide +kernel) rfl
theorem v_227 : Cond.methodLink "PuzzleRegistryLaw" 98 yX5_now ∈ TW := q_mem 227 (by decide +kernel) rfl
theorem v_697 : Cond.constantLong "PuzzleRegistryLaw" 103 (31 : Int64) ∈ TW := q_mem 697 (by decide +kernel) rfl
theorem v_699 : Cond.constantLong "PuzzleRegistryLaw" 110 (7 : Int64) ∈ TW := q_mem 699 (by decide +kernel) rfl
theorem v_696 : Cond.constantLong "PuzzleRegistryLaw" 101 (1000003 : Int64) ∈ TW := q_mem 696 (by decide +kernel) rfl
theorem v_698 : Cond.constantLong "PuzzleRegistryLaw" 105 (1009 : Int64) ∈ TW := q_mem 698 (by decide +kernel) rfl
theorem v_683 : Cond.methodLink "PuzzleRegistryLaw" 107 yX5_teamAt ∈ TW := q_mem 683 (by decide +kernel) rfl
theorem v_700 : Cond.constantLong "PuzzleRegistryLaw" 112 (257 : Int64) ∈ TW := q_mem 700 (by decide +kernel) rfl
theorem v_695 : Cond.code yL_all cL_all 6 (some .long) ∈ TW := q_mem 695 (by decide +kernel) rfl
theorem v_694 : Cond.static yL_all ∈ TW := q_mem 694 (by decide +kernel) rfl
theorem v_670 : Cond.code yL_areLinks cL_areLinks 12 (some .boolean) ∈ TW := q_mem 670 (by decide +kernel) rfl
theorem v_669 : Cond.static yL_areLinks ∈ TW := q_mem 669 (by decide +kernel) rfl
theorem v_679 : Cond.code yL_areVoid cL_areVoid 10 (some .boolean) ∈ TW := q_mem 679 (by decide +kernel) rfl
theorem v_678 : Cond.static yL_areVoid ∈ TW := q_mem 678 (by decide +kernel) rfl
theorem dL_last_0 : decode cL_last 0 = .ok (.iconst 0, 1) := by decide +kernel
theorem dL_last_1 : decode cL_last 1 = .ok (.istore_n 3, 1) := by decide +kernel
theorem dL_last_2 : decode cL_last 2 = .ok (.iconst 0, 1) := by decide +kernel
theorem dL_last_3 : decode cL_last 3 = .ok (.istore 4, 2) := by decide +kernel
theorem dL_last_5 : decode cL_last 5 = .ok (.iload 4, 2) := by decide +kernel
theorem dL_last_7 : decode cL_last 7 = .ok (.aload_n 1, 1) := by decide +kernel
theorem dL_last_8 : decode cL_last 8 = .ok (.iconst 0, 1) := by decide +kernel
theorem dL_last_9 : decode cL_last 9 = .ok (.iaload, 1) := by decide +kernel
theorem dL_last_10 : decode cL_last 10 = .ok (.if_icmp .ge 63, 3) := by decide +kernel
theorem dL_last_13 : decode cL_last 13 = .ok (.aload_n 0, 1) := by decide +kernel
theorem dL_last_14 : decode cL_last 14 = .ok (.iload_n 2, 1) := by decide +kernel
theorem dL_last_15 : decode cL_last 15 = .ok (.iload 4, 2) := by decide +kernel
theorem dL_last_17 : decode cL_last 17 = .ok (.invokevirtual 62, 3) := by decide +kernel
theorem dL_last_20 : decode cL_last 20 = .ok (.iload_n 3, 1) := by decide +kernel
theorem dL_last_21 : decode cL_last 21 = .ok (.if_icmp .le 26, 3) := by decide +kernel
theorem dL_last_24 : decode cL_last 24 = .ok (.aload_n 0, 1) := by decide +kernel
theorem dL_last_25 : decode cL_last 25 = .ok (.iload_n 2, 1) := by decide +kernel
theorem dL_last_26 : decode cL_last 26 = .ok (.iload 4, 2) := by decide +kernel
theorem dL_last_28 : decode cL_last 28 = .ok (.invokevirtual 78, 3) := by decide +kernel
theorem dL_last_31 : decode cL_last 31 = .ok (.ifCond .ne 16, 3) := by decide +kernel
theorem dL_last_34 : decode cL_last 34 = .ok (.aload_n 0, 1) := by decide +kernel
theorem dL_last_35 : decode cL_last 35 = .ok (.iload 4, 2) := by decide +kernel
theorem dL_last_37 : decode cL_last 37 = .ok (.invokevirtual 65, 3) := by decide +kernel
theorem dL_last_40 : decode cL_last 40 = .ok (.ifCond .ne 7, 3) := by decide +kernel
theorem dL_last_43 : decode cL_last 43 = .ok (.iconst 1, 1) := by decide +kernel
theorem dL_last_44 : decode cL_last 44 = .ok (.goto 4, 3) := by decide +kernel
theorem dL_last_47 : decode cL_last 47 = .ok (.iconst 0, 1) := by decide +kernel
theorem dL_last_48 : decode cL_last 48 = .ok (.istore 5, 2) := by decide +kernel
theorem dL_last_50 : decode cL_last 50 = .ok (.iload 5, 2) := by decide +kernel
theorem dL_last_52 : decode cL_last 52 = .ok (.ifCond .eq 13, 3) := by decide +kernel
theorem dL_last_55 : decode cL_last 55 = .ok (.aload_n 0, 1) := by decide +kernel
theorem dL_last_56 : decode cL_last 56 = .ok (.iload_n 2, 1) := by decide +kernel
theorem dL_last_57 : decode cL_last 57 = .ok (.iload 4, 2) := by decide +kernel
theorem dL_last_59 : decode cL_last 59 = .ok (.invokevirtual 62, 3) := by decide +kernel
theorem dL_last_62 : decode cL_last 62 = .ok (.goto 4, 3) := by decide +kernel
theorem dL_last_65 : decode cL_last 65 = .ok (.iload_n 3, 1) := by decide +kernel
theorem dL_last_66 : decode cL_last 66 = .ok (.istore_n 3, 1) := by decide +kernel
theorem dL_last_67 : decode cL_last 67 = .ok (.iinc 4 1, 3) := by decide +kernel
theorem dL_last_70 : decode cL_last 70 = .ok (.goto (-65), 3) := by decide +kernel
theorem dL_last_73 : decode cL_last 73 = .ok (.iload_n 3, 1) := by decide +kernel
theorem dL_last_74 : decode cL_last 74 = .ok (.ireturn, 1) := by decide +kernel
theorem dL_all_0 : decode cL_all 0 = .ok (.aload_n 0, 1) := by decide +kernel
theorem dL_all_1 : decode cL_all 1 = .ok (.invokevirtual 98, 3) := by decide +kernel
theorem dL_all_4 : decode cL_all 4 = .ok (.i2l, 1) := by decide +kernel
theorem dL_all_5 : decode cL_all 5 = .ok (.lstore_n 2, 1) := by decide +kernel
theorem dL_all_6 : decode cL_all 6 = .ok (.iconst 0, 1) := by decide +kernel
theorem dL_all_7 : decode cL_all 7 = .ok (.istore 4, 2) := by decide +kernel
theorem dL_all_9 : decode cL_all 9 = .ok (.iload 4, 2) := by decide +kernel
theorem dL_all_11 : decode cL_all 11 = .ok (.aload_n 1, 1) := by decide +kernel
theorem dL_all_12 : decode cL_all 12 = .ok (.iconst 1, 1) := by decide +kernel
theorem dL_all_13 : decode cL_all 13 = .ok (.iaload, 1) := by decide +kernel
theorem dL_all_14 : decode cL_all 14 = .ok (.if_icmp .ge 113, 3) := by decide +kernel
theorem dL_all_17 : decode cL_all 17 = .ok (.ldc2_w 101, 3) := by decide +kernel
theorem dL_all_20 : decode cL_all 20 = .ok (.lload_n 2, 1) := by decide +kernel
theorem dL_all_21 : decode cL_all 21 = .ok (.lmul, 1) := by decide +kernel
theorem dL_all_22 : decode cL_all 22 = .ok (.aload_n 0, 1) := by decide +kernel
theorem dL_all_23 : decode cL_all 23 = .ok (.iload 4, 2) := by decide +kernel
theorem dL_all_25 : decode cL_all 25 = .ok (.invokevirtual 84, 3) := by decide +kernel
theorem dL_all_28 : decode cL_all 28 = .ok (.i2l, 1) := by decide +kernel
theorem dL_all_29 : decode cL_all 29 = .ok (.ladd, 1) := by decide +kernel
theorem dL_all_30 : decode cL_all 30 = .ok (.ldc2_w 103, 3) := by decide +kernel
theorem dL_all_33 : decode cL_all 33 = .ok (.aload_n 0, 1) := by decide +kernel
theorem dL_all_34 : decode cL_all 34 = .ok (.iload 4, 2) := by decide +kernel
theorem dL_all_36 : decode cL_all 36 = .ok (.invokevirtual 90, 3) := by decide +kernel
theorem dL_all_39 : decode cL_all 39 = .ok (.i2l, 1) := by decide +kernel
theorem dL_all_40 : decode cL_all 40 = .ok (.lmul, 1) := by decide +kernel
theorem dL_all_41 : decode cL_all 41 = .ok (.ladd, 1) := by decide +kernel
theorem dL_all_42 : decode cL_all 42 = .ok (.ldc2_w 105, 3) := by decide +kernel
theorem dL_all_45 : decode cL_all 45 = .ok (.aload_n 0, 1) := by decide +kernel
theorem dL_all_46 : decode cL_all 46 = .ok (.iload 4, 2) := by decide +kernel
theorem dL_all_48 : decode cL_all 48 = .ok (.invokevirtual 107, 3) := by decide +kernel
theorem dL_all_51 : decode cL_all 51 = .ok (.i2l, 1) := by decide +kernel
theorem dL_all_52 : decode cL_all 52 = .ok (.lmul, 1) := by decide +kernel
theorem dL_all_53 : decode cL_all 53 = .ok (.ladd, 1) := by decide +kernel
theorem dL_all_54 : decode cL_all 54 = .ok (.lstore_n 2, 1) := by decide +kernel
theorem dL_all_55 : decode cL_all 55 = .ok (.iconst 0, 1) := by decide +kernel
theorem dL_all_56 : decode cL_all 56 = .ok (.istore 5, 2) := by decide +kernel
theorem dL_all_58 : decode cL_all 58 = .ok (.iload 5, 2) := by decide +kernel
theorem dL_all_60 : decode cL_all 60 = .ok (.aload_n 1, 1) := by decide +kernel
theorem dL_all_61 : decode cL_all 61 = .ok (.iconst 0, 1) := by decide +kernel
theorem dL_all_62 : decode cL_all 62 = .ok (.iaload, 1) := by decide +kernel
theorem dL_all_63 : decode cL_all 63 = .ok (.if_icmp .ge 58, 3) := by decide +kernel
theorem dL_all_66 : decode cL_all 66 = .ok (.ldc2_w 103, 3) := by decide +kernel
theorem dL_all_69 : decode cL_all 69 = .ok (.lload_n 2, 1) := by decide +kernel
theorem dL_all_70 : decode cL_all 70 = .ok (.lmul, 1) := by decide +kernel
theorem dL_all_71 : decode cL_all 71 = .ok (.aload_n 0, 1) := by decide +kernel
theorem dL_all_72 : decode cL_all 72 = .ok (.iload 4, 2) := by decide +kernel
theorem dL_all_74 : decode cL_all 74 = .ok (.iload 5, 2) := by decide +kernel
theorem dL_all_76 : decode cL_all 76 = .ok (.invokevirtual 62, 3) := by decide +kernel
theorem dL_all_79 : decode cL_all 79 = .ok (.i2l, 1) := by decide +kernel
theorem dL_all_80 : decode cL_all 80 = .ok (.ladd, 1) := by decide +kernel
theorem dL_all_81 : decode cL_all 81 = .ok (.aload_n 0, 1) := by decide +kernel
theorem dL_all_82 : decode cL_all 82 = .ok (.iload 4, 2) := by decide +kernel
theorem dL_all_84 : decode cL_all 84 = .ok (.iload 5, 2) := by decide +kernel
theorem dL_all_86 : decode cL_all 86 = .ok (.invokevirtual 78, 3) := by decide +kernel
theorem dL_all_89 : decode cL_all 89 = .ok (.ifCond .eq 9, 3) := by decide +kernel
theorem dL_all_92 : decode cL_all 92 = .ok (.ldc2_w 110, 3) := by decide +kernel
theorem dL_all_95 : decode cL_all 95 = .ok (.goto 4, 3) := by decide +kernel
theorem dL_all_98 : decode cL_all 98 = .ok (.lconst 0, 1) := by decide +kernel
theorem dL_all_99 : decode cL_all 99 = .ok (.ladd, 1) := by decide +kernel
theorem dL_all_100 : decode cL_all 100 = .ok (.ldc2_w 112, 3) := by decide +kernel
theorem dL_all_103 : decode cL_all 103 = .ok (.aload_n 0, 1) := by decide +kernel
theorem dL_all_104 : decode cL_all 104 = .ok (.iload 4, 2) := by decide +kernel
theorem dL_all_106 : decode cL_all 106 = .ok (.iload 5, 2) := by decide +kernel
theorem dL_all_108 : decode cL_all 108 = .ok (.invokevirtual 59, 3) := by decide +kernel
theorem dL_all_111 : decode cL_all 111 = .ok (.i2l, 1) := by decide +kernel
theorem dL_all_112 : decode cL_all 112 = .ok (.lmul, 1) := by decide +kernel
theorem dL_all_113 : decode cL_all 113 = .ok (.ladd, 1) := by decide +kernel
theorem dL_all_114 : decode cL_all 114 = .ok (.lstore_n 2, 1) := by decide +kernel
theorem dL_all_115 : decode cL_all 115 = .ok (.iinc 5 1, 3) := by decide +kernel
theorem dL_all_118 : decode cL_all 118 = .ok (.goto (-60), 3) := by decide +kernel
theorem dL_all_121 : decode cL_all 121 = .ok (.iinc 4 1, 3) := by decide +kernel
theorem dL_all_124 : decode cL_all 124 = .ok (.goto (-115), 3) := by decide +kernel
theorem dL_all_127 : decode cL_all 127 = .ok (.iconst 0, 1) := by decide +kernel
theorem dL_all_128 : decode cL_all 128 = .ok (.istore 4, 2) := by decide +kernel
theorem dL_all_130 : decode cL_all 130 = .ok (.iload 4, 2) := by decide +kernel
theorem dL_all_132 : decode cL_all 132 = .ok (.aload_n 1, 1) := by decide +kernel
theorem dL_all_133 : decode cL_all 133 = .ok (.iconst 0, 1) := by decide +kernel
theorem dL_all_134 : decode cL_all 134 = .ok (.iaload, 1) := by decide +kernel
theorem dL_all_135 : decode cL_all 135 = .ok (.if_icmp .ge 40, 3) := by decide +kernel
theorem dL_all_138 : decode cL_all 138 = .ok (.ldc2_w 103, 3) := by decide +kernel
theorem dL_all_141 : decode cL_all 141 = .ok (.lload_n 2, 1) := by decide +kernel
theorem dL_all_142 : decode cL_all 142 = .ok (.lmul, 1) := by decide +kernel
theorem dL_all_143 : decode cL_all 143 = .ok (.aload_n 0, 1) := by decide +kernel
theorem dL_all_144 : decode cL_all 144 = .ok (.iload 4, 2) := by decide +kernel
theorem dL_all_146 : decode cL_all 146 = .ok (.invokevirtual 81, 3) := by decide +kernel
theorem dL_all_149 : decode cL_all 149 = .ok (.i2l, 1) := by decide +kernel
theorem dL_all_150 : decode cL_all 150 = .ok (.ladd, 1) := by decide +kernel
theorem dL_all_151 : decode cL_all 151 = .ok (.aload_n 0, 1) := by decide +kernel
theorem dL_all_152 : decode cL_all 152 = .ok (.iload 4, 2) := by decide +kernel
theorem dL_all_154 : decode cL_all 154 = .ok (.invokevirtual 65, 3) := by decide +kernel
theorem dL_all_157 : decode cL_all 157 = .ok (.ifCond .eq 9, 3) := by decide +kernel
theorem dL_all_160 : decode cL_all 160 = .ok (.ldc2_w 110, 3) := by decide +kernel
theorem dL_all_163 : decode cL_all 163 = .ok (.goto 4, 3) := by decide +kernel
theorem dL_all_166 : decode cL_all 166 = .ok (.lconst 0, 1) := by decide +kernel
theorem dL_all_167 : decode cL_all 167 = .ok (.ladd, 1) := by decide +kernel
theorem dL_all_168 : decode cL_all 168 = .ok (.lstore_n 2, 1) := by decide +kernel
theorem dL_all_169 : decode cL_all 169 = .ok (.iinc 4 1, 3) := by decide +kernel
theorem dL_all_172 : decode cL_all 172 = .ok (.goto (-42), 3) := by decide +kernel
theorem dL_all_175 : decode cL_all 175 = .ok (.lload_n 2, 1) := by decide +kernel
theorem dL_all_176 : decode cL_all 176 = .ok (.lreturn, 1) := by decide +kernel
theorem dL_areLinks_0 : decode cL_areLinks 0 = .ok (.iconst 0, 1) := by decide +kernel
theorem dL_areLinks_1 : decode cL_areLinks 1 = .ok (.istore 7, 2) := by decide +kernel
theorem dL_areLinks_3 : decode cL_areLinks 3 = .ok (.iconst 0, 1) := by decide +kernel
theorem dL_areLinks_4 : decode cL_areLinks 4 = .ok (.istore 8, 2) := by decide +kernel
theorem dL_areLinks_6 : decode cL_areLinks 6 = .ok (.iconst 0, 1) := by decide +kernel
theorem dL_areLinks_7 : decode cL_areLinks 7 = .ok (.istore 9, 2) := by decide +kernel
theorem dL_areLinks_9 : decode cL_areLinks 9 = .ok (.iload 9, 2) := by decide +kernel
theorem dL_areLinks_11 : decode cL_areLinks 11 = .ok (.aload 4, 2) := by decide +kernel
theorem dL_areLinks_13 : decode cL_areLinks 13 = .ok (.iconst 2, 1) := by decide +kernel
theorem dL_areLinks_14 : decode cL_areLinks 14 = .ok (.iaload, 1) := by decide +kernel
theorem dL_areLinks_15 : decode cL_areLinks 15 = .ok (.if_icmp .ge 89, 3) := by decide +kernel
theorem dL_areLinks_104 : decode cL_areLinks 104 = .ok (.iload 5, 2) := by decide +kernel
theorem dL_areLinks_106 : decode cL_areLinks 106 = .ok (.iload 6, 2) := by decide +kernel
theorem dL_areLinks_108 : decode cL_areLinks 108 = .ok (.if_icmp .eq 28, 3) := by decide +kernel
theorem dL_areLinks_111 : decode cL_areLinks 111 = .ok (.iload 7, 2) := by decide +kernel
theorem dL_areLinks_113 : decode cL_areLinks 113 = .ok (.aload 4, 2) := by decide +kernel
theorem dL_areLinks_115 : decode cL_areLinks 115 = .ok (.iconst 3, 1) := by decide +kernel
theorem dL_areLinks_116 : decode cL_areLinks 116 = .ok (.iaload, 1) := by decide +kernel
theorem dL_areLinks_117 : decode cL_areLinks 117 = .ok (.if_icmp .lt 19, 3) := by decide +kernel
theorem dL_areLinks_120 : decode cL_areLinks 120 = .ok (.aload_n 3, 1) := by decide +kernel
theorem dL_areLinks_121 : decode cL_areLinks 121 = .ok (.iload 5, 2) := by decide +kernel
theorem dL_areLinks_123 : decode cL_areLinks 123 = .ok (.iaload, 1) := by decide +kernel
theorem dL_areLinks_124 : decode cL_areLinks 124 = .ok (.iload 6, 2) := by decide +kernel
theorem dL_areLinks_126 : decode cL_areLinks 126 = .ok (.ishr, 1) := by decide +kernel
theorem dL_areLinks_127 : decode cL_areLinks 127 = .ok (.iconst 1, 1) := by decide +kernel
theorem dL_areLinks_128 : decode cL_areLinks 128 = .ok (.iand, 1) := by decide +kernel
theorem dL_areLinks_129 : decode cL_areLinks 129 = .ok (.ifCond .ne 7, 3) := by decide +kernel
theorem dL_areLinks_132 : decode cL_areLinks 132 = .ok (.iconst 1, 1) := by decide +kernel
theorem dL_areLinks_133 : decode cL_areLinks 133 = .ok (.goto 4, 3) := by decide +kernel
theorem dL_areLinks_136 : decode cL_areLinks 136 = .ok (.iconst 0, 1) := by decide +kernel
theorem dL_areLinks_137 : decode cL_areLinks 137 = .ok (.istore 9, 2) := by decide +kernel
theorem dL_areLinks_139 : decode cL_areLinks 139 = .ok (.aload_n 0, 1) := by decide +kernel
theorem dL_areLinks_140 : decode cL_areLinks 140 = .ok (.iload 5, 2) := by decide +kernel
theorem dL_areLinks_142 : decode cL_areLinks 142 = .ok (.iload 6, 2) := by decide +kernel
theorem dL_areLinks_144 : decode cL_areLinks 144 = .ok (.invokevirtual 69, 3) := by decide +kernel
theorem dL_areLinks_147 : decode cL_areLinks 147 = .ok (.iload 7, 2) := by decide +kernel
theorem dL_areLinks_149 : decode cL_areLinks 149 = .ok (.if_icmp .ne 46, 3) := by decide +kernel
theorem dL_areLinks_152 : decode cL_areLinks 152 = .ok (.aload_n 0, 1) := by decide +kernel
theorem dL_areLinks_153 : decode cL_areLinks 153 = .ok (.iload 6, 2) := by decide +kernel
theorem dL_areLinks_155 : decode cL_areLinks 155 = .ok (.iload 5, 2) := by decide +kernel
theorem dL_areLinks_157 : decode cL_areLinks 157 = .ok (.invokevirtual 69, 3) := by decide +kernel
theorem dL_areLinks_160 : decode cL_areLinks 160 = .ok (.iload 7, 2) := by decide +kernel
theorem dL_areLinks_162 : decode cL_areLinks 162 = .ok (.if_icmp .ne 33, 3) := by decide +kernel
theorem dL_areLinks_165 : decode cL_areLinks 165 = .ok (.aload_n 0, 1) := by decide +kernel
theorem dL_areLinks_166 : decode cL_areLinks 166 = .ok (.iload 5, 2) := by decide +kernel
theorem dL_areLinks_168 : decode cL_areLinks 168 = .ok (.iload 6, 2) := by decide +kernel
theorem dL_areLinks_170 : decode cL_areLinks 170 = .ok (.invokevirtual 72, 3) := by decide +kernel
theorem dL_areLinks_173 : decode cL_areLinks 173 = .ok (.iload 9, 2) := by decide +kernel
theorem dL_areLinks_175 : decode cL_areLinks 175 = .ok (.if_icmp .ne 20, 3) := by decide +kernel
theorem dL_areLinks_178 : decode cL_areLinks 178 = .ok (.aload_n 0, 1) := by decide +kernel
theorem dL_areLinks_179 : decode cL_areLinks 179 = .ok (.iload 6, 2) := by decide +kernel
theorem dL_areLinks_181 : decode cL_areLinks 181 = .ok (.iload 5, 2) := by decide +kernel
theorem dL_areLinks_183 : decode cL_areLinks 183 = .ok (.invokevirtual 72, 3) := by decide +kernel
theorem dL_areLinks_186 : decode cL_areLinks 186 = .ok (.iload 9, 2) := by decide +kernel
theorem dL_areLinks_188 : decode cL_areLinks 188 = .ok (.if_icmp .ne 7, 3) := by decide +kernel
theorem dL_areLinks_191 : decode cL_areLinks 191 = .ok (.iconst 1, 1) := by decide +kernel
theorem dL_areLinks_192 : decode cL_areLinks 192 = .ok (.goto 4, 3) := by decide +kernel
theorem dL_areLinks_195 : decode cL_areLinks 195 = .ok (.iconst 0, 1) := by decide +kernel
theorem dL_areLinks_196 : decode cL_areLinks 196 = .ok (.istore 10, 2) := by decide +kernel
theorem dL_areLinks_198 : decode cL_areLinks 198 = .ok (.iconst 0, 1) := by decide +kernel
theorem dL_areLinks_199 : decode cL_areLinks 199 = .ok (.istore 11, 2) := by decide +kernel
theorem dL_areLinks_201 : decode cL_areLinks 201 = .ok (.iload 11, 2) := by decide +kernel
theorem dL_areLinks_203 : decode cL_areLinks 203 = .ok (.aload 4, 2) := by decide +kernel
theorem dL_areLinks_205 : decode cL_areLinks 205 = .ok (.iconst 0, 1) := by decide +kernel
theorem dL_areLinks_206 : decode cL_areLinks 206 = .ok (.iaload, 1) := by decide +kernel
theorem dL_areLinks_207 : decode cL_areLinks 207 = .ok (.if_icmp .ge 58, 3) := by decide +kernel
theorem dL_areLinks_210 : decode cL_areLinks 210 = .ok (.iload 9, 2) := by decide +kernel
theorem dL_areLinks_212 : decode cL_areLinks 212 = .ok (.ifCond .eq 53, 3) := by decide +kernel
theorem dL_areLinks_215 : decode cL_areLinks 215 = .ok (.iload 10, 2) := by decide +kernel
theorem dL_areLinks_217 : decode cL_areLinks 217 = .ok (.ifCond .eq 48, 3) := by decide +kernel
theorem dL_areLinks_220 : decode cL_areLinks 220 = .ok (.iload 8, 2) := by decide +kernel
theorem dL_areLinks_222 : decode cL_areLinks 222 = .ok (.iload 11, 2) := by decide +kernel
theorem dL_areLinks_224 : decode cL_areLinks 224 = .ok (.ishr, 1) := by decide +kernel
theorem dL_areLinks_225 : decode cL_areLinks 225 = .ok (.iconst 1, 1) := by decide +kernel
theorem dL_areLinks_226 : decode cL_areLinks 226 = .ok (.iand, 1) := by decide +kernel
theorem dL_areLinks_227 : decode cL_areLinks 227 = .ok (.ifCond .eq 25, 3) := by decide +kernel
theorem dL_areLinks_252 : decode cL_areLinks 252 = .ok (.iconst 1, 1) := by decide +kernel
theorem dL_areLinks_253 : decode cL_areLinks 253 = .ok (.goto 4, 3) := by decide +kernel
theorem dL_areLinks_257 : decode cL_areLinks 257 = .ok (.istore 10, 2) := by decide +kernel
theorem dL_areLinks_259 : decode cL_areLinks 259 = .ok (.iinc 11 1, 3) := by decide +kernel
theorem dL_areLinks_262 : decode cL_areLinks 262 = .ok (.goto (-61), 3) := by decide +kernel
theorem dL_areLinks_265 : decode cL_areLinks 265 = .ok (.iload 10, 2) := by decide +kernel
theorem dL_areLinks_267 : decode cL_areLinks 267 = .ok (.ireturn, 1) := by decide +kernel
theorem dL_areVoid_0 : decode cL_areVoid 0 = .ok (.iconst 0, 1) := by decide +kernel
theorem dL_areVoid_1 : decode cL_areVoid 1 = .ok (.istore 4, 2) := by decide +kernel
theorem dL_areVoid_3 : decode cL_areVoid 3 = .ok (.iconst 1, 1) := by decide +kernel
theorem dL_areVoid_4 : decode cL_areVoid 4 = .ok (.istore 5, 2) := by decide +kernel
theorem dL_areVoid_6 : decode cL_areVoid 6 = .ok (.iconst 0, 1) := by decide +kernel
theorem dL_areVoid_7 : decode cL_areVoid 7 = .ok (.istore 6, 2) := by decide +kernel
theorem dL_areVoid_9 : decode cL_areVoid 9 = .ok (.iload 6, 2) := by decide +kernel
theorem dL_areVoid_11 : decode cL_areVoid 11 = .ok (.aload_n 2, 1) := by decide +kernel
theorem dL_areVoid_12 : decode cL_areVoid 12 = .ok (.iconst 1, 1) := by decide +kernel
theorem dL_areVoid_13 : decode cL_areVoid 13 = .ok (.iaload, 1) := by decide +kernel
theorem dL_areVoid_14 : decode cL_areVoid 14 = .ok (.if_icmp .ge 29, 3) := by decide +kernel
theorem dL_areVoid_17 : decode cL_areVoid 17 = .ok (.iload 4, 2) := by decide +kernel
theorem dL_areVoid_19 : decode cL_areVoid 19 = .ok (.aload_n 0, 1) := by decide +kernel
theorem dL_areVoid_20 : decode cL_areVoid 20 = .ok (.iload_n 3, 1) := by decide +kernel
theorem dL_areVoid_21 : decode cL_areVoid 21 = .ok (.iload 6, 2) := by decide +kernel
theorem dL_areVoid_23 : decode cL_areVoid 23 = .ok (.invokevirtual 72, 3) := by decide +kernel
theorem dL_areVoid_26 : decode cL_areVoid 26 = .ok (.ifCond .eq 7, 3) := by decide +kernel
theorem dL_areVoid_29 : decode cL_areVoid 29 = .ok (.iconst 1, 1) := by decide +kernel
theorem dL_areVoid_30 : decode cL_areVoid 30 = .ok (.goto 4, 3) := by decide +kernel
theorem dL_areVoid_33 : decode cL_areVoid 33 = .ok (.iconst 0, 1) := by decide +kernel
theorem dL_areVoid_34 : decode cL_areVoid 34 = .ok (.iadd, 1) := by decide +kernel
theorem dL_areVoid_35 : decode cL_areVoid 35 = .ok (.istore 4, 2) := by decide +kernel
theorem dL_areVoid_37 : decode cL_areVoid 37 = .ok (.iinc 6 1, 3) := by decide +kernel
theorem dL_areVoid_40 : decode cL_areVoid 40 = .ok (.goto (-31), 3) := by decide +kernel
theorem dL_areVoid_43 : decode cL_areVoid 43 = .ok (.iconst 0, 1) := by decide +kernel
theorem dL_areVoid_44 : decode cL_areVoid 44 = .ok (.istore 6, 2) := by decide +kernel
theorem dL_areVoid_46 : decode cL_areVoid 46 = .ok (.iload 6, 2) := by decide +kernel
theorem dL_areVoid_48 : decode cL_areVoid 48 = .ok (.aload_n 2, 1) := by decide +kernel
theorem dL_areVoid_49 : decode cL_areVoid 49 = .ok (.iconst 0, 1) := by decide +kernel
theorem dL_areVoid_50 : decode cL_areVoid 50 = .ok (.iaload, 1) := by decide +kernel
theorem dL_areVoid_51 : decode cL_areVoid 51 = .ok (.if_icmp .ge 190, 3) := by decide +kernel
theorem dL_areVoid_54 : decode cL_areVoid 54 = .ok (.iload 5, 2) := by decide +kernel
theorem dL_areVoid_56 : decode cL_areVoid 56 = .ok (.ifCond .eq 185, 3) := by decide +kernel
theorem dL_areVoid_59 : decode cL_areVoid 59 = .ok (.iconst 0, 1) := by decide +kernel
theorem dL_areVoid_60 : decode cL_areVoid 60 = .ok (.istore 7, 2) := by decide +kernel
theorem dL_areVoid_62 : decode cL_areVoid 62 = .ok (.iconst 0, 1) := by decide +kernel
theorem dL_areVoid_63 : decode cL_areVoid 63 = .ok (.istore 8, 2) := by decide +kernel
theorem dL_areVoid_65 : decode cL_areVoid 65 = .ok (.iconst 0, 1) := by decide +kernel
theorem dL_areVoid_66 : decode cL_areVoid 66 = .ok (.istore 9, 2) := by decide +kernel
theorem dL_areVoid_68 : decode cL_areVoid 68 = .ok (.iload 9, 2) := by decide +kernel
theorem dL_areVoid_70 : decode cL_areVoid 70 = .ok (.aload_n 2, 1) := by decide +kernel
theorem dL_areVoid_71 : decode cL_areVoid 71 = .ok (.iconst 0, 1) := by decide +kernel
theorem dL_areVoid_72 : decode cL_areVoid 72 = .ok (.iaload, 1) := by decide +kernel
theorem dL_areVoid_73 : decode cL_areVoid 73 = .ok (.if_icmp .ge 89, 3) := by decide +kernel
theorem dL_areVoid_76 : decode cL_areVoid 76 = .ok (.iload 7, 2) := by decide +kernel
theorem dL_areVoid_78 : decode cL_areVoid 78 = .ok (.ifCond .ne 31, 3) := by decide +kernel
theorem dL_areVoid_81 : decode cL_areVoid 81 = .ok (.aload_n 1, 1) := by decide +kernel
theorem dL_areVoid_82 : decode cL_areVoid 82 = .ok (.bipush 6, 2) := by decide +kernel
theorem dL_areVoid_84 : decode cL_areVoid 84 = .ok (.iload 6, 2) := by decide +kernel
theorem dL_areVoid_86 : decode cL_areVoid 86 = .ok (.imul, 1) := by decide +kernel
theorem dL_areVoid_87 : decode cL_areVoid 87 = .ok (.iconst 4, 1) := by decide +kernel
theorem dL_areVoid_88 : decode cL_areVoid 88 = .ok (.iadd, 1) := by decide +kernel
theorem dL_areVoid_89 : decode cL_areVoid 89 = .ok (.iaload, 1) := by decide +kernel
theorem dL_areVoid_90 : decode cL_areVoid 90 = .ok (.iload 9, 2) := by decide +kernel
theorem dL_areVoid_92 : decode cL_areVoid 92 = .ok (.ishr, 1) := by decide +kernel
theorem dL_areVoid_93 : decode cL_areVoid 93 = .ok (.iconst 1, 1) := by decide +kernel
theorem dL_areVoid_94 : decode cL_areVoid 94 = .ok (.iand, 1) := by decide +kernel
theorem dL_areVoid_95 : decode cL_areVoid 95 = .ok (.iconst 1, 1) := by decide +kernel
theorem dL_areVoid_96 : decode cL_areVoid 96 = .ok (.if_icmp .ne 17, 3) := by decide +kernel
theorem dL_areVoid_109 : decode cL_areVoid 109 = .ok (.iconst 1, 1) := by decide +kernel
theorem dL_areVoid_110 : decode cL_areVoid 110 = .ok (.goto 4, 3) := by decide +kernel
theorem dL_areVoid_113 : decode cL_areVoid 113 = .ok (.iconst 0, 1) := by decide +kernel
theorem dL_areVoid_114 : decode cL_areVoid 114 = .ok (.istore 7, 2) := by decide +kernel
theorem dL_areVoid_116 : decode cL_areVoid 116 = .ok (.iload 8, 2) := by decide +kernel
theorem dL_areVoid_118 : decode cL_areVoid 118 = .ok (.iload 9, 2) := by decide +kernel
theorem dL_areVoid_120 : decode cL_areVoid 120 = .ok (.iload 6, 2) := by decide +kernel
theorem dL_areVoid_122 : decode cL_areVoid 122 = .ok (.if_icmp .le 30, 3) := by decide +kernel
theorem dL_areVoid_125 : decode cL_areVoid 125 = .ok (.aload_n 1, 1) := by decide +kernel
theorem dL_areVoid_126 : decode cL_areVoid 126 = .ok (.bipush 6, 2) := by decide +kernel
theorem dL_areVoid_128 : decode cL_areVoid 128 = .ok (.iload 9, 2) := by decide +kernel
theorem dL_areVoid_130 : decode cL_areVoid 130 = .ok (.imul, 1) := by decide +kernel
theorem dL_areVoid_131 : decode cL_areVoid 131 = .ok (.iconst 4, 1) := by decide +kernel
theorem dL_areVoid_132 : decode cL_areVoid 132 = .ok (.iadd, 1) := by decide +kernel
theorem dL_areVoid_133 : decode cL_areVoid 133 = .ok (.iaload, 1) := by decide +kernel
theorem dL_areVoid_134 : decode cL_areVoid 134 = .ok (.iload 8, 2) := by decide +kernel
theorem dL_areVoid_136 : decode cL_areVoid 136 = .ok (.iconst 1, 1) := by decide +kernel
theorem dL_areVoid_137 : decode cL_areVoid 137 = .ok (.iload 6, 2) := by decide +kernel
theorem dL_areVoid_139 : decode cL_areVoid 139 = .ok (.ishl, 1) := by decide +kernel
theorem dL_areVoid_140 : decode cL_areVoid 140 = .ok (.ior, 1) := by decide +kernel
theorem dL_areVoid_141 : decode cL_areVoid 141 = .ok (.iand, 1) := by decide +kernel
theorem dL_areVoid_142 : decode cL_areVoid 142 = .ok (.ifCond .eq 10, 3) := by decide +kernel
theorem dL_areVoid_152 : decode cL_areVoid 152 = .ok (.iconst 0, 1) := by decide +kernel
theorem dL_areVoid_153 : decode cL_areVoid 153 = .ok (.ior, 1) := by decide +kernel
theorem dL_areVoid_154 : decode cL_areVoid 154 = .ok (.istore 8, 2) := by decide +kernel
theorem dL_areVoid_156 : decode cL_areVoid 156 = .ok (.iinc 9 1, 3) := by decide +kernel
theorem dL_areVoid_159 : decode cL_areVoid 159 = .ok (.goto (-91), 3) := by decide +kernel
theorem dL_areVoid_162 : decode cL_areVoid 162 = .ok (.aload_n 0, 1) := by decide +kernel
theorem dL_areVoid_163 : decode cL_areVoid 163 = .ok (.iload_n 3, 1) := by decide +kernel
theorem dL_areVoid_164 : decode cL_areVoid 164 = .ok (.iload 6, 2) := by decide +kernel
theorem dL_areVoid_166 : decode cL_areVoid 166 = .ok (.invokevirtual 75, 3) := by decide +kernel
theorem dL_areVoid_169 : decode cL_areVoid 169 = .ok (.ifCond .eq 8, 3) := by decide +kernel
theorem dL_areVoid_172 : decode cL_areVoid 172 = .ok (.iload 4, 2) := by decide +kernel
theorem dL_areVoid_174 : decode cL_areVoid 174 = .ok (.ifCond .le 58, 3) := by decide +kernel
theorem dL_areVoid_177 : decode cL_areVoid 177 = .ok (.aload_n 0, 1) := by decide +kernel
theorem dL_areVoid_178 : decode cL_areVoid 178 = .ok (.iload_n 3, 1) := by decide +kernel
theorem dL_areVoid_179 : decode cL_areVoid 179 = .ok (.iload 6, 2) := by decide +kernel
theorem dL_areVoid_181 : decode cL_areVoid 181 = .ok (.invokevirtual 78, 3) := by decide +kernel
theorem dL_areVoid_184 : decode cL_areVoid 184 = .ok (.aload_n 0, 1) := by decide +kernel
theorem dL_areVoid_185 : decode cL_areVoid 185 = .ok (.iload_n 3, 1) := by decide +kernel
theorem dL_areVoid_186 : decode cL_areVoid 186 = .ok (.iload 6, 2) := by decide +kernel
theorem dL_areVoid_188 : decode cL_areVoid 188 = .ok (.invokevirtual 62, 3) := by decide +kernel
theorem dL_areVoid_191 : decode cL_areVoid 191 = .ok (.ifCond .lt 22, 3) := by decide +kernel
theorem dL_areVoid_194 : decode cL_areVoid 194 = .ok (.iload 7, 2) := by decide +kernel
theorem dL_areVoid_196 : decode cL_areVoid 196 = .ok (.ifCond .ne 13, 3) := by decide +kernel
theorem dL_areVoid_199 : decode cL_areVoid 199 = .ok (.aload_n 0, 1) := by decide +kernel
theorem dL_areVoid_200 : decode cL_areVoid 200 = .ok (.iload_n 3, 1) := by decide +kernel
theorem dL_areVoid_201 : decode cL_areVoid 201 = .ok (.iload 6, 2) := by decide +kernel
theorem dL_areVoid_203 : decode cL_areVoid 203 = .ok (.invokevirtual 75, 3) := by decide +kernel
theorem dL_areVoid_206 : decode cL_areVoid 206 = .ok (.ifCond .eq 7, 3) := by decide +kernel
theorem dL_areVoid_209 : decode cL_areVoid 209 = .ok (.iconst 1, 1) := by decide +kernel
theorem dL_areVoid_210 : decode cL_areVoid 210 = .ok (.goto 4, 3) := by decide +kernel
theorem dL_areVoid_213 : decode cL_areVoid 213 = .ok (.iconst 0, 1) := by decide +kernel
theorem dL_areVoid_214 : decode cL_areVoid 214 = .ok (.if_icmp .ne 18, 3) := by decide +kernel
theorem dL_areVoid_217 : decode cL_areVoid 217 = .ok (.aload_n 0, 1) := by decide +kernel
theorem dL_areVoid_218 : decode cL_areVoid 218 = .ok (.iload 6, 2) := by decide +kernel
theorem dL_areVoid_220 : decode cL_areVoid 220 = .ok (.invokevirtual 81, 3) := by decide +kernel
theorem dL_areVoid_223 : decode cL_areVoid 223 = .ok (.iload 8, 2) := by decide +kernel
theorem dL_areVoid_225 : decode cL_areVoid 225 = .ok (.if_icmp .ne 7, 3) := by decide +kernel
theorem dL_areVoid_228 : decode cL_areVoid 228 = .ok (.iconst 1, 1) := by decide +kernel
theorem dL_areVoid_229 : decode cL_areVoid 229 = .ok (.goto 4, 3) := by decide +kernel
theorem dL_areVoid_232 : decode cL_areVoid 232 = .ok (.iconst 0, 1) := by decide +kernel
theorem dL_areVoid_233 : decode cL_areVoid 233 = .ok (.istore 5, 2) := by decide +kernel
theorem dL_areVoid_235 : decode cL_areVoid 235 = .ok (.iinc 6 1, 3) := by decide +kernel
theorem dL_areVoid_238 : decode cL_areVoid 238 = .ok (.goto (-192), 3) := by decide +kernel
theorem dL_areVoid_241 : decode cL_areVoid 241 = .ok (.iload 5, 2) := by decide +kernel
theorem dL_areVoid_243 : decode cL_areVoid 243 = .ok (.ireturn, 1) := by decide +kernel
theorem ck_L_last : CKg yL_last (Cond.code yL_last cL_last 6 (some .int)) 3 := ⟨v_689, w_60, ⟨by decide +kernel, by decide +kernel⟩, by decide +kernel, v_688⟩
theorem ck_L_all : CKg yL_all (Cond.code yL_all cL_all 6 (some .long)) 2 := ⟨v_695, w_60, ⟨by decide +kernel, by decide +kernel⟩, by decide +kernel, v_694⟩
theorem ck_L_areLinks : CKg yL_areLinks (Cond.code yL_areLinks cL_areLinks 12 (some .boolean)) 7 := ⟨v_670, w_60, ⟨by decide +kernel, by decide +kernel⟩, by decide +kernel, v_669⟩
theorem ck_L_areVoid : CKg yL_areVoid (Cond.code yL_areVoid cL_areVoid 10 (some .boolean)) 4 := ⟨v_679, w_60, ⟨by decide +kernel, by decide +kernel⟩, by decide +kernel, v_678⟩
set_option maxHeartbeats 8000000 in
set_option maxRecDepth 100000 in
theorem t_last {l : Launch} (hfl : l.flags = flags0) {D : va_G} {cI cZ cL : ClassId} {ad aa : Nat → Nat} {fa S : Mem} {m0 m1 : Nat} (hD : va_D (aC ad cI) (wC ad cI mem0)) (hA : ∀ q, aW (wA aa cI mem0) q → ¬ aC ad cI q) (hfa : FA fa m0 m1) (hJ : JS S m0 m1) (tm : Nat) (htm : tm < m1) :
    GM l D cI cZ cL ad aa fa S yL_last [Cond.code yL_last cL_last 6 (some .int)] 8 0 [.ref (ad 0), .ref (aa 5), .int (nI tm)] m0 m1 (pI) := by
  refine GM.of (by decide) (Nat.le_of_ble_eq_true rfl) hfl hD hA hJ ?_
  intro p e s m args below meth c ls hx hb hr hlk hown C hw hl
  obtain ⟨⟨hm0, hm1⟩, ⟨f50, f51, f52, f54⟩, fh, ff, fr⟩ := hfa
  have hl : lv_has ls 6 [(0, .ref (ad 0)), (1, .ref (aa 5)), (2, .int (nI tm))] := hl
  refine lv_iconst (v := 0) hx hb dL_last_0 (by decide) ?_
  refine lv_istore_n (lv' := [(3, .int 0), (0, .ref (ad 0)), (1, .ref (aa 5)), (2, .int (nI tm))]) hx hb dL_last_1 rfl hl (by decide) rfl (fun ls hl => ?_)
  refine lv_iconst (v := 0) hx hb dL_last_2 (by decide) ?_
  refine lv_istore (lv' := [(4, .int 0), (3, .int 0), (0, .ref (ad 0)), (1, .ref (aa 5)), (2, .int (nI tm))]) hx hb dL_last_3 hl (by decide) rfl (fun ls hl => ?_)
  have hj_73_3 : ∀ (S : Mem) (H : Heap) (locs : List Loc), GW D cI (aC ad cI) ad aa fa m0 m1 s S H locs → ∀ z2 : Int32, ∀ ls : Array Slot, lv_has ls 6 [(3, .int z2)] → W p l e (rg 8 0) s m args below meth c H locs (0) (6 * (0)) (MQ below (QG D cI ad m0 m1 (pI)) args s 0 (6 * 0) (aC ad cI)) (F0 m 73 ls []) := by
    intro S H locs hw z2 ls hl
    refine lv_iload_n hx hb dL_last_73 rfl (lv_at hl 0 rfl) ?_
    exact g_ret (mc := 0) hx hb hr hlk hw rfl (⟨_, rfl⟩) ⟨by omega, by omega⟩ dL_last_74
  have hloop_5_5 : ∀ (n i1 : Nat), i1 ≤ m0 → m0 < i1 + n → 0 ≤ i1 → ∀ (S : Mem) (H : Heap) (locs : List Loc), GW D cI (aC ad cI) ad aa fa m0 m1 s S H locs → ∀ z4 : Int32, ∀ ls : Array Slot, lv_has ls 6 [(4, .int (nI i1)), (3, .int z4), (0, .ref (ad 0)), (1, .ref (aa 5)), (2, .int (nI tm))] → W p l e (rg 8 0) s m args below meth c H locs (0) (6 * (0)) (MQ below (QG D cI ad m0 m1 (pI)) args s 0 (6 * 0) (aC ad cI)) (F0 m 5 ls []) := by
    intro n
    induction n with
    | zero => intro i1 h1 h2; exact absurd h2 (by omega)
    | succ n ih_5 =>
      intro i1 hi_5 hn_5 hs_5 S H locs hw z4 ls hl
      refine lv_iload hx hb dL_last_5 (lv_at hl 0 rfl) ?_
      refine lv_aload_n hx hb dL_last_7 rfl (lv_at hl 3 rfl) ?_
      refine lv_iconst (v := 0) hx hb dL_last_8 (by decide) ?_
      refine g_ld (n := 5) (i := 0) C hw 5 rfl (by omega) (Nat.le_of_ble_eq_true rfl) dL_last_9 ?_
      refine q_top (y := nI m0) (f50) ?_
      refine lv_icmp_ge (tgt := 73) hx hb dL_last_10 (by decide) (fun c_6 => ?_) (fun c_6 => ?_)
      · skip
        have c_6 : m0 ≤ i1 := n_le (a := m0) (b := i1) (by omega) (by omega) c_6
        exact hj_73_3 S H locs hw (z4) ls (lv_sub hl [1] rfl)
      · skip
        have c_6 : i1 < m0 := n_nle (a := m0) (b := i1) (by omega) (by omega) c_6
        refine lv_aload_n hx hb dL_last_13 rfl (lv_at hl 2 rfl) ?_
        refine lv_iload_n hx hb dL_last_14 rfl (lv_at hl 4 rfl) ?_
        refine lv_iload hx hb dL_last_15 (lv_at hl 0 rfl) ?_
        refine g_rd (rest := []) C hw (c_X5_solvedAt l D cI cZ cL ad S (nI tm) (nI i1) hw.2.2.2.i0 (nn_solved hw.2.2.2 (by omega) (by omega))) ck_X5_solvedAt v_231 rfl hl.1 rfl ⟨Nat.le_of_ble_eq_true rfl, Nat.le_of_ble_eq_true rfl⟩ (Nat.le_of_ble_eq_true rfl) dL_last_17 ⟨by omega, by omega⟩ ?_
        refine g_any (fun z7 => ?_)
        refine lv_iload_n hx hb dL_last_20 rfl (lv_at hl 1 rfl) ?_
        have hj_48_9 : ∀ (S : Mem) (H : Heap) (locs : List Loc), GW D cI (aC ad cI) ad aa fa m0 m1 s S H locs → ∀ z8 : Bool, ∀ ls : Array Slot, lv_has ls 6 [(4, .int (nI i1)), (3, .int z4), (0, .ref (ad 0)), (1, .ref (aa 5)), (2, .int (nI tm))] → W p l e (rg 8 0) s m args below meth c H locs (0) (6 * (0)) (MQ below (QG D cI ad m0 m1 (pI)) args s 0 (6 * 0) (aC ad cI)) (F0 m 48 ls [.int (bI z8)]) := by
          intro S H locs hw z8 ls hl
          refine lv_istore (lv' := [(5, .int (bI z8)), (4, .int (nI i1)), (3, .int z4), (0, .ref (ad 0)), (1, .ref (aa 5)), (2, .int (nI tm))]) hx hb dL_last_48 hl (by decide) rfl (fun ls hl => ?_)
          refine lv_iload hx hb dL_last_50 (lv_at hl 0 rfl) ?_
          have hj_66_11 : ∀ (S : Mem) (H : Heap) (locs : List Loc), GW D cI (aC ad cI) ad aa fa m0 m1 s S H locs → ∀ z10 : Int32, ∀ ls : Array Slot, lv_has ls 6 [(4, .int (nI i1)), (0, .ref (ad 0)), (1, .ref (aa 5)), (2, .int (nI tm))] → W p l e (rg 8 0) s m args below meth c H locs (0) (6 * (0)) (MQ below (QG D cI ad m0 m1 (pI)) args s 0 (6 * 0) (aC ad cI)) (F0 m 66 ls [.int z10]) := by
            intro S H locs hw z10 ls hl
            refine lv_istore_n (lv' := [(3, .int z10), (4, .int (nI i1)), (0, .ref (ad 0)), (1, .ref (aa 5)), (2, .int (nI tm))]) hx hb dL_last_66 rfl hl (by decide) rfl (fun ls hl => ?_)
            refine lv_iinc (v := nI (i1 + 1)) (lv' := [(4, .int (nI (i1 + 1))), (3, .int z10), (0, .ref (ad 0)), (1, .ref (aa 5)), (2, .int (nI tm))]) hx hb dL_last_67 hl (k := 1) rfl (nI_1 i1) (by decide) rfl (fun ls hl => ?_)
            refine lv_goto (tgt := 5) hx hb dL_last_70 (by decide) ?_
            exact ih_5 (i1 + 1) (by omega) (by omega) (by omega) S H locs hw (z10) ls (lv_sub hl [0, 1, 2, 3, 4] rfl)
          refine lv_if_eq (tgt := 65) hx hb dL_last_52 (by decide) (fun c_12 => ?_) (fun c_12 => ?_)
          · skip
            have c_12 : z8 = false := b_f c_12
            subst c_12
            refine lv_iload_n hx hb dL_last_65 rfl (lv_at hl 2 rfl) ?_
            exact hj_66_11 S H locs hw (z4) ls (lv_sub hl [1, 3, 4, 5] rfl)
          · skip
            have c_12 : z8 = true := b_t c_12
            subst c_12
            refine lv_aload_n hx hb dL_last_55 rfl (lv_at hl 3 rfl) ?_
            refine lv_iload_n hx hb dL_last_56 rfl (lv_at hl 5 rfl) ?_
            refine lv_iload hx hb dL_last_57 (lv_at hl 1 rfl) ?_
            refine g_rd (rest := []) C hw (c_X5_solvedAt l D cI cZ cL ad S (nI tm) (nI i1) hw.2.2.2.i0 (nn_solved hw.2.2.2 (by omega) (by omega))) ck_X5_solvedAt v_231 rfl hl.1 rfl ⟨Nat.le_of_ble_eq_true rfl, Nat.le_of_ble_eq_true rfl⟩ (Nat.le_of_ble_eq_true rfl) dL_last_59 ⟨by omega, by omega⟩ ?_
            refine g_any (fun z13 => ?_)
            refine lv_goto (tgt := 66) hx hb dL_last_62 (by decide) ?_
            exact hj_66_11 S H locs hw (z13) ls (lv_sub hl [1, 3, 4, 5] rfl)
        refine lv_icmp_le (tgt := 47) hx hb dL_last_21 (by decide) (fun c_14 => ?_) (fun c_14 => ?_)
        · skip
          refine lv_iconst (v := 0) hx hb dL_last_47 (by decide) ?_
          exact hj_48_9 S H locs hw false ls (lv_sub hl [0, 1, 2, 3, 4] rfl)
        · skip
          refine lv_aload_n hx hb dL_last_24 rfl (lv_at hl 2 rfl) ?_
          refine lv_iload_n hx hb dL_last_25 rfl (lv_at hl 4 rfl) ?_
          refine lv_iload hx hb dL_last_26 (lv_at hl 0 rfl) ?_
          refine g_rd (rest := []) C hw (c_X5_isVoid l D cI cZ cL ad S (nI tm) (nI i1) hw.2.2.2.i0 (nn_void hw.2.2.2 (by omega) (by omega))) ck_X5_isVoid v_565 rfl hl.1 rfl ⟨Nat.le_of_ble_eq_true rfl, Nat.le_of_ble_eq_true rfl⟩ (Nat.le_of_ble_eq_true rfl) dL_last_28 ⟨by omega, by omega⟩ ?_
          refine g_any (fun z15 => ?_)
          refine lv_if_ne (tgt := 47) hx hb dL_last_31 (by decide) (fun c_16 => ?_) (fun c_16 => ?_)
          · skip
            refine lv_iconst (v := 0) hx hb dL_last_47 (by decide) ?_
            exact hj_48_9 S H locs hw false ls (lv_sub hl [0, 1, 2, 3, 4] rfl)
          · skip
            refine lv_aload_n hx hb dL_last_34 rfl (lv_at hl 2 rfl) ?_
            refine lv_iload hx hb dL_last_35 (lv_at hl 0 rfl) ?_
            refine g_rd (rest := []) C hw (c_X5_isFree l D cI cZ cL ad S (nI i1) hw.2.2.2.i0 (nn_free hw.2.2.2 (by omega))) ck_X5_isFree v_319 rfl hl.1 rfl ⟨Nat.le_of_ble_eq_true rfl, Nat.le_of_ble_eq_true rfl⟩ (Nat.le_of_ble_eq_true rfl) dL_last_37 ⟨by omega, by omega⟩ ?_
            refine g_any (fun z17 => ?_)
            refine lv_if_ne (tgt := 47) hx hb dL_last_40 (by decide) (fun c_18 => ?_) (fun c_18 => ?_)
            · skip
              refine lv_iconst (v := 0) hx hb dL_last_47 (by decide) ?_
              exact hj_48_9 S H locs hw false ls (lv_sub hl [0, 1, 2, 3, 4] rfl)
            · skip
              refine lv_iconst (v := 1) hx hb dL_last_43 (by decide) ?_
              refine lv_goto (tgt := 48) hx hb dL_last_44 (by decide) ?_
              exact hj_48_9 S H locs hw true ls (lv_sub hl [0, 1, 2, 3, 4] rfl)
  exact hloop_5_5 (m0 + 1) (0) (by omega) (by omega) (by omega) S s.heap [] hw (0) ls (lv_sub hl [0, 1, 2, 3, 4] rfl)

set_option maxHeartbeats 8000000 in
set_option maxRecDepth 100000 in
theorem t_all {l : Launch} (hfl : l.flags = flags0) {D : va_G} {cI cZ cL : ClassId} {ad aa : Nat → Nat} {fa S : Mem} {m0 m1 : Nat} (hD : va_D (aC ad cI) (wC ad cI mem0)) (hA : ∀ q, aW (wA aa cI mem0) q → ¬ aC ad cI q) (hfa : FA fa m0 m1) (hJ : JS S m0 m1) :
    GM l D cI cZ cL ad aa fa S yL_all [Cond.code yL_all cL_all 6 (some .long)] 8 0 [.ref (ad 0), .ref (aa 5)] m0 m1 (pL) := by
  refine GM.of (by decide) (Nat.le_of_ble_eq_true rfl) hfl hD hA hJ ?_
  intro p e s m args below meth c ls hx hb hr hlk hown C hw hl
  obtain ⟨⟨hm0, hm1⟩, ⟨f50, f51, f52, f54⟩, fh, ff, fr⟩ := hfa
  have hl : lv_has ls 6 [(0, .ref (ad 0)), (1, .ref (aa 5))] := hl
  refine lv_aload_n hx hb dL_all_0 rfl (lv_at hl 0 rfl) ?_
  refine g_rd (rest := []) C hw (c_X5_now l D cI cZ cL ad S hw.2.2.2.i0) ck_X5_now v_227 rfl hl.1 rfl ⟨Nat.le_of_ble_eq_true rfl, Nat.le_of_ble_eq_true rfl⟩ (Nat.le_of_ble_eq_true rfl) dL_all_1 ⟨by omega, by omega⟩ ?_
  refine g_any (fun z1 => ?_)
  refine lv_i2l hx hb dL_all_4 rfl ?_
  refine g_anyl (fun z2 => ?_)
  refine lv_lstore_n (lv' := [(2, .long z2), (0, .ref (ad 0)), (1, .ref (aa 5))]) hx hb dL_all_5 rfl hl (by decide) rfl (fun ls hl => ?_)
  refine lv_iconst (v := 0) hx hb dL_all_6 (by decide) ?_
  refine lv_istore (lv' := [(4, .int 0), (2, .long z2), (0, .ref (ad 0)), (1, .ref (aa 5))]) hx hb dL_all_7 hl (by decide) rfl (fun ls hl => ?_)
  have hj_127_5 : ∀ (S : Mem) (H : Heap) (locs : List Loc), GW D cI (aC ad cI) ad aa fa m0 m1 s S H locs → ∀ z4 : Int64, ∀ ls : Array Slot, lv_has ls 6 [(2, .long z4), (0, .ref (ad 0)), (1, .ref (aa 5))] → W p l e (rg 8 0) s m args below meth c H locs (0) (6 * (0)) (MQ below (QG D cI ad m0 m1 (pL)) args s 0 (6 * 0) (aC ad cI)) (F0 m 127 ls []) := by
    intro S H locs hw z4 ls hl
    refine lv_iconst (v := 0) hx hb dL_all_127 (by decide) ?_
    refine lv_istore (lv' := [(4, .int 0), (2, .long z4), (0, .ref (ad 0)), (1, .ref (aa 5))]) hx hb dL_all_128 hl (by decide) rfl (fun ls hl => ?_)
    have hj_175_8 : ∀ (S : Mem) (H : Heap) (locs : List Loc), GW D cI (aC ad cI) ad aa fa m0 m1 s S H locs → ∀ z7 : Int64, ∀ ls : Array Slot, lv_has ls 6 [(2, .long z7)] → W p l e (rg 8 0) s m args below meth c H locs (0) (6 * (0)) (MQ below (QG D cI ad m0 m1 (pL)) args s 0 (6 * 0) (aC ad cI)) (F0 m 175 ls []) := by
      intro S H locs hw z7 ls hl
      refine lv_lload_n hx hb dL_all_175 rfl (lv_at hl 0 rfl) ?_
      exact g_lret (mc := 0) hx hb hr hlk hw ⟨_, rfl⟩ ⟨by omega, by omega⟩ dL_all_176
    have hloop_130_10 : ∀ (n i6 : Nat), i6 ≤ m0 → m0 < i6 + n → 0 ≤ i6 → ∀ (S : Mem) (H : Heap) (locs : List Loc), GW D cI (aC ad cI) ad aa fa m0 m1 s S H locs → ∀ z9 : Int64, ∀ ls : Array Slot, lv_has ls 6 [(4, .int (nI i6)), (2, .long z9), (0, .ref (ad 0)), (1, .ref (aa 5))] → W p l e (rg 8 0) s m args below meth c H locs (0) (6 * (0)) (MQ below (QG D cI ad m0 m1 (pL)) args s 0 (6 * 0) (aC ad cI)) (F0 m 130 ls []) := by
      intro n
      induction n with
      | zero => intro i6 h1 h2; exact absurd h2 (by omega)
      | succ n ih_130 =>
        intro i6 hi_130 hn_130 hs_130 S H locs hw z9 ls hl
        refine lv_iload hx hb dL_all_130 (lv_at hl 0 rfl) ?_
        refine lv_aload_n hx hb dL_all_132 rfl (lv_at hl 3 rfl) ?_
        refine lv_iconst (v := 0) hx hb dL_all_133 (by decide) ?_
        refine g_ld (n := 5) (i := 0) C hw 5 rfl (by omega) (Nat.le_of_ble_eq_true rfl) dL_all_134 ?_
        refine q_top (y := nI m0) (f50) ?_
        refine lv_icmp_ge (tgt := 175) hx hb dL_all_135 (by decide) (fun c_11 => ?_) (fun c_11 => ?_)
        · skip
          have c_11 : m0 ≤ i6 := n_le (a := m0) (b := i6) (by omega) (by omega) c_11
          exact hj_175_8 S H locs hw z9 ls (lv_sub hl [1] rfl)
        · skip
          have c_11 : i6 < m0 := n_nle (a := m0) (b := i6) (by omega) (by omega) c_11
          refine lv_ldc2 (v := 31) hx hb hown (C.2.1.1.1 _ v_697 args) dL_all_138 ?_
          refine lv_lload_n hx hb dL_all_141 rfl (lv_at hl 1 rfl) ?_
          refine lv_lmul hx hb dL_all_142 ?_
          refine g_anyl (fun z12 => ?_)
          refine lv_aload_n hx hb dL_all_143 rfl (lv_at hl 2 rfl) ?_
          refine lv_iload hx hb dL_all_144 (lv_at hl 0 rfl) ?_
          refine g_rd (rest := [.long z12]) C hw (c_X5_hanging l D cI cZ cL ad S (nI i6) hw.2.2.2.i0 (nn_hang hw.2.2.2 (by omega))) ck_X5_hanging v_578 rfl hl.1 rfl ⟨Nat.le_of_ble_eq_true rfl, Nat.le_of_ble_eq_true rfl⟩ (Nat.le_of_ble_eq_true rfl) dL_all_146 ⟨by omega, by omega⟩ ?_
          refine g_any (fun z13 => ?_)
          refine lv_i2l hx hb dL_all_149 rfl ?_
          refine g_anyl (fun z14 => ?_)
          refine lv_ladd hx hb dL_all_150 ?_
          refine g_anyl (fun z15 => ?_)
          refine lv_aload_n hx hb dL_all_151 rfl (lv_at hl 2 rfl) ?_
          refine lv_iload hx hb dL_all_152 (lv_at hl 0 rfl) ?_
          refine g_rd (rest := [.long z15]) C hw (c_X5_isFree l D cI cZ cL ad S (nI i6) hw.2.2.2.i0 (nn_free hw.2.2.2 (by omega))) ck_X5_isFree v_319 rfl hl.1 rfl ⟨Nat.le_of_ble_eq_true rfl, Nat.le_of_ble_eq_true rfl⟩ (Nat.le_of_ble_eq_true rfl) dL_all_154 ⟨by omega, by omega⟩ ?_
          refine g_any (fun z16 => ?_)
          have hj_167_18 : ∀ (S : Mem) (H : Heap) (locs : List Loc), GW D cI (aC ad cI) ad aa fa m0 m1 s S H locs → ∀ z17 : Int64, ∀ ls : Array Slot, lv_has ls 6 [(4, .int (nI i6)), (0, .ref (ad 0)), (1, .ref (aa 5))] → W p l e (rg 8 0) s m args below meth c H locs (0) (6 * (0)) (MQ below (QG D cI ad m0 m1 (pL)) args s 0 (6 * 0) (aC ad cI)) (F0 m 167 ls [.long z17, .long z15]) := by
            intro S H locs hw z17 ls hl
            refine lv_ladd hx hb dL_all_167 ?_
            refine g_anyl (fun z19 => ?_)
            refine lv_lstore_n (lv' := [(2, .long z19), (4, .int (nI i6)), (0, .ref (ad 0)), (1, .ref (aa 5))]) hx hb dL_all_168 rfl hl (by decide) rfl (fun ls hl => ?_)
            refine lv_iinc (v := nI (i6 + 1)) (lv' := [(4, .int (nI (i6 + 1))), (2, .long z19), (0, .ref (ad 0)), (1, .ref (aa 5))]) hx hb dL_all_169 hl (k := 1) rfl (nI_1 i6) (by decide) rfl (fun ls hl => ?_)
            refine lv_goto (tgt := 130) hx hb dL_all_172 (by decide) ?_
            exact ih_130 (i6 + 1) (by omega) (by omega) (by omega) S H locs hw z19 ls (lv_sub hl [0, 1, 2, 3] rfl)
          refine lv_if_eq (tgt := 166) hx hb dL_all_157 (by decide) (fun c_20 => ?_) (fun c_20 => ?_)
          · skip
            refine lv_lconst (v := 0) hx hb dL_all_166 (by decide) ?_
            exact hj_167_18 S H locs hw 0 ls (lv_sub hl [0, 2, 3] rfl)
          · skip
            refine lv_ldc2 (v := 7) hx hb hown (C.2.1.1.1 _ v_699 args) dL_all_160 ?_
            refine lv_goto (tgt := 167) hx hb dL_all_163 (by decide) ?_
            exact hj_167_18 S H locs hw 7 ls (lv_sub hl [0, 2, 3] rfl)
    exact hloop_130_10 (m0 + 1) (0) (by omega) (by omega) (by omega) S H locs hw z4 ls (lv_sub hl [0, 1, 2, 3] rfl)
  have hloop_9_22 : ∀ (n i3 : Nat), i3 ≤ m1 → m1 < i3 + n → 0 ≤ i3 → ∀ (S : Mem) (H : Heap) (locs : List Loc), GW D cI (aC ad cI) ad aa fa m0 m1 s S H locs → ∀ z21 : Int64, ∀ ls : Array Slot, lv_has ls 6 [(4, .int (nI i3)), (2, .long z21), (0, .ref (ad 0)), (1, .ref (aa 5))] → W p l e (rg 8 0) s m args below meth c H locs (0) (6 * (0)) (MQ below (QG D cI ad m0 m1 (pL)) args s 0 (6 * 0) (aC ad cI)) (F0 m 9 ls []) := by
    intro n
    induction n with
    | zero => intro i3 h1 h2; exact absurd h2 (by omega)
    | succ n ih_9 =>
      intro i3 hi_9 hn_9 hs_9 S H locs hw z21 ls hl
      refine lv_iload hx hb dL_all_9 (lv_at hl 0 rfl) ?_
      refine lv_aload_n hx hb dL_all_11 rfl (lv_at hl 3 rfl) ?_
      refine lv_iconst (v := 1) hx hb dL_all_12 (by decide) ?_
      refine g_ld (n := 5) (i := 1) C hw 5 rfl (by omega) (Nat.le_of_ble_eq_true rfl) dL_all_13 ?_
      refine q_top (y := nI m1) (f51) ?_
      refine lv_icmp_ge (tgt := 127) hx hb dL_all_14 (by decide) (fun c_23 => ?_) (fun c_23 => ?_)
      · skip
        have c_23 : m1 ≤ i3 := n_le (a := m1) (b := i3) (by omega) (by omega) c_23
        exact hj_127_5 S H locs hw z21 ls (lv_sub hl [1, 2, 3] rfl)
      · skip
        have c_23 : i3 < m1 := n_nle (a := m1) (b := i3) (by omega) (by omega) c_23
        refine lv_ldc2 (v := 1000003) hx hb hown (C.2.1.1.1 _ v_696 args) dL_all_17 ?_
        refine lv_lload_n hx hb dL_all_20 rfl (lv_at hl 1 rfl) ?_
        refine lv_lmul hx hb dL_all_21 ?_
        refine g_anyl (fun z24 => ?_)
        refine lv_aload_n hx hb dL_all_22 rfl (lv_at hl 2 rfl) ?_
        refine lv_iload hx hb dL_all_23 (lv_at hl 0 rfl) ?_
        refine g_rd (rest := [.long z24]) C hw (c_X5_score l D cI cZ cL ad S (nI i3) hw.2.2.2.i0 (nn_score hw.2.2.2 (by omega))) ck_X5_score v_587 rfl hl.1 rfl ⟨Nat.le_of_ble_eq_true rfl, Nat.le_of_ble_eq_true rfl⟩ (Nat.le_of_ble_eq_true rfl) dL_all_25 ⟨by omega, by omega⟩ ?_
        refine g_any (fun z25 => ?_)
        refine lv_i2l hx hb dL_all_28 rfl ?_
        refine g_anyl (fun z26 => ?_)
        refine lv_ladd hx hb dL_all_29 ?_
        refine g_anyl (fun z27 => ?_)
        refine lv_ldc2 (v := 31) hx hb hown (C.2.1.1.1 _ v_697 args) dL_all_30 ?_
        refine lv_aload_n hx hb dL_all_33 rfl (lv_at hl 2 rfl) ?_
        refine lv_iload hx hb dL_all_34 (lv_at hl 0 rfl) ?_
        refine g_wr (rest := [.long 31, .long z27]) C hw (c_X5_place l D cI cZ cL ad S (aC ad cI) (wC_D C.2.2.1) (nI i3) hw.2.2.2.i0 (nn_place hw.2.2.2 (by omega))) (js_place hw.2.2.2 (by omega)) ck_X5_place v_640 rfl hl.1 rfl ⟨Nat.le_of_ble_eq_true rfl, Nat.le_of_ble_eq_true rfl⟩ (Nat.le_of_ble_eq_true rfl) dL_all_36 ⟨by omega, by omega⟩ (fun S H locs hle hw => ?_)
        refine g_any (fun z28 => ?_)
        refine lv_i2l hx hb dL_all_39 rfl ?_
        refine g_anyl (fun z29 => ?_)
        refine lv_lmul hx hb dL_all_40 ?_
        refine g_anyl (fun z30 => ?_)
        refine lv_ladd hx hb dL_all_41 ?_
        refine g_anyl (fun z31 => ?_)
        refine lv_ldc2 (v := 1009) hx hb hown (C.2.1.1.1 _ v_698 args) dL_all_42 ?_
        refine lv_aload_n hx hb dL_all_45 rfl (lv_at hl 2 rfl) ?_
        refine lv_iload hx hb dL_all_46 (lv_at hl 0 rfl) ?_
        refine g_wr (rest := [.long 1009, .long z31]) C hw (c_X5_teamAt l D cI cZ cL ad S (aC ad cI) (wC_D C.2.2.1) (nI i3) hw.2.2.2.i0) (js_at hw.2.2.2) ck_X5_teamAt v_683 rfl hl.1 rfl ⟨Nat.le_of_ble_eq_true rfl, Nat.le_of_ble_eq_true rfl⟩ (Nat.le_of_ble_eq_true rfl) dL_all_48 ⟨by omega, by omega⟩ (fun S H locs hle hw => ?_)
        refine g_any (fun z32 => ?_)
        refine lv_i2l hx hb dL_all_51 rfl ?_
        refine g_anyl (fun z33 => ?_)
        refine lv_lmul hx hb dL_all_52 ?_
        refine g_anyl (fun z34 => ?_)
        refine lv_ladd hx hb dL_all_53 ?_
        refine g_anyl (fun z35 => ?_)
        refine lv_lstore_n (lv' := [(2, .long z35), (4, .int (nI i3)), (0, .ref (ad 0)), (1, .ref (aa 5))]) hx hb dL_all_54 rfl hl (by decide) rfl (fun ls hl => ?_)
        refine lv_iconst (v := 0) hx hb dL_all_55 (by decide) ?_
        refine lv_istore (lv' := [(5, .int 0), (2, .long z35), (4, .int (nI i3)), (0, .ref (ad 0)), (1, .ref (aa 5))]) hx hb dL_all_56 hl (by decide) rfl (fun ls hl => ?_)
        have hj_121_38 : ∀ (S : Mem) (H : Heap) (locs : List Loc), GW D cI (aC ad cI) ad aa fa m0 m1 s S H locs → ∀ z37 : Int64, ∀ ls : Array Slot, lv_has ls 6 [(2, .long z37), (4, .int (nI i3)), (0, .ref (ad 0)), (1, .ref (aa 5))] → W p l e (rg 8 0) s m args below meth c H locs (0) (6 * (0)) (MQ below (QG D cI ad m0 m1 (pL)) args s 0 (6 * 0) (aC ad cI)) (F0 m 121 ls []) := by
          intro S H locs hw z37 ls hl
          refine lv_iinc (v := nI (i3 + 1)) (lv' := [(4, .int (nI (i3 + 1))), (2, .long z37), (0, .ref (ad 0)), (1, .ref (aa 5))]) hx hb dL_all_121 hl (k := 1) rfl (nI_1 i3) (by decide) rfl (fun ls hl => ?_)
          refine lv_goto (tgt := 9) hx hb dL_all_124 (by decide) ?_
          exact ih_9 (i3 + 1) (by omega) (by omega) (by omega) S H locs hw z37 ls (lv_sub hl [0, 1, 2, 3] rfl)
        have hloop_58_40 : ∀ (n i36 : Nat), i36 ≤ m0 → m0 < i36 + n → 0 ≤ i36 → ∀ (S : Mem) (H : Heap) (locs : List Loc), GW D cI (aC ad cI) ad aa fa m0 m1 s S H locs → ∀ z39 : Int64, ∀ ls : Array Slot, lv_has ls 6 [(5, .int (nI i36)), (2, .long z39), (4, .int (nI i3)), (0, .ref (ad 0)), (1, .ref (aa 5))] → W p l e (rg 8 0) s m args below meth c H locs (0) (6 * (0)) (MQ below (QG D cI ad m0 m1 (pL)) args s 0 (6 * 0) (aC ad cI)) (F0 m 58 ls []) := by
          intro n
          induction n with
          | zero => intro i36 h1 h2; exact absurd h2 (by omega)
          | succ n ih_58 =>
            intro i36 hi_58 hn_58 hs_58 S H locs hw z39 ls hl
            refine lv_iload hx hb dL_all_58 (lv_at hl 0 rfl) ?_
            refine lv_aload_n hx hb dL_all_60 rfl (lv_at hl 4 rfl) ?_
            refine lv_iconst (v := 0) hx hb dL_all_61 (by decide) ?_
            refine g_ld (n := 5) (i := 0) C hw 5 rfl (by omega) (Nat.le_of_ble_eq_true rfl) dL_all_62 ?_
            refine q_top (y := nI m0) (f50) ?_
            refine lv_icmp_ge (tgt := 121) hx hb dL_all_63 (by decide) (fun c_41 => ?_) (fun c_41 => ?_)
            · skip
              have c_41 : m0 ≤ i36 := n_le (a := m0) (b := i36) (by omega) (by omega) c_41
              exact hj_121_38 S H locs hw z39 ls (lv_sub hl [1, 2, 3, 4] rfl)
            · skip
              have c_41 : i36 < m0 := n_nle (a := m0) (b := i36) (by omega) (by omega) c_41
              refine lv_ldc2 (v := 31) hx hb hown (C.2.1.1.1 _ v_697 args) dL_all_66 ?_
              refine lv_lload_n hx hb dL_all_69 rfl (lv_at hl 1 rfl) ?_
              refine lv_lmul hx hb dL_all_70 ?_
              refine g_anyl (fun z42 => ?_)
              refine lv_aload_n hx hb dL_all_71 rfl (lv_at hl 3 rfl) ?_
              refine lv_iload hx hb dL_all_72 (lv_at hl 2 rfl) ?_
              refine lv_iload hx hb dL_all_74 (lv_at hl 0 rfl) ?_
              refine g_rd (rest := [.long z42]) C hw (c_X5_solvedAt l D cI cZ cL ad S (nI i3) (nI i36) hw.2.2.2.i0 (nn_solved hw.2.2.2 (by omega) (by omega))) ck_X5_solvedAt v_231 rfl hl.1 rfl ⟨Nat.le_of_ble_eq_true rfl, Nat.le_of_ble_eq_true rfl⟩ (Nat.le_of_ble_eq_true rfl) dL_all_76 ⟨by omega, by omega⟩ ?_
              refine g_any (fun z43 => ?_)
              refine lv_i2l hx hb dL_all_79 rfl ?_
              refine g_anyl (fun z44 => ?_)
              refine lv_ladd hx hb dL_all_80 ?_
              refine g_anyl (fun z45 => ?_)
              refine lv_aload_n hx hb dL_all_81 rfl (lv_at hl 3 rfl) ?_
              refine lv_iload hx hb dL_all_82 (lv_at hl 2 rfl) ?_
              refine lv_iload hx hb dL_all_84 (lv_at hl 0 rfl) ?_
              refine g_rd (rest := [.long z45]) C hw (c_X5_isVoid l D cI cZ cL ad S (nI i3) (nI i36) hw.2.2.2.i0 (nn_void hw.2.2.2 (by omega) (by omega))) ck_X5_isVoid v_565 rfl hl.1 rfl ⟨Nat.le_of_ble_eq_true rfl, Nat.le_of_ble_eq_true rfl⟩ (Nat.le_of_ble_eq_true rfl) dL_all_86 ⟨by omega, by omega⟩ ?_
              refine g_any (fun z46 => ?_)
              have hj_99_48 : ∀ (S : Mem) (H : Heap) (locs : List Loc), GW D cI (aC ad cI) ad aa fa m0 m1 s S H locs → ∀ z47 : Int64, ∀ ls : Array Slot, lv_has ls 6 [(5, .int (nI i36)), (4, .int (nI i3)), (0, .ref (ad 0)), (1, .ref (aa 5))] → W p l e (rg 8 0) s m args below meth c H locs (0) (6 * (0)) (MQ below (QG D cI ad m0 m1 (pL)) args s 0 (6 * 0) (aC ad cI)) (F0 m 99 ls [.long z47, .long z45]) := by
                intro S H locs hw z47 ls hl
                refine lv_ladd hx hb dL_all_99 ?_
                refine g_anyl (fun z49 => ?_)
                refine lv_ldc2 (v := 257) hx hb hown (C.2.1.1.1 _ v_700 args) dL_all_100 ?_
                refine lv_aload_n hx hb dL_all_103 rfl (lv_at hl 2 rfl) ?_
                refine lv_iload hx hb dL_all_104 (lv_at hl 1 rfl) ?_
                refine lv_iload hx hb dL_all_106 (lv_at hl 0 rfl) ?_
                refine g_rd (rest := [.long 257, .long z49]) C hw (c_X5_openedAt l D cI cZ cL ad S (nI i3) (nI i36) hw.2.2.2.i0 (nn_opened hw.2.2.2 (by omega) (by omega))) ck_X5_openedAt v_540 rfl hl.1 rfl ⟨Nat.le_of_ble_eq_true rfl, Nat.le_of_ble_eq_true rfl⟩ (Nat.le_of_ble_eq_true rfl) dL_all_108 ⟨by omega, by omega⟩ ?_
                refine g_any (fun z50 => ?_)
                refine lv_i2l hx hb dL_all_111 rfl ?_
                refine g_anyl (fun z51 => ?_)
                refine lv_lmul hx hb dL_all_112 ?_
                refine g_anyl (fun z52 => ?_)
                refine lv_ladd hx hb dL_all_113 ?_
                refine g_anyl (fun z53 => ?_)
                refine lv_lstore_n (lv' := [(2, .long z53), (5, .int (nI i36)), (4, .int (nI i3)), (0, .ref (ad 0)), (1, .ref (aa 5))]) hx hb dL_all_114 rfl hl (by decide) rfl (fun ls hl => ?_)
                refine lv_iinc (v := nI (i36 + 1)) (lv' := [(5, .int (nI (i36 + 1))), (2, .long z53), (4, .int (nI i3)), (0, .ref (ad 0)), (1, .ref (aa 5))]) hx hb dL_all_115 hl (k := 1) rfl (nI_1 i36) (by decide) rfl (fun ls hl => ?_)
                refine lv_goto (tgt := 58) hx hb dL_all_118 (by decide) ?_
                exact ih_58 (i36 + 1) (by omega) (by omega) (by omega) S H locs hw z53 ls (lv_sub hl [0, 1, 2, 3, 4] rfl)
              refine lv_if_eq (tgt := 98) hx hb dL_all_89 (by decide) (fun c_54 => ?_) (fun c_54 => ?_)
              · skip
                refine lv_lconst (v := 0) hx hb dL_all_98 (by decide) ?_
                exact hj_99_48 S H locs hw 0 ls (lv_sub hl [0, 2, 3, 4] rfl)
              · skip
                refine lv_ldc2 (v := 7) hx hb hown (C.2.1.1.1 _ v_699 args) dL_all_92 ?_
                refine lv_goto (tgt := 99) hx hb dL_all_95 (by decide) ?_
                exact hj_99_48 S H locs hw 7 ls (lv_sub hl [0, 2, 3, 4] rfl)
        exact hloop_58_40 (m0 + 1) (0) (by omega) (by omega) (by omega) S H locs hw z35 ls (lv_sub hl [0, 1, 2, 3, 4] rfl)
  exact hloop_9_22 (m1 + 1) (0) (by omega) (by omega) (by omega) S s.heap [] hw z2 ls (lv_sub hl [0, 1, 2, 3] rfl)

set_option maxHeartbeats 8000000 in
set_option maxRecDepth 100000 in
theorem t_areLinks {l : Launch} (hfl : l.flags = flags0) {D : va_G} {cI cZ cL : ClassId} {ad aa : Nat → Nat} {fa S : Mem} {m0 m1 : Nat} (hD : va_D (aC ad cI) (wC ad cI mem0)) (hA : ∀ q, aW (wA aa cI mem0) q → ¬ aC ad cI q) (hfa : FA fa m0 m1) (hJ : JS S m0 m1) (tm : Nat) (htm : tm < m1) (oth : Nat) (hoth : oth < m1) :
    GM l D cI cZ cL ad aa fa S yL_areLinks [Cond.code yL_areLinks cL_areLinks 12 (some .boolean)] 8 0 [.ref (ad 0), .ref (aa 0), .ref (aa 1), .ref (aa 6), .ref (aa 5), .int (nI tm), .int (nI oth)] m0 m1 (pB) := by
  refine GM.of (by decide) (Nat.le_of_ble_eq_true rfl) hfl hD hA hJ ?_
  intro p e s m args below meth c ls hx hb hr hlk hown C hw hl
  obtain ⟨⟨hm0, hm1⟩, ⟨f50, f51, f52, f54⟩, fh, ff, fr⟩ := hfa
  have hl : lv_has ls 12 [(0, .ref (ad 0)), (1, .ref (aa 0)), (2, .ref (aa 1)), (3, .ref (aa 6)), (4, .ref (aa 5)), (5, .int (nI tm)), (6, .int (nI oth))] := hl
  refine lv_iconst (v := 0) hx hb dL_areLinks_0 (by decide) ?_
  refine lv_istore (lv' := [(7, .int 0), (0, .ref (ad 0)), (1, .ref (aa 0)), (2, .ref (aa 1)), (3, .ref (aa 6)), (4, .ref (aa 5)), (5, .int (nI tm)), (6, .int (nI oth))]) hx hb dL_areLinks_1 hl (by decide) rfl (fun ls hl => ?_)
  refine lv_iconst (v := 0) hx hb dL_areLinks_3 (by decide) ?_
  refine lv_istore (lv' := [(8, .int 0), (7, .int 0), (0, .ref (ad 0)), (1, .ref (aa 0)), (2, .ref (aa 1)), (3, .ref (aa 6)), (4, .ref (aa 5)), (5, .int (nI tm)), (6, .int (nI oth))]) hx hb dL_areLinks_4 hl (by decide) rfl (fun ls hl => ?_)
  refine lv_iconst (v := 0) hx hb dL_areLinks_6 (by decide) ?_
  refine lv_istore (lv' := [(9, .int 0), (8, .int 0), (7, .int 0), (0, .ref (ad 0)), (1, .ref (aa 0)), (2, .ref (aa 1)), (3, .ref (aa 6)), (4, .ref (aa 5)), (5, .int (nI tm)), (6, .int (nI oth))]) hx hb dL_areLinks_7 hl (by decide) rfl (fun ls hl => ?_)
  refine lv_iload hx hb dL_areLinks_9 (lv_at hl 0 rfl) ?_
  refine lv_aload hx hb dL_areLinks_11 (lv_at hl 7 rfl) ?_
  refine lv_iconst (v := 2) hx hb dL_areLinks_13 (by decide) ?_
  refine g_ld (n := 5) (i := 2) C hw 5 rfl (by omega) (Nat.le_of_ble_eq_true rfl) dL_areLinks_14 ?_
  refine q_top (y := 0) (f52) ?_
  refine lv_icmp_ge (tgt := 104) hx hb dL_areLinks_15 (by decide) (fun c_1 => ?_) (fun c_1 => ?_)
  · skip
    refine lv_iload hx hb dL_areLinks_104 (lv_at hl 8 rfl) ?_
    refine lv_iload hx hb dL_areLinks_106 (lv_at hl 9 rfl) ?_
    have hj_137_3 : ∀ (S : Mem) (H : Heap) (locs : List Loc), GW D cI (aC ad cI) ad aa fa m0 m1 s S H locs → ∀ z2 : Bool, ∀ ls : Array Slot, lv_has ls 12 [(8, .int 0), (7, .int 0), (0, .ref (ad 0)), (4, .ref (aa 5)), (5, .int (nI tm)), (6, .int (nI oth))] → W p l e (rg 8 0) s m args below meth c H locs (0) (6 * (0)) (MQ below (QG D cI ad m0 m1 (pB)) args s 0 (6 * 0) (aC ad cI)) (F0 m 137 ls [.int (bI z2)]) := by
      intro S H locs hw z2 ls hl
      refine lv_istore (lv' := [(9, .int (bI z2)), (8, .int 0), (7, .int 0), (0, .ref (ad 0)), (4, .ref (aa 5)), (5, .int (nI tm)), (6, .int (nI oth))]) hx hb dL_areLinks_137 hl (by decide) rfl (fun ls hl => ?_)
      refine lv_aload_n hx hb dL_areLinks_139 rfl (lv_at hl 3 rfl) ?_
      refine lv_iload hx hb dL_areLinks_140 (lv_at hl 5 rfl) ?_
      refine lv_iload hx hb dL_areLinks_142 (lv_at hl 6 rfl) ?_
      refine g_rd (rest := []) C hw (c_X5_likeness l D cI cZ cL ad S (nI tm) (nI oth) hw.2.2.2.i0 (nn_like hw.2.2.2 (by omega) (by omega))) ck_X5_likeness v_544 rfl hl.1 rfl ⟨Nat.le_of_ble_eq_true rfl, Nat.le_of_ble_eq_true rfl⟩ (Nat.le_of_ble_eq_true rfl) dL_areLinks_144 ⟨by omega, by omega⟩ ?_
      refine g_any (fun z4 => ?_)
      refine lv_iload hx hb dL_areLinks_147 (lv_at hl 2 rfl) ?_
      have hj_196_6 : ∀ (S : Mem) (H : Heap) (locs : List Loc), GW D cI (aC ad cI) ad aa fa m0 m1 s S H locs → ∀ z5 : Bool, ∀ ls : Array Slot, lv_has ls 12 [(9, .int (bI z2)), (8, .int 0), (0, .ref (ad 0)), (4, .ref (aa 5)), (5, .int (nI tm)), (6, .int (nI oth))] → W p l e (rg 8 0) s m args below meth c H locs (0) (6 * (0)) (MQ below (QG D cI ad m0 m1 (pB)) args s 0 (6 * 0) (aC ad cI)) (F0 m 196 ls [.int (bI z5)]) := by
        intro S H locs hw z5 ls hl
        refine lv_istore (lv' := [(10, .int (bI z5)), (9, .int (bI z2)), (8, .int 0), (0, .ref (ad 0)), (4, .ref (aa 5)), (5, .int (nI tm)), (6, .int (nI oth))]) hx hb dL_areLinks_196 hl (by decide) rfl (fun ls hl => ?_)
        refine lv_iconst (v := 0) hx hb dL_areLinks_198 (by decide) ?_
        refine lv_istore (lv' := [(11, .int 0), (10, .int (bI z5)), (9, .int (bI z2)), (8, .int 0), (0, .ref (ad 0)), (4, .ref (aa 5)), (5, .int (nI tm)), (6, .int (nI oth))]) hx hb dL_areLinks_199 hl (by decide) rfl (fun ls hl => ?_)
        have hj_265_9 : ∀ (S : Mem) (H : Heap) (locs : List Loc), GW D cI (aC ad cI) ad aa fa m0 m1 s S H locs → ∀ z8 : Bool, ∀ ls : Array Slot, lv_has ls 12 [(10, .int (bI z8))] → W p l e (rg 8 0) s m args below meth c H locs (0) (6 * (0)) (MQ below (QG D cI ad m0 m1 (pB)) args s 0 (6 * 0) (aC ad cI)) (F0 m 265 ls []) := by
          intro S H locs hw z8 ls hl
          refine lv_iload hx hb dL_areLinks_265 (lv_at hl 0 rfl) ?_
          exact g_ret (mc := 0) hx hb hr hlk hw (n_bI _) (⟨z8, rfl⟩) ⟨by omega, by omega⟩ dL_areLinks_267
        have hloop_201_11 : ∀ (n i7 : Nat), i7 ≤ m0 → m0 < i7 + n → 0 ≤ i7 → ∀ (S : Mem) (H : Heap) (locs : List Loc), GW D cI (aC ad cI) ad aa fa m0 m1 s S H locs → ∀ z10 : Bool, ∀ ls : Array Slot, lv_has ls 12 [(11, .int (nI i7)), (10, .int (bI z10)), (9, .int (bI z2)), (8, .int 0), (0, .ref (ad 0)), (4, .ref (aa 5)), (5, .int (nI tm)), (6, .int (nI oth))] → W p l e (rg 8 0) s m args below meth c H locs (0) (6 * (0)) (MQ below (QG D cI ad m0 m1 (pB)) args s 0 (6 * 0) (aC ad cI)) (F0 m 201 ls []) := by
          intro n
          induction n with
          | zero => intro i7 h1 h2; exact absurd h2 (by omega)
          | succ n ih_201 =>
            intro i7 hi_201 hn_201 hs_201 S H locs hw z10 ls hl
            refine lv_iload hx hb dL_areLinks_201 (lv_at hl 0 rfl) ?_
            refine lv_aload hx hb dL_areLinks_203 (lv_at hl 5 rfl) ?_
            refine lv_iconst (v := 0) hx hb dL_areLinks_205 (by decide) ?_
            refine g_ld (n := 5) (i := 0) C hw 5 rfl (by omega) (Nat.le_of_ble_eq_true rfl) dL_areLinks_206 ?_
            refine q_top (y := nI m0) (f50) ?_
            refine lv_icmp_ge (tgt := 265) hx hb dL_areLinks_207 (by decide) (fun c_12 => ?_) (fun c_12 => ?_)
            · skip
              have c_12 : m0 ≤ i7 := n_le (a := m0) (b := i7) (by omega) (by omega) c_12
              exact hj_265_9 S H locs hw z10 ls (lv_sub hl [1] rfl)
            · skip
              have c_12 : i7 < m0 := n_nle (a := m0) (b := i7) (by omega) (by omega) c_12
              refine lv_iload hx hb dL_areLinks_210 (lv_at hl 2 rfl) ?_
              refine lv_if_eq (tgt := 265) hx hb dL_areLinks_212 (by decide) (fun c_13 => ?_) (fun c_13 => ?_)
              · skip
                have c_13 : z2 = false := b_f c_13
                subst c_13
                exact hj_265_9 S H locs hw z10 ls (lv_sub hl [1] rfl)
              · skip
                have c_13 : z2 = true := b_t c_13
                subst c_13
                refine lv_iload hx hb dL_areLinks_215 (lv_at hl 1 rfl) ?_
                refine lv_if_eq (tgt := 265) hx hb dL_areLinks_217 (by decide) (fun c_14 => ?_) (fun c_14 => ?_)
                · skip
                  have c_14 : z10 = false := b_f c_14
                  subst c_14
                  exact hj_265_9 S H locs hw false ls (lv_sub hl [1] rfl)
                · skip
                  have c_14 : z10 = true := b_t c_14
                  subst c_14
                  refine lv_iload hx hb dL_areLinks_220 (lv_at hl 3 rfl) ?_
                  refine lv_iload hx hb dL_areLinks_222 (lv_at hl 0 rfl) ?_
                  refine lv_ishr hx hb dL_areLinks_224 ?_
                  refine q_top (y := 0) (shr_0 _) ?_
                  refine lv_iconst (v := 1) hx hb dL_areLinks_225 (by decide) ?_
                  refine lv_iand hx hb dL_areLinks_226 ?_
                  refine q_top (y := 0) (by decide) ?_
                  refine lv_if_eq (tgt := 252) hx hb dL_areLinks_227 (by decide) (fun c_15 => ?_) (fun c_15 => ?_)
                  · skip
                    refine lv_iconst (v := 1) hx hb dL_areLinks_252 (by decide) ?_
                    refine lv_goto (tgt := 257) hx hb dL_areLinks_253 (by decide) ?_
                    refine lv_istore (lv' := [(10, .int 1), (11, .int (nI i7)), (9, .int (bI true)), (8, .int 0), (0, .ref (ad 0)), (4, .ref (aa 5)), (5, .int (nI tm)), (6, .int (nI oth))]) hx hb dL_areLinks_257 hl (by decide) rfl (fun ls hl => ?_)
                    refine lv_iinc (v := nI (i7 + 1)) (lv' := [(11, .int (nI (i7 + 1))), (10, .int 1), (9, .int (bI true)), (8, .int 0), (0, .ref (ad 0)), (4, .ref (aa 5)), (5, .int (nI tm)), (6, .int (nI oth))]) hx hb dL_areLinks_259 hl (k := 1) rfl (nI_1 i7) (by decide) rfl (fun ls hl => ?_)
                    refine lv_goto (tgt := 201) hx hb dL_areLinks_262 (by decide) ?_
                    exact ih_201 (i7 + 1) (by omega) (by omega) (by omega) S H locs hw true ls (lv_sub hl [0, 1, 2, 3, 4, 5, 6, 7] rfl)
                  · skip
                    exact absurd c_15 (by decide)
        exact hloop_201_11 (m0 + 1) (0) (by omega) (by omega) (by omega) S H locs hw z5 ls (lv_sub hl [0, 1, 2, 3, 4, 5, 6, 7] rfl)
      refine lv_icmp_ne (tgt := 195) hx hb dL_areLinks_149 (by decide) (fun c_16 => ?_) (fun c_16 => ?_)
      · skip
        refine lv_iconst (v := 0) hx hb dL_areLinks_195 (by decide) ?_
        exact hj_196_6 S H locs hw false ls (lv_sub hl [0, 1, 3, 4, 5, 6] rfl)
      · skip
        refine lv_aload_n hx hb dL_areLinks_152 rfl (lv_at hl 3 rfl) ?_
        refine lv_iload hx hb dL_areLinks_153 (lv_at hl 6 rfl) ?_
        refine lv_iload hx hb dL_areLinks_155 (lv_at hl 5 rfl) ?_
        refine g_rd (rest := []) C hw (c_X5_likeness l D cI cZ cL ad S (nI oth) (nI tm) hw.2.2.2.i0 (nn_like hw.2.2.2 (by omega) (by omega))) ck_X5_likeness v_544 rfl hl.1 rfl ⟨Nat.le_of_ble_eq_true rfl, Nat.le_of_ble_eq_true rfl⟩ (Nat.le_of_ble_eq_true rfl) dL_areLinks_157 ⟨by omega, by omega⟩ ?_
        refine g_any (fun z17 => ?_)
        refine lv_iload hx hb dL_areLinks_160 (lv_at hl 2 rfl) ?_
        refine lv_icmp_ne (tgt := 195) hx hb dL_areLinks_162 (by decide) (fun c_18 => ?_) (fun c_18 => ?_)
        · skip
          refine lv_iconst (v := 0) hx hb dL_areLinks_195 (by decide) ?_
          exact hj_196_6 S H locs hw false ls (lv_sub hl [0, 1, 3, 4, 5, 6] rfl)
        · skip
          refine lv_aload_n hx hb dL_areLinks_165 rfl (lv_at hl 3 rfl) ?_
          refine lv_iload hx hb dL_areLinks_166 (lv_at hl 5 rfl) ?_
          refine lv_iload hx hb dL_areLinks_168 (lv_at hl 6 rfl) ?_
          refine g_rd (rest := []) C hw (c_X5_areLinked l D cI cZ cL ad S (nI tm) (nI oth) hw.2.2.2.i0 (nn_linked hw.2.2.2 (by omega) (by omega))) ck_X5_areLinked v_549 rfl hl.1 rfl ⟨Nat.le_of_ble_eq_true rfl, Nat.le_of_ble_eq_true rfl⟩ (Nat.le_of_ble_eq_true rfl) dL_areLinks_170 ⟨by omega, by omega⟩ ?_
          refine g_any (fun z19 => ?_)
          refine lv_iload hx hb dL_areLinks_173 (lv_at hl 0 rfl) ?_
          refine lv_icmp_ne (tgt := 195) hx hb dL_areLinks_175 (by decide) (fun c_20 => ?_) (fun c_20 => ?_)
          · skip
            refine lv_iconst (v := 0) hx hb dL_areLinks_195 (by decide) ?_
            exact hj_196_6 S H locs hw false ls (lv_sub hl [0, 1, 3, 4, 5, 6] rfl)
          · skip
            refine lv_aload_n hx hb dL_areLinks_178 rfl (lv_at hl 3 rfl) ?_
            refine lv_iload hx hb dL_areLinks_179 (lv_at hl 6 rfl) ?_
            refine lv_iload hx hb dL_areLinks_181 (lv_at hl 5 rfl) ?_
            refine g_rd (rest := []) C hw (c_X5_areLinked l D cI cZ cL ad S (nI oth) (nI tm) hw.2.2.2.i0 (nn_linked hw.2.2.2 (by omega) (by omega))) ck_X5_areLinked v_549 rfl hl.1 rfl ⟨Nat.le_of_ble_eq_true rfl, Nat.le_of_ble_eq_true rfl⟩ (Nat.le_of_ble_eq_true rfl) dL_areLinks_183 ⟨by omega, by omega⟩ ?_
            refine g_any (fun z21 => ?_)
            refine lv_iload hx hb dL_areLinks_186 (lv_at hl 0 rfl) ?_
            refine lv_icmp_ne (tgt := 195) hx hb dL_areLinks_188 (by decide) (fun c_22 => ?_) (fun c_22 => ?_)
            · skip
              refine lv_iconst (v := 0) hx hb dL_areLinks_195 (by decide) ?_
              exact hj_196_6 S H locs hw false ls (lv_sub hl [0, 1, 3, 4, 5, 6] rfl)
            · skip
              refine lv_iconst (v := 1) hx hb dL_areLinks_191 (by decide) ?_
              refine lv_goto (tgt := 196) hx hb dL_areLinks_192 (by decide) ?_
              exact hj_196_6 S H locs hw true ls (lv_sub hl [0, 1, 3, 4, 5, 6] rfl)
    refine lv_icmp_eq (tgt := 136) hx hb dL_areLinks_108 (by decide) (fun c_23 => ?_) (fun c_23 => ?_)
    · skip
      have c_23 : tm = oth := n_eq (a := tm) (b := oth) (by omega) (by omega) c_23
      refine lv_iconst (v := 0) hx hb dL_areLinks_136 (by decide) ?_
      exact hj_137_3 S s.heap [] hw false ls (lv_sub hl [1, 2, 3, 7, 8, 9] rfl)
    · skip
      have c_23 : ¬ tm = oth := n_ne (a := tm) (b := oth) (by omega) (by omega) c_23
      refine lv_iload hx hb dL_areLinks_111 (lv_at hl 2 rfl) ?_
      refine lv_aload hx hb dL_areLinks_113 (lv_at hl 7 rfl) ?_
      refine lv_iconst (v := 3) hx hb dL_areLinks_115 (by decide) ?_
      refine g_ld (n := 5) (i := 3) C hw 5 rfl (by omega) (Nat.le_of_ble_eq_true rfl) dL_areLinks_116 ?_
      refine g_any (fun z24 => ?_)
      refine lv_icmp_lt (tgt := 136) hx hb dL_areLinks_117 (by decide) (fun c_25 => ?_) (fun c_25 => ?_)
      · skip
        refine lv_iconst (v := 0) hx hb dL_areLinks_136 (by decide) ?_
        exact hj_137_3 S s.heap [] hw false ls (lv_sub hl [1, 2, 3, 7, 8, 9] rfl)
      · skip
        refine lv_aload_n hx hb dL_areLinks_120 rfl (lv_at hl 6 rfl) ?_
        refine lv_iload hx hb dL_areLinks_121 (lv_at hl 8 rfl) ?_
        refine g_ld (n := 5) (i := tm) C hw 6 rfl (by omega) (Nat.le_of_ble_eq_true rfl) dL_areLinks_123 ?_
        refine g_any (fun z26 => ?_)
        refine lv_iload hx hb dL_areLinks_124 (lv_at hl 9 rfl) ?_
        refine lv_ishr hx hb dL_areLinks_126 ?_
        refine g_any (fun z27 => ?_)
        refine lv_iconst (v := 1) hx hb dL_areLinks_127 (by decide) ?_
        refine lv_iand hx hb dL_areLinks_128 ?_
        refine g_any (fun z28 => ?_)
        refine lv_if_ne (tgt := 136) hx hb dL_areLinks_129 (by decide) (fun c_29 => ?_) (fun c_29 => ?_)
        · skip
          refine lv_iconst (v := 0) hx hb dL_areLinks_136 (by decide) ?_
          exact hj_137_3 S s.heap [] hw false ls (lv_sub hl [1, 2, 3, 7, 8, 9] rfl)
        · skip
          refine lv_iconst (v := 1) hx hb dL_areLinks_132 (by decide) ?_
          refine lv_goto (tgt := 137) hx hb dL_areLinks_133 (by decide) ?_
          exact hj_137_3 S s.heap [] hw true ls (lv_sub hl [1, 2, 3, 7, 8, 9] rfl)
  · skip
    exact absurd c_1 (by decide)

set_option maxHeartbeats 8000000 in
set_option maxRecDepth 100000 in
theorem t_areVoid {l : Launch} (hfl : l.flags = flags0) {D : va_G} {cI cZ cL : ClassId} {ad aa : Nat → Nat} {fa S : Mem} {m0 m1 : Nat} (hD : va_D (aC ad cI) (wC ad cI mem0)) (hA : ∀ q, aW (wA aa cI mem0) q → ¬ aC ad cI q) (hfa : FA fa m0 m1) (hJ : JS S m0 m1) (tm : Nat) (htm : tm < m1) :
    GM l D cI cZ cL ad aa fa S yL_areVoid [Cond.code yL_areVoid cL_areVoid 10 (some .boolean)] 8 0 [.ref (ad 0), .ref (aa 0), .ref (aa 5), .int (nI tm)] m0 m1 (pB) := by
  refine GM.of (by decide) (Nat.le_of_ble_eq_true rfl) hfl hD hA hJ ?_
  intro p e s m args below meth c ls hx hb hr hlk hown C hw hl
  obtain ⟨⟨hm0, hm1⟩, ⟨f50, f51, f52, f54⟩, fh, ff, fr⟩ := hfa
  have hl : lv_has ls 10 [(0, .ref (ad 0)), (1, .ref (aa 0)), (2, .ref (aa 5)), (3, .int (nI tm))] := hl
  refine lv_iconst (v := 0) hx hb dL_areVoid_0 (by decide) ?_
  refine lv_istore (lv' := [(4, .int 0), (0, .ref (ad 0)), (1, .ref (aa 0)), (2, .ref (aa 5)), (3, .int (nI tm))]) hx hb dL_areVoid_1 hl (by decide) rfl (fun ls hl => ?_)
  refine lv_iconst (v := 1) hx hb dL_areVoid_3 (by decide) ?_
  refine lv_istore (lv' := [(5, .int 1), (4, .int 0), (0, .ref (ad 0)), (1, .ref (aa 0)), (2, .ref (aa 5)), (3, .int (nI tm))]) hx hb dL_areVoid_4 hl (by decide) rfl (fun ls hl => ?_)
  refine lv_iconst (v := 0) hx hb dL_areVoid_6 (by decide) ?_
  refine lv_istore (lv' := [(6, .int 0), (5, .int 1), (4, .int 0), (0, .ref (ad 0)), (1, .ref (aa 0)), (2, .ref (aa 5)), (3, .int (nI tm))]) hx hb dL_areVoid_7 hl (by decide) rfl (fun ls hl => ?_)
  have hj_43_3 : ∀ (S : Mem) (H : Heap) (locs : List Loc), GW D cI (aC ad cI) ad aa fa m0 m1 s S H locs → ∀ z2 : Int32, ∀ ls : Array Slot, lv_has ls 10 [(5, .int 1), (4, .int z2), (0, .ref (ad 0)), (1, .ref (aa 0)), (2, .ref (aa 5)), (3, .int (nI tm))] → W p l e (rg 8 0) s m args below meth c H locs (0) (6 * (0)) (MQ below (QG D cI ad m0 m1 (pB)) args s 0 (6 * 0) (aC ad cI)) (F0 m 43 ls []) := by
    intro S H locs hw z2 ls hl
    refine lv_iconst (v := 0) hx hb dL_areVoid_43 (by decide) ?_
    refine lv_istore (lv' := [(6, .int 0), (5, .int 1), (4, .int z2), (0, .ref (ad 0)), (1, .ref (aa 0)), (2, .ref (aa 5)), (3, .int (nI tm))]) hx hb dL_areVoid_44 hl (by decide) rfl (fun ls hl => ?_)
    have hj_241_6 : ∀ (S : Mem) (H : Heap) (locs : List Loc), GW D cI (aC ad cI) ad aa fa m0 m1 s S H locs → ∀ z5 : Bool, ∀ ls : Array Slot, lv_has ls 10 [(5, .int (bI z5))] → W p l e (rg 8 0) s m args below meth c H locs (0) (6 * (0)) (MQ below (QG D cI ad m0 m1 (pB)) args s 0 (6 * 0) (aC ad cI)) (F0 m 241 ls []) := by
      intro S H locs hw z5 ls hl
      refine lv_iload hx hb dL_areVoid_241 (lv_at hl 0 rfl) ?_
      exact g_ret (mc := 0) hx hb hr hlk hw (n_bI _) (⟨z5, rfl⟩) ⟨by omega, by omega⟩ dL_areVoid_243
    have hloop_46_8 : ∀ (n i4 : Nat), i4 ≤ m0 → m0 < i4 + n → 0 ≤ i4 → ∀ (S : Mem) (H : Heap) (locs : List Loc), GW D cI (aC ad cI) ad aa fa m0 m1 s S H locs → ∀ z7 : Bool, ∀ ls : Array Slot, lv_has ls 10 [(6, .int (nI i4)), (5, .int (bI z7)), (4, .int z2), (0, .ref (ad 0)), (1, .ref (aa 0)), (2, .ref (aa 5)), (3, .int (nI tm))] → W p l e (rg 8 0) s m args below meth c H locs (0) (6 * (0)) (MQ below (QG D cI ad m0 m1 (pB)) args s 0 (6 * 0) (aC ad cI)) (F0 m 46 ls []) := by
      intro n
      induction n with
      | zero => intro i4 h1 h2; exact absurd h2 (by omega)
      | succ n ih_46 =>
        intro i4 hi_46 hn_46 hs_46 S H locs hw z7 ls hl
        refine lv_iload hx hb dL_areVoid_46 (lv_at hl 0 rfl) ?_
        refine lv_aload_n hx hb dL_areVoid_48 rfl (lv_at hl 5 rfl) ?_
        refine lv_iconst (v := 0) hx hb dL_areVoid_49 (by decide) ?_
        refine g_ld (n := 5) (i := 0) C hw 5 rfl (by omega) (Nat.le_of_ble_eq_true rfl) dL_areVoid_50 ?_
        refine q_top (y := nI m0) (f50) ?_
        refine lv_icmp_ge (tgt := 241) hx hb dL_areVoid_51 (by decide) (fun c_9 => ?_) (fun c_9 => ?_)
        · skip
          have c_9 : m0 ≤ i4 := n_le (a := m0) (b := i4) (by omega) (by omega) c_9
          exact hj_241_6 S H locs hw z7 ls (lv_sub hl [1] rfl)
        · skip
          have c_9 : i4 < m0 := n_nle (a := m0) (b := i4) (by omega) (by omega) c_9
          refine lv_iload hx hb dL_areVoid_54 (lv_at hl 1 rfl) ?_
          refine lv_if_eq (tgt := 241) hx hb dL_areVoid_56 (by decide) (fun c_10 => ?_) (fun c_10 => ?_)
          · skip
            have c_10 : z7 = false := b_f c_10
            subst c_10
            exact hj_241_6 S H locs hw false ls (lv_sub hl [1] rfl)
          · skip
            have c_10 : z7 = true := b_t c_10
            subst c_10
            refine lv_iconst (v := 0) hx hb dL_areVoid_59 (by decide) ?_
            refine lv_istore (lv' := [(7, .int 0), (6, .int (nI i4)), (5, .int (bI true)), (4, .int z2), (0, .ref (ad 0)), (1, .ref (aa 0)), (2, .ref (aa 5)), (3, .int (nI tm))]) hx hb dL_areVoid_60 hl (by decide) rfl (fun ls hl => ?_)
            refine lv_iconst (v := 0) hx hb dL_areVoid_62 (by decide) ?_
            refine lv_istore (lv' := [(8, .int 0), (7, .int 0), (6, .int (nI i4)), (5, .int (bI true)), (4, .int z2), (0, .ref (ad 0)), (1, .ref (aa 0)), (2, .ref (aa 5)), (3, .int (nI tm))]) hx hb dL_areVoid_63 hl (by decide) rfl (fun ls hl => ?_)
            refine lv_iconst (v := 0) hx hb dL_areVoid_65 (by decide) ?_
            refine lv_istore (lv' := [(9, .int 0), (8, .int 0), (7, .int 0), (6, .int (nI i4)), (5, .int (bI true)), (4, .int z2), (0, .ref (ad 0)), (1, .ref (aa 0)), (2, .ref (aa 5)), (3, .int (nI tm))]) hx hb dL_areVoid_66 hl (by decide) rfl (fun ls hl => ?_)
            have hj_162_14 : ∀ (S : Mem) (H : Heap) (locs : List Loc), GW D cI (aC ad cI) ad aa fa m0 m1 s S H locs → ∀ z12 : Int32, ∀ z13 : Bool, ∀ ls : Array Slot, lv_has ls 10 [(8, .int z12), (7, .int (bI z13)), (6, .int (nI i4)), (4, .int z2), (0, .ref (ad 0)), (1, .ref (aa 0)), (2, .ref (aa 5)), (3, .int (nI tm))] → W p l e (rg 8 0) s m args below meth c H locs (0) (6 * (0)) (MQ below (QG D cI ad m0 m1 (pB)) args s 0 (6 * 0) (aC ad cI)) (F0 m 162 ls []) := by
              intro S H locs hw z12 z13 ls hl
              refine lv_aload_n hx hb dL_areVoid_162 rfl (lv_at hl 4 rfl) ?_
              refine lv_iload_n hx hb dL_areVoid_163 rfl (lv_at hl 7 rfl) ?_
              refine lv_iload hx hb dL_areVoid_164 (lv_at hl 2 rfl) ?_
              refine g_rd (rest := []) C hw (c_X5_isCheated l D cI cZ cL ad S (nI tm) (nI i4) hw.2.2.2.i0 (nn_cheat hw.2.2.2 (by omega) (by omega))) ck_X5_isCheated v_557 rfl hl.1 rfl ⟨Nat.le_of_ble_eq_true rfl, Nat.le_of_ble_eq_true rfl⟩ (Nat.le_of_ble_eq_true rfl) dL_areVoid_166 ⟨by omega, by omega⟩ ?_
              refine g_any (fun z15 => ?_)
              have hj_233_17 : ∀ (S : Mem) (H : Heap) (locs : List Loc), GW D cI (aC ad cI) ad aa fa m0 m1 s S H locs → ∀ z16 : Bool, ∀ ls : Array Slot, lv_has ls 10 [(6, .int (nI i4)), (4, .int z2), (0, .ref (ad 0)), (1, .ref (aa 0)), (2, .ref (aa 5)), (3, .int (nI tm))] → W p l e (rg 8 0) s m args below meth c H locs (0) (6 * (0)) (MQ below (QG D cI ad m0 m1 (pB)) args s 0 (6 * 0) (aC ad cI)) (F0 m 233 ls [.int (bI z16)]) := by
                intro S H locs hw z16 ls hl
                refine lv_istore (lv' := [(5, .int (bI z16)), (6, .int (nI i4)), (4, .int z2), (0, .ref (ad 0)), (1, .ref (aa 0)), (2, .ref (aa 5)), (3, .int (nI tm))]) hx hb dL_areVoid_233 hl (by decide) rfl (fun ls hl => ?_)
                refine lv_iinc (v := nI (i4 + 1)) (lv' := [(6, .int (nI (i4 + 1))), (5, .int (bI z16)), (4, .int z2), (0, .ref (ad 0)), (1, .ref (aa 0)), (2, .ref (aa 5)), (3, .int (nI tm))]) hx hb dL_areVoid_235 hl (k := 1) rfl (nI_1 i4) (by decide) rfl (fun ls hl => ?_)
                refine lv_goto (tgt := 46) hx hb dL_areVoid_238 (by decide) ?_
                exact ih_46 (i4 + 1) (by omega) (by omega) (by omega) S H locs hw z16 ls (lv_sub hl [0, 1, 2, 3, 4, 5, 6] rfl)
              refine lv_if_eq (tgt := 177) hx hb dL_areVoid_169 (by decide) (fun c_18 => ?_) (fun c_18 => ?_)
              · skip
                refine lv_aload_n hx hb dL_areVoid_177 rfl (lv_at hl 4 rfl) ?_
                refine lv_iload_n hx hb dL_areVoid_178 rfl (lv_at hl 7 rfl) ?_
                refine lv_iload hx hb dL_areVoid_179 (lv_at hl 2 rfl) ?_
                refine g_rd (rest := []) C hw (c_X5_isVoid l D cI cZ cL ad S (nI tm) (nI i4) hw.2.2.2.i0 (nn_void hw.2.2.2 (by omega) (by omega))) ck_X5_isVoid v_565 rfl hl.1 rfl ⟨Nat.le_of_ble_eq_true rfl, Nat.le_of_ble_eq_true rfl⟩ (Nat.le_of_ble_eq_true rfl) dL_areVoid_181 ⟨by omega, by omega⟩ ?_
                refine g_any (fun z19 => ?_)
                refine lv_aload_n hx hb dL_areVoid_184 rfl (lv_at hl 4 rfl) ?_
                refine lv_iload_n hx hb dL_areVoid_185 rfl (lv_at hl 7 rfl) ?_
                refine lv_iload hx hb dL_areVoid_186 (lv_at hl 2 rfl) ?_
                refine g_rd (rest := [.int z19]) C hw (c_X5_solvedAt l D cI cZ cL ad S (nI tm) (nI i4) hw.2.2.2.i0 (nn_solved hw.2.2.2 (by omega) (by omega))) ck_X5_solvedAt v_231 rfl hl.1 rfl ⟨Nat.le_of_ble_eq_true rfl, Nat.le_of_ble_eq_true rfl⟩ (Nat.le_of_ble_eq_true rfl) dL_areVoid_188 ⟨by omega, by omega⟩ ?_
                refine g_any (fun z20 => ?_)
                have hj_214_22 : ∀ (S : Mem) (H : Heap) (locs : List Loc), GW D cI (aC ad cI) ad aa fa m0 m1 s S H locs → ∀ z21 : Bool, ∀ ls : Array Slot, lv_has ls 10 [(8, .int z12), (6, .int (nI i4)), (4, .int z2), (0, .ref (ad 0)), (1, .ref (aa 0)), (2, .ref (aa 5)), (3, .int (nI tm))] → W p l e (rg 8 0) s m args below meth c H locs (0) (6 * (0)) (MQ below (QG D cI ad m0 m1 (pB)) args s 0 (6 * 0) (aC ad cI)) (F0 m 214 ls [.int (bI z21), .int z19]) := by
                  intro S H locs hw z21 ls hl
                  refine lv_icmp_ne (tgt := 232) hx hb dL_areVoid_214 (by decide) (fun c_23 => ?_) (fun c_23 => ?_)
                  · skip
                    refine lv_iconst (v := 0) hx hb dL_areVoid_232 (by decide) ?_
                    exact hj_233_17 S H locs hw false ls (lv_sub hl [1, 2, 3, 4, 5, 6] rfl)
                  · skip
                    refine lv_aload_n hx hb dL_areVoid_217 rfl (lv_at hl 3 rfl) ?_
                    refine lv_iload hx hb dL_areVoid_218 (lv_at hl 1 rfl) ?_
                    refine g_rd (rest := []) C hw (c_X5_hanging l D cI cZ cL ad S (nI i4) hw.2.2.2.i0 (nn_hang hw.2.2.2 (by omega))) ck_X5_hanging v_578 rfl hl.1 rfl ⟨Nat.le_of_ble_eq_true rfl, Nat.le_of_ble_eq_true rfl⟩ (Nat.le_of_ble_eq_true rfl) dL_areVoid_220 ⟨by omega, by omega⟩ ?_
                    refine g_any (fun z24 => ?_)
                    refine lv_iload hx hb dL_areVoid_223 (lv_at hl 0 rfl) ?_
                    refine lv_icmp_ne (tgt := 232) hx hb dL_areVoid_225 (by decide) (fun c_25 => ?_) (fun c_25 => ?_)
                    · skip
                      refine lv_iconst (v := 0) hx hb dL_areVoid_232 (by decide) ?_
                      exact hj_233_17 S H locs hw false ls (lv_sub hl [1, 2, 3, 4, 5, 6] rfl)
                    · skip
                      refine lv_iconst (v := 1) hx hb dL_areVoid_228 (by decide) ?_
                      refine lv_goto (tgt := 233) hx hb dL_areVoid_229 (by decide) ?_
                      exact hj_233_17 S H locs hw true ls (lv_sub hl [1, 2, 3, 4, 5, 6] rfl)
                refine lv_if_lt (tgt := 213) hx hb dL_areVoid_191 (by decide) (fun c_26 => ?_) (fun c_26 => ?_)
                · skip
                  refine lv_iconst (v := 0) hx hb dL_areVoid_213 (by decide) ?_
                  exact hj_214_22 S H locs hw false ls (lv_sub hl [0, 2, 3, 4, 5, 6, 7] rfl)
                · skip
                  refine lv_iload hx hb dL_areVoid_194 (lv_at hl 1 rfl) ?_
                  refine lv_if_ne (tgt := 209) hx hb dL_areVoid_196 (by decide) (fun c_27 => ?_) (fun c_27 => ?_)
                  · skip
                    have c_27 : z13 = true := b_t c_27
                    subst c_27
                    refine lv_iconst (v := 1) hx hb dL_areVoid_209 (by decide) ?_
                    refine lv_goto (tgt := 214) hx hb dL_areVoid_210 (by decide) ?_
                    exact hj_214_22 S H locs hw true ls (lv_sub hl [0, 2, 3, 4, 5, 6, 7] rfl)
                  · skip
                    have c_27 : z13 = false := b_f c_27
                    subst c_27
                    refine lv_aload_n hx hb dL_areVoid_199 rfl (lv_at hl 4 rfl) ?_
                    refine lv_iload_n hx hb dL_areVoid_200 rfl (lv_at hl 7 rfl) ?_
                    refine lv_iload hx hb dL_areVoid_201 (lv_at hl 2 rfl) ?_
                    refine g_rd (rest := [.int z19]) C hw (c_X5_isCheated l D cI cZ cL ad S (nI tm) (nI i4) hw.2.2.2.i0 (nn_cheat hw.2.2.2 (by omega) (by omega))) ck_X5_isCheated v_557 rfl hl.1 rfl ⟨Nat.le_of_ble_eq_true rfl, Nat.le_of_ble_eq_true rfl⟩ (Nat.le_of_ble_eq_true rfl) dL_areVoid_203 ⟨by omega, by omega⟩ ?_
                    refine g_any (fun z28 => ?_)
                    refine lv_if_eq (tgt := 213) hx hb dL_areVoid_206 (by decide) (fun c_29 => ?_) (fun c_29 => ?_)
                    · skip
                      refine lv_iconst (v := 0) hx hb dL_areVoid_213 (by decide) ?_
                      exact hj_214_22 S H locs hw false ls (lv_sub hl [0, 2, 3, 4, 5, 6, 7] rfl)
                    · skip
                      refine lv_iconst (v := 1) hx hb dL_areVoid_209 (by decide) ?_
                      refine lv_goto (tgt := 214) hx hb dL_areVoid_210 (by decide) ?_
                      exact hj_214_22 S H locs hw true ls (lv_sub hl [0, 2, 3, 4, 5, 6, 7] rfl)
              · skip
                refine lv_iload hx hb dL_areVoid_172 (lv_at hl 3 rfl) ?_
                refine lv_if_le (tgt := 232) hx hb dL_areVoid_174 (by decide) (fun c_30 => ?_) (fun c_30 => ?_)
                · skip
                  refine lv_iconst (v := 0) hx hb dL_areVoid_232 (by decide) ?_
                  exact hj_233_17 S H locs hw false ls (lv_sub hl [2, 3, 4, 5, 6, 7] rfl)
                · skip
                  refine lv_aload_n hx hb dL_areVoid_177 rfl (lv_at hl 4 rfl) ?_
                  refine lv_iload_n hx hb dL_areVoid_178 rfl (lv_at hl 7 rfl) ?_
                  refine lv_iload hx hb dL_areVoid_179 (lv_at hl 2 rfl) ?_
                  refine g_rd (rest := []) C hw (c_X5_isVoid l D cI cZ cL ad S (nI tm) (nI i4) hw.2.2.2.i0 (nn_void hw.2.2.2 (by omega) (by omega))) ck_X5_isVoid v_565 rfl hl.1 rfl ⟨Nat.le_of_ble_eq_true rfl, Nat.le_of_ble_eq_true rfl⟩ (Nat.le_of_ble_eq_true rfl) dL_areVoid_181 ⟨by omega, by omega⟩ ?_
                  refine g_any (fun z31 => ?_)
                  refine lv_aload_n hx hb dL_areVoid_184 rfl (lv_at hl 4 rfl) ?_
                  refine lv_iload_n hx hb dL_areVoid_185 rfl (lv_at hl 7 rfl) ?_
                  refine lv_iload hx hb dL_areVoid_186 (lv_at hl 2 rfl) ?_
                  refine g_rd (rest := [.int z31]) C hw (c_X5_solvedAt l D cI cZ cL ad S (nI tm) (nI i4) hw.2.2.2.i0 (nn_solved hw.2.2.2 (by omega) (by omega))) ck_X5_solvedAt v_231 rfl hl.1 rfl ⟨Nat.le_of_ble_eq_true rfl, Nat.le_of_ble_eq_true rfl⟩ (Nat.le_of_ble_eq_true rfl) dL_areVoid_188 ⟨by omega, by omega⟩ ?_
                  refine g_any (fun z32 => ?_)
                  have hj_214_34 : ∀ (S : Mem) (H : Heap) (locs : List Loc), GW D cI (aC ad cI) ad aa fa m0 m1 s S H locs → ∀ z33 : Bool, ∀ ls : Array Slot, lv_has ls 10 [(8, .int z12), (6, .int (nI i4)), (4, .int z2), (0, .ref (ad 0)), (1, .ref (aa 0)), (2, .ref (aa 5)), (3, .int (nI tm))] → W p l e (rg 8 0) s m args below meth c H locs (0) (6 * (0)) (MQ below (QG D cI ad m0 m1 (pB)) args s 0 (6 * 0) (aC ad cI)) (F0 m 214 ls [.int (bI z33), .int z31]) := by
                    intro S H locs hw z33 ls hl
                    refine lv_icmp_ne (tgt := 232) hx hb dL_areVoid_214 (by decide) (fun c_35 => ?_) (fun c_35 => ?_)
                    · skip
                      refine lv_iconst (v := 0) hx hb dL_areVoid_232 (by decide) ?_
                      exact hj_233_17 S H locs hw false ls (lv_sub hl [1, 2, 3, 4, 5, 6] rfl)
                    · skip
                      refine lv_aload_n hx hb dL_areVoid_217 rfl (lv_at hl 3 rfl) ?_
                      refine lv_iload hx hb dL_areVoid_218 (lv_at hl 1 rfl) ?_
                      refine g_rd (rest := []) C hw (c_X5_hanging l D cI cZ cL ad S (nI i4) hw.2.2.2.i0 (nn_hang hw.2.2.2 (by omega))) ck_X5_hanging v_578 rfl hl.1 rfl ⟨Nat.le_of_ble_eq_true rfl, Nat.le_of_ble_eq_true rfl⟩ (Nat.le_of_ble_eq_true rfl) dL_areVoid_220 ⟨by omega, by omega⟩ ?_
                      refine g_any (fun z36 => ?_)
                      refine lv_iload hx hb dL_areVoid_223 (lv_at hl 0 rfl) ?_
                      refine lv_icmp_ne (tgt := 232) hx hb dL_areVoid_225 (by decide) (fun c_37 => ?_) (fun c_37 => ?_)
                      · skip
                        refine lv_iconst (v := 0) hx hb dL_areVoid_232 (by decide) ?_
                        exact hj_233_17 S H locs hw false ls (lv_sub hl [1, 2, 3, 4, 5, 6] rfl)
                      · skip
                        refine lv_iconst (v := 1) hx hb dL_areVoid_228 (by decide) ?_
                        refine lv_goto (tgt := 233) hx hb dL_areVoid_229 (by decide) ?_
                        exact hj_233_17 S H locs hw true ls (lv_sub hl [1, 2, 3, 4, 5, 6] rfl)
                  refine lv_if_lt (tgt := 213) hx hb dL_areVoid_191 (by decide) (fun c_38 => ?_) (fun c_38 => ?_)
                  · skip
                    refine lv_iconst (v := 0) hx hb dL_areVoid_213 (by decide) ?_
                    exact hj_214_34 S H locs hw false ls (lv_sub hl [0, 2, 3, 4, 5, 6, 7] rfl)
                  · skip
                    refine lv_iload hx hb dL_areVoid_194 (lv_at hl 1 rfl) ?_
                    refine lv_if_ne (tgt := 209) hx hb dL_areVoid_196 (by decide) (fun c_39 => ?_) (fun c_39 => ?_)
                    · skip
                      have c_39 : z13 = true := b_t c_39
                      subst c_39
                      refine lv_iconst (v := 1) hx hb dL_areVoid_209 (by decide) ?_
                      refine lv_goto (tgt := 214) hx hb dL_areVoid_210 (by decide) ?_
                      exact hj_214_34 S H locs hw true ls (lv_sub hl [0, 2, 3, 4, 5, 6, 7] rfl)
                    · skip
                      have c_39 : z13 = false := b_f c_39
                      subst c_39
                      refine lv_aload_n hx hb dL_areVoid_199 rfl (lv_at hl 4 rfl) ?_
                      refine lv_iload_n hx hb dL_areVoid_200 rfl (lv_at hl 7 rfl) ?_
                      refine lv_iload hx hb dL_areVoid_201 (lv_at hl 2 rfl) ?_
                      refine g_rd (rest := [.int z31]) C hw (c_X5_isCheated l D cI cZ cL ad S (nI tm) (nI i4) hw.2.2.2.i0 (nn_cheat hw.2.2.2 (by omega) (by omega))) ck_X5_isCheated v_557 rfl hl.1 rfl ⟨Nat.le_of_ble_eq_true rfl, Nat.le_of_ble_eq_true rfl⟩ (Nat.le_of_ble_eq_true rfl) dL_areVoid_203 ⟨by omega, by omega⟩ ?_
                      refine g_any (fun z40 => ?_)
                      refine lv_if_eq (tgt := 213) hx hb dL_areVoid_206 (by decide) (fun c_41 => ?_) (fun c_41 => ?_)
                      · skip
                        refine lv_iconst (v := 0) hx hb dL_areVoid_213 (by decide) ?_
                        exact hj_214_34 S H locs hw false ls (lv_sub hl [0, 2, 3, 4, 5, 6, 7] rfl)
                      · skip
                        refine lv_iconst (v := 1) hx hb dL_areVoid_209 (by decide) ?_
                        refine lv_goto (tgt := 214) hx hb dL_areVoid_210 (by decide) ?_
                        exact hj_214_34 S H locs hw true ls (lv_sub hl [0, 2, 3, 4, 5, 6, 7] rfl)
            have hloop_68_44 : ∀ (n i11 : Nat), i11 ≤ m0 → m0 < i11 + n → 0 ≤ i11 → ∀ (S : Mem) (H : Heap) (locs : List Loc), GW D cI (aC ad cI) ad aa fa m0 m1 s S H locs → ∀ z42 : Int32, ∀ z43 : Bool, ∀ ls : Array Slot, lv_has ls 10 [(9, .int (nI i11)), (8, .int z42), (7, .int (bI z43)), (6, .int (nI i4)), (4, .int z2), (0, .ref (ad 0)), (1, .ref (aa 0)), (2, .ref (aa 5)), (3, .int (nI tm))] → W p l e (rg 8 0) s m args below meth c H locs (0) (6 * (0)) (MQ below (QG D cI ad m0 m1 (pB)) args s 0 (6 * 0) (aC ad cI)) (F0 m 68 ls []) := by
              intro n
              induction n with
              | zero => intro i11 h1 h2; exact absurd h2 (by omega)
              | succ n ih_68 =>
                intro i11 hi_68 hn_68 hs_68 S H locs hw z42 z43 ls hl
                refine lv_iload hx hb dL_areVoid_68 (lv_at hl 0 rfl) ?_
                refine lv_aload_n hx hb dL_areVoid_70 rfl (lv_at hl 7 rfl) ?_
                refine lv_iconst (v := 0) hx hb dL_areVoid_71 (by decide) ?_
                refine g_ld (n := 5) (i := 0) C hw 5 rfl (by omega) (Nat.le_of_ble_eq_true rfl) dL_areVoid_72 ?_
                refine q_top (y := nI m0) (f50) ?_
                refine lv_icmp_ge (tgt := 162) hx hb dL_areVoid_73 (by decide) (fun c_45 => ?_) (fun c_45 => ?_)
                · skip
                  have c_45 : m0 ≤ i11 := n_le (a := m0) (b := i11) (by omega) (by omega) c_45
                  exact hj_162_14 S H locs hw (z42) z43 ls (lv_sub hl [1, 2, 3, 4, 5, 6, 7, 8] rfl)
                · skip
                  have c_45 : i11 < m0 := n_nle (a := m0) (b := i11) (by omega) (by omega) c_45
                  refine lv_iload hx hb dL_areVoid_76 (lv_at hl 2 rfl) ?_
                  have hj_114_47 : ∀ (S : Mem) (H : Heap) (locs : List Loc), GW D cI (aC ad cI) ad aa fa m0 m1 s S H locs → ∀ z46 : Bool, ∀ ls : Array Slot, lv_has ls 10 [(9, .int (nI i11)), (8, .int z42), (6, .int (nI i4)), (4, .int z2), (0, .ref (ad 0)), (1, .ref (aa 0)), (2, .ref (aa 5)), (3, .int (nI tm))] → W p l e (rg 8 0) s m args below meth c H locs (0) (6 * (0)) (MQ below (QG D cI ad m0 m1 (pB)) args s 0 (6 * 0) (aC ad cI)) (F0 m 114 ls [.int (bI z46)]) := by
                    intro S H locs hw z46 ls hl
                    refine lv_istore (lv' := [(7, .int (bI z46)), (9, .int (nI i11)), (8, .int z42), (6, .int (nI i4)), (4, .int z2), (0, .ref (ad 0)), (1, .ref (aa 0)), (2, .ref (aa 5)), (3, .int (nI tm))]) hx hb dL_areVoid_114 hl (by decide) rfl (fun ls hl => ?_)
                    refine lv_iload hx hb dL_areVoid_116 (lv_at hl 2 rfl) ?_
                    refine lv_iload hx hb dL_areVoid_118 (lv_at hl 1 rfl) ?_
                    refine lv_iload hx hb dL_areVoid_120 (lv_at hl 3 rfl) ?_
                    have hj_153_49 : ∀ (S : Mem) (H : Heap) (locs : List Loc), GW D cI (aC ad cI) ad aa fa m0 m1 s S H locs → ∀ z48 : Int32, ∀ ls : Array Slot, lv_has ls 10 [(7, .int (bI z46)), (9, .int (nI i11)), (6, .int (nI i4)), (4, .int z2), (0, .ref (ad 0)), (1, .ref (aa 0)), (2, .ref (aa 5)), (3, .int (nI tm))] → W p l e (rg 8 0) s m args below meth c H locs (0) (6 * (0)) (MQ below (QG D cI ad m0 m1 (pB)) args s 0 (6 * 0) (aC ad cI)) (F0 m 153 ls [.int z48, .int z42]) := by
                      intro S H locs hw z48 ls hl
                      refine lv_ior hx hb dL_areVoid_153 ?_
                      refine g_any (fun z50 => ?_)
                      refine lv_istore (lv' := [(8, .int z50), (7, .int (bI z46)), (9, .int (nI i11)), (6, .int (nI i4)), (4, .int z2), (0, .ref (ad 0)), (1, .ref (aa 0)), (2, .ref (aa 5)), (3, .int (nI tm))]) hx hb dL_areVoid_154 hl (by decide) rfl (fun ls hl => ?_)
                      refine lv_iinc (v := nI (i11 + 1)) (lv' := [(9, .int (nI (i11 + 1))), (8, .int z50), (7, .int (bI z46)), (6, .int (nI i4)), (4, .int z2), (0, .ref (ad 0)), (1, .ref (aa 0)), (2, .ref (aa 5)), (3, .int (nI tm))]) hx hb dL_areVoid_156 hl (k := 2) rfl (nI_1 i11) (by decide) rfl (fun ls hl => ?_)
                      refine lv_goto (tgt := 68) hx hb dL_areVoid_159 (by decide) ?_
                      exact ih_68 (i11 + 1) (by omega) (by omega) (by omega) S H locs hw (z50) z46 ls (lv_sub hl [0, 1, 2, 3, 4, 5, 6, 7, 8] rfl)
                    refine lv_icmp_le (tgt := 152) hx hb dL_areVoid_122 (by decide) (fun c_51 => ?_) (fun c_51 => ?_)
                    · skip
                      have c_51 : i11 ≤ i4 := n_le (a := i11) (b := i4) (by omega) (by omega) c_51
                      refine lv_iconst (v := 0) hx hb dL_areVoid_152 (by decide) ?_
                      exact hj_153_49 S H locs hw (0) ls (lv_sub hl [0, 1, 3, 4, 5, 6, 7, 8] rfl)
                    · skip
                      have c_51 : i4 < i11 := n_nle (a := i11) (b := i4) (by omega) (by omega) c_51
                      refine lv_aload_n hx hb dL_areVoid_125 rfl (lv_at hl 6 rfl) ?_
                      refine lv_bipush (v := 6) hx hb dL_areVoid_126 (by decide) ?_
                      refine lv_iload hx hb dL_areVoid_128 (lv_at hl 1 rfl) ?_
                      refine lv_imul hx hb dL_areVoid_130 ?_
                      refine q_top (y := nI (6 * i11)) (pk_mul 6 i11) ?_
                      refine lv_iconst (v := 4) hx hb dL_areVoid_131 (by decide) ?_
                      refine lv_iadd hx hb dL_areVoid_132 ?_
                      refine q_top (y := nI (6 * i11 + 4)) (nI_add (6 * i11) 4) ?_
                      refine g_ld (n := 48) (i := (6 * i11 + 4)) C hw 0 rfl (by omega) (Nat.le_of_ble_eq_true rfl) dL_areVoid_133 ?_
                      refine q_top (y := 0) ((fr _).1) ?_
                      refine lv_iload hx hb dL_areVoid_134 (lv_at hl 2 rfl) ?_
                      refine lv_iconst (v := 1) hx hb dL_areVoid_136 (by decide) ?_
                      refine lv_iload hx hb dL_areVoid_137 (lv_at hl 3 rfl) ?_
                      refine lv_ishl hx hb dL_areVoid_139 ?_
                      refine g_any (fun z52 => ?_)
                      refine lv_ior hx hb dL_areVoid_140 ?_
                      refine g_any (fun z53 => ?_)
                      refine lv_iand hx hb dL_areVoid_141 ?_
                      refine q_top (y := 0) (and_0 _) ?_
                      refine lv_if_eq (tgt := 152) hx hb dL_areVoid_142 (by decide) (fun c_54 => ?_) (fun c_54 => ?_)
                      · skip
                        refine lv_iconst (v := 0) hx hb dL_areVoid_152 (by decide) ?_
                        exact hj_153_49 S H locs hw (0) ls (lv_sub hl [0, 1, 3, 4, 5, 6, 7, 8] rfl)
                      · skip
                        exact absurd c_54 (by decide)
                  refine lv_if_ne (tgt := 109) hx hb dL_areVoid_78 (by decide) (fun c_55 => ?_) (fun c_55 => ?_)
                  · skip
                    have c_55 : z43 = true := b_t c_55
                    subst c_55
                    refine lv_iconst (v := 1) hx hb dL_areVoid_109 (by decide) ?_
                    refine lv_goto (tgt := 114) hx hb dL_areVoid_110 (by decide) ?_
                    exact hj_114_47 S H locs hw true ls (lv_sub hl [0, 1, 3, 4, 5, 6, 7, 8] rfl)
                  · skip
                    have c_55 : z43 = false := b_f c_55
                    subst c_55
                    refine lv_aload_n hx hb dL_areVoid_81 rfl (lv_at hl 6 rfl) ?_
                    refine lv_bipush (v := 6) hx hb dL_areVoid_82 (by decide) ?_
                    refine lv_iload hx hb dL_areVoid_84 (lv_at hl 3 rfl) ?_
                    refine lv_imul hx hb dL_areVoid_86 ?_
                    refine q_top (y := nI (6 * i4)) (pk_mul 6 i4) ?_
                    refine lv_iconst (v := 4) hx hb dL_areVoid_87 (by decide) ?_
                    refine lv_iadd hx hb dL_areVoid_88 ?_
                    refine q_top (y := nI (6 * i4 + 4)) (nI_add (6 * i4) 4) ?_
                    refine g_ld (n := 48) (i := (6 * i4 + 4)) C hw 0 rfl (by omega) (Nat.le_of_ble_eq_true rfl) dL_areVoid_89 ?_
                    refine q_top (y := 0) ((fr _).1) ?_
                    refine lv_iload hx hb dL_areVoid_90 (lv_at hl 0 rfl) ?_
                    refine lv_ishr hx hb dL_areVoid_92 ?_
                    refine q_top (y := 0) (shr_0 _) ?_
                    refine lv_iconst (v := 1) hx hb dL_areVoid_93 (by decide) ?_
                    refine lv_iand hx hb dL_areVoid_94 ?_
                    refine q_top (y := 0) (by decide) ?_
                    refine lv_iconst (v := 1) hx hb dL_areVoid_95 (by decide) ?_
                    refine lv_icmp_ne (tgt := 113) hx hb dL_areVoid_96 (by decide) (fun c_56 => ?_) (fun c_56 => ?_)
                    · skip
                      refine lv_iconst (v := 0) hx hb dL_areVoid_113 (by decide) ?_
                      exact hj_114_47 S H locs hw false ls (lv_sub hl [0, 1, 3, 4, 5, 6, 7, 8] rfl)
                    · skip
                      exact absurd c_56 (by decide)
            exact hloop_68_44 (m0 + 1) (0) (by omega) (by omega) (by omega) S H locs hw (0) false ls (lv_sub hl [0, 1, 2, 3, 5, 6, 7, 8, 9] rfl)
    exact hloop_46_8 (m0 + 1) (0) (by omega) (by omega) (by omega) S H locs hw true ls (lv_sub hl [0, 1, 2, 3, 4, 5, 6] rfl)
  have hloop_9_58 : ∀ (n i1 : Nat), i1 ≤ m1 → m1 < i1 + n → 0 ≤ i1 → ∀ (S : Mem) (H : Heap) (locs : List Loc), GW D cI (aC ad cI) ad aa fa m0 m1 s S H locs → ∀ z57 : Int32, ∀ ls : Array Slot, lv_has ls 10 [(6, .int (nI i1)), (5, .int 1), (4, .int z57), (0, .ref (ad 0)), (1, .ref (aa 0)), (2, .ref (aa 5)), (3, .int (nI tm))] → W p l e (rg 8 0) s m args below meth c H locs (0) (6 * (0)) (MQ below (QG D cI ad m0 m1 (pB)) args s 0 (6 * 0) (aC ad cI)) (F0 m 9 ls []) := by
    intro n
    induction n with
    | zero => intro i1 h1 h2; exact absurd h2 (by omega)
    | succ n ih_9 =>
      intro i1 hi_9 hn_9 hs_9 S H locs hw z57 ls hl
      refine lv_iload hx hb dL_areVoid_9 (lv_at hl 0 rfl) ?_
      refine lv_aload_n hx hb dL_areVoid_11 rfl (lv_at hl 5 rfl) ?_
      refine lv_iconst (v := 1) hx hb dL_areVoid_12 (by decide) ?_
      refine g_ld (n := 5) (i := 1) C hw 5 rfl (by omega) (Nat.le_of_ble_eq_true rfl) dL_areVoid_13 ?_
      refine q_top (y := nI m1) (f51) ?_
      refine lv_icmp_ge (tgt := 43) hx hb dL_areVoid_14 (by decide) (fun c_59 => ?_) (fun c_59 => ?_)
      · skip
        have c_59 : m1 ≤ i1 := n_le (a := m1) (b := i1) (by omega) (by omega) c_59
        exact hj_43_3 S H locs hw (z57) ls (lv_sub hl [1, 2, 3, 4, 5, 6] rfl)
      · skip
        have c_59 : i1 < m1 := n_nle (a := m1) (b := i1) (by omega) (by omega) c_59
        refine lv_iload hx hb dL_areVoid_17 (lv_at hl 2 rfl) ?_
        refine lv_aload_n hx hb dL_areVoid_19 rfl (lv_at hl 3 rfl) ?_
        refine lv_iload_n hx hb dL_areVoid_20 rfl (lv_at hl 6 rfl) ?_
        refine lv_iload hx hb dL_areVoid_21 (lv_at hl 0 rfl) ?_
        refine g_rd (rest := [.int z57]) C hw (c_X5_areLinked l D cI cZ cL ad S (nI tm) (nI i1) hw.2.2.2.i0 (nn_linked hw.2.2.2 (by omega) (by omega))) ck_X5_areLinked v_549 rfl hl.1 rfl ⟨Nat.le_of_ble_eq_true rfl, Nat.le_of_ble_eq_true rfl⟩ (Nat.le_of_ble_eq_true rfl) dL_areVoid_23 ⟨by omega, by omega⟩ ?_
        refine g_any (fun z60 => ?_)
        have hj_34_62 : ∀ (S : Mem) (H : Heap) (locs : List Loc), GW D cI (aC ad cI) ad aa fa m0 m1 s S H locs → ∀ z61 : Bool, ∀ ls : Array Slot, lv_has ls 10 [(6, .int (nI i1)), (5, .int 1), (0, .ref (ad 0)), (1, .ref (aa 0)), (2, .ref (aa 5)), (3, .int (nI tm))] → W p l e (rg 8 0) s m args below meth c H locs (0) (6 * (0)) (MQ below (QG D cI ad m0 m1 (pB)) args s 0 (6 * 0) (aC ad cI)) (F0 m 34 ls [.int (bI z61), .int z57]) := by
          intro S H locs hw z61 ls hl
          refine lv_iadd hx hb dL_areVoid_34 ?_
          refine g_any (fun z63 => ?_)
          refine lv_istore (lv' := [(4, .int z63), (6, .int (nI i1)), (5, .int 1), (0, .ref (ad 0)), (1, .ref (aa 0)), (2, .ref (aa 5)), (3, .int (nI tm))]) hx hb dL_areVoid_35 hl (by decide) rfl (fun ls hl => ?_)
          refine lv_iinc (v := nI (i1 + 1)) (lv' := [(6, .int (nI (i1 + 1))), (4, .int z63), (5, .int 1), (0, .ref (ad 0)), (1, .ref (aa 0)), (2, .ref (aa 5)), (3, .int (nI tm))]) hx hb dL_areVoid_37 hl (k := 1) rfl (nI_1 i1) (by decide) rfl (fun ls hl => ?_)
          refine lv_goto (tgt := 9) hx hb dL_areVoid_40 (by decide) ?_
          exact ih_9 (i1 + 1) (by omega) (by omega) (by omega) S H locs hw (z63) ls (lv_sub hl [0, 2, 1, 3, 4, 5, 6] rfl)
        refine lv_if_eq (tgt := 33) hx hb dL_areVoid_26 (by decide) (fun c_64 => ?_) (fun c_64 => ?_)
        · skip
          refine lv_iconst (v := 0) hx hb dL_areVoid_33 (by decide) ?_
          exact hj_34_62 S H locs hw false ls (lv_sub hl [0, 1, 3, 4, 5, 6] rfl)
        · skip
          refine lv_iconst (v := 1) hx hb dL_areVoid_29 (by decide) ?_
          refine lv_goto (tgt := 34) hx hb dL_areVoid_30 (by decide) ?_
          exact hj_34_62 S H locs hw true ls (lv_sub hl [0, 1, 3, 4, 5, 6] rfl)
  exact hloop_9_58 (m1 + 1) (0) (by omega) (by omega) (by omega) S s.heap [] hw (0) ls (lv_sub hl [0, 1, 2, 3, 4, 5, 6] rfl)

