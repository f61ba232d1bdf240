/-! p29: decode rows -/
theorem dL_law_80 : decode code 80 = .ok (.iconst 1, 1) := by decide +kernel
theorem dL_law_81 : decode code 81 = .ok (.goto 4, 3) := by decide +kernel
theorem dL_law_84 : decode code 84 = .ok (.iconst 0, 1) := by decide +kernel
theorem dL_law_85 : decode code 85 = .ok (.istore 9, 2) := by decide +kernel
theorem dL_law_87 : decode code 87 = .ok (.iconst 0, 1) := by decide +kernel
theorem dL_law_88 : decode code 88 = .ok (.istore 10, 2) := by decide +kernel
theorem dL_law_90 : decode code 90 = .ok (.iload 10, 2) := by decide +kernel
theorem dL_law_92 : decode code 92 = .ok (.bipush 110, 2) := by decide +kernel
theorem dL_law_94 : decode code 94 = .ok (.if_icmp .ge 1217, 3) := by decide +kernel
theorem dL_law_97 : decode code 97 = .ok (.iload 9, 2) := by decide +kernel
theorem dL_law_99 : decode code 99 = .ok (.ifCond .eq 1212, 3) := by decide +kernel
theorem dL_law_102 : decode code 102 = .ok (.aload_n 0, 1) := by decide +kernel
theorem dL_law_103 : decode code 103 = .ok (.iload 10, 2) := by decide +kernel
theorem dL_law_105 : decode code 105 = .ok (.invokestatic 145, 3) := by decide +kernel
theorem dL_law_108 : decode code 108 = .ok (.istore 11, 2) := by decide +kernel
theorem dL_law_110 : decode code 110 = .ok (.iload 11, 2) := by decide +kernel
theorem dL_law_112 : decode code 112 = .ok (.bipush 32, 2) := by decide +kernel
theorem dL_law_114 : decode code 114 = .ok (.idiv, 1) := by decide +kernel
theorem dL_law_115 : decode code 115 = .ok (.istore 12, 2) := by decide +kernel
theorem dL_law_117 : decode code 117 = .ok (.iload 11, 2) := by decide +kernel
theorem dL_law_119 : decode code 119 = .ok (.bipush 32, 2) := by decide +kernel
theorem dL_law_121 : decode code 121 = .ok (.irem, 1) := by decide +kernel
theorem dL_law_122 : decode code 122 = .ok (.istore 13, 2) := by decide +kernel
theorem dL_law_124 : decode code 124 = .ok (.aload 7, 2) := by decide +kernel
theorem dL_law_126 : decode code 126 = .ok (.iconst 1, 1) := by decide +kernel
theorem dL_law_127 : decode code 127 = .ok (.iaload, 1) := by decide +kernel
theorem dL_law_128 : decode code 128 = .ok (.ifCond .ne 7, 3) := by decide +kernel
theorem dL_law_131 : decode code 131 = .ok (.iconst 0, 1) := by decide +kernel
theorem dL_law_132 : decode code 132 = .ok (.goto 10, 3) := by decide +kernel
theorem dL_law_135 : decode code 135 = .ok (.iload 12, 2) := by decide +kernel
theorem dL_law_137 : decode code 137 = .ok (.aload 7, 2) := by decide +kernel
theorem dL_law_139 : decode code 139 = .ok (.iconst 1, 1) := by decide +kernel
theorem dL_law_140 : decode code 140 = .ok (.iaload, 1) := by decide +kernel
theorem dL_law_141 : decode code 141 = .ok (.irem, 1) := by decide +kernel
theorem dL_law_142 : decode code 142 = .ok (.istore 14, 2) := by decide +kernel
theorem dL_law_144 : decode code 144 = .ok (.aload 7, 2) := by decide +kernel
theorem dL_law_146 : decode code 146 = .ok (.iconst 0, 1) := by decide +kernel
theorem dL_law_147 : decode code 147 = .ok (.iaload, 1) := by decide +kernel
theorem dL_law_148 : decode code 148 = .ok (.ifCond .ne 7, 3) := by decide +kernel
theorem dL_law_151 : decode code 151 = .ok (.iconst 0, 1) := by decide +kernel
theorem dL_law_152 : decode code 152 = .ok (.goto 12, 3) := by decide +kernel
theorem dL_law_155 : decode code 155 = .ok (.iload 12, 2) := by decide +kernel
theorem dL_law_157 : decode code 157 = .ok (.iconst 5, 1) := by decide +kernel
theorem dL_law_158 : decode code 158 = .ok (.idiv, 1) := by decide +kernel
theorem dL_law_159 : decode code 159 = .ok (.aload 7, 2) := by decide +kernel
