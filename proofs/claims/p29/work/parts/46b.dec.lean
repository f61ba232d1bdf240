/-! p29: decode rows -/
theorem dL_isRefused_77 : decode cL_isRefused 77 = .ok (.iconst 0, 1) := by decide +kernel
theorem dL_isRefused_78 : decode cL_isRefused 78 = .ok (.iload 6, 2) := by decide +kernel
theorem dL_isRefused_80 : decode cL_isRefused 80 = .ok (.ifCond .eq 13, 3) := by decide +kernel
theorem dL_isRefused_83 : decode cL_isRefused 83 = .ok (.iconst 0, 1) := by decide +kernel
theorem dL_isRefused_84 : decode cL_isRefused 84 = .ok (.iload 5, 2) := by decide +kernel
theorem dL_isRefused_86 : decode cL_isRefused 86 = .ok (.bipush 30, 2) := by decide +kernel
theorem dL_isRefused_88 : decode cL_isRefused 88 = .ok (.irem, 1) := by decide +kernel
theorem dL_isRefused_89 : decode cL_isRefused 89 = .ok (.isub, 1) := by decide +kernel
theorem dL_isRefused_90 : decode cL_isRefused 90 = .ok (.goto 12, 3) := by decide +kernel
theorem dL_isRefused_93 : decode cL_isRefused 93 = .ok (.sipush 501, 3) := by decide +kernel
theorem dL_isRefused_96 : decode cL_isRefused 96 = .ok (.iload 5, 2) := by decide +kernel
theorem dL_isRefused_98 : decode cL_isRefused 98 = .ok (.bipush 30, 2) := by decide +kernel
theorem dL_isRefused_100 : decode cL_isRefused 100 = .ok (.irem, 1) := by decide +kernel
theorem dL_isRefused_101 : decode cL_isRefused 101 = .ok (.iadd, 1) := by decide +kernel
theorem dL_isRefused_102 : decode cL_isRefused 102 = .ok (.iconst 0, 1) := by decide +kernel
theorem dL_isRefused_103 : decode cL_isRefused 103 = .ok (.iconst 0, 1) := by decide +kernel
theorem dL_isRefused_104 : decode cL_isRefused 104 = .ok (.iconst 0, 1) := by decide +kernel
theorem dL_isRefused_105 : decode cL_isRefused 105 = .ok (.invokestatic 136, 3) := by decide +kernel
theorem dL_isRefused_108 : decode cL_isRefused 108 = .ok (.sipush (-1202), 3) := by decide +kernel
theorem dL_isRefused_111 : decode cL_isRefused 111 = .ok (.if_icmp .ne 404, 3) := by decide +kernel
theorem dL_isRefused_114 : decode cL_isRefused 114 = .ok (.aload_n 0, 1) := by decide +kernel
theorem dL_isRefused_115 : decode cL_isRefused 115 = .ok (.iconst 1, 1) := by decide +kernel
theorem dL_isRefused_116 : decode cL_isRefused 116 = .ok (.iload 6, 2) := by decide +kernel
theorem dL_isRefused_118 : decode cL_isRefused 118 = .ok (.ifCond .eq 13, 3) := by decide +kernel
theorem dL_isRefused_121 : decode cL_isRefused 121 = .ok (.iconst 0, 1) := by decide +kernel
theorem dL_isRefused_122 : decode cL_isRefused 122 = .ok (.iload 5, 2) := by decide +kernel
theorem dL_isRefused_124 : decode cL_isRefused 124 = .ok (.bipush 30, 2) := by decide +kernel
theorem dL_isRefused_126 : decode cL_isRefused 126 = .ok (.irem, 1) := by decide +kernel
theorem dL_isRefused_127 : decode cL_isRefused 127 = .ok (.isub, 1) := by decide +kernel
theorem dL_isRefused_128 : decode cL_isRefused 128 = .ok (.goto 5, 3) := by decide +kernel
theorem dL_isRefused_131 : decode cL_isRefused 131 = .ok (.bipush 51, 2) := by decide +kernel
theorem dL_isRefused_133 : decode cL_isRefused 133 = .ok (.iconst 5, 1) := by decide +kernel
theorem dL_isRefused_134 : decode cL_isRefused 134 = .ok (.iconst 5, 1) := by decide +kernel
theorem dL_isRefused_135 : decode cL_isRefused 135 = .ok (.iconst 5, 1) := by decide +kernel
theorem dL_isRefused_136 : decode cL_isRefused 136 = .ok (.invokestatic 136, 3) := by decide +kernel
theorem dL_isRefused_139 : decode cL_isRefused 139 = .ok (.sipush (-1202), 3) := by decide +kernel
theorem dL_isRefused_142 : decode cL_isRefused 142 = .ok (.if_icmp .ne 373, 3) := by decide +kernel
theorem dL_isRefused_145 : decode cL_isRefused 145 = .ok (.aload_n 0, 1) := by decide +kernel
theorem dL_isRefused_146 : decode cL_isRefused 146 = .ok (.iconst 1, 1) := by decide +kernel
theorem dL_isRefused_147 : decode cL_isRefused 147 = .ok (.iconst 5, 1) := by decide +kernel
theorem dL_isRefused_148 : decode cL_isRefused 148 = .ok (.iload 6, 2) := by decide +kernel
theorem dL_isRefused_150 : decode cL_isRefused 150 = .ok (.ifCond .eq 13, 3) := by decide +kernel
theorem dL_isRefused_153 : decode cL_isRefused 153 = .ok (.iconst (-1), 1) := by decide +kernel
theorem dL_isRefused_154 : decode cL_isRefused 154 = .ok (.iload 5, 2) := by decide +kernel
theorem dL_isRefused_156 : decode cL_isRefused 156 = .ok (.bipush 30, 2) := by decide +kernel
