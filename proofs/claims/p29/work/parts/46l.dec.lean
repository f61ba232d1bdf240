/-! p29: decode rows -/
theorem dL_isRefused_1067 : decode cL_isRefused 1067 = .ok (.iconst 0, 1) := by decide +kernel
theorem dL_isRefused_1068 : decode cL_isRefused 1068 = .ok (.iconst 0, 1) := by decide +kernel
theorem dL_isRefused_1069 : decode cL_isRefused 1069 = .ok (.invokestatic 136, 3) := by decide +kernel
theorem dL_isRefused_1072 : decode cL_isRefused 1072 = .ok (.sipush (-1202), 3) := by decide +kernel
theorem dL_isRefused_1075 : decode cL_isRefused 1075 = .ok (.if_icmp .ne 29, 3) := by decide +kernel
theorem dL_isRefused_1078 : decode cL_isRefused 1078 = .ok (.iload 14, 2) := by decide +kernel
theorem dL_isRefused_1080 : decode cL_isRefused 1080 = .ok (.ifCond .eq 20, 3) := by decide +kernel
theorem dL_isRefused_1100 : decode cL_isRefused 1100 = .ok (.iconst 1, 1) := by decide +kernel
theorem dL_isRefused_1101 : decode cL_isRefused 1101 = .ok (.goto 4, 3) := by decide +kernel
theorem dL_isRefused_1105 : decode cL_isRefused 1105 = .ok (.istore 11, 2) := by decide +kernel
theorem dL_isRefused_1107 : decode cL_isRefused 1107 = .ok (.iinc 13 1, 3) := by decide +kernel
theorem dL_isRefused_1110 : decode cL_isRefused 1110 = .ok (.goto (-106), 3) := by decide +kernel
theorem dL_isRefused_1113 : decode cL_isRefused 1113 = .ok (.iinc 12 1, 3) := by decide +kernel
theorem dL_isRefused_1116 : decode cL_isRefused 1116 = .ok (.goto (-170), 3) := by decide +kernel
theorem dL_isRefused_1119 : decode cL_isRefused 1119 = .ok (.iload 11, 2) := by decide +kernel
theorem dL_isRefused_1121 : decode cL_isRefused 1121 = .ok (.ifCond .eq 19, 3) := by decide +kernel
theorem dL_isRefused_1124 : decode cL_isRefused 1124 = .ok (.aload_n 0, 1) := by decide +kernel
theorem dL_isRefused_1125 : decode cL_isRefused 1125 = .ok (.aload 4, 2) := by decide +kernel
theorem dL_isRefused_1127 : decode cL_isRefused 1127 = .ok (.invokestatic 132, 3) := by decide +kernel
theorem dL_isRefused_1130 : decode cL_isRefused 1130 = .ok (.lload 9, 2) := by decide +kernel
theorem dL_isRefused_1132 : decode cL_isRefused 1132 = .ok (.lcmp, 1) := by decide +kernel
theorem dL_isRefused_1133 : decode cL_isRefused 1133 = .ok (.ifCond .ne 7, 3) := by decide +kernel
theorem dL_isRefused_1136 : decode cL_isRefused 1136 = .ok (.iconst 1, 1) := by decide +kernel
theorem dL_isRefused_1137 : decode cL_isRefused 1137 = .ok (.goto 4, 3) := by decide +kernel
theorem dL_isRefused_1140 : decode cL_isRefused 1140 = .ok (.iconst 0, 1) := by decide +kernel
theorem dL_isRefused_1141 : decode cL_isRefused 1141 = .ok (.ireturn, 1) := by decide +kernel
