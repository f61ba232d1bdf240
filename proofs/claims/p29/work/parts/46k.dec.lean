/-! p29: decode rows -/
theorem dL_isRefused_985 : decode cL_isRefused 985 = .ok (.invokestatic 136, 3) := by decide +kernel
theorem dL_isRefused_988 : decode cL_isRefused 988 = .ok (.sipush (-1202), 3) := by decide +kernel
theorem dL_isRefused_991 : decode cL_isRefused 991 = .ok (.if_icmp .ne 7, 3) := by decide +kernel
theorem dL_isRefused_994 : decode cL_isRefused 994 = .ok (.iconst 1, 1) := by decide +kernel
theorem dL_isRefused_995 : decode cL_isRefused 995 = .ok (.goto 4, 3) := by decide +kernel
theorem dL_isRefused_999 : decode cL_isRefused 999 = .ok (.istore 11, 2) := by decide +kernel
theorem dL_isRefused_1001 : decode cL_isRefused 1001 = .ok (.iconst 0, 1) := by decide +kernel
theorem dL_isRefused_1002 : decode cL_isRefused 1002 = .ok (.istore 13, 2) := by decide +kernel
theorem dL_isRefused_1004 : decode cL_isRefused 1004 = .ok (.iload 13, 2) := by decide +kernel
theorem dL_isRefused_1006 : decode cL_isRefused 1006 = .ok (.iload 12, 2) := by decide +kernel
theorem dL_isRefused_1008 : decode cL_isRefused 1008 = .ok (.if_icmp .ge 105, 3) := by decide +kernel
theorem dL_isRefused_1011 : decode cL_isRefused 1011 = .ok (.iload 11, 2) := by decide +kernel
theorem dL_isRefused_1013 : decode cL_isRefused 1013 = .ok (.ifCond .eq 100, 3) := by decide +kernel
theorem dL_isRefused_1016 : decode cL_isRefused 1016 = .ok (.aload 4, 2) := by decide +kernel
theorem dL_isRefused_1018 : decode cL_isRefused 1018 = .ok (.iconst 4, 1) := by decide +kernel
theorem dL_isRefused_1019 : decode cL_isRefused 1019 = .ok (.iaload, 1) := by decide +kernel
theorem dL_isRefused_1020 : decode cL_isRefused 1020 = .ok (.iconst 1, 1) := by decide +kernel
theorem dL_isRefused_1021 : decode cL_isRefused 1021 = .ok (.if_icmp .eq 33, 3) := by decide +kernel
theorem dL_isRefused_1024 : decode cL_isRefused 1024 = .ok (.aload_n 1, 1) := by decide +kernel
theorem dL_isRefused_1025 : decode cL_isRefused 1025 = .ok (.bipush 6, 2) := by decide +kernel
theorem dL_isRefused_1027 : decode cL_isRefused 1027 = .ok (.iload 12, 2) := by decide +kernel
theorem dL_isRefused_1029 : decode cL_isRefused 1029 = .ok (.imul, 1) := by decide +kernel
theorem dL_isRefused_1030 : decode cL_isRefused 1030 = .ok (.iconst 5, 1) := by decide +kernel
theorem dL_isRefused_1031 : decode cL_isRefused 1031 = .ok (.iadd, 1) := by decide +kernel
theorem dL_isRefused_1032 : decode cL_isRefused 1032 = .ok (.iaload, 1) := by decide +kernel
theorem dL_isRefused_1033 : decode cL_isRefused 1033 = .ok (.ifCond .gt 21, 3) := by decide +kernel
theorem dL_isRefused_1036 : decode cL_isRefused 1036 = .ok (.aload_n 1, 1) := by decide +kernel
theorem dL_isRefused_1037 : decode cL_isRefused 1037 = .ok (.bipush 6, 2) := by decide +kernel
theorem dL_isRefused_1039 : decode cL_isRefused 1039 = .ok (.iload 12, 2) := by decide +kernel
theorem dL_isRefused_1041 : decode cL_isRefused 1041 = .ok (.imul, 1) := by decide +kernel
theorem dL_isRefused_1042 : decode cL_isRefused 1042 = .ok (.iconst 4, 1) := by decide +kernel
theorem dL_isRefused_1043 : decode cL_isRefused 1043 = .ok (.iadd, 1) := by decide +kernel
theorem dL_isRefused_1044 : decode cL_isRefused 1044 = .ok (.iaload, 1) := by decide +kernel
theorem dL_isRefused_1045 : decode cL_isRefused 1045 = .ok (.iload 13, 2) := by decide +kernel
theorem dL_isRefused_1047 : decode cL_isRefused 1047 = .ok (.ishr, 1) := by decide +kernel
theorem dL_isRefused_1048 : decode cL_isRefused 1048 = .ok (.iconst 1, 1) := by decide +kernel
theorem dL_isRefused_1049 : decode cL_isRefused 1049 = .ok (.iand, 1) := by decide +kernel
theorem dL_isRefused_1050 : decode cL_isRefused 1050 = .ok (.iconst 1, 1) := by decide +kernel
theorem dL_isRefused_1051 : decode cL_isRefused 1051 = .ok (.if_icmp .ne 7, 3) := by decide +kernel
theorem dL_isRefused_1058 : decode cL_isRefused 1058 = .ok (.iconst 0, 1) := by decide +kernel
theorem dL_isRefused_1059 : decode cL_isRefused 1059 = .ok (.istore 14, 2) := by decide +kernel
theorem dL_isRefused_1061 : decode cL_isRefused 1061 = .ok (.aload_n 0, 1) := by decide +kernel
theorem dL_isRefused_1062 : decode cL_isRefused 1062 = .ok (.iconst 2, 1) := by decide +kernel
theorem dL_isRefused_1063 : decode cL_isRefused 1063 = .ok (.iload 13, 2) := by decide +kernel
theorem dL_isRefused_1065 : decode cL_isRefused 1065 = .ok (.iload 12, 2) := by decide +kernel
