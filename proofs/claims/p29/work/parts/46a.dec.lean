/-! p29: decode rows -/
theorem dL_isRefused_0 : decode cL_isRefused 0 = .ok (.iload 5, 2) := by decide +kernel
theorem dL_isRefused_2 : decode cL_isRefused 2 = .ok (.iconst 2, 1) := by decide +kernel
theorem dL_isRefused_3 : decode cL_isRefused 3 = .ok (.irem, 1) := by decide +kernel
theorem dL_isRefused_4 : decode cL_isRefused 4 = .ok (.ifCond .ne 7, 3) := by decide +kernel
theorem dL_isRefused_7 : decode cL_isRefused 7 = .ok (.iconst 1, 1) := by decide +kernel
theorem dL_isRefused_8 : decode cL_isRefused 8 = .ok (.goto 4, 3) := by decide +kernel
theorem dL_isRefused_11 : decode cL_isRefused 11 = .ok (.iconst 0, 1) := by decide +kernel
theorem dL_isRefused_12 : decode cL_isRefused 12 = .ok (.istore 6, 2) := by decide +kernel
theorem dL_isRefused_14 : decode cL_isRefused 14 = .ok (.iload 6, 2) := by decide +kernel
theorem dL_isRefused_16 : decode cL_isRefused 16 = .ok (.ifCond .eq 13, 3) := by decide +kernel
theorem dL_isRefused_19 : decode cL_isRefused 19 = .ok (.iconst (-1), 1) := by decide +kernel
theorem dL_isRefused_20 : decode cL_isRefused 20 = .ok (.iload 5, 2) := by decide +kernel
theorem dL_isRefused_22 : decode cL_isRefused 22 = .ok (.bipush 30, 2) := by decide +kernel
theorem dL_isRefused_24 : decode cL_isRefused 24 = .ok (.irem, 1) := by decide +kernel
theorem dL_isRefused_25 : decode cL_isRefused 25 = .ok (.isub, 1) := by decide +kernel
theorem dL_isRefused_26 : decode cL_isRefused 26 = .ok (.goto 13, 3) := by decide +kernel
theorem dL_isRefused_29 : decode cL_isRefused 29 = .ok (.aload 4, 2) := by decide +kernel
theorem dL_isRefused_31 : decode cL_isRefused 31 = .ok (.iconst 1, 1) := by decide +kernel
theorem dL_isRefused_32 : decode cL_isRefused 32 = .ok (.iaload, 1) := by decide +kernel
theorem dL_isRefused_33 : decode cL_isRefused 33 = .ok (.iload 5, 2) := by decide +kernel
theorem dL_isRefused_35 : decode cL_isRefused 35 = .ok (.bipush 30, 2) := by decide +kernel
theorem dL_isRefused_37 : decode cL_isRefused 37 = .ok (.irem, 1) := by decide +kernel
theorem dL_isRefused_38 : decode cL_isRefused 38 = .ok (.iadd, 1) := by decide +kernel
theorem dL_isRefused_39 : decode cL_isRefused 39 = .ok (.istore 7, 2) := by decide +kernel
theorem dL_isRefused_41 : decode cL_isRefused 41 = .ok (.iload 6, 2) := by decide +kernel
theorem dL_isRefused_43 : decode cL_isRefused 43 = .ok (.ifCond .eq 13, 3) := by decide +kernel
theorem dL_isRefused_46 : decode cL_isRefused 46 = .ok (.iconst (-1), 1) := by decide +kernel
theorem dL_isRefused_47 : decode cL_isRefused 47 = .ok (.iload 5, 2) := by decide +kernel
theorem dL_isRefused_49 : decode cL_isRefused 49 = .ok (.bipush 30, 2) := by decide +kernel
theorem dL_isRefused_51 : decode cL_isRefused 51 = .ok (.irem, 1) := by decide +kernel
theorem dL_isRefused_52 : decode cL_isRefused 52 = .ok (.isub, 1) := by decide +kernel
theorem dL_isRefused_53 : decode cL_isRefused 53 = .ok (.goto 13, 3) := by decide +kernel
theorem dL_isRefused_56 : decode cL_isRefused 56 = .ok (.aload 4, 2) := by decide +kernel
theorem dL_isRefused_58 : decode cL_isRefused 58 = .ok (.iconst 0, 1) := by decide +kernel
theorem dL_isRefused_59 : decode cL_isRefused 59 = .ok (.iaload, 1) := by decide +kernel
theorem dL_isRefused_60 : decode cL_isRefused 60 = .ok (.iload 5, 2) := by decide +kernel
theorem dL_isRefused_62 : decode cL_isRefused 62 = .ok (.bipush 30, 2) := by decide +kernel
theorem dL_isRefused_64 : decode cL_isRefused 64 = .ok (.irem, 1) := by decide +kernel
theorem dL_isRefused_65 : decode cL_isRefused 65 = .ok (.iadd, 1) := by decide +kernel
theorem dL_isRefused_66 : decode cL_isRefused 66 = .ok (.istore 8, 2) := by decide +kernel
theorem dL_isRefused_68 : decode cL_isRefused 68 = .ok (.aload_n 0, 1) := by decide +kernel
theorem dL_isRefused_69 : decode cL_isRefused 69 = .ok (.aload 4, 2) := by decide +kernel
theorem dL_isRefused_71 : decode cL_isRefused 71 = .ok (.invokestatic 132, 3) := by decide +kernel
theorem dL_isRefused_74 : decode cL_isRefused 74 = .ok (.lstore 9, 2) := by decide +kernel
theorem dL_isRefused_76 : decode cL_isRefused 76 = .ok (.aload_n 0, 1) := by decide +kernel
