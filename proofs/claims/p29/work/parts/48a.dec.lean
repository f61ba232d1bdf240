/-! p29: decode rows -/
theorem dL_law_0 : decode code 0 = .ok (.new 10, 3) := by decide +kernel
theorem dL_law_3 : decode code 3 = .ok (.dup, 1) := by decide +kernel
theorem dL_law_4 : decode code 4 = .ok (.invokespecial 140, 3) := by decide +kernel
theorem dL_law_7 : decode code 7 = .ok (.astore_n 1, 1) := by decide +kernel
theorem dL_law_8 : decode code 8 = .ok (.bipush 48, 2) := by decide +kernel
theorem dL_law_10 : decode code 10 = .ok (.newarray .int, 2) := by decide +kernel
theorem dL_law_12 : decode code 12 = .ok (.astore_n 2, 1) := by decide +kernel
theorem dL_law_13 : decode code 13 = .ok (.bipush 64, 2) := by decide +kernel
theorem dL_law_15 : decode code 15 = .ok (.newarray .int, 2) := by decide +kernel
theorem dL_law_17 : decode code 17 = .ok (.astore_n 3, 1) := by decide +kernel
theorem dL_law_18 : decode code 18 = .ok (.bipush 40, 2) := by decide +kernel
theorem dL_law_20 : decode code 20 = .ok (.newarray .int, 2) := by decide +kernel
theorem dL_law_22 : decode code 22 = .ok (.astore 4, 2) := by decide +kernel
theorem dL_law_24 : decode code 24 = .ok (.iconst 5, 1) := by decide +kernel
theorem dL_law_25 : decode code 25 = .ok (.newarray .int, 2) := by decide +kernel
theorem dL_law_27 : decode code 27 = .ok (.astore 5, 2) := by decide +kernel
theorem dL_law_29 : decode code 29 = .ok (.bipush 8, 2) := by decide +kernel
theorem dL_law_31 : decode code 31 = .ok (.newarray .int, 2) := by decide +kernel
theorem dL_law_33 : decode code 33 = .ok (.astore 6, 2) := by decide +kernel
theorem dL_law_35 : decode code 35 = .ok (.iconst 5, 1) := by decide +kernel
theorem dL_law_36 : decode code 36 = .ok (.newarray .int, 2) := by decide +kernel
theorem dL_law_38 : decode code 38 = .ok (.astore 7, 2) := by decide +kernel
theorem dL_law_40 : decode code 40 = .ok (.iconst 5, 1) := by decide +kernel
theorem dL_law_41 : decode code 41 = .ok (.newarray .int, 2) := by decide +kernel
theorem dL_law_43 : decode code 43 = .ok (.astore 8, 2) := by decide +kernel
theorem dL_law_45 : decode code 45 = .ok (.aload 7, 2) := by decide +kernel
theorem dL_law_47 : decode code 47 = .ok (.iconst 3, 1) := by decide +kernel
theorem dL_law_48 : decode code 48 = .ok (.iconst 3, 1) := by decide +kernel
theorem dL_law_49 : decode code 49 = .ok (.iastore, 1) := by decide +kernel
theorem dL_law_50 : decode code 50 = .ok (.aload_n 1, 1) := by decide +kernel
theorem dL_law_51 : decode code 51 = .ok (.aload_n 2, 1) := by decide +kernel
theorem dL_law_52 : decode code 52 = .ok (.aload 4, 2) := by decide +kernel
theorem dL_law_54 : decode code 54 = .ok (.aload 5, 2) := by decide +kernel
theorem dL_law_56 : decode code 56 = .ok (.aload 7, 2) := by decide +kernel
theorem dL_law_58 : decode code 58 = .ok (.iconst 0, 1) := by decide +kernel
theorem dL_law_59 : decode code 59 = .ok (.invokestatic 141, 3) := by decide +kernel
theorem dL_law_62 : decode code 62 = .ok (.ifCond .eq 22, 3) := by decide +kernel
theorem dL_law_65 : decode code 65 = .ok (.aload_n 1, 1) := by decide +kernel
theorem dL_law_66 : decode code 66 = .ok (.aload_n 2, 1) := by decide +kernel
theorem dL_law_67 : decode code 67 = .ok (.aload 4, 2) := by decide +kernel
theorem dL_law_69 : decode code 69 = .ok (.aload 5, 2) := by decide +kernel
theorem dL_law_71 : decode code 71 = .ok (.aload 7, 2) := by decide +kernel
theorem dL_law_73 : decode code 73 = .ok (.iconst 1, 1) := by decide +kernel
theorem dL_law_74 : decode code 74 = .ok (.invokestatic 141, 3) := by decide +kernel
theorem dL_law_77 : decode code 77 = .ok (.ifCond .eq 7, 3) := by decide +kernel
