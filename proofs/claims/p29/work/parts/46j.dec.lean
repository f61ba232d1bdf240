/-! p29: decode rows -/
theorem dL_isRefused_899 : decode cL_isRefused 899 = .ok (.ishr, 1) := by decide +kernel
theorem dL_isRefused_900 : decode cL_isRefused 900 = .ok (.iconst 1, 1) := by decide +kernel
theorem dL_isRefused_901 : decode cL_isRefused 901 = .ok (.iand, 1) := by decide +kernel
theorem dL_isRefused_902 : decode cL_isRefused 902 = .ok (.iconst 1, 1) := by decide +kernel
theorem dL_isRefused_903 : decode cL_isRefused 903 = .ok (.if_icmp .eq 21, 3) := by decide +kernel
theorem dL_isRefused_906 : decode cL_isRefused 906 = .ok (.aload_n 0, 1) := by decide +kernel
theorem dL_isRefused_907 : decode cL_isRefused 907 = .ok (.bipush 7, 2) := by decide +kernel
theorem dL_isRefused_909 : decode cL_isRefused 909 = .ok (.iload 12, 2) := by decide +kernel
theorem dL_isRefused_911 : decode cL_isRefused 911 = .ok (.iload 13, 2) := by decide +kernel
theorem dL_isRefused_913 : decode cL_isRefused 913 = .ok (.iconst 0, 1) := by decide +kernel
theorem dL_isRefused_914 : decode cL_isRefused 914 = .ok (.iconst 0, 1) := by decide +kernel
theorem dL_isRefused_915 : decode cL_isRefused 915 = .ok (.invokestatic 136, 3) := by decide +kernel
theorem dL_isRefused_918 : decode cL_isRefused 918 = .ok (.sipush (-1203), 3) := by decide +kernel
theorem dL_isRefused_921 : decode cL_isRefused 921 = .ok (.if_icmp .ne 7, 3) := by decide +kernel
theorem dL_isRefused_924 : decode cL_isRefused 924 = .ok (.iconst 1, 1) := by decide +kernel
theorem dL_isRefused_925 : decode cL_isRefused 925 = .ok (.goto 4, 3) := by decide +kernel
theorem dL_isRefused_929 : decode cL_isRefused 929 = .ok (.istore 11, 2) := by decide +kernel
theorem dL_isRefused_931 : decode cL_isRefused 931 = .ok (.iinc 13 1, 3) := by decide +kernel
theorem dL_isRefused_934 : decode cL_isRefused 934 = .ok (.goto (-222), 3) := by decide +kernel
theorem dL_isRefused_937 : decode cL_isRefused 937 = .ok (.iinc 12 1, 3) := by decide +kernel
theorem dL_isRefused_940 : decode cL_isRefused 940 = .ok (.goto (-375), 3) := by decide +kernel
theorem dL_isRefused_943 : decode cL_isRefused 943 = .ok (.iconst 0, 1) := by decide +kernel
theorem dL_isRefused_944 : decode cL_isRefused 944 = .ok (.istore 12, 2) := by decide +kernel
theorem dL_isRefused_946 : decode cL_isRefused 946 = .ok (.iload 12, 2) := by decide +kernel
theorem dL_isRefused_948 : decode cL_isRefused 948 = .ok (.aload 4, 2) := by decide +kernel
theorem dL_isRefused_950 : decode cL_isRefused 950 = .ok (.iconst 0, 1) := by decide +kernel
theorem dL_isRefused_951 : decode cL_isRefused 951 = .ok (.iaload, 1) := by decide +kernel
theorem dL_isRefused_952 : decode cL_isRefused 952 = .ok (.if_icmp .ge 167, 3) := by decide +kernel
theorem dL_isRefused_955 : decode cL_isRefused 955 = .ok (.iload 11, 2) := by decide +kernel
theorem dL_isRefused_957 : decode cL_isRefused 957 = .ok (.ifCond .eq 162, 3) := by decide +kernel
theorem dL_isRefused_960 : decode cL_isRefused 960 = .ok (.aload_n 0, 1) := by decide +kernel
theorem dL_isRefused_961 : decode cL_isRefused 961 = .ok (.iconst 2, 1) := by decide +kernel
theorem dL_isRefused_962 : decode cL_isRefused 962 = .ok (.iload 12, 2) := by decide +kernel
theorem dL_isRefused_964 : decode cL_isRefused 964 = .ok (.iload 8, 2) := by decide +kernel
theorem dL_isRefused_966 : decode cL_isRefused 966 = .ok (.iconst 0, 1) := by decide +kernel
theorem dL_isRefused_967 : decode cL_isRefused 967 = .ok (.iconst 0, 1) := by decide +kernel
theorem dL_isRefused_968 : decode cL_isRefused 968 = .ok (.invokestatic 136, 3) := by decide +kernel
theorem dL_isRefused_971 : decode cL_isRefused 971 = .ok (.sipush (-1201), 3) := by decide +kernel
theorem dL_isRefused_974 : decode cL_isRefused 974 = .ok (.if_icmp .ne 24, 3) := by decide +kernel
theorem dL_isRefused_977 : decode cL_isRefused 977 = .ok (.aload_n 0, 1) := by decide +kernel
theorem dL_isRefused_978 : decode cL_isRefused 978 = .ok (.iconst 2, 1) := by decide +kernel
theorem dL_isRefused_979 : decode cL_isRefused 979 = .ok (.iload 12, 2) := by decide +kernel
theorem dL_isRefused_981 : decode cL_isRefused 981 = .ok (.iload 12, 2) := by decide +kernel
theorem dL_isRefused_983 : decode cL_isRefused 983 = .ok (.iconst 0, 1) := by decide +kernel
theorem dL_isRefused_984 : decode cL_isRefused 984 = .ok (.iconst 0, 1) := by decide +kernel
