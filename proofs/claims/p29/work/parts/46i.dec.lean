/-! p29: decode rows -/
theorem dL_isRefused_742 : decode cL_isRefused 742 = .ok (.ifCond .lt 14, 3) := by decide +kernel
theorem dL_isRefused_745 : decode cL_isRefused 745 = .ok (.aload_n 0, 1) := by decide +kernel
theorem dL_isRefused_746 : decode cL_isRefused 746 = .ok (.iload 12, 2) := by decide +kernel
theorem dL_isRefused_748 : decode cL_isRefused 748 = .ok (.iload 13, 2) := by decide +kernel
theorem dL_isRefused_750 : decode cL_isRefused 750 = .ok (.invokevirtual 62, 3) := by decide +kernel
theorem dL_isRefused_753 : decode cL_isRefused 753 = .ok (.ifCond .lt 7, 3) := by decide +kernel
theorem dL_isRefused_760 : decode cL_isRefused 760 = .ok (.iconst 0, 1) := by decide +kernel
theorem dL_isRefused_761 : decode cL_isRefused 761 = .ok (.istore 14, 2) := by decide +kernel
theorem dL_isRefused_763 : decode cL_isRefused 763 = .ok (.aload_n 0, 1) := by decide +kernel
theorem dL_isRefused_764 : decode cL_isRefused 764 = .ok (.iconst 5, 1) := by decide +kernel
theorem dL_isRefused_765 : decode cL_isRefused 765 = .ok (.iload 12, 2) := by decide +kernel
theorem dL_isRefused_767 : decode cL_isRefused 767 = .ok (.iload 13, 2) := by decide +kernel
theorem dL_isRefused_769 : decode cL_isRefused 769 = .ok (.iload 6, 2) := by decide +kernel
theorem dL_isRefused_771 : decode cL_isRefused 771 = .ok (.ifCond .eq 13, 3) := by decide +kernel
theorem dL_isRefused_784 : decode cL_isRefused 784 = .ok (.sipush 10000, 3) := by decide +kernel
theorem dL_isRefused_787 : decode cL_isRefused 787 = .ok (.iconst 0, 1) := by decide +kernel
theorem dL_isRefused_788 : decode cL_isRefused 788 = .ok (.invokestatic 136, 3) := by decide +kernel
theorem dL_isRefused_791 : decode cL_isRefused 791 = .ok (.sipush (-1202), 3) := by decide +kernel
theorem dL_isRefused_794 : decode cL_isRefused 794 = .ok (.if_icmp .ne 134, 3) := by decide +kernel
theorem dL_isRefused_797 : decode cL_isRefused 797 = .ok (.aload_n 0, 1) := by decide +kernel
theorem dL_isRefused_798 : decode cL_isRefused 798 = .ok (.iconst 5, 1) := by decide +kernel
theorem dL_isRefused_799 : decode cL_isRefused 799 = .ok (.iload 7, 2) := by decide +kernel
theorem dL_isRefused_801 : decode cL_isRefused 801 = .ok (.iload 13, 2) := by decide +kernel
theorem dL_isRefused_803 : decode cL_isRefused 803 = .ok (.iconst 5, 1) := by decide +kernel
theorem dL_isRefused_804 : decode cL_isRefused 804 = .ok (.iconst 0, 1) := by decide +kernel
theorem dL_isRefused_805 : decode cL_isRefused 805 = .ok (.invokestatic 136, 3) := by decide +kernel
theorem dL_isRefused_808 : decode cL_isRefused 808 = .ok (.sipush (-1201), 3) := by decide +kernel
theorem dL_isRefused_811 : decode cL_isRefused 811 = .ok (.if_icmp .ne 117, 3) := by decide +kernel
theorem dL_isRefused_814 : decode cL_isRefused 814 = .ok (.iload 14, 2) := by decide +kernel
theorem dL_isRefused_816 : decode cL_isRefused 816 = .ok (.ifCond .eq 43, 3) := by decide +kernel
theorem dL_isRefused_859 : decode cL_isRefused 859 = .ok (.aload_n 2, 1) := by decide +kernel
theorem dL_isRefused_860 : decode cL_isRefused 860 = .ok (.bipush 8, 2) := by decide +kernel
theorem dL_isRefused_862 : decode cL_isRefused 862 = .ok (.iload 12, 2) := by decide +kernel
theorem dL_isRefused_864 : decode cL_isRefused 864 = .ok (.imul, 1) := by decide +kernel
theorem dL_isRefused_865 : decode cL_isRefused 865 = .ok (.iload 13, 2) := by decide +kernel
theorem dL_isRefused_867 : decode cL_isRefused 867 = .ok (.iadd, 1) := by decide +kernel
theorem dL_isRefused_868 : decode cL_isRefused 868 = .ok (.iaload, 1) := by decide +kernel
theorem dL_isRefused_869 : decode cL_isRefused 869 = .ok (.iconst 3, 1) := by decide +kernel
theorem dL_isRefused_870 : decode cL_isRefused 870 = .ok (.iand, 1) := by decide +kernel
theorem dL_isRefused_871 : decode cL_isRefused 871 = .ok (.iconst 3, 1) := by decide +kernel
theorem dL_isRefused_872 : decode cL_isRefused 872 = .ok (.if_icmp .lt 21, 3) := by decide +kernel
theorem dL_isRefused_893 : decode cL_isRefused 893 = .ok (.aload_n 3, 1) := by decide +kernel
theorem dL_isRefused_894 : decode cL_isRefused 894 = .ok (.iload 12, 2) := by decide +kernel
theorem dL_isRefused_896 : decode cL_isRefused 896 = .ok (.iaload, 1) := by decide +kernel
theorem dL_isRefused_897 : decode cL_isRefused 897 = .ok (.iload 13, 2) := by decide +kernel
