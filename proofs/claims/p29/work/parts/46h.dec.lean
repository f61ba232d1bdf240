/-! p29: decode rows -/
theorem dL_isRefused_646 : decode cL_isRefused 646 = .ok (.goto 4, 3) := by decide +kernel
theorem dL_isRefused_650 : decode cL_isRefused 650 = .ok (.istore 11, 2) := by decide +kernel
theorem dL_isRefused_652 : decode cL_isRefused 652 = .ok (.iconst 0, 1) := by decide +kernel
theorem dL_isRefused_653 : decode cL_isRefused 653 = .ok (.istore 13, 2) := by decide +kernel
theorem dL_isRefused_655 : decode cL_isRefused 655 = .ok (.iload 13, 2) := by decide +kernel
theorem dL_isRefused_657 : decode cL_isRefused 657 = .ok (.bipush 8, 2) := by decide +kernel
theorem dL_isRefused_659 : decode cL_isRefused 659 = .ok (.if_icmp .ge 50, 3) := by decide +kernel
theorem dL_isRefused_662 : decode cL_isRefused 662 = .ok (.iload 11, 2) := by decide +kernel
theorem dL_isRefused_664 : decode cL_isRefused 664 = .ok (.ifCond .eq 45, 3) := by decide +kernel
theorem dL_isRefused_667 : decode cL_isRefused 667 = .ok (.iload 13, 2) := by decide +kernel
theorem dL_isRefused_669 : decode cL_isRefused 669 = .ok (.iconst 2, 1) := by decide +kernel
theorem dL_isRefused_670 : decode cL_isRefused 670 = .ok (.if_icmp .le 10, 3) := by decide +kernel
theorem dL_isRefused_673 : decode cL_isRefused 673 = .ok (.iload 13, 2) := by decide +kernel
theorem dL_isRefused_675 : decode cL_isRefused 675 = .ok (.bipush 6, 2) := by decide +kernel
theorem dL_isRefused_677 : decode cL_isRefused 677 = .ok (.if_icmp .lt 19, 3) := by decide +kernel
theorem dL_isRefused_680 : decode cL_isRefused 680 = .ok (.aload_n 0, 1) := by decide +kernel
theorem dL_isRefused_681 : decode cL_isRefused 681 = .ok (.iload 13, 2) := by decide +kernel
theorem dL_isRefused_683 : decode cL_isRefused 683 = .ok (.iload 12, 2) := by decide +kernel
theorem dL_isRefused_685 : decode cL_isRefused 685 = .ok (.iload 8, 2) := by decide +kernel
theorem dL_isRefused_687 : decode cL_isRefused 687 = .ok (.invokestatic 114, 3) := by decide +kernel
theorem dL_isRefused_690 : decode cL_isRefused 690 = .ok (.sipush (-1201), 3) := by decide +kernel
theorem dL_isRefused_693 : decode cL_isRefused 693 = .ok (.if_icmp .ne 7, 3) := by decide +kernel
theorem dL_isRefused_696 : decode cL_isRefused 696 = .ok (.iconst 1, 1) := by decide +kernel
theorem dL_isRefused_697 : decode cL_isRefused 697 = .ok (.goto 4, 3) := by decide +kernel
theorem dL_isRefused_701 : decode cL_isRefused 701 = .ok (.istore 11, 2) := by decide +kernel
theorem dL_isRefused_703 : decode cL_isRefused 703 = .ok (.iinc 13 1, 3) := by decide +kernel
theorem dL_isRefused_706 : decode cL_isRefused 706 = .ok (.goto (-51), 3) := by decide +kernel
theorem dL_isRefused_709 : decode cL_isRefused 709 = .ok (.iconst 0, 1) := by decide +kernel
theorem dL_isRefused_710 : decode cL_isRefused 710 = .ok (.istore 13, 2) := by decide +kernel
theorem dL_isRefused_712 : decode cL_isRefused 712 = .ok (.iload 13, 2) := by decide +kernel
theorem dL_isRefused_714 : decode cL_isRefused 714 = .ok (.aload 4, 2) := by decide +kernel
theorem dL_isRefused_716 : decode cL_isRefused 716 = .ok (.iconst 0, 1) := by decide +kernel
theorem dL_isRefused_717 : decode cL_isRefused 717 = .ok (.iaload, 1) := by decide +kernel
theorem dL_isRefused_718 : decode cL_isRefused 718 = .ok (.if_icmp .ge 219, 3) := by decide +kernel
theorem dL_isRefused_721 : decode cL_isRefused 721 = .ok (.iload 11, 2) := by decide +kernel
theorem dL_isRefused_723 : decode cL_isRefused 723 = .ok (.ifCond .eq 214, 3) := by decide +kernel
theorem dL_isRefused_726 : decode cL_isRefused 726 = .ok (.aload 4, 2) := by decide +kernel
theorem dL_isRefused_728 : decode cL_isRefused 728 = .ok (.iconst 4, 1) := by decide +kernel
theorem dL_isRefused_729 : decode cL_isRefused 729 = .ok (.iaload, 1) := by decide +kernel
theorem dL_isRefused_730 : decode cL_isRefused 730 = .ok (.iconst 1, 1) := by decide +kernel
theorem dL_isRefused_731 : decode cL_isRefused 731 = .ok (.if_icmp .eq 25, 3) := by decide +kernel
theorem dL_isRefused_734 : decode cL_isRefused 734 = .ok (.aload_n 0, 1) := by decide +kernel
theorem dL_isRefused_735 : decode cL_isRefused 735 = .ok (.iload 12, 2) := by decide +kernel
theorem dL_isRefused_737 : decode cL_isRefused 737 = .ok (.iload 13, 2) := by decide +kernel
theorem dL_isRefused_739 : decode cL_isRefused 739 = .ok (.invokevirtual 59, 3) := by decide +kernel
