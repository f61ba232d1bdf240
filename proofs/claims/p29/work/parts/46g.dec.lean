/-! p29: decode rows -/
theorem dL_isRefused_554 : decode cL_isRefused 554 = .ok (.istore 11, 2) := by decide +kernel
theorem dL_isRefused_556 : decode cL_isRefused 556 = .ok (.iinc 12 1, 3) := by decide +kernel
theorem dL_isRefused_559 : decode cL_isRefused 559 = .ok (.goto (-37), 3) := by decide +kernel
theorem dL_isRefused_562 : decode cL_isRefused 562 = .ok (.iconst 0, 1) := by decide +kernel
theorem dL_isRefused_563 : decode cL_isRefused 563 = .ok (.istore 12, 2) := by decide +kernel
theorem dL_isRefused_565 : decode cL_isRefused 565 = .ok (.iload 12, 2) := by decide +kernel
theorem dL_isRefused_567 : decode cL_isRefused 567 = .ok (.aload 4, 2) := by decide +kernel
theorem dL_isRefused_569 : decode cL_isRefused 569 = .ok (.iconst 1, 1) := by decide +kernel
theorem dL_isRefused_570 : decode cL_isRefused 570 = .ok (.iaload, 1) := by decide +kernel
theorem dL_isRefused_571 : decode cL_isRefused 571 = .ok (.if_icmp .ge 372, 3) := by decide +kernel
theorem dL_isRefused_574 : decode cL_isRefused 574 = .ok (.iload 11, 2) := by decide +kernel
theorem dL_isRefused_576 : decode cL_isRefused 576 = .ok (.ifCond .eq 367, 3) := by decide +kernel
theorem dL_isRefused_579 : decode cL_isRefused 579 = .ok (.aload_n 0, 1) := by decide +kernel
theorem dL_isRefused_580 : decode cL_isRefused 580 = .ok (.bipush 8, 2) := by decide +kernel
theorem dL_isRefused_582 : decode cL_isRefused 582 = .ok (.iload 12, 2) := by decide +kernel
theorem dL_isRefused_584 : decode cL_isRefused 584 = .ok (.iload 12, 2) := by decide +kernel
theorem dL_isRefused_586 : decode cL_isRefused 586 = .ok (.iconst 0, 1) := by decide +kernel
theorem dL_isRefused_587 : decode cL_isRefused 587 = .ok (.iconst 0, 1) := by decide +kernel
theorem dL_isRefused_588 : decode cL_isRefused 588 = .ok (.invokestatic 136, 3) := by decide +kernel
theorem dL_isRefused_591 : decode cL_isRefused 591 = .ok (.sipush (-1202), 3) := by decide +kernel
theorem dL_isRefused_594 : decode cL_isRefused 594 = .ok (.if_icmp .ne 55, 3) := by decide +kernel
theorem dL_isRefused_597 : decode cL_isRefused 597 = .ok (.aload_n 0, 1) := by decide +kernel
theorem dL_isRefused_598 : decode cL_isRefused 598 = .ok (.bipush 8, 2) := by decide +kernel
theorem dL_isRefused_600 : decode cL_isRefused 600 = .ok (.iload 12, 2) := by decide +kernel
theorem dL_isRefused_602 : decode cL_isRefused 602 = .ok (.iload 7, 2) := by decide +kernel
theorem dL_isRefused_604 : decode cL_isRefused 604 = .ok (.iconst 0, 1) := by decide +kernel
theorem dL_isRefused_605 : decode cL_isRefused 605 = .ok (.iconst 0, 1) := by decide +kernel
theorem dL_isRefused_606 : decode cL_isRefused 606 = .ok (.invokestatic 136, 3) := by decide +kernel
theorem dL_isRefused_609 : decode cL_isRefused 609 = .ok (.sipush (-1201), 3) := by decide +kernel
theorem dL_isRefused_612 : decode cL_isRefused 612 = .ok (.if_icmp .ne 37, 3) := by decide +kernel
theorem dL_isRefused_615 : decode cL_isRefused 615 = .ok (.aload_n 0, 1) := by decide +kernel
theorem dL_isRefused_616 : decode cL_isRefused 616 = .ok (.iconst 4, 1) := by decide +kernel
theorem dL_isRefused_617 : decode cL_isRefused 617 = .ok (.iload 12, 2) := by decide +kernel
theorem dL_isRefused_619 : decode cL_isRefused 619 = .ok (.iload 7, 2) := by decide +kernel
theorem dL_isRefused_621 : decode cL_isRefused 621 = .ok (.invokestatic 114, 3) := by decide +kernel
theorem dL_isRefused_624 : decode cL_isRefused 624 = .ok (.sipush (-1201), 3) := by decide +kernel
theorem dL_isRefused_627 : decode cL_isRefused 627 = .ok (.if_icmp .ne 22, 3) := by decide +kernel
theorem dL_isRefused_630 : decode cL_isRefused 630 = .ok (.aload_n 0, 1) := by decide +kernel
theorem dL_isRefused_631 : decode cL_isRefused 631 = .ok (.iconst 5, 1) := by decide +kernel
theorem dL_isRefused_632 : decode cL_isRefused 632 = .ok (.iload 7, 2) := by decide +kernel
theorem dL_isRefused_634 : decode cL_isRefused 634 = .ok (.iload 12, 2) := by decide +kernel
theorem dL_isRefused_636 : decode cL_isRefused 636 = .ok (.invokestatic 114, 3) := by decide +kernel
theorem dL_isRefused_639 : decode cL_isRefused 639 = .ok (.sipush (-1201), 3) := by decide +kernel
theorem dL_isRefused_642 : decode cL_isRefused 642 = .ok (.if_icmp .ne 7, 3) := by decide +kernel
theorem dL_isRefused_645 : decode cL_isRefused 645 = .ok (.iconst 1, 1) := by decide +kernel
