/-! p29: decode rows -/
theorem dL_isRefused_412 : decode cL_isRefused 412 = .ok (.isub, 1) := by decide +kernel
theorem dL_isRefused_413 : decode cL_isRefused 413 = .ok (.goto 6, 3) := by decide +kernel
theorem dL_isRefused_416 : decode cL_isRefused 416 = .ok (.sipush 1001, 3) := by decide +kernel
theorem dL_isRefused_419 : decode cL_isRefused 419 = .ok (.iconst 0, 1) := by decide +kernel
theorem dL_isRefused_420 : decode cL_isRefused 420 = .ok (.iconst 0, 1) := by decide +kernel
theorem dL_isRefused_421 : decode cL_isRefused 421 = .ok (.invokestatic 136, 3) := by decide +kernel
theorem dL_isRefused_424 : decode cL_isRefused 424 = .ok (.sipush (-1202), 3) := by decide +kernel
theorem dL_isRefused_427 : decode cL_isRefused 427 = .ok (.if_icmp .ne 88, 3) := by decide +kernel
theorem dL_isRefused_430 : decode cL_isRefused 430 = .ok (.aload_n 0, 1) := by decide +kernel
theorem dL_isRefused_431 : decode cL_isRefused 431 = .ok (.iconst 3, 1) := by decide +kernel
theorem dL_isRefused_432 : decode cL_isRefused 432 = .ok (.iload 8, 2) := by decide +kernel
theorem dL_isRefused_434 : decode cL_isRefused 434 = .ok (.iconst 0, 1) := by decide +kernel
theorem dL_isRefused_435 : decode cL_isRefused 435 = .ok (.invokestatic 114, 3) := by decide +kernel
theorem dL_isRefused_438 : decode cL_isRefused 438 = .ok (.sipush (-1201), 3) := by decide +kernel
theorem dL_isRefused_441 : decode cL_isRefused 441 = .ok (.if_icmp .ne 74, 3) := by decide +kernel
theorem dL_isRefused_444 : decode cL_isRefused 444 = .ok (.aload_n 0, 1) := by decide +kernel
theorem dL_isRefused_445 : decode cL_isRefused 445 = .ok (.bipush 8, 2) := by decide +kernel
theorem dL_isRefused_447 : decode cL_isRefused 447 = .ok (.iload 8, 2) := by decide +kernel
theorem dL_isRefused_449 : decode cL_isRefused 449 = .ok (.iconst 0, 1) := by decide +kernel
theorem dL_isRefused_450 : decode cL_isRefused 450 = .ok (.invokestatic 114, 3) := by decide +kernel
theorem dL_isRefused_453 : decode cL_isRefused 453 = .ok (.sipush (-1201), 3) := by decide +kernel
theorem dL_isRefused_456 : decode cL_isRefused 456 = .ok (.if_icmp .ne 59, 3) := by decide +kernel
theorem dL_isRefused_459 : decode cL_isRefused 459 = .ok (.aload 4, 2) := by decide +kernel
theorem dL_isRefused_461 : decode cL_isRefused 461 = .ok (.iconst 4, 1) := by decide +kernel
theorem dL_isRefused_462 : decode cL_isRefused 462 = .ok (.iaload, 1) := by decide +kernel
theorem dL_isRefused_463 : decode cL_isRefused 463 = .ok (.ifCond .eq 48, 3) := by decide +kernel
theorem dL_isRefused_511 : decode cL_isRefused 511 = .ok (.iconst 1, 1) := by decide +kernel
theorem dL_isRefused_512 : decode cL_isRefused 512 = .ok (.goto 4, 3) := by decide +kernel
theorem dL_isRefused_516 : decode cL_isRefused 516 = .ok (.istore 11, 2) := by decide +kernel
theorem dL_isRefused_518 : decode cL_isRefused 518 = .ok (.bipush 9, 2) := by decide +kernel
theorem dL_isRefused_520 : decode cL_isRefused 520 = .ok (.istore 12, 2) := by decide +kernel
theorem dL_isRefused_522 : decode cL_isRefused 522 = .ok (.iload 12, 2) := by decide +kernel
theorem dL_isRefused_524 : decode cL_isRefused 524 = .ok (.bipush 13, 2) := by decide +kernel
theorem dL_isRefused_526 : decode cL_isRefused 526 = .ok (.if_icmp .ge 36, 3) := by decide +kernel
theorem dL_isRefused_529 : decode cL_isRefused 529 = .ok (.iload 11, 2) := by decide +kernel
theorem dL_isRefused_531 : decode cL_isRefused 531 = .ok (.ifCond .eq 31, 3) := by decide +kernel
theorem dL_isRefused_534 : decode cL_isRefused 534 = .ok (.aload_n 0, 1) := by decide +kernel
theorem dL_isRefused_535 : decode cL_isRefused 535 = .ok (.iload 12, 2) := by decide +kernel
theorem dL_isRefused_537 : decode cL_isRefused 537 = .ok (.iload 7, 2) := by decide +kernel
theorem dL_isRefused_539 : decode cL_isRefused 539 = .ok (.iconst 0, 1) := by decide +kernel
theorem dL_isRefused_540 : decode cL_isRefused 540 = .ok (.invokestatic 114, 3) := by decide +kernel
theorem dL_isRefused_543 : decode cL_isRefused 543 = .ok (.sipush (-1201), 3) := by decide +kernel
theorem dL_isRefused_546 : decode cL_isRefused 546 = .ok (.if_icmp .ne 7, 3) := by decide +kernel
theorem dL_isRefused_549 : decode cL_isRefused 549 = .ok (.iconst 1, 1) := by decide +kernel
theorem dL_isRefused_550 : decode cL_isRefused 550 = .ok (.goto 4, 3) := by decide +kernel
