/-! p29: decode rows -/
theorem dL_law_379 : decode code 379 = .ok (.if_icmp .ne 7, 3) := by decide +kernel
theorem dL_law_382 : decode code 382 = .ok (.iconst 1, 1) := by decide +kernel
theorem dL_law_383 : decode code 383 = .ok (.goto 4, 3) := by decide +kernel
theorem dL_law_387 : decode code 387 = .ok (.istore 9, 2) := by decide +kernel
theorem dL_law_389 : decode code 389 = .ok (.goto 777, 3) := by decide +kernel
theorem dL_law_392 : decode code 392 = .ok (.iload 13, 2) := by decide +kernel
theorem dL_law_394 : decode code 394 = .ok (.iconst 4, 1) := by decide +kernel
theorem dL_law_395 : decode code 395 = .ok (.if_icmp .ge 172, 3) := by decide +kernel
theorem dL_law_398 : decode code 398 = .ok (.iload 15, 2) := by decide +kernel
theorem dL_law_400 : decode code 400 = .ok (.ifCond .ne 7, 3) := by decide +kernel
theorem dL_law_403 : decode code 403 = .ok (.iconst 0, 1) := by decide +kernel
theorem dL_law_404 : decode code 404 = .ok (.goto 11, 3) := by decide +kernel
theorem dL_law_415 : decode code 415 = .ok (.istore 16, 2) := by decide +kernel
theorem dL_law_417 : decode code 417 = .ok (.aload 7, 2) := by decide +kernel
theorem dL_law_419 : decode code 419 = .ok (.iconst 4, 1) := by decide +kernel
theorem dL_law_420 : decode code 420 = .ok (.iaload, 1) := by decide +kernel
theorem dL_law_421 : decode code 421 = .ok (.iconst 1, 1) := by decide +kernel
theorem dL_law_422 : decode code 422 = .ok (.if_icmp .eq 33, 3) := by decide +kernel
theorem dL_law_425 : decode code 425 = .ok (.aload_n 2, 1) := by decide +kernel
theorem dL_law_426 : decode code 426 = .ok (.bipush 6, 2) := by decide +kernel
theorem dL_law_428 : decode code 428 = .ok (.iload 15, 2) := by decide +kernel
theorem dL_law_430 : decode code 430 = .ok (.imul, 1) := by decide +kernel
theorem dL_law_431 : decode code 431 = .ok (.iconst 5, 1) := by decide +kernel
theorem dL_law_432 : decode code 432 = .ok (.iadd, 1) := by decide +kernel
theorem dL_law_433 : decode code 433 = .ok (.iaload, 1) := by decide +kernel
theorem dL_law_434 : decode code 434 = .ok (.ifCond .gt 21, 3) := by decide +kernel
theorem dL_law_437 : decode code 437 = .ok (.aload_n 2, 1) := by decide +kernel
theorem dL_law_438 : decode code 438 = .ok (.bipush 6, 2) := by decide +kernel
theorem dL_law_440 : decode code 440 = .ok (.iload 15, 2) := by decide +kernel
theorem dL_law_442 : decode code 442 = .ok (.imul, 1) := by decide +kernel
theorem dL_law_443 : decode code 443 = .ok (.iconst 4, 1) := by decide +kernel
theorem dL_law_444 : decode code 444 = .ok (.iadd, 1) := by decide +kernel
theorem dL_law_445 : decode code 445 = .ok (.iaload, 1) := by decide +kernel
theorem dL_law_446 : decode code 446 = .ok (.iload 16, 2) := by decide +kernel
theorem dL_law_448 : decode code 448 = .ok (.ishr, 1) := by decide +kernel
theorem dL_law_449 : decode code 449 = .ok (.iconst 1, 1) := by decide +kernel
theorem dL_law_450 : decode code 450 = .ok (.iand, 1) := by decide +kernel
theorem dL_law_451 : decode code 451 = .ok (.iconst 1, 1) := by decide +kernel
theorem dL_law_452 : decode code 452 = .ok (.if_icmp .ne 7, 3) := by decide +kernel
theorem dL_law_459 : decode code 459 = .ok (.iconst 0, 1) := by decide +kernel
theorem dL_law_460 : decode code 460 = .ok (.istore 17, 2) := by decide +kernel
theorem dL_law_462 : decode code 462 = .ok (.iload 15, 2) := by decide +kernel
theorem dL_law_464 : decode code 464 = .ok (.ifCond .le 100, 3) := by decide +kernel
theorem dL_law_564 : decode code 564 = .ok (.goto 602, 3) := by decide +kernel
theorem dL_law_1166 : decode code 1166 = .ok (.iload 9, 2) := by decide +kernel
