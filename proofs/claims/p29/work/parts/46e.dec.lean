/-! p29: decode rows -/
theorem dL_isRefused_330 : decode cL_isRefused 330 = .ok (.iload 6, 2) := by decide +kernel
theorem dL_isRefused_332 : decode cL_isRefused 332 = .ok (.ifCond .eq 13, 3) := by decide +kernel
theorem dL_isRefused_335 : decode cL_isRefused 335 = .ok (.iconst 0, 1) := by decide +kernel
theorem dL_isRefused_336 : decode cL_isRefused 336 = .ok (.iload 5, 2) := by decide +kernel
theorem dL_isRefused_338 : decode cL_isRefused 338 = .ok (.bipush 30, 2) := by decide +kernel
theorem dL_isRefused_340 : decode cL_isRefused 340 = .ok (.irem, 1) := by decide +kernel
theorem dL_isRefused_341 : decode cL_isRefused 341 = .ok (.isub, 1) := by decide +kernel
theorem dL_isRefused_342 : decode cL_isRefused 342 = .ok (.goto 5, 3) := by decide +kernel
theorem dL_isRefused_345 : decode cL_isRefused 345 = .ok (.bipush 21, 2) := by decide +kernel
theorem dL_isRefused_347 : decode cL_isRefused 347 = .ok (.iconst 0, 1) := by decide +kernel
theorem dL_isRefused_348 : decode cL_isRefused 348 = .ok (.iconst 0, 1) := by decide +kernel
theorem dL_isRefused_349 : decode cL_isRefused 349 = .ok (.iconst 0, 1) := by decide +kernel
theorem dL_isRefused_350 : decode cL_isRefused 350 = .ok (.invokestatic 136, 3) := by decide +kernel
theorem dL_isRefused_353 : decode cL_isRefused 353 = .ok (.sipush (-1202), 3) := by decide +kernel
theorem dL_isRefused_356 : decode cL_isRefused 356 = .ok (.if_icmp .ne 159, 3) := by decide +kernel
theorem dL_isRefused_359 : decode cL_isRefused 359 = .ok (.aload_n 0, 1) := by decide +kernel
theorem dL_isRefused_360 : decode cL_isRefused 360 = .ok (.bipush 10, 2) := by decide +kernel
theorem dL_isRefused_362 : decode cL_isRefused 362 = .ok (.iload 6, 2) := by decide +kernel
theorem dL_isRefused_364 : decode cL_isRefused 364 = .ok (.ifCond .eq 13, 3) := by decide +kernel
theorem dL_isRefused_367 : decode cL_isRefused 367 = .ok (.iconst 0, 1) := by decide +kernel
theorem dL_isRefused_368 : decode cL_isRefused 368 = .ok (.iload 5, 2) := by decide +kernel
theorem dL_isRefused_370 : decode cL_isRefused 370 = .ok (.bipush 30, 2) := by decide +kernel
theorem dL_isRefused_372 : decode cL_isRefused 372 = .ok (.irem, 1) := by decide +kernel
theorem dL_isRefused_373 : decode cL_isRefused 373 = .ok (.isub, 1) := by decide +kernel
theorem dL_isRefused_374 : decode cL_isRefused 374 = .ok (.goto 5, 3) := by decide +kernel
theorem dL_isRefused_377 : decode cL_isRefused 377 = .ok (.bipush 9, 2) := by decide +kernel
theorem dL_isRefused_379 : decode cL_isRefused 379 = .ok (.iconst 5, 1) := by decide +kernel
theorem dL_isRefused_380 : decode cL_isRefused 380 = .ok (.iconst 0, 1) := by decide +kernel
theorem dL_isRefused_381 : decode cL_isRefused 381 = .ok (.iconst 0, 1) := by decide +kernel
theorem dL_isRefused_382 : decode cL_isRefused 382 = .ok (.invokestatic 136, 3) := by decide +kernel
theorem dL_isRefused_385 : decode cL_isRefused 385 = .ok (.sipush (-1202), 3) := by decide +kernel
theorem dL_isRefused_388 : decode cL_isRefused 388 = .ok (.if_icmp .ne 127, 3) := by decide +kernel
theorem dL_isRefused_391 : decode cL_isRefused 391 = .ok (.aload_n 0, 1) := by decide +kernel
theorem dL_isRefused_392 : decode cL_isRefused 392 = .ok (.bipush 10, 2) := by decide +kernel
theorem dL_isRefused_394 : decode cL_isRefused 394 = .ok (.iconst 1, 1) := by decide +kernel
theorem dL_isRefused_395 : decode cL_isRefused 395 = .ok (.iload 5, 2) := by decide +kernel
theorem dL_isRefused_397 : decode cL_isRefused 397 = .ok (.bipush 8, 2) := by decide +kernel
theorem dL_isRefused_399 : decode cL_isRefused 399 = .ok (.irem, 1) := by decide +kernel
theorem dL_isRefused_400 : decode cL_isRefused 400 = .ok (.iadd, 1) := by decide +kernel
theorem dL_isRefused_401 : decode cL_isRefused 401 = .ok (.iload 6, 2) := by decide +kernel
theorem dL_isRefused_403 : decode cL_isRefused 403 = .ok (.ifCond .eq 13, 3) := by decide +kernel
theorem dL_isRefused_406 : decode cL_isRefused 406 = .ok (.iconst (-1), 1) := by decide +kernel
theorem dL_isRefused_407 : decode cL_isRefused 407 = .ok (.iload 5, 2) := by decide +kernel
theorem dL_isRefused_409 : decode cL_isRefused 409 = .ok (.bipush 30, 2) := by decide +kernel
theorem dL_isRefused_411 : decode cL_isRefused 411 = .ok (.irem, 1) := by decide +kernel
