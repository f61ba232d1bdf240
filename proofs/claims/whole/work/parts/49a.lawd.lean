theorem dw_0 : decode code 0 = .ok (.new 8, 3) := by decide +kernel
theorem dw_3 : decode code 3 = .ok (.dup, 1) := by decide +kernel
theorem dw_4 : decode code 4 = .ok (.invokespecial 96, 3) := by decide +kernel
theorem dw_7 : decode code 7 = .ok (.astore_n 1, 1) := by decide +kernel
theorem dw_8 : decode code 8 = .ok (.new 97, 3) := by decide +kernel
theorem dw_11 : decode code 11 = .ok (.dup, 1) := by decide +kernel
theorem dw_12 : decode code 12 = .ok (.invokespecial 99, 3) := by decide +kernel
theorem dw_15 : decode code 15 = .ok (.astore_n 2, 1) := by decide +kernel
theorem dw_16 : decode code 16 = .ok (.iconst 1, 1) := by decide +kernel
theorem dw_17 : decode code 17 = .ok (.newarray .long, 2) := by decide +kernel
theorem dw_19 : decode code 19 = .ok (.astore_n 3, 1) := by decide +kernel
theorem dw_20 : decode code 20 = .ok (.iconst 0, 1) := by decide +kernel
theorem dw_21 : decode code 21 = .ok (.istore 4, 2) := by decide +kernel
theorem dw_23 : decode code 23 = .ok (.iload 4, 2) := by decide +kernel
theorem dw_25 : decode code 25 = .ok (.aload_n 0, 1) := by decide +kernel
theorem dw_26 : decode code 26 = .ok (.arraylength, 1) := by decide +kernel
theorem dw_27 : decode code 27 = .ok (.iconst 5, 1) := by decide +kernel
theorem dw_28 : decode code 28 = .ok (.isub, 1) := by decide +kernel
theorem dw_29 : decode code 29 = .ok (.if_icmp .gt 1744, 3) := by decide +kernel
theorem dw_32 : decode code 32 = .ok (.aload_n 0, 1) := by decide +kernel
theorem dw_33 : decode code 33 = .ok (.iload 4, 2) := by decide +kernel
theorem dw_35 : decode code 35 = .ok (.iaload, 1) := by decide +kernel
theorem dw_36 : decode code 36 = .ok (.bipush 31, 2) := by decide +kernel
theorem dw_38 : decode code 38 = .ok (.iand, 1) := by decide +kernel
theorem dw_39 : decode code 39 = .ok (.tableswitch 1728 0 25 #[117, 173, 186, 278, 346, 390, 434, 521, 589, 657, 725, 793, 868, 943, 999, 1062, 1130, 1205, 1280, 1355, 1411, 1467, 1523, 1579, 1604, 1672], 117) := by decide +kernel
theorem dw_156 : decode code 156 = .ok (.aload_n 1, 1) := by decide +kernel
theorem dw_157 : decode code 157 = .ok (.aload_n 0, 1) := by decide +kernel
theorem dw_158 : decode code 158 = .ok (.iload 4, 2) := by decide +kernel
theorem dw_160 : decode code 160 = .ok (.iconst 1, 1) := by decide +kernel
theorem dw_161 : decode code 161 = .ok (.iadd, 1) := by decide +kernel
theorem dw_162 : decode code 162 = .ok (.iaload, 1) := by decide +kernel
theorem dw_163 : decode code 163 = .ok (.aload_n 3, 1) := by decide +kernel
theorem dw_164 : decode code 164 = .ok (.invokestatic 100, 3) := by decide +kernel
theorem dw_167 : decode code 167 = .ok (.istore 5, 2) := by decide +kernel
theorem dw_169 : decode code 169 = .ok (.aload_n 2, 1) := by decide +kernel
theorem dw_170 : decode code 170 = .ok (.aload_n 0, 1) := by decide +kernel
theorem dw_171 : decode code 171 = .ok (.iload 4, 2) := by decide +kernel
theorem dw_173 : decode code 173 = .ok (.iconst 1, 1) := by decide +kernel
theorem dw_174 : decode code 174 = .ok (.iadd, 1) := by decide +kernel
theorem dw_175 : decode code 175 = .ok (.iaload, 1) := by decide +kernel
theorem dw_176 : decode code 176 = .ok (.invokevirtual 105, 3) := by decide +kernel
theorem dw_179 : decode code 179 = .ok (.istore 6, 2) := by decide +kernel
theorem dw_181 : decode code 181 = .ok (.aload_n 2, 1) := by decide +kernel
theorem dw_182 : decode code 182 = .ok (.invokevirtual 106, 3) := by decide +kernel
theorem dw_185 : decode code 185 = .ok (.iload 5, 2) := by decide +kernel
theorem dw_187 : decode code 187 = .ok (.if_icmp .eq 5, 3) := by decide +kernel
theorem dw_190 : decode code 190 = .ok (.iconst 0, 1) := by decide +kernel
theorem dw_191 : decode code 191 = .ok (.ireturn, 1) := by decide +kernel
theorem dw_192 : decode code 192 = .ok (.iload 5, 2) := by decide +kernel
theorem dw_194 : decode code 194 = .ok (.ifCond .ne 15, 3) := by decide +kernel
theorem dw_197 : decode code 197 = .ok (.aload_n 3, 1) := by decide +kernel
theorem dw_198 : decode code 198 = .ok (.iconst 0, 1) := by decide +kernel
theorem dw_199 : decode code 199 = .ok (.laload, 1) := by decide +kernel
theorem dw_200 : decode code 200 = .ok (.iload 6, 2) := by decide +kernel
theorem dw_202 : decode code 202 = .ok (.i2l, 1) := by decide +kernel
theorem dw_203 : decode code 203 = .ok (.lcmp, 1) := by decide +kernel
theorem dw_204 : decode code 204 = .ok (.ifCond .eq 5, 3) := by decide +kernel
theorem dw_207 : decode code 207 = .ok (.iconst 0, 1) := by decide +kernel
theorem dw_208 : decode code 208 = .ok (.ireturn, 1) := by decide +kernel
theorem dw_209 : decode code 209 = .ok (.goto 1558, 3) := by decide +kernel
theorem dw_212 : decode code 212 = .ok (.aload_n 1, 1) := by decide +kernel
theorem dw_213 : decode code 213 = .ok (.invokevirtual 109, 3) := by decide +kernel
theorem dw_216 : decode code 216 = .ok (.aload_n 2, 1) := by decide +kernel
theorem dw_217 : decode code 217 = .ok (.invokevirtual 112, 3) := by decide +kernel
theorem dw_220 : decode code 220 = .ok (.if_icmp .eq 1547, 3) := by decide +kernel
theorem dw_223 : decode code 223 = .ok (.iconst 0, 1) := by decide +kernel
theorem dw_224 : decode code 224 = .ok (.ireturn, 1) := by decide +kernel
theorem dw_225 : decode code 225 = .ok (.aload_n 1, 1) := by decide +kernel
theorem dw_226 : decode code 226 = .ok (.aload_n 0, 1) := by decide +kernel
theorem dw_227 : decode code 227 = .ok (.iload 4, 2) := by decide +kernel
theorem dw_229 : decode code 229 = .ok (.iconst 1, 1) := by decide +kernel
theorem dw_230 : decode code 230 = .ok (.iadd, 1) := by decide +kernel
theorem dw_231 : decode code 231 = .ok (.iaload, 1) := by decide +kernel
theorem dw_232 : decode code 232 = .ok (.aload_n 0, 1) := by decide +kernel
theorem dw_233 : decode code 233 = .ok (.iload 4, 2) := by decide +kernel
theorem dw_235 : decode code 235 = .ok (.iconst 2, 1) := by decide +kernel
theorem dw_236 : decode code 236 = .ok (.iadd, 1) := by decide +kernel
theorem dw_237 : decode code 237 = .ok (.iaload, 1) := by decide +kernel
theorem dw_238 : decode code 238 = .ok (.aload_n 0, 1) := by decide +kernel
theorem dw_239 : decode code 239 = .ok (.iload 4, 2) := by decide +kernel
theorem dw_241 : decode code 241 = .ok (.iconst 3, 1) := by decide +kernel
theorem dw_242 : decode code 242 = .ok (.iadd, 1) := by decide +kernel
theorem dw_243 : decode code 243 = .ok (.iaload, 1) := by decide +kernel
theorem dw_244 : decode code 244 = .ok (.aload_n 0, 1) := by decide +kernel
theorem dw_245 : decode code 245 = .ok (.iload 4, 2) := by decide +kernel
theorem dw_247 : decode code 247 = .ok (.iconst 4, 1) := by decide +kernel
theorem dw_248 : decode code 248 = .ok (.iadd, 1) := by decide +kernel
theorem dw_249 : decode code 249 = .ok (.iaload, 1) := by decide +kernel
theorem dw_250 : decode code 250 = .ok (.aload_n 3, 1) := by decide +kernel
theorem dw_251 : decode code 251 = .ok (.invokestatic 113, 3) := by decide +kernel
theorem dw_254 : decode code 254 = .ok (.istore 5, 2) := by decide +kernel
theorem dw_256 : decode code 256 = .ok (.aload_n 2, 1) := by decide +kernel
theorem dw_257 : decode code 257 = .ok (.aload_n 0, 1) := by decide +kernel
theorem dw_258 : decode code 258 = .ok (.iload 4, 2) := by decide +kernel
theorem dw_260 : decode code 260 = .ok (.iconst 1, 1) := by decide +kernel
theorem dw_261 : decode code 261 = .ok (.iadd, 1) := by decide +kernel
theorem dw_262 : decode code 262 = .ok (.iaload, 1) := by decide +kernel
theorem dw_263 : decode code 263 = .ok (.aload_n 0, 1) := by decide +kernel
theorem dw_264 : decode code 264 = .ok (.iload 4, 2) := by decide +kernel
theorem dw_266 : decode code 266 = .ok (.iconst 2, 1) := by decide +kernel
theorem dw_267 : decode code 267 = .ok (.iadd, 1) := by decide +kernel
theorem dw_268 : decode code 268 = .ok (.iaload, 1) := by decide +kernel
theorem dw_269 : decode code 269 = .ok (.aload_n 0, 1) := by decide +kernel
theorem dw_270 : decode code 270 = .ok (.iload 4, 2) := by decide +kernel
theorem dw_272 : decode code 272 = .ok (.iconst 3, 1) := by decide +kernel
theorem dw_273 : decode code 273 = .ok (.iadd, 1) := by decide +kernel
theorem dw_274 : decode code 274 = .ok (.iaload, 1) := by decide +kernel
theorem dw_275 : decode code 275 = .ok (.aload_n 0, 1) := by decide +kernel
theorem dw_276 : decode code 276 = .ok (.iload 4, 2) := by decide +kernel
theorem dw_278 : decode code 278 = .ok (.iconst 4, 1) := by decide +kernel
theorem dw_279 : decode code 279 = .ok (.iadd, 1) := by decide +kernel
theorem dw_280 : decode code 280 = .ok (.iaload, 1) := by decide +kernel
theorem dw_281 : decode code 281 = .ok (.invokevirtual 116, 3) := by decide +kernel
theorem dw_284 : decode code 284 = .ok (.istore 6, 2) := by decide +kernel
theorem dw_286 : decode code 286 = .ok (.aload_n 2, 1) := by decide +kernel
theorem dw_287 : decode code 287 = .ok (.invokevirtual 106, 3) := by decide +kernel
theorem dw_290 : decode code 290 = .ok (.iload 5, 2) := by decide +kernel
theorem dw_292 : decode code 292 = .ok (.if_icmp .eq 5, 3) := by decide +kernel
theorem dw_295 : decode code 295 = .ok (.iconst 0, 1) := by decide +kernel
theorem dw_296 : decode code 296 = .ok (.ireturn, 1) := by decide +kernel
theorem dw_297 : decode code 297 = .ok (.iload 5, 2) := by decide +kernel
theorem dw_299 : decode code 299 = .ok (.ifCond .ne 15, 3) := by decide +kernel
theorem dw_302 : decode code 302 = .ok (.aload_n 3, 1) := by decide +kernel
theorem dw_303 : decode code 303 = .ok (.iconst 0, 1) := by decide +kernel
theorem dw_304 : decode code 304 = .ok (.laload, 1) := by decide +kernel
theorem dw_305 : decode code 305 = .ok (.iload 6, 2) := by decide +kernel
theorem dw_307 : decode code 307 = .ok (.i2l, 1) := by decide +kernel
theorem dw_308 : decode code 308 = .ok (.lcmp, 1) := by decide +kernel
theorem dw_309 : decode code 309 = .ok (.ifCond .eq 5, 3) := by decide +kernel
theorem dw_312 : decode code 312 = .ok (.iconst 0, 1) := by decide +kernel
theorem dw_313 : decode code 313 = .ok (.ireturn, 1) := by decide +kernel
theorem dw_314 : decode code 314 = .ok (.goto 1453, 3) := by decide +kernel
theorem dw_317 : decode code 317 = .ok (.aload_n 1, 1) := by decide +kernel
theorem dw_318 : decode code 318 = .ok (.aload_n 0, 1) := by decide +kernel
theorem dw_319 : decode code 319 = .ok (.iload 4, 2) := by decide +kernel
theorem dw_321 : decode code 321 = .ok (.iconst 1, 1) := by decide +kernel
theorem dw_322 : decode code 322 = .ok (.iadd, 1) := by decide +kernel
theorem dw_323 : decode code 323 = .ok (.iaload, 1) := by decide +kernel
theorem dw_324 : decode code 324 = .ok (.aload_n 0, 1) := by decide +kernel
theorem dw_325 : decode code 325 = .ok (.iload 4, 2) := by decide +kernel
theorem dw_327 : decode code 327 = .ok (.iconst 2, 1) := by decide +kernel
theorem dw_328 : decode code 328 = .ok (.iadd, 1) := by decide +kernel
theorem dw_329 : decode code 329 = .ok (.iaload, 1) := by decide +kernel
theorem dw_330 : decode code 330 = .ok (.aload_n 3, 1) := by decide +kernel
theorem dw_331 : decode code 331 = .ok (.invokestatic 117, 3) := by decide +kernel
theorem dw_334 : decode code 334 = .ok (.istore 5, 2) := by decide +kernel
theorem dw_336 : decode code 336 = .ok (.aload_n 2, 1) := by decide +kernel
theorem dw_337 : decode code 337 = .ok (.aload_n 0, 1) := by decide +kernel
theorem dw_338 : decode code 338 = .ok (.iload 4, 2) := by decide +kernel
theorem dw_340 : decode code 340 = .ok (.iconst 1, 1) := by decide +kernel
theorem dw_341 : decode code 341 = .ok (.iadd, 1) := by decide +kernel
theorem dw_342 : decode code 342 = .ok (.iaload, 1) := by decide +kernel
theorem dw_343 : decode code 343 = .ok (.aload_n 0, 1) := by decide +kernel
theorem dw_344 : decode code 344 = .ok (.iload 4, 2) := by decide +kernel
theorem dw_346 : decode code 346 = .ok (.iconst 2, 1) := by decide +kernel
theorem dw_347 : decode code 347 = .ok (.iadd, 1) := by decide +kernel
theorem dw_348 : decode code 348 = .ok (.iaload, 1) := by decide +kernel
theorem dw_349 : decode code 349 = .ok (.invokevirtual 120, 3) := by decide +kernel
theorem dw_352 : decode code 352 = .ok (.istore 6, 2) := by decide +kernel
theorem dw_354 : decode code 354 = .ok (.aload_n 2, 1) := by decide +kernel
theorem dw_355 : decode code 355 = .ok (.invokevirtual 106, 3) := by decide +kernel
theorem dw_358 : decode code 358 = .ok (.iload 5, 2) := by decide +kernel
theorem dw_360 : decode code 360 = .ok (.if_icmp .eq 5, 3) := by decide +kernel
theorem dw_363 : decode code 363 = .ok (.iconst 0, 1) := by decide +kernel
theorem dw_364 : decode code 364 = .ok (.ireturn, 1) := by decide +kernel
theorem dw_365 : decode code 365 = .ok (.iload 5, 2) := by decide +kernel
theorem dw_367 : decode code 367 = .ok (.ifCond .ne 15, 3) := by decide +kernel
theorem dw_370 : decode code 370 = .ok (.aload_n 3, 1) := by decide +kernel
theorem dw_371 : decode code 371 = .ok (.iconst 0, 1) := by decide +kernel
theorem dw_372 : decode code 372 = .ok (.laload, 1) := by decide +kernel
theorem dw_373 : decode code 373 = .ok (.iload 6, 2) := by decide +kernel
theorem dw_375 : decode code 375 = .ok (.i2l, 1) := by decide +kernel
theorem dw_376 : decode code 376 = .ok (.lcmp, 1) := by decide +kernel
theorem dw_377 : decode code 377 = .ok (.ifCond .eq 5, 3) := by decide +kernel
theorem dw_380 : decode code 380 = .ok (.iconst 0, 1) := by decide +kernel
theorem dw_381 : decode code 381 = .ok (.ireturn, 1) := by decide +kernel
theorem dw_382 : decode code 382 = .ok (.goto 1385, 3) := by decide +kernel
theorem dw_385 : decode code 385 = .ok (.aload_n 1, 1) := by decide +kernel
theorem dw_386 : decode code 386 = .ok (.aload_n 3, 1) := by decide +kernel
theorem dw_387 : decode code 387 = .ok (.invokestatic 121, 3) := by decide +kernel
theorem dw_390 : decode code 390 = .ok (.istore 5, 2) := by decide +kernel
theorem dw_392 : decode code 392 = .ok (.aload_n 2, 1) := by decide +kernel
theorem dw_393 : decode code 393 = .ok (.invokevirtual 124, 3) := by decide +kernel
theorem dw_396 : decode code 396 = .ok (.istore 6, 2) := by decide +kernel
theorem dw_398 : decode code 398 = .ok (.aload_n 2, 1) := by decide +kernel
theorem dw_399 : decode code 399 = .ok (.invokevirtual 106, 3) := by decide +kernel
theorem dw_402 : decode code 402 = .ok (.iload 5, 2) := by decide +kernel
theorem dw_404 : decode code 404 = .ok (.if_icmp .eq 5, 3) := by decide +kernel
theorem dw_407 : decode code 407 = .ok (.iconst 0, 1) := by decide +kernel
theorem dw_408 : decode code 408 = .ok (.ireturn, 1) := by decide +kernel
theorem dw_409 : decode code 409 = .ok (.iload 5, 2) := by decide +kernel
theorem dw_411 : decode code 411 = .ok (.ifCond .ne 15, 3) := by decide +kernel
theorem dw_414 : decode code 414 = .ok (.aload_n 3, 1) := by decide +kernel
theorem dw_415 : decode code 415 = .ok (.iconst 0, 1) := by decide +kernel
theorem dw_416 : decode code 416 = .ok (.laload, 1) := by decide +kernel
theorem dw_417 : decode code 417 = .ok (.iload 6, 2) := by decide +kernel
theorem dw_419 : decode code 419 = .ok (.i2l, 1) := by decide +kernel
theorem dw_420 : decode code 420 = .ok (.lcmp, 1) := by decide +kernel
theorem dw_421 : decode code 421 = .ok (.ifCond .eq 5, 3) := by decide +kernel
theorem dw_424 : decode code 424 = .ok (.iconst 0, 1) := by decide +kernel
theorem dw_425 : decode code 425 = .ok (.ireturn, 1) := by decide +kernel
theorem dw_426 : decode code 426 = .ok (.goto 1341, 3) := by decide +kernel
theorem dw_429 : decode code 429 = .ok (.aload_n 1, 1) := by decide +kernel
theorem dw_430 : decode code 430 = .ok (.aload_n 3, 1) := by decide +kernel
theorem dw_431 : decode code 431 = .ok (.invokestatic 125, 3) := by decide +kernel
theorem dw_434 : decode code 434 = .ok (.istore 5, 2) := by decide +kernel
theorem dw_436 : decode code 436 = .ok (.aload_n 2, 1) := by decide +kernel
theorem dw_437 : decode code 437 = .ok (.invokevirtual 127, 3) := by decide +kernel
theorem dw_440 : decode code 440 = .ok (.istore 6, 2) := by decide +kernel
theorem dw_442 : decode code 442 = .ok (.aload_n 2, 1) := by decide +kernel
theorem dw_443 : decode code 443 = .ok (.invokevirtual 106, 3) := by decide +kernel
theorem dw_446 : decode code 446 = .ok (.iload 5, 2) := by decide +kernel
theorem dw_448 : decode code 448 = .ok (.if_icmp .eq 5, 3) := by decide +kernel
theorem dw_451 : decode code 451 = .ok (.iconst 0, 1) := by decide +kernel
theorem dw_452 : decode code 452 = .ok (.ireturn, 1) := by decide +kernel
theorem dw_453 : decode code 453 = .ok (.iload 5, 2) := by decide +kernel
theorem dw_455 : decode code 455 = .ok (.ifCond .ne 15, 3) := by decide +kernel
theorem dw_458 : decode code 458 = .ok (.aload_n 3, 1) := by decide +kernel
theorem dw_459 : decode code 459 = .ok (.iconst 0, 1) := by decide +kernel
theorem dw_460 : decode code 460 = .ok (.laload, 1) := by decide +kernel
theorem dw_461 : decode code 461 = .ok (.iload 6, 2) := by decide +kernel
theorem dw_463 : decode code 463 = .ok (.i2l, 1) := by decide +kernel
theorem dw_464 : decode code 464 = .ok (.lcmp, 1) := by decide +kernel
theorem dw_465 : decode code 465 = .ok (.ifCond .eq 5, 3) := by decide +kernel
theorem dw_468 : decode code 468 = .ok (.iconst 0, 1) := by decide +kernel
theorem dw_469 : decode code 469 = .ok (.ireturn, 1) := by decide +kernel
theorem dw_470 : decode code 470 = .ok (.goto 1297, 3) := by decide +kernel
theorem dw_473 : decode code 473 = .ok (.aload_n 1, 1) := by decide +kernel
theorem dw_474 : decode code 474 = .ok (.aload_n 0, 1) := by decide +kernel
theorem dw_475 : decode code 475 = .ok (.iload 4, 2) := by decide +kernel
theorem dw_477 : decode code 477 = .ok (.iconst 1, 1) := by decide +kernel
theorem dw_478 : decode code 478 = .ok (.iadd, 1) := by decide +kernel
theorem dw_479 : decode code 479 = .ok (.iaload, 1) := by decide +kernel
theorem dw_480 : decode code 480 = .ok (.aload_n 0, 1) := by decide +kernel
theorem dw_481 : decode code 481 = .ok (.iload 4, 2) := by decide +kernel
theorem dw_483 : decode code 483 = .ok (.iconst 2, 1) := by decide +kernel
theorem dw_484 : decode code 484 = .ok (.iadd, 1) := by decide +kernel
theorem dw_485 : decode code 485 = .ok (.iaload, 1) := by decide +kernel
theorem dw_486 : decode code 486 = .ok (.aload_n 0, 1) := by decide +kernel
theorem dw_487 : decode code 487 = .ok (.iload 4, 2) := by decide +kernel
theorem dw_489 : decode code 489 = .ok (.iconst 3, 1) := by decide +kernel
theorem dw_490 : decode code 490 = .ok (.iadd, 1) := by decide +kernel
theorem dw_491 : decode code 491 = .ok (.iaload, 1) := by decide +kernel
theorem dw_492 : decode code 492 = .ok (.aload_n 3, 1) := by decide +kernel
theorem dw_493 : decode code 493 = .ok (.invokestatic 128, 3) := by decide +kernel
theorem dw_496 : decode code 496 = .ok (.istore 5, 2) := by decide +kernel
theorem dw_498 : decode code 498 = .ok (.aload_n 2, 1) := by decide +kernel
theorem dw_499 : decode code 499 = .ok (.aload_n 0, 1) := by decide +kernel
