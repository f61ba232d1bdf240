/-! p29: decode rows -/
theorem dL_law_240 : decode code 240 = .ok (.iaload, 1) := by decide +kernel
theorem dL_law_241 : decode code 241 = .ok (.iconst 3, 1) := by decide +kernel
theorem dL_law_242 : decode code 242 = .ok (.if_icmp .lt 18, 3) := by decide +kernel
theorem dL_law_245 : decode code 245 = .ok (.iload 13, 2) := by decide +kernel
theorem dL_law_247 : decode code 247 = .ok (.iconst 1, 1) := by decide +kernel
theorem dL_law_248 : decode code 248 = .ok (.if_icmp .ne 144, 3) := by decide +kernel
theorem dL_law_260 : decode code 260 = .ok (.bipush 6, 2) := by decide +kernel
theorem dL_law_262 : decode code 262 = .ok (.aload 7, 2) := by decide +kernel
theorem dL_law_264 : decode code 264 = .ok (.iconst 0, 1) := by decide +kernel
theorem dL_law_265 : decode code 265 = .ok (.iaload, 1) := by decide +kernel
theorem dL_law_266 : decode code 266 = .ok (.imul, 1) := by decide +kernel
theorem dL_law_267 : decode code 267 = .ok (.istore 16, 2) := by decide +kernel
theorem dL_law_269 : decode code 269 = .ok (.aload_n 2, 1) := by decide +kernel
theorem dL_law_270 : decode code 270 = .ok (.iload 16, 2) := by decide +kernel
theorem dL_law_272 : decode code 272 = .ok (.iconst 1, 1) := by decide +kernel
theorem dL_law_273 : decode code 273 = .ok (.iload 12, 2) := by decide +kernel
theorem dL_law_275 : decode code 275 = .ok (.bipush 50, 2) := by decide +kernel
theorem dL_law_277 : decode code 277 = .ok (.irem, 1) := by decide +kernel
theorem dL_law_278 : decode code 278 = .ok (.iadd, 1) := by decide +kernel
theorem dL_law_279 : decode code 279 = .ok (.iastore, 1) := by decide +kernel
theorem dL_law_280 : decode code 280 = .ok (.aload_n 2, 1) := by decide +kernel
theorem dL_law_281 : decode code 281 = .ok (.iload 16, 2) := by decide +kernel
theorem dL_law_283 : decode code 283 = .ok (.iconst 1, 1) := by decide +kernel
theorem dL_law_284 : decode code 284 = .ok (.iadd, 1) := by decide +kernel
theorem dL_law_285 : decode code 285 = .ok (.iload 12, 2) := by decide +kernel
theorem dL_law_287 : decode code 287 = .ok (.bipush 50, 2) := by decide +kernel
theorem dL_law_289 : decode code 289 = .ok (.idiv, 1) := by decide +kernel
theorem dL_law_290 : decode code 290 = .ok (.bipush 8, 2) := by decide +kernel
theorem dL_law_292 : decode code 292 = .ok (.irem, 1) := by decide +kernel
theorem dL_law_293 : decode code 293 = .ok (.iastore, 1) := by decide +kernel
theorem dL_law_294 : decode code 294 = .ok (.aload_n 2, 1) := by decide +kernel
theorem dL_law_295 : decode code 295 = .ok (.iload 16, 2) := by decide +kernel
theorem dL_law_297 : decode code 297 = .ok (.iconst 2, 1) := by decide +kernel
theorem dL_law_298 : decode code 298 = .ok (.iadd, 1) := by decide +kernel
theorem dL_law_299 : decode code 299 = .ok (.iload 12, 2) := by decide +kernel
theorem dL_law_301 : decode code 301 = .ok (.sipush 400, 3) := by decide +kernel
theorem dL_law_304 : decode code 304 = .ok (.idiv, 1) := by decide +kernel
theorem dL_law_305 : decode code 305 = .ok (.iload 12, 2) := by decide +kernel
theorem dL_law_307 : decode code 307 = .ok (.iconst 3, 1) := by decide +kernel
theorem dL_law_308 : decode code 308 = .ok (.irem, 1) := by decide +kernel
theorem dL_law_309 : decode code 309 = .ok (.ifCond .ne 8, 3) := by decide +kernel
theorem dL_law_312 : decode code 312 = .ok (.bipush 101, 2) := by decide +kernel
theorem dL_law_314 : decode code 314 = .ok (.goto 5, 3) := by decide +kernel
theorem dL_law_319 : decode code 319 = .ok (.irem, 1) := by decide +kernel
theorem dL_law_320 : decode code 320 = .ok (.iastore, 1) := by decide +kernel
