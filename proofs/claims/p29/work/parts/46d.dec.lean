/-! p29: decode rows -/
theorem dL_isRefused_241 : decode cL_isRefused 241 = .ok (.iload 8, 2) := by decide +kernel
theorem dL_isRefused_243 : decode cL_isRefused 243 = .ok (.iload 8, 2) := by decide +kernel
theorem dL_isRefused_245 : decode cL_isRefused 245 = .ok (.iconst 0, 1) := by decide +kernel
theorem dL_isRefused_246 : decode cL_isRefused 246 = .ok (.iconst 0, 1) := by decide +kernel
theorem dL_isRefused_247 : decode cL_isRefused 247 = .ok (.invokestatic 136, 3) := by decide +kernel
theorem dL_isRefused_250 : decode cL_isRefused 250 = .ok (.sipush (-1201), 3) := by decide +kernel
theorem dL_isRefused_253 : decode cL_isRefused 253 = .ok (.if_icmp .ne 262, 3) := by decide +kernel
theorem dL_isRefused_256 : decode cL_isRefused 256 = .ok (.aload_n 0, 1) := by decide +kernel
theorem dL_isRefused_257 : decode cL_isRefused 257 = .ok (.iconst 5, 1) := by decide +kernel
theorem dL_isRefused_258 : decode cL_isRefused 258 = .ok (.iload 7, 2) := by decide +kernel
theorem dL_isRefused_260 : decode cL_isRefused 260 = .ok (.iload 8, 2) := by decide +kernel
theorem dL_isRefused_262 : decode cL_isRefused 262 = .ok (.iconst (-1), 1) := by decide +kernel
theorem dL_isRefused_263 : decode cL_isRefused 263 = .ok (.iconst 0, 1) := by decide +kernel
theorem dL_isRefused_264 : decode cL_isRefused 264 = .ok (.invokestatic 136, 3) := by decide +kernel
theorem dL_isRefused_267 : decode cL_isRefused 267 = .ok (.sipush (-1201), 3) := by decide +kernel
theorem dL_isRefused_270 : decode cL_isRefused 270 = .ok (.if_icmp .ne 245, 3) := by decide +kernel
theorem dL_isRefused_273 : decode cL_isRefused 273 = .ok (.aload_n 0, 1) := by decide +kernel
theorem dL_isRefused_274 : decode cL_isRefused 274 = .ok (.bipush 6, 2) := by decide +kernel
theorem dL_isRefused_276 : decode cL_isRefused 276 = .ok (.iload 7, 2) := by decide +kernel
theorem dL_isRefused_278 : decode cL_isRefused 278 = .ok (.iload 8, 2) := by decide +kernel
theorem dL_isRefused_280 : decode cL_isRefused 280 = .ok (.iconst 0, 1) := by decide +kernel
theorem dL_isRefused_281 : decode cL_isRefused 281 = .ok (.iconst 0, 1) := by decide +kernel
theorem dL_isRefused_282 : decode cL_isRefused 282 = .ok (.invokestatic 136, 3) := by decide +kernel
theorem dL_isRefused_285 : decode cL_isRefused 285 = .ok (.sipush (-1201), 3) := by decide +kernel
theorem dL_isRefused_288 : decode cL_isRefused 288 = .ok (.if_icmp .ne 227, 3) := by decide +kernel
theorem dL_isRefused_291 : decode cL_isRefused 291 = .ok (.aload_n 0, 1) := by decide +kernel
theorem dL_isRefused_292 : decode cL_isRefused 292 = .ok (.bipush 7, 2) := by decide +kernel
theorem dL_isRefused_294 : decode cL_isRefused 294 = .ok (.iload 7, 2) := by decide +kernel
theorem dL_isRefused_296 : decode cL_isRefused 296 = .ok (.iload 8, 2) := by decide +kernel
theorem dL_isRefused_298 : decode cL_isRefused 298 = .ok (.iconst 0, 1) := by decide +kernel
theorem dL_isRefused_299 : decode cL_isRefused 299 = .ok (.iconst 0, 1) := by decide +kernel
theorem dL_isRefused_300 : decode cL_isRefused 300 = .ok (.invokestatic 136, 3) := by decide +kernel
theorem dL_isRefused_303 : decode cL_isRefused 303 = .ok (.sipush (-1201), 3) := by decide +kernel
theorem dL_isRefused_306 : decode cL_isRefused 306 = .ok (.if_icmp .ne 209, 3) := by decide +kernel
theorem dL_isRefused_309 : decode cL_isRefused 309 = .ok (.aload_n 0, 1) := by decide +kernel
theorem dL_isRefused_310 : decode cL_isRefused 310 = .ok (.bipush 8, 2) := by decide +kernel
theorem dL_isRefused_312 : decode cL_isRefused 312 = .ok (.iload 7, 2) := by decide +kernel
theorem dL_isRefused_314 : decode cL_isRefused 314 = .ok (.iload 7, 2) := by decide +kernel
theorem dL_isRefused_316 : decode cL_isRefused 316 = .ok (.iconst 0, 1) := by decide +kernel
theorem dL_isRefused_317 : decode cL_isRefused 317 = .ok (.iconst 0, 1) := by decide +kernel
theorem dL_isRefused_318 : decode cL_isRefused 318 = .ok (.invokestatic 136, 3) := by decide +kernel
theorem dL_isRefused_321 : decode cL_isRefused 321 = .ok (.sipush (-1201), 3) := by decide +kernel
theorem dL_isRefused_324 : decode cL_isRefused 324 = .ok (.if_icmp .ne 191, 3) := by decide +kernel
theorem dL_isRefused_327 : decode cL_isRefused 327 = .ok (.aload_n 0, 1) := by decide +kernel
theorem dL_isRefused_328 : decode cL_isRefused 328 = .ok (.bipush 9, 2) := by decide +kernel
