/-! p29: decode rows -/
theorem dL_law_1243 : decode code 1243 = .ok (.iaload, 1) := by decide +kernel
theorem dL_law_1244 : decode code 1244 = .ok (.irem, 1) := by decide +kernel
theorem dL_law_1245 : decode code 1245 = .ok (.invokestatic 165, 3) := by decide +kernel
theorem dL_law_1248 : decode code 1248 = .ok (.ifCond .eq 54, 3) := by decide +kernel
theorem dL_law_1251 : decode code 1251 = .ok (.iload 10, 2) := by decide +kernel
theorem dL_law_1253 : decode code 1253 = .ok (.iconst 3, 1) := by decide +kernel
theorem dL_law_1254 : decode code 1254 = .ok (.irem, 1) := by decide +kernel
theorem dL_law_1255 : decode code 1255 = .ok (.ifCond .gt 17, 3) := by decide +kernel
theorem dL_law_1258 : decode code 1258 = .ok (.aload_n 1, 1) := by decide +kernel
theorem dL_law_1259 : decode code 1259 = .ok (.aload_n 2, 1) := by decide +kernel
theorem dL_law_1260 : decode code 1260 = .ok (.aload 4, 2) := by decide +kernel
theorem dL_law_1262 : decode code 1262 = .ok (.aload 6, 2) := by decide +kernel
theorem dL_law_1264 : decode code 1264 = .ok (.aload 7, 2) := by decide +kernel
theorem dL_law_1266 : decode code 1266 = .ok (.invokestatic 169, 3) := by decide +kernel
theorem dL_law_1269 : decode code 1269 = .ok (.ifCond .eq 33, 3) := by decide +kernel
theorem dL_law_1272 : decode code 1272 = .ok (.iload 10, 2) := by decide +kernel
theorem dL_law_1274 : decode code 1274 = .ok (.bipush 22, 2) := by decide +kernel
theorem dL_law_1276 : decode code 1276 = .ok (.irem, 1) := by decide +kernel
theorem dL_law_1277 : decode code 1277 = .ok (.ifCond .gt 21, 3) := by decide +kernel
theorem dL_law_1280 : decode code 1280 = .ok (.aload_n 1, 1) := by decide +kernel
theorem dL_law_1281 : decode code 1281 = .ok (.aload_n 2, 1) := by decide +kernel
theorem dL_law_1282 : decode code 1282 = .ok (.aload 4, 2) := by decide +kernel
theorem dL_law_1284 : decode code 1284 = .ok (.aload 5, 2) := by decide +kernel
theorem dL_law_1286 : decode code 1286 = .ok (.aload 7, 2) := by decide +kernel
theorem dL_law_1288 : decode code 1288 = .ok (.iload 11, 2) := by decide +kernel
theorem dL_law_1290 : decode code 1290 = .ok (.iconst 3, 1) := by decide +kernel
theorem dL_law_1291 : decode code 1291 = .ok (.idiv, 1) := by decide +kernel
theorem dL_law_1292 : decode code 1292 = .ok (.invokestatic 141, 3) := by decide +kernel
theorem dL_law_1295 : decode code 1295 = .ok (.ifCond .eq 7, 3) := by decide +kernel
theorem dL_law_1298 : decode code 1298 = .ok (.iconst 1, 1) := by decide +kernel
theorem dL_law_1299 : decode code 1299 = .ok (.goto 4, 3) := by decide +kernel
theorem dL_law_1302 : decode code 1302 = .ok (.iconst 0, 1) := by decide +kernel
theorem dL_law_1303 : decode code 1303 = .ok (.istore 9, 2) := by decide +kernel
theorem dL_law_1305 : decode code 1305 = .ok (.iinc 10 1, 3) := by decide +kernel
theorem dL_law_1308 : decode code 1308 = .ok (.goto (-1218), 3) := by decide +kernel
theorem dL_law_1311 : decode code 1311 = .ok (.iload 9, 2) := by decide +kernel
theorem dL_law_1313 : decode code 1313 = .ok (.ifCond .eq 21, 3) := by decide +kernel
theorem dL_law_1316 : decode code 1316 = .ok (.aload_n 1, 1) := by decide +kernel
theorem dL_law_1317 : decode code 1317 = .ok (.aload_n 2, 1) := by decide +kernel
theorem dL_law_1318 : decode code 1318 = .ok (.aload 4, 2) := by decide +kernel
theorem dL_law_1320 : decode code 1320 = .ok (.aload 6, 2) := by decide +kernel
theorem dL_law_1322 : decode code 1322 = .ok (.aload 7, 2) := by decide +kernel
theorem dL_law_1324 : decode code 1324 = .ok (.invokestatic 169, 3) := by decide +kernel
theorem dL_law_1327 : decode code 1327 = .ok (.ifCond .eq 7, 3) := by decide +kernel
theorem dL_law_1330 : decode code 1330 = .ok (.iconst 1, 1) := by decide +kernel
