/-! p29: decode rows -/
theorem dL_law_1168 : decode code 1168 = .ok (.ifCond .eq 134, 3) := by decide +kernel
theorem dL_law_1171 : decode code 1171 = .ok (.iload 10, 2) := by decide +kernel
theorem dL_law_1173 : decode code 1173 = .ok (.iconst 3, 1) := by decide +kernel
theorem dL_law_1174 : decode code 1174 = .ok (.irem, 1) := by decide +kernel
theorem dL_law_1175 : decode code 1175 = .ok (.ifCond .gt 17, 3) := by decide +kernel
theorem dL_law_1178 : decode code 1178 = .ok (.aload_n 1, 1) := by decide +kernel
theorem dL_law_1179 : decode code 1179 = .ok (.aload_n 2, 1) := by decide +kernel
theorem dL_law_1180 : decode code 1180 = .ok (.aload 4, 2) := by decide +kernel
theorem dL_law_1182 : decode code 1182 = .ok (.aload 5, 2) := by decide +kernel
theorem dL_law_1184 : decode code 1184 = .ok (.aload 7, 2) := by decide +kernel
theorem dL_law_1186 : decode code 1186 = .ok (.invokestatic 157, 3) := by decide +kernel
theorem dL_law_1189 : decode code 1189 = .ok (.ifCond .eq 113, 3) := by decide +kernel
theorem dL_law_1192 : decode code 1192 = .ok (.aload 7, 2) := by decide +kernel
theorem dL_law_1194 : decode code 1194 = .ok (.iconst 1, 1) := by decide +kernel
theorem dL_law_1195 : decode code 1195 = .ok (.iaload, 1) := by decide +kernel
theorem dL_law_1196 : decode code 1196 = .ok (.ifCond .eq 55, 3) := by decide +kernel
theorem dL_law_1199 : decode code 1199 = .ok (.aload_n 1, 1) := by decide +kernel
theorem dL_law_1200 : decode code 1200 = .ok (.aload_n 2, 1) := by decide +kernel
theorem dL_law_1201 : decode code 1201 = .ok (.aload_n 3, 1) := by decide +kernel
theorem dL_law_1202 : decode code 1202 = .ok (.aload 8, 2) := by decide +kernel
theorem dL_law_1204 : decode code 1204 = .ok (.aload 7, 2) := by decide +kernel
theorem dL_law_1206 : decode code 1206 = .ok (.iload 12, 2) := by decide +kernel
theorem dL_law_1208 : decode code 1208 = .ok (.iconst 3, 1) := by decide +kernel
theorem dL_law_1209 : decode code 1209 = .ok (.idiv, 1) := by decide +kernel
theorem dL_law_1210 : decode code 1210 = .ok (.aload 7, 2) := by decide +kernel
theorem dL_law_1212 : decode code 1212 = .ok (.iconst 1, 1) := by decide +kernel
theorem dL_law_1213 : decode code 1213 = .ok (.iaload, 1) := by decide +kernel
theorem dL_law_1214 : decode code 1214 = .ok (.irem, 1) := by decide +kernel
theorem dL_law_1215 : decode code 1215 = .ok (.iload 12, 2) := by decide +kernel
theorem dL_law_1217 : decode code 1217 = .ok (.bipush 15, 2) := by decide +kernel
theorem dL_law_1219 : decode code 1219 = .ok (.idiv, 1) := by decide +kernel
theorem dL_law_1220 : decode code 1220 = .ok (.aload 7, 2) := by decide +kernel
theorem dL_law_1222 : decode code 1222 = .ok (.iconst 1, 1) := by decide +kernel
theorem dL_law_1223 : decode code 1223 = .ok (.iaload, 1) := by decide +kernel
theorem dL_law_1224 : decode code 1224 = .ok (.irem, 1) := by decide +kernel
theorem dL_law_1225 : decode code 1225 = .ok (.invokestatic 161, 3) := by decide +kernel
theorem dL_law_1228 : decode code 1228 = .ok (.ifCond .eq 74, 3) := by decide +kernel
theorem dL_law_1231 : decode code 1231 = .ok (.aload_n 1, 1) := by decide +kernel
theorem dL_law_1232 : decode code 1232 = .ok (.aload_n 2, 1) := by decide +kernel
theorem dL_law_1233 : decode code 1233 = .ok (.aload 7, 2) := by decide +kernel
theorem dL_law_1235 : decode code 1235 = .ok (.iload 12, 2) := by decide +kernel
theorem dL_law_1237 : decode code 1237 = .ok (.bipush 7, 2) := by decide +kernel
theorem dL_law_1239 : decode code 1239 = .ok (.idiv, 1) := by decide +kernel
theorem dL_law_1240 : decode code 1240 = .ok (.aload 7, 2) := by decide +kernel
theorem dL_law_1242 : decode code 1242 = .ok (.iconst 1, 1) := by decide +kernel
