/-! p29: decode rows -/
theorem dL_law_161 : decode code 161 = .ok (.iconst 0, 1) := by decide +kernel
theorem dL_law_162 : decode code 162 = .ok (.iaload, 1) := by decide +kernel
theorem dL_law_163 : decode code 163 = .ok (.irem, 1) := by decide +kernel
theorem dL_law_164 : decode code 164 = .ok (.istore 15, 2) := by decide +kernel
theorem dL_law_166 : decode code 166 = .ok (.aload 7, 2) := by decide +kernel
theorem dL_law_168 : decode code 168 = .ok (.iconst 4, 1) := by decide +kernel
theorem dL_law_169 : decode code 169 = .ok (.iaload, 1) := by decide +kernel
theorem dL_law_170 : decode code 170 = .ok (.ifCond .ne 60, 3) := by decide +kernel
theorem dL_law_173 : decode code 173 = .ok (.aload 7, 2) := by decide +kernel
theorem dL_law_175 : decode code 175 = .ok (.iconst 1, 1) := by decide +kernel
theorem dL_law_176 : decode code 176 = .ok (.iaload, 1) := by decide +kernel
theorem dL_law_177 : decode code 177 = .ok (.iconst 2, 1) := by decide +kernel
theorem dL_law_178 : decode code 178 = .ok (.if_icmp .lt 16, 3) := by decide +kernel
theorem dL_law_181 : decode code 181 = .ok (.iload 13, 2) := by decide +kernel
theorem dL_law_183 : decode code 183 = .ok (.ifCond .ne 47, 3) := by decide +kernel
theorem dL_law_194 : decode code 194 = .ok (.aload 7, 2) := by decide +kernel
theorem dL_law_196 : decode code 196 = .ok (.iconst 1, 1) := by decide +kernel
theorem dL_law_197 : decode code 197 = .ok (.dup2, 1) := by decide +kernel
theorem dL_law_198 : decode code 198 = .ok (.iaload, 1) := by decide +kernel
theorem dL_law_199 : decode code 199 = .ok (.iconst 1, 1) := by decide +kernel
theorem dL_law_200 : decode code 200 = .ok (.iadd, 1) := by decide +kernel
theorem dL_law_201 : decode code 201 = .ok (.iastore, 1) := by decide +kernel
theorem dL_law_202 : decode code 202 = .ok (.aload_n 1, 1) := by decide +kernel
theorem dL_law_203 : decode code 203 = .ok (.iconst 3, 1) := by decide +kernel
theorem dL_law_204 : decode code 204 = .ok (.iconst 0, 1) := by decide +kernel
theorem dL_law_205 : decode code 205 = .ok (.iconst 0, 1) := by decide +kernel
theorem dL_law_206 : decode code 206 = .ok (.iconst 0, 1) := by decide +kernel
theorem dL_law_207 : decode code 207 = .ok (.iconst 0, 1) := by decide +kernel
theorem dL_law_208 : decode code 208 = .ok (.invokestatic 136, 3) := by decide +kernel
theorem dL_law_211 : decode code 211 = .ok (.aload 7, 2) := by decide +kernel
theorem dL_law_213 : decode code 213 = .ok (.iconst 1, 1) := by decide +kernel
theorem dL_law_214 : decode code 214 = .ok (.iaload, 1) := by decide +kernel
theorem dL_law_215 : decode code 215 = .ok (.iconst 1, 1) := by decide +kernel
theorem dL_law_216 : decode code 216 = .ok (.isub, 1) := by decide +kernel
theorem dL_law_217 : decode code 217 = .ok (.if_icmp .ne 7, 3) := by decide +kernel
theorem dL_law_220 : decode code 220 = .ok (.iconst 1, 1) := by decide +kernel
theorem dL_law_221 : decode code 221 = .ok (.goto 4, 3) := by decide +kernel
theorem dL_law_225 : decode code 225 = .ok (.istore 9, 2) := by decide +kernel
theorem dL_law_227 : decode code 227 = .ok (.goto 939, 3) := by decide +kernel
theorem dL_law_230 : decode code 230 = .ok (.aload 7, 2) := by decide +kernel
theorem dL_law_232 : decode code 232 = .ok (.iconst 4, 1) := by decide +kernel
theorem dL_law_233 : decode code 233 = .ok (.iaload, 1) := by decide +kernel
theorem dL_law_234 : decode code 234 = .ok (.ifCond .ne 158, 3) := by decide +kernel
theorem dL_law_237 : decode code 237 = .ok (.aload 7, 2) := by decide +kernel
theorem dL_law_239 : decode code 239 = .ok (.iconst 0, 1) := by decide +kernel
