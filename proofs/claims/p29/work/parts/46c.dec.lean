/-! p29: decode rows -/
theorem dL_isRefused_158 : decode cL_isRefused 158 = .ok (.irem, 1) := by decide +kernel
theorem dL_isRefused_159 : decode cL_isRefused 159 = .ok (.isub, 1) := by decide +kernel
theorem dL_isRefused_160 : decode cL_isRefused 160 = .ok (.goto 6, 3) := by decide +kernel
theorem dL_isRefused_163 : decode cL_isRefused 163 = .ok (.sipush 10000, 3) := by decide +kernel
theorem dL_isRefused_166 : decode cL_isRefused 166 = .ok (.iconst 5, 1) := by decide +kernel
theorem dL_isRefused_167 : decode cL_isRefused 167 = .ok (.iconst 5, 1) := by decide +kernel
theorem dL_isRefused_168 : decode cL_isRefused 168 = .ok (.invokestatic 136, 3) := by decide +kernel
theorem dL_isRefused_171 : decode cL_isRefused 171 = .ok (.sipush (-1202), 3) := by decide +kernel
theorem dL_isRefused_174 : decode cL_isRefused 174 = .ok (.if_icmp .ne 341, 3) := by decide +kernel
theorem dL_isRefused_177 : decode cL_isRefused 177 = .ok (.aload_n 0, 1) := by decide +kernel
theorem dL_isRefused_178 : decode cL_isRefused 178 = .ok (.iconst 1, 1) := by decide +kernel
theorem dL_isRefused_179 : decode cL_isRefused 179 = .ok (.iconst 5, 1) := by decide +kernel
theorem dL_isRefused_180 : decode cL_isRefused 180 = .ok (.iconst 5, 1) := by decide +kernel
theorem dL_isRefused_181 : decode cL_isRefused 181 = .ok (.iload 6, 2) := by decide +kernel
theorem dL_isRefused_183 : decode cL_isRefused 183 = .ok (.ifCond .eq 13, 3) := by decide +kernel
theorem dL_isRefused_186 : decode cL_isRefused 186 = .ok (.iconst (-1), 1) := by decide +kernel
theorem dL_isRefused_187 : decode cL_isRefused 187 = .ok (.iload 5, 2) := by decide +kernel
theorem dL_isRefused_189 : decode cL_isRefused 189 = .ok (.bipush 30, 2) := by decide +kernel
theorem dL_isRefused_191 : decode cL_isRefused 191 = .ok (.irem, 1) := by decide +kernel
theorem dL_isRefused_192 : decode cL_isRefused 192 = .ok (.isub, 1) := by decide +kernel
theorem dL_isRefused_193 : decode cL_isRefused 193 = .ok (.goto 5, 3) := by decide +kernel
theorem dL_isRefused_196 : decode cL_isRefused 196 = .ok (.bipush 101, 2) := by decide +kernel
theorem dL_isRefused_198 : decode cL_isRefused 198 = .ok (.iconst 5, 1) := by decide +kernel
theorem dL_isRefused_199 : decode cL_isRefused 199 = .ok (.invokestatic 136, 3) := by decide +kernel
theorem dL_isRefused_202 : decode cL_isRefused 202 = .ok (.sipush (-1202), 3) := by decide +kernel
theorem dL_isRefused_205 : decode cL_isRefused 205 = .ok (.if_icmp .ne 310, 3) := by decide +kernel
theorem dL_isRefused_208 : decode cL_isRefused 208 = .ok (.aload_n 0, 1) := by decide +kernel
theorem dL_isRefused_209 : decode cL_isRefused 209 = .ok (.iconst 1, 1) := by decide +kernel
theorem dL_isRefused_210 : decode cL_isRefused 210 = .ok (.iconst 5, 1) := by decide +kernel
theorem dL_isRefused_211 : decode cL_isRefused 211 = .ok (.iconst 5, 1) := by decide +kernel
theorem dL_isRefused_212 : decode cL_isRefused 212 = .ok (.iconst 5, 1) := by decide +kernel
theorem dL_isRefused_213 : decode cL_isRefused 213 = .ok (.iload 6, 2) := by decide +kernel
theorem dL_isRefused_215 : decode cL_isRefused 215 = .ok (.ifCond .eq 13, 3) := by decide +kernel
theorem dL_isRefused_218 : decode cL_isRefused 218 = .ok (.iconst 0, 1) := by decide +kernel
theorem dL_isRefused_219 : decode cL_isRefused 219 = .ok (.iload 5, 2) := by decide +kernel
theorem dL_isRefused_221 : decode cL_isRefused 221 = .ok (.bipush 30, 2) := by decide +kernel
theorem dL_isRefused_223 : decode cL_isRefused 223 = .ok (.irem, 1) := by decide +kernel
theorem dL_isRefused_224 : decode cL_isRefused 224 = .ok (.isub, 1) := by decide +kernel
theorem dL_isRefused_225 : decode cL_isRefused 225 = .ok (.goto 5, 3) := by decide +kernel
theorem dL_isRefused_228 : decode cL_isRefused 228 = .ok (.bipush 41, 2) := by decide +kernel
theorem dL_isRefused_230 : decode cL_isRefused 230 = .ok (.invokestatic 136, 3) := by decide +kernel
theorem dL_isRefused_233 : decode cL_isRefused 233 = .ok (.sipush (-1202), 3) := by decide +kernel
theorem dL_isRefused_236 : decode cL_isRefused 236 = .ok (.if_icmp .ne 279, 3) := by decide +kernel
theorem dL_isRefused_239 : decode cL_isRefused 239 = .ok (.aload_n 0, 1) := by decide +kernel
theorem dL_isRefused_240 : decode cL_isRefused 240 = .ok (.iconst 2, 1) := by decide +kernel
