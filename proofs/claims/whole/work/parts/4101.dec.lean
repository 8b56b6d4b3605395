theorem dd_Law_law_210 : decode bb_Law_law 210 = .ok (.iaload, 1) := by decide +kernel
theorem dd_Law_law_211 : decode bb_Law_law 211 = .ok (.invokestatic 99, 3) := by decide +kernel
theorem dd_Law_law_214 : decode bb_Law_law 214 = .ok (.istore 5, 2) := by decide +kernel
theorem dd_Law_law_216 : decode bb_Law_law 216 = .ok (.aload_n 2, 1) := by decide +kernel
theorem dd_Law_law_217 : decode bb_Law_law 217 = .ok (.aload_n 0, 1) := by decide +kernel
theorem dd_Law_law_218 : decode bb_Law_law 218 = .ok (.iload 4, 2) := by decide +kernel
theorem dd_Law_law_220 : decode bb_Law_law 220 = .ok (.iconst 1, 1) := by decide +kernel
theorem dd_Law_law_221 : decode bb_Law_law 221 = .ok (.iadd, 1) := by decide +kernel
theorem dd_Law_law_222 : decode bb_Law_law 222 = .ok (.iaload, 1) := by decide +kernel
theorem dd_Law_law_223 : decode bb_Law_law 223 = .ok (.aload_n 0, 1) := by decide +kernel
theorem dd_Law_law_224 : decode bb_Law_law 224 = .ok (.iload 4, 2) := by decide +kernel
theorem dd_Law_law_226 : decode bb_Law_law 226 = .ok (.iconst 2, 1) := by decide +kernel
theorem dd_Law_law_227 : decode bb_Law_law 227 = .ok (.iadd, 1) := by decide +kernel
theorem dd_Law_law_228 : decode bb_Law_law 228 = .ok (.iaload, 1) := by decide +kernel
theorem dd_Law_law_229 : decode bb_Law_law 229 = .ok (.aload_n 0, 1) := by decide +kernel
theorem dd_Law_law_230 : decode bb_Law_law 230 = .ok (.iload 4, 2) := by decide +kernel
theorem dd_Law_law_232 : decode bb_Law_law 232 = .ok (.iconst 3, 1) := by decide +kernel
theorem dd_Law_law_233 : decode bb_Law_law 233 = .ok (.iadd, 1) := by decide +kernel
theorem dd_Law_law_234 : decode bb_Law_law 234 = .ok (.iaload, 1) := by decide +kernel
theorem dd_Law_law_235 : decode bb_Law_law 235 = .ok (.invokevirtual 102, 3) := by decide +kernel
theorem dd_Law_law_238 : decode bb_Law_law 238 = .ok (.aload_n 2, 1) := by decide +kernel
theorem dd_Law_law_239 : decode bb_Law_law 239 = .ok (.invokevirtual 95, 3) := by decide +kernel
theorem dd_Law_law_242 : decode bb_Law_law 242 = .ok (.iload 5, 2) := by decide +kernel
theorem dd_Law_law_244 : decode bb_Law_law 244 = .ok (.if_icmp .eq 5, 3) := by decide +kernel
theorem dd_Law_law_249 : decode bb_Law_law 249 = .ok (.goto 1221, 3) := by decide +kernel
theorem dd_Law_law_247 : decode bb_Law_law 247 = .ok (.iconst 0, 1) := by decide +kernel
theorem dd_Law_law_252 : decode bb_Law_law 252 = .ok (.aload_n 1, 1) := by decide +kernel
theorem dd_Law_law_253 : decode bb_Law_law 253 = .ok (.aload_n 0, 1) := by decide +kernel
theorem dd_Law_law_254 : decode bb_Law_law 254 = .ok (.iload 4, 2) := by decide +kernel
theorem dd_Law_law_256 : decode bb_Law_law 256 = .ok (.iconst 1, 1) := by decide +kernel
theorem dd_Law_law_257 : decode bb_Law_law 257 = .ok (.iadd, 1) := by decide +kernel
theorem dd_Law_law_258 : decode bb_Law_law 258 = .ok (.iaload, 1) := by decide +kernel
theorem dd_Law_law_259 : decode bb_Law_law 259 = .ok (.aload_n 0, 1) := by decide +kernel
theorem dd_Law_law_260 : decode bb_Law_law 260 = .ok (.iload 4, 2) := by decide +kernel
theorem dd_Law_law_262 : decode bb_Law_law 262 = .ok (.iconst 2, 1) := by decide +kernel
theorem dd_Law_law_263 : decode bb_Law_law 263 = .ok (.iadd, 1) := by decide +kernel
theorem dd_Law_law_264 : decode bb_Law_law 264 = .ok (.iaload, 1) := by decide +kernel
theorem dd_Law_law_265 : decode bb_Law_law 265 = .ok (.invokestatic 103, 3) := by decide +kernel
theorem dd_Law_law_268 : decode bb_Law_law 268 = .ok (.istore 5, 2) := by decide +kernel
theorem dd_Law_law_270 : decode bb_Law_law 270 = .ok (.aload_n 2, 1) := by decide +kernel
theorem dd_Law_law_271 : decode bb_Law_law 271 = .ok (.aload_n 0, 1) := by decide +kernel
theorem dd_Law_law_272 : decode bb_Law_law 272 = .ok (.iload 4, 2) := by decide +kernel
theorem dd_Law_law_274 : decode bb_Law_law 274 = .ok (.iconst 1, 1) := by decide +kernel
theorem dd_Law_law_275 : decode bb_Law_law 275 = .ok (.iadd, 1) := by decide +kernel
theorem dd_Law_law_276 : decode bb_Law_law 276 = .ok (.iaload, 1) := by decide +kernel
theorem dd_Law_law_277 : decode bb_Law_law 277 = .ok (.aload_n 0, 1) := by decide +kernel
theorem dd_Law_law_278 : decode bb_Law_law 278 = .ok (.iload 4, 2) := by decide +kernel
theorem dd_Law_law_280 : decode bb_Law_law 280 = .ok (.iconst 2, 1) := by decide +kernel
theorem dd_Law_law_281 : decode bb_Law_law 281 = .ok (.iadd, 1) := by decide +kernel
theorem dd_Law_law_282 : decode bb_Law_law 282 = .ok (.iaload, 1) := by decide +kernel
theorem dd_Law_law_283 : decode bb_Law_law 283 = .ok (.invokevirtual 105, 3) := by decide +kernel
theorem dd_Law_law_286 : decode bb_Law_law 286 = .ok (.aload_n 2, 1) := by decide +kernel
theorem dd_Law_law_287 : decode bb_Law_law 287 = .ok (.invokevirtual 95, 3) := by decide +kernel
theorem dd_Law_law_290 : decode bb_Law_law 290 = .ok (.iload 5, 2) := by decide +kernel
theorem dd_Law_law_292 : decode bb_Law_law 292 = .ok (.if_icmp .eq 5, 3) := by decide +kernel
theorem dd_Law_law_297 : decode bb_Law_law 297 = .ok (.goto 1173, 3) := by decide +kernel
theorem dd_Law_law_295 : decode bb_Law_law 295 = .ok (.iconst 0, 1) := by decide +kernel
theorem dd_Law_law_300 : decode bb_Law_law 300 = .ok (.aload_n 1, 1) := by decide +kernel
theorem dd_Law_law_301 : decode bb_Law_law 301 = .ok (.aload_n 0, 1) := by decide +kernel
theorem dd_Law_law_302 : decode bb_Law_law 302 = .ok (.iload 4, 2) := by decide +kernel
