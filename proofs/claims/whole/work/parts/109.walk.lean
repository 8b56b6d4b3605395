theorem dd_M_reckon_25 : decode bb_M_reckon 25 = .ok (.istore_n 2, 1) := by decide +kernel
theorem dd_M_reckon_26 : decode bb_M_reckon 26 = .ok (.aload_n 0, 1) := by decide +kernel
theorem dd_M_reckon_27 : decode bb_M_reckon 27 = .ok (.getfield 7, 3) := by decide +kernel
theorem dd_M_reckon_30 : decode bb_M_reckon 30 = .ok (.iload_n 1, 1) := by decide +kernel
theorem dd_M_reckon_31 : decode bb_M_reckon 31 = .ok (.iaload, 1) := by decide +kernel
theorem dd_M_reckon_32 : decode bb_M_reckon 32 = .ok (.istore_n 3, 1) := by decide +kernel
theorem dd_M_reckon_33 : decode bb_M_reckon 33 = .ok (.iload_n 1, 1) := by decide +kernel
theorem dd_M_reckon_34 : decode bb_M_reckon 34 = .ok (.istore 4, 2) := by decide +kernel
theorem dd_M_reckon_36 : decode bb_M_reckon 36 = .ok (.iload 4, 2) := by decide +kernel
theorem dd_M_reckon_38 : decode bb_M_reckon 38 = .ok (.bipush 6, 2) := by decide +kernel
theorem dd_M_reckon_40 : decode bb_M_reckon 40 = .ok (.if_icmp .ge 89, 3) := by decide +kernel
theorem dd_M_reckon_129 : decode bb_M_reckon 129 = .ok (.aload_n 0, 1) := by decide +kernel
theorem dd_M_reckon_130 : decode bb_M_reckon 130 = .ok (.getfield 144, 3) := by decide +kernel
theorem dd_M_reckon_133 : decode bb_M_reckon 133 = .ok (.sipush 900, 3) := by decide +kernel
theorem dd_M_reckon_136 : decode bb_M_reckon 136 = .ok (.idiv, 1) := by decide +kernel
theorem dd_M_reckon_137 : decode bb_M_reckon 137 = .ok (.iconst 3, 1) := by decide +kernel
theorem dd_M_reckon_138 : decode bb_M_reckon 138 = .ok (.irem, 1) := by decide +kernel
theorem dd_M_reckon_139 : decode bb_M_reckon 139 = .ok (.istore 4, 2) := by decide +kernel
theorem dd_M_reckon_141 : decode bb_M_reckon 141 = .ok (.iload_n 3, 1) := by decide +kernel
theorem dd_M_reckon_142 : decode bb_M_reckon 142 = .ok (.bipush 60, 2) := by decide +kernel
theorem dd_M_reckon_144 : decode bb_M_reckon 144 = .ok (.idiv, 1) := by decide +kernel
theorem dd_M_reckon_145 : decode bb_M_reckon 145 = .ok (.istore 5, 2) := by decide +kernel
theorem dd_M_reckon_147 : decode bb_M_reckon 147 = .ok (.iconst 0, 1) := by decide +kernel
theorem dd_M_reckon_148 : decode bb_M_reckon 148 = .ok (.istore 6, 2) := by decide +kernel
theorem dd_M_reckon_150 : decode bb_M_reckon 150 = .ok (.iconst 0, 1) := by decide +kernel
theorem dd_M_reckon_151 : decode bb_M_reckon 151 = .ok (.istore 7, 2) := by decide +kernel
theorem dd_M_reckon_153 : decode bb_M_reckon 153 = .ok (.iconst 0, 1) := by decide +kernel
theorem dd_M_reckon_154 : decode bb_M_reckon 154 = .ok (.istore 8, 2) := by decide +kernel
theorem dd_M_reckon_156 : decode bb_M_reckon 156 = .ok (.iconst 0, 1) := by decide +kernel
theorem dd_M_reckon_157 : decode bb_M_reckon 157 = .ok (.istore 9, 2) := by decide +kernel
theorem dd_M_reckon_43 : decode bb_M_reckon 43 = .ok (.aload_n 0, 1) := by decide +kernel
theorem dd_M_reckon_44 : decode bb_M_reckon 44 = .ok (.iload 4, 2) := by decide +kernel
theorem dd_M_reckon_46 : decode bb_M_reckon 46 = .ok (.invokevirtual 192, 3) := by decide +kernel
theorem dd_M_reckon_49 : decode bb_M_reckon 49 = .ok (.ifCond .eq 17, 3) := by decide +kernel
theorem dd_M_reckon_52 : decode bb_M_reckon 52 = .ok (.aload_n 0, 1) := by decide +kernel
theorem dd_M_reckon_53 : decode bb_M_reckon 53 = .ok (.getfield 29, 3) := by decide +kernel
theorem dd_M_reckon_56 : decode bb_M_reckon 56 = .ok (.iload 4, 2) := by decide +kernel
theorem dd_M_reckon_58 : decode bb_M_reckon 58 = .ok (.baload, 1) := by decide +kernel
theorem dd_M_reckon_59 : decode bb_M_reckon 59 = .ok (.ifCond .ne 7, 3) := by decide +kernel
theorem dd_M_reckon_62 : decode bb_M_reckon 62 = .ok (.iconst 1, 1) := by decide +kernel
theorem dd_M_reckon_63 : decode bb_M_reckon 63 = .ok (.goto 4, 3) := by decide +kernel
theorem dd_M_reckon_66 : decode bb_M_reckon 66 = .ok (.iconst 0, 1) := by decide +kernel
theorem dd_M_reckon_67 : decode bb_M_reckon 67 = .ok (.istore 5, 2) := by decide +kernel
theorem dd_M_reckon_69 : decode bb_M_reckon 69 = .ok (.aload_n 0, 1) := by decide +kernel
theorem dd_M_reckon_70 : decode bb_M_reckon 70 = .ok (.getfield 111, 3) := by decide +kernel
theorem dd_M_reckon_73 : decode bb_M_reckon 73 = .ok (.iload 4, 2) := by decide +kernel
theorem dd_M_reckon_75 : decode bb_M_reckon 75 = .ok (.iload 5, 2) := by decide +kernel
theorem dd_M_reckon_77 : decode bb_M_reckon 77 = .ok (.ifCond .ne 7, 3) := by decide +kernel
theorem dd_M_reckon_84 : decode bb_M_reckon 84 = .ok (.aload_n 0, 1) := by decide +kernel
theorem dd_M_reckon_85 : decode bb_M_reckon 85 = .ok (.iload 4, 2) := by decide +kernel
theorem dd_M_reckon_87 : decode bb_M_reckon 87 = .ok (.invokevirtual 189, 3) := by decide +kernel
theorem dd_M_reckon_90 : decode bb_M_reckon 90 = .ok (.iload_n 2, 1) := by decide +kernel
theorem dd_M_reckon_91 : decode bb_M_reckon 91 = .ok (.if_icmp .ge 12, 3) := by decide +kernel
theorem dd_M_reckon_103 : decode bb_M_reckon 103 = .ok (.iload_n 2, 1) := by decide +kernel
theorem dd_M_reckon_94 : decode bb_M_reckon 94 = .ok (.aload_n 0, 1) := by decide +kernel
theorem dd_M_reckon_95 : decode bb_M_reckon 95 = .ok (.iload 4, 2) := by decide +kernel
theorem dd_M_reckon_97 : decode bb_M_reckon 97 = .ok (.invokevirtual 189, 3) := by decide +kernel
theorem dd_M_reckon_100 : decode bb_M_reckon 100 = .ok (.goto 4, 3) := by decide +kernel
theorem dd_M_reckon_80 : decode bb_M_reckon 80 = .ok (.iconst 0, 1) := by decide +kernel
theorem dd_M_reckon_81 : decode bb_M_reckon 81 = .ok (.goto 23, 3) := by decide +kernel
theorem dd_M_reckon_104 : decode bb_M_reckon 104 = .ok (.iastore, 1) := by decide +kernel
theorem dd_M_reckon_105 : decode bb_M_reckon 105 = .ok (.aload_n 0, 1) := by decide +kernel
theorem dd_M_reckon_106 : decode bb_M_reckon 106 = .ok (.getfield 29, 3) := by decide +kernel
theorem dd_M_reckon_109 : decode bb_M_reckon 109 = .ok (.iload 4, 2) := by decide +kernel
theorem dd_M_reckon_111 : decode bb_M_reckon 111 = .ok (.baload, 1) := by decide +kernel
theorem dd_M_reckon_112 : decode bb_M_reckon 112 = .ok (.ifCond .eq 7, 3) := by decide +kernel
theorem dd_M_reckon_119 : decode bb_M_reckon 119 = .ok (.iload_n 3, 1) := by decide +kernel
theorem dd_M_reckon_120 : decode bb_M_reckon 120 = .ok (.iload_n 2, 1) := by decide +kernel
theorem dd_M_reckon_121 : decode bb_M_reckon 121 = .ok (.isub, 1) := by decide +kernel
theorem dd_M_reckon_115 : decode bb_M_reckon 115 = .ok (.iload_n 3, 1) := by decide +kernel
theorem dd_M_reckon_116 : decode bb_M_reckon 116 = .ok (.goto 6, 3) := by decide +kernel
theorem dd_M_reckon_122 : decode bb_M_reckon 122 = .ok (.istore_n 3, 1) := by decide +kernel
theorem dd_M_reckon_123 : decode bb_M_reckon 123 = .ok (.iinc 4 2, 3) := by decide +kernel
theorem dd_M_reckon_126 : decode bb_M_reckon 126 = .ok (.goto (-90), 3) := by decide +kernel
theorem dd_M_reckon_159 : decode bb_M_reckon 159 = .ok (.iload 9, 2) := by decide +kernel
theorem dd_M_reckon_161 : decode bb_M_reckon 161 = .ok (.iconst 3, 1) := by decide +kernel
theorem dd_M_reckon_162 : decode bb_M_reckon 162 = .ok (.if_icmp .ge 106, 3) := by decide +kernel
theorem dd_M_reckon_268 : decode bb_M_reckon 268 = .ok (.iconst 0, 1) := by decide +kernel
theorem dd_M_reckon_269 : decode bb_M_reckon 269 = .ok (.istore 9, 2) := by decide +kernel
theorem dd_M_reckon_271 : decode bb_M_reckon 271 = .ok (.iconst 0, 1) := by decide +kernel
theorem dd_M_reckon_272 : decode bb_M_reckon 272 = .ok (.istore 10, 2) := by decide +kernel
theorem dd_M_reckon_165 : decode bb_M_reckon 165 = .ok (.iload 4, 2) := by decide +kernel
theorem dd_M_reckon_167 : decode bb_M_reckon 167 = .ok (.iload 9, 2) := by decide +kernel
theorem dd_M_reckon_169 : decode bb_M_reckon 169 = .ok (.iadd, 1) := by decide +kernel
theorem dd_M_reckon_170 : decode bb_M_reckon 170 = .ok (.iconst 3, 1) := by decide +kernel
theorem dd_M_reckon_171 : decode bb_M_reckon 171 = .ok (.irem, 1) := by decide +kernel
theorem dd_M_reckon_172 : decode bb_M_reckon 172 = .ok (.istore 10, 2) := by decide +kernel
theorem dd_M_reckon_174 : decode bb_M_reckon 174 = .ok (.iload_n 1, 1) := by decide +kernel
theorem dd_M_reckon_175 : decode bb_M_reckon 175 = .ok (.iconst 2, 1) := by decide +kernel
theorem dd_M_reckon_176 : decode bb_M_reckon 176 = .ok (.iload 10, 2) := by decide +kernel
theorem dd_M_reckon_178 : decode bb_M_reckon 178 = .ok (.imul, 1) := by decide +kernel
theorem dd_M_reckon_179 : decode bb_M_reckon 179 = .ok (.iadd, 1) := by decide +kernel
theorem dd_M_reckon_180 : decode bb_M_reckon 180 = .ok (.istore 11, 2) := by decide +kernel
theorem dd_M_reckon_182 : decode bb_M_reckon 182 = .ok (.iload 5, 2) := by decide +kernel
theorem dd_M_reckon_184 : decode bb_M_reckon 184 = .ok (.ifCond .le 78, 3) := by decide +kernel
theorem dd_M_reckon_187 : decode bb_M_reckon 187 = .ok (.aload_n 0, 1) := by decide +kernel
theorem dd_M_reckon_188 : decode bb_M_reckon 188 = .ok (.iload 11, 2) := by decide +kernel
theorem dd_M_reckon_190 : decode bb_M_reckon 190 = .ok (.invokevirtual 192, 3) := by decide +kernel
theorem dd_M_reckon_193 : decode bb_M_reckon 193 = .ok (.ifCond .eq 69, 3) := by decide +kernel
theorem dd_M_reckon_196 : decode bb_M_reckon 196 = .ok (.aload_n 0, 1) := by decide +kernel
theorem dd_M_reckon_197 : decode bb_M_reckon 197 = .ok (.getfield 29, 3) := by decide +kernel
theorem dd_M_reckon_200 : decode bb_M_reckon 200 = .ok (.iload 11, 2) := by decide +kernel
theorem dd_M_reckon_202 : decode bb_M_reckon 202 = .ok (.baload, 1) := by decide +kernel
theorem dd_M_reckon_203 : decode bb_M_reckon 203 = .ok (.ifCond .eq 59, 3) := by decide +kernel
theorem dd_M_reckon_206 : decode bb_M_reckon 206 = .ok (.iinc 5 (-1), 3) := by decide +kernel
theorem dd_M_reckon_209 : decode bb_M_reckon 209 = .ok (.iload 6, 2) := by decide +kernel
theorem dd_M_reckon_211 : decode bb_M_reckon 211 = .ok (.ifCond .ne 8, 3) := by decide +kernel
theorem dd_M_reckon_214 : decode bb_M_reckon 214 = .ok (.iload 10, 2) := by decide +kernel
theorem dd_M_reckon_216 : decode bb_M_reckon 216 = .ok (.ifCond .ne 7, 3) := by decide +kernel
theorem dd_M_reckon_223 : decode bb_M_reckon 223 = .ok (.iconst 0, 1) := by decide +kernel
theorem dd_M_reckon_219 : decode bb_M_reckon 219 = .ok (.iconst 1, 1) := by decide +kernel
theorem dd_M_reckon_220 : decode bb_M_reckon 220 = .ok (.goto 4, 3) := by decide +kernel
theorem dd_M_reckon_224 : decode bb_M_reckon 224 = .ok (.istore 6, 2) := by decide +kernel
theorem dd_M_reckon_226 : decode bb_M_reckon 226 = .ok (.iload 7, 2) := by decide +kernel
theorem dd_M_reckon_228 : decode bb_M_reckon 228 = .ok (.ifCond .ne 9, 3) := by decide +kernel
theorem dd_M_reckon_231 : decode bb_M_reckon 231 = .ok (.iload 10, 2) := by decide +kernel
theorem dd_M_reckon_233 : decode bb_M_reckon 233 = .ok (.iconst 1, 1) := by decide +kernel
theorem dd_M_reckon_234 : decode bb_M_reckon 234 = .ok (.if_icmp .ne 7, 3) := by decide +kernel
theorem dd_M_reckon_241 : decode bb_M_reckon 241 = .ok (.iconst 0, 1) := by decide +kernel
theorem dd_M_reckon_237 : decode bb_M_reckon 237 = .ok (.iconst 1, 1) := by decide +kernel
theorem dd_M_reckon_238 : decode bb_M_reckon 238 = .ok (.goto 4, 3) := by decide +kernel
theorem dd_M_reckon_242 : decode bb_M_reckon 242 = .ok (.istore 7, 2) := by decide +kernel
theorem dd_M_reckon_244 : decode bb_M_reckon 244 = .ok (.iload 8, 2) := by decide +kernel
theorem dd_M_reckon_246 : decode bb_M_reckon 246 = .ok (.ifCond .ne 9, 3) := by decide +kernel
theorem dd_M_reckon_249 : decode bb_M_reckon 249 = .ok (.iload 10, 2) := by decide +kernel
theorem dd_M_reckon_251 : decode bb_M_reckon 251 = .ok (.iconst 2, 1) := by decide +kernel
theorem dd_M_reckon_252 : decode bb_M_reckon 252 = .ok (.if_icmp .ne 7, 3) := by decide +kernel
theorem dd_M_reckon_259 : decode bb_M_reckon 259 = .ok (.iconst 0, 1) := by decide +kernel
theorem dd_M_reckon_255 : decode bb_M_reckon 255 = .ok (.iconst 1, 1) := by decide +kernel
theorem dd_M_reckon_256 : decode bb_M_reckon 256 = .ok (.goto 4, 3) := by decide +kernel
theorem dd_M_reckon_260 : decode bb_M_reckon 260 = .ok (.istore 8, 2) := by decide +kernel
theorem dd_M_reckon_262 : decode bb_M_reckon 262 = .ok (.iinc 9 1, 3) := by decide +kernel
theorem dd_M_reckon_265 : decode bb_M_reckon 265 = .ok (.goto (-106), 3) := by decide +kernel
theorem dd_M_reckon_274 : decode bb_M_reckon 274 = .ok (.iload 10, 2) := by decide +kernel
theorem dd_M_reckon_276 : decode bb_M_reckon 276 = .ok (.sipush 320, 3) := by decide +kernel
theorem dd_M_reckon_279 : decode bb_M_reckon 279 = .ok (.if_icmp .gt 108, 3) := by decide +kernel
theorem dd_M_reckon_387 : decode bb_M_reckon 387 = .ok (.iconst 0, 1) := by decide +kernel
theorem dd_M_reckon_388 : decode bb_M_reckon 388 = .ok (.istore 10, 2) := by decide +kernel
theorem dd_M_reckon_282 : decode bb_M_reckon 282 = .ok (.iconst 0, 1) := by decide +kernel
theorem dd_M_reckon_283 : decode bb_M_reckon 283 = .ok (.istore 11, 2) := by decide +kernel
theorem dd_M_reckon_285 : decode bb_M_reckon 285 = .ok (.iconst 0, 1) := by decide +kernel
theorem dd_M_reckon_286 : decode bb_M_reckon 286 = .ok (.istore 12, 2) := by decide +kernel
theorem dd_M_reckon_288 : decode bb_M_reckon 288 = .ok (.iload 12, 2) := by decide +kernel
theorem dd_M_reckon_290 : decode bb_M_reckon 290 = .ok (.iconst 3, 1) := by decide +kernel
theorem dd_M_reckon_291 : decode bb_M_reckon 291 = .ok (.if_icmp .ge 75, 3) := by decide +kernel
theorem dd_M_reckon_366 : decode bb_M_reckon 366 = .ok (.iload 11, 2) := by decide +kernel
theorem dd_M_reckon_368 : decode bb_M_reckon 368 = .ok (.iload_n 3, 1) := by decide +kernel
theorem dd_M_reckon_369 : decode bb_M_reckon 369 = .ok (.if_icmp .gt 8, 3) := by decide +kernel
theorem dd_M_reckon_377 : decode bb_M_reckon 377 = .ok (.iload 9, 2) := by decide +kernel
theorem dd_M_reckon_372 : decode bb_M_reckon 372 = .ok (.iload 10, 2) := by decide +kernel
theorem dd_M_reckon_374 : decode bb_M_reckon 374 = .ok (.goto 5, 3) := by decide +kernel
theorem dd_M_reckon_294 : decode bb_M_reckon 294 = .ok (.iload_n 1, 1) := by decide +kernel
theorem dd_M_reckon_295 : decode bb_M_reckon 295 = .ok (.iconst 2, 1) := by decide +kernel
theorem dd_M_reckon_296 : decode bb_M_reckon 296 = .ok (.iload 12, 2) := by decide +kernel
theorem dd_M_reckon_298 : decode bb_M_reckon 298 = .ok (.imul, 1) := by decide +kernel
theorem dd_M_reckon_299 : decode bb_M_reckon 299 = .ok (.iadd, 1) := by decide +kernel
theorem dd_M_reckon_300 : decode bb_M_reckon 300 = .ok (.istore 13, 2) := by decide +kernel
theorem dd_M_reckon_302 : decode bb_M_reckon 302 = .ok (.iload 12, 2) := by decide +kernel
theorem dd_M_reckon_304 : decode bb_M_reckon 304 = .ok (.ifCond .ne 8, 3) := by decide +kernel
theorem dd_M_reckon_312 : decode bb_M_reckon 312 = .ok (.iload 12, 2) := by decide +kernel
theorem dd_M_reckon_314 : decode bb_M_reckon 314 = .ok (.iconst 1, 1) := by decide +kernel
theorem dd_M_reckon_315 : decode bb_M_reckon 315 = .ok (.if_icmp .ne 8, 3) := by decide +kernel
theorem dd_M_reckon_323 : decode bb_M_reckon 323 = .ok (.iload 8, 2) := by decide +kernel
theorem dd_M_reckon_318 : decode bb_M_reckon 318 = .ok (.iload 7, 2) := by decide +kernel
theorem dd_M_reckon_320 : decode bb_M_reckon 320 = .ok (.goto 5, 3) := by decide +kernel
theorem dd_M_reckon_307 : decode bb_M_reckon 307 = .ok (.iload 6, 2) := by decide +kernel
theorem dd_M_reckon_309 : decode bb_M_reckon 309 = .ok (.goto 16, 3) := by decide +kernel
theorem dd_M_reckon_325 : decode bb_M_reckon 325 = .ok (.istore 14, 2) := by decide +kernel
theorem dd_M_reckon_327 : decode bb_M_reckon 327 = .ok (.iload 14, 2) := by decide +kernel
theorem dd_M_reckon_329 : decode bb_M_reckon 329 = .ok (.ifCond .eq 27, 3) := by decide +kernel
theorem dd_M_reckon_356 : decode bb_M_reckon 356 = .ok (.iload 11, 2) := by decide +kernel
theorem dd_M_reckon_332 : decode bb_M_reckon 332 = .ok (.iload 11, 2) := by decide +kernel
theorem dd_M_reckon_334 : decode bb_M_reckon 334 = .ok (.aload_n 0, 1) := by decide +kernel
theorem dd_M_reckon_335 : decode bb_M_reckon 335 = .ok (.iload 13, 2) := by decide +kernel
theorem dd_M_reckon_337 : decode bb_M_reckon 337 = .ok (.invokevirtual 189, 3) := by decide +kernel
theorem dd_M_reckon_340 : decode bb_M_reckon 340 = .ok (.aload_n 0, 1) := by decide +kernel
theorem dd_M_reckon_341 : decode bb_M_reckon 341 = .ok (.getfield 69, 3) := by decide +kernel
theorem dd_M_reckon_344 : decode bb_M_reckon 344 = .ok (.iload 13, 2) := by decide +kernel
theorem dd_M_reckon_346 : decode bb_M_reckon 346 = .ok (.iaload, 1) := by decide +kernel
theorem dd_M_reckon_347 : decode bb_M_reckon 347 = .ok (.iload 10, 2) := by decide +kernel
theorem dd_M_reckon_349 : decode bb_M_reckon 349 = .ok (.invokestatic 195, 3) := by decide +kernel
theorem dd_M_reckon_352 : decode bb_M_reckon 352 = .ok (.iadd, 1) := by decide +kernel
theorem dd_M_reckon_353 : decode bb_M_reckon 353 = .ok (.goto 5, 3) := by decide +kernel
theorem dd_M_reckon_358 : decode bb_M_reckon 358 = .ok (.istore 11, 2) := by decide +kernel
theorem dd_M_reckon_360 : decode bb_M_reckon 360 = .ok (.iinc 12 1, 3) := by decide +kernel
theorem dd_M_reckon_363 : decode bb_M_reckon 363 = .ok (.goto (-75), 3) := by decide +kernel
theorem dd_M_reckon_379 : decode bb_M_reckon 379 = .ok (.istore 9, 2) := by decide +kernel
theorem dd_M_reckon_381 : decode bb_M_reckon 381 = .ok (.iinc 10 1, 3) := by decide +kernel
theorem dd_M_reckon_384 : decode bb_M_reckon 384 = .ok (.goto (-110), 3) := by decide +kernel
theorem dd_M_reckon_390 : decode bb_M_reckon 390 = .ok (.iload 10, 2) := by decide +kernel
theorem dd_M_reckon_392 : decode bb_M_reckon 392 = .ok (.iconst 3, 1) := by decide +kernel
theorem dd_M_reckon_393 : decode bb_M_reckon 393 = .ok (.if_icmp .ge 82, 3) := by decide +kernel
theorem dd_M_reckon_475 : decode bb_M_reckon 475 = .ok (.return_, 1) := by decide +kernel
theorem dd_M_reckon_396 : decode bb_M_reckon 396 = .ok (.iload_n 1, 1) := by decide +kernel
theorem dd_M_reckon_397 : decode bb_M_reckon 397 = .ok (.iconst 2, 1) := by decide +kernel
theorem dd_M_reckon_398 : decode bb_M_reckon 398 = .ok (.iload 10, 2) := by decide +kernel
theorem dd_M_reckon_400 : decode bb_M_reckon 400 = .ok (.imul, 1) := by decide +kernel
theorem dd_M_reckon_401 : decode bb_M_reckon 401 = .ok (.iadd, 1) := by decide +kernel
theorem dd_M_reckon_402 : decode bb_M_reckon 402 = .ok (.istore 11, 2) := by decide +kernel
theorem dd_M_reckon_404 : decode bb_M_reckon 404 = .ok (.iload 10, 2) := by decide +kernel
theorem dd_M_reckon_406 : decode bb_M_reckon 406 = .ok (.ifCond .ne 8, 3) := by decide +kernel
theorem dd_M_reckon_414 : decode bb_M_reckon 414 = .ok (.iload 10, 2) := by decide +kernel
theorem dd_M_reckon_416 : decode bb_M_reckon 416 = .ok (.iconst 1, 1) := by decide +kernel
theorem dd_M_reckon_417 : decode bb_M_reckon 417 = .ok (.if_icmp .ne 8, 3) := by decide +kernel
theorem dd_M_reckon_425 : decode bb_M_reckon 425 = .ok (.iload 8, 2) := by decide +kernel
theorem dd_M_reckon_420 : decode bb_M_reckon 420 = .ok (.iload 7, 2) := by decide +kernel
theorem dd_M_reckon_422 : decode bb_M_reckon 422 = .ok (.goto 5, 3) := by decide +kernel
theorem dd_M_reckon_409 : decode bb_M_reckon 409 = .ok (.iload 6, 2) := by decide +kernel
theorem dd_M_reckon_411 : decode bb_M_reckon 411 = .ok (.goto 16, 3) := by decide +kernel
theorem dd_M_reckon_427 : decode bb_M_reckon 427 = .ok (.istore 12, 2) := by decide +kernel
theorem dd_M_reckon_429 : decode bb_M_reckon 429 = .ok (.aload_n 0, 1) := by decide +kernel
theorem dd_M_reckon_430 : decode bb_M_reckon 430 = .ok (.getfield 111, 3) := by decide +kernel
theorem dd_M_reckon_433 : decode bb_M_reckon 433 = .ok (.iload 11, 2) := by decide +kernel
theorem dd_M_reckon_435 : decode bb_M_reckon 435 = .ok (.iload 12, 2) := by decide +kernel
theorem dd_M_reckon_437 : decode bb_M_reckon 437 = .ok (.ifCond .eq 24, 3) := by decide +kernel
theorem dd_M_reckon_461 : decode bb_M_reckon 461 = .ok (.aload_n 0, 1) := by decide +kernel
theorem dd_M_reckon_462 : decode bb_M_reckon 462 = .ok (.getfield 111, 3) := by decide +kernel
theorem dd_M_reckon_465 : decode bb_M_reckon 465 = .ok (.iload 11, 2) := by decide +kernel
theorem dd_M_reckon_467 : decode bb_M_reckon 467 = .ok (.iaload, 1) := by decide +kernel
theorem dd_M_reckon_440 : decode bb_M_reckon 440 = .ok (.aload_n 0, 1) := by decide +kernel
theorem dd_M_reckon_441 : decode bb_M_reckon 441 = .ok (.iload 11, 2) := by decide +kernel
theorem dd_M_reckon_443 : decode bb_M_reckon 443 = .ok (.invokevirtual 189, 3) := by decide +kernel
theorem dd_M_reckon_446 : decode bb_M_reckon 446 = .ok (.aload_n 0, 1) := by decide +kernel
theorem dd_M_reckon_447 : decode bb_M_reckon 447 = .ok (.getfield 69, 3) := by decide +kernel
theorem dd_M_reckon_450 : decode bb_M_reckon 450 = .ok (.iload 11, 2) := by decide +kernel
theorem dd_M_reckon_452 : decode bb_M_reckon 452 = .ok (.iaload, 1) := by decide +kernel
theorem dd_M_reckon_453 : decode bb_M_reckon 453 = .ok (.iload 9, 2) := by decide +kernel
theorem dd_M_reckon_455 : decode bb_M_reckon 455 = .ok (.invokestatic 195, 3) := by decide +kernel
theorem dd_M_reckon_458 : decode bb_M_reckon 458 = .ok (.goto 10, 3) := by decide +kernel
theorem dd_M_reckon_468 : decode bb_M_reckon 468 = .ok (.iastore, 1) := by decide +kernel
theorem dd_M_reckon_469 : decode bb_M_reckon 469 = .ok (.iinc 10 1, 3) := by decide +kernel
theorem dd_M_reckon_472 : decode bb_M_reckon 472 = .ok (.goto (-82), 3) := by decide +kernel
theorem dd_M_reckon_0 : decode bb_M_reckon 0 = .ok (.aload_n 0, 1) := by decide +kernel
theorem dd_M_reckon_1 : decode bb_M_reckon 1 = .ok (.getfield 7, 3) := by decide +kernel
theorem dd_M_reckon_4 : decode bb_M_reckon 4 = .ok (.iload_n 1, 1) := by decide +kernel
theorem dd_M_reckon_5 : decode bb_M_reckon 5 = .ok (.iaload, 1) := by decide +kernel
theorem dd_M_reckon_6 : decode bb_M_reckon 6 = .ok (.iconst 3, 1) := by decide +kernel
theorem dd_M_reckon_7 : decode bb_M_reckon 7 = .ok (.idiv, 1) := by decide +kernel
theorem dd_M_reckon_8 : decode bb_M_reckon 8 = .ok (.bipush 60, 2) := by decide +kernel
theorem dd_M_reckon_10 : decode bb_M_reckon 10 = .ok (.if_icmp .ge 7, 3) := by decide +kernel
theorem dd_M_reckon_17 : decode bb_M_reckon 17 = .ok (.aload_n 0, 1) := by decide +kernel
theorem dd_M_reckon_18 : decode bb_M_reckon 18 = .ok (.getfield 7, 3) := by decide +kernel
theorem dd_M_reckon_21 : decode bb_M_reckon 21 = .ok (.iload_n 1, 1) := by decide +kernel
theorem dd_M_reckon_22 : decode bb_M_reckon 22 = .ok (.iaload, 1) := by decide +kernel
theorem dd_M_reckon_23 : decode bb_M_reckon 23 = .ok (.iconst 3, 1) := by decide +kernel
theorem dd_M_reckon_24 : decode bb_M_reckon 24 = .ok (.idiv, 1) := by decide +kernel
theorem dd_M_reckon_13 : decode bb_M_reckon 13 = .ok (.iconst 0, 1) := by decide +kernel
theorem dd_M_reckon_14 : decode bb_M_reckon 14 = .ok (.goto 11, 3) := by decide +kernel
def ww_M_reckon : List Cond := .code yy_M_reckon bb_M_reckon 15 none :: TB
def rm_M_reckon : Room := { frames := 2, cells := 0, slots := 0, locals := 42 }
def wp_M_reckon_122 (o : Nat) (a1 : Int32) (post : fw_S → Prop) (k36 : fw_S → Int32 → Int32 → Int32 → Prop) (S : fw_S) (x2 : Int32) (x3 : Int32) (x4 : Int32) (x5 : Int32) (p0 : Int32) : Prop := ∀ v1 : Int32, v1 = x4 + 2 → k36 S x2 p0 v1
def wp_M_reckon_104 (o : Nat) (a1 : Int32) (post : fw_S → Prop) (k36 : fw_S → Int32 → Int32 → Int32 → Prop) (S : fw_S) (x2 : Int32) (x3 : Int32) (x4 : Int32) (x5 : Int32) (p0 : Int32) (p1 : Int32) : Prop := vp_in p1 6 ∧ (∀ S2 : fw_S, S2 = fw_si S (o + 34) p1.toNatClampNeg p0 → vp_in x4 6 ∧ (((((S2.1 (o + 7) x4.toNatClampNeg) = 0) → wp_M_reckon_122 o a1 post k36 S2 x2 x3 x4 x5 (x3 - x2)) ∧ (¬ ((S2.1 (o + 7) x4.toNatClampNeg) = 0) → wp_M_reckon_122 o a1 post k36 S2 x2 x3 x4 x5 x3))))
def wp_M_reckon_67 (o : Nat) (a1 : Int32) (post : fw_S → Prop) (k36 : fw_S → Int32 → Int32 → Int32 → Prop) (S : fw_S) (x2 : Int32) (x3 : Int32) (x4 : Int32) (p0 : Int32) : Prop := ((¬ (p0 = 0) → wp_M_wantsNow S o x4 (fun S2 r3 => (((x2 ≤ r3) → wp_M_reckon_104 o a1 post k36 S2 x2 x3 x4 p0 x2 x4) ∧ (¬ (x2 ≤ r3) → wp_M_wantsNow S2 o x4 (fun S5 r6 => wp_M_reckon_104 o a1 post k36 S5 x2 x3 x4 p0 r6 x4))))) ∧ ((p0 = 0) → wp_M_reckon_104 o a1 post k36 S x2 x3 x4 p0 0 x4))
def wp_M_reckon_66 (o : Nat) (a1 : Int32) (post : fw_S → Prop) (k36 : fw_S → Int32 → Int32 → Int32 → Prop) (S : fw_S) (x2 : Int32) (x3 : Int32) (x4 : Int32) : Prop := wp_M_reckon_67 o a1 post k36 S x2 x3 x4 0
def wp_M_reckon_262 (o : Nat) (a1 : Int32) (post : fw_S → Prop) (k159 : fw_S → Int32 → Int32 → Int32 → Int32 → Int32 → Int32 → Int32 → Int32 → Prop) (S : fw_S) (x2 : Int32) (x3 : Int32) (x4 : Int32) (x5 : Int32) (x6 : Int32) (x7 : Int32) (x8 : Int32) (x9 : Int32) (x10 : Int32) (x11 : Int32) : Prop := ∀ v1 : Int32, v1 = x9 + 1 → k159 S x2 x3 x4 x5 x6 x7 x8 v1
def wp_M_reckon_260 (o : Nat) (a1 : Int32) (post : fw_S → Prop) (k159 : fw_S → Int32 → Int32 → Int32 → Int32 → Int32 → Int32 → Int32 → Int32 → Prop) (S : fw_S) (x2 : Int32) (x3 : Int32) (x4 : Int32) (x5 : Int32) (x6 : Int32) (x7 : Int32) (x8 : Int32) (x9 : Int32) (x10 : Int32) (x11 : Int32) (p0 : Int32) : Prop := wp_M_reckon_262 o a1 post k159 S x2 x3 x4 x5 x6 x7 p0 x9 x10 x11
def wp_M_reckon_255 (o : Nat) (a1 : Int32) (post : fw_S → Prop) (k159 : fw_S → Int32 → Int32 → Int32 → Int32 → Int32 → Int32 → Int32 → Int32 → Prop) (S : fw_S) (x2 : Int32) (x3 : Int32) (x4 : Int32) (x5 : Int32) (x6 : Int32) (x7 : Int32) (x8 : Int32) (x9 : Int32) (x10 : Int32) (x11 : Int32) : Prop := wp_M_reckon_260 o a1 post k159 S x2 x3 x4 x5 x6 x7 x8 x9 x10 x11 1
def wp_M_reckon_242 (o : Nat) (a1 : Int32) (post : fw_S → Prop) (k159 : fw_S → Int32 → Int32 → Int32 → Int32 → Int32 → Int32 → Int32 → Int32 → Prop) (S : fw_S) (x2 : Int32) (x3 : Int32) (x4 : Int32) (x5 : Int32) (x6 : Int32) (x7 : Int32) (x8 : Int32) (x9 : Int32) (x10 : Int32) (x11 : Int32) (p0 : Int32) : Prop := ((¬ (x8 = 0) → wp_M_reckon_255 o a1 post k159 S x2 x3 x4 x5 x6 p0 x8 x9 x10 x11) ∧ ((x8 = 0) → ((¬ (x10 = 2) → wp_M_reckon_260 o a1 post k159 S x2 x3 x4 x5 x6 p0 x8 x9 x10 x11 0) ∧ ((x10 = 2) → wp_M_reckon_255 o a1 post k159 S x2 x3 x4 x5 x6 p0 x8 x9 x10 x11))))
def wp_M_reckon_237 (o : Nat) (a1 : Int32) (post : fw_S → Prop) (k159 : fw_S → Int32 → Int32 → Int32 → Int32 → Int32 → Int32 → Int32 → Int32 → Prop) (S : fw_S) (x2 : Int32) (x3 : Int32) (x4 : Int32) (x5 : Int32) (x6 : Int32) (x7 : Int32) (x8 : Int32) (x9 : Int32) (x10 : Int32) (x11 : Int32) : Prop := wp_M_reckon_242 o a1 post k159 S x2 x3 x4 x5 x6 x7 x8 x9 x10 x11 1
def wp_M_reckon_224 (o : Nat) (a1 : Int32) (post : fw_S → Prop) (k159 : fw_S → Int32 → Int32 → Int32 → Int32 → Int32 → Int32 → Int32 → Int32 → Prop) (S : fw_S) (x2 : Int32) (x3 : Int32) (x4 : Int32) (x5 : Int32) (x6 : Int32) (x7 : Int32) (x8 : Int32) (x9 : Int32) (x10 : Int32) (x11 : Int32) (p0 : Int32) : Prop := ((¬ (x7 = 0) → wp_M_reckon_237 o a1 post k159 S x2 x3 x4 x5 p0 x7 x8 x9 x10 x11) ∧ ((x7 = 0) → ((¬ (x10 = 1) → wp_M_reckon_242 o a1 post k159 S x2 x3 x4 x5 p0 x7 x8 x9 x10 x11 0) ∧ ((x10 = 1) → wp_M_reckon_237 o a1 post k159 S x2 x3 x4 x5 p0 x7 x8 x9 x10 x11))))
def wp_M_reckon_219 (o : Nat) (a1 : Int32) (post : fw_S → Prop) (k159 : fw_S → Int32 → Int32 → Int32 → Int32 → Int32 → Int32 → Int32 → Int32 → Prop) (S : fw_S) (x2 : Int32) (x3 : Int32) (x4 : Int32) (x5 : Int32) (x6 : Int32) (x7 : Int32) (x8 : Int32) (x9 : Int32) (x10 : Int32) (x11 : Int32) : Prop := wp_M_reckon_224 o a1 post k159 S x2 x3 x4 x5 x6 x7 x8 x9 x10 x11 1
def wp_M_reckon_358 (o : Nat) (a1 : Int32) (post : fw_S → Prop) (k274 : fw_S → Int32 → Int32 → Int32 → Int32 → Int32 → Int32 → Int32 → Int32 → Int32 → Prop) (k288 : fw_S → Int32 → Int32 → Int32 → Int32 → Int32 → Int32 → Int32 → Int32 → Int32 → Int32 → Int32 → Prop) (S : fw_S) (x2 : Int32) (x3 : Int32) (x4 : Int32) (x5 : Int32) (x6 : Int32) (x7 : Int32) (x8 : Int32) (x9 : Int32) (x10 : Int32) (x11 : Int32) (x12 : Int32) (x13 : Int32) (x14 : Int32) (p0 : Int32) : Prop := ∀ v1 : Int32, v1 = x12 + 1 → k288 S x2 x3 x4 x5 x6 x7 x8 x9 x10 p0 v1
def wp_M_reckon_325 (o : Nat) (a1 : Int32) (post : fw_S → Prop) (k274 : fw_S → Int32 → Int32 → Int32 → Int32 → Int32 → Int32 → Int32 → Int32 → Int32 → Prop) (k288 : fw_S → Int32 → Int32 → Int32 → Int32 → Int32 → Int32 → Int32 → Int32 → Int32 → Int32 → Int32 → Prop) (S : fw_S) (x2 : Int32) (x3 : Int32) (x4 : Int32) (x5 : Int32) (x6 : Int32) (x7 : Int32) (x8 : Int32) (x9 : Int32) (x10 : Int32) (x11 : Int32) (x12 : Int32) (x13 : Int32) (p0 : Int32) : Prop := (((p0 = 0) → wp_M_reckon_358 o a1 post k274 k288 S x2 x3 x4 x5 x6 x7 x8 x9 x10 x11 x12 x13 p0 x11) ∧ (¬ (p0 = 0) → wp_M_wantsNow S o x13 (fun S2 r3 => vp_in x13 6 ∧ (wp_M_share S2 r3 (S2.1 (o + 20) x13.toNatClampNeg) x10 (fun S5 r6 => wp_M_reckon_358 o a1 post k274 k288 S5 x2 x3 x4 x5 x6 x7 x8 x9 x10 x11 x12 x13 p0 (x11 + r6))))))
def wp_M_reckon_379 (o : Nat) (a1 : Int32) (post : fw_S → Prop) (k274 : fw_S → Int32 → Int32 → Int32 → Int32 → Int32 → Int32 → Int32 → Int32 → Int32 → Prop) (S : fw_S) (x2 : Int32) (x3 : Int32) (x4 : Int32) (x5 : Int32) (x6 : Int32) (x7 : Int32) (x8 : Int32) (x9 : Int32) (x10 : Int32) (x11 : Int32) (x12 : Int32) (p0 : Int32) : Prop := ∀ v1 : Int32, v1 = x10 + 1 → k274 S x2 x3 x4 x5 x6 x7 x8 p0 v1
def wp_M_reckon_288 (o : Nat) (a1 : Int32) (post : fw_S → Prop) (k274 : fw_S → Int32 → Int32 → Int32 → Int32 → Int32 → Int32 → Int32 → Int32 → Int32 → Prop) : Nat → fw_S → Int32 → Int32 → Int32 → Int32 → Int32 → Int32 → Int32 → Int32 → Int32 → Int32 → Int32 → Prop
  | 0, _, _, _, _, _, _, _, _, _, _, _, _ => False
  | f + 1, S, x2, x3, x4, x5, x6, x7, x8, x9, x10, x11, x12 => (((3 ≤ x12) → (((x3 < x11) → wp_M_reckon_379 o a1 post k274 S x2 x3 x4 x5 x6 x7 x8 x9 x10 x11 x12 x9) ∧ (¬ (x3 < x11) → wp_M_reckon_379 o a1 post k274 S x2 x3 x4 x5 x6 x7 x8 x9 x10 x11 x12 x10))) ∧ (¬ (3 ≤ x12) → ∀ v3 : Int32, v3 = (a1 + (2 * x12)) → ((¬ (x12 = 0) → ((¬ (x12 = 1) → wp_M_reckon_325 o a1 post k274 (fun S x2 x3 x4 x5 x6 x7 x8 x9 x10 x11 x12 => wp_M_reckon_288 o a1 post k274 f S x2 x3 x4 x5 x6 x7 x8 x9 x10 x11 x12) S x2 x3 x4 x5 x6 x7 x8 x9 x10 x11 x12 v3 x8) ∧ ((x12 = 1) → wp_M_reckon_325 o a1 post k274 (fun S x2 x3 x4 x5 x6 x7 x8 x9 x10 x11 x12 => wp_M_reckon_288 o a1 post k274 f S x2 x3 x4 x5 x6 x7 x8 x9 x10 x11 x12) S x2 x3 x4 x5 x6 x7 x8 x9 x10 x11 x12 v3 x7))) ∧ ((x12 = 0) → wp_M_reckon_325 o a1 post k274 (fun S x2 x3 x4 x5 x6 x7 x8 x9 x10 x11 x12 => wp_M_reckon_288 o a1 post k274 f S x2 x3 x4 x5 x6 x7 x8 x9 x10 x11 x12) S x2 x3 x4 x5 x6 x7 x8 x9 x10 x11 x12 v3 x6))))
def wp_M_reckon_468 (o : Nat) (a1 : Int32) (post : fw_S → Prop) (k390 : fw_S → Int32 → Int32 → Int32 → Int32 → Int32 → Int32 → Int32 → Int32 → Int32 → Prop) (S : fw_S) (x2 : Int32) (x3 : Int32) (x4 : Int32) (x5 : Int32) (x6 : Int32) (x7 : Int32) (x8 : Int32) (x9 : Int32) (x10 : Int32) (x11 : Int32) (x12 : Int32) (p0 : Int32) (p1 : Int32) : Prop := vp_in p1 6 ∧ (∀ S2 : fw_S, S2 = fw_si S (o + 34) p1.toNatClampNeg p0 → ∀ v3 : Int32, v3 = x10 + 1 → k390 S2 x2 x3 x4 x5 x6 x7 x8 x9 v3)
def wp_M_reckon_427 (o : Nat) (a1 : Int32) (post : fw_S → Prop) (k390 : fw_S → Int32 → Int32 → Int32 → Int32 → Int32 → Int32 → Int32 → Int32 → Int32 → Prop) (S : fw_S) (x2 : Int32) (x3 : Int32) (x4 : Int32) (x5 : Int32) (x6 : Int32) (x7 : Int32) (x8 : Int32) (x9 : Int32) (x10 : Int32) (x11 : Int32) (p0 : Int32) : Prop := (((p0 = 0) → vp_in x11 6 ∧ (wp_M_reckon_468 o a1 post k390 S x2 x3 x4 x5 x6 x7 x8 x9 x10 x11 p0 (S.1 (o + 34) x11.toNatClampNeg) x11)) ∧ (¬ (p0 = 0) → wp_M_wantsNow S o x11 (fun S3 r4 => vp_in x11 6 ∧ (wp_M_share S3 r4 (S3.1 (o + 20) x11.toNatClampNeg) x9 (fun S6 r7 => wp_M_reckon_468 o a1 post k390 S6 x2 x3 x4 x5 x6 x7 x8 x9 x10 x11 p0 r7 x11)))))
def wp_M_reckon_390 (o : Nat) (a1 : Int32) (post : fw_S → Prop) : Nat → fw_S → Int32 → Int32 → Int32 → Int32 → Int32 → Int32 → Int32 → Int32 → Int32 → Prop
  | 0, _, _, _, _, _, _, _, _, _, _ => False
  | f + 1, S, x2, x3, x4, x5, x6, x7, x8, x9, x10 => (((3 ≤ x10) → post S) ∧ (¬ (3 ≤ x10) → ∀ v2 : Int32, v2 = (a1 + (2 * x10)) → ((¬ (x10 = 0) → ((¬ (x10 = 1) → wp_M_reckon_427 o a1 post (fun S x2 x3 x4 x5 x6 x7 x8 x9 x10 => wp_M_reckon_390 o a1 post f S x2 x3 x4 x5 x6 x7 x8 x9 x10) S x2 x3 x4 x5 x6 x7 x8 x9 x10 v2 x8) ∧ ((x10 = 1) → wp_M_reckon_427 o a1 post (fun S x2 x3 x4 x5 x6 x7 x8 x9 x10 => wp_M_reckon_390 o a1 post f S x2 x3 x4 x5 x6 x7 x8 x9 x10) S x2 x3 x4 x5 x6 x7 x8 x9 x10 v2 x7))) ∧ ((x10 = 0) → wp_M_reckon_427 o a1 post (fun S x2 x3 x4 x5 x6 x7 x8 x9 x10 => wp_M_reckon_390 o a1 post f S x2 x3 x4 x5 x6 x7 x8 x9 x10) S x2 x3 x4 x5 x6 x7 x8 x9 x10 v2 x6))))
def wp_M_reckon_274 (o : Nat) (a1 : Int32) (post : fw_S → Prop) : Nat → fw_S → Int32 → Int32 → Int32 → Int32 → Int32 → Int32 → Int32 → Int32 → Int32 → Prop
  | 0, _, _, _, _, _, _, _, _, _, _ => False
  | f + 1, S, x2, x3, x4, x5, x6, x7, x8, x9, x10 => (((320 < x10) → ∃ f0, wp_M_reckon_390 o a1 post f0 S x2 x3 x4 x5 x6 x7 x8 x9 0) ∧ (¬ (320 < x10) → ∃ f0, wp_M_reckon_288 o a1 post (fun S x2 x3 x4 x5 x6 x7 x8 x9 x10 => wp_M_reckon_274 o a1 post f S x2 x3 x4 x5 x6 x7 x8 x9 x10) f0 S x2 x3 x4 x5 x6 x7 x8 x9 x10 0 0))
def wp_M_reckon_159 (o : Nat) (a1 : Int32) (post : fw_S → Prop) : Nat → fw_S → Int32 → Int32 → Int32 → Int32 → Int32 → Int32 → Int32 → Int32 → Prop
  | 0, _, _, _, _, _, _, _, _, _ => False
  | f + 1, S, x2, x3, x4, x5, x6, x7, x8, x9 => (((3 ≤ x9) → ∃ f0, wp_M_reckon_274 o a1 post f0 S x2 x3 x4 x5 x6 x7 x8 0 0) ∧ (¬ (3 ≤ x9) → ∀ v2 : Int32, v2 = ((x4 + x9) - (x4 + x9) / 3 * 3) → ∀ v3 : Int32, v3 = (a1 + (2 * v2)) → (((x5 ≤ 0) → wp_M_reckon_262 o a1 post (fun S x2 x3 x4 x5 x6 x7 x8 x9 => wp_M_reckon_159 o a1 post f S x2 x3 x4 x5 x6 x7 x8 x9) S x2 x3 x4 x5 x6 x7 x8 x9 v2 v3) ∧ (¬ (x5 ≤ 0) → wp_M_isActive S o v3 (fun S5 r6 => (((r6 = 0) → wp_M_reckon_262 o a1 post (fun S x2 x3 x4 x5 x6 x7 x8 x9 => wp_M_reckon_159 o a1 post f S x2 x3 x4 x5 x6 x7 x8 x9) S5 x2 x3 x4 x5 x6 x7 x8 x9 v2 v3) ∧ (¬ (r6 = 0) → vp_in v3 6 ∧ (((((S5.1 (o + 7) v3.toNatClampNeg) = 0) → wp_M_reckon_262 o a1 post (fun S x2 x3 x4 x5 x6 x7 x8 x9 => wp_M_reckon_159 o a1 post f S x2 x3 x4 x5 x6 x7 x8 x9) S5 x2 x3 x4 x5 x6 x7 x8 x9 v2 v3) ∧ (¬ ((S5.1 (o + 7) v3.toNatClampNeg) = 0) → ∀ v10 : Int32, v10 = x5 + (-1) → ((¬ (x6 = 0) → wp_M_reckon_219 o a1 post (fun S x2 x3 x4 x5 x6 x7 x8 x9 => wp_M_reckon_159 o a1 post f S x2 x3 x4 x5 x6 x7 x8 x9) S5 x2 x3 x4 v10 x6 x7 x8 x9 v2 v3) ∧ ((x6 = 0) → ((¬ (v2 = 0) → wp_M_reckon_224 o a1 post (fun S x2 x3 x4 x5 x6 x7 x8 x9 => wp_M_reckon_159 o a1 post f S x2 x3 x4 x5 x6 x7 x8 x9) S5 x2 x3 x4 v10 x6 x7 x8 x9 v2 v3 0) ∧ ((v2 = 0) → wp_M_reckon_219 o a1 post (fun S x2 x3 x4 x5 x6 x7 x8 x9 => wp_M_reckon_159 o a1 post f S x2 x3 x4 x5 x6 x7 x8 x9) S5 x2 x3 x4 v10 x6 x7 x8 x9 v2 v3))))))))))))))
def wp_M_reckon_36 (o : Nat) (a1 : Int32) (post : fw_S → Prop) : Nat → fw_S → Int32 → Int32 → Int32 → Prop
  | 0, _, _, _, _ => False
  | f + 1, S, x2, x3, x4 => (((6 ≤ x4) → ∀ v2 : Int32, v2 = (((S.1 o 1) / 900) - ((S.1 o 1) / 900) / 3 * 3) → ∀ v3 : Int32, v3 = (x3 / 60) → ∃ f0, wp_M_reckon_159 o a1 post f0 S x2 x3 v2 v3 0 0 0 0) ∧ (¬ (6 ≤ x4) → wp_M_isActive S o x4 (fun S4 r5 => (((r5 = 0) → wp_M_reckon_66 o a1 post (fun S x2 x3 x4 => wp_M_reckon_36 o a1 post f S x2 x3 x4) S4 x2 x3 x4) ∧ (¬ (r5 = 0) → vp_in x4 6 ∧ (((¬ ((S4.1 (o + 7) x4.toNatClampNeg) = 0) → wp_M_reckon_66 o a1 post (fun S x2 x3 x4 => wp_M_reckon_36 o a1 post f S x2 x3 x4) S4 x2 x3 x4) ∧ (((S4.1 (o + 7) x4.toNatClampNeg) = 0) → wp_M_reckon_67 o a1 post (fun S x2 x3 x4 => wp_M_reckon_36 o a1 post f S x2 x3 x4) S4 x2 x3 x4 1))))))))
def wp_M_reckon_25 (o : Nat) (a1 : Int32) (post : fw_S → Prop) (S : fw_S) (p0 : Int32) : Prop := vp_in a1 2 ∧ (∀ v2 : Int32, v2 = (S.1 (o + 1) a1.toNatClampNeg) → ∃ f0, wp_M_reckon_36 o a1 post f0 S p0 v2 a1)
def wp_M_reckon (S : fw_S) (o : Nat) (a1 : Int32) (post : fw_S → Prop) : Prop := vp_in a1 2 ∧ (((((60 : Int32) ≤ ((S.1 (o + 1) a1.toNatClampNeg) / 3)) → vp_in a1 2 ∧ (wp_M_reckon_25 o a1 post S ((S.1 (o + 1) a1.toNatClampNeg) / 3))) ∧ (¬ ((60 : Int32) ≤ ((S.1 (o + 1) a1.toNatClampNeg) / 3)) → wp_M_reckon_25 o a1 post S 0)))
set_option maxHeartbeats 4000000 in
set_option maxRecDepth 100000 in
theorem mt_M_reckon (l : Launch) (D : va_G) (cA : Nat → ClassId) (b : Nat) (S : fw_S) (o : Nat) (a1 : Int32) (ho : o < 245 ∧ layU o = (10, 0)) (post : fw_S → Prop) (hw : wp_M_reckon S o a1 post) : Met l yy_M_reckon ww_M_reckon rm_M_reckon (fw_Pc D CL cA (TYS cA) TK layU b 245 S [.ref (b + o), .int a1]) (va_Qv post (fw_B D CL cA TK layU b 245) (fw_A b 245)) 0 0 (fw_A b 245) := by
  refine Met.ofW (cc := bb_M_reckon) (maxL := 15) (ret := none) (by decide) rfl ?_
  intro p e s m args below meth c s₁ B hml hv
  obtain ⟨rfl, hP, hK⟩ := hv
  have hx := B.exec
  have hb := B.bytes
  have hr := B.returns
  have hts := atoms_spec (ws := ww_M_reckon) B.pre
  have hown : s.vm.findClass "OutletOfficeModel" = some m.cls := findClass_of_methodNamed B.named
  have hlocks := B.notSynchronized
  have hS : va_S (fw_A b 245) s.heap s.heap [] := va_S.rf
  have hl := lv_entry ([.ref (b + o), .int a1]) (n := 15) (Nat.le_of_ble_eq_true rfl)
  rw [lg_entry_eq]
  generalize (lg_sl ([.ref (b + o), .int a1]) ++ List.replicate (15 - (lg_sl ([.ref (b + o), .int a1])).length) Slot.unset).toArray = ls at hl ⊢
  have hl : lv_has ls 15 [(0, .ref (b + o)), (1, .int a1)] := hl
  have B122 : ∀ (k36 : fw_S → Int32 → Int32 → Int32 → Prop), (∀ (S : fw_S) (x2 : Int32) (x3 : Int32) (x4 : Int32) (H : Heap) (locs : List Loc) (ls : Array Slot), k36 S x2 x3 x4 → fw_P D CL cA layU b 245 (fw_v TK layU b S) H → va_S (fw_A b 245) s.heap H locs → lv_has ls 15 [(0, .ref (b + o)), (1, .int a1), (2, .int x2), (3, .int x3), (4, .int x4)] → W p l e (headSpec ww_M_reckon rm_M_reckon).room s m ([.ref (b + o), .int a1] : List Value).toArray below meth c H locs 0 0 (MQ below (va_Qv post (fw_B D CL cA TK layU b 245) (fw_A b 245)) ([.ref (b + o), .int a1] : List Value).toArray s 0 0 (fw_A b 245)) (F0 m 36 ls [])) → ∀ (S : fw_S) (x2 : Int32) (x3 : Int32) (x4 : Int32) (x5 : Int32) (p0 : Int32) (H : Heap) (locs : List Loc) (ls : Array Slot), wp_M_reckon_122 o a1 post k36 S x2 x3 x4 x5 p0 → fw_P D CL cA layU b 245 (fw_v TK layU b S) H → va_S (fw_A b 245) s.heap H locs → lv_has ls 15 [(0, .ref (b + o)), (1, .int a1), (2, .int x2), (3, .int x3), (4, .int x4), (5, .int x5)] → W p l e (headSpec ww_M_reckon rm_M_reckon).room s m ([.ref (b + o), .int a1] : List Value).toArray below meth c H locs 0 0 (MQ below (va_Qv post (fw_B D CL cA TK layU b 245) (fw_A b 245)) ([.ref (b + o), .int a1] : List Value).toArray s 0 0 (fw_A b 245)) (F0 m 122 ls [.int p0]) := by
      intro k36 K36 S x2 x3 x4 x5 p0 H locs ls hw hP hS hl
      unfold wp_M_reckon_122 at hw
      refine lv_istore_n hx hb dd_M_reckon_122 rfl hl (Nat.le_of_ble_eq_true rfl) rfl (fun ls hl => ?_)
      have hl : lv_has ls 15 [(3, .int p0), (0, .ref (b + o)), (1, .int a1), (2, .int x2), (4, .int x4), (5, .int x5)] := hl
      obtain ⟨v1, e_v1⟩ : ∃ z : Int32, z = x4 + 2 := ⟨_, rfl⟩
      have hw := hw v1 e_v1
      refine lv_iinc hx hb dd_M_reckon_123 hl (k := 4) rfl (show x4 + Int32.ofInt 2 = v1 by rw [kc_ii_2, e_v1]) (Nat.le_of_ble_eq_true rfl) rfl (fun ls hl => ?_)
      have hl : lv_has ls 15 [(4, .int v1), (3, .int p0), (0, .ref (b + o)), (1, .int a1), (2, .int x2), (5, .int x5)] := hl
      refine lv_goto (tgt := 36) hx hb dd_M_reckon_126 (by decide) ?_
      exact K36 S x2 p0 v1 _ _ ls hw hP hS (lv_sub hl [2, 3, 4, 1, 0] rfl)
  have B104 : ∀ (k36 : fw_S → Int32 → Int32 → Int32 → Prop), (∀ (S : fw_S) (x2 : Int32) (x3 : Int32) (x4 : Int32) (H : Heap) (locs : List Loc) (ls : Array Slot), k36 S x2 x3 x4 → fw_P D CL cA layU b 245 (fw_v TK layU b S) H → va_S (fw_A b 245) s.heap H locs → lv_has ls 15 [(0, .ref (b + o)), (1, .int a1), (2, .int x2), (3, .int x3), (4, .int x4)] → W p l e (headSpec ww_M_reckon rm_M_reckon).room s m ([.ref (b + o), .int a1] : List Value).toArray below meth c H locs 0 0 (MQ below (va_Qv post (fw_B D CL cA TK layU b 245) (fw_A b 245)) ([.ref (b + o), .int a1] : List Value).toArray s 0 0 (fw_A b 245)) (F0 m 36 ls [])) → ∀ (S : fw_S) (x2 : Int32) (x3 : Int32) (x4 : Int32) (x5 : Int32) (p0 : Int32) (p1 : Int32) (H : Heap) (locs : List Loc) (ls : Array Slot), wp_M_reckon_104 o a1 post k36 S x2 x3 x4 x5 p0 p1 → fw_P D CL cA layU b 245 (fw_v TK layU b S) H → va_S (fw_A b 245) s.heap H locs → lv_has ls 15 [(0, .ref (b + o)), (1, .int a1), (2, .int x2), (3, .int x3), (4, .int x4), (5, .int x5)] → W p l e (headSpec ww_M_reckon rm_M_reckon).room s m ([.ref (b + o), .int a1] : List Value).toArray below meth c H locs 0 0 (MQ below (va_Qv post (fw_B D CL cA TK layU b 245) (fw_A b 245)) ([.ref (b + o), .int a1] : List Value).toArray s 0 0 (fw_A b 245)) (F0 m 104 ls [.int p0, .int p1, .ref (b + (o + 34))]) := by
      intro k36 K36 S x2 x3 x4 x5 p0 p1 H locs ls hw hP hS hl
      unfold wp_M_reckon_104 at hw
      obtain ⟨h1, hw⟩ := hw
      refine fw_iast hx hb hK hP hS (fw_A.in (lf_10_38 ho).1) (lf_10_38 ho) (by decide) 0 rfl tka_100 h1 dd_M_reckon_104 (fun H locs hP hS => ?_)
      obtain ⟨S2, e_S2⟩ : ∃ z, z = fw_si S (o + 34) p1.toNatClampNeg p0 := ⟨_, rfl⟩
      rw [← e_S2] at hP
      have hw := hw S2 e_S2
      refine lv_aload_n hx hb dd_M_reckon_105 rfl (lv_at hl 0 rfl) ?_
      refine fw_getr hx hb hts in_10 hown hK hP ho (by decide) rfl 10 (by decide) (hts _ (tb_in tw_791)) tk_10_10 dd_M_reckon_106 ?_
      refine lv_iload hx hb dd_M_reckon_109 (lv_at hl 4 rfl) ?_
      obtain ⟨h3, hw⟩ := hw
      refine fw_zald hx hb hK hP (lf_10_10 ho) (by decide) 2 rfl tka_102 h3 dd_M_reckon_111 ?_
      refine lv_if_eq (tgt := 119) hx hb dd_M_reckon_112 (by decide) (fun h4 => ?_) (fun h4 => ?_)
      · have hw := hw.1 h4
        refine lv_iload_n hx hb dd_M_reckon_119 rfl (lv_at hl 3 rfl) ?_
        refine lv_iload_n hx hb dd_M_reckon_120 rfl (lv_at hl 2 rfl) ?_
        refine lv_isub hx hb dd_M_reckon_121 ?_
        exact B122 _ K36 S2 x2 x3 x4 x5 (x3 - x2) _ _ ls hw hP hS (lv_sub hl [0, 1, 2, 3, 4, 5] rfl)
      · have hw := hw.2 h4
        refine lv_iload_n hx hb dd_M_reckon_115 rfl (lv_at hl 3 rfl) ?_
        refine lv_goto (tgt := 122) hx hb dd_M_reckon_116 (by decide) ?_
        exact B122 _ K36 S2 x2 x3 x4 x5 x3 _ _ ls hw hP hS (lv_sub hl [0, 1, 2, 3, 4, 5] rfl)
  have B67 : ∀ (k36 : fw_S → Int32 → Int32 → Int32 → Prop), (∀ (S : fw_S) (x2 : Int32) (x3 : Int32) (x4 : Int32) (H : Heap) (locs : List Loc) (ls : Array Slot), k36 S x2 x3 x4 → fw_P D CL cA layU b 245 (fw_v TK layU b S) H → va_S (fw_A b 245) s.heap H locs → lv_has ls 15 [(0, .ref (b + o)), (1, .int a1), (2, .int x2), (3, .int x3), (4, .int x4)] → W p l e (headSpec ww_M_reckon rm_M_reckon).room s m ([.ref (b + o), .int a1] : List Value).toArray below meth c H locs 0 0 (MQ below (va_Qv post (fw_B D CL cA TK layU b 245) (fw_A b 245)) ([.ref (b + o), .int a1] : List Value).toArray s 0 0 (fw_A b 245)) (F0 m 36 ls [])) → ∀ (S : fw_S) (x2 : Int32) (x3 : Int32) (x4 : Int32) (p0 : Int32) (H : Heap) (locs : List Loc) (ls : Array Slot), wp_M_reckon_67 o a1 post k36 S x2 x3 x4 p0 → fw_P D CL cA layU b 245 (fw_v TK layU b S) H → va_S (fw_A b 245) s.heap H locs → lv_has ls 15 [(0, .ref (b + o)), (1, .int a1), (2, .int x2), (3, .int x3), (4, .int x4)] → W p l e (headSpec ww_M_reckon rm_M_reckon).room s m ([.ref (b + o), .int a1] : List Value).toArray below meth c H locs 0 0 (MQ below (va_Qv post (fw_B D CL cA TK layU b 245) (fw_A b 245)) ([.ref (b + o), .int a1] : List Value).toArray s 0 0 (fw_A b 245)) (F0 m 67 ls [.int p0]) := by
      intro k36 K36 S x2 x3 x4 p0 H locs ls hw hP hS hl
      unfold wp_M_reckon_67 at hw
      refine lv_istore hx hb dd_M_reckon_67 hl (Nat.le_of_ble_eq_true rfl) rfl (fun ls hl => ?_)
      have hl : lv_has ls 15 [(5, .int p0), (0, .ref (b + o)), (1, .int a1), (2, .int x2), (3, .int x3), (4, .int x4)] := hl
      refine lv_aload_n hx hb dd_M_reckon_69 rfl (lv_at hl 1 rfl) ?_
      refine fw_getr hx hb hts in_10 hown hK hP ho (by decide) rfl 38 (by decide) (hts _ (tb_in tw_819)) tk_10_38 dd_M_reckon_70 ?_
      refine lv_iload hx hb dd_M_reckon_73 (lv_at hl 5 rfl) ?_
      refine lv_iload hx hb dd_M_reckon_75 (lv_at hl 0 rfl) ?_
      refine lv_if_ne (tgt := 84) hx hb dd_M_reckon_77 (by decide) (fun h1 => ?_) (fun h1 => ?_)
      · have hw := hw.1 h1
        refine lv_aload_n hx hb dd_M_reckon_84 rfl (lv_at hl 1 rfl) ?_
        refine lv_iload hx hb dd_M_reckon_85 (lv_at hl 5 rfl) ?_
        refine fw_calli (va_runV (As := [.int x4]) (rest := [.int x4, .ref (b + (o + 34))]) ⟨hx, hb, hml, hown, hts⟩ (mt_M_wantsNow l D cA b S o x4 ho _ hw) (cwV 1 hts (fw_gV tw_1039 tw_1036 tw_1038 ts_29 tw_11) rfl rfl rfl (by decide +kernel) ⟨Nat.le_of_ble_eq_true rfl, Nat.le_of_ble_eq_true rfl⟩) (fw_preV hP hK ho (by decide) rfl) rfl rfl hl.1 rfl (lv_room (Nat.le_of_ble_eq_true rfl)) dd_M_reckon_87 ⟨Nat.le_of_ble_eq_true rfl, Nat.le_of_ble_eq_true rfl⟩) hS (fun S2 r3 H locs hw hP hS => ?_)
        try dsimp only at hw
        refine lv_iload_n hx hb dd_M_reckon_90 rfl (lv_at hl 3 rfl) ?_
        refine lv_icmp_ge (tgt := 103) hx hb dd_M_reckon_91 (by decide) (fun h4 => ?_) (fun h4 => ?_)
        · have hw := hw.1 h4
          refine lv_iload_n hx hb dd_M_reckon_103 rfl (lv_at hl 3 rfl) ?_
          exact B104 _ K36 S2 x2 x3 x4 p0 x2 x4 _ _ ls hw hP hS (lv_sub hl [1, 2, 3, 4, 5, 0] rfl)
        · have hw := hw.2 h4
          refine lv_aload_n hx hb dd_M_reckon_94 rfl (lv_at hl 1 rfl) ?_
          refine lv_iload hx hb dd_M_reckon_95 (lv_at hl 5 rfl) ?_
          refine fw_calli (va_runV (As := [.int x4]) (rest := [.int x4, .ref (b + (o + 34))]) ⟨hx, hb, hml, hown, hts⟩ (mt_M_wantsNow l D cA b S2 o x4 ho _ hw) (cwV 1 hts (fw_gV tw_1039 tw_1036 tw_1038 ts_29 tw_11) rfl rfl rfl (by decide +kernel) ⟨Nat.le_of_ble_eq_true rfl, Nat.le_of_ble_eq_true rfl⟩) (fw_preV hP hK ho (by decide) rfl) rfl rfl hl.1 rfl (lv_room (Nat.le_of_ble_eq_true rfl)) dd_M_reckon_97 ⟨Nat.le_of_ble_eq_true rfl, Nat.le_of_ble_eq_true rfl⟩) hS (fun S5 r6 H locs hw hP hS => ?_)
          try dsimp only at hw
          refine lv_goto (tgt := 104) hx hb dd_M_reckon_100 (by decide) ?_
          exact B104 _ K36 S5 x2 x3 x4 p0 r6 x4 _ _ ls hw hP hS (lv_sub hl [1, 2, 3, 4, 5, 0] rfl)
      · have hw := hw.2 h1
        refine lv_iconst (v := 0) hx hb dd_M_reckon_80 kc_ic_0 ?_
        refine lv_goto (tgt := 104) hx hb dd_M_reckon_81 (by decide) ?_
        exact B104 _ K36 S x2 x3 x4 p0 0 x4 _ _ ls hw hP hS (lv_sub hl [1, 2, 3, 4, 5, 0] rfl)
  have B66 : ∀ (k36 : fw_S → Int32 → Int32 → Int32 → Prop), (∀ (S : fw_S) (x2 : Int32) (x3 : Int32) (x4 : Int32) (H : Heap) (locs : List Loc) (ls : Array Slot), k36 S x2 x3 x4 → fw_P D CL cA layU b 245 (fw_v TK layU b S) H → va_S (fw_A b 245) s.heap H locs → lv_has ls 15 [(0, .ref (b + o)), (1, .int a1), (2, .int x2), (3, .int x3), (4, .int x4)] → W p l e (headSpec ww_M_reckon rm_M_reckon).room s m ([.ref (b + o), .int a1] : List Value).toArray below meth c H locs 0 0 (MQ below (va_Qv post (fw_B D CL cA TK layU b 245) (fw_A b 245)) ([.ref (b + o), .int a1] : List Value).toArray s 0 0 (fw_A b 245)) (F0 m 36 ls [])) → ∀ (S : fw_S) (x2 : Int32) (x3 : Int32) (x4 : Int32) (H : Heap) (locs : List Loc) (ls : Array Slot), wp_M_reckon_66 o a1 post k36 S x2 x3 x4 → fw_P D CL cA layU b 245 (fw_v TK layU b S) H → va_S (fw_A b 245) s.heap H locs → lv_has ls 15 [(0, .ref (b + o)), (1, .int a1), (2, .int x2), (3, .int x3), (4, .int x4)] → W p l e (headSpec ww_M_reckon rm_M_reckon).room s m ([.ref (b + o), .int a1] : List Value).toArray below meth c H locs 0 0 (MQ below (va_Qv post (fw_B D CL cA TK layU b 245) (fw_A b 245)) ([.ref (b + o), .int a1] : List Value).toArray s 0 0 (fw_A b 245)) (F0 m 66 ls []) := by
      intro k36 K36 S x2 x3 x4 H locs ls hw hP hS hl
      unfold wp_M_reckon_66 at hw
      refine lv_iconst (v := 0) hx hb dd_M_reckon_66 kc_ic_0 ?_
      exact B67 _ K36 S x2 x3 x4 0 _ _ ls hw hP hS (lv_sub hl [0, 1, 2, 3, 4] rfl)
  have B262 : ∀ (k159 : fw_S → Int32 → Int32 → Int32 → Int32 → Int32 → Int32 → Int32 → Int32 → Prop), (∀ (S : fw_S) (x2 : Int32) (x3 : Int32) (x4 : Int32) (x5 : Int32) (x6 : Int32) (x7 : Int32) (x8 : Int32) (x9 : Int32) (H : Heap) (locs : List Loc) (ls : Array Slot), k159 S x2 x3 x4 x5 x6 x7 x8 x9 → fw_P D CL cA layU b 245 (fw_v TK layU b S) H → va_S (fw_A b 245) s.heap H locs → lv_has ls 15 [(0, .ref (b + o)), (1, .int a1), (2, .int x2), (3, .int x3), (4, .int x4), (5, .int x5), (6, .int x6), (7, .int x7), (8, .int x8), (9, .int x9)] → W p l e (headSpec ww_M_reckon rm_M_reckon).room s m ([.ref (b + o), .int a1] : List Value).toArray below meth c H locs 0 0 (MQ below (va_Qv post (fw_B D CL cA TK layU b 245) (fw_A b 245)) ([.ref (b + o), .int a1] : List Value).toArray s 0 0 (fw_A b 245)) (F0 m 159 ls [])) → ∀ (S : fw_S) (x2 : Int32) (x3 : Int32) (x4 : Int32) (x5 : Int32) (x6 : Int32) (x7 : Int32) (x8 : Int32) (x9 : Int32) (x10 : Int32) (x11 : Int32) (H : Heap) (locs : List Loc) (ls : Array Slot), wp_M_reckon_262 o a1 post k159 S x2 x3 x4 x5 x6 x7 x8 x9 x10 x11 → fw_P D CL cA layU b 245 (fw_v TK layU b S) H → va_S (fw_A b 245) s.heap H locs → lv_has ls 15 [(0, .ref (b + o)), (1, .int a1), (2, .int x2), (3, .int x3), (4, .int x4), (5, .int x5), (6, .int x6), (7, .int x7), (8, .int x8), (9, .int x9), (10, .int x10), (11, .int x11)] → W p l e (headSpec ww_M_reckon rm_M_reckon).room s m ([.ref (b + o), .int a1] : List Value).toArray below meth c H locs 0 0 (MQ below (va_Qv post (fw_B D CL cA TK layU b 245) (fw_A b 245)) ([.ref (b + o), .int a1] : List Value).toArray s 0 0 (fw_A b 245)) (F0 m 262 ls []) := by
      intro k159 K159 S x2 x3 x4 x5 x6 x7 x8 x9 x10 x11 H locs ls hw hP hS hl
      unfold wp_M_reckon_262 at hw
      obtain ⟨v1, e_v1⟩ : ∃ z : Int32, z = x9 + 1 := ⟨_, rfl⟩
      have hw := hw v1 e_v1
      refine lv_iinc hx hb dd_M_reckon_262 hl (k := 9) rfl (show x9 + Int32.ofInt 1 = v1 by rw [kc_ii_1, e_v1]) (Nat.le_of_ble_eq_true rfl) rfl (fun ls hl => ?_)
      have hl : lv_has ls 15 [(9, .int v1), (0, .ref (b + o)), (1, .int a1), (2, .int x2), (3, .int x3), (4, .int x4), (5, .int x5), (6, .int x6), (7, .int x7), (8, .int x8), (10, .int x10), (11, .int x11)] := hl
      refine lv_goto (tgt := 159) hx hb dd_M_reckon_265 (by decide) ?_
      exact K159 S x2 x3 x4 x5 x6 x7 x8 v1 _ _ ls hw hP hS (lv_sub hl [1, 2, 3, 4, 5, 6, 7, 8, 9, 0] rfl)
  have B260 : ∀ (k159 : fw_S → Int32 → Int32 → Int32 → Int32 → Int32 → Int32 → Int32 → Int32 → Prop), (∀ (S : fw_S) (x2 : Int32) (x3 : Int32) (x4 : Int32) (x5 : Int32) (x6 : Int32) (x7 : Int32) (x8 : Int32) (x9 : Int32) (H : Heap) (locs : List Loc) (ls : Array Slot), k159 S x2 x3 x4 x5 x6 x7 x8 x9 → fw_P D CL cA layU b 245 (fw_v TK layU b S) H → va_S (fw_A b 245) s.heap H locs → lv_has ls 15 [(0, .ref (b + o)), (1, .int a1), (2, .int x2), (3, .int x3), (4, .int x4), (5, .int x5), (6, .int x6), (7, .int x7), (8, .int x8), (9, .int x9)] → W p l e (headSpec ww_M_reckon rm_M_reckon).room s m ([.ref (b + o), .int a1] : List Value).toArray below meth c H locs 0 0 (MQ below (va_Qv post (fw_B D CL cA TK layU b 245) (fw_A b 245)) ([.ref (b + o), .int a1] : List Value).toArray s 0 0 (fw_A b 245)) (F0 m 159 ls [])) → ∀ (S : fw_S) (x2 : Int32) (x3 : Int32) (x4 : Int32) (x5 : Int32) (x6 : Int32) (x7 : Int32) (x8 : Int32) (x9 : Int32) (x10 : Int32) (x11 : Int32) (p0 : Int32) (H : Heap) (locs : List Loc) (ls : Array Slot), wp_M_reckon_260 o a1 post k159 S x2 x3 x4 x5 x6 x7 x8 x9 x10 x11 p0 → fw_P D CL cA layU b 245 (fw_v TK layU b S) H → va_S (fw_A b 245) s.heap H locs → lv_has ls 15 [(0, .ref (b + o)), (1, .int a1), (2, .int x2), (3, .int x3), (4, .int x4), (5, .int x5), (6, .int x6), (7, .int x7), (8, .int x8), (9, .int x9), (10, .int x10), (11, .int x11)] → W p l e (headSpec ww_M_reckon rm_M_reckon).room s m ([.ref (b + o), .int a1] : List Value).toArray below meth c H locs 0 0 (MQ below (va_Qv post (fw_B D CL cA TK layU b 245) (fw_A b 245)) ([.ref (b + o), .int a1] : List Value).toArray s 0 0 (fw_A b 245)) (F0 m 260 ls [.int p0]) := by
      intro k159 K159 S x2 x3 x4 x5 x6 x7 x8 x9 x10 x11 p0 H locs ls hw hP hS hl
      unfold wp_M_reckon_260 at hw
      refine lv_istore hx hb dd_M_reckon_260 hl (Nat.le_of_ble_eq_true rfl) rfl (fun ls hl => ?_)
      have hl : lv_has ls 15 [(8, .int p0), (0, .ref (b + o)), (1, .int a1), (2, .int x2), (3, .int x3), (4, .int x4), (5, .int x5), (6, .int x6), (7, .int x7), (9, .int x9), (10, .int x10), (11, .int x11)] := hl
      exact B262 _ K159 S x2 x3 x4 x5 x6 x7 p0 x9 x10 x11 _ _ ls hw hP hS (lv_sub hl [1, 2, 3, 4, 5, 6, 7, 8, 0, 9, 10, 11] rfl)
  have B255 : ∀ (k159 : fw_S → Int32 → Int32 → Int32 → Int32 → Int32 → Int32 → Int32 → Int32 → Prop), (∀ (S : fw_S) (x2 : Int32) (x3 : Int32) (x4 : Int32) (x5 : Int32) (x6 : Int32) (x7 : Int32) (x8 : Int32) (x9 : Int32) (H : Heap) (locs : List Loc) (ls : Array Slot), k159 S x2 x3 x4 x5 x6 x7 x8 x9 → fw_P D CL cA layU b 245 (fw_v TK layU b S) H → va_S (fw_A b 245) s.heap H locs → lv_has ls 15 [(0, .ref (b + o)), (1, .int a1), (2, .int x2), (3, .int x3), (4, .int x4), (5, .int x5), (6, .int x6), (7, .int x7), (8, .int x8), (9, .int x9)] → W p l e (headSpec ww_M_reckon rm_M_reckon).room s m ([.ref (b + o), .int a1] : List Value).toArray below meth c H locs 0 0 (MQ below (va_Qv post (fw_B D CL cA TK layU b 245) (fw_A b 245)) ([.ref (b + o), .int a1] : List Value).toArray s 0 0 (fw_A b 245)) (F0 m 159 ls [])) → ∀ (S : fw_S) (x2 : Int32) (x3 : Int32) (x4 : Int32) (x5 : Int32) (x6 : Int32) (x7 : Int32) (x8 : Int32) (x9 : Int32) (x10 : Int32) (x11 : Int32) (H : Heap) (locs : List Loc) (ls : Array Slot), wp_M_reckon_255 o a1 post k159 S x2 x3 x4 x5 x6 x7 x8 x9 x10 x11 → fw_P D CL cA layU b 245 (fw_v TK layU b S) H → va_S (fw_A b 245) s.heap H locs → lv_has ls 15 [(0, .ref (b + o)), (1, .int a1), (2, .int x2), (3, .int x3), (4, .int x4), (5, .int x5), (6, .int x6), (7, .int x7), (8, .int x8), (9, .int x9), (10, .int x10), (11, .int x11)] → W p l e (headSpec ww_M_reckon rm_M_reckon).room s m ([.ref (b + o), .int a1] : List Value).toArray below meth c H locs 0 0 (MQ below (va_Qv post (fw_B D CL cA TK layU b 245) (fw_A b 245)) ([.ref (b + o), .int a1] : List Value).toArray s 0 0 (fw_A b 245)) (F0 m 255 ls []) := by
      intro k159 K159 S x2 x3 x4 x5 x6 x7 x8 x9 x10 x11 H locs ls hw hP hS hl
      unfold wp_M_reckon_255 at hw
      refine lv_iconst (v := 1) hx hb dd_M_reckon_255 kc_ic_1 ?_
      refine lv_goto (tgt := 260) hx hb dd_M_reckon_256 (by decide) ?_
      exact B260 _ K159 S x2 x3 x4 x5 x6 x7 x8 x9 x10 x11 1 _ _ ls hw hP hS (lv_sub hl [0, 1, 2, 3, 4, 5, 6, 7, 8, 9, 10, 11] rfl)
  have B242 : ∀ (k159 : fw_S → Int32 → Int32 → Int32 → Int32 → Int32 → Int32 → Int32 → Int32 → Prop), (∀ (S : fw_S) (x2 : Int32) (x3 : Int32) (x4 : Int32) (x5 : Int32) (x6 : Int32) (x7 : Int32) (x8 : Int32) (x9 : Int32) (H : Heap) (locs : List Loc) (ls : Array Slot), k159 S x2 x3 x4 x5 x6 x7 x8 x9 → fw_P D CL cA layU b 245 (fw_v TK layU b S) H → va_S (fw_A b 245) s.heap H locs → lv_has ls 15 [(0, .ref (b + o)), (1, .int a1), (2, .int x2), (3, .int x3), (4, .int x4), (5, .int x5), (6, .int x6), (7, .int x7), (8, .int x8), (9, .int x9)] → W p l e (headSpec ww_M_reckon rm_M_reckon).room s m ([.ref (b + o), .int a1] : List Value).toArray below meth c H locs 0 0 (MQ below (va_Qv post (fw_B D CL cA TK layU b 245) (fw_A b 245)) ([.ref (b + o), .int a1] : List Value).toArray s 0 0 (fw_A b 245)) (F0 m 159 ls [])) → ∀ (S : fw_S) (x2 : Int32) (x3 : Int32) (x4 : Int32) (x5 : Int32) (x6 : Int32) (x7 : Int32) (x8 : Int32) (x9 : Int32) (x10 : Int32) (x11 : Int32) (p0 : Int32) (H : Heap) (locs : List Loc) (ls : Array Slot), wp_M_reckon_242 o a1 post k159 S x2 x3 x4 x5 x6 x7 x8 x9 x10 x11 p0 → fw_P D CL cA layU b 245 (fw_v TK layU b S) H → va_S (fw_A b 245) s.heap H locs → lv_has ls 15 [(0, .ref (b + o)), (1, .int a1), (2, .int x2), (3, .int x3), (4, .int x4), (5, .int x5), (6, .int x6), (7, .int x7), (8, .int x8), (9, .int x9), (10, .int x10), (11, .int x11)] → W p l e (headSpec ww_M_reckon rm_M_reckon).room s m ([.ref (b + o), .int a1] : List Value).toArray below meth c H locs 0 0 (MQ below (va_Qv post (fw_B D CL cA TK layU b 245) (fw_A b 245)) ([.ref (b + o), .int a1] : List Value).toArray s 0 0 (fw_A b 245)) (F0 m 242 ls [.int p0]) := by
      intro k159 K159 S x2 x3 x4 x5 x6 x7 x8 x9 x10 x11 p0 H locs ls hw hP hS hl
      unfold wp_M_reckon_242 at hw
      refine lv_istore hx hb dd_M_reckon_242 hl (Nat.le_of_ble_eq_true rfl) rfl (fun ls hl => ?_)
      have hl : lv_has ls 15 [(7, .int p0), (0, .ref (b + o)), (1, .int a1), (2, .int x2), (3, .int x3), (4, .int x4), (5, .int x5), (6, .int x6), (8, .int x8), (9, .int x9), (10, .int x10), (11, .int x11)] := hl
      refine lv_iload hx hb dd_M_reckon_244 (lv_at hl 8 rfl) ?_
      refine lv_if_ne (tgt := 255) hx hb dd_M_reckon_246 (by decide) (fun h1 => ?_) (fun h1 => ?_)
      · have hw := hw.1 h1
        exact B255 _ K159 S x2 x3 x4 x5 x6 p0 x8 x9 x10 x11 _ _ ls hw hP hS (lv_sub hl [1, 2, 3, 4, 5, 6, 7, 0, 8, 9, 10, 11] rfl)
      · have hw := hw.2 h1
        refine lv_iload hx hb dd_M_reckon_249 (lv_at hl 10 rfl) ?_
        refine lv_iconst (v := 2) hx hb dd_M_reckon_251 kc_ic_2 ?_
        refine lv_icmp_ne (tgt := 259) hx hb dd_M_reckon_252 (by decide) (fun h2 => ?_) (fun h2 => ?_)
        · have hw := hw.1 h2
          refine lv_iconst (v := 0) hx hb dd_M_reckon_259 kc_ic_0 ?_
          exact B260 _ K159 S x2 x3 x4 x5 x6 p0 x8 x9 x10 x11 0 _ _ ls hw hP hS (lv_sub hl [1, 2, 3, 4, 5, 6, 7, 0, 8, 9, 10, 11] rfl)
        · have hw := hw.2 h2
          exact B255 _ K159 S x2 x3 x4 x5 x6 p0 x8 x9 x10 x11 _ _ ls hw hP hS (lv_sub hl [1, 2, 3, 4, 5, 6, 7, 0, 8, 9, 10, 11] rfl)
  have B237 : ∀ (k159 : fw_S → Int32 → Int32 → Int32 → Int32 → Int32 → Int32 → Int32 → Int32 → Prop), (∀ (S : fw_S) (x2 : Int32) (x3 : Int32) (x4 : Int32) (x5 : Int32) (x6 : Int32) (x7 : Int32) (x8 : Int32) (x9 : Int32) (H : Heap) (locs : List Loc) (ls : Array Slot), k159 S x2 x3 x4 x5 x6 x7 x8 x9 → fw_P D CL cA layU b 245 (fw_v TK layU b S) H → va_S (fw_A b 245) s.heap H locs → lv_has ls 15 [(0, .ref (b + o)), (1, .int a1), (2, .int x2), (3, .int x3), (4, .int x4), (5, .int x5), (6, .int x6), (7, .int x7), (8, .int x8), (9, .int x9)] → W p l e (headSpec ww_M_reckon rm_M_reckon).room s m ([.ref (b + o), .int a1] : List Value).toArray below meth c H locs 0 0 (MQ below (va_Qv post (fw_B D CL cA TK layU b 245) (fw_A b 245)) ([.ref (b + o), .int a1] : List Value).toArray s 0 0 (fw_A b 245)) (F0 m 159 ls [])) → ∀ (S : fw_S) (x2 : Int32) (x3 : Int32) (x4 : Int32) (x5 : Int32) (x6 : Int32) (x7 : Int32) (x8 : Int32) (x9 : Int32) (x10 : Int32) (x11 : Int32) (H : Heap) (locs : List Loc) (ls : Array Slot), wp_M_reckon_237 o a1 post k159 S x2 x3 x4 x5 x6 x7 x8 x9 x10 x11 → fw_P D CL cA layU b 245 (fw_v TK layU b S) H → va_S (fw_A b 245) s.heap H locs → lv_has ls 15 [(0, .ref (b + o)), (1, .int a1), (2, .int x2), (3, .int x3), (4, .int x4), (5, .int x5), (6, .int x6), (7, .int x7), (8, .int x8), (9, .int x9), (10, .int x10), (11, .int x11)] → W p l e (headSpec ww_M_reckon rm_M_reckon).room s m ([.ref (b + o), .int a1] : List Value).toArray below meth c H locs 0 0 (MQ below (va_Qv post (fw_B D CL cA TK layU b 245) (fw_A b 245)) ([.ref (b + o), .int a1] : List Value).toArray s 0 0 (fw_A b 245)) (F0 m 237 ls []) := by
      intro k159 K159 S x2 x3 x4 x5 x6 x7 x8 x9 x10 x11 H locs ls hw hP hS hl
      unfold wp_M_reckon_237 at hw
      refine lv_iconst (v := 1) hx hb dd_M_reckon_237 kc_ic_1 ?_
      refine lv_goto (tgt := 242) hx hb dd_M_reckon_238 (by decide) ?_
      exact B242 _ K159 S x2 x3 x4 x5 x6 x7 x8 x9 x10 x11 1 _ _ ls hw hP hS (lv_sub hl [0, 1, 2, 3, 4, 5, 6, 7, 8, 9, 10, 11] rfl)
  have B224 : ∀ (k159 : fw_S → Int32 → Int32 → Int32 → Int32 → Int32 → Int32 → Int32 → Int32 → Prop), (∀ (S : fw_S) (x2 : Int32) (x3 : Int32) (x4 : Int32) (x5 : Int32) (x6 : Int32) (x7 : Int32) (x8 : Int32) (x9 : Int32) (H : Heap) (locs : List Loc) (ls : Array Slot), k159 S x2 x3 x4 x5 x6 x7 x8 x9 → fw_P D CL cA layU b 245 (fw_v TK layU b S) H → va_S (fw_A b 245) s.heap H locs → lv_has ls 15 [(0, .ref (b + o)), (1, .int a1), (2, .int x2), (3, .int x3), (4, .int x4), (5, .int x5), (6, .int x6), (7, .int x7), (8, .int x8), (9, .int x9)] → W p l e (headSpec ww_M_reckon rm_M_reckon).room s m ([.ref (b + o), .int a1] : List Value).toArray below meth c H locs 0 0 (MQ below (va_Qv post (fw_B D CL cA TK layU b 245) (fw_A b 245)) ([.ref (b + o), .int a1] : List Value).toArray s 0 0 (fw_A b 245)) (F0 m 159 ls [])) → ∀ (S : fw_S) (x2 : Int32) (x3 : Int32) (x4 : Int32) (x5 : Int32) (x6 : Int32) (x7 : Int32) (x8 : Int32) (x9 : Int32) (x10 : Int32) (x11 : Int32) (p0 : Int32) (H : Heap) (locs : List Loc) (ls : Array Slot), wp_M_reckon_224 o a1 post k159 S x2 x3 x4 x5 x6 x7 x8 x9 x10 x11 p0 → fw_P D CL cA layU b 245 (fw_v TK layU b S) H → va_S (fw_A b 245) s.heap H locs → lv_has ls 15 [(0, .ref (b + o)), (1, .int a1), (2, .int x2), (3, .int x3), (4, .int x4), (5, .int x5), (6, .int x6), (7, .int x7), (8, .int x8), (9, .int x9), (10, .int x10), (11, .int x11)] → W p l e (headSpec ww_M_reckon rm_M_reckon).room s m ([.ref (b + o), .int a1] : List Value).toArray below meth c H locs 0 0 (MQ below (va_Qv post (fw_B D CL cA TK layU b 245) (fw_A b 245)) ([.ref (b + o), .int a1] : List Value).toArray s 0 0 (fw_A b 245)) (F0 m 224 ls [.int p0]) := by
      intro k159 K159 S x2 x3 x4 x5 x6 x7 x8 x9 x10 x11 p0 H locs ls hw hP hS hl
      unfold wp_M_reckon_224 at hw
      refine lv_istore hx hb dd_M_reckon_224 hl (Nat.le_of_ble_eq_true rfl) rfl (fun ls hl => ?_)
      have hl : lv_has ls 15 [(6, .int p0), (0, .ref (b + o)), (1, .int a1), (2, .int x2), (3, .int x3), (4, .int x4), (5, .int x5), (7, .int x7), (8, .int x8), (9, .int x9), (10, .int x10), (11, .int x11)] := hl
      refine lv_iload hx hb dd_M_reckon_226 (lv_at hl 7 rfl) ?_
      refine lv_if_ne (tgt := 237) hx hb dd_M_reckon_228 (by decide) (fun h1 => ?_) (fun h1 => ?_)
      · have hw := hw.1 h1
        exact B237 _ K159 S x2 x3 x4 x5 p0 x7 x8 x9 x10 x11 _ _ ls hw hP hS (lv_sub hl [1, 2, 3, 4, 5, 6, 0, 7, 8, 9, 10, 11] rfl)
      · have hw := hw.2 h1
        refine lv_iload hx hb dd_M_reckon_231 (lv_at hl 10 rfl) ?_
        refine lv_iconst (v := 1) hx hb dd_M_reckon_233 kc_ic_1 ?_
        refine lv_icmp_ne (tgt := 241) hx hb dd_M_reckon_234 (by decide) (fun h2 => ?_) (fun h2 => ?_)
        · have hw := hw.1 h2
          refine lv_iconst (v := 0) hx hb dd_M_reckon_241 kc_ic_0 ?_
          exact B242 _ K159 S x2 x3 x4 x5 p0 x7 x8 x9 x10 x11 0 _ _ ls hw hP hS (lv_sub hl [1, 2, 3, 4, 5, 6, 0, 7, 8, 9, 10, 11] rfl)
        · have hw := hw.2 h2
          exact B237 _ K159 S x2 x3 x4 x5 p0 x7 x8 x9 x10 x11 _ _ ls hw hP hS (lv_sub hl [1, 2, 3, 4, 5, 6, 0, 7, 8, 9, 10, 11] rfl)
  have B219 : ∀ (k159 : fw_S → Int32 → Int32 → Int32 → Int32 → Int32 → Int32 → Int32 → Int32 → Prop), (∀ (S : fw_S) (x2 : Int32) (x3 : Int32) (x4 : Int32) (x5 : Int32) (x6 : Int32) (x7 : Int32) (x8 : Int32) (x9 : Int32) (H : Heap) (locs : List Loc) (ls : Array Slot), k159 S x2 x3 x4 x5 x6 x7 x8 x9 → fw_P D CL cA layU b 245 (fw_v TK layU b S) H → va_S (fw_A b 245) s.heap H locs → lv_has ls 15 [(0, .ref (b + o)), (1, .int a1), (2, .int x2), (3, .int x3), (4, .int x4), (5, .int x5), (6, .int x6), (7, .int x7), (8, .int x8), (9, .int x9)] → W p l e (headSpec ww_M_reckon rm_M_reckon).room s m ([.ref (b + o), .int a1] : List Value).toArray below meth c H locs 0 0 (MQ below (va_Qv post (fw_B D CL cA TK layU b 245) (fw_A b 245)) ([.ref (b + o), .int a1] : List Value).toArray s 0 0 (fw_A b 245)) (F0 m 159 ls [])) → ∀ (S : fw_S) (x2 : Int32) (x3 : Int32) (x4 : Int32) (x5 : Int32) (x6 : Int32) (x7 : Int32) (x8 : Int32) (x9 : Int32) (x10 : Int32) (x11 : Int32) (H : Heap) (locs : List Loc) (ls : Array Slot), wp_M_reckon_219 o a1 post k159 S x2 x3 x4 x5 x6 x7 x8 x9 x10 x11 → fw_P D CL cA layU b 245 (fw_v TK layU b S) H → va_S (fw_A b 245) s.heap H locs → lv_has ls 15 [(0, .ref (b + o)), (1, .int a1), (2, .int x2), (3, .int x3), (4, .int x4), (5, .int x5), (6, .int x6), (7, .int x7), (8, .int x8), (9, .int x9), (10, .int x10), (11, .int x11)] → W p l e (headSpec ww_M_reckon rm_M_reckon).room s m ([.ref (b + o), .int a1] : List Value).toArray below meth c H locs 0 0 (MQ below (va_Qv post (fw_B D CL cA TK layU b 245) (fw_A b 245)) ([.ref (b + o), .int a1] : List Value).toArray s 0 0 (fw_A b 245)) (F0 m 219 ls []) := by
      intro k159 K159 S x2 x3 x4 x5 x6 x7 x8 x9 x10 x11 H locs ls hw hP hS hl
      unfold wp_M_reckon_219 at hw
      refine lv_iconst (v := 1) hx hb dd_M_reckon_219 kc_ic_1 ?_
      refine lv_goto (tgt := 224) hx hb dd_M_reckon_220 (by decide) ?_
      exact B224 _ K159 S x2 x3 x4 x5 x6 x7 x8 x9 x10 x11 1 _ _ ls hw hP hS (lv_sub hl [0, 1, 2, 3, 4, 5, 6, 7, 8, 9, 10, 11] rfl)
  have B358 : ∀ (k274 : fw_S → Int32 → Int32 → Int32 → Int32 → Int32 → Int32 → Int32 → Int32 → Int32 → Prop), (∀ (S : fw_S) (x2 : Int32) (x3 : Int32) (x4 : Int32) (x5 : Int32) (x6 : Int32) (x7 : Int32) (x8 : Int32) (x9 : Int32) (x10 : Int32) (H : Heap) (locs : List Loc) (ls : Array Slot), k274 S x2 x3 x4 x5 x6 x7 x8 x9 x10 → fw_P D CL cA layU b 245 (fw_v TK layU b S) H → va_S (fw_A b 245) s.heap H locs → lv_has ls 15 [(0, .ref (b + o)), (1, .int a1), (2, .int x2), (3, .int x3), (4, .int x4), (5, .int x5), (6, .int x6), (7, .int x7), (8, .int x8), (9, .int x9), (10, .int x10)] → W p l e (headSpec ww_M_reckon rm_M_reckon).room s m ([.ref (b + o), .int a1] : List Value).toArray below meth c H locs 0 0 (MQ below (va_Qv post (fw_B D CL cA TK layU b 245) (fw_A b 245)) ([.ref (b + o), .int a1] : List Value).toArray s 0 0 (fw_A b 245)) (F0 m 274 ls [])) → ∀ (k288 : fw_S → Int32 → Int32 → Int32 → Int32 → Int32 → Int32 → Int32 → Int32 → Int32 → Int32 → Int32 → Prop), (∀ (S : fw_S) (x2 : Int32) (x3 : Int32) (x4 : Int32) (x5 : Int32) (x6 : Int32) (x7 : Int32) (x8 : Int32) (x9 : Int32) (x10 : Int32) (x11 : Int32) (x12 : Int32) (H : Heap) (locs : List Loc) (ls : Array Slot), k288 S x2 x3 x4 x5 x6 x7 x8 x9 x10 x11 x12 → fw_P D CL cA layU b 245 (fw_v TK layU b S) H → va_S (fw_A b 245) s.heap H locs → lv_has ls 15 [(0, .ref (b + o)), (1, .int a1), (2, .int x2), (3, .int x3), (4, .int x4), (5, .int x5), (6, .int x6), (7, .int x7), (8, .int x8), (9, .int x9), (10, .int x10), (11, .int x11), (12, .int x12)] → W p l e (headSpec ww_M_reckon rm_M_reckon).room s m ([.ref (b + o), .int a1] : List Value).toArray below meth c H locs 0 0 (MQ below (va_Qv post (fw_B D CL cA TK layU b 245) (fw_A b 245)) ([.ref (b + o), .int a1] : List Value).toArray s 0 0 (fw_A b 245)) (F0 m 288 ls [])) → ∀ (S : fw_S) (x2 : Int32) (x3 : Int32) (x4 : Int32) (x5 : Int32) (x6 : Int32) (x7 : Int32) (x8 : Int32) (x9 : Int32) (x10 : Int32) (x11 : Int32) (x12 : Int32) (x13 : Int32) (x14 : Int32) (p0 : Int32) (H : Heap) (locs : List Loc) (ls : Array Slot), wp_M_reckon_358 o a1 post k274 k288 S x2 x3 x4 x5 x6 x7 x8 x9 x10 x11 x12 x13 x14 p0 → fw_P D CL cA layU b 245 (fw_v TK layU b S) H → va_S (fw_A b 245) s.heap H locs → lv_has ls 15 [(0, .ref (b + o)), (1, .int a1), (2, .int x2), (3, .int x3), (4, .int x4), (5, .int x5), (6, .int x6), (7, .int x7), (8, .int x8), (9, .int x9), (10, .int x10), (11, .int x11), (12, .int x12), (13, .int x13), (14, .int x14)] → W p l e (headSpec ww_M_reckon rm_M_reckon).room s m ([.ref (b + o), .int a1] : List Value).toArray below meth c H locs 0 0 (MQ below (va_Qv post (fw_B D CL cA TK layU b 245) (fw_A b 245)) ([.ref (b + o), .int a1] : List Value).toArray s 0 0 (fw_A b 245)) (F0 m 358 ls [.int p0]) := by
      intro k274 K274 k288 K288 S x2 x3 x4 x5 x6 x7 x8 x9 x10 x11 x12 x13 x14 p0 H locs ls hw hP hS hl
      unfold wp_M_reckon_358 at hw
      refine lv_istore hx hb dd_M_reckon_358 hl (Nat.le_of_ble_eq_true rfl) rfl (fun ls hl => ?_)
      have hl : lv_has ls 15 [(11, .int p0), (0, .ref (b + o)), (1, .int a1), (2, .int x2), (3, .int x3), (4, .int x4), (5, .int x5), (6, .int x6), (7, .int x7), (8, .int x8), (9, .int x9), (10, .int x10), (12, .int x12), (13, .int x13), (14, .int x14)] := hl
      obtain ⟨v1, e_v1⟩ : ∃ z : Int32, z = x12 + 1 := ⟨_, rfl⟩
      have hw := hw v1 e_v1
      refine lv_iinc hx hb dd_M_reckon_360 hl (k := 12) rfl (show x12 + Int32.ofInt 1 = v1 by rw [kc_ii_1, e_v1]) (Nat.le_of_ble_eq_true rfl) rfl (fun ls hl => ?_)
      have hl : lv_has ls 15 [(12, .int v1), (11, .int p0), (0, .ref (b + o)), (1, .int a1), (2, .int x2), (3, .int x3), (4, .int x4), (5, .int x5), (6, .int x6), (7, .int x7), (8, .int x8), (9, .int x9), (10, .int x10), (13, .int x13), (14, .int x14)] := hl
      refine lv_goto (tgt := 288) hx hb dd_M_reckon_363 (by decide) ?_
      exact K288 S x2 x3 x4 x5 x6 x7 x8 x9 x10 p0 v1 _ _ ls hw hP hS (lv_sub hl [2, 3, 4, 5, 6, 7, 8, 9, 10, 11, 12, 1, 0] rfl)
  have B325 : ∀ (k274 : fw_S → Int32 → Int32 → Int32 → Int32 → Int32 → Int32 → Int32 → Int32 → Int32 → Prop), (∀ (S : fw_S) (x2 : Int32) (x3 : Int32) (x4 : Int32) (x5 : Int32) (x6 : Int32) (x7 : Int32) (x8 : Int32) (x9 : Int32) (x10 : Int32) (H : Heap) (locs : List Loc) (ls : Array Slot), k274 S x2 x3 x4 x5 x6 x7 x8 x9 x10 → fw_P D CL cA layU b 245 (fw_v TK layU b S) H → va_S (fw_A b 245) s.heap H locs → lv_has ls 15 [(0, .ref (b + o)), (1, .int a1), (2, .int x2), (3, .int x3), (4, .int x4), (5, .int x5), (6, .int x6), (7, .int x7), (8, .int x8), (9, .int x9), (10, .int x10)] → W p l e (headSpec ww_M_reckon rm_M_reckon).room s m ([.ref (b + o), .int a1] : List Value).toArray below meth c H locs 0 0 (MQ below (va_Qv post (fw_B D CL cA TK layU b 245) (fw_A b 245)) ([.ref (b + o), .int a1] : List Value).toArray s 0 0 (fw_A b 245)) (F0 m 274 ls [])) → ∀ (k288 : fw_S → Int32 → Int32 → Int32 → Int32 → Int32 → Int32 → Int32 → Int32 → Int32 → Int32 → Int32 → Prop), (∀ (S : fw_S) (x2 : Int32) (x3 : Int32) (x4 : Int32) (x5 : Int32) (x6 : Int32) (x7 : Int32) (x8 : Int32) (x9 : Int32) (x10 : Int32) (x11 : Int32) (x12 : Int32) (H : Heap) (locs : List Loc) (ls : Array Slot), k288 S x2 x3 x4 x5 x6 x7 x8 x9 x10 x11 x12 → fw_P D CL cA layU b 245 (fw_v TK layU b S) H → va_S (fw_A b 245) s.heap H locs → lv_has ls 15 [(0, .ref (b + o)), (1, .int a1), (2, .int x2), (3, .int x3), (4, .int x4), (5, .int x5), (6, .int x6), (7, .int x7), (8, .int x8), (9, .int x9), (10, .int x10), (11, .int x11), (12, .int x12)] → W p l e (headSpec ww_M_reckon rm_M_reckon).room s m ([.ref (b + o), .int a1] : List Value).toArray below meth c H locs 0 0 (MQ below (va_Qv post (fw_B D CL cA TK layU b 245) (fw_A b 245)) ([.ref (b + o), .int a1] : List Value).toArray s 0 0 (fw_A b 245)) (F0 m 288 ls [])) → ∀ (S : fw_S) (x2 : Int32) (x3 : Int32) (x4 : Int32) (x5 : Int32) (x6 : Int32) (x7 : Int32) (x8 : Int32) (x9 : Int32) (x10 : Int32) (x11 : Int32) (x12 : Int32) (x13 : Int32) (p0 : Int32) (H : Heap) (locs : List Loc) (ls : Array Slot), wp_M_reckon_325 o a1 post k274 k288 S x2 x3 x4 x5 x6 x7 x8 x9 x10 x11 x12 x13 p0 → fw_P D CL cA layU b 245 (fw_v TK layU b S) H → va_S (fw_A b 245) s.heap H locs → lv_has ls 15 [(0, .ref (b + o)), (1, .int a1), (2, .int x2), (3, .int x3), (4, .int x4), (5, .int x5), (6, .int x6), (7, .int x7), (8, .int x8), (9, .int x9), (10, .int x10), (11, .int x11), (12, .int x12), (13, .int x13)] → W p l e (headSpec ww_M_reckon rm_M_reckon).room s m ([.ref (b + o), .int a1] : List Value).toArray below meth c H locs 0 0 (MQ below (va_Qv post (fw_B D CL cA TK layU b 245) (fw_A b 245)) ([.ref (b + o), .int a1] : List Value).toArray s 0 0 (fw_A b 245)) (F0 m 325 ls [.int p0]) := by
      intro k274 K274 k288 K288 S x2 x3 x4 x5 x6 x7 x8 x9 x10 x11 x12 x13 p0 H locs ls hw hP hS hl
      unfold wp_M_reckon_325 at hw
      refine lv_istore hx hb dd_M_reckon_325 hl (Nat.le_of_ble_eq_true rfl) rfl (fun ls hl => ?_)
      have hl : lv_has ls 15 [(14, .int p0), (0, .ref (b + o)), (1, .int a1), (2, .int x2), (3, .int x3), (4, .int x4), (5, .int x5), (6, .int x6), (7, .int x7), (8, .int x8), (9, .int x9), (10, .int x10), (11, .int x11), (12, .int x12), (13, .int x13)] := hl
      refine lv_iload hx hb dd_M_reckon_327 (lv_at hl 0 rfl) ?_
      refine lv_if_eq (tgt := 356) hx hb dd_M_reckon_329 (by decide) (fun h1 => ?_) (fun h1 => ?_)
      · have hw := hw.1 h1
        refine lv_iload hx hb dd_M_reckon_356 (lv_at hl 12 rfl) ?_
        exact B358 _ K274 _ K288 S x2 x3 x4 x5 x6 x7 x8 x9 x10 x11 x12 x13 p0 x11 _ _ ls hw hP hS (lv_sub hl [1, 2, 3, 4, 5, 6, 7, 8, 9, 10, 11, 12, 13, 14, 0] rfl)
      · have hw := hw.2 h1
        refine lv_iload hx hb dd_M_reckon_332 (lv_at hl 12 rfl) ?_
        refine lv_aload_n hx hb dd_M_reckon_334 rfl (lv_at hl 1 rfl) ?_
        refine lv_iload hx hb dd_M_reckon_335 (lv_at hl 14 rfl) ?_
        refine fw_calli (va_runV (As := [.int x13]) (rest := [.int x11]) ⟨hx, hb, hml, hown, hts⟩ (mt_M_wantsNow l D cA b S o x13 ho _ hw) (cwV 1 hts (fw_gV tw_1039 tw_1036 tw_1038 ts_29 tw_11) rfl rfl rfl (by decide +kernel) ⟨Nat.le_of_ble_eq_true rfl, Nat.le_of_ble_eq_true rfl⟩) (fw_preV hP hK ho (by decide) rfl) rfl rfl hl.1 rfl (lv_room (Nat.le_of_ble_eq_true rfl)) dd_M_reckon_337 ⟨Nat.le_of_ble_eq_true rfl, Nat.le_of_ble_eq_true rfl⟩) hS (fun S2 r3 H locs hw hP hS => ?_)
        try dsimp only at hw
        refine lv_aload_n hx hb dd_M_reckon_340 rfl (lv_at hl 1 rfl) ?_
        refine fw_getr hx hb hts in_10 hown hK hP ho (by decide) rfl 23 (by decide) (hts _ (tb_in tw_804)) tk_10_23 dd_M_reckon_341 ?_
        refine lv_iload hx hb dd_M_reckon_344 (lv_at hl 14 rfl) ?_
        obtain ⟨h4, hw⟩ := hw
        refine fw_iald hx hb hK hP (lf_10_23 ho) (by decide) 0 rfl tka_100 h4 dd_M_reckon_346 ?_
        refine lv_iload hx hb dd_M_reckon_347 (lv_at hl 11 rfl) ?_
        refine fw_calli (va_runS (As := [.int r3, .int (S2.1 (o + 20) x13.toNatClampNeg), .int x10]) (rest := [.int x11]) ⟨hx, hb, hml, hown, hts⟩ (mt_M_share l D cA b S2 r3 (S2.1 (o + 20) x13.toNatClampNeg) x10 _ hw) (cwS 3 hts (fw_gS tw_1042 tw_1040 tw_1041 tw_11) rfl rfl rfl (by decide +kernel) ⟨Nat.le_of_ble_eq_true rfl, Nat.le_of_ble_eq_true rfl⟩) (fw_preS hP hK) rfl rfl hl.1 rfl (lv_room (Nat.le_of_ble_eq_true rfl)) dd_M_reckon_349 ⟨Nat.le_of_ble_eq_true rfl, Nat.le_of_ble_eq_true rfl⟩) hS (fun S5 r6 H locs hw hP hS => ?_)
        try dsimp only at hw
        refine lv_iadd hx hb dd_M_reckon_352 ?_
        refine lv_goto (tgt := 358) hx hb dd_M_reckon_353 (by decide) ?_
        exact B358 _ K274 _ K288 S5 x2 x3 x4 x5 x6 x7 x8 x9 x10 x11 x12 x13 p0 (x11 + r6) _ _ ls hw hP hS (lv_sub hl [1, 2, 3, 4, 5, 6, 7, 8, 9, 10, 11, 12, 13, 14, 0] rfl)
  have B379 : ∀ (k274 : fw_S → Int32 → Int32 → Int32 → Int32 → Int32 → Int32 → Int32 → Int32 → Int32 → Prop), (∀ (S : fw_S) (x2 : Int32) (x3 : Int32) (x4 : Int32) (x5 : Int32) (x6 : Int32) (x7 : Int32) (x8 : Int32) (x9 : Int32) (x10 : Int32) (H : Heap) (locs : List Loc) (ls : Array Slot), k274 S x2 x3 x4 x5 x6 x7 x8 x9 x10 → fw_P D CL cA layU b 245 (fw_v TK layU b S) H → va_S (fw_A b 245) s.heap H locs → lv_has ls 15 [(0, .ref (b + o)), (1, .int a1), (2, .int x2), (3, .int x3), (4, .int x4), (5, .int x5), (6, .int x6), (7, .int x7), (8, .int x8), (9, .int x9), (10, .int x10)] → W p l e (headSpec ww_M_reckon rm_M_reckon).room s m ([.ref (b + o), .int a1] : List Value).toArray below meth c H locs 0 0 (MQ below (va_Qv post (fw_B D CL cA TK layU b 245) (fw_A b 245)) ([.ref (b + o), .int a1] : List Value).toArray s 0 0 (fw_A b 245)) (F0 m 274 ls [])) → ∀ (S : fw_S) (x2 : Int32) (x3 : Int32) (x4 : Int32) (x5 : Int32) (x6 : Int32) (x7 : Int32) (x8 : Int32) (x9 : Int32) (x10 : Int32) (x11 : Int32) (x12 : Int32) (p0 : Int32) (H : Heap) (locs : List Loc) (ls : Array Slot), wp_M_reckon_379 o a1 post k274 S x2 x3 x4 x5 x6 x7 x8 x9 x10 x11 x12 p0 → fw_P D CL cA layU b 245 (fw_v TK layU b S) H → va_S (fw_A b 245) s.heap H locs → lv_has ls 15 [(0, .ref (b + o)), (1, .int a1), (2, .int x2), (3, .int x3), (4, .int x4), (5, .int x5), (6, .int x6), (7, .int x7), (8, .int x8), (9, .int x9), (10, .int x10), (11, .int x11), (12, .int x12)] → W p l e (headSpec ww_M_reckon rm_M_reckon).room s m ([.ref (b + o), .int a1] : List Value).toArray below meth c H locs 0 0 (MQ below (va_Qv post (fw_B D CL cA TK layU b 245) (fw_A b 245)) ([.ref (b + o), .int a1] : List Value).toArray s 0 0 (fw_A b 245)) (F0 m 379 ls [.int p0]) := by
      intro k274 K274 S x2 x3 x4 x5 x6 x7 x8 x9 x10 x11 x12 p0 H locs ls hw hP hS hl
      unfold wp_M_reckon_379 at hw
      refine lv_istore hx hb dd_M_reckon_379 hl (Nat.le_of_ble_eq_true rfl) rfl (fun ls hl => ?_)
      have hl : lv_has ls 15 [(9, .int p0), (0, .ref (b + o)), (1, .int a1), (2, .int x2), (3, .int x3), (4, .int x4), (5, .int x5), (6, .int x6), (7, .int x7), (8, .int x8), (10, .int x10), (11, .int x11), (12, .int x12)] := hl
      obtain ⟨v1, e_v1⟩ : ∃ z : Int32, z = x10 + 1 := ⟨_, rfl⟩
      have hw := hw v1 e_v1
      refine lv_iinc hx hb dd_M_reckon_381 hl (k := 10) rfl (show x10 + Int32.ofInt 1 = v1 by rw [kc_ii_1, e_v1]) (Nat.le_of_ble_eq_true rfl) rfl (fun ls hl => ?_)
      have hl : lv_has ls 15 [(10, .int v1), (9, .int p0), (0, .ref (b + o)), (1, .int a1), (2, .int x2), (3, .int x3), (4, .int x4), (5, .int x5), (6, .int x6), (7, .int x7), (8, .int x8), (11, .int x11), (12, .int x12)] := hl
      refine lv_goto (tgt := 274) hx hb dd_M_reckon_384 (by decide) ?_
      exact K274 S x2 x3 x4 x5 x6 x7 x8 p0 v1 _ _ ls hw hP hS (lv_sub hl [2, 3, 4, 5, 6, 7, 8, 9, 10, 1, 0] rfl)
  have B288 : ∀ (k274 : fw_S → Int32 → Int32 → Int32 → Int32 → Int32 → Int32 → Int32 → Int32 → Int32 → Prop), (∀ (S : fw_S) (x2 : Int32) (x3 : Int32) (x4 : Int32) (x5 : Int32) (x6 : Int32) (x7 : Int32) (x8 : Int32) (x9 : Int32) (x10 : Int32) (H : Heap) (locs : List Loc) (ls : Array Slot), k274 S x2 x3 x4 x5 x6 x7 x8 x9 x10 → fw_P D CL cA layU b 245 (fw_v TK layU b S) H → va_S (fw_A b 245) s.heap H locs → lv_has ls 15 [(0, .ref (b + o)), (1, .int a1), (2, .int x2), (3, .int x3), (4, .int x4), (5, .int x5), (6, .int x6), (7, .int x7), (8, .int x8), (9, .int x9), (10, .int x10)] → W p l e (headSpec ww_M_reckon rm_M_reckon).room s m ([.ref (b + o), .int a1] : List Value).toArray below meth c H locs 0 0 (MQ below (va_Qv post (fw_B D CL cA TK layU b 245) (fw_A b 245)) ([.ref (b + o), .int a1] : List Value).toArray s 0 0 (fw_A b 245)) (F0 m 274 ls [])) → ∀ f : Nat, ∀ (S : fw_S) (x2 : Int32) (x3 : Int32) (x4 : Int32) (x5 : Int32) (x6 : Int32) (x7 : Int32) (x8 : Int32) (x9 : Int32) (x10 : Int32) (x11 : Int32) (x12 : Int32) (H : Heap) (locs : List Loc) (ls : Array Slot), wp_M_reckon_288 o a1 post k274 f S x2 x3 x4 x5 x6 x7 x8 x9 x10 x11 x12 → fw_P D CL cA layU b 245 (fw_v TK layU b S) H → va_S (fw_A b 245) s.heap H locs → lv_has ls 15 [(0, .ref (b + o)), (1, .int a1), (2, .int x2), (3, .int x3), (4, .int x4), (5, .int x5), (6, .int x6), (7, .int x7), (8, .int x8), (9, .int x9), (10, .int x10), (11, .int x11), (12, .int x12)] → W p l e (headSpec ww_M_reckon rm_M_reckon).room s m ([.ref (b + o), .int a1] : List Value).toArray below meth c H locs 0 0 (MQ below (va_Qv post (fw_B D CL cA TK layU b 245) (fw_A b 245)) ([.ref (b + o), .int a1] : List Value).toArray s 0 0 (fw_A b 245)) (F0 m 288 ls []) := by
    intro k274 K274 f
    induction f with
    | zero => intro S x2 x3 x4 x5 x6 x7 x8 x9 x10 x11 x12 H locs ls hw; exact False.elim hw
    | succ f ih =>
        intro S x2 x3 x4 x5 x6 x7 x8 x9 x10 x11 x12 H locs ls hw hP hS hl
        unfold wp_M_reckon_288 at hw
        refine lv_iload hx hb dd_M_reckon_288 (lv_at hl 12 rfl) ?_
        refine lv_iconst (v := 3) hx hb dd_M_reckon_290 kc_ic_3 ?_
        refine lv_icmp_ge (tgt := 366) hx hb dd_M_reckon_291 (by decide) (fun h1 => ?_) (fun h1 => ?_)
        · have hw := hw.1 h1
          refine lv_iload hx hb dd_M_reckon_366 (lv_at hl 11 rfl) ?_
          refine lv_iload_n hx hb dd_M_reckon_368 rfl (lv_at hl 3 rfl) ?_
          refine lv_icmp_gt (tgt := 377) hx hb dd_M_reckon_369 (by decide) (fun h2 => ?_) (fun h2 => ?_)
          · have hw := hw.1 h2
            refine lv_iload hx hb dd_M_reckon_377 (lv_at hl 9 rfl) ?_
            exact B379 _ K274 S x2 x3 x4 x5 x6 x7 x8 x9 x10 x11 x12 x9 _ _ ls hw hP hS (lv_sub hl [0, 1, 2, 3, 4, 5, 6, 7, 8, 9, 10, 11, 12] rfl)
          · have hw := hw.2 h2
            refine lv_iload hx hb dd_M_reckon_372 (lv_at hl 10 rfl) ?_
            refine lv_goto (tgt := 379) hx hb dd_M_reckon_374 (by decide) ?_
            exact B379 _ K274 S x2 x3 x4 x5 x6 x7 x8 x9 x10 x11 x12 x10 _ _ ls hw hP hS (lv_sub hl [0, 1, 2, 3, 4, 5, 6, 7, 8, 9, 10, 11, 12] rfl)
        · have hw := hw.2 h1
          refine lv_iload_n hx hb dd_M_reckon_294 rfl (lv_at hl 1 rfl) ?_
          refine lv_iconst (v := 2) hx hb dd_M_reckon_295 kc_ic_2 ?_
          refine lv_iload hx hb dd_M_reckon_296 (lv_at hl 12 rfl) ?_
          refine lv_imul hx hb dd_M_reckon_298 ?_
          refine lv_iadd hx hb dd_M_reckon_299 ?_
          refine lv_topi (fun v3 e_v3 => ?_)
          have hw := hw v3 e_v3
          refine lv_istore hx hb dd_M_reckon_300 hl (Nat.le_of_ble_eq_true rfl) rfl (fun ls hl => ?_)
          have hl : lv_has ls 15 [(13, .int v3), (0, .ref (b + o)), (1, .int a1), (2, .int x2), (3, .int x3), (4, .int x4), (5, .int x5), (6, .int x6), (7, .int x7), (8, .int x8), (9, .int x9), (10, .int x10), (11, .int x11), (12, .int x12)] := hl
          refine lv_iload hx hb dd_M_reckon_302 (lv_at hl 13 rfl) ?_
          refine lv_if_ne (tgt := 312) hx hb dd_M_reckon_304 (by decide) (fun h4 => ?_) (fun h4 => ?_)
          · have hw := hw.1 h4
            refine lv_iload hx hb dd_M_reckon_312 (lv_at hl 13 rfl) ?_
            refine lv_iconst (v := 1) hx hb dd_M_reckon_314 kc_ic_1 ?_
            refine lv_icmp_ne (tgt := 323) hx hb dd_M_reckon_315 (by decide) (fun h5 => ?_) (fun h5 => ?_)
            · have hw := hw.1 h5
              refine lv_iload hx hb dd_M_reckon_323 (lv_at hl 9 rfl) ?_
              exact B325 _ K274 _ ih S x2 x3 x4 x5 x6 x7 x8 x9 x10 x11 x12 v3 x8 _ _ ls hw hP hS (lv_sub hl [1, 2, 3, 4, 5, 6, 7, 8, 9, 10, 11, 12, 13, 0] rfl)
            · have hw := hw.2 h5
              refine lv_iload hx hb dd_M_reckon_318 (lv_at hl 8 rfl) ?_
              refine lv_goto (tgt := 325) hx hb dd_M_reckon_320 (by decide) ?_
              exact B325 _ K274 _ ih S x2 x3 x4 x5 x6 x7 x8 x9 x10 x11 x12 v3 x7 _ _ ls hw hP hS (lv_sub hl [1, 2, 3, 4, 5, 6, 7, 8, 9, 10, 11, 12, 13, 0] rfl)
          · have hw := hw.2 h4
            refine lv_iload hx hb dd_M_reckon_307 (lv_at hl 7 rfl) ?_
            refine lv_goto (tgt := 325) hx hb dd_M_reckon_309 (by decide) ?_
            exact B325 _ K274 _ ih S x2 x3 x4 x5 x6 x7 x8 x9 x10 x11 x12 v3 x6 _ _ ls hw hP hS (lv_sub hl [1, 2, 3, 4, 5, 6, 7, 8, 9, 10, 11, 12, 13, 0] rfl)
  have B468 : ∀ (k390 : fw_S → Int32 → Int32 → Int32 → Int32 → Int32 → Int32 → Int32 → Int32 → Int32 → Prop), (∀ (S : fw_S) (x2 : Int32) (x3 : Int32) (x4 : Int32) (x5 : Int32) (x6 : Int32) (x7 : Int32) (x8 : Int32) (x9 : Int32) (x10 : Int32) (H : Heap) (locs : List Loc) (ls : Array Slot), k390 S x2 x3 x4 x5 x6 x7 x8 x9 x10 → fw_P D CL cA layU b 245 (fw_v TK layU b S) H → va_S (fw_A b 245) s.heap H locs → lv_has ls 15 [(0, .ref (b + o)), (1, .int a1), (2, .int x2), (3, .int x3), (4, .int x4), (5, .int x5), (6, .int x6), (7, .int x7), (8, .int x8), (9, .int x9), (10, .int x10)] → W p l e (headSpec ww_M_reckon rm_M_reckon).room s m ([.ref (b + o), .int a1] : List Value).toArray below meth c H locs 0 0 (MQ below (va_Qv post (fw_B D CL cA TK layU b 245) (fw_A b 245)) ([.ref (b + o), .int a1] : List Value).toArray s 0 0 (fw_A b 245)) (F0 m 390 ls [])) → ∀ (S : fw_S) (x2 : Int32) (x3 : Int32) (x4 : Int32) (x5 : Int32) (x6 : Int32) (x7 : Int32) (x8 : Int32) (x9 : Int32) (x10 : Int32) (x11 : Int32) (x12 : Int32) (p0 : Int32) (p1 : Int32) (H : Heap) (locs : List Loc) (ls : Array Slot), wp_M_reckon_468 o a1 post k390 S x2 x3 x4 x5 x6 x7 x8 x9 x10 x11 x12 p0 p1 → fw_P D CL cA layU b 245 (fw_v TK layU b S) H → va_S (fw_A b 245) s.heap H locs → lv_has ls 15 [(0, .ref (b + o)), (1, .int a1), (2, .int x2), (3, .int x3), (4, .int x4), (5, .int x5), (6, .int x6), (7, .int x7), (8, .int x8), (9, .int x9), (10, .int x10), (11, .int x11), (12, .int x12)] → W p l e (headSpec ww_M_reckon rm_M_reckon).room s m ([.ref (b + o), .int a1] : List Value).toArray below meth c H locs 0 0 (MQ below (va_Qv post (fw_B D CL cA TK layU b 245) (fw_A b 245)) ([.ref (b + o), .int a1] : List Value).toArray s 0 0 (fw_A b 245)) (F0 m 468 ls [.int p0, .int p1, .ref (b + (o + 34))]) := by
      intro k390 K390 S x2 x3 x4 x5 x6 x7 x8 x9 x10 x11 x12 p0 p1 H locs ls hw hP hS hl
      unfold wp_M_reckon_468 at hw
      obtain ⟨h1, hw⟩ := hw
      refine fw_iast hx hb hK hP hS (fw_A.in (lf_10_38 ho).1) (lf_10_38 ho) (by decide) 0 rfl tka_100 h1 dd_M_reckon_468 (fun H locs hP hS => ?_)
      obtain ⟨S2, e_S2⟩ : ∃ z, z = fw_si S (o + 34) p1.toNatClampNeg p0 := ⟨_, rfl⟩
      rw [← e_S2] at hP
      have hw := hw S2 e_S2
      obtain ⟨v3, e_v3⟩ : ∃ z : Int32, z = x10 + 1 := ⟨_, rfl⟩
      have hw := hw v3 e_v3
      refine lv_iinc hx hb dd_M_reckon_469 hl (k := 10) rfl (show x10 + Int32.ofInt 1 = v3 by rw [kc_ii_1, e_v3]) (Nat.le_of_ble_eq_true rfl) rfl (fun ls hl => ?_)
      have hl : lv_has ls 15 [(10, .int v3), (0, .ref (b + o)), (1, .int a1), (2, .int x2), (3, .int x3), (4, .int x4), (5, .int x5), (6, .int x6), (7, .int x7), (8, .int x8), (9, .int x9), (11, .int x11), (12, .int x12)] := hl
      refine lv_goto (tgt := 390) hx hb dd_M_reckon_472 (by decide) ?_
      exact K390 S2 x2 x3 x4 x5 x6 x7 x8 x9 v3 _ _ ls hw hP hS (lv_sub hl [1, 2, 3, 4, 5, 6, 7, 8, 9, 10, 0] rfl)
  have B427 : ∀ (k390 : fw_S → Int32 → Int32 → Int32 → Int32 → Int32 → Int32 → Int32 → Int32 → Int32 → Prop), (∀ (S : fw_S) (x2 : Int32) (x3 : Int32) (x4 : Int32) (x5 : Int32) (x6 : Int32) (x7 : Int32) (x8 : Int32) (x9 : Int32) (x10 : Int32) (H : Heap) (locs : List Loc) (ls : Array Slot), k390 S x2 x3 x4 x5 x6 x7 x8 x9 x10 → fw_P D CL cA layU b 245 (fw_v TK layU b S) H → va_S (fw_A b 245) s.heap H locs → lv_has ls 15 [(0, .ref (b + o)), (1, .int a1), (2, .int x2), (3, .int x3), (4, .int x4), (5, .int x5), (6, .int x6), (7, .int x7), (8, .int x8), (9, .int x9), (10, .int x10)] → W p l e (headSpec ww_M_reckon rm_M_reckon).room s m ([.ref (b + o), .int a1] : List Value).toArray below meth c H locs 0 0 (MQ below (va_Qv post (fw_B D CL cA TK layU b 245) (fw_A b 245)) ([.ref (b + o), .int a1] : List Value).toArray s 0 0 (fw_A b 245)) (F0 m 390 ls [])) → ∀ (S : fw_S) (x2 : Int32) (x3 : Int32) (x4 : Int32) (x5 : Int32) (x6 : Int32) (x7 : Int32) (x8 : Int32) (x9 : Int32) (x10 : Int32) (x11 : Int32) (p0 : Int32) (H : Heap) (locs : List Loc) (ls : Array Slot), wp_M_reckon_427 o a1 post k390 S x2 x3 x4 x5 x6 x7 x8 x9 x10 x11 p0 → fw_P D CL cA layU b 245 (fw_v TK layU b S) H → va_S (fw_A b 245) s.heap H locs → lv_has ls 15 [(0, .ref (b + o)), (1, .int a1), (2, .int x2), (3, .int x3), (4, .int x4), (5, .int x5), (6, .int x6), (7, .int x7), (8, .int x8), (9, .int x9), (10, .int x10), (11, .int x11)] → W p l e (headSpec ww_M_reckon rm_M_reckon).room s m ([.ref (b + o), .int a1] : List Value).toArray below meth c H locs 0 0 (MQ below (va_Qv post (fw_B D CL cA TK layU b 245) (fw_A b 245)) ([.ref (b + o), .int a1] : List Value).toArray s 0 0 (fw_A b 245)) (F0 m 427 ls [.int p0]) := by
      intro k390 K390 S x2 x3 x4 x5 x6 x7 x8 x9 x10 x11 p0 H locs ls hw hP hS hl
      unfold wp_M_reckon_427 at hw
      refine lv_istore hx hb dd_M_reckon_427 hl (Nat.le_of_ble_eq_true rfl) rfl (fun ls hl => ?_)
      have hl : lv_has ls 15 [(12, .int p0), (0, .ref (b + o)), (1, .int a1), (2, .int x2), (3, .int x3), (4, .int x4), (5, .int x5), (6, .int x6), (7, .int x7), (8, .int x8), (9, .int x9), (10, .int x10), (11, .int x11)] := hl
      refine lv_aload_n hx hb dd_M_reckon_429 rfl (lv_at hl 1 rfl) ?_
      refine fw_getr hx hb hts in_10 hown hK hP ho (by decide) rfl 38 (by decide) (hts _ (tb_in tw_819)) tk_10_38 dd_M_reckon_430 ?_
      refine lv_iload hx hb dd_M_reckon_433 (lv_at hl 12 rfl) ?_
      refine lv_iload hx hb dd_M_reckon_435 (lv_at hl 0 rfl) ?_
      refine lv_if_eq (tgt := 461) hx hb dd_M_reckon_437 (by decide) (fun h1 => ?_) (fun h1 => ?_)
      · have hw := hw.1 h1
        refine lv_aload_n hx hb dd_M_reckon_461 rfl (lv_at hl 1 rfl) ?_
        refine fw_getr hx hb hts in_10 hown hK hP ho (by decide) rfl 38 (by decide) (hts _ (tb_in tw_819)) tk_10_38 dd_M_reckon_462 ?_
        refine lv_iload hx hb dd_M_reckon_465 (lv_at hl 12 rfl) ?_
        obtain ⟨h2, hw⟩ := hw
        refine fw_iald hx hb hK hP (lf_10_38 ho) (by decide) 0 rfl tka_100 h2 dd_M_reckon_467 ?_
        exact B468 _ K390 S x2 x3 x4 x5 x6 x7 x8 x9 x10 x11 p0 (S.1 (o + 34) x11.toNatClampNeg) x11 _ _ ls hw hP hS (lv_sub hl [1, 2, 3, 4, 5, 6, 7, 8, 9, 10, 11, 12, 0] rfl)
      · have hw := hw.2 h1
        refine lv_aload_n hx hb dd_M_reckon_440 rfl (lv_at hl 1 rfl) ?_
        refine lv_iload hx hb dd_M_reckon_441 (lv_at hl 12 rfl) ?_
        refine fw_calli (va_runV (As := [.int x11]) (rest := [.int x11, .ref (b + (o + 34))]) ⟨hx, hb, hml, hown, hts⟩ (mt_M_wantsNow l D cA b S o x11 ho _ hw) (cwV 1 hts (fw_gV tw_1039 tw_1036 tw_1038 ts_29 tw_11) rfl rfl rfl (by decide +kernel) ⟨Nat.le_of_ble_eq_true rfl, Nat.le_of_ble_eq_true rfl⟩) (fw_preV hP hK ho (by decide) rfl) rfl rfl hl.1 rfl (lv_room (Nat.le_of_ble_eq_true rfl)) dd_M_reckon_443 ⟨Nat.le_of_ble_eq_true rfl, Nat.le_of_ble_eq_true rfl⟩) hS (fun S3 r4 H locs hw hP hS => ?_)
        try dsimp only at hw
        refine lv_aload_n hx hb dd_M_reckon_446 rfl (lv_at hl 1 rfl) ?_
        refine fw_getr hx hb hts in_10 hown hK hP ho (by decide) rfl 23 (by decide) (hts _ (tb_in tw_804)) tk_10_23 dd_M_reckon_447 ?_
        refine lv_iload hx hb dd_M_reckon_450 (lv_at hl 12 rfl) ?_
        obtain ⟨h5, hw⟩ := hw
        refine fw_iald hx hb hK hP (lf_10_23 ho) (by decide) 0 rfl tka_100 h5 dd_M_reckon_452 ?_
        refine lv_iload hx hb dd_M_reckon_453 (lv_at hl 10 rfl) ?_
        refine fw_calli (va_runS (As := [.int r4, .int (S3.1 (o + 20) x11.toNatClampNeg), .int x9]) (rest := [.int x11, .ref (b + (o + 34))]) ⟨hx, hb, hml, hown, hts⟩ (mt_M_share l D cA b S3 r4 (S3.1 (o + 20) x11.toNatClampNeg) x9 _ hw) (cwS 3 hts (fw_gS tw_1042 tw_1040 tw_1041 tw_11) rfl rfl rfl (by decide +kernel) ⟨Nat.le_of_ble_eq_true rfl, Nat.le_of_ble_eq_true rfl⟩) (fw_preS hP hK) rfl rfl hl.1 rfl (lv_room (Nat.le_of_ble_eq_true rfl)) dd_M_reckon_455 ⟨Nat.le_of_ble_eq_true rfl, Nat.le_of_ble_eq_true rfl⟩) hS (fun S6 r7 H locs hw hP hS => ?_)
        try dsimp only at hw
        refine lv_goto (tgt := 468) hx hb dd_M_reckon_458 (by decide) ?_
        exact B468 _ K390 S6 x2 x3 x4 x5 x6 x7 x8 x9 x10 x11 p0 r7 x11 _ _ ls hw hP hS (lv_sub hl [1, 2, 3, 4, 5, 6, 7, 8, 9, 10, 11, 12, 0] rfl)
  have B390 : ∀ f : Nat, ∀ (S : fw_S) (x2 : Int32) (x3 : Int32) (x4 : Int32) (x5 : Int32) (x6 : Int32) (x7 : Int32) (x8 : Int32) (x9 : Int32) (x10 : Int32) (H : Heap) (locs : List Loc) (ls : Array Slot), wp_M_reckon_390 o a1 post f S x2 x3 x4 x5 x6 x7 x8 x9 x10 → fw_P D CL cA layU b 245 (fw_v TK layU b S) H → va_S (fw_A b 245) s.heap H locs → lv_has ls 15 [(0, .ref (b + o)), (1, .int a1), (2, .int x2), (3, .int x3), (4, .int x4), (5, .int x5), (6, .int x6), (7, .int x7), (8, .int x8), (9, .int x9), (10, .int x10)] → W p l e (headSpec ww_M_reckon rm_M_reckon).room s m ([.ref (b + o), .int a1] : List Value).toArray below meth c H locs 0 0 (MQ below (va_Qv post (fw_B D CL cA TK layU b 245) (fw_A b 245)) ([.ref (b + o), .int a1] : List Value).toArray s 0 0 (fw_A b 245)) (F0 m 390 ls []) := by
    intro f
    induction f with
    | zero => intro S x2 x3 x4 x5 x6 x7 x8 x9 x10 H locs ls hw; exact False.elim hw
    | succ f ih =>
        intro S x2 x3 x4 x5 x6 x7 x8 x9 x10 H locs ls hw hP hS hl
        unfold wp_M_reckon_390 at hw
        refine lv_iload hx hb dd_M_reckon_390 (lv_at hl 10 rfl) ?_
        refine lv_iconst (v := 3) hx hb dd_M_reckon_392 kc_ic_3 ?_
        refine lv_icmp_ge (tgt := 475) hx hb dd_M_reckon_393 (by decide) (fun h1 => ?_) (fun h1 => ?_)
        · have hw := hw.1 h1
          exact W.vret hx hb hr (fun t ht hW => ⟨⟨_, rfl, hw, fw_Bof ht hP⟩, hS.F ht⟩) hS.2.2 dd_M_reckon_475
        · have hw := hw.2 h1
          refine lv_iload_n hx hb dd_M_reckon_396 rfl (lv_at hl 1 rfl) ?_
          refine lv_iconst (v := 2) hx hb dd_M_reckon_397 kc_ic_2 ?_
          refine lv_iload hx hb dd_M_reckon_398 (lv_at hl 10 rfl) ?_
          refine lv_imul hx hb dd_M_reckon_400 ?_
          refine lv_iadd hx hb dd_M_reckon_401 ?_
          refine lv_topi (fun v2 e_v2 => ?_)
          have hw := hw v2 e_v2
          refine lv_istore hx hb dd_M_reckon_402 hl (Nat.le_of_ble_eq_true rfl) rfl (fun ls hl => ?_)
          have hl : lv_has ls 15 [(11, .int v2), (0, .ref (b + o)), (1, .int a1), (2, .int x2), (3, .int x3), (4, .int x4), (5, .int x5), (6, .int x6), (7, .int x7), (8, .int x8), (9, .int x9), (10, .int x10)] := hl
          refine lv_iload hx hb dd_M_reckon_404 (lv_at hl 11 rfl) ?_
          refine lv_if_ne (tgt := 414) hx hb dd_M_reckon_406 (by decide) (fun h3 => ?_) (fun h3 => ?_)
          · have hw := hw.1 h3
            refine lv_iload hx hb dd_M_reckon_414 (lv_at hl 11 rfl) ?_
            refine lv_iconst (v := 1) hx hb dd_M_reckon_416 kc_ic_1 ?_
            refine lv_icmp_ne (tgt := 425) hx hb dd_M_reckon_417 (by decide) (fun h4 => ?_) (fun h4 => ?_)
            · have hw := hw.1 h4
              refine lv_iload hx hb dd_M_reckon_425 (lv_at hl 9 rfl) ?_
              exact B427 _ ih S x2 x3 x4 x5 x6 x7 x8 x9 x10 v2 x8 _ _ ls hw hP hS (lv_sub hl [1, 2, 3, 4, 5, 6, 7, 8, 9, 10, 11, 0] rfl)
            · have hw := hw.2 h4
              refine lv_iload hx hb dd_M_reckon_420 (lv_at hl 8 rfl) ?_
              refine lv_goto (tgt := 427) hx hb dd_M_reckon_422 (by decide) ?_
              exact B427 _ ih S x2 x3 x4 x5 x6 x7 x8 x9 x10 v2 x7 _ _ ls hw hP hS (lv_sub hl [1, 2, 3, 4, 5, 6, 7, 8, 9, 10, 11, 0] rfl)
          · have hw := hw.2 h3
            refine lv_iload hx hb dd_M_reckon_409 (lv_at hl 7 rfl) ?_
            refine lv_goto (tgt := 427) hx hb dd_M_reckon_411 (by decide) ?_
            exact B427 _ ih S x2 x3 x4 x5 x6 x7 x8 x9 x10 v2 x6 _ _ ls hw hP hS (lv_sub hl [1, 2, 3, 4, 5, 6, 7, 8, 9, 10, 11, 0] rfl)
  have B274 : ∀ f : Nat, ∀ (S : fw_S) (x2 : Int32) (x3 : Int32) (x4 : Int32) (x5 : Int32) (x6 : Int32) (x7 : Int32) (x8 : Int32) (x9 : Int32) (x10 : Int32) (H : Heap) (locs : List Loc) (ls : Array Slot), wp_M_reckon_274 o a1 post f S x2 x3 x4 x5 x6 x7 x8 x9 x10 → fw_P D CL cA layU b 245 (fw_v TK layU b S) H → va_S (fw_A b 245) s.heap H locs → lv_has ls 15 [(0, .ref (b + o)), (1, .int a1), (2, .int x2), (3, .int x3), (4, .int x4), (5, .int x5), (6, .int x6), (7, .int x7), (8, .int x8), (9, .int x9), (10, .int x10)] → W p l e (headSpec ww_M_reckon rm_M_reckon).room s m ([.ref (b + o), .int a1] : List Value).toArray below meth c H locs 0 0 (MQ below (va_Qv post (fw_B D CL cA TK layU b 245) (fw_A b 245)) ([.ref (b + o), .int a1] : List Value).toArray s 0 0 (fw_A b 245)) (F0 m 274 ls []) := by
    intro f
    induction f with
    | zero => intro S x2 x3 x4 x5 x6 x7 x8 x9 x10 H locs ls hw; exact False.elim hw
    | succ f ih =>
        intro S x2 x3 x4 x5 x6 x7 x8 x9 x10 H locs ls hw hP hS hl
        unfold wp_M_reckon_274 at hw
        refine lv_iload hx hb dd_M_reckon_274 (lv_at hl 10 rfl) ?_
        refine lv_sipush (v := 320) hx hb dd_M_reckon_276 kc_sp_320 ?_
        refine lv_icmp_gt (tgt := 387) hx hb dd_M_reckon_279 (by decide) (fun h1 => ?_) (fun h1 => ?_)
        · have hw := hw.1 h1
          refine lv_iconst (v := 0) hx hb dd_M_reckon_387 kc_ic_0 ?_
          refine lv_istore hx hb dd_M_reckon_388 hl (Nat.le_of_ble_eq_true rfl) rfl (fun ls hl => ?_)
          have hl : lv_has ls 15 [(10, .int 0), (0, .ref (b + o)), (1, .int a1), (2, .int x2), (3, .int x3), (4, .int x4), (5, .int x5), (6, .int x6), (7, .int x7), (8, .int x8), (9, .int x9)] := hl
          obtain ⟨f0, hw⟩ := hw
          exact B390 f0 S x2 x3 x4 x5 x6 x7 x8 x9 0 _ _ ls hw hP hS (lv_sub hl [1, 2, 3, 4, 5, 6, 7, 8, 9, 10, 0] rfl)
        · have hw := hw.2 h1
          refine lv_iconst (v := 0) hx hb dd_M_reckon_282 kc_ic_0 ?_
          refine lv_istore hx hb dd_M_reckon_283 hl (Nat.le_of_ble_eq_true rfl) rfl (fun ls hl => ?_)
          have hl : lv_has ls 15 [(11, .int 0), (0, .ref (b + o)), (1, .int a1), (2, .int x2), (3, .int x3), (4, .int x4), (5, .int x5), (6, .int x6), (7, .int x7), (8, .int x8), (9, .int x9), (10, .int x10)] := hl
          refine lv_iconst (v := 0) hx hb dd_M_reckon_285 kc_ic_0 ?_
          refine lv_istore hx hb dd_M_reckon_286 hl (Nat.le_of_ble_eq_true rfl) rfl (fun ls hl => ?_)
          have hl : lv_has ls 15 [(12, .int 0), (11, .int 0), (0, .ref (b + o)), (1, .int a1), (2, .int x2), (3, .int x3), (4, .int x4), (5, .int x5), (6, .int x6), (7, .int x7), (8, .int x8), (9, .int x9), (10, .int x10)] := hl
          obtain ⟨f0, hw⟩ := hw
          exact B288 _ ih f0 S x2 x3 x4 x5 x6 x7 x8 x9 x10 0 0 _ _ ls hw hP hS (lv_sub hl [2, 3, 4, 5, 6, 7, 8, 9, 10, 11, 12, 1, 0] rfl)
  have B159 : ∀ f : Nat, ∀ (S : fw_S) (x2 : Int32) (x3 : Int32) (x4 : Int32) (x5 : Int32) (x6 : Int32) (x7 : Int32) (x8 : Int32) (x9 : Int32) (H : Heap) (locs : List Loc) (ls : Array Slot), wp_M_reckon_159 o a1 post f S x2 x3 x4 x5 x6 x7 x8 x9 → fw_P D CL cA layU b 245 (fw_v TK layU b S) H → va_S (fw_A b 245) s.heap H locs → lv_has ls 15 [(0, .ref (b + o)), (1, .int a1), (2, .int x2), (3, .int x3), (4, .int x4), (5, .int x5), (6, .int x6), (7, .int x7), (8, .int x8), (9, .int x9)] → W p l e (headSpec ww_M_reckon rm_M_reckon).room s m ([.ref (b + o), .int a1] : List Value).toArray below meth c H locs 0 0 (MQ below (va_Qv post (fw_B D CL cA TK layU b 245) (fw_A b 245)) ([.ref (b + o), .int a1] : List Value).toArray s 0 0 (fw_A b 245)) (F0 m 159 ls []) := by
    intro f
    induction f with
    | zero => intro S x2 x3 x4 x5 x6 x7 x8 x9 H locs ls hw; exact False.elim hw
    | succ f ih =>
        intro S x2 x3 x4 x5 x6 x7 x8 x9 H locs ls hw hP hS hl
        unfold wp_M_reckon_159 at hw
        refine lv_iload hx hb dd_M_reckon_159 (lv_at hl 9 rfl) ?_
        refine lv_iconst (v := 3) hx hb dd_M_reckon_161 kc_ic_3 ?_
        refine lv_icmp_ge (tgt := 268) hx hb dd_M_reckon_162 (by decide) (fun h1 => ?_) (fun h1 => ?_)
        · have hw := hw.1 h1
          refine lv_iconst (v := 0) hx hb dd_M_reckon_268 kc_ic_0 ?_
          refine lv_istore hx hb dd_M_reckon_269 hl (Nat.le_of_ble_eq_true rfl) rfl (fun ls hl => ?_)
          have hl : lv_has ls 15 [(9, .int 0), (0, .ref (b + o)), (1, .int a1), (2, .int x2), (3, .int x3), (4, .int x4), (5, .int x5), (6, .int x6), (7, .int x7), (8, .int x8)] := hl
          refine lv_iconst (v := 0) hx hb dd_M_reckon_271 kc_ic_0 ?_
          refine lv_istore hx hb dd_M_reckon_272 hl (Nat.le_of_ble_eq_true rfl) rfl (fun ls hl => ?_)
          have hl : lv_has ls 15 [(10, .int 0), (9, .int 0), (0, .ref (b + o)), (1, .int a1), (2, .int x2), (3, .int x3), (4, .int x4), (5, .int x5), (6, .int x6), (7, .int x7), (8, .int x8)] := hl
          obtain ⟨f0, hw⟩ := hw
          exact B274 f0 S x2 x3 x4 x5 x6 x7 x8 0 0 _ _ ls hw hP hS (lv_sub hl [2, 3, 4, 5, 6, 7, 8, 9, 10, 1, 0] rfl)
        · have hw := hw.2 h1
          refine lv_iload hx hb dd_M_reckon_165 (lv_at hl 4 rfl) ?_
          refine lv_iload hx hb dd_M_reckon_167 (lv_at hl 9 rfl) ?_
          refine lv_iadd hx hb dd_M_reckon_169 ?_
          refine lv_iconst (v := 3) hx hb dd_M_reckon_170 kc_ic_3 ?_
          refine lv_irem hx hb dd_M_reckon_171 (by decide) ?_
          refine lv_topi (fun v2 e_v2 => ?_)
          have hw := hw v2 e_v2
          refine lv_istore hx hb dd_M_reckon_172 hl (Nat.le_of_ble_eq_true rfl) rfl (fun ls hl => ?_)
          have hl : lv_has ls 15 [(10, .int v2), (0, .ref (b + o)), (1, .int a1), (2, .int x2), (3, .int x3), (4, .int x4), (5, .int x5), (6, .int x6), (7, .int x7), (8, .int x8), (9, .int x9)] := hl
          refine lv_iload_n hx hb dd_M_reckon_174 rfl (lv_at hl 2 rfl) ?_
          refine lv_iconst (v := 2) hx hb dd_M_reckon_175 kc_ic_2 ?_
          refine lv_iload hx hb dd_M_reckon_176 (lv_at hl 0 rfl) ?_
          refine lv_imul hx hb dd_M_reckon_178 ?_
          refine lv_iadd hx hb dd_M_reckon_179 ?_
          refine lv_topi (fun v3 e_v3 => ?_)
          have hw := hw v3 e_v3
          refine lv_istore hx hb dd_M_reckon_180 hl (Nat.le_of_ble_eq_true rfl) rfl (fun ls hl => ?_)
          have hl : lv_has ls 15 [(11, .int v3), (10, .int v2), (0, .ref (b + o)), (1, .int a1), (2, .int x2), (3, .int x3), (4, .int x4), (5, .int x5), (6, .int x6), (7, .int x7), (8, .int x8), (9, .int x9)] := hl
          refine lv_iload hx hb dd_M_reckon_182 (lv_at hl 7 rfl) ?_
          refine lv_if_le (tgt := 262) hx hb dd_M_reckon_184 (by decide) (fun h4 => ?_) (fun h4 => ?_)
          · have hw := hw.1 h4
            exact B262 _ ih S x2 x3 x4 x5 x6 x7 x8 x9 v2 v3 _ _ ls hw hP hS (lv_sub hl [2, 3, 4, 5, 6, 7, 8, 9, 10, 11, 1, 0] rfl)
          · have hw := hw.2 h4
            refine lv_aload_n hx hb dd_M_reckon_187 rfl (lv_at hl 2 rfl) ?_
            refine lv_iload hx hb dd_M_reckon_188 (lv_at hl 0 rfl) ?_
            refine fw_calli (va_runV (As := [.int v3]) (rest := []) ⟨hx, hb, hml, hown, hts⟩ (mt_M_isActive l D cA b S o v3 ho _ hw) (cwV 1 hts (fw_gV tw_1035 tw_1032 tw_1034 ts_28 tw_11) rfl rfl rfl (by decide +kernel) ⟨Nat.le_of_ble_eq_true rfl, Nat.le_of_ble_eq_true rfl⟩) (fw_preV hP hK ho (by decide) rfl) rfl rfl hl.1 rfl (lv_room (Nat.le_of_ble_eq_true rfl)) dd_M_reckon_190 ⟨Nat.le_of_ble_eq_true rfl, Nat.le_of_ble_eq_true rfl⟩) hS (fun S5 r6 H locs hw hP hS => ?_)
            try dsimp only at hw
            refine lv_if_eq (tgt := 262) hx hb dd_M_reckon_193 (by decide) (fun h7 => ?_) (fun h7 => ?_)
            · have hw := hw.1 h7
              exact B262 _ ih S5 x2 x3 x4 x5 x6 x7 x8 x9 v2 v3 _ _ ls hw hP hS (lv_sub hl [2, 3, 4, 5, 6, 7, 8, 9, 10, 11, 1, 0] rfl)
            · have hw := hw.2 h7
              refine lv_aload_n hx hb dd_M_reckon_196 rfl (lv_at hl 2 rfl) ?_
              refine fw_getr hx hb hts in_10 hown hK hP ho (by decide) rfl 10 (by decide) (hts _ (tb_in tw_791)) tk_10_10 dd_M_reckon_197 ?_
              refine lv_iload hx hb dd_M_reckon_200 (lv_at hl 0 rfl) ?_
              obtain ⟨h8, hw⟩ := hw
              refine fw_zald hx hb hK hP (lf_10_10 ho) (by decide) 2 rfl tka_102 h8 dd_M_reckon_202 ?_
              refine lv_if_eq (tgt := 262) hx hb dd_M_reckon_203 (by decide) (fun h9 => ?_) (fun h9 => ?_)
              · have hw := hw.1 h9
                exact B262 _ ih S5 x2 x3 x4 x5 x6 x7 x8 x9 v2 v3 _ _ ls hw hP hS (lv_sub hl [2, 3, 4, 5, 6, 7, 8, 9, 10, 11, 1, 0] rfl)
              · have hw := hw.2 h9
                obtain ⟨v10, e_v10⟩ : ∃ z : Int32, z = x5 + (-1) := ⟨_, rfl⟩
                have hw := hw v10 e_v10
                refine lv_iinc hx hb dd_M_reckon_206 hl (k := 7) rfl (show x5 + Int32.ofInt (-1) = v10 by rw [kc_ii_m1, e_v10]) (Nat.le_of_ble_eq_true rfl) rfl (fun ls hl => ?_)
                have hl : lv_has ls 15 [(5, .int v10), (11, .int v3), (10, .int v2), (0, .ref (b + o)), (1, .int a1), (2, .int x2), (3, .int x3), (4, .int x4), (6, .int x6), (7, .int x7), (8, .int x8), (9, .int x9)] := hl
                refine lv_iload hx hb dd_M_reckon_209 (lv_at hl 8 rfl) ?_
                refine lv_if_ne (tgt := 219) hx hb dd_M_reckon_211 (by decide) (fun h11 => ?_) (fun h11 => ?_)
                · have hw := hw.1 h11
                  exact B219 _ ih S5 x2 x3 x4 v10 x6 x7 x8 x9 v2 v3 _ _ ls hw hP hS (lv_sub hl [3, 4, 5, 6, 7, 0, 8, 9, 10, 11, 2, 1] rfl)
                · have hw := hw.2 h11
                  refine lv_iload hx hb dd_M_reckon_214 (lv_at hl 2 rfl) ?_
                  refine lv_if_ne (tgt := 223) hx hb dd_M_reckon_216 (by decide) (fun h12 => ?_) (fun h12 => ?_)
                  · have hw := hw.1 h12
                    refine lv_iconst (v := 0) hx hb dd_M_reckon_223 kc_ic_0 ?_
                    exact B224 _ ih S5 x2 x3 x4 v10 x6 x7 x8 x9 v2 v3 0 _ _ ls hw hP hS (lv_sub hl [3, 4, 5, 6, 7, 0, 8, 9, 10, 11, 2, 1] rfl)
                  · have hw := hw.2 h12
                    exact B219 _ ih S5 x2 x3 x4 v10 x6 x7 x8 x9 v2 v3 _ _ ls hw hP hS (lv_sub hl [3, 4, 5, 6, 7, 0, 8, 9, 10, 11, 2, 1] rfl)
  have B36 : ∀ f : Nat, ∀ (S : fw_S) (x2 : Int32) (x3 : Int32) (x4 : Int32) (H : Heap) (locs : List Loc) (ls : Array Slot), wp_M_reckon_36 o a1 post f S x2 x3 x4 → fw_P D CL cA layU b 245 (fw_v TK layU b S) H → va_S (fw_A b 245) s.heap H locs → lv_has ls 15 [(0, .ref (b + o)), (1, .int a1), (2, .int x2), (3, .int x3), (4, .int x4)] → W p l e (headSpec ww_M_reckon rm_M_reckon).room s m ([.ref (b + o), .int a1] : List Value).toArray below meth c H locs 0 0 (MQ below (va_Qv post (fw_B D CL cA TK layU b 245) (fw_A b 245)) ([.ref (b + o), .int a1] : List Value).toArray s 0 0 (fw_A b 245)) (F0 m 36 ls []) := by
    intro f
    induction f with
    | zero => intro S x2 x3 x4 H locs ls hw; exact False.elim hw
    | succ f ih =>
        intro S x2 x3 x4 H locs ls hw hP hS hl
        unfold wp_M_reckon_36 at hw
        refine lv_iload hx hb dd_M_reckon_36 (lv_at hl 4 rfl) ?_
        refine lv_bipush (v := 6) hx hb dd_M_reckon_38 kc_bp_6 ?_
        refine lv_icmp_ge (tgt := 129) hx hb dd_M_reckon_40 (by decide) (fun h1 => ?_) (fun h1 => ?_)
        · have hw := hw.1 h1
          refine lv_aload_n hx hb dd_M_reckon_129 rfl (lv_at hl 0 rfl) ?_
          refine fw_geti hx hb hts in_10 hown hK hP ho (by decide) rfl 1 (by decide) (hts _ (tb_in tw_782)) tk_10_1 dd_M_reckon_130 ?_
          refine lv_sipush (v := 900) hx hb dd_M_reckon_133 kc_sp_900 ?_
          refine lv_idiv hx hb dd_M_reckon_136 (by decide) ?_
          refine lv_iconst (v := 3) hx hb dd_M_reckon_137 kc_ic_3 ?_
          refine lv_irem hx hb dd_M_reckon_138 (by decide) ?_
          refine lv_topi (fun v2 e_v2 => ?_)
          have hw := hw v2 e_v2
          refine lv_istore hx hb dd_M_reckon_139 hl (Nat.le_of_ble_eq_true rfl) rfl (fun ls hl => ?_)
          have hl : lv_has ls 15 [(4, .int v2), (0, .ref (b + o)), (1, .int a1), (2, .int x2), (3, .int x3)] := hl
          refine lv_iload_n hx hb dd_M_reckon_141 rfl (lv_at hl 4 rfl) ?_
          refine lv_bipush (v := 60) hx hb dd_M_reckon_142 kc_bp_60 ?_
          refine lv_idiv hx hb dd_M_reckon_144 (by decide) ?_
          refine lv_topi (fun v3 e_v3 => ?_)
          have hw := hw v3 e_v3
          refine lv_istore hx hb dd_M_reckon_145 hl (Nat.le_of_ble_eq_true rfl) rfl (fun ls hl => ?_)
          have hl : lv_has ls 15 [(5, .int v3), (4, .int v2), (0, .ref (b + o)), (1, .int a1), (2, .int x2), (3, .int x3)] := hl
          refine lv_iconst (v := 0) hx hb dd_M_reckon_147 kc_ic_0 ?_
          refine lv_istore hx hb dd_M_reckon_148 hl (Nat.le_of_ble_eq_true rfl) rfl (fun ls hl => ?_)
          have hl : lv_has ls 15 [(6, .int 0), (5, .int v3), (4, .int v2), (0, .ref (b + o)), (1, .int a1), (2, .int x2), (3, .int x3)] := hl
          refine lv_iconst (v := 0) hx hb dd_M_reckon_150 kc_ic_0 ?_
          refine lv_istore hx hb dd_M_reckon_151 hl (Nat.le_of_ble_eq_true rfl) rfl (fun ls hl => ?_)
          have hl : lv_has ls 15 [(7, .int 0), (6, .int 0), (5, .int v3), (4, .int v2), (0, .ref (b + o)), (1, .int a1), (2, .int x2), (3, .int x3)] := hl
          refine lv_iconst (v := 0) hx hb dd_M_reckon_153 kc_ic_0 ?_
          refine lv_istore hx hb dd_M_reckon_154 hl (Nat.le_of_ble_eq_true rfl) rfl (fun ls hl => ?_)
          have hl : lv_has ls 15 [(8, .int 0), (7, .int 0), (6, .int 0), (5, .int v3), (4, .int v2), (0, .ref (b + o)), (1, .int a1), (2, .int x2), (3, .int x3)] := hl
          refine lv_iconst (v := 0) hx hb dd_M_reckon_156 kc_ic_0 ?_
          refine lv_istore hx hb dd_M_reckon_157 hl (Nat.le_of_ble_eq_true rfl) rfl (fun ls hl => ?_)
          have hl : lv_has ls 15 [(9, .int 0), (8, .int 0), (7, .int 0), (6, .int 0), (5, .int v3), (4, .int v2), (0, .ref (b + o)), (1, .int a1), (2, .int x2), (3, .int x3)] := hl
          obtain ⟨f0, hw⟩ := hw
          exact B159 f0 S x2 x3 v2 v3 0 0 0 0 _ _ ls hw hP hS (lv_sub hl [6, 7, 8, 9, 5, 4, 3, 2, 1, 0] rfl)
        · have hw := hw.2 h1
          refine lv_aload_n hx hb dd_M_reckon_43 rfl (lv_at hl 0 rfl) ?_
          refine lv_iload hx hb dd_M_reckon_44 (lv_at hl 4 rfl) ?_
          refine fw_calli (va_runV (As := [.int x4]) (rest := []) ⟨hx, hb, hml, hown, hts⟩ (mt_M_isActive l D cA b S o x4 ho _ hw) (cwV 1 hts (fw_gV tw_1035 tw_1032 tw_1034 ts_28 tw_11) rfl rfl rfl (by decide +kernel) ⟨Nat.le_of_ble_eq_true rfl, Nat.le_of_ble_eq_true rfl⟩) (fw_preV hP hK ho (by decide) rfl) rfl rfl hl.1 rfl (lv_room (Nat.le_of_ble_eq_true rfl)) dd_M_reckon_46 ⟨Nat.le_of_ble_eq_true rfl, Nat.le_of_ble_eq_true rfl⟩) hS (fun S4 r5 H locs hw hP hS => ?_)
          try dsimp only at hw
          refine lv_if_eq (tgt := 66) hx hb dd_M_reckon_49 (by decide) (fun h6 => ?_) (fun h6 => ?_)
          · have hw := hw.1 h6
            exact B66 _ ih S4 x2 x3 x4 _ _ ls hw hP hS (lv_sub hl [0, 1, 2, 3, 4] rfl)
          · have hw := hw.2 h6
            refine lv_aload_n hx hb dd_M_reckon_52 rfl (lv_at hl 0 rfl) ?_
            refine fw_getr hx hb hts in_10 hown hK hP ho (by decide) rfl 10 (by decide) (hts _ (tb_in tw_791)) tk_10_10 dd_M_reckon_53 ?_
            refine lv_iload hx hb dd_M_reckon_56 (lv_at hl 4 rfl) ?_
            obtain ⟨h7, hw⟩ := hw
            refine fw_zald hx hb hK hP (lf_10_10 ho) (by decide) 2 rfl tka_102 h7 dd_M_reckon_58 ?_
            refine lv_if_ne (tgt := 66) hx hb dd_M_reckon_59 (by decide) (fun h8 => ?_) (fun h8 => ?_)
            · have hw := hw.1 h8
              exact B66 _ ih S4 x2 x3 x4 _ _ ls hw hP hS (lv_sub hl [0, 1, 2, 3, 4] rfl)
            · have hw := hw.2 h8
              refine lv_iconst (v := 1) hx hb dd_M_reckon_62 kc_ic_1 ?_
              refine lv_goto (tgt := 67) hx hb dd_M_reckon_63 (by decide) ?_
              exact B67 _ ih S4 x2 x3 x4 1 _ _ ls hw hP hS (lv_sub hl [0, 1, 2, 3, 4] rfl)
  have B25 : ∀ (S : fw_S) (p0 : Int32) (H : Heap) (locs : List Loc) (ls : Array Slot), wp_M_reckon_25 o a1 post S p0 → fw_P D CL cA layU b 245 (fw_v TK layU b S) H → va_S (fw_A b 245) s.heap H locs → lv_has ls 15 [(0, .ref (b + o)), (1, .int a1)] → W p l e (headSpec ww_M_reckon rm_M_reckon).room s m ([.ref (b + o), .int a1] : List Value).toArray below meth c H locs 0 0 (MQ below (va_Qv post (fw_B D CL cA TK layU b 245) (fw_A b 245)) ([.ref (b + o), .int a1] : List Value).toArray s 0 0 (fw_A b 245)) (F0 m 25 ls [.int p0]) := by
      intro S p0 H locs ls hw hP hS hl
      unfold wp_M_reckon_25 at hw
      refine lv_istore_n hx hb dd_M_reckon_25 rfl hl (Nat.le_of_ble_eq_true rfl) rfl (fun ls hl => ?_)
      have hl : lv_has ls 15 [(2, .int p0), (0, .ref (b + o)), (1, .int a1)] := hl
      refine lv_aload_n hx hb dd_M_reckon_26 rfl (lv_at hl 1 rfl) ?_
      refine fw_getr hx hb hts in_10 hown hK hP ho (by decide) rfl 2 (by decide) (hts _ (tb_in tw_783)) tk_10_2 dd_M_reckon_27 ?_
      refine lv_iload_n hx hb dd_M_reckon_30 rfl (lv_at hl 2 rfl) ?_
      obtain ⟨h1, hw⟩ := hw
      refine fw_iald hx hb hK hP (lf_10_2 ho) (by decide) 0 rfl tka_100 h1 dd_M_reckon_31 ?_
      refine lv_topi (fun v2 e_v2 => ?_)
      have hw := hw v2 e_v2
      refine lv_istore_n hx hb dd_M_reckon_32 rfl hl (Nat.le_of_ble_eq_true rfl) rfl (fun ls hl => ?_)
      have hl : lv_has ls 15 [(3, .int v2), (2, .int p0), (0, .ref (b + o)), (1, .int a1)] := hl
      refine lv_iload_n hx hb dd_M_reckon_33 rfl (lv_at hl 3 rfl) ?_
      refine lv_istore hx hb dd_M_reckon_34 hl (Nat.le_of_ble_eq_true rfl) rfl (fun ls hl => ?_)
      have hl : lv_has ls 15 [(4, .int a1), (3, .int v2), (2, .int p0), (0, .ref (b + o)), (1, .int a1)] := hl
      obtain ⟨f0, hw⟩ := hw
      exact B36 f0 S p0 v2 a1 _ _ ls hw hP hS (lv_sub hl [3, 4, 2, 1, 0] rfl)
  unfold wp_M_reckon at hw
  refine lv_aload_n hx hb dd_M_reckon_0 rfl (lv_at hl 0 rfl) ?_
  refine fw_getr hx hb hts in_10 hown hK hP ho (by decide) rfl 2 (by decide) (hts _ (tb_in tw_783)) tk_10_2 dd_M_reckon_1 ?_
  refine lv_iload_n hx hb dd_M_reckon_4 rfl (lv_at hl 1 rfl) ?_
  obtain ⟨h1, hw⟩ := hw
  refine fw_iald hx hb hK hP (lf_10_2 ho) (by decide) 0 rfl tka_100 h1 dd_M_reckon_5 ?_
  refine lv_iconst (v := 3) hx hb dd_M_reckon_6 kc_ic_3 ?_
  refine lv_idiv hx hb dd_M_reckon_7 (by decide) ?_
  refine lv_bipush (v := 60) hx hb dd_M_reckon_8 kc_bp_60 ?_
  refine lv_icmp_ge (tgt := 17) hx hb dd_M_reckon_10 (by decide) (fun h2 => ?_) (fun h2 => ?_)
  · have hw := hw.1 h2
    refine lv_aload_n hx hb dd_M_reckon_17 rfl (lv_at hl 0 rfl) ?_
    refine fw_getr hx hb hts in_10 hown hK hP ho (by decide) rfl 2 (by decide) (hts _ (tb_in tw_783)) tk_10_2 dd_M_reckon_18 ?_
    refine lv_iload_n hx hb dd_M_reckon_21 rfl (lv_at hl 1 rfl) ?_
    obtain ⟨h3, hw⟩ := hw
    refine fw_iald hx hb hK hP (lf_10_2 ho) (by decide) 0 rfl tka_100 h3 dd_M_reckon_22 ?_
    refine lv_iconst (v := 3) hx hb dd_M_reckon_23 kc_ic_3 ?_
    refine lv_idiv hx hb dd_M_reckon_24 (by decide) ?_
    exact B25 S ((S.1 (o + 1) a1.toNatClampNeg) / 3) _ _ ls hw hP hS (lv_sub hl [0, 1] rfl)
  · have hw := hw.2 h2
    refine lv_iconst (v := 0) hx hb dd_M_reckon_13 kc_ic_0 ?_
    refine lv_goto (tgt := 25) hx hb dd_M_reckon_14 (by decide) ?_
    exact B25 S 0 _ _ ls hw hP hS (lv_sub hl [0, 1] rfl)
