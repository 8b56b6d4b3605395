theorem dd_M_init_0 : decode bb_M_init 0 = .ok (.aload_n 0, 1) := by decide +kernel
theorem dd_M_init_1 : decode bb_M_init 1 = .ok (.invokespecial 1, 3) := by decide +kernel
theorem dd_M_init_4 : decode bb_M_init 4 = .ok (.aload_n 0, 1) := by decide +kernel
theorem dd_M_init_5 : decode bb_M_init 5 = .ok (.iconst 2, 1) := by decide +kernel
theorem dd_M_init_6 : decode bb_M_init 6 = .ok (.newarray .int, 2) := by decide +kernel
theorem dd_M_init_8 : decode bb_M_init 8 = .ok (.dup, 1) := by decide +kernel
theorem dd_M_init_9 : decode bb_M_init 9 = .ok (.iconst 0, 1) := by decide +kernel
theorem dd_M_init_10 : decode bb_M_init 10 = .ok (.sipush 480, 3) := by decide +kernel
theorem dd_M_init_13 : decode bb_M_init 13 = .ok (.iastore, 1) := by decide +kernel
theorem dd_M_init_14 : decode bb_M_init 14 = .ok (.dup, 1) := by decide +kernel
theorem dd_M_init_15 : decode bb_M_init 15 = .ok (.iconst 1, 1) := by decide +kernel
theorem dd_M_init_16 : decode bb_M_init 16 = .ok (.sipush 480, 3) := by decide +kernel
theorem dd_M_init_19 : decode bb_M_init 19 = .ok (.iastore, 1) := by decide +kernel
theorem dd_M_init_20 : decode bb_M_init 20 = .ok (.putfield 7, 3) := by decide +kernel
theorem dd_M_init_23 : decode bb_M_init 23 = .ok (.aload_n 0, 1) := by decide +kernel
theorem dd_M_init_24 : decode bb_M_init 24 = .ok (.iconst 4, 1) := by decide +kernel
theorem dd_M_init_25 : decode bb_M_init 25 = .ok (.newarray .int, 2) := by decide +kernel
theorem dd_M_init_27 : decode bb_M_init 27 = .ok (.dup, 1) := by decide +kernel
theorem dd_M_init_28 : decode bb_M_init 28 = .ok (.iconst 0, 1) := by decide +kernel
theorem dd_M_init_29 : decode bb_M_init 29 = .ok (.iconst (-1), 1) := by decide +kernel
theorem dd_M_init_30 : decode bb_M_init 30 = .ok (.iastore, 1) := by decide +kernel
theorem dd_M_init_31 : decode bb_M_init 31 = .ok (.dup, 1) := by decide +kernel
theorem dd_M_init_32 : decode bb_M_init 32 = .ok (.iconst 1, 1) := by decide +kernel
theorem dd_M_init_33 : decode bb_M_init 33 = .ok (.iconst (-1), 1) := by decide +kernel
theorem dd_M_init_34 : decode bb_M_init 34 = .ok (.iastore, 1) := by decide +kernel
theorem dd_M_init_35 : decode bb_M_init 35 = .ok (.dup, 1) := by decide +kernel
theorem dd_M_init_36 : decode bb_M_init 36 = .ok (.iconst 2, 1) := by decide +kernel
theorem dd_M_init_37 : decode bb_M_init 37 = .ok (.iconst (-1), 1) := by decide +kernel
theorem dd_M_init_38 : decode bb_M_init 38 = .ok (.iastore, 1) := by decide +kernel
theorem dd_M_init_39 : decode bb_M_init 39 = .ok (.dup, 1) := by decide +kernel
theorem dd_M_init_40 : decode bb_M_init 40 = .ok (.iconst 3, 1) := by decide +kernel
theorem dd_M_init_41 : decode bb_M_init 41 = .ok (.iconst (-1), 1) := by decide +kernel
theorem dd_M_init_42 : decode bb_M_init 42 = .ok (.iastore, 1) := by decide +kernel
theorem dd_M_init_43 : decode bb_M_init 43 = .ok (.putfield 13, 3) := by decide +kernel
theorem dd_M_init_46 : decode bb_M_init 46 = .ok (.aload_n 0, 1) := by decide +kernel
theorem dd_M_init_47 : decode bb_M_init 47 = .ok (.iconst 4, 1) := by decide +kernel
theorem dd_M_init_48 : decode bb_M_init 48 = .ok (.newarray .int, 2) := by decide +kernel
theorem dd_M_init_50 : decode bb_M_init 50 = .ok (.putfield 16, 3) := by decide +kernel
theorem dd_M_init_53 : decode bb_M_init 53 = .ok (.aload_n 0, 1) := by decide +kernel
theorem dd_M_init_54 : decode bb_M_init 54 = .ok (.bipush 112, 2) := by decide +kernel
theorem dd_M_init_56 : decode bb_M_init 56 = .ok (.newarray .int, 2) := by decide +kernel
theorem dd_M_init_58 : decode bb_M_init 58 = .ok (.putfield 19, 3) := by decide +kernel
theorem dd_M_init_61 : decode bb_M_init 61 = .ok (.aload_n 0, 1) := by decide +kernel
theorem dd_M_init_62 : decode bb_M_init 62 = .ok (.bipush 112, 2) := by decide +kernel
theorem dd_M_init_64 : decode bb_M_init 64 = .ok (.newarray .int, 2) := by decide +kernel
theorem dd_M_init_66 : decode bb_M_init 66 = .ok (.putfield 22, 3) := by decide +kernel
theorem dd_M_init_69 : decode bb_M_init 69 = .ok (.aload_n 0, 1) := by decide +kernel
theorem dd_M_init_70 : decode bb_M_init 70 = .ok (.bipush 6, 2) := by decide +kernel
theorem dd_M_init_72 : decode bb_M_init 72 = .ok (.newarray .boolean, 2) := by decide +kernel
theorem dd_M_init_74 : decode bb_M_init 74 = .ok (.dup, 1) := by decide +kernel
theorem dd_M_init_75 : decode bb_M_init 75 = .ok (.iconst 0, 1) := by decide +kernel
theorem dd_M_init_76 : decode bb_M_init 76 = .ok (.iconst 1, 1) := by decide +kernel
theorem dd_M_init_77 : decode bb_M_init 77 = .ok (.bastore, 1) := by decide +kernel
theorem dd_M_init_78 : decode bb_M_init 78 = .ok (.dup, 1) := by decide +kernel
theorem dd_M_init_79 : decode bb_M_init 79 = .ok (.iconst 1, 1) := by decide +kernel
theorem dd_M_init_80 : decode bb_M_init 80 = .ok (.iconst 1, 1) := by decide +kernel
theorem dd_M_init_81 : decode bb_M_init 81 = .ok (.bastore, 1) := by decide +kernel
theorem dd_M_init_82 : decode bb_M_init 82 = .ok (.dup, 1) := by decide +kernel
theorem dd_M_init_83 : decode bb_M_init 83 = .ok (.iconst 2, 1) := by decide +kernel
theorem dd_M_init_84 : decode bb_M_init 84 = .ok (.iconst 1, 1) := by decide +kernel
theorem dd_M_init_85 : decode bb_M_init 85 = .ok (.bastore, 1) := by decide +kernel
theorem dd_M_init_86 : decode bb_M_init 86 = .ok (.dup, 1) := by decide +kernel
theorem dd_M_init_87 : decode bb_M_init 87 = .ok (.iconst 3, 1) := by decide +kernel
theorem dd_M_init_88 : decode bb_M_init 88 = .ok (.iconst 1, 1) := by decide +kernel
theorem dd_M_init_89 : decode bb_M_init 89 = .ok (.bastore, 1) := by decide +kernel
theorem dd_M_init_90 : decode bb_M_init 90 = .ok (.dup, 1) := by decide +kernel
theorem dd_M_init_91 : decode bb_M_init 91 = .ok (.iconst 4, 1) := by decide +kernel
theorem dd_M_init_92 : decode bb_M_init 92 = .ok (.iconst 1, 1) := by decide +kernel
theorem dd_M_init_93 : decode bb_M_init 93 = .ok (.bastore, 1) := by decide +kernel
theorem dd_M_init_94 : decode bb_M_init 94 = .ok (.dup, 1) := by decide +kernel
theorem dd_M_init_95 : decode bb_M_init 95 = .ok (.iconst 5, 1) := by decide +kernel
theorem dd_M_init_96 : decode bb_M_init 96 = .ok (.iconst 1, 1) := by decide +kernel
theorem dd_M_init_97 : decode bb_M_init 97 = .ok (.bastore, 1) := by decide +kernel
theorem dd_M_init_98 : decode bb_M_init 98 = .ok (.putfield 25, 3) := by decide +kernel
theorem dd_M_init_101 : decode bb_M_init 101 = .ok (.aload_n 0, 1) := by decide +kernel
theorem dd_M_init_102 : decode bb_M_init 102 = .ok (.bipush 6, 2) := by decide +kernel
theorem dd_M_init_104 : decode bb_M_init 104 = .ok (.newarray .boolean, 2) := by decide +kernel
theorem dd_M_init_106 : decode bb_M_init 106 = .ok (.dup, 1) := by decide +kernel
theorem dd_M_init_107 : decode bb_M_init 107 = .ok (.iconst 0, 1) := by decide +kernel
theorem dd_M_init_108 : decode bb_M_init 108 = .ok (.iconst 1, 1) := by decide +kernel
theorem dd_M_init_109 : decode bb_M_init 109 = .ok (.bastore, 1) := by decide +kernel
theorem dd_M_init_110 : decode bb_M_init 110 = .ok (.dup, 1) := by decide +kernel
theorem dd_M_init_111 : decode bb_M_init 111 = .ok (.iconst 1, 1) := by decide +kernel
theorem dd_M_init_112 : decode bb_M_init 112 = .ok (.iconst 1, 1) := by decide +kernel
theorem dd_M_init_113 : decode bb_M_init 113 = .ok (.bastore, 1) := by decide +kernel
theorem dd_M_init_114 : decode bb_M_init 114 = .ok (.dup, 1) := by decide +kernel
theorem dd_M_init_115 : decode bb_M_init 115 = .ok (.iconst 2, 1) := by decide +kernel
theorem dd_M_init_116 : decode bb_M_init 116 = .ok (.iconst 1, 1) := by decide +kernel
theorem dd_M_init_117 : decode bb_M_init 117 = .ok (.bastore, 1) := by decide +kernel
theorem dd_M_init_118 : decode bb_M_init 118 = .ok (.dup, 1) := by decide +kernel
theorem dd_M_init_119 : decode bb_M_init 119 = .ok (.iconst 3, 1) := by decide +kernel
theorem dd_M_init_120 : decode bb_M_init 120 = .ok (.iconst 1, 1) := by decide +kernel
theorem dd_M_init_121 : decode bb_M_init 121 = .ok (.bastore, 1) := by decide +kernel
theorem dd_M_init_122 : decode bb_M_init 122 = .ok (.dup, 1) := by decide +kernel
theorem dd_M_init_123 : decode bb_M_init 123 = .ok (.iconst 4, 1) := by decide +kernel
theorem dd_M_init_124 : decode bb_M_init 124 = .ok (.iconst 1, 1) := by decide +kernel
theorem dd_M_init_125 : decode bb_M_init 125 = .ok (.bastore, 1) := by decide +kernel
theorem dd_M_init_126 : decode bb_M_init 126 = .ok (.dup, 1) := by decide +kernel
theorem dd_M_init_127 : decode bb_M_init 127 = .ok (.iconst 5, 1) := by decide +kernel
theorem dd_M_init_128 : decode bb_M_init 128 = .ok (.iconst 1, 1) := by decide +kernel
theorem dd_M_init_129 : decode bb_M_init 129 = .ok (.bastore, 1) := by decide +kernel
theorem dd_M_init_130 : decode bb_M_init 130 = .ok (.putfield 29, 3) := by decide +kernel
theorem dd_M_init_133 : decode bb_M_init 133 = .ok (.aload_n 0, 1) := by decide +kernel
theorem dd_M_init_134 : decode bb_M_init 134 = .ok (.bipush 6, 2) := by decide +kernel
theorem dd_M_init_136 : decode bb_M_init 136 = .ok (.newarray .long, 2) := by decide +kernel
theorem dd_M_init_138 : decode bb_M_init 138 = .ok (.putfield 32, 3) := by decide +kernel
theorem dd_M_init_141 : decode bb_M_init 141 = .ok (.aload_n 0, 1) := by decide +kernel
theorem dd_M_init_142 : decode bb_M_init 142 = .ok (.bipush 6, 2) := by decide +kernel
theorem dd_M_init_144 : decode bb_M_init 144 = .ok (.newarray .int, 2) := by decide +kernel
theorem dd_M_init_146 : decode bb_M_init 146 = .ok (.putfield 36, 3) := by decide +kernel
theorem dd_M_init_149 : decode bb_M_init 149 = .ok (.aload_n 0, 1) := by decide +kernel
theorem dd_M_init_150 : decode bb_M_init 150 = .ok (.bipush 6, 2) := by decide +kernel
theorem dd_M_init_152 : decode bb_M_init 152 = .ok (.newarray .int, 2) := by decide +kernel
theorem dd_M_init_154 : decode bb_M_init 154 = .ok (.putfield 39, 3) := by decide +kernel
theorem dd_M_init_157 : decode bb_M_init 157 = .ok (.aload_n 0, 1) := by decide +kernel
theorem dd_M_init_158 : decode bb_M_init 158 = .ok (.bipush 6, 2) := by decide +kernel
theorem dd_M_init_160 : decode bb_M_init 160 = .ok (.newarray .int, 2) := by decide +kernel
theorem dd_M_init_162 : decode bb_M_init 162 = .ok (.putfield 42, 3) := by decide +kernel
theorem dd_M_init_165 : decode bb_M_init 165 = .ok (.aload_n 0, 1) := by decide +kernel
theorem dd_M_init_166 : decode bb_M_init 166 = .ok (.bipush 6, 2) := by decide +kernel
theorem dd_M_init_168 : decode bb_M_init 168 = .ok (.newarray .int, 2) := by decide +kernel
theorem dd_M_init_170 : decode bb_M_init 170 = .ok (.putfield 45, 3) := by decide +kernel
theorem dd_M_init_173 : decode bb_M_init 173 = .ok (.aload_n 0, 1) := by decide +kernel
theorem dd_M_init_174 : decode bb_M_init 174 = .ok (.bipush 6, 2) := by decide +kernel
theorem dd_M_init_176 : decode bb_M_init 176 = .ok (.newarray .int, 2) := by decide +kernel
theorem dd_M_init_178 : decode bb_M_init 178 = .ok (.dup, 1) := by decide +kernel
theorem dd_M_init_179 : decode bb_M_init 179 = .ok (.iconst 0, 1) := by decide +kernel
theorem dd_M_init_180 : decode bb_M_init 180 = .ok (.iconst 1, 1) := by decide +kernel
theorem dd_M_init_181 : decode bb_M_init 181 = .ok (.iastore, 1) := by decide +kernel
theorem dd_M_init_182 : decode bb_M_init 182 = .ok (.dup, 1) := by decide +kernel
theorem dd_M_init_183 : decode bb_M_init 183 = .ok (.iconst 1, 1) := by decide +kernel
theorem dd_M_init_184 : decode bb_M_init 184 = .ok (.iconst 1, 1) := by decide +kernel
theorem dd_M_init_185 : decode bb_M_init 185 = .ok (.iastore, 1) := by decide +kernel
theorem dd_M_init_186 : decode bb_M_init 186 = .ok (.dup, 1) := by decide +kernel
theorem dd_M_init_187 : decode bb_M_init 187 = .ok (.iconst 2, 1) := by decide +kernel
theorem dd_M_init_188 : decode bb_M_init 188 = .ok (.iconst 1, 1) := by decide +kernel
theorem dd_M_init_189 : decode bb_M_init 189 = .ok (.iastore, 1) := by decide +kernel
theorem dd_M_init_190 : decode bb_M_init 190 = .ok (.dup, 1) := by decide +kernel
theorem dd_M_init_191 : decode bb_M_init 191 = .ok (.iconst 3, 1) := by decide +kernel
theorem dd_M_init_192 : decode bb_M_init 192 = .ok (.iconst 1, 1) := by decide +kernel
theorem dd_M_init_193 : decode bb_M_init 193 = .ok (.iastore, 1) := by decide +kernel
theorem dd_M_init_194 : decode bb_M_init 194 = .ok (.dup, 1) := by decide +kernel
theorem dd_M_init_195 : decode bb_M_init 195 = .ok (.iconst 4, 1) := by decide +kernel
theorem dd_M_init_196 : decode bb_M_init 196 = .ok (.iconst 1, 1) := by decide +kernel
theorem dd_M_init_197 : decode bb_M_init 197 = .ok (.iastore, 1) := by decide +kernel
theorem dd_M_init_198 : decode bb_M_init 198 = .ok (.dup, 1) := by decide +kernel
theorem dd_M_init_199 : decode bb_M_init 199 = .ok (.iconst 5, 1) := by decide +kernel
theorem dd_M_init_200 : decode bb_M_init 200 = .ok (.iconst 1, 1) := by decide +kernel
theorem dd_M_init_201 : decode bb_M_init 201 = .ok (.iastore, 1) := by decide +kernel
theorem dd_M_init_202 : decode bb_M_init 202 = .ok (.putfield 48, 3) := by decide +kernel
theorem dd_M_init_205 : decode bb_M_init 205 = .ok (.aload_n 0, 1) := by decide +kernel
theorem dd_M_init_206 : decode bb_M_init 206 = .ok (.bipush 6, 2) := by decide +kernel
theorem dd_M_init_208 : decode bb_M_init 208 = .ok (.newarray .int, 2) := by decide +kernel
theorem dd_M_init_210 : decode bb_M_init 210 = .ok (.dup, 1) := by decide +kernel
theorem dd_M_init_211 : decode bb_M_init 211 = .ok (.iconst 0, 1) := by decide +kernel
theorem dd_M_init_212 : decode bb_M_init 212 = .ok (.iconst (-1), 1) := by decide +kernel
theorem dd_M_init_213 : decode bb_M_init 213 = .ok (.iastore, 1) := by decide +kernel
theorem dd_M_init_214 : decode bb_M_init 214 = .ok (.dup, 1) := by decide +kernel
theorem dd_M_init_215 : decode bb_M_init 215 = .ok (.iconst 1, 1) := by decide +kernel
theorem dd_M_init_216 : decode bb_M_init 216 = .ok (.iconst (-1), 1) := by decide +kernel
theorem dd_M_init_217 : decode bb_M_init 217 = .ok (.iastore, 1) := by decide +kernel
theorem dd_M_init_218 : decode bb_M_init 218 = .ok (.dup, 1) := by decide +kernel
theorem dd_M_init_219 : decode bb_M_init 219 = .ok (.iconst 2, 1) := by decide +kernel
theorem dd_M_init_220 : decode bb_M_init 220 = .ok (.iconst (-1), 1) := by decide +kernel
theorem dd_M_init_221 : decode bb_M_init 221 = .ok (.iastore, 1) := by decide +kernel
theorem dd_M_init_222 : decode bb_M_init 222 = .ok (.dup, 1) := by decide +kernel
theorem dd_M_init_223 : decode bb_M_init 223 = .ok (.iconst 3, 1) := by decide +kernel
theorem dd_M_init_224 : decode bb_M_init 224 = .ok (.iconst (-1), 1) := by decide +kernel
theorem dd_M_init_225 : decode bb_M_init 225 = .ok (.iastore, 1) := by decide +kernel
theorem dd_M_init_226 : decode bb_M_init 226 = .ok (.dup, 1) := by decide +kernel
theorem dd_M_init_227 : decode bb_M_init 227 = .ok (.iconst 4, 1) := by decide +kernel
theorem dd_M_init_228 : decode bb_M_init 228 = .ok (.iconst (-1), 1) := by decide +kernel
theorem dd_M_init_229 : decode bb_M_init 229 = .ok (.iastore, 1) := by decide +kernel
theorem dd_M_init_230 : decode bb_M_init 230 = .ok (.dup, 1) := by decide +kernel
theorem dd_M_init_231 : decode bb_M_init 231 = .ok (.iconst 5, 1) := by decide +kernel
theorem dd_M_init_232 : decode bb_M_init 232 = .ok (.iconst (-1), 1) := by decide +kernel
theorem dd_M_init_233 : decode bb_M_init 233 = .ok (.iastore, 1) := by decide +kernel
theorem dd_M_init_234 : decode bb_M_init 234 = .ok (.putfield 51, 3) := by decide +kernel
theorem dd_M_init_237 : decode bb_M_init 237 = .ok (.aload_n 0, 1) := by decide +kernel
theorem dd_M_init_238 : decode bb_M_init 238 = .ok (.bipush 6, 2) := by decide +kernel
theorem dd_M_init_240 : decode bb_M_init 240 = .ok (.newarray .int, 2) := by decide +kernel
theorem dd_M_init_242 : decode bb_M_init 242 = .ok (.putfield 54, 3) := by decide +kernel
theorem dd_M_init_245 : decode bb_M_init 245 = .ok (.aload_n 0, 1) := by decide +kernel
theorem dd_M_init_246 : decode bb_M_init 246 = .ok (.sipush 864, 3) := by decide +kernel
theorem dd_M_init_249 : decode bb_M_init 249 = .ok (.newarray .int, 2) := by decide +kernel
theorem dd_M_init_251 : decode bb_M_init 251 = .ok (.putfield 57, 3) := by decide +kernel
theorem dd_M_init_254 : decode bb_M_init 254 = .ok (.aload_n 0, 1) := by decide +kernel
theorem dd_M_init_255 : decode bb_M_init 255 = .ok (.sipush 144, 3) := by decide +kernel
theorem dd_M_init_258 : decode bb_M_init 258 = .ok (.newarray .long, 2) := by decide +kernel
theorem dd_M_init_260 : decode bb_M_init 260 = .ok (.putfield 60, 3) := by decide +kernel
theorem dd_M_init_263 : decode bb_M_init 263 = .ok (.aload_n 0, 1) := by decide +kernel
theorem dd_M_init_264 : decode bb_M_init 264 = .ok (.bipush 6, 2) := by decide +kernel
theorem dd_M_init_266 : decode bb_M_init 266 = .ok (.newarray .boolean, 2) := by decide +kernel
theorem dd_M_init_268 : decode bb_M_init 268 = .ok (.putfield 63, 3) := by decide +kernel
theorem dd_M_init_271 : decode bb_M_init 271 = .ok (.aload_n 0, 1) := by decide +kernel
theorem dd_M_init_272 : decode bb_M_init 272 = .ok (.bipush 6, 2) := by decide +kernel
theorem dd_M_init_274 : decode bb_M_init 274 = .ok (.newarray .int, 2) := by decide +kernel
theorem dd_M_init_276 : decode bb_M_init 276 = .ok (.putfield 66, 3) := by decide +kernel
theorem dd_M_init_279 : decode bb_M_init 279 = .ok (.aload_n 0, 1) := by decide +kernel
theorem dd_M_init_280 : decode bb_M_init 280 = .ok (.bipush 6, 2) := by decide +kernel
theorem dd_M_init_282 : decode bb_M_init 282 = .ok (.newarray .int, 2) := by decide +kernel
theorem dd_M_init_284 : decode bb_M_init 284 = .ok (.putfield 69, 3) := by decide +kernel
theorem dd_M_init_287 : decode bb_M_init 287 = .ok (.aload_n 0, 1) := by decide +kernel
theorem dd_M_init_288 : decode bb_M_init 288 = .ok (.bipush 6, 2) := by decide +kernel
theorem dd_M_init_290 : decode bb_M_init 290 = .ok (.newarray .long, 2) := by decide +kernel
theorem dd_M_init_292 : decode bb_M_init 292 = .ok (.putfield 72, 3) := by decide +kernel
theorem dd_M_init_295 : decode bb_M_init 295 = .ok (.aload_n 0, 1) := by decide +kernel
theorem dd_M_init_296 : decode bb_M_init 296 = .ok (.bipush 6, 2) := by decide +kernel
theorem dd_M_init_298 : decode bb_M_init 298 = .ok (.newarray .boolean, 2) := by decide +kernel
theorem dd_M_init_300 : decode bb_M_init 300 = .ok (.putfield 75, 3) := by decide +kernel
theorem dd_M_init_303 : decode bb_M_init 303 = .ok (.aload_n 0, 1) := by decide +kernel
theorem dd_M_init_304 : decode bb_M_init 304 = .ok (.bipush 6, 2) := by decide +kernel
theorem dd_M_init_306 : decode bb_M_init 306 = .ok (.newarray .int, 2) := by decide +kernel
theorem dd_M_init_308 : decode bb_M_init 308 = .ok (.putfield 78, 3) := by decide +kernel
theorem dd_M_init_311 : decode bb_M_init 311 = .ok (.aload_n 0, 1) := by decide +kernel
theorem dd_M_init_312 : decode bb_M_init 312 = .ok (.bipush 6, 2) := by decide +kernel
theorem dd_M_init_314 : decode bb_M_init 314 = .ok (.newarray .int, 2) := by decide +kernel
theorem dd_M_init_316 : decode bb_M_init 316 = .ok (.putfield 81, 3) := by decide +kernel
theorem dd_M_init_319 : decode bb_M_init 319 = .ok (.aload_n 0, 1) := by decide +kernel
theorem dd_M_init_320 : decode bb_M_init 320 = .ok (.bipush 6, 2) := by decide +kernel
theorem dd_M_init_322 : decode bb_M_init 322 = .ok (.newarray .boolean, 2) := by decide +kernel
theorem dd_M_init_324 : decode bb_M_init 324 = .ok (.putfield 84, 3) := by decide +kernel
theorem dd_M_init_327 : decode bb_M_init 327 = .ok (.aload_n 0, 1) := by decide +kernel
theorem dd_M_init_328 : decode bb_M_init 328 = .ok (.bipush 6, 2) := by decide +kernel
theorem dd_M_init_330 : decode bb_M_init 330 = .ok (.newarray .int, 2) := by decide +kernel
theorem dd_M_init_332 : decode bb_M_init 332 = .ok (.putfield 87, 3) := by decide +kernel
theorem dd_M_init_335 : decode bb_M_init 335 = .ok (.aload_n 0, 1) := by decide +kernel
theorem dd_M_init_336 : decode bb_M_init 336 = .ok (.bipush 6, 2) := by decide +kernel
theorem dd_M_init_338 : decode bb_M_init 338 = .ok (.newarray .int, 2) := by decide +kernel
theorem dd_M_init_340 : decode bb_M_init 340 = .ok (.putfield 90, 3) := by decide +kernel
theorem dd_M_init_343 : decode bb_M_init 343 = .ok (.aload_n 0, 1) := by decide +kernel
theorem dd_M_init_344 : decode bb_M_init 344 = .ok (.bipush 6, 2) := by decide +kernel
theorem dd_M_init_346 : decode bb_M_init 346 = .ok (.newarray .long, 2) := by decide +kernel
theorem dd_M_init_348 : decode bb_M_init 348 = .ok (.putfield 93, 3) := by decide +kernel
theorem dd_M_init_351 : decode bb_M_init 351 = .ok (.aload_n 0, 1) := by decide +kernel
theorem dd_M_init_352 : decode bb_M_init 352 = .ok (.bipush 6, 2) := by decide +kernel
theorem dd_M_init_354 : decode bb_M_init 354 = .ok (.newarray .long, 2) := by decide +kernel
theorem dd_M_init_356 : decode bb_M_init 356 = .ok (.putfield 96, 3) := by decide +kernel
theorem dd_M_init_359 : decode bb_M_init 359 = .ok (.aload_n 0, 1) := by decide +kernel
theorem dd_M_init_360 : decode bb_M_init 360 = .ok (.bipush 6, 2) := by decide +kernel
theorem dd_M_init_362 : decode bb_M_init 362 = .ok (.newarray .long, 2) := by decide +kernel
theorem dd_M_init_364 : decode bb_M_init 364 = .ok (.putfield 99, 3) := by decide +kernel
theorem dd_M_init_367 : decode bb_M_init 367 = .ok (.aload_n 0, 1) := by decide +kernel
theorem dd_M_init_368 : decode bb_M_init 368 = .ok (.bipush 6, 2) := by decide +kernel
theorem dd_M_init_370 : decode bb_M_init 370 = .ok (.newarray .int, 2) := by decide +kernel
theorem dd_M_init_372 : decode bb_M_init 372 = .ok (.putfield 102, 3) := by decide +kernel
theorem dd_M_init_375 : decode bb_M_init 375 = .ok (.aload_n 0, 1) := by decide +kernel
theorem dd_M_init_376 : decode bb_M_init 376 = .ok (.sipush 640, 3) := by decide +kernel
theorem dd_M_init_379 : decode bb_M_init 379 = .ok (.newarray .int, 2) := by decide +kernel
theorem dd_M_init_381 : decode bb_M_init 381 = .ok (.putfield 105, 3) := by decide +kernel
theorem dd_M_init_384 : decode bb_M_init 384 = .ok (.aload_n 0, 1) := by decide +kernel
theorem dd_M_init_385 : decode bb_M_init 385 = .ok (.bipush 16, 2) := by decide +kernel
theorem dd_M_init_387 : decode bb_M_init 387 = .ok (.newarray .long, 2) := by decide +kernel
theorem dd_M_init_389 : decode bb_M_init 389 = .ok (.putfield 108, 3) := by decide +kernel
theorem dd_M_init_392 : decode bb_M_init 392 = .ok (.aload_n 0, 1) := by decide +kernel
theorem dd_M_init_393 : decode bb_M_init 393 = .ok (.bipush 6, 2) := by decide +kernel
theorem dd_M_init_395 : decode bb_M_init 395 = .ok (.newarray .int, 2) := by decide +kernel
theorem dd_M_init_397 : decode bb_M_init 397 = .ok (.putfield 111, 3) := by decide +kernel
theorem dd_M_init_400 : decode bb_M_init 400 = .ok (.return_, 1) := by decide +kernel
def ww_M_init : List Cond := .code yy_M_init bb_M_init 1 none :: TB
def rm_M_init : Room := { frames := 1, cells := 34, slots := 2048, locals := 21 }
set_option maxRecDepth 16384 in
def wv_M_init (b n : Nat) (V : fw_V) (o : Nat) (post : Nat → fw_V → Prop) : Prop := SL (n + 34) = SL n + 2048 ∧ (n + 1 ≤ n + 34 ∧ (layU n = (100, 2) ∧ (∀ n3, n3 = n + 1 → ∀ V4 : fw_V, V4 = fw_nw V n (fun _ => defaultValue .int) → vp_in 0 2 ∧ (∀ V6 : fw_V, V6 = fw_up V4 n (0 : Int32).toNatClampNeg (.int 480) → vp_in 1 2 ∧ (∀ V8 : fw_V, V8 = fw_up V6 n (1 : Int32).toNatClampNeg (.int 480) → ∀ V9 : fw_V, V9 = fw_up V8 o 2 (.ref (b + n)) → n3 + 1 ≤ n + 34 ∧ (layU n3 = (100, 4) ∧ (∀ n12, n12 = n3 + 1 → ∀ V13 : fw_V, V13 = fw_nw V9 n3 (fun _ => defaultValue .int) → vp_in 0 4 ∧ (∀ V15 : fw_V, V15 = fw_up V13 n3 (0 : Int32).toNatClampNeg (.int (-1)) → vp_in 1 4 ∧ (∀ V17 : fw_V, V17 = fw_up V15 n3 (1 : Int32).toNatClampNeg (.int (-1)) → vp_in 2 4 ∧ (∀ V19 : fw_V, V19 = fw_up V17 n3 (2 : Int32).toNatClampNeg (.int (-1)) → vp_in 3 4 ∧ (∀ V21 : fw_V, V21 = fw_up V19 n3 (3 : Int32).toNatClampNeg (.int (-1)) → ∀ V22 : fw_V, V22 = fw_up V21 o 3 (.ref (b + n3)) → n12 + 1 ≤ n + 34 ∧ (layU n12 = (100, 4) ∧ (∀ n25, n25 = n12 + 1 → ∀ V26 : fw_V, V26 = fw_nw V22 n12 (fun _ => defaultValue .int) → ∀ V27 : fw_V, V27 = fw_up V26 o 4 (.ref (b + n12)) → n25 + 1 ≤ n + 34 ∧ (layU n25 = (100, 112) ∧ (∀ n30, n30 = n25 + 1 → ∀ V31 : fw_V, V31 = fw_nw V27 n25 (fun _ => defaultValue .int) → ∀ V32 : fw_V, V32 = fw_up V31 o 7 (.ref (b + n25)) → n30 + 1 ≤ n + 34 ∧ (layU n30 = (100, 112) ∧ (∀ n35, n35 = n30 + 1 → ∀ V36 : fw_V, V36 = fw_nw V32 n30 (fun _ => defaultValue .int) → ∀ V37 : fw_V, V37 = fw_up V36 o 8 (.ref (b + n30)) → n35 + 1 ≤ n + 34 ∧ (layU n35 = (102, 6) ∧ (∀ n40, n40 = n35 + 1 → ∀ V41 : fw_V, V41 = fw_nw V37 n35 (fun _ => defaultValue .boolean) → vp_in 0 6 ∧ (∀ V43 : fw_V, V43 = fw_up V41 n35 (0 : Int32).toNatClampNeg (.int (fw_z 1)) → vp_in 1 6 ∧ (∀ V45 : fw_V, V45 = fw_up V43 n35 (1 : Int32).toNatClampNeg (.int (fw_z 1)) → vp_in 2 6 ∧ (∀ V47 : fw_V, V47 = fw_up V45 n35 (2 : Int32).toNatClampNeg (.int (fw_z 1)) → vp_in 3 6 ∧ (∀ V49 : fw_V, V49 = fw_up V47 n35 (3 : Int32).toNatClampNeg (.int (fw_z 1)) → vp_in 4 6 ∧ (∀ V51 : fw_V, V51 = fw_up V49 n35 (4 : Int32).toNatClampNeg (.int (fw_z 1)) → vp_in 5 6 ∧ (∀ V53 : fw_V, V53 = fw_up V51 n35 (5 : Int32).toNatClampNeg (.int (fw_z 1)) → ∀ V54 : fw_V, V54 = fw_up V53 o 9 (.ref (b + n35)) → n40 + 1 ≤ n + 34 ∧ (layU n40 = (102, 6) ∧ (∀ n57, n57 = n40 + 1 → ∀ V58 : fw_V, V58 = fw_nw V54 n40 (fun _ => defaultValue .boolean) → vp_in 0 6 ∧ (∀ V60 : fw_V, V60 = fw_up V58 n40 (0 : Int32).toNatClampNeg (.int (fw_z 1)) → vp_in 1 6 ∧ (∀ V62 : fw_V, V62 = fw_up V60 n40 (1 : Int32).toNatClampNeg (.int (fw_z 1)) → vp_in 2 6 ∧ (∀ V64 : fw_V, V64 = fw_up V62 n40 (2 : Int32).toNatClampNeg (.int (fw_z 1)) → vp_in 3 6 ∧ (∀ V66 : fw_V, V66 = fw_up V64 n40 (3 : Int32).toNatClampNeg (.int (fw_z 1)) → vp_in 4 6 ∧ (∀ V68 : fw_V, V68 = fw_up V66 n40 (4 : Int32).toNatClampNeg (.int (fw_z 1)) → vp_in 5 6 ∧ (∀ V70 : fw_V, V70 = fw_up V68 n40 (5 : Int32).toNatClampNeg (.int (fw_z 1)) → ∀ V71 : fw_V, V71 = fw_up V70 o 10 (.ref (b + n40)) → n57 + 1 ≤ n + 34 ∧ (layU n57 = (101, 6) ∧ (∀ n74, n74 = n57 + 1 → ∀ V75 : fw_V, V75 = fw_nw V71 n57 (fun _ => defaultValue .long) → ∀ V76 : fw_V, V76 = fw_up V75 o 11 (.ref (b + n57)) → n74 + 1 ≤ n + 34 ∧ (layU n74 = (100, 6) ∧ (∀ n79, n79 = n74 + 1 → ∀ V80 : fw_V, V80 = fw_nw V76 n74 (fun _ => defaultValue .int) → ∀ V81 : fw_V, V81 = fw_up V80 o 12 (.ref (b + n74)) → n79 + 1 ≤ n + 34 ∧ (layU n79 = (100, 6) ∧ (∀ n84, n84 = n79 + 1 → ∀ V85 : fw_V, V85 = fw_nw V81 n79 (fun _ => defaultValue .int) → ∀ V86 : fw_V, V86 = fw_up V85 o 13 (.ref (b + n79)) → n84 + 1 ≤ n + 34 ∧ (layU n84 = (100, 6) ∧ (∀ n89, n89 = n84 + 1 → ∀ V90 : fw_V, V90 = fw_nw V86 n84 (fun _ => defaultValue .int) → ∀ V91 : fw_V, V91 = fw_up V90 o 14 (.ref (b + n84)) → n89 + 1 ≤ n + 34 ∧ (layU n89 = (100, 6) ∧ (∀ n94, n94 = n89 + 1 → ∀ V95 : fw_V, V95 = fw_nw V91 n89 (fun _ => defaultValue .int) → ∀ V96 : fw_V, V96 = fw_up V95 o 15 (.ref (b + n89)) → n94 + 1 ≤ n + 34 ∧ (layU n94 = (100, 6) ∧ (∀ n99, n99 = n94 + 1 → ∀ V100 : fw_V, V100 = fw_nw V96 n94 (fun _ => defaultValue .int) → vp_in 0 6 ∧ (∀ V102 : fw_V, V102 = fw_up V100 n94 (0 : Int32).toNatClampNeg (.int 1) → vp_in 1 6 ∧ (∀ V104 : fw_V, V104 = fw_up V102 n94 (1 : Int32).toNatClampNeg (.int 1) → vp_in 2 6 ∧ (∀ V106 : fw_V, V106 = fw_up V104 n94 (2 : Int32).toNatClampNeg (.int 1) → vp_in 3 6 ∧ (∀ V108 : fw_V, V108 = fw_up V106 n94 (3 : Int32).toNatClampNeg (.int 1) → vp_in 4 6 ∧ (∀ V110 : fw_V, V110 = fw_up V108 n94 (4 : Int32).toNatClampNeg (.int 1) → vp_in 5 6 ∧ (∀ V112 : fw_V, V112 = fw_up V110 n94 (5 : Int32).toNatClampNeg (.int 1) → ∀ V113 : fw_V, V113 = fw_up V112 o 16 (.ref (b + n94)) → n99 + 1 ≤ n + 34 ∧ (layU n99 = (100, 6) ∧ (∀ n116, n116 = n99 + 1 → ∀ V117 : fw_V, V117 = fw_nw V113 n99 (fun _ => defaultValue .int) → vp_in 0 6 ∧ (∀ V119 : fw_V, V119 = fw_up V117 n99 (0 : Int32).toNatClampNeg (.int (-1)) → vp_in 1 6 ∧ (∀ V121 : fw_V, V121 = fw_up V119 n99 (1 : Int32).toNatClampNeg (.int (-1)) → vp_in 2 6 ∧ (∀ V123 : fw_V, V123 = fw_up V121 n99 (2 : Int32).toNatClampNeg (.int (-1)) → vp_in 3 6 ∧ (∀ V125 : fw_V, V125 = fw_up V123 n99 (3 : Int32).toNatClampNeg (.int (-1)) → vp_in 4 6 ∧ (∀ V127 : fw_V, V127 = fw_up V125 n99 (4 : Int32).toNatClampNeg (.int (-1)) → vp_in 5 6 ∧ (∀ V129 : fw_V, V129 = fw_up V127 n99 (5 : Int32).toNatClampNeg (.int (-1)) → ∀ V130 : fw_V, V130 = fw_up V129 o 17 (.ref (b + n99)) → n116 + 1 ≤ n + 34 ∧ (layU n116 = (100, 6) ∧ (∀ n133, n133 = n116 + 1 → ∀ V134 : fw_V, V134 = fw_nw V130 n116 (fun _ => defaultValue .int) → ∀ V135 : fw_V, V135 = fw_up V134 o 18 (.ref (b + n116)) → n133 + 1 ≤ n + 34 ∧ (layU n133 = (100, 864) ∧ (∀ n138, n138 = n133 + 1 → ∀ V139 : fw_V, V139 = fw_nw V135 n133 (fun _ => defaultValue .int) → ∀ V140 : fw_V, V140 = fw_up V139 o 19 (.ref (b + n133)) → n138 + 1 ≤ n + 34 ∧ (layU n138 = (101, 144) ∧ (∀ n143, n143 = n138 + 1 → ∀ V144 : fw_V, V144 = fw_nw V140 n138 (fun _ => defaultValue .long) → ∀ V145 : fw_V, V145 = fw_up V144 o 20 (.ref (b + n138)) → n143 + 1 ≤ n + 34 ∧ (layU n143 = (102, 6) ∧ (∀ n148, n148 = n143 + 1 → ∀ V149 : fw_V, V149 = fw_nw V145 n143 (fun _ => defaultValue .boolean) → ∀ V150 : fw_V, V150 = fw_up V149 o 21 (.ref (b + n143)) → n148 + 1 ≤ n + 34 ∧ (layU n148 = (100, 6) ∧ (∀ n153, n153 = n148 + 1 → ∀ V154 : fw_V, V154 = fw_nw V150 n148 (fun _ => defaultValue .int) → ∀ V155 : fw_V, V155 = fw_up V154 o 22 (.ref (b + n148)) → n153 + 1 ≤ n + 34 ∧ (layU n153 = (100, 6) ∧ (∀ n158, n158 = n153 + 1 → ∀ V159 : fw_V, V159 = fw_nw V155 n153 (fun _ => defaultValue .int) → ∀ V160 : fw_V, V160 = fw_up V159 o 23 (.ref (b + n153)) → n158 + 1 ≤ n + 34 ∧ (layU n158 = (101, 6) ∧ (∀ n163, n163 = n158 + 1 → ∀ V164 : fw_V, V164 = fw_nw V160 n158 (fun _ => defaultValue .long) → ∀ V165 : fw_V, V165 = fw_up V164 o 24 (.ref (b + n158)) → n163 + 1 ≤ n + 34 ∧ (layU n163 = (102, 6) ∧ (∀ n168, n168 = n163 + 1 → ∀ V169 : fw_V, V169 = fw_nw V165 n163 (fun _ => defaultValue .boolean) → ∀ V170 : fw_V, V170 = fw_up V169 o 25 (.ref (b + n163)) → n168 + 1 ≤ n + 34 ∧ (layU n168 = (100, 6) ∧ (∀ n173, n173 = n168 + 1 → ∀ V174 : fw_V, V174 = fw_nw V170 n168 (fun _ => defaultValue .int) → ∀ V175 : fw_V, V175 = fw_up V174 o 26 (.ref (b + n168)) → n173 + 1 ≤ n + 34 ∧ (layU n173 = (100, 6) ∧ (∀ n178, n178 = n173 + 1 → ∀ V179 : fw_V, V179 = fw_nw V175 n173 (fun _ => defaultValue .int) → ∀ V180 : fw_V, V180 = fw_up V179 o 27 (.ref (b + n173)) → n178 + 1 ≤ n + 34 ∧ (layU n178 = (102, 6) ∧ (∀ n183, n183 = n178 + 1 → ∀ V184 : fw_V, V184 = fw_nw V180 n178 (fun _ => defaultValue .boolean) → ∀ V185 : fw_V, V185 = fw_up V184 o 28 (.ref (b + n178)) → n183 + 1 ≤ n + 34 ∧ (layU n183 = (100, 6) ∧ (∀ n188, n188 = n183 + 1 → ∀ V189 : fw_V, V189 = fw_nw V185 n183 (fun _ => defaultValue .int) → ∀ V190 : fw_V, V190 = fw_up V189 o 29 (.ref (b + n183)) → n188 + 1 ≤ n + 34 ∧ (layU n188 = (100, 6) ∧ (∀ n193, n193 = n188 + 1 → ∀ V194 : fw_V, V194 = fw_nw V190 n188 (fun _ => defaultValue .int) → ∀ V195 : fw_V, V195 = fw_up V194 o 30 (.ref (b + n188)) → n193 + 1 ≤ n + 34 ∧ (layU n193 = (101, 6) ∧ (∀ n198, n198 = n193 + 1 → ∀ V199 : fw_V, V199 = fw_nw V195 n193 (fun _ => defaultValue .long) → ∀ V200 : fw_V, V200 = fw_up V199 o 31 (.ref (b + n193)) → n198 + 1 ≤ n + 34 ∧ (layU n198 = (101, 6) ∧ (∀ n203, n203 = n198 + 1 → ∀ V204 : fw_V, V204 = fw_nw V200 n198 (fun _ => defaultValue .long) → ∀ V205 : fw_V, V205 = fw_up V204 o 32 (.ref (b + n198)) → n203 + 1 ≤ n + 34 ∧ (layU n203 = (101, 6) ∧ (∀ n208, n208 = n203 + 1 → ∀ V209 : fw_V, V209 = fw_nw V205 n203 (fun _ => defaultValue .long) → ∀ V210 : fw_V, V210 = fw_up V209 o 33 (.ref (b + n203)) → n208 + 1 ≤ n + 34 ∧ (layU n208 = (100, 6) ∧ (∀ n213, n213 = n208 + 1 → ∀ V214 : fw_V, V214 = fw_nw V210 n208 (fun _ => defaultValue .int) → ∀ V215 : fw_V, V215 = fw_up V214 o 34 (.ref (b + n208)) → n213 + 1 ≤ n + 34 ∧ (layU n213 = (100, 640) ∧ (∀ n218, n218 = n213 + 1 → ∀ V219 : fw_V, V219 = fw_nw V215 n213 (fun _ => defaultValue .int) → ∀ V220 : fw_V, V220 = fw_up V219 o 36 (.ref (b + n213)) → n218 + 1 ≤ n + 34 ∧ (layU n218 = (101, 16) ∧ (∀ n223, n223 = n218 + 1 → ∀ V224 : fw_V, V224 = fw_nw V220 n218 (fun _ => defaultValue .long) → ∀ V225 : fw_V, V225 = fw_up V224 o 37 (.ref (b + n218)) → n223 + 1 ≤ n + 34 ∧ (layU n223 = (100, 6) ∧ (∀ n228, n228 = n223 + 1 → ∀ V229 : fw_V, V229 = fw_nw V225 n223 (fun _ => defaultValue .int) → ∀ V230 : fw_V, V230 = fw_up V229 o 38 (.ref (b + n223)) → n228 = n + 34 ∧ (post n228 V230))))))))))))))))))))))))))))))))))))))))))))))))))))))))))))))))))))))))))))))))))))))))))))))))))))
set_option maxHeartbeats 4000000 in
set_option maxRecDepth 100000 in
theorem mv_M_init (l : Launch) (D : va_G) (cA : Nat → ClassId) (b n : Nat) (V : fw_V) (o : Nat) (ho : o < n ∧ layU o = (10, 0)) (post : Nat → fw_V → Prop) (hw : wv_M_init b n V o post) : Met l yy_M_init ww_M_init rm_M_init (fw_PcV D CL cA (TYS cA) layU b n V [.ref (b + o)]) (va_Qv (fun u : Nat × fw_V => post u.1 u.2) (fw_BV D CL cA layU b (n + 34) (SL n + 2048)) (fw_Ac b)) 34 2048 (fw_Ac b) := by
  refine Met.ofW (cc := bb_M_init) (maxL := 1) (ret := none) (by decide) rfl ?_
  intro p e s m args below meth c s₁ B hml hv
  obtain ⟨rfl, hP, hz, hK, hV⟩ := hv
  have hx := B.exec
  have hb := B.bytes
  have hr := B.returns
  have hts := atoms_spec (ws := ww_M_init) B.pre
  have hown : s.vm.findClass "OutletOfficeModel" = some m.cls := findClass_of_methodNamed B.named
  have hlocks := B.notSynchronized
  have hin : meth.name = "<init>" := (name_of_methodNamed B.named B.method).1
  have ho1 := ho.1
  have hS : va_S (fw_Ac b) s.heap s.heap [] := va_S.rf
  have hl := lv_entry ([.ref (b + o)]) (n := 1) (Nat.le_of_ble_eq_true rfl)
  rw [lg_entry_eq]
  generalize (lg_sl ([.ref (b + o)]) ++ List.replicate (1 - (lg_sl ([.ref (b + o)])).length) Slot.unset).toArray = ls at hl ⊢
  have hl : lv_has ls 1 [(0, .ref (b + o))] := hl
  unfold wv_M_init at hw
  obtain ⟨hSLt, hw⟩ := hw
  refine W.cs (show 0 = n - n by omega) (show 0 = SL n - SL n by omega) ?_
  refine lv_aload_n hx hb dd_M_init_0 rfl (lv_at hl 0 rfl) ?_
  refine W.objInit hx hb hown (hts _ (tb_in tw_780)) (hts _ (tb_in tw_25)) (hts _ (tb_in tw_26)) rfl (hl.1.trans hml.symm) rfl dd_M_init_1 (Nat.le_of_ble_eq_true rfl) (Nat.le_of_ble_eq_true rfl) ?_
  refine W.eq (g2 := F0 m 4 ls []) rfl ?_
  refine lv_aload_n hx hb dd_M_init_4 rfl (lv_at hl 0 rfl) ?_
  refine lv_iconst (v := 2) hx hb dd_M_init_5 kc_ic_2 ?_
  obtain ⟨h1, hw⟩ := hw
  obtain ⟨h2, hw⟩ := hw
  obtain ⟨n3, e_n3⟩ : ∃ z, z = n + 1 := ⟨_, rfl⟩
  have s_n3 : SL n3 = SL n + 2 := by rw [e_n3, SL_succ, h2]; rfl
  have t_n3 : SL n3 ≤ SL (n + 34) := SL_mono (by omega)
  have g_n3 : SL n ≤ SL n := SL_mono (by omega)
  refine fw_newA hx hb (atype := .int) (hts _ (tb_in tw_48)) (ty := .int) rfl (fun C0 h0 => by cases h0) hK hP hz hS h2 (by decide) 0 rfl (by decide) (by decide) (by decide) (show n - n + 1 ≤ 34 by omega) (show SL n - SL n + 2 ≤ 2048 by omega) dd_M_init_6 (fun H hP hz hS => ?_)
  have hw := hw n3 e_n3
  rw [← e_n3] at hP hz
  refine W.cs (show n - n + 1 = n3 - n by omega) (show SL n - SL n + 2 = SL n3 - SL n by omega) ?_
  obtain ⟨V4, e_V4⟩ : ∃ z, z = fw_nw V n (fun _ => defaultValue .int) := ⟨_, rfl⟩
  rw [← e_V4] at hP
  have hw := hw V4 e_V4
  refine lv_dup hx hb dd_M_init_8 rfl ?_
  refine lv_iconst (v := 0) hx hb dd_M_init_9 kc_ic_0 ?_
  refine lv_sipush (v := 480) hx hb dd_M_init_10 kc_sp_480 ?_
  obtain ⟨h5, hw⟩ := hw
  refine fw_iastV hx hb hK hP hS (show b ≤ b + n by omega) ⟨by omega, h2⟩ (by decide) 0 rfl h5 dd_M_init_13 (fun H locs hP hS hz9 => ?_)
  rw [← hz9] at hz
  obtain ⟨V6, e_V6⟩ : ∃ z, z = fw_up V4 n (0 : Int32).toNatClampNeg (.int 480) := ⟨_, rfl⟩
  rw [← e_V6] at hP
  have hw := hw V6 e_V6
  refine lv_dup hx hb dd_M_init_14 rfl ?_
  refine lv_iconst (v := 1) hx hb dd_M_init_15 kc_ic_1 ?_
  refine lv_sipush (v := 480) hx hb dd_M_init_16 kc_sp_480 ?_
  obtain ⟨h7, hw⟩ := hw
  refine fw_iastV hx hb hK hP hS (show b ≤ b + n by omega) ⟨by omega, h2⟩ (by decide) 0 rfl h7 dd_M_init_19 (fun H locs hP hS hz9 => ?_)
  rw [← hz9] at hz
  obtain ⟨V8, e_V8⟩ : ∃ z, z = fw_up V6 n (1 : Int32).toNatClampNeg (.int 480) := ⟨_, rfl⟩
  rw [← e_V8] at hP
  have hw := hw V8 e_V8
  refine fw_putFV hx hb hts in_10 F_ty_10 F_tyok_10 F_nm_10 hown hK hP hS (show b ≤ b + o by omega) ⟨by omega, ho.2⟩ (by decide) rfl 2 (by decide) (hts _ (tb_in tw_783)) rfl hin rfl (ty := .array (.int)) (by decide +kernel) rfl rfl dd_M_init_20 (fun H locs hP hS hz9 => ?_)
  rw [← hz9] at hz
  obtain ⟨V9, e_V9⟩ : ∃ z, z = fw_up V8 o 2 (.ref (b + n)) := ⟨_, rfl⟩
  rw [← e_V9] at hP
  have hw := hw V9 e_V9
  refine lv_aload_n hx hb dd_M_init_23 rfl (lv_at hl 0 rfl) ?_
  refine lv_iconst (v := 4) hx hb dd_M_init_24 kc_ic_4 ?_
  obtain ⟨h10, hw⟩ := hw
  obtain ⟨h11, hw⟩ := hw
  obtain ⟨n12, e_n12⟩ : ∃ z, z = n3 + 1 := ⟨_, rfl⟩
  have s_n12 : SL n12 = SL n3 + 4 := by rw [e_n12, SL_succ, h11]; rfl
  have t_n12 : SL n12 ≤ SL (n + 34) := SL_mono (by omega)
  have g_n12 : SL n ≤ SL n3 := SL_mono (by omega)
  refine fw_newA hx hb (atype := .int) (hts _ (tb_in tw_48)) (ty := .int) rfl (fun C0 h0 => by cases h0) hK hP hz hS h11 (by decide) 0 rfl (by decide) (by decide) (by decide) (show n3 - n + 1 ≤ 34 by omega) (show SL n3 - SL n + 4 ≤ 2048 by omega) dd_M_init_25 (fun H hP hz hS => ?_)
  have hw := hw n12 e_n12
  rw [← e_n12] at hP hz
  refine W.cs (show n3 - n + 1 = n12 - n by omega) (show SL n3 - SL n + 4 = SL n12 - SL n by omega) ?_
  obtain ⟨V13, e_V13⟩ : ∃ z, z = fw_nw V9 n3 (fun _ => defaultValue .int) := ⟨_, rfl⟩
  rw [← e_V13] at hP
  have hw := hw V13 e_V13
  refine lv_dup hx hb dd_M_init_27 rfl ?_
  refine lv_iconst (v := 0) hx hb dd_M_init_28 kc_ic_0 ?_
  refine lv_iconst (v := (-1)) hx hb dd_M_init_29 kc_ic_m1 ?_
  obtain ⟨h14, hw⟩ := hw
  refine fw_iastV hx hb hK hP hS (show b ≤ b + n3 by omega) ⟨by omega, h11⟩ (by decide) 0 rfl h14 dd_M_init_30 (fun H locs hP hS hz9 => ?_)
  rw [← hz9] at hz
  obtain ⟨V15, e_V15⟩ : ∃ z, z = fw_up V13 n3 (0 : Int32).toNatClampNeg (.int (-1)) := ⟨_, rfl⟩
  rw [← e_V15] at hP
  have hw := hw V15 e_V15
  refine lv_dup hx hb dd_M_init_31 rfl ?_
  refine lv_iconst (v := 1) hx hb dd_M_init_32 kc_ic_1 ?_
  refine lv_iconst (v := (-1)) hx hb dd_M_init_33 kc_ic_m1 ?_
  obtain ⟨h16, hw⟩ := hw
  refine fw_iastV hx hb hK hP hS (show b ≤ b + n3 by omega) ⟨by omega, h11⟩ (by decide) 0 rfl h16 dd_M_init_34 (fun H locs hP hS hz9 => ?_)
  rw [← hz9] at hz
  obtain ⟨V17, e_V17⟩ : ∃ z, z = fw_up V15 n3 (1 : Int32).toNatClampNeg (.int (-1)) := ⟨_, rfl⟩
  rw [← e_V17] at hP
  have hw := hw V17 e_V17
  refine lv_dup hx hb dd_M_init_35 rfl ?_
  refine lv_iconst (v := 2) hx hb dd_M_init_36 kc_ic_2 ?_
  refine lv_iconst (v := (-1)) hx hb dd_M_init_37 kc_ic_m1 ?_
  obtain ⟨h18, hw⟩ := hw
  refine fw_iastV hx hb hK hP hS (show b ≤ b + n3 by omega) ⟨by omega, h11⟩ (by decide) 0 rfl h18 dd_M_init_38 (fun H locs hP hS hz9 => ?_)
  rw [← hz9] at hz
  obtain ⟨V19, e_V19⟩ : ∃ z, z = fw_up V17 n3 (2 : Int32).toNatClampNeg (.int (-1)) := ⟨_, rfl⟩
  rw [← e_V19] at hP
  have hw := hw V19 e_V19
  refine lv_dup hx hb dd_M_init_39 rfl ?_
  refine lv_iconst (v := 3) hx hb dd_M_init_40 kc_ic_3 ?_
  refine lv_iconst (v := (-1)) hx hb dd_M_init_41 kc_ic_m1 ?_
  obtain ⟨h20, hw⟩ := hw
  refine fw_iastV hx hb hK hP hS (show b ≤ b + n3 by omega) ⟨by omega, h11⟩ (by decide) 0 rfl h20 dd_M_init_42 (fun H locs hP hS hz9 => ?_)
  rw [← hz9] at hz
  obtain ⟨V21, e_V21⟩ : ∃ z, z = fw_up V19 n3 (3 : Int32).toNatClampNeg (.int (-1)) := ⟨_, rfl⟩
  rw [← e_V21] at hP
  have hw := hw V21 e_V21
  refine fw_putFV hx hb hts in_10 F_ty_10 F_tyok_10 F_nm_10 hown hK hP hS (show b ≤ b + o by omega) ⟨by omega, ho.2⟩ (by decide) rfl 3 (by decide) (hts _ (tb_in tw_784)) rfl hin rfl (ty := .array (.int)) (by decide +kernel) rfl rfl dd_M_init_43 (fun H locs hP hS hz9 => ?_)
  rw [← hz9] at hz
  obtain ⟨V22, e_V22⟩ : ∃ z, z = fw_up V21 o 3 (.ref (b + n3)) := ⟨_, rfl⟩
  rw [← e_V22] at hP
  have hw := hw V22 e_V22
  refine lv_aload_n hx hb dd_M_init_46 rfl (lv_at hl 0 rfl) ?_
  refine lv_iconst (v := 4) hx hb dd_M_init_47 kc_ic_4 ?_
  obtain ⟨h23, hw⟩ := hw
  obtain ⟨h24, hw⟩ := hw
  obtain ⟨n25, e_n25⟩ : ∃ z, z = n12 + 1 := ⟨_, rfl⟩
  have s_n25 : SL n25 = SL n12 + 4 := by rw [e_n25, SL_succ, h24]; rfl
  have t_n25 : SL n25 ≤ SL (n + 34) := SL_mono (by omega)
  have g_n25 : SL n ≤ SL n12 := SL_mono (by omega)
  refine fw_newA hx hb (atype := .int) (hts _ (tb_in tw_48)) (ty := .int) rfl (fun C0 h0 => by cases h0) hK hP hz hS h24 (by decide) 0 rfl (by decide) (by decide) (by decide) (show n12 - n + 1 ≤ 34 by omega) (show SL n12 - SL n + 4 ≤ 2048 by omega) dd_M_init_48 (fun H hP hz hS => ?_)
  have hw := hw n25 e_n25
  rw [← e_n25] at hP hz
  refine W.cs (show n12 - n + 1 = n25 - n by omega) (show SL n12 - SL n + 4 = SL n25 - SL n by omega) ?_
  obtain ⟨V26, e_V26⟩ : ∃ z, z = fw_nw V22 n12 (fun _ => defaultValue .int) := ⟨_, rfl⟩
  rw [← e_V26] at hP
  have hw := hw V26 e_V26
  refine fw_putFV hx hb hts in_10 F_ty_10 F_tyok_10 F_nm_10 hown hK hP hS (show b ≤ b + o by omega) ⟨by omega, ho.2⟩ (by decide) rfl 4 (by decide) (hts _ (tb_in tw_785)) rfl hin rfl (ty := .array (.int)) (by decide +kernel) rfl rfl dd_M_init_50 (fun H locs hP hS hz9 => ?_)
  rw [← hz9] at hz
  obtain ⟨V27, e_V27⟩ : ∃ z, z = fw_up V26 o 4 (.ref (b + n12)) := ⟨_, rfl⟩
  rw [← e_V27] at hP
  have hw := hw V27 e_V27
  refine lv_aload_n hx hb dd_M_init_53 rfl (lv_at hl 0 rfl) ?_
  refine lv_bipush (v := 112) hx hb dd_M_init_54 kc_bp_112 ?_
  obtain ⟨h28, hw⟩ := hw
  obtain ⟨h29, hw⟩ := hw
  obtain ⟨n30, e_n30⟩ : ∃ z, z = n25 + 1 := ⟨_, rfl⟩
  have s_n30 : SL n30 = SL n25 + 112 := by rw [e_n30, SL_succ, h29]; rfl
  have t_n30 : SL n30 ≤ SL (n + 34) := SL_mono (by omega)
  have g_n30 : SL n ≤ SL n25 := SL_mono (by omega)
  refine fw_newA hx hb (atype := .int) (hts _ (tb_in tw_48)) (ty := .int) rfl (fun C0 h0 => by cases h0) hK hP hz hS h29 (by decide) 0 rfl (by decide) (by decide) (by decide) (show n25 - n + 1 ≤ 34 by omega) (show SL n25 - SL n + 112 ≤ 2048 by omega) dd_M_init_56 (fun H hP hz hS => ?_)
  have hw := hw n30 e_n30
  rw [← e_n30] at hP hz
  refine W.cs (show n25 - n + 1 = n30 - n by omega) (show SL n25 - SL n + 112 = SL n30 - SL n by omega) ?_
  obtain ⟨V31, e_V31⟩ : ∃ z, z = fw_nw V27 n25 (fun _ => defaultValue .int) := ⟨_, rfl⟩
  rw [← e_V31] at hP
  have hw := hw V31 e_V31
  refine fw_putFV hx hb hts in_10 F_ty_10 F_tyok_10 F_nm_10 hown hK hP hS (show b ≤ b + o by omega) ⟨by omega, ho.2⟩ (by decide) rfl 7 (by decide) (hts _ (tb_in tw_788)) rfl hin rfl (ty := .array (.int)) (by decide +kernel) rfl rfl dd_M_init_58 (fun H locs hP hS hz9 => ?_)
  rw [← hz9] at hz
  obtain ⟨V32, e_V32⟩ : ∃ z, z = fw_up V31 o 7 (.ref (b + n25)) := ⟨_, rfl⟩
  rw [← e_V32] at hP
  have hw := hw V32 e_V32
  refine lv_aload_n hx hb dd_M_init_61 rfl (lv_at hl 0 rfl) ?_
  refine lv_bipush (v := 112) hx hb dd_M_init_62 kc_bp_112 ?_
  obtain ⟨h33, hw⟩ := hw
  obtain ⟨h34, hw⟩ := hw
  obtain ⟨n35, e_n35⟩ : ∃ z, z = n30 + 1 := ⟨_, rfl⟩
  have s_n35 : SL n35 = SL n30 + 112 := by rw [e_n35, SL_succ, h34]; rfl
  have t_n35 : SL n35 ≤ SL (n + 34) := SL_mono (by omega)
  have g_n35 : SL n ≤ SL n30 := SL_mono (by omega)
  refine fw_newA hx hb (atype := .int) (hts _ (tb_in tw_48)) (ty := .int) rfl (fun C0 h0 => by cases h0) hK hP hz hS h34 (by decide) 0 rfl (by decide) (by decide) (by decide) (show n30 - n + 1 ≤ 34 by omega) (show SL n30 - SL n + 112 ≤ 2048 by omega) dd_M_init_64 (fun H hP hz hS => ?_)
  have hw := hw n35 e_n35
  rw [← e_n35] at hP hz
  refine W.cs (show n30 - n + 1 = n35 - n by omega) (show SL n30 - SL n + 112 = SL n35 - SL n by omega) ?_
  obtain ⟨V36, e_V36⟩ : ∃ z, z = fw_nw V32 n30 (fun _ => defaultValue .int) := ⟨_, rfl⟩
  rw [← e_V36] at hP
  have hw := hw V36 e_V36
  refine fw_putFV hx hb hts in_10 F_ty_10 F_tyok_10 F_nm_10 hown hK hP hS (show b ≤ b + o by omega) ⟨by omega, ho.2⟩ (by decide) rfl 8 (by decide) (hts _ (tb_in tw_789)) rfl hin rfl (ty := .array (.int)) (by decide +kernel) rfl rfl dd_M_init_66 (fun H locs hP hS hz9 => ?_)
  rw [← hz9] at hz
  obtain ⟨V37, e_V37⟩ : ∃ z, z = fw_up V36 o 8 (.ref (b + n30)) := ⟨_, rfl⟩
  rw [← e_V37] at hP
  have hw := hw V37 e_V37
  refine lv_aload_n hx hb dd_M_init_69 rfl (lv_at hl 0 rfl) ?_
  refine lv_bipush (v := 6) hx hb dd_M_init_70 kc_bp_6 ?_
  obtain ⟨h38, hw⟩ := hw
  obtain ⟨h39, hw⟩ := hw
  obtain ⟨n40, e_n40⟩ : ∃ z, z = n35 + 1 := ⟨_, rfl⟩
  have s_n40 : SL n40 = SL n35 + 6 := by rw [e_n40, SL_succ, h39]; rfl
  have t_n40 : SL n40 ≤ SL (n + 34) := SL_mono (by omega)
  have g_n40 : SL n ≤ SL n35 := SL_mono (by omega)
  refine fw_newA hx hb (atype := .boolean) (hts _ (tb_in tw_902)) (ty := .boolean) rfl (fun C0 h0 => by cases h0) hK hP hz hS h39 (by decide) 2 rfl (by decide) (by decide) (by decide) (show n35 - n + 1 ≤ 34 by omega) (show SL n35 - SL n + 6 ≤ 2048 by omega) dd_M_init_72 (fun H hP hz hS => ?_)
  have hw := hw n40 e_n40
  rw [← e_n40] at hP hz
  refine W.cs (show n35 - n + 1 = n40 - n by omega) (show SL n35 - SL n + 6 = SL n40 - SL n by omega) ?_
  obtain ⟨V41, e_V41⟩ : ∃ z, z = fw_nw V37 n35 (fun _ => defaultValue .boolean) := ⟨_, rfl⟩
  rw [← e_V41] at hP
  have hw := hw V41 e_V41
  refine lv_dup hx hb dd_M_init_74 rfl ?_
  refine lv_iconst (v := 0) hx hb dd_M_init_75 kc_ic_0 ?_
  refine lv_iconst (v := 1) hx hb dd_M_init_76 kc_ic_1 ?_
  obtain ⟨h42, hw⟩ := hw
  refine fw_zastV hx hb hK hP hS (show b ≤ b + n35 by omega) ⟨by omega, h39⟩ (by decide) 2 rfl h42 dd_M_init_77 (fun H locs hP hS hz9 => ?_)
  rw [← hz9] at hz
  obtain ⟨V43, e_V43⟩ : ∃ z, z = fw_up V41 n35 (0 : Int32).toNatClampNeg (.int (fw_z 1)) := ⟨_, rfl⟩
  rw [← e_V43] at hP
  have hw := hw V43 e_V43
  refine lv_dup hx hb dd_M_init_78 rfl ?_
  refine lv_iconst (v := 1) hx hb dd_M_init_79 kc_ic_1 ?_
  refine lv_iconst (v := 1) hx hb dd_M_init_80 kc_ic_1 ?_
  obtain ⟨h44, hw⟩ := hw
  refine fw_zastV hx hb hK hP hS (show b ≤ b + n35 by omega) ⟨by omega, h39⟩ (by decide) 2 rfl h44 dd_M_init_81 (fun H locs hP hS hz9 => ?_)
  rw [← hz9] at hz
  obtain ⟨V45, e_V45⟩ : ∃ z, z = fw_up V43 n35 (1 : Int32).toNatClampNeg (.int (fw_z 1)) := ⟨_, rfl⟩
  rw [← e_V45] at hP
  have hw := hw V45 e_V45
  refine lv_dup hx hb dd_M_init_82 rfl ?_
  refine lv_iconst (v := 2) hx hb dd_M_init_83 kc_ic_2 ?_
  refine lv_iconst (v := 1) hx hb dd_M_init_84 kc_ic_1 ?_
  obtain ⟨h46, hw⟩ := hw
  refine fw_zastV hx hb hK hP hS (show b ≤ b + n35 by omega) ⟨by omega, h39⟩ (by decide) 2 rfl h46 dd_M_init_85 (fun H locs hP hS hz9 => ?_)
  rw [← hz9] at hz
  obtain ⟨V47, e_V47⟩ : ∃ z, z = fw_up V45 n35 (2 : Int32).toNatClampNeg (.int (fw_z 1)) := ⟨_, rfl⟩
  rw [← e_V47] at hP
  have hw := hw V47 e_V47
  refine lv_dup hx hb dd_M_init_86 rfl ?_
  refine lv_iconst (v := 3) hx hb dd_M_init_87 kc_ic_3 ?_
  refine lv_iconst (v := 1) hx hb dd_M_init_88 kc_ic_1 ?_
  obtain ⟨h48, hw⟩ := hw
  refine fw_zastV hx hb hK hP hS (show b ≤ b + n35 by omega) ⟨by omega, h39⟩ (by decide) 2 rfl h48 dd_M_init_89 (fun H locs hP hS hz9 => ?_)
  rw [← hz9] at hz
  obtain ⟨V49, e_V49⟩ : ∃ z, z = fw_up V47 n35 (3 : Int32).toNatClampNeg (.int (fw_z 1)) := ⟨_, rfl⟩
  rw [← e_V49] at hP
  have hw := hw V49 e_V49
  refine lv_dup hx hb dd_M_init_90 rfl ?_
  refine lv_iconst (v := 4) hx hb dd_M_init_91 kc_ic_4 ?_
  refine lv_iconst (v := 1) hx hb dd_M_init_92 kc_ic_1 ?_
  obtain ⟨h50, hw⟩ := hw
  refine fw_zastV hx hb hK hP hS (show b ≤ b + n35 by omega) ⟨by omega, h39⟩ (by decide) 2 rfl h50 dd_M_init_93 (fun H locs hP hS hz9 => ?_)
  rw [← hz9] at hz
  obtain ⟨V51, e_V51⟩ : ∃ z, z = fw_up V49 n35 (4 : Int32).toNatClampNeg (.int (fw_z 1)) := ⟨_, rfl⟩
  rw [← e_V51] at hP
  have hw := hw V51 e_V51
  refine lv_dup hx hb dd_M_init_94 rfl ?_
  refine lv_iconst (v := 5) hx hb dd_M_init_95 kc_ic_5 ?_
  refine lv_iconst (v := 1) hx hb dd_M_init_96 kc_ic_1 ?_
  obtain ⟨h52, hw⟩ := hw
  refine fw_zastV hx hb hK hP hS (show b ≤ b + n35 by omega) ⟨by omega, h39⟩ (by decide) 2 rfl h52 dd_M_init_97 (fun H locs hP hS hz9 => ?_)
  rw [← hz9] at hz
  obtain ⟨V53, e_V53⟩ : ∃ z, z = fw_up V51 n35 (5 : Int32).toNatClampNeg (.int (fw_z 1)) := ⟨_, rfl⟩
  rw [← e_V53] at hP
  have hw := hw V53 e_V53
  refine fw_putFV hx hb hts in_10 F_ty_10 F_tyok_10 F_nm_10 hown hK hP hS (show b ≤ b + o by omega) ⟨by omega, ho.2⟩ (by decide) rfl 9 (by decide) (hts _ (tb_in tw_790)) rfl hin rfl (ty := .array (.boolean)) (by decide +kernel) rfl rfl dd_M_init_98 (fun H locs hP hS hz9 => ?_)
  rw [← hz9] at hz
  obtain ⟨V54, e_V54⟩ : ∃ z, z = fw_up V53 o 9 (.ref (b + n35)) := ⟨_, rfl⟩
  rw [← e_V54] at hP
  have hw := hw V54 e_V54
  refine lv_aload_n hx hb dd_M_init_101 rfl (lv_at hl 0 rfl) ?_
  refine lv_bipush (v := 6) hx hb dd_M_init_102 kc_bp_6 ?_
  obtain ⟨h55, hw⟩ := hw
  obtain ⟨h56, hw⟩ := hw
  obtain ⟨n57, e_n57⟩ : ∃ z, z = n40 + 1 := ⟨_, rfl⟩
  have s_n57 : SL n57 = SL n40 + 6 := by rw [e_n57, SL_succ, h56]; rfl
  have t_n57 : SL n57 ≤ SL (n + 34) := SL_mono (by omega)
  have g_n57 : SL n ≤ SL n40 := SL_mono (by omega)
  refine fw_newA hx hb (atype := .boolean) (hts _ (tb_in tw_902)) (ty := .boolean) rfl (fun C0 h0 => by cases h0) hK hP hz hS h56 (by decide) 2 rfl (by decide) (by decide) (by decide) (show n40 - n + 1 ≤ 34 by omega) (show SL n40 - SL n + 6 ≤ 2048 by omega) dd_M_init_104 (fun H hP hz hS => ?_)
  have hw := hw n57 e_n57
  rw [← e_n57] at hP hz
  refine W.cs (show n40 - n + 1 = n57 - n by omega) (show SL n40 - SL n + 6 = SL n57 - SL n by omega) ?_
  obtain ⟨V58, e_V58⟩ : ∃ z, z = fw_nw V54 n40 (fun _ => defaultValue .boolean) := ⟨_, rfl⟩
  rw [← e_V58] at hP
  have hw := hw V58 e_V58
  refine lv_dup hx hb dd_M_init_106 rfl ?_
  refine lv_iconst (v := 0) hx hb dd_M_init_107 kc_ic_0 ?_
  refine lv_iconst (v := 1) hx hb dd_M_init_108 kc_ic_1 ?_
  obtain ⟨h59, hw⟩ := hw
  refine fw_zastV hx hb hK hP hS (show b ≤ b + n40 by omega) ⟨by omega, h56⟩ (by decide) 2 rfl h59 dd_M_init_109 (fun H locs hP hS hz9 => ?_)
  rw [← hz9] at hz
  obtain ⟨V60, e_V60⟩ : ∃ z, z = fw_up V58 n40 (0 : Int32).toNatClampNeg (.int (fw_z 1)) := ⟨_, rfl⟩
  rw [← e_V60] at hP
  have hw := hw V60 e_V60
  refine lv_dup hx hb dd_M_init_110 rfl ?_
  refine lv_iconst (v := 1) hx hb dd_M_init_111 kc_ic_1 ?_
  refine lv_iconst (v := 1) hx hb dd_M_init_112 kc_ic_1 ?_
  obtain ⟨h61, hw⟩ := hw
  refine fw_zastV hx hb hK hP hS (show b ≤ b + n40 by omega) ⟨by omega, h56⟩ (by decide) 2 rfl h61 dd_M_init_113 (fun H locs hP hS hz9 => ?_)
  rw [← hz9] at hz
  obtain ⟨V62, e_V62⟩ : ∃ z, z = fw_up V60 n40 (1 : Int32).toNatClampNeg (.int (fw_z 1)) := ⟨_, rfl⟩
  rw [← e_V62] at hP
  have hw := hw V62 e_V62
  refine lv_dup hx hb dd_M_init_114 rfl ?_
  refine lv_iconst (v := 2) hx hb dd_M_init_115 kc_ic_2 ?_
  refine lv_iconst (v := 1) hx hb dd_M_init_116 kc_ic_1 ?_
  obtain ⟨h63, hw⟩ := hw
  refine fw_zastV hx hb hK hP hS (show b ≤ b + n40 by omega) ⟨by omega, h56⟩ (by decide) 2 rfl h63 dd_M_init_117 (fun H locs hP hS hz9 => ?_)
  rw [← hz9] at hz
  obtain ⟨V64, e_V64⟩ : ∃ z, z = fw_up V62 n40 (2 : Int32).toNatClampNeg (.int (fw_z 1)) := ⟨_, rfl⟩
  rw [← e_V64] at hP
  have hw := hw V64 e_V64
  refine lv_dup hx hb dd_M_init_118 rfl ?_
  refine lv_iconst (v := 3) hx hb dd_M_init_119 kc_ic_3 ?_
  refine lv_iconst (v := 1) hx hb dd_M_init_120 kc_ic_1 ?_
  obtain ⟨h65, hw⟩ := hw
  refine fw_zastV hx hb hK hP hS (show b ≤ b + n40 by omega) ⟨by omega, h56⟩ (by decide) 2 rfl h65 dd_M_init_121 (fun H locs hP hS hz9 => ?_)
  rw [← hz9] at hz
  obtain ⟨V66, e_V66⟩ : ∃ z, z = fw_up V64 n40 (3 : Int32).toNatClampNeg (.int (fw_z 1)) := ⟨_, rfl⟩
  rw [← e_V66] at hP
  have hw := hw V66 e_V66
  refine lv_dup hx hb dd_M_init_122 rfl ?_
  refine lv_iconst (v := 4) hx hb dd_M_init_123 kc_ic_4 ?_
  refine lv_iconst (v := 1) hx hb dd_M_init_124 kc_ic_1 ?_
  obtain ⟨h67, hw⟩ := hw
  refine fw_zastV hx hb hK hP hS (show b ≤ b + n40 by omega) ⟨by omega, h56⟩ (by decide) 2 rfl h67 dd_M_init_125 (fun H locs hP hS hz9 => ?_)
  rw [← hz9] at hz
  obtain ⟨V68, e_V68⟩ : ∃ z, z = fw_up V66 n40 (4 : Int32).toNatClampNeg (.int (fw_z 1)) := ⟨_, rfl⟩
  rw [← e_V68] at hP
  have hw := hw V68 e_V68
  refine lv_dup hx hb dd_M_init_126 rfl ?_
  refine lv_iconst (v := 5) hx hb dd_M_init_127 kc_ic_5 ?_
  refine lv_iconst (v := 1) hx hb dd_M_init_128 kc_ic_1 ?_
  obtain ⟨h69, hw⟩ := hw
  refine fw_zastV hx hb hK hP hS (show b ≤ b + n40 by omega) ⟨by omega, h56⟩ (by decide) 2 rfl h69 dd_M_init_129 (fun H locs hP hS hz9 => ?_)
  rw [← hz9] at hz
  obtain ⟨V70, e_V70⟩ : ∃ z, z = fw_up V68 n40 (5 : Int32).toNatClampNeg (.int (fw_z 1)) := ⟨_, rfl⟩
  rw [← e_V70] at hP
  have hw := hw V70 e_V70
  refine fw_putFV hx hb hts in_10 F_ty_10 F_tyok_10 F_nm_10 hown hK hP hS (show b ≤ b + o by omega) ⟨by omega, ho.2⟩ (by decide) rfl 10 (by decide) (hts _ (tb_in tw_791)) rfl hin rfl (ty := .array (.boolean)) (by decide +kernel) rfl rfl dd_M_init_130 (fun H locs hP hS hz9 => ?_)
  rw [← hz9] at hz
  obtain ⟨V71, e_V71⟩ : ∃ z, z = fw_up V70 o 10 (.ref (b + n40)) := ⟨_, rfl⟩
  rw [← e_V71] at hP
  have hw := hw V71 e_V71
  refine lv_aload_n hx hb dd_M_init_133 rfl (lv_at hl 0 rfl) ?_
  refine lv_bipush (v := 6) hx hb dd_M_init_134 kc_bp_6 ?_
  obtain ⟨h72, hw⟩ := hw
  obtain ⟨h73, hw⟩ := hw
  obtain ⟨n74, e_n74⟩ : ∃ z, z = n57 + 1 := ⟨_, rfl⟩
  have s_n74 : SL n74 = SL n57 + 6 := by rw [e_n74, SL_succ, h73]; rfl
  have t_n74 : SL n74 ≤ SL (n + 34) := SL_mono (by omega)
  have g_n74 : SL n ≤ SL n57 := SL_mono (by omega)
  refine fw_newA hx hb (atype := .long) (hts _ (tb_in tw_110)) (ty := .long) rfl (fun C0 h0 => by cases h0) hK hP hz hS h73 (by decide) 1 rfl (by decide) (by decide) (by decide) (show n57 - n + 1 ≤ 34 by omega) (show SL n57 - SL n + 6 ≤ 2048 by omega) dd_M_init_136 (fun H hP hz hS => ?_)
  have hw := hw n74 e_n74
  rw [← e_n74] at hP hz
  refine W.cs (show n57 - n + 1 = n74 - n by omega) (show SL n57 - SL n + 6 = SL n74 - SL n by omega) ?_
  obtain ⟨V75, e_V75⟩ : ∃ z, z = fw_nw V71 n57 (fun _ => defaultValue .long) := ⟨_, rfl⟩
  rw [← e_V75] at hP
  have hw := hw V75 e_V75
  refine fw_putFV hx hb hts in_10 F_ty_10 F_tyok_10 F_nm_10 hown hK hP hS (show b ≤ b + o by omega) ⟨by omega, ho.2⟩ (by decide) rfl 11 (by decide) (hts _ (tb_in tw_792)) rfl hin rfl (ty := .array (.long)) (by decide +kernel) rfl rfl dd_M_init_138 (fun H locs hP hS hz9 => ?_)
  rw [← hz9] at hz
  obtain ⟨V76, e_V76⟩ : ∃ z, z = fw_up V75 o 11 (.ref (b + n57)) := ⟨_, rfl⟩
  rw [← e_V76] at hP
  have hw := hw V76 e_V76
  refine lv_aload_n hx hb dd_M_init_141 rfl (lv_at hl 0 rfl) ?_
  refine lv_bipush (v := 6) hx hb dd_M_init_142 kc_bp_6 ?_
  obtain ⟨h77, hw⟩ := hw
  obtain ⟨h78, hw⟩ := hw
  obtain ⟨n79, e_n79⟩ : ∃ z, z = n74 + 1 := ⟨_, rfl⟩
  have s_n79 : SL n79 = SL n74 + 6 := by rw [e_n79, SL_succ, h78]; rfl
  have t_n79 : SL n79 ≤ SL (n + 34) := SL_mono (by omega)
  have g_n79 : SL n ≤ SL n74 := SL_mono (by omega)
  refine fw_newA hx hb (atype := .int) (hts _ (tb_in tw_48)) (ty := .int) rfl (fun C0 h0 => by cases h0) hK hP hz hS h78 (by decide) 0 rfl (by decide) (by decide) (by decide) (show n74 - n + 1 ≤ 34 by omega) (show SL n74 - SL n + 6 ≤ 2048 by omega) dd_M_init_144 (fun H hP hz hS => ?_)
  have hw := hw n79 e_n79
  rw [← e_n79] at hP hz
  refine W.cs (show n74 - n + 1 = n79 - n by omega) (show SL n74 - SL n + 6 = SL n79 - SL n by omega) ?_
  obtain ⟨V80, e_V80⟩ : ∃ z, z = fw_nw V76 n74 (fun _ => defaultValue .int) := ⟨_, rfl⟩
  rw [← e_V80] at hP
  have hw := hw V80 e_V80
  refine fw_putFV hx hb hts in_10 F_ty_10 F_tyok_10 F_nm_10 hown hK hP hS (show b ≤ b + o by omega) ⟨by omega, ho.2⟩ (by decide) rfl 12 (by decide) (hts _ (tb_in tw_793)) rfl hin rfl (ty := .array (.int)) (by decide +kernel) rfl rfl dd_M_init_146 (fun H locs hP hS hz9 => ?_)
  rw [← hz9] at hz
  obtain ⟨V81, e_V81⟩ : ∃ z, z = fw_up V80 o 12 (.ref (b + n74)) := ⟨_, rfl⟩
  rw [← e_V81] at hP
  have hw := hw V81 e_V81
  refine lv_aload_n hx hb dd_M_init_149 rfl (lv_at hl 0 rfl) ?_
  refine lv_bipush (v := 6) hx hb dd_M_init_150 kc_bp_6 ?_
  obtain ⟨h82, hw⟩ := hw
  obtain ⟨h83, hw⟩ := hw
  obtain ⟨n84, e_n84⟩ : ∃ z, z = n79 + 1 := ⟨_, rfl⟩
  have s_n84 : SL n84 = SL n79 + 6 := by rw [e_n84, SL_succ, h83]; rfl
  have t_n84 : SL n84 ≤ SL (n + 34) := SL_mono (by omega)
  have g_n84 : SL n ≤ SL n79 := SL_mono (by omega)
  refine fw_newA hx hb (atype := .int) (hts _ (tb_in tw_48)) (ty := .int) rfl (fun C0 h0 => by cases h0) hK hP hz hS h83 (by decide) 0 rfl (by decide) (by decide) (by decide) (show n79 - n + 1 ≤ 34 by omega) (show SL n79 - SL n + 6 ≤ 2048 by omega) dd_M_init_152 (fun H hP hz hS => ?_)
  have hw := hw n84 e_n84
  rw [← e_n84] at hP hz
  refine W.cs (show n79 - n + 1 = n84 - n by omega) (show SL n79 - SL n + 6 = SL n84 - SL n by omega) ?_
  obtain ⟨V85, e_V85⟩ : ∃ z, z = fw_nw V81 n79 (fun _ => defaultValue .int) := ⟨_, rfl⟩
  rw [← e_V85] at hP
  have hw := hw V85 e_V85
  refine fw_putFV hx hb hts in_10 F_ty_10 F_tyok_10 F_nm_10 hown hK hP hS (show b ≤ b + o by omega) ⟨by omega, ho.2⟩ (by decide) rfl 13 (by decide) (hts _ (tb_in tw_794)) rfl hin rfl (ty := .array (.int)) (by decide +kernel) rfl rfl dd_M_init_154 (fun H locs hP hS hz9 => ?_)
  rw [← hz9] at hz
  obtain ⟨V86, e_V86⟩ : ∃ z, z = fw_up V85 o 13 (.ref (b + n79)) := ⟨_, rfl⟩
  rw [← e_V86] at hP
  have hw := hw V86 e_V86
  refine lv_aload_n hx hb dd_M_init_157 rfl (lv_at hl 0 rfl) ?_
  refine lv_bipush (v := 6) hx hb dd_M_init_158 kc_bp_6 ?_
  obtain ⟨h87, hw⟩ := hw
  obtain ⟨h88, hw⟩ := hw
  obtain ⟨n89, e_n89⟩ : ∃ z, z = n84 + 1 := ⟨_, rfl⟩
  have s_n89 : SL n89 = SL n84 + 6 := by rw [e_n89, SL_succ, h88]; rfl
  have t_n89 : SL n89 ≤ SL (n + 34) := SL_mono (by omega)
  have g_n89 : SL n ≤ SL n84 := SL_mono (by omega)
  refine fw_newA hx hb (atype := .int) (hts _ (tb_in tw_48)) (ty := .int) rfl (fun C0 h0 => by cases h0) hK hP hz hS h88 (by decide) 0 rfl (by decide) (by decide) (by decide) (show n84 - n + 1 ≤ 34 by omega) (show SL n84 - SL n + 6 ≤ 2048 by omega) dd_M_init_160 (fun H hP hz hS => ?_)
  have hw := hw n89 e_n89
  rw [← e_n89] at hP hz
  refine W.cs (show n84 - n + 1 = n89 - n by omega) (show SL n84 - SL n + 6 = SL n89 - SL n by omega) ?_
  obtain ⟨V90, e_V90⟩ : ∃ z, z = fw_nw V86 n84 (fun _ => defaultValue .int) := ⟨_, rfl⟩
  rw [← e_V90] at hP
  have hw := hw V90 e_V90
  refine fw_putFV hx hb hts in_10 F_ty_10 F_tyok_10 F_nm_10 hown hK hP hS (show b ≤ b + o by omega) ⟨by omega, ho.2⟩ (by decide) rfl 14 (by decide) (hts _ (tb_in tw_795)) rfl hin rfl (ty := .array (.int)) (by decide +kernel) rfl rfl dd_M_init_162 (fun H locs hP hS hz9 => ?_)
  rw [← hz9] at hz
  obtain ⟨V91, e_V91⟩ : ∃ z, z = fw_up V90 o 14 (.ref (b + n84)) := ⟨_, rfl⟩
  rw [← e_V91] at hP
  have hw := hw V91 e_V91
  refine lv_aload_n hx hb dd_M_init_165 rfl (lv_at hl 0 rfl) ?_
  refine lv_bipush (v := 6) hx hb dd_M_init_166 kc_bp_6 ?_
  obtain ⟨h92, hw⟩ := hw
  obtain ⟨h93, hw⟩ := hw
  obtain ⟨n94, e_n94⟩ : ∃ z, z = n89 + 1 := ⟨_, rfl⟩
  have s_n94 : SL n94 = SL n89 + 6 := by rw [e_n94, SL_succ, h93]; rfl
  have t_n94 : SL n94 ≤ SL (n + 34) := SL_mono (by omega)
  have g_n94 : SL n ≤ SL n89 := SL_mono (by omega)
  refine fw_newA hx hb (atype := .int) (hts _ (tb_in tw_48)) (ty := .int) rfl (fun C0 h0 => by cases h0) hK hP hz hS h93 (by decide) 0 rfl (by decide) (by decide) (by decide) (show n89 - n + 1 ≤ 34 by omega) (show SL n89 - SL n + 6 ≤ 2048 by omega) dd_M_init_168 (fun H hP hz hS => ?_)
  have hw := hw n94 e_n94
  rw [← e_n94] at hP hz
  refine W.cs (show n89 - n + 1 = n94 - n by omega) (show SL n89 - SL n + 6 = SL n94 - SL n by omega) ?_
  obtain ⟨V95, e_V95⟩ : ∃ z, z = fw_nw V91 n89 (fun _ => defaultValue .int) := ⟨_, rfl⟩
  rw [← e_V95] at hP
  have hw := hw V95 e_V95
  refine fw_putFV hx hb hts in_10 F_ty_10 F_tyok_10 F_nm_10 hown hK hP hS (show b ≤ b + o by omega) ⟨by omega, ho.2⟩ (by decide) rfl 15 (by decide) (hts _ (tb_in tw_796)) rfl hin rfl (ty := .array (.int)) (by decide +kernel) rfl rfl dd_M_init_170 (fun H locs hP hS hz9 => ?_)
  rw [← hz9] at hz
  obtain ⟨V96, e_V96⟩ : ∃ z, z = fw_up V95 o 15 (.ref (b + n89)) := ⟨_, rfl⟩
  rw [← e_V96] at hP
  have hw := hw V96 e_V96
  refine lv_aload_n hx hb dd_M_init_173 rfl (lv_at hl 0 rfl) ?_
  refine lv_bipush (v := 6) hx hb dd_M_init_174 kc_bp_6 ?_
  obtain ⟨h97, hw⟩ := hw
  obtain ⟨h98, hw⟩ := hw
  obtain ⟨n99, e_n99⟩ : ∃ z, z = n94 + 1 := ⟨_, rfl⟩
  have s_n99 : SL n99 = SL n94 + 6 := by rw [e_n99, SL_succ, h98]; rfl
  have t_n99 : SL n99 ≤ SL (n + 34) := SL_mono (by omega)
  have g_n99 : SL n ≤ SL n94 := SL_mono (by omega)
  refine fw_newA hx hb (atype := .int) (hts _ (tb_in tw_48)) (ty := .int) rfl (fun C0 h0 => by cases h0) hK hP hz hS h98 (by decide) 0 rfl (by decide) (by decide) (by decide) (show n94 - n + 1 ≤ 34 by omega) (show SL n94 - SL n + 6 ≤ 2048 by omega) dd_M_init_176 (fun H hP hz hS => ?_)
  have hw := hw n99 e_n99
  rw [← e_n99] at hP hz
  refine W.cs (show n94 - n + 1 = n99 - n by omega) (show SL n94 - SL n + 6 = SL n99 - SL n by omega) ?_
  obtain ⟨V100, e_V100⟩ : ∃ z, z = fw_nw V96 n94 (fun _ => defaultValue .int) := ⟨_, rfl⟩
  rw [← e_V100] at hP
  have hw := hw V100 e_V100
  refine lv_dup hx hb dd_M_init_178 rfl ?_
  refine lv_iconst (v := 0) hx hb dd_M_init_179 kc_ic_0 ?_
  refine lv_iconst (v := 1) hx hb dd_M_init_180 kc_ic_1 ?_
  obtain ⟨h101, hw⟩ := hw
  refine fw_iastV hx hb hK hP hS (show b ≤ b + n94 by omega) ⟨by omega, h98⟩ (by decide) 0 rfl h101 dd_M_init_181 (fun H locs hP hS hz9 => ?_)
  rw [← hz9] at hz
  obtain ⟨V102, e_V102⟩ : ∃ z, z = fw_up V100 n94 (0 : Int32).toNatClampNeg (.int 1) := ⟨_, rfl⟩
  rw [← e_V102] at hP
  have hw := hw V102 e_V102
  refine lv_dup hx hb dd_M_init_182 rfl ?_
  refine lv_iconst (v := 1) hx hb dd_M_init_183 kc_ic_1 ?_
  refine lv_iconst (v := 1) hx hb dd_M_init_184 kc_ic_1 ?_
  obtain ⟨h103, hw⟩ := hw
  refine fw_iastV hx hb hK hP hS (show b ≤ b + n94 by omega) ⟨by omega, h98⟩ (by decide) 0 rfl h103 dd_M_init_185 (fun H locs hP hS hz9 => ?_)
  rw [← hz9] at hz
  obtain ⟨V104, e_V104⟩ : ∃ z, z = fw_up V102 n94 (1 : Int32).toNatClampNeg (.int 1) := ⟨_, rfl⟩
  rw [← e_V104] at hP
  have hw := hw V104 e_V104
  refine lv_dup hx hb dd_M_init_186 rfl ?_
  refine lv_iconst (v := 2) hx hb dd_M_init_187 kc_ic_2 ?_
  refine lv_iconst (v := 1) hx hb dd_M_init_188 kc_ic_1 ?_
  obtain ⟨h105, hw⟩ := hw
  refine fw_iastV hx hb hK hP hS (show b ≤ b + n94 by omega) ⟨by omega, h98⟩ (by decide) 0 rfl h105 dd_M_init_189 (fun H locs hP hS hz9 => ?_)
  rw [← hz9] at hz
  obtain ⟨V106, e_V106⟩ : ∃ z, z = fw_up V104 n94 (2 : Int32).toNatClampNeg (.int 1) := ⟨_, rfl⟩
  rw [← e_V106] at hP
  have hw := hw V106 e_V106
  refine lv_dup hx hb dd_M_init_190 rfl ?_
  refine lv_iconst (v := 3) hx hb dd_M_init_191 kc_ic_3 ?_
  refine lv_iconst (v := 1) hx hb dd_M_init_192 kc_ic_1 ?_
  obtain ⟨h107, hw⟩ := hw
  refine fw_iastV hx hb hK hP hS (show b ≤ b + n94 by omega) ⟨by omega, h98⟩ (by decide) 0 rfl h107 dd_M_init_193 (fun H locs hP hS hz9 => ?_)
  rw [← hz9] at hz
  obtain ⟨V108, e_V108⟩ : ∃ z, z = fw_up V106 n94 (3 : Int32).toNatClampNeg (.int 1) := ⟨_, rfl⟩
  rw [← e_V108] at hP
  have hw := hw V108 e_V108
  refine lv_dup hx hb dd_M_init_194 rfl ?_
  refine lv_iconst (v := 4) hx hb dd_M_init_195 kc_ic_4 ?_
  refine lv_iconst (v := 1) hx hb dd_M_init_196 kc_ic_1 ?_
  obtain ⟨h109, hw⟩ := hw
  refine fw_iastV hx hb hK hP hS (show b ≤ b + n94 by omega) ⟨by omega, h98⟩ (by decide) 0 rfl h109 dd_M_init_197 (fun H locs hP hS hz9 => ?_)
  rw [← hz9] at hz
  obtain ⟨V110, e_V110⟩ : ∃ z, z = fw_up V108 n94 (4 : Int32).toNatClampNeg (.int 1) := ⟨_, rfl⟩
  rw [← e_V110] at hP
  have hw := hw V110 e_V110
  refine lv_dup hx hb dd_M_init_198 rfl ?_
  refine lv_iconst (v := 5) hx hb dd_M_init_199 kc_ic_5 ?_
  refine lv_iconst (v := 1) hx hb dd_M_init_200 kc_ic_1 ?_
  obtain ⟨h111, hw⟩ := hw
  refine fw_iastV hx hb hK hP hS (show b ≤ b + n94 by omega) ⟨by omega, h98⟩ (by decide) 0 rfl h111 dd_M_init_201 (fun H locs hP hS hz9 => ?_)
  rw [← hz9] at hz
  obtain ⟨V112, e_V112⟩ : ∃ z, z = fw_up V110 n94 (5 : Int32).toNatClampNeg (.int 1) := ⟨_, rfl⟩
  rw [← e_V112] at hP
  have hw := hw V112 e_V112
  refine fw_putFV hx hb hts in_10 F_ty_10 F_tyok_10 F_nm_10 hown hK hP hS (show b ≤ b + o by omega) ⟨by omega, ho.2⟩ (by decide) rfl 16 (by decide) (hts _ (tb_in tw_797)) rfl hin rfl (ty := .array (.int)) (by decide +kernel) rfl rfl dd_M_init_202 (fun H locs hP hS hz9 => ?_)
  rw [← hz9] at hz
  obtain ⟨V113, e_V113⟩ : ∃ z, z = fw_up V112 o 16 (.ref (b + n94)) := ⟨_, rfl⟩
  rw [← e_V113] at hP
  have hw := hw V113 e_V113
  refine lv_aload_n hx hb dd_M_init_205 rfl (lv_at hl 0 rfl) ?_
  refine lv_bipush (v := 6) hx hb dd_M_init_206 kc_bp_6 ?_
  obtain ⟨h114, hw⟩ := hw
  obtain ⟨h115, hw⟩ := hw
  obtain ⟨n116, e_n116⟩ : ∃ z, z = n99 + 1 := ⟨_, rfl⟩
  have s_n116 : SL n116 = SL n99 + 6 := by rw [e_n116, SL_succ, h115]; rfl
  have t_n116 : SL n116 ≤ SL (n + 34) := SL_mono (by omega)
  have g_n116 : SL n ≤ SL n99 := SL_mono (by omega)
  refine fw_newA hx hb (atype := .int) (hts _ (tb_in tw_48)) (ty := .int) rfl (fun C0 h0 => by cases h0) hK hP hz hS h115 (by decide) 0 rfl (by decide) (by decide) (by decide) (show n99 - n + 1 ≤ 34 by omega) (show SL n99 - SL n + 6 ≤ 2048 by omega) dd_M_init_208 (fun H hP hz hS => ?_)
  have hw := hw n116 e_n116
  rw [← e_n116] at hP hz
  refine W.cs (show n99 - n + 1 = n116 - n by omega) (show SL n99 - SL n + 6 = SL n116 - SL n by omega) ?_
  obtain ⟨V117, e_V117⟩ : ∃ z, z = fw_nw V113 n99 (fun _ => defaultValue .int) := ⟨_, rfl⟩
  rw [← e_V117] at hP
  have hw := hw V117 e_V117
  refine lv_dup hx hb dd_M_init_210 rfl ?_
  refine lv_iconst (v := 0) hx hb dd_M_init_211 kc_ic_0 ?_
  refine lv_iconst (v := (-1)) hx hb dd_M_init_212 kc_ic_m1 ?_
  obtain ⟨h118, hw⟩ := hw
  refine fw_iastV hx hb hK hP hS (show b ≤ b + n99 by omega) ⟨by omega, h115⟩ (by decide) 0 rfl h118 dd_M_init_213 (fun H locs hP hS hz9 => ?_)
  rw [← hz9] at hz
  obtain ⟨V119, e_V119⟩ : ∃ z, z = fw_up V117 n99 (0 : Int32).toNatClampNeg (.int (-1)) := ⟨_, rfl⟩
  rw [← e_V119] at hP
  have hw := hw V119 e_V119
  refine lv_dup hx hb dd_M_init_214 rfl ?_
  refine lv_iconst (v := 1) hx hb dd_M_init_215 kc_ic_1 ?_
  refine lv_iconst (v := (-1)) hx hb dd_M_init_216 kc_ic_m1 ?_
  obtain ⟨h120, hw⟩ := hw
  refine fw_iastV hx hb hK hP hS (show b ≤ b + n99 by omega) ⟨by omega, h115⟩ (by decide) 0 rfl h120 dd_M_init_217 (fun H locs hP hS hz9 => ?_)
  rw [← hz9] at hz
  obtain ⟨V121, e_V121⟩ : ∃ z, z = fw_up V119 n99 (1 : Int32).toNatClampNeg (.int (-1)) := ⟨_, rfl⟩
  rw [← e_V121] at hP
  have hw := hw V121 e_V121
  refine lv_dup hx hb dd_M_init_218 rfl ?_
  refine lv_iconst (v := 2) hx hb dd_M_init_219 kc_ic_2 ?_
  refine lv_iconst (v := (-1)) hx hb dd_M_init_220 kc_ic_m1 ?_
  obtain ⟨h122, hw⟩ := hw
  refine fw_iastV hx hb hK hP hS (show b ≤ b + n99 by omega) ⟨by omega, h115⟩ (by decide) 0 rfl h122 dd_M_init_221 (fun H locs hP hS hz9 => ?_)
  rw [← hz9] at hz
  obtain ⟨V123, e_V123⟩ : ∃ z, z = fw_up V121 n99 (2 : Int32).toNatClampNeg (.int (-1)) := ⟨_, rfl⟩
  rw [← e_V123] at hP
  have hw := hw V123 e_V123
  refine lv_dup hx hb dd_M_init_222 rfl ?_
  refine lv_iconst (v := 3) hx hb dd_M_init_223 kc_ic_3 ?_
  refine lv_iconst (v := (-1)) hx hb dd_M_init_224 kc_ic_m1 ?_
  obtain ⟨h124, hw⟩ := hw
  refine fw_iastV hx hb hK hP hS (show b ≤ b + n99 by omega) ⟨by omega, h115⟩ (by decide) 0 rfl h124 dd_M_init_225 (fun H locs hP hS hz9 => ?_)
  rw [← hz9] at hz
  obtain ⟨V125, e_V125⟩ : ∃ z, z = fw_up V123 n99 (3 : Int32).toNatClampNeg (.int (-1)) := ⟨_, rfl⟩
  rw [← e_V125] at hP
  have hw := hw V125 e_V125
  refine lv_dup hx hb dd_M_init_226 rfl ?_
  refine lv_iconst (v := 4) hx hb dd_M_init_227 kc_ic_4 ?_
  refine lv_iconst (v := (-1)) hx hb dd_M_init_228 kc_ic_m1 ?_
  obtain ⟨h126, hw⟩ := hw
  refine fw_iastV hx hb hK hP hS (show b ≤ b + n99 by omega) ⟨by omega, h115⟩ (by decide) 0 rfl h126 dd_M_init_229 (fun H locs hP hS hz9 => ?_)
  rw [← hz9] at hz
  obtain ⟨V127, e_V127⟩ : ∃ z, z = fw_up V125 n99 (4 : Int32).toNatClampNeg (.int (-1)) := ⟨_, rfl⟩
  rw [← e_V127] at hP
  have hw := hw V127 e_V127
  refine lv_dup hx hb dd_M_init_230 rfl ?_
  refine lv_iconst (v := 5) hx hb dd_M_init_231 kc_ic_5 ?_
  refine lv_iconst (v := (-1)) hx hb dd_M_init_232 kc_ic_m1 ?_
  obtain ⟨h128, hw⟩ := hw
  refine fw_iastV hx hb hK hP hS (show b ≤ b + n99 by omega) ⟨by omega, h115⟩ (by decide) 0 rfl h128 dd_M_init_233 (fun H locs hP hS hz9 => ?_)
  rw [← hz9] at hz
  obtain ⟨V129, e_V129⟩ : ∃ z, z = fw_up V127 n99 (5 : Int32).toNatClampNeg (.int (-1)) := ⟨_, rfl⟩
  rw [← e_V129] at hP
  have hw := hw V129 e_V129
  refine fw_putFV hx hb hts in_10 F_ty_10 F_tyok_10 F_nm_10 hown hK hP hS (show b ≤ b + o by omega) ⟨by omega, ho.2⟩ (by decide) rfl 17 (by decide) (hts _ (tb_in tw_798)) rfl hin rfl (ty := .array (.int)) (by decide +kernel) rfl rfl dd_M_init_234 (fun H locs hP hS hz9 => ?_)
  rw [← hz9] at hz
  obtain ⟨V130, e_V130⟩ : ∃ z, z = fw_up V129 o 17 (.ref (b + n99)) := ⟨_, rfl⟩
  rw [← e_V130] at hP
  have hw := hw V130 e_V130
  refine lv_aload_n hx hb dd_M_init_237 rfl (lv_at hl 0 rfl) ?_
  refine lv_bipush (v := 6) hx hb dd_M_init_238 kc_bp_6 ?_
  obtain ⟨h131, hw⟩ := hw
  obtain ⟨h132, hw⟩ := hw
  obtain ⟨n133, e_n133⟩ : ∃ z, z = n116 + 1 := ⟨_, rfl⟩
  have s_n133 : SL n133 = SL n116 + 6 := by rw [e_n133, SL_succ, h132]; rfl
  have t_n133 : SL n133 ≤ SL (n + 34) := SL_mono (by omega)
  have g_n133 : SL n ≤ SL n116 := SL_mono (by omega)
  refine fw_newA hx hb (atype := .int) (hts _ (tb_in tw_48)) (ty := .int) rfl (fun C0 h0 => by cases h0) hK hP hz hS h132 (by decide) 0 rfl (by decide) (by decide) (by decide) (show n116 - n + 1 ≤ 34 by omega) (show SL n116 - SL n + 6 ≤ 2048 by omega) dd_M_init_240 (fun H hP hz hS => ?_)
  have hw := hw n133 e_n133
  rw [← e_n133] at hP hz
  refine W.cs (show n116 - n + 1 = n133 - n by omega) (show SL n116 - SL n + 6 = SL n133 - SL n by omega) ?_
  obtain ⟨V134, e_V134⟩ : ∃ z, z = fw_nw V130 n116 (fun _ => defaultValue .int) := ⟨_, rfl⟩
  rw [← e_V134] at hP
  have hw := hw V134 e_V134
  refine fw_putFV hx hb hts in_10 F_ty_10 F_tyok_10 F_nm_10 hown hK hP hS (show b ≤ b + o by omega) ⟨by omega, ho.2⟩ (by decide) rfl 18 (by decide) (hts _ (tb_in tw_799)) rfl hin rfl (ty := .array (.int)) (by decide +kernel) rfl rfl dd_M_init_242 (fun H locs hP hS hz9 => ?_)
  rw [← hz9] at hz
  obtain ⟨V135, e_V135⟩ : ∃ z, z = fw_up V134 o 18 (.ref (b + n116)) := ⟨_, rfl⟩
  rw [← e_V135] at hP
  have hw := hw V135 e_V135
  refine lv_aload_n hx hb dd_M_init_245 rfl (lv_at hl 0 rfl) ?_
  refine lv_sipush (v := 864) hx hb dd_M_init_246 kc_sp_864 ?_
  obtain ⟨h136, hw⟩ := hw
  obtain ⟨h137, hw⟩ := hw
  obtain ⟨n138, e_n138⟩ : ∃ z, z = n133 + 1 := ⟨_, rfl⟩
  have s_n138 : SL n138 = SL n133 + 864 := by rw [e_n138, SL_succ, h137]; rfl
  have t_n138 : SL n138 ≤ SL (n + 34) := SL_mono (by omega)
  have g_n138 : SL n ≤ SL n133 := SL_mono (by omega)
  refine fw_newA hx hb (atype := .int) (hts _ (tb_in tw_48)) (ty := .int) rfl (fun C0 h0 => by cases h0) hK hP hz hS h137 (by decide) 0 rfl (by decide) (by decide) (by decide) (show n133 - n + 1 ≤ 34 by omega) (show SL n133 - SL n + 864 ≤ 2048 by omega) dd_M_init_249 (fun H hP hz hS => ?_)
  have hw := hw n138 e_n138
  rw [← e_n138] at hP hz
  refine W.cs (show n133 - n + 1 = n138 - n by omega) (show SL n133 - SL n + 864 = SL n138 - SL n by omega) ?_
  obtain ⟨V139, e_V139⟩ : ∃ z, z = fw_nw V135 n133 (fun _ => defaultValue .int) := ⟨_, rfl⟩
  rw [← e_V139] at hP
  have hw := hw V139 e_V139
  refine fw_putFV hx hb hts in_10 F_ty_10 F_tyok_10 F_nm_10 hown hK hP hS (show b ≤ b + o by omega) ⟨by omega, ho.2⟩ (by decide) rfl 19 (by decide) (hts _ (tb_in tw_800)) rfl hin rfl (ty := .array (.int)) (by decide +kernel) rfl rfl dd_M_init_251 (fun H locs hP hS hz9 => ?_)
  rw [← hz9] at hz
  obtain ⟨V140, e_V140⟩ : ∃ z, z = fw_up V139 o 19 (.ref (b + n133)) := ⟨_, rfl⟩
  rw [← e_V140] at hP
  have hw := hw V140 e_V140
  refine lv_aload_n hx hb dd_M_init_254 rfl (lv_at hl 0 rfl) ?_
  refine lv_sipush (v := 144) hx hb dd_M_init_255 kc_sp_144 ?_
  obtain ⟨h141, hw⟩ := hw
  obtain ⟨h142, hw⟩ := hw
  obtain ⟨n143, e_n143⟩ : ∃ z, z = n138 + 1 := ⟨_, rfl⟩
  have s_n143 : SL n143 = SL n138 + 144 := by rw [e_n143, SL_succ, h142]; rfl
  have t_n143 : SL n143 ≤ SL (n + 34) := SL_mono (by omega)
  have g_n143 : SL n ≤ SL n138 := SL_mono (by omega)
  refine fw_newA hx hb (atype := .long) (hts _ (tb_in tw_110)) (ty := .long) rfl (fun C0 h0 => by cases h0) hK hP hz hS h142 (by decide) 1 rfl (by decide) (by decide) (by decide) (show n138 - n + 1 ≤ 34 by omega) (show SL n138 - SL n + 144 ≤ 2048 by omega) dd_M_init_258 (fun H hP hz hS => ?_)
  have hw := hw n143 e_n143
  rw [← e_n143] at hP hz
  refine W.cs (show n138 - n + 1 = n143 - n by omega) (show SL n138 - SL n + 144 = SL n143 - SL n by omega) ?_
  obtain ⟨V144, e_V144⟩ : ∃ z, z = fw_nw V140 n138 (fun _ => defaultValue .long) := ⟨_, rfl⟩
  rw [← e_V144] at hP
  have hw := hw V144 e_V144
  refine fw_putFV hx hb hts in_10 F_ty_10 F_tyok_10 F_nm_10 hown hK hP hS (show b ≤ b + o by omega) ⟨by omega, ho.2⟩ (by decide) rfl 20 (by decide) (hts _ (tb_in tw_801)) rfl hin rfl (ty := .array (.long)) (by decide +kernel) rfl rfl dd_M_init_260 (fun H locs hP hS hz9 => ?_)
  rw [← hz9] at hz
  obtain ⟨V145, e_V145⟩ : ∃ z, z = fw_up V144 o 20 (.ref (b + n138)) := ⟨_, rfl⟩
  rw [← e_V145] at hP
  have hw := hw V145 e_V145
  refine lv_aload_n hx hb dd_M_init_263 rfl (lv_at hl 0 rfl) ?_
  refine lv_bipush (v := 6) hx hb dd_M_init_264 kc_bp_6 ?_
  obtain ⟨h146, hw⟩ := hw
  obtain ⟨h147, hw⟩ := hw
  obtain ⟨n148, e_n148⟩ : ∃ z, z = n143 + 1 := ⟨_, rfl⟩
  have s_n148 : SL n148 = SL n143 + 6 := by rw [e_n148, SL_succ, h147]; rfl
  have t_n148 : SL n148 ≤ SL (n + 34) := SL_mono (by omega)
  have g_n148 : SL n ≤ SL n143 := SL_mono (by omega)
  refine fw_newA hx hb (atype := .boolean) (hts _ (tb_in tw_902)) (ty := .boolean) rfl (fun C0 h0 => by cases h0) hK hP hz hS h147 (by decide) 2 rfl (by decide) (by decide) (by decide) (show n143 - n + 1 ≤ 34 by omega) (show SL n143 - SL n + 6 ≤ 2048 by omega) dd_M_init_266 (fun H hP hz hS => ?_)
  have hw := hw n148 e_n148
  rw [← e_n148] at hP hz
  refine W.cs (show n143 - n + 1 = n148 - n by omega) (show SL n143 - SL n + 6 = SL n148 - SL n by omega) ?_
  obtain ⟨V149, e_V149⟩ : ∃ z, z = fw_nw V145 n143 (fun _ => defaultValue .boolean) := ⟨_, rfl⟩
  rw [← e_V149] at hP
  have hw := hw V149 e_V149
  refine fw_putFV hx hb hts in_10 F_ty_10 F_tyok_10 F_nm_10 hown hK hP hS (show b ≤ b + o by omega) ⟨by omega, ho.2⟩ (by decide) rfl 21 (by decide) (hts _ (tb_in tw_802)) rfl hin rfl (ty := .array (.boolean)) (by decide +kernel) rfl rfl dd_M_init_268 (fun H locs hP hS hz9 => ?_)
  rw [← hz9] at hz
  obtain ⟨V150, e_V150⟩ : ∃ z, z = fw_up V149 o 21 (.ref (b + n143)) := ⟨_, rfl⟩
  rw [← e_V150] at hP
  have hw := hw V150 e_V150
  refine lv_aload_n hx hb dd_M_init_271 rfl (lv_at hl 0 rfl) ?_
  refine lv_bipush (v := 6) hx hb dd_M_init_272 kc_bp_6 ?_
  obtain ⟨h151, hw⟩ := hw
  obtain ⟨h152, hw⟩ := hw
  obtain ⟨n153, e_n153⟩ : ∃ z, z = n148 + 1 := ⟨_, rfl⟩
  have s_n153 : SL n153 = SL n148 + 6 := by rw [e_n153, SL_succ, h152]; rfl
  have t_n153 : SL n153 ≤ SL (n + 34) := SL_mono (by omega)
  have g_n153 : SL n ≤ SL n148 := SL_mono (by omega)
  refine fw_newA hx hb (atype := .int) (hts _ (tb_in tw_48)) (ty := .int) rfl (fun C0 h0 => by cases h0) hK hP hz hS h152 (by decide) 0 rfl (by decide) (by decide) (by decide) (show n148 - n + 1 ≤ 34 by omega) (show SL n148 - SL n + 6 ≤ 2048 by omega) dd_M_init_274 (fun H hP hz hS => ?_)
  have hw := hw n153 e_n153
  rw [← e_n153] at hP hz
  refine W.cs (show n148 - n + 1 = n153 - n by omega) (show SL n148 - SL n + 6 = SL n153 - SL n by omega) ?_
  obtain ⟨V154, e_V154⟩ : ∃ z, z = fw_nw V150 n148 (fun _ => defaultValue .int) := ⟨_, rfl⟩
  rw [← e_V154] at hP
  have hw := hw V154 e_V154
  refine fw_putFV hx hb hts in_10 F_ty_10 F_tyok_10 F_nm_10 hown hK hP hS (show b ≤ b + o by omega) ⟨by omega, ho.2⟩ (by decide) rfl 22 (by decide) (hts _ (tb_in tw_803)) rfl hin rfl (ty := .array (.int)) (by decide +kernel) rfl rfl dd_M_init_276 (fun H locs hP hS hz9 => ?_)
  rw [← hz9] at hz
  obtain ⟨V155, e_V155⟩ : ∃ z, z = fw_up V154 o 22 (.ref (b + n148)) := ⟨_, rfl⟩
  rw [← e_V155] at hP
  have hw := hw V155 e_V155
  refine lv_aload_n hx hb dd_M_init_279 rfl (lv_at hl 0 rfl) ?_
  refine lv_bipush (v := 6) hx hb dd_M_init_280 kc_bp_6 ?_
  obtain ⟨h156, hw⟩ := hw
  obtain ⟨h157, hw⟩ := hw
  obtain ⟨n158, e_n158⟩ : ∃ z, z = n153 + 1 := ⟨_, rfl⟩
  have s_n158 : SL n158 = SL n153 + 6 := by rw [e_n158, SL_succ, h157]; rfl
  have t_n158 : SL n158 ≤ SL (n + 34) := SL_mono (by omega)
  have g_n158 : SL n ≤ SL n153 := SL_mono (by omega)
  refine fw_newA hx hb (atype := .int) (hts _ (tb_in tw_48)) (ty := .int) rfl (fun C0 h0 => by cases h0) hK hP hz hS h157 (by decide) 0 rfl (by decide) (by decide) (by decide) (show n153 - n + 1 ≤ 34 by omega) (show SL n153 - SL n + 6 ≤ 2048 by omega) dd_M_init_282 (fun H hP hz hS => ?_)
  have hw := hw n158 e_n158
  rw [← e_n158] at hP hz
  refine W.cs (show n153 - n + 1 = n158 - n by omega) (show SL n153 - SL n + 6 = SL n158 - SL n by omega) ?_
  obtain ⟨V159, e_V159⟩ : ∃ z, z = fw_nw V155 n153 (fun _ => defaultValue .int) := ⟨_, rfl⟩
  rw [← e_V159] at hP
  have hw := hw V159 e_V159
  refine fw_putFV hx hb hts in_10 F_ty_10 F_tyok_10 F_nm_10 hown hK hP hS (show b ≤ b + o by omega) ⟨by omega, ho.2⟩ (by decide) rfl 23 (by decide) (hts _ (tb_in tw_804)) rfl hin rfl (ty := .array (.int)) (by decide +kernel) rfl rfl dd_M_init_284 (fun H locs hP hS hz9 => ?_)
  rw [← hz9] at hz
  obtain ⟨V160, e_V160⟩ : ∃ z, z = fw_up V159 o 23 (.ref (b + n153)) := ⟨_, rfl⟩
  rw [← e_V160] at hP
  have hw := hw V160 e_V160
  refine lv_aload_n hx hb dd_M_init_287 rfl (lv_at hl 0 rfl) ?_
  refine lv_bipush (v := 6) hx hb dd_M_init_288 kc_bp_6 ?_
  obtain ⟨h161, hw⟩ := hw
  obtain ⟨h162, hw⟩ := hw
  obtain ⟨n163, e_n163⟩ : ∃ z, z = n158 + 1 := ⟨_, rfl⟩
  have s_n163 : SL n163 = SL n158 + 6 := by rw [e_n163, SL_succ, h162]; rfl
  have t_n163 : SL n163 ≤ SL (n + 34) := SL_mono (by omega)
  have g_n163 : SL n ≤ SL n158 := SL_mono (by omega)
  refine fw_newA hx hb (atype := .long) (hts _ (tb_in tw_110)) (ty := .long) rfl (fun C0 h0 => by cases h0) hK hP hz hS h162 (by decide) 1 rfl (by decide) (by decide) (by decide) (show n158 - n + 1 ≤ 34 by omega) (show SL n158 - SL n + 6 ≤ 2048 by omega) dd_M_init_290 (fun H hP hz hS => ?_)
  have hw := hw n163 e_n163
  rw [← e_n163] at hP hz
  refine W.cs (show n158 - n + 1 = n163 - n by omega) (show SL n158 - SL n + 6 = SL n163 - SL n by omega) ?_
  obtain ⟨V164, e_V164⟩ : ∃ z, z = fw_nw V160 n158 (fun _ => defaultValue .long) := ⟨_, rfl⟩
  rw [← e_V164] at hP
  have hw := hw V164 e_V164
  refine fw_putFV hx hb hts in_10 F_ty_10 F_tyok_10 F_nm_10 hown hK hP hS (show b ≤ b + o by omega) ⟨by omega, ho.2⟩ (by decide) rfl 24 (by decide) (hts _ (tb_in tw_805)) rfl hin rfl (ty := .array (.long)) (by decide +kernel) rfl rfl dd_M_init_292 (fun H locs hP hS hz9 => ?_)
  rw [← hz9] at hz
  obtain ⟨V165, e_V165⟩ : ∃ z, z = fw_up V164 o 24 (.ref (b + n158)) := ⟨_, rfl⟩
  rw [← e_V165] at hP
  have hw := hw V165 e_V165
  refine lv_aload_n hx hb dd_M_init_295 rfl (lv_at hl 0 rfl) ?_
  refine lv_bipush (v := 6) hx hb dd_M_init_296 kc_bp_6 ?_
  obtain ⟨h166, hw⟩ := hw
  obtain ⟨h167, hw⟩ := hw
  obtain ⟨n168, e_n168⟩ : ∃ z, z = n163 + 1 := ⟨_, rfl⟩
  have s_n168 : SL n168 = SL n163 + 6 := by rw [e_n168, SL_succ, h167]; rfl
  have t_n168 : SL n168 ≤ SL (n + 34) := SL_mono (by omega)
  have g_n168 : SL n ≤ SL n163 := SL_mono (by omega)
  refine fw_newA hx hb (atype := .boolean) (hts _ (tb_in tw_902)) (ty := .boolean) rfl (fun C0 h0 => by cases h0) hK hP hz hS h167 (by decide) 2 rfl (by decide) (by decide) (by decide) (show n163 - n + 1 ≤ 34 by omega) (show SL n163 - SL n + 6 ≤ 2048 by omega) dd_M_init_298 (fun H hP hz hS => ?_)
  have hw := hw n168 e_n168
  rw [← e_n168] at hP hz
  refine W.cs (show n163 - n + 1 = n168 - n by omega) (show SL n163 - SL n + 6 = SL n168 - SL n by omega) ?_
  obtain ⟨V169, e_V169⟩ : ∃ z, z = fw_nw V165 n163 (fun _ => defaultValue .boolean) := ⟨_, rfl⟩
  rw [← e_V169] at hP
  have hw := hw V169 e_V169
  refine fw_putFV hx hb hts in_10 F_ty_10 F_tyok_10 F_nm_10 hown hK hP hS (show b ≤ b + o by omega) ⟨by omega, ho.2⟩ (by decide) rfl 25 (by decide) (hts _ (tb_in tw_806)) rfl hin rfl (ty := .array (.boolean)) (by decide +kernel) rfl rfl dd_M_init_300 (fun H locs hP hS hz9 => ?_)
  rw [← hz9] at hz
  obtain ⟨V170, e_V170⟩ : ∃ z, z = fw_up V169 o 25 (.ref (b + n163)) := ⟨_, rfl⟩
  rw [← e_V170] at hP
  have hw := hw V170 e_V170
  refine lv_aload_n hx hb dd_M_init_303 rfl (lv_at hl 0 rfl) ?_
  refine lv_bipush (v := 6) hx hb dd_M_init_304 kc_bp_6 ?_
  obtain ⟨h171, hw⟩ := hw
  obtain ⟨h172, hw⟩ := hw
  obtain ⟨n173, e_n173⟩ : ∃ z, z = n168 + 1 := ⟨_, rfl⟩
  have s_n173 : SL n173 = SL n168 + 6 := by rw [e_n173, SL_succ, h172]; rfl
  have t_n173 : SL n173 ≤ SL (n + 34) := SL_mono (by omega)
  have g_n173 : SL n ≤ SL n168 := SL_mono (by omega)
  refine fw_newA hx hb (atype := .int) (hts _ (tb_in tw_48)) (ty := .int) rfl (fun C0 h0 => by cases h0) hK hP hz hS h172 (by decide) 0 rfl (by decide) (by decide) (by decide) (show n168 - n + 1 ≤ 34 by omega) (show SL n168 - SL n + 6 ≤ 2048 by omega) dd_M_init_306 (fun H hP hz hS => ?_)
  have hw := hw n173 e_n173
  rw [← e_n173] at hP hz
  refine W.cs (show n168 - n + 1 = n173 - n by omega) (show SL n168 - SL n + 6 = SL n173 - SL n by omega) ?_
  obtain ⟨V174, e_V174⟩ : ∃ z, z = fw_nw V170 n168 (fun _ => defaultValue .int) := ⟨_, rfl⟩
  rw [← e_V174] at hP
  have hw := hw V174 e_V174
  refine fw_putFV hx hb hts in_10 F_ty_10 F_tyok_10 F_nm_10 hown hK hP hS (show b ≤ b + o by omega) ⟨by omega, ho.2⟩ (by decide) rfl 26 (by decide) (hts _ (tb_in tw_807)) rfl hin rfl (ty := .array (.int)) (by decide +kernel) rfl rfl dd_M_init_308 (fun H locs hP hS hz9 => ?_)
  rw [← hz9] at hz
  obtain ⟨V175, e_V175⟩ : ∃ z, z = fw_up V174 o 26 (.ref (b + n168)) := ⟨_, rfl⟩
  rw [← e_V175] at hP
  have hw := hw V175 e_V175
  refine lv_aload_n hx hb dd_M_init_311 rfl (lv_at hl 0 rfl) ?_
  refine lv_bipush (v := 6) hx hb dd_M_init_312 kc_bp_6 ?_
  obtain ⟨h176, hw⟩ := hw
  obtain ⟨h177, hw⟩ := hw
  obtain ⟨n178, e_n178⟩ : ∃ z, z = n173 + 1 := ⟨_, rfl⟩
  have s_n178 : SL n178 = SL n173 + 6 := by rw [e_n178, SL_succ, h177]; rfl
  have t_n178 : SL n178 ≤ SL (n + 34) := SL_mono (by omega)
  have g_n178 : SL n ≤ SL n173 := SL_mono (by omega)
  refine fw_newA hx hb (atype := .int) (hts _ (tb_in tw_48)) (ty := .int) rfl (fun C0 h0 => by cases h0) hK hP hz hS h177 (by decide) 0 rfl (by decide) (by decide) (by decide) (show n173 - n + 1 ≤ 34 by omega) (show SL n173 - SL n + 6 ≤ 2048 by omega) dd_M_init_314 (fun H hP hz hS => ?_)
  have hw := hw n178 e_n178
  rw [← e_n178] at hP hz
  refine W.cs (show n173 - n + 1 = n178 - n by omega) (show SL n173 - SL n + 6 = SL n178 - SL n by omega) ?_
  obtain ⟨V179, e_V179⟩ : ∃ z, z = fw_nw V175 n173 (fun _ => defaultValue .int) := ⟨_, rfl⟩
  rw [← e_V179] at hP
  have hw := hw V179 e_V179
  refine fw_putFV hx hb hts in_10 F_ty_10 F_tyok_10 F_nm_10 hown hK hP hS (show b ≤ b + o by omega) ⟨by omega, ho.2⟩ (by decide) rfl 27 (by decide) (hts _ (tb_in tw_808)) rfl hin rfl (ty := .array (.int)) (by decide +kernel) rfl rfl dd_M_init_316 (fun H locs hP hS hz9 => ?_)
  rw [← hz9] at hz
  obtain ⟨V180, e_V180⟩ : ∃ z, z = fw_up V179 o 27 (.ref (b + n173)) := ⟨_, rfl⟩
  rw [← e_V180] at hP
  have hw := hw V180 e_V180
  refine lv_aload_n hx hb dd_M_init_319 rfl (lv_at hl 0 rfl) ?_
  refine lv_bipush (v := 6) hx hb dd_M_init_320 kc_bp_6 ?_
  obtain ⟨h181, hw⟩ := hw
  obtain ⟨h182, hw⟩ := hw
  obtain ⟨n183, e_n183⟩ : ∃ z, z = n178 + 1 := ⟨_, rfl⟩
  have s_n183 : SL n183 = SL n178 + 6 := by rw [e_n183, SL_succ, h182]; rfl
  have t_n183 : SL n183 ≤ SL (n + 34) := SL_mono (by omega)
  have g_n183 : SL n ≤ SL n178 := SL_mono (by omega)
  refine fw_newA hx hb (atype := .boolean) (hts _ (tb_in tw_902)) (ty := .boolean) rfl (fun C0 h0 => by cases h0) hK hP hz hS h182 (by decide) 2 rfl (by decide) (by decide) (by decide) (show n178 - n + 1 ≤ 34 by omega) (show SL n178 - SL n + 6 ≤ 2048 by omega) dd_M_init_322 (fun H hP hz hS => ?_)
  have hw := hw n183 e_n183
  rw [← e_n183] at hP hz
  refine W.cs (show n178 - n + 1 = n183 - n by omega) (show SL n178 - SL n + 6 = SL n183 - SL n by omega) ?_
  obtain ⟨V184, e_V184⟩ : ∃ z, z = fw_nw V180 n178 (fun _ => defaultValue .boolean) := ⟨_, rfl⟩
  rw [← e_V184] at hP
  have hw := hw V184 e_V184
  refine fw_putFV hx hb hts in_10 F_ty_10 F_tyok_10 F_nm_10 hown hK hP hS (show b ≤ b + o by omega) ⟨by omega, ho.2⟩ (by decide) rfl 28 (by decide) (hts _ (tb_in tw_809)) rfl hin rfl (ty := .array (.boolean)) (by decide +kernel) rfl rfl dd_M_init_324 (fun H locs hP hS hz9 => ?_)
  rw [← hz9] at hz
  obtain ⟨V185, e_V185⟩ : ∃ z, z = fw_up V184 o 28 (.ref (b + n178)) := ⟨_, rfl⟩
  rw [← e_V185] at hP
  have hw := hw V185 e_V185
  refine lv_aload_n hx hb dd_M_init_327 rfl (lv_at hl 0 rfl) ?_
  refine lv_bipush (v := 6) hx hb dd_M_init_328 kc_bp_6 ?_
  obtain ⟨h186, hw⟩ := hw
  obtain ⟨h187, hw⟩ := hw
  obtain ⟨n188, e_n188⟩ : ∃ z, z = n183 + 1 := ⟨_, rfl⟩
  have s_n188 : SL n188 = SL n183 + 6 := by rw [e_n188, SL_succ, h187]; rfl
  have t_n188 : SL n188 ≤ SL (n + 34) := SL_mono (by omega)
  have g_n188 : SL n ≤ SL n183 := SL_mono (by omega)
  refine fw_newA hx hb (atype := .int) (hts _ (tb_in tw_48)) (ty := .int) rfl (fun C0 h0 => by cases h0) hK hP hz hS h187 (by decide) 0 rfl (by decide) (by decide) (by decide) (show n183 - n + 1 ≤ 34 by omega) (show SL n183 - SL n + 6 ≤ 2048 by omega) dd_M_init_330 (fun H hP hz hS => ?_)
  have hw := hw n188 e_n188
  rw [← e_n188] at hP hz
  refine W.cs (show n183 - n + 1 = n188 - n by omega) (show SL n183 - SL n + 6 = SL n188 - SL n by omega) ?_
  obtain ⟨V189, e_V189⟩ : ∃ z, z = fw_nw V185 n183 (fun _ => defaultValue .int) := ⟨_, rfl⟩
  rw [← e_V189] at hP
  have hw := hw V189 e_V189
  refine fw_putFV hx hb hts in_10 F_ty_10 F_tyok_10 F_nm_10 hown hK hP hS (show b ≤ b + o by omega) ⟨by omega, ho.2⟩ (by decide) rfl 29 (by decide) (hts _ (tb_in tw_810)) rfl hin rfl (ty := .array (.int)) (by decide +kernel) rfl rfl dd_M_init_332 (fun H locs hP hS hz9 => ?_)
  rw [← hz9] at hz
  obtain ⟨V190, e_V190⟩ : ∃ z, z = fw_up V189 o 29 (.ref (b + n183)) := ⟨_, rfl⟩
  rw [← e_V190] at hP
  have hw := hw V190 e_V190
  refine lv_aload_n hx hb dd_M_init_335 rfl (lv_at hl 0 rfl) ?_
  refine lv_bipush (v := 6) hx hb dd_M_init_336 kc_bp_6 ?_
  obtain ⟨h191, hw⟩ := hw
  obtain ⟨h192, hw⟩ := hw
  obtain ⟨n193, e_n193⟩ : ∃ z, z = n188 + 1 := ⟨_, rfl⟩
  have s_n193 : SL n193 = SL n188 + 6 := by rw [e_n193, SL_succ, h192]; rfl
  have t_n193 : SL n193 ≤ SL (n + 34) := SL_mono (by omega)
  have g_n193 : SL n ≤ SL n188 := SL_mono (by omega)
  refine fw_newA hx hb (atype := .int) (hts _ (tb_in tw_48)) (ty := .int) rfl (fun C0 h0 => by cases h0) hK hP hz hS h192 (by decide) 0 rfl (by decide) (by decide) (by decide) (show n188 - n + 1 ≤ 34 by omega) (show SL n188 - SL n + 6 ≤ 2048 by omega) dd_M_init_338 (fun H hP hz hS => ?_)
  have hw := hw n193 e_n193
  rw [← e_n193] at hP hz
  refine W.cs (show n188 - n + 1 = n193 - n by omega) (show SL n188 - SL n + 6 = SL n193 - SL n by omega) ?_
  obtain ⟨V194, e_V194⟩ : ∃ z, z = fw_nw V190 n188 (fun _ => defaultValue .int) := ⟨_, rfl⟩
  rw [← e_V194] at hP
  have hw := hw V194 e_V194
  refine fw_putFV hx hb hts in_10 F_ty_10 F_tyok_10 F_nm_10 hown hK hP hS (show b ≤ b + o by omega) ⟨by omega, ho.2⟩ (by decide) rfl 30 (by decide) (hts _ (tb_in tw_811)) rfl hin rfl (ty := .array (.int)) (by decide +kernel) rfl rfl dd_M_init_340 (fun H locs hP hS hz9 => ?_)
  rw [← hz9] at hz
  obtain ⟨V195, e_V195⟩ : ∃ z, z = fw_up V194 o 30 (.ref (b + n188)) := ⟨_, rfl⟩
  rw [← e_V195] at hP
  have hw := hw V195 e_V195
  refine lv_aload_n hx hb dd_M_init_343 rfl (lv_at hl 0 rfl) ?_
  refine lv_bipush (v := 6) hx hb dd_M_init_344 kc_bp_6 ?_
  obtain ⟨h196, hw⟩ := hw
  obtain ⟨h197, hw⟩ := hw
  obtain ⟨n198, e_n198⟩ : ∃ z, z = n193 + 1 := ⟨_, rfl⟩
  have s_n198 : SL n198 = SL n193 + 6 := by rw [e_n198, SL_succ, h197]; rfl
  have t_n198 : SL n198 ≤ SL (n + 34) := SL_mono (by omega)
  have g_n198 : SL n ≤ SL n193 := SL_mono (by omega)
  refine fw_newA hx hb (atype := .long) (hts _ (tb_in tw_110)) (ty := .long) rfl (fun C0 h0 => by cases h0) hK hP hz hS h197 (by decide) 1 rfl (by decide) (by decide) (by decide) (show n193 - n + 1 ≤ 34 by omega) (show SL n193 - SL n + 6 ≤ 2048 by omega) dd_M_init_346 (fun H hP hz hS => ?_)
  have hw := hw n198 e_n198
  rw [← e_n198] at hP hz
  refine W.cs (show n193 - n + 1 = n198 - n by omega) (show SL n193 - SL n + 6 = SL n198 - SL n by omega) ?_
  obtain ⟨V199, e_V199⟩ : ∃ z, z = fw_nw V195 n193 (fun _ => defaultValue .long) := ⟨_, rfl⟩
  rw [← e_V199] at hP
  have hw := hw V199 e_V199
  refine fw_putFV hx hb hts in_10 F_ty_10 F_tyok_10 F_nm_10 hown hK hP hS (show b ≤ b + o by omega) ⟨by omega, ho.2⟩ (by decide) rfl 31 (by decide) (hts _ (tb_in tw_812)) rfl hin rfl (ty := .array (.long)) (by decide +kernel) rfl rfl dd_M_init_348 (fun H locs hP hS hz9 => ?_)
  rw [← hz9] at hz
  obtain ⟨V200, e_V200⟩ : ∃ z, z = fw_up V199 o 31 (.ref (b + n193)) := ⟨_, rfl⟩
  rw [← e_V200] at hP
  have hw := hw V200 e_V200
  refine lv_aload_n hx hb dd_M_init_351 rfl (lv_at hl 0 rfl) ?_
  refine lv_bipush (v := 6) hx hb dd_M_init_352 kc_bp_6 ?_
  obtain ⟨h201, hw⟩ := hw
  obtain ⟨h202, hw⟩ := hw
  obtain ⟨n203, e_n203⟩ : ∃ z, z = n198 + 1 := ⟨_, rfl⟩
  have s_n203 : SL n203 = SL n198 + 6 := by rw [e_n203, SL_succ, h202]; rfl
  have t_n203 : SL n203 ≤ SL (n + 34) := SL_mono (by omega)
  have g_n203 : SL n ≤ SL n198 := SL_mono (by omega)
  refine fw_newA hx hb (atype := .long) (hts _ (tb_in tw_110)) (ty := .long) rfl (fun C0 h0 => by cases h0) hK hP hz hS h202 (by decide) 1 rfl (by decide) (by decide) (by decide) (show n198 - n + 1 ≤ 34 by omega) (show SL n198 - SL n + 6 ≤ 2048 by omega) dd_M_init_354 (fun H hP hz hS => ?_)
  have hw := hw n203 e_n203
  rw [← e_n203] at hP hz
  refine W.cs (show n198 - n + 1 = n203 - n by omega) (show SL n198 - SL n + 6 = SL n203 - SL n by omega) ?_
  obtain ⟨V204, e_V204⟩ : ∃ z, z = fw_nw V200 n198 (fun _ => defaultValue .long) := ⟨_, rfl⟩
  rw [← e_V204] at hP
  have hw := hw V204 e_V204
  refine fw_putFV hx hb hts in_10 F_ty_10 F_tyok_10 F_nm_10 hown hK hP hS (show b ≤ b + o by omega) ⟨by omega, ho.2⟩ (by decide) rfl 32 (by decide) (hts _ (tb_in tw_813)) rfl hin rfl (ty := .array (.long)) (by decide +kernel) rfl rfl dd_M_init_356 (fun H locs hP hS hz9 => ?_)
  rw [← hz9] at hz
  obtain ⟨V205, e_V205⟩ : ∃ z, z = fw_up V204 o 32 (.ref (b + n198)) := ⟨_, rfl⟩
  rw [← e_V205] at hP
  have hw := hw V205 e_V205
  refine lv_aload_n hx hb dd_M_init_359 rfl (lv_at hl 0 rfl) ?_
  refine lv_bipush (v := 6) hx hb dd_M_init_360 kc_bp_6 ?_
  obtain ⟨h206, hw⟩ := hw
  obtain ⟨h207, hw⟩ := hw
  obtain ⟨n208, e_n208⟩ : ∃ z, z = n203 + 1 := ⟨_, rfl⟩
  have s_n208 : SL n208 = SL n203 + 6 := by rw [e_n208, SL_succ, h207]; rfl
  have t_n208 : SL n208 ≤ SL (n + 34) := SL_mono (by omega)
  have g_n208 : SL n ≤ SL n203 := SL_mono (by omega)
  refine fw_newA hx hb (atype := .long) (hts _ (tb_in tw_110)) (ty := .long) rfl (fun C0 h0 => by cases h0) hK hP hz hS h207 (by decide) 1 rfl (by decide) (by decide) (by decide) (show n203 - n + 1 ≤ 34 by omega) (show SL n203 - SL n + 6 ≤ 2048 by omega) dd_M_init_362 (fun H hP hz hS => ?_)
  have hw := hw n208 e_n208
  rw [← e_n208] at hP hz
  refine W.cs (show n203 - n + 1 = n208 - n by omega) (show SL n203 - SL n + 6 = SL n208 - SL n by omega) ?_
  obtain ⟨V209, e_V209⟩ : ∃ z, z = fw_nw V205 n203 (fun _ => defaultValue .long) := ⟨_, rfl⟩
  rw [← e_V209] at hP
  have hw := hw V209 e_V209
  refine fw_putFV hx hb hts in_10 F_ty_10 F_tyok_10 F_nm_10 hown hK hP hS (show b ≤ b + o by omega) ⟨by omega, ho.2⟩ (by decide) rfl 33 (by decide) (hts _ (tb_in tw_814)) rfl hin rfl (ty := .array (.long)) (by decide +kernel) rfl rfl dd_M_init_364 (fun H locs hP hS hz9 => ?_)
  rw [← hz9] at hz
  obtain ⟨V210, e_V210⟩ : ∃ z, z = fw_up V209 o 33 (.ref (b + n203)) := ⟨_, rfl⟩
  rw [← e_V210] at hP
  have hw := hw V210 e_V210
  refine lv_aload_n hx hb dd_M_init_367 rfl (lv_at hl 0 rfl) ?_
  refine lv_bipush (v := 6) hx hb dd_M_init_368 kc_bp_6 ?_
  obtain ⟨h211, hw⟩ := hw
  obtain ⟨h212, hw⟩ := hw
  obtain ⟨n213, e_n213⟩ : ∃ z, z = n208 + 1 := ⟨_, rfl⟩
  have s_n213 : SL n213 = SL n208 + 6 := by rw [e_n213, SL_succ, h212]; rfl
  have t_n213 : SL n213 ≤ SL (n + 34) := SL_mono (by omega)
  have g_n213 : SL n ≤ SL n208 := SL_mono (by omega)
  refine fw_newA hx hb (atype := .int) (hts _ (tb_in tw_48)) (ty := .int) rfl (fun C0 h0 => by cases h0) hK hP hz hS h212 (by decide) 0 rfl (by decide) (by decide) (by decide) (show n208 - n + 1 ≤ 34 by omega) (show SL n208 - SL n + 6 ≤ 2048 by omega) dd_M_init_370 (fun H hP hz hS => ?_)
  have hw := hw n213 e_n213
  rw [← e_n213] at hP hz
  refine W.cs (show n208 - n + 1 = n213 - n by omega) (show SL n208 - SL n + 6 = SL n213 - SL n by omega) ?_
  obtain ⟨V214, e_V214⟩ : ∃ z, z = fw_nw V210 n208 (fun _ => defaultValue .int) := ⟨_, rfl⟩
  rw [← e_V214] at hP
  have hw := hw V214 e_V214
  refine fw_putFV hx hb hts in_10 F_ty_10 F_tyok_10 F_nm_10 hown hK hP hS (show b ≤ b + o by omega) ⟨by omega, ho.2⟩ (by decide) rfl 34 (by decide) (hts _ (tb_in tw_815)) rfl hin rfl (ty := .array (.int)) (by decide +kernel) rfl rfl dd_M_init_372 (fun H locs hP hS hz9 => ?_)
  rw [← hz9] at hz
  obtain ⟨V215, e_V215⟩ : ∃ z, z = fw_up V214 o 34 (.ref (b + n208)) := ⟨_, rfl⟩
  rw [← e_V215] at hP
  have hw := hw V215 e_V215
  refine lv_aload_n hx hb dd_M_init_375 rfl (lv_at hl 0 rfl) ?_
  refine lv_sipush (v := 640) hx hb dd_M_init_376 kc_sp_640 ?_
  obtain ⟨h216, hw⟩ := hw
  obtain ⟨h217, hw⟩ := hw
  obtain ⟨n218, e_n218⟩ : ∃ z, z = n213 + 1 := ⟨_, rfl⟩
  have s_n218 : SL n218 = SL n213 + 640 := by rw [e_n218, SL_succ, h217]; rfl
  have t_n218 : SL n218 ≤ SL (n + 34) := SL_mono (by omega)
  have g_n218 : SL n ≤ SL n213 := SL_mono (by omega)
  refine fw_newA hx hb (atype := .int) (hts _ (tb_in tw_48)) (ty := .int) rfl (fun C0 h0 => by cases h0) hK hP hz hS h217 (by decide) 0 rfl (by decide) (by decide) (by decide) (show n213 - n + 1 ≤ 34 by omega) (show SL n213 - SL n + 640 ≤ 2048 by omega) dd_M_init_379 (fun H hP hz hS => ?_)
  have hw := hw n218 e_n218
  rw [← e_n218] at hP hz
  refine W.cs (show n213 - n + 1 = n218 - n by omega) (show SL n213 - SL n + 640 = SL n218 - SL n by omega) ?_
  obtain ⟨V219, e_V219⟩ : ∃ z, z = fw_nw V215 n213 (fun _ => defaultValue .int) := ⟨_, rfl⟩
  rw [← e_V219] at hP
  have hw := hw V219 e_V219
  refine fw_putFV hx hb hts in_10 F_ty_10 F_tyok_10 F_nm_10 hown hK hP hS (show b ≤ b + o by omega) ⟨by omega, ho.2⟩ (by decide) rfl 36 (by decide) (hts _ (tb_in tw_817)) rfl hin rfl (ty := .array (.int)) (by decide +kernel) rfl rfl dd_M_init_381 (fun H locs hP hS hz9 => ?_)
  rw [← hz9] at hz
  obtain ⟨V220, e_V220⟩ : ∃ z, z = fw_up V219 o 36 (.ref (b + n213)) := ⟨_, rfl⟩
  rw [← e_V220] at hP
  have hw := hw V220 e_V220
  refine lv_aload_n hx hb dd_M_init_384 rfl (lv_at hl 0 rfl) ?_
  refine lv_bipush (v := 16) hx hb dd_M_init_385 kc_bp_16 ?_
  obtain ⟨h221, hw⟩ := hw
  obtain ⟨h222, hw⟩ := hw
  obtain ⟨n223, e_n223⟩ : ∃ z, z = n218 + 1 := ⟨_, rfl⟩
  have s_n223 : SL n223 = SL n218 + 16 := by rw [e_n223, SL_succ, h222]; rfl
  have t_n223 : SL n223 ≤ SL (n + 34) := SL_mono (by omega)
  have g_n223 : SL n ≤ SL n218 := SL_mono (by omega)
  refine fw_newA hx hb (atype := .long) (hts _ (tb_in tw_110)) (ty := .long) rfl (fun C0 h0 => by cases h0) hK hP hz hS h222 (by decide) 1 rfl (by decide) (by decide) (by decide) (show n218 - n + 1 ≤ 34 by omega) (show SL n218 - SL n + 16 ≤ 2048 by omega) dd_M_init_387 (fun H hP hz hS => ?_)
  have hw := hw n223 e_n223
  rw [← e_n223] at hP hz
  refine W.cs (show n218 - n + 1 = n223 - n by omega) (show SL n218 - SL n + 16 = SL n223 - SL n by omega) ?_
  obtain ⟨V224, e_V224⟩ : ∃ z, z = fw_nw V220 n218 (fun _ => defaultValue .long) := ⟨_, rfl⟩
  rw [← e_V224] at hP
  have hw := hw V224 e_V224
  refine fw_putFV hx hb hts in_10 F_ty_10 F_tyok_10 F_nm_10 hown hK hP hS (show b ≤ b + o by omega) ⟨by omega, ho.2⟩ (by decide) rfl 37 (by decide) (hts _ (tb_in tw_818)) rfl hin rfl (ty := .array (.long)) (by decide +kernel) rfl rfl dd_M_init_389 (fun H locs hP hS hz9 => ?_)
  rw [← hz9] at hz
  obtain ⟨V225, e_V225⟩ : ∃ z, z = fw_up V224 o 37 (.ref (b + n218)) := ⟨_, rfl⟩
  rw [← e_V225] at hP
  have hw := hw V225 e_V225
  refine lv_aload_n hx hb dd_M_init_392 rfl (lv_at hl 0 rfl) ?_
  refine lv_bipush (v := 6) hx hb dd_M_init_393 kc_bp_6 ?_
  obtain ⟨h226, hw⟩ := hw
  obtain ⟨h227, hw⟩ := hw
  obtain ⟨n228, e_n228⟩ : ∃ z, z = n223 + 1 := ⟨_, rfl⟩
  have s_n228 : SL n228 = SL n223 + 6 := by rw [e_n228, SL_succ, h227]; rfl
  have t_n228 : SL n228 ≤ SL (n + 34) := SL_mono (by omega)
  have g_n228 : SL n ≤ SL n223 := SL_mono (by omega)
  refine fw_newA hx hb (atype := .int) (hts _ (tb_in tw_48)) (ty := .int) rfl (fun C0 h0 => by cases h0) hK hP hz hS h227 (by decide) 0 rfl (by decide) (by decide) (by decide) (show n223 - n + 1 ≤ 34 by omega) (show SL n223 - SL n + 6 ≤ 2048 by omega) dd_M_init_395 (fun H hP hz hS => ?_)
  have hw := hw n228 e_n228
  rw [← e_n228] at hP hz
  refine W.cs (show n223 - n + 1 = n228 - n by omega) (show SL n223 - SL n + 6 = SL n228 - SL n by omega) ?_
  obtain ⟨V229, e_V229⟩ : ∃ z, z = fw_nw V225 n223 (fun _ => defaultValue .int) := ⟨_, rfl⟩
  rw [← e_V229] at hP
  have hw := hw V229 e_V229
  refine fw_putFV hx hb hts in_10 F_ty_10 F_tyok_10 F_nm_10 hown hK hP hS (show b ≤ b + o by omega) ⟨by omega, ho.2⟩ (by decide) rfl 38 (by decide) (hts _ (tb_in tw_819)) rfl hin rfl (ty := .array (.int)) (by decide +kernel) rfl rfl dd_M_init_397 (fun H locs hP hS hz9 => ?_)
  rw [← hz9] at hz
  obtain ⟨V230, e_V230⟩ : ∃ z, z = fw_up V229 o 38 (.ref (b + n223)) := ⟨_, rfl⟩
  rw [← e_V230] at hP
  have hw := hw V230 e_V230
  obtain ⟨h231, hw⟩ := hw
  have g232 : SL n ≤ SL n228 := SL_mono (by omega)
  have hT9 : SL n228 = SL n + 2048 := by rw [h231]; exact hSLt
  refine W.cs (show n228 - n = 34 by omega) (show SL n228 - SL n = 2048 by omega) ?_
  exact W.vret hx hb hr (fun t ht hW => ⟨⟨(n228, V230), rfl, hw, by rw [ht]; exact hP, by rw [ht]; exact hz, h231, hT9⟩, hS.F ht⟩) hS.2.2 dd_M_init_400
