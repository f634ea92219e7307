theorem dX12_tries_0 : decode cX12_tries 0 = .ok (.iload_n 1, 1) := by decide +kernel
theorem dX12_tries_1 : decode cX12_tries 1 = .ok (.iconst 0, 1) := by decide +kernel
theorem dX12_tries_2 : decode cX12_tries 2 = .ok (.iconst 3, 1) := by decide +kernel
theorem dX12_tries_3 : decode cX12_tries 3 = .ok (.invokestatic 18, 3) := by decide +kernel
theorem dX12_tries_6 : decode cX12_tries 6 = .ok (.ifCond .ne 5, 3) := by decide +kernel
theorem dX12_tries_9 : decode cX12_tries 9 = .ok (.iconst (-1), 1) := by decide +kernel
theorem dX12_tries_10 : decode cX12_tries 10 = .ok (.ireturn, 1) := by decide +kernel
theorem dX12_tries_11 : decode cX12_tries 11 = .ok (.aload_n 0, 1) := by decide +kernel
theorem dX12_tries_12 : decode cX12_tries 12 = .ok (.invokevirtual 728, 3) := by decide +kernel
theorem dX12_tries_15 : decode cX12_tries 15 = .ok (.istore_n 2, 1) := by decide +kernel
theorem dX12_tries_16 : decode cX12_tries 16 = .ok (.iconst 0, 1) := by decide +kernel
theorem dX12_tries_17 : decode cX12_tries 17 = .ok (.istore_n 3, 1) := by decide +kernel
theorem dX12_tries_18 : decode cX12_tries 18 = .ok (.iload_n 3, 1) := by decide +kernel
theorem dX12_tries_19 : decode cX12_tries 19 = .ok (.iload_n 2, 1) := by decide +kernel
theorem dX12_tries_20 : decode cX12_tries 20 = .ok (.if_icmp .ge 23, 3) := by decide +kernel
theorem dX12_tries_23 : decode cX12_tries 23 = .ok (.aload_n 0, 1) := by decide +kernel
theorem dX12_tries_24 : decode cX12_tries 24 = .ok (.getfield 530, 3) := by decide +kernel
theorem dX12_tries_27 : decode cX12_tries 27 = .ok (.iload_n 3, 1) := by decide +kernel
theorem dX12_tries_28 : decode cX12_tries 28 = .ok (.iconst (-1), 1) := by decide +kernel
theorem dX12_tries_29 : decode cX12_tries 29 = .ok (.iastore, 1) := by decide +kernel
theorem dX12_tries_30 : decode cX12_tries 30 = .ok (.aload_n 0, 1) := by decide +kernel
theorem dX12_tries_31 : decode cX12_tries 31 = .ok (.getfield 536, 3) := by decide +kernel
theorem dX12_tries_34 : decode cX12_tries 34 = .ok (.iload_n 3, 1) := by decide +kernel
theorem dX12_tries_35 : decode cX12_tries 35 = .ok (.iconst 0, 1) := by decide +kernel
theorem dX12_tries_36 : decode cX12_tries 36 = .ok (.bastore, 1) := by decide +kernel
theorem dX12_tries_37 : decode cX12_tries 37 = .ok (.iinc 3 1, 3) := by decide +kernel
theorem dX12_tries_40 : decode cX12_tries 40 = .ok (.goto (-22), 3) := by decide +kernel
theorem dX12_tries_43 : decode cX12_tries 43 = .ok (.iconst 0, 1) := by decide +kernel
theorem dX12_tries_44 : decode cX12_tries 44 = .ok (.istore_n 3, 1) := by decide +kernel
theorem dX12_tries_45 : decode cX12_tries 45 = .ok (.aload_n 0, 1) := by decide +kernel
theorem dX12_tries_46 : decode cX12_tries 46 = .ok (.getfield 533, 3) := by decide +kernel
theorem dX12_tries_49 : decode cX12_tries 49 = .ok (.iload_n 3, 1) := by decide +kernel
theorem dX12_tries_50 : decode cX12_tries 50 = .ok (.iload_n 2, 1) := by decide +kernel
theorem dX12_tries_51 : decode cX12_tries 51 = .ok (.iconst 1, 1) := by decide +kernel
theorem dX12_tries_52 : decode cX12_tries 52 = .ok (.isub, 1) := by decide +kernel
theorem dX12_tries_53 : decode cX12_tries 53 = .ok (.iastore, 1) := by decide +kernel
theorem dX12_tries_54 : decode cX12_tries 54 = .ok (.aload_n 0, 1) := by decide +kernel
theorem dX12_tries_55 : decode cX12_tries 55 = .ok (.getfield 530, 3) := by decide +kernel
theorem dX12_tries_58 : decode cX12_tries 58 = .ok (.iload_n 2, 1) := by decide +kernel
theorem dX12_tries_59 : decode cX12_tries 59 = .ok (.iconst 1, 1) := by decide +kernel
theorem dX12_tries_60 : decode cX12_tries 60 = .ok (.isub, 1) := by decide +kernel
theorem dX12_tries_61 : decode cX12_tries 61 = .ok (.iconst 0, 1) := by decide +kernel
theorem dX12_tries_62 : decode cX12_tries 62 = .ok (.iastore, 1) := by decide +kernel
theorem dX12_tries_63 : decode cX12_tries 63 = .ok (.iinc 3 1, 3) := by decide +kernel
theorem dX12_tries_66 : decode cX12_tries 66 = .ok (.iconst 0, 1) := by decide +kernel
theorem dX12_tries_67 : decode cX12_tries 67 = .ok (.istore 4, 2) := by decide +kernel
theorem dX12_tries_69 : decode cX12_tries 69 = .ok (.ldc 29, 2) := by decide +kernel
theorem dX12_tries_71 : decode cX12_tries 71 = .ok (.istore 5, 2) := by decide +kernel
theorem dX12_tries_73 : decode cX12_tries 73 = .ok (.iconst 0, 1) := by decide +kernel
theorem dX12_tries_74 : decode cX12_tries 74 = .ok (.istore 6, 2) := by decide +kernel
theorem dX12_tries_76 : decode cX12_tries 76 = .ok (.iload 6, 2) := by decide +kernel
theorem dX12_tries_78 : decode cX12_tries 78 = .ok (.iload_n 3, 1) := by decide +kernel
theorem dX12_tries_79 : decode cX12_tries 79 = .ok (.if_icmp .ge 161, 3) := by decide +kernel
theorem dX12_tries_82 : decode cX12_tries 82 = .ok (.aload_n 0, 1) := by decide +kernel
theorem dX12_tries_83 : decode cX12_tries 83 = .ok (.getfield 533, 3) := by decide +kernel
theorem dX12_tries_86 : decode cX12_tries 86 = .ok (.iload 6, 2) := by decide +kernel
theorem dX12_tries_88 : decode cX12_tries 88 = .ok (.iaload, 1) := by decide +kernel
theorem dX12_tries_89 : decode cX12_tries 89 = .ok (.istore 7, 2) := by decide +kernel
theorem dX12_tries_91 : decode cX12_tries 91 = .ok (.iconst 1, 1) := by decide +kernel
theorem dX12_tries_92 : decode cX12_tries 92 = .ok (.istore 8, 2) := by decide +kernel
theorem dX12_tries_94 : decode cX12_tries 94 = .ok (.aload_n 0, 1) := by decide +kernel
theorem dX12_tries_95 : decode cX12_tries 95 = .ok (.iload 7, 2) := by decide +kernel
theorem dX12_tries_97 : decode cX12_tries 97 = .ok (.invokevirtual 722, 3) := by decide +kernel
theorem dX12_tries_100 : decode cX12_tries 100 = .ok (.iconst 1, 1) := by decide +kernel
theorem dX12_tries_101 : decode cX12_tries 101 = .ok (.istore 9, 2) := by decide +kernel
theorem dX12_tries_103 : decode cX12_tries 103 = .ok (.iload 9, 2) := by decide +kernel
theorem dX12_tries_105 : decode cX12_tries 105 = .ok (.bipush 6, 2) := by decide +kernel
theorem dX12_tries_107 : decode cX12_tries 107 = .ok (.if_icmp .gt 95, 3) := by decide +kernel
theorem dX12_tries_110 : decode cX12_tries 110 = .ok (.aload_n 0, 1) := by decide +kernel
theorem dX12_tries_111 : decode cX12_tries 111 = .ok (.iload 9, 2) := by decide +kernel
theorem dX12_tries_113 : decode cX12_tries 113 = .ok (.invokevirtual 725, 3) := by decide +kernel
theorem dX12_tries_116 : decode cX12_tries 116 = .ok (.istore 10, 2) := by decide +kernel
theorem dX12_tries_118 : decode cX12_tries 118 = .ok (.iload 10, 2) := by decide +kernel
theorem dX12_tries_120 : decode cX12_tries 120 = .ok (.aload_n 0, 1) := by decide +kernel
theorem dX12_tries_121 : decode cX12_tries 121 = .ok (.getfield 526, 3) := by decide +kernel
theorem dX12_tries_124 : decode cX12_tries 124 = .ok (.iload 9, 2) := by decide +kernel
theorem dX12_tries_126 : decode cX12_tries 126 = .ok (.iaload, 1) := by decide +kernel
theorem dX12_tries_127 : decode cX12_tries 127 = .ok (.if_icmp .ne 6, 3) := by decide +kernel
theorem dX12_tries_130 : decode cX12_tries 130 = .ok (.goto 66, 3) := by decide +kernel
theorem dX12_tries_133 : decode cX12_tries 133 = .ok (.iconst 0, 1) := by decide +kernel
theorem dX12_tries_134 : decode cX12_tries 134 = .ok (.istore 8, 2) := by decide +kernel
theorem dX12_tries_136 : decode cX12_tries 136 = .ok (.iload 7, 2) := by decide +kernel
theorem dX12_tries_138 : decode cX12_tries 138 = .ok (.iload 10, 2) := by decide +kernel
theorem dX12_tries_140 : decode cX12_tries 140 = .ok (.aload_n 0, 1) := by decide +kernel
theorem dX12_tries_141 : decode cX12_tries 141 = .ok (.getfield 526, 3) := by decide +kernel
theorem dX12_tries_144 : decode cX12_tries 144 = .ok (.iload 9, 2) := by decide +kernel
theorem dX12_tries_146 : decode cX12_tries 146 = .ok (.iaload, 1) := by decide +kernel
theorem dX12_tries_147 : decode cX12_tries 147 = .ok (.isub, 1) := by decide +kernel
theorem dX12_tries_148 : decode cX12_tries 148 = .ok (.aload_n 0, 1) := by decide +kernel
theorem dX12_tries_149 : decode cX12_tries 149 = .ok (.getfield 523, 3) := by decide +kernel
theorem dX12_tries_152 : decode cX12_tries 152 = .ok (.iload 9, 2) := by decide +kernel
theorem dX12_tries_154 : decode cX12_tries 154 = .ok (.iaload, 1) := by decide +kernel
theorem dX12_tries_155 : decode cX12_tries 155 = .ok (.imul, 1) := by decide +kernel
theorem dX12_tries_156 : decode cX12_tries 156 = .ok (.iadd, 1) := by decide +kernel
theorem dX12_tries_157 : decode cX12_tries 157 = .ok (.istore 11, 2) := by decide +kernel
theorem dX12_tries_159 : decode cX12_tries 159 = .ok (.aload_n 0, 1) := by decide +kernel
theorem dX12_tries_160 : decode cX12_tries 160 = .ok (.getfield 530, 3) := by decide +kernel
theorem dX12_tries_163 : decode cX12_tries 163 = .ok (.iload 11, 2) := by decide +kernel
theorem dX12_tries_165 : decode cX12_tries 165 = .ok (.iaload, 1) := by decide +kernel
theorem dX12_tries_166 : decode cX12_tries 166 = .ok (.ifCond .ge 30, 3) := by decide +kernel
theorem dX12_tries_169 : decode cX12_tries 169 = .ok (.aload_n 0, 1) := by decide +kernel
theorem dX12_tries_170 : decode cX12_tries 170 = .ok (.getfield 530, 3) := by decide +kernel
theorem dX12_tries_173 : decode cX12_tries 173 = .ok (.iload 11, 2) := by decide +kernel
theorem dX12_tries_175 : decode cX12_tries 175 = .ok (.aload_n 0, 1) := by decide +kernel
theorem dX12_tries_176 : decode cX12_tries 176 = .ok (.getfield 530, 3) := by decide +kernel
theorem dX12_tries_179 : decode cX12_tries 179 = .ok (.iload 7, 2) := by decide +kernel
theorem dX12_tries_181 : decode cX12_tries 181 = .ok (.iaload, 1) := by decide +kernel
theorem dX12_tries_182 : decode cX12_tries 182 = .ok (.iconst 1, 1) := by decide +kernel
theorem dX12_tries_183 : decode cX12_tries 183 = .ok (.iadd, 1) := by decide +kernel
theorem dX12_tries_184 : decode cX12_tries 184 = .ok (.iastore, 1) := by decide +kernel
theorem dX12_tries_185 : decode cX12_tries 185 = .ok (.aload_n 0, 1) := by decide +kernel
theorem dX12_tries_186 : decode cX12_tries 186 = .ok (.getfield 533, 3) := by decide +kernel
theorem dX12_tries_189 : decode cX12_tries 189 = .ok (.iload_n 3, 1) := by decide +kernel
theorem dX12_tries_190 : decode cX12_tries 190 = .ok (.iload 11, 2) := by decide +kernel
theorem dX12_tries_192 : decode cX12_tries 192 = .ok (.iastore, 1) := by decide +kernel
theorem dX12_tries_193 : decode cX12_tries 193 = .ok (.iinc 3 1, 3) := by decide +kernel
theorem dX12_tries_196 : decode cX12_tries 196 = .ok (.iinc 9 1, 3) := by decide +kernel
theorem dX12_tries_199 : decode cX12_tries 199 = .ok (.goto (-96), 3) := by decide +kernel
theorem dX12_tries_202 : decode cX12_tries 202 = .ok (.iload 8, 2) := by decide +kernel
theorem dX12_tries_204 : decode cX12_tries 204 = .ok (.ifCond .eq 30, 3) := by decide +kernel
theorem dX12_tries_207 : decode cX12_tries 207 = .ok (.iinc 4 1, 3) := by decide +kernel
theorem dX12_tries_210 : decode cX12_tries 210 = .ok (.aload_n 0, 1) := by decide +kernel
theorem dX12_tries_211 : decode cX12_tries 211 = .ok (.getfield 536, 3) := by decide +kernel
theorem dX12_tries_214 : decode cX12_tries 214 = .ok (.iload 7, 2) := by decide +kernel
theorem dX12_tries_216 : decode cX12_tries 216 = .ok (.iconst 1, 1) := by decide +kernel
theorem dX12_tries_217 : decode cX12_tries 217 = .ok (.bastore, 1) := by decide +kernel
theorem dX12_tries_218 : decode cX12_tries 218 = .ok (.iload 5, 2) := by decide +kernel
theorem dX12_tries_220 : decode cX12_tries 220 = .ok (.ldc 29, 2) := by decide +kernel
theorem dX12_tries_222 : decode cX12_tries 222 = .ok (.if_icmp .ne 12, 3) := by decide +kernel
theorem dX12_tries_225 : decode cX12_tries 225 = .ok (.aload_n 0, 1) := by decide +kernel
theorem dX12_tries_226 : decode cX12_tries 226 = .ok (.getfield 530, 3) := by decide +kernel
theorem dX12_tries_229 : decode cX12_tries 229 = .ok (.iload 7, 2) := by decide +kernel
theorem dX12_tries_231 : decode cX12_tries 231 = .ok (.iaload, 1) := by decide +kernel
theorem dX12_tries_232 : decode cX12_tries 232 = .ok (.istore 5, 2) := by decide +kernel
theorem dX12_tries_234 : decode cX12_tries 234 = .ok (.iinc 6 1, 3) := by decide +kernel
theorem dX12_tries_237 : decode cX12_tries 237 = .ok (.goto (-161), 3) := by decide +kernel
theorem dX12_tries_240 : decode cX12_tries 240 = .ok (.iload_n 1, 1) := by decide +kernel
theorem dX12_tries_241 : decode cX12_tries 241 = .ok (.ifCond .ne 5, 3) := by decide +kernel
theorem dX12_tries_244 : decode cX12_tries 244 = .ok (.iload_n 3, 1) := by decide +kernel
theorem dX12_tries_245 : decode cX12_tries 245 = .ok (.ireturn, 1) := by decide +kernel
theorem dX12_tries_246 : decode cX12_tries 246 = .ok (.iload_n 1, 1) := by decide +kernel
theorem dX12_tries_247 : decode cX12_tries 247 = .ok (.iconst 1, 1) := by decide +kernel
theorem dX12_tries_248 : decode cX12_tries 248 = .ok (.if_icmp .ne 6, 3) := by decide +kernel
theorem dX12_tries_251 : decode cX12_tries 251 = .ok (.iload 4, 2) := by decide +kernel
theorem dX12_tries_253 : decode cX12_tries 253 = .ok (.ireturn, 1) := by decide +kernel
theorem dX12_tries_254 : decode cX12_tries 254 = .ok (.iload_n 1, 1) := by decide +kernel
theorem dX12_tries_255 : decode cX12_tries 255 = .ok (.iconst 3, 1) := by decide +kernel
theorem dX12_tries_256 : decode cX12_tries 256 = .ok (.if_icmp .ne 6, 3) := by decide +kernel
theorem dX12_tries_259 : decode cX12_tries 259 = .ok (.iload 5, 2) := by decide +kernel
theorem dX12_tries_261 : decode cX12_tries 261 = .ok (.ireturn, 1) := by decide +kernel
theorem dX12_tries_262 : decode cX12_tries 262 = .ok (.iconst 1, 1) := by decide +kernel
theorem dX12_tries_263 : decode cX12_tries 263 = .ok (.istore 6, 2) := by decide +kernel
theorem dX12_tries_265 : decode cX12_tries 265 = .ok (.iload 6, 2) := by decide +kernel
theorem dX12_tries_267 : decode cX12_tries 267 = .ok (.ifCond .eq 138, 3) := by decide +kernel
theorem dX12_tries_270 : decode cX12_tries 270 = .ok (.iconst 0, 1) := by decide +kernel
theorem dX12_tries_271 : decode cX12_tries 271 = .ok (.istore 6, 2) := by decide +kernel
theorem dX12_tries_273 : decode cX12_tries 273 = .ok (.iload_n 3, 1) := by decide +kernel
theorem dX12_tries_274 : decode cX12_tries 274 = .ok (.iconst 1, 1) := by decide +kernel
theorem dX12_tries_275 : decode cX12_tries 275 = .ok (.isub, 1) := by decide +kernel
theorem dX12_tries_276 : decode cX12_tries 276 = .ok (.istore 7, 2) := by decide +kernel
theorem dX12_tries_278 : decode cX12_tries 278 = .ok (.iload 7, 2) := by decide +kernel
theorem dX12_tries_280 : decode cX12_tries 280 = .ok (.ifCond .lt 122, 3) := by decide +kernel
theorem dX12_tries_283 : decode cX12_tries 283 = .ok (.aload_n 0, 1) := by decide +kernel
theorem dX12_tries_284 : decode cX12_tries 284 = .ok (.getfield 533, 3) := by decide +kernel
theorem dX12_tries_287 : decode cX12_tries 287 = .ok (.iload 7, 2) := by decide +kernel
theorem dX12_tries_289 : decode cX12_tries 289 = .ok (.iaload, 1) := by decide +kernel
theorem dX12_tries_290 : decode cX12_tries 290 = .ok (.istore 8, 2) := by decide +kernel
theorem dX12_tries_292 : decode cX12_tries 292 = .ok (.aload_n 0, 1) := by decide +kernel
theorem dX12_tries_293 : decode cX12_tries 293 = .ok (.getfield 536, 3) := by decide +kernel
theorem dX12_tries_296 : decode cX12_tries 296 = .ok (.iload 8, 2) := by decide +kernel
theorem dX12_tries_298 : decode cX12_tries 298 = .ok (.baload, 1) := by decide +kernel
theorem dX12_tries_299 : decode cX12_tries 299 = .ok (.ifCond .eq 6, 3) := by decide +kernel
theorem dX12_tries_302 : decode cX12_tries 302 = .ok (.goto 94, 3) := by decide +kernel
theorem dX12_tries_305 : decode cX12_tries 305 = .ok (.aload_n 0, 1) := by decide +kernel
theorem dX12_tries_306 : decode cX12_tries 306 = .ok (.iload 8, 2) := by decide +kernel
theorem dX12_tries_308 : decode cX12_tries 308 = .ok (.invokevirtual 722, 3) := by decide +kernel
theorem dX12_tries_311 : decode cX12_tries 311 = .ok (.iconst 1, 1) := by decide +kernel
theorem dX12_tries_312 : decode cX12_tries 312 = .ok (.istore 9, 2) := by decide +kernel
theorem dX12_tries_314 : decode cX12_tries 314 = .ok (.iload 9, 2) := by decide +kernel
theorem dX12_tries_316 : decode cX12_tries 316 = .ok (.bipush 6, 2) := by decide +kernel
theorem dX12_tries_318 : decode cX12_tries 318 = .ok (.if_icmp .gt 56, 3) := by decide +kernel
theorem dX12_tries_321 : decode cX12_tries 321 = .ok (.aload_n 0, 1) := by decide +kernel
theorem dX12_tries_322 : decode cX12_tries 322 = .ok (.getfield 536, 3) := by decide +kernel
theorem dX12_tries_325 : decode cX12_tries 325 = .ok (.iload 8, 2) := by decide +kernel
theorem dX12_tries_327 : decode cX12_tries 327 = .ok (.baload, 1) := by decide +kernel
theorem dX12_tries_328 : decode cX12_tries 328 = .ok (.ifCond .ne 46, 3) := by decide +kernel
theorem dX12_tries_331 : decode cX12_tries 331 = .ok (.aload_n 0, 1) := by decide +kernel
theorem dX12_tries_332 : decode cX12_tries 332 = .ok (.getfield 536, 3) := by decide +kernel
theorem dX12_tries_335 : decode cX12_tries 335 = .ok (.iload 8, 2) := by decide +kernel
theorem dX12_tries_337 : decode cX12_tries 337 = .ok (.aload_n 0, 1) := by decide +kernel
theorem dX12_tries_338 : decode cX12_tries 338 = .ok (.getfield 536, 3) := by decide +kernel
theorem dX12_tries_341 : decode cX12_tries 341 = .ok (.iload 8, 2) := by decide +kernel
theorem dX12_tries_343 : decode cX12_tries 343 = .ok (.aload_n 0, 1) := by decide +kernel
theorem dX12_tries_344 : decode cX12_tries 344 = .ok (.iload 9, 2) := by decide +kernel
theorem dX12_tries_346 : decode cX12_tries 346 = .ok (.invokevirtual 725, 3) := by decide +kernel
theorem dX12_tries_349 : decode cX12_tries 349 = .ok (.aload_n 0, 1) := by decide +kernel
theorem dX12_tries_350 : decode cX12_tries 350 = .ok (.getfield 526, 3) := by decide +kernel
theorem dX12_tries_353 : decode cX12_tries 353 = .ok (.iload 9, 2) := by decide +kernel
theorem dX12_tries_355 : decode cX12_tries 355 = .ok (.iaload, 1) := by decide +kernel
theorem dX12_tries_356 : decode cX12_tries 356 = .ok (.isub, 1) := by decide +kernel
theorem dX12_tries_357 : decode cX12_tries 357 = .ok (.aload_n 0, 1) := by decide +kernel
theorem dX12_tries_358 : decode cX12_tries 358 = .ok (.getfield 523, 3) := by decide +kernel
theorem dX12_tries_361 : decode cX12_tries 361 = .ok (.iload 9, 2) := by decide +kernel
theorem dX12_tries_363 : decode cX12_tries 363 = .ok (.iaload, 1) := by decide +kernel
theorem dX12_tries_364 : decode cX12_tries 364 = .ok (.imul, 1) := by decide +kernel
theorem dX12_tries_365 : decode cX12_tries 365 = .ok (.iadd, 1) := by decide +kernel
theorem dX12_tries_366 : decode cX12_tries 366 = .ok (.baload, 1) := by decide +kernel
theorem dX12_tries_367 : decode cX12_tries 367 = .ok (.bastore, 1) := by decide +kernel
theorem dX12_tries_368 : decode cX12_tries 368 = .ok (.iinc 9 1, 3) := by decide +kernel
theorem dX12_tries_371 : decode cX12_tries 371 = .ok (.goto (-57), 3) := by decide +kernel
theorem dX12_tries_374 : decode cX12_tries 374 = .ok (.iload 6, 2) := by decide +kernel
theorem dX12_tries_376 : decode cX12_tries 376 = .ok (.ifCond .ne 13, 3) := by decide +kernel
theorem dX12_tries_379 : decode cX12_tries 379 = .ok (.aload_n 0, 1) := by decide +kernel
theorem dX12_tries_380 : decode cX12_tries 380 = .ok (.getfield 536, 3) := by decide +kernel
theorem dX12_tries_383 : decode cX12_tries 383 = .ok (.iload 8, 2) := by decide +kernel
theorem dX12_tries_385 : decode cX12_tries 385 = .ok (.baload, 1) := by decide +kernel
theorem dX12_tries_386 : decode cX12_tries 386 = .ok (.ifCond .eq 7, 3) := by decide +kernel
theorem dX12_tries_389 : decode cX12_tries 389 = .ok (.iconst 1, 1) := by decide +kernel
theorem dX12_tries_390 : decode cX12_tries 390 = .ok (.goto 4, 3) := by decide +kernel
theorem dX12_tries_393 : decode cX12_tries 393 = .ok (.iconst 0, 1) := by decide +kernel
theorem dX12_tries_394 : decode cX12_tries 394 = .ok (.istore 6, 2) := by decide +kernel
theorem dX12_tries_396 : decode cX12_tries 396 = .ok (.iinc 7 (-1), 3) := by decide +kernel
theorem dX12_tries_399 : decode cX12_tries 399 = .ok (.goto (-121), 3) := by decide +kernel
theorem dX12_tries_402 : decode cX12_tries 402 = .ok (.goto (-137), 3) := by decide +kernel
theorem dX12_tries_405 : decode cX12_tries 405 = .ok (.iconst 0, 1) := by decide +kernel
theorem dX12_tries_406 : decode cX12_tries 406 = .ok (.istore 7, 2) := by decide +kernel
theorem dX12_tries_408 : decode cX12_tries 408 = .ok (.iconst 0, 1) := by decide +kernel
theorem dX12_tries_409 : decode cX12_tries 409 = .ok (.istore 8, 2) := by decide +kernel
theorem dX12_tries_411 : decode cX12_tries 411 = .ok (.iload 8, 2) := by decide +kernel
theorem dX12_tries_413 : decode cX12_tries 413 = .ok (.iload_n 3, 1) := by decide +kernel
theorem dX12_tries_414 : decode cX12_tries 414 = .ok (.if_icmp .ge 34, 3) := by decide +kernel
theorem dX12_tries_417 : decode cX12_tries 417 = .ok (.iload 7, 2) := by decide +kernel
theorem dX12_tries_419 : decode cX12_tries 419 = .ok (.aload_n 0, 1) := by decide +kernel
theorem dX12_tries_420 : decode cX12_tries 420 = .ok (.getfield 536, 3) := by decide +kernel
theorem dX12_tries_423 : decode cX12_tries 423 = .ok (.aload_n 0, 1) := by decide +kernel
theorem dX12_tries_424 : decode cX12_tries 424 = .ok (.getfield 533, 3) := by decide +kernel
theorem dX12_tries_427 : decode cX12_tries 427 = .ok (.iload 8, 2) := by decide +kernel
theorem dX12_tries_429 : decode cX12_tries 429 = .ok (.iaload, 1) := by decide +kernel
theorem dX12_tries_430 : decode cX12_tries 430 = .ok (.baload, 1) := by decide +kernel
theorem dX12_tries_431 : decode cX12_tries 431 = .ok (.ifCond .eq 7, 3) := by decide +kernel
theorem dX12_tries_434 : decode cX12_tries 434 = .ok (.iconst 0, 1) := by decide +kernel
theorem dX12_tries_435 : decode cX12_tries 435 = .ok (.goto 4, 3) := by decide +kernel
theorem dX12_tries_438 : decode cX12_tries 438 = .ok (.iconst 1, 1) := by decide +kernel
theorem dX12_tries_439 : decode cX12_tries 439 = .ok (.iadd, 1) := by decide +kernel
theorem dX12_tries_440 : decode cX12_tries 440 = .ok (.istore 7, 2) := by decide +kernel
theorem dX12_tries_442 : decode cX12_tries 442 = .ok (.iinc 8 1, 3) := by decide +kernel
theorem dX12_tries_445 : decode cX12_tries 445 = .ok (.goto (-34), 3) := by decide +kernel
theorem dX12_tries_448 : decode cX12_tries 448 = .ok (.iload 7, 2) := by decide +kernel
theorem dX12_tries_450 : decode cX12_tries 450 = .ok (.ireturn, 1) := by decide +kernel
