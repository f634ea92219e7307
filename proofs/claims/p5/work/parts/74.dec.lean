theorem dX12_attributes_0 : decode cX12_attributes 0 = .ok (.iload_n 1, 1) := by decide +kernel
theorem dX12_attributes_1 : decode cX12_attributes 1 = .ok (.istore_n 3, 1) := by decide +kernel
theorem dX12_attributes_2 : decode cX12_attributes 2 = .ok (.iload_n 3, 1) := by decide +kernel
theorem dX12_attributes_3 : decode cX12_attributes 3 = .ok (.iload_n 2, 1) := by decide +kernel
theorem dX12_attributes_4 : decode cX12_attributes 4 = .ok (.if_icmp .ge 341, 3) := by decide +kernel
theorem dX12_attributes_7 : decode cX12_attributes 7 = .ok (.aload_n 0, 1) := by decide +kernel
theorem dX12_attributes_8 : decode cX12_attributes 8 = .ok (.iload_n 3, 1) := by decide +kernel
theorem dX12_attributes_9 : decode cX12_attributes 9 = .ok (.invokevirtual 227, 3) := by decide +kernel
theorem dX12_attributes_12 : decode cX12_attributes 12 = .ok (.bipush 16, 2) := by decide +kernel
theorem dX12_attributes_14 : decode cX12_attributes 14 = .ok (.iand, 1) := by decide +kernel
theorem dX12_attributes_15 : decode cX12_attributes 15 = .ok (.ifCond .eq 7, 3) := by decide +kernel
theorem dX12_attributes_18 : decode cX12_attributes 18 = .ok (.iconst 1, 1) := by decide +kernel
theorem dX12_attributes_19 : decode cX12_attributes 19 = .ok (.goto 4, 3) := by decide +kernel
theorem dX12_attributes_22 : decode cX12_attributes 22 = .ok (.iconst 0, 1) := by decide +kernel
theorem dX12_attributes_23 : decode cX12_attributes 23 = .ok (.istore 4, 2) := by decide +kernel
theorem dX12_attributes_25 : decode cX12_attributes 25 = .ok (.iload 4, 2) := by decide +kernel
theorem dX12_attributes_27 : decode cX12_attributes 27 = .ok (.ifCond .eq 7, 3) := by decide +kernel
theorem dX12_attributes_30 : decode cX12_attributes 30 = .ok (.iconst 4, 1) := by decide +kernel
theorem dX12_attributes_31 : decode cX12_attributes 31 = .ok (.goto 4, 3) := by decide +kernel
theorem dX12_attributes_34 : decode cX12_attributes 34 = .ok (.iconst 3, 1) := by decide +kernel
theorem dX12_attributes_35 : decode cX12_attributes 35 = .ok (.istore 5, 2) := by decide +kernel
theorem dX12_attributes_37 : decode cX12_attributes 37 = .ok (.iload_n 3, 1) := by decide +kernel
theorem dX12_attributes_38 : decode cX12_attributes 38 = .ok (.iload 5, 2) := by decide +kernel
theorem dX12_attributes_40 : decode cX12_attributes 40 = .ok (.iadd, 1) := by decide +kernel
theorem dX12_attributes_41 : decode cX12_attributes 41 = .ok (.iload_n 2, 1) := by decide +kernel
theorem dX12_attributes_42 : decode cX12_attributes 42 = .ok (.if_icmp .gt 23, 3) := by decide +kernel
theorem dX12_attributes_45 : decode cX12_attributes 45 = .ok (.iload_n 3, 1) := by decide +kernel
theorem dX12_attributes_46 : decode cX12_attributes 46 = .ok (.iload 5, 2) := by decide +kernel
theorem dX12_attributes_48 : decode cX12_attributes 48 = .ok (.iadd, 1) := by decide +kernel
theorem dX12_attributes_49 : decode cX12_attributes 49 = .ok (.aload_n 0, 1) := by decide +kernel
theorem dX12_attributes_50 : decode cX12_attributes 50 = .ok (.iload_n 3, 1) := by decide +kernel
theorem dX12_attributes_51 : decode cX12_attributes 51 = .ok (.iconst 2, 1) := by decide +kernel
theorem dX12_attributes_52 : decode cX12_attributes 52 = .ok (.iadd, 1) := by decide +kernel
theorem dX12_attributes_53 : decode cX12_attributes 53 = .ok (.iload 5, 2) := by decide +kernel
theorem dX12_attributes_55 : decode cX12_attributes 55 = .ok (.iconst 2, 1) := by decide +kernel
theorem dX12_attributes_56 : decode cX12_attributes 56 = .ok (.isub, 1) := by decide +kernel
theorem dX12_attributes_57 : decode cX12_attributes 57 = .ok (.invokevirtual 623, 3) := by decide +kernel
theorem dX12_attributes_60 : decode cX12_attributes 60 = .ok (.iadd, 1) := by decide +kernel
theorem dX12_attributes_61 : decode cX12_attributes 61 = .ok (.iload_n 2, 1) := by decide +kernel
theorem dX12_attributes_62 : decode cX12_attributes 62 = .ok (.if_icmp .le 10, 3) := by decide +kernel
theorem dX12_attributes_65 : decode cX12_attributes 65 = .ok (.aload_n 0, 1) := by decide +kernel
theorem dX12_attributes_66 : decode cX12_attributes 66 = .ok (.iconst 2, 1) := by decide +kernel
theorem dX12_attributes_67 : decode cX12_attributes 67 = .ok (.iload_n 3, 1) := by decide +kernel
theorem dX12_attributes_68 : decode cX12_attributes 68 = .ok (.invokevirtual 620, 3) := by decide +kernel
theorem dX12_attributes_71 : decode cX12_attributes 71 = .ok (.return_, 1) := by decide +kernel
theorem dX12_attributes_72 : decode cX12_attributes 72 = .ok (.aload_n 0, 1) := by decide +kernel
theorem dX12_attributes_73 : decode cX12_attributes 73 = .ok (.iload_n 3, 1) := by decide +kernel
theorem dX12_attributes_74 : decode cX12_attributes 74 = .ok (.invokevirtual 227, 3) := by decide +kernel
theorem dX12_attributes_77 : decode cX12_attributes 77 = .ok (.istore 6, 2) := by decide +kernel
theorem dX12_attributes_79 : decode cX12_attributes 79 = .ok (.aload_n 0, 1) := by decide +kernel
theorem dX12_attributes_80 : decode cX12_attributes 80 = .ok (.iload_n 3, 1) := by decide +kernel
theorem dX12_attributes_81 : decode cX12_attributes 81 = .ok (.iconst 1, 1) := by decide +kernel
theorem dX12_attributes_82 : decode cX12_attributes 82 = .ok (.iadd, 1) := by decide +kernel
theorem dX12_attributes_83 : decode cX12_attributes 83 = .ok (.invokevirtual 227, 3) := by decide +kernel
theorem dX12_attributes_86 : decode cX12_attributes 86 = .ok (.istore 7, 2) := by decide +kernel
theorem dX12_attributes_88 : decode cX12_attributes 88 = .ok (.aload_n 0, 1) := by decide +kernel
theorem dX12_attributes_89 : decode cX12_attributes 89 = .ok (.iload_n 3, 1) := by decide +kernel
theorem dX12_attributes_90 : decode cX12_attributes 90 = .ok (.iconst 2, 1) := by decide +kernel
theorem dX12_attributes_91 : decode cX12_attributes 91 = .ok (.iadd, 1) := by decide +kernel
theorem dX12_attributes_92 : decode cX12_attributes 92 = .ok (.iload 5, 2) := by decide +kernel
theorem dX12_attributes_94 : decode cX12_attributes 94 = .ok (.iconst 2, 1) := by decide +kernel
theorem dX12_attributes_95 : decode cX12_attributes 95 = .ok (.isub, 1) := by decide +kernel
theorem dX12_attributes_96 : decode cX12_attributes 96 = .ok (.invokevirtual 623, 3) := by decide +kernel
theorem dX12_attributes_99 : decode cX12_attributes 99 = .ok (.istore 8, 2) := by decide +kernel
theorem dX12_attributes_101 : decode cX12_attributes 101 = .ok (.iload_n 3, 1) := by decide +kernel
theorem dX12_attributes_102 : decode cX12_attributes 102 = .ok (.iload 5, 2) := by decide +kernel
theorem dX12_attributes_104 : decode cX12_attributes 104 = .ok (.iadd, 1) := by decide +kernel
theorem dX12_attributes_105 : decode cX12_attributes 105 = .ok (.istore 9, 2) := by decide +kernel
theorem dX12_attributes_107 : decode cX12_attributes 107 = .ok (.aload_n 0, 1) := by decide +kernel
theorem dX12_attributes_108 : decode cX12_attributes 108 = .ok (.getfield 475, 3) := by decide +kernel
theorem dX12_attributes_111 : decode cX12_attributes 111 = .ok (.iload 7, 2) := by decide +kernel
theorem dX12_attributes_113 : decode cX12_attributes 113 = .ok (.baload, 1) := by decide +kernel
theorem dX12_attributes_114 : decode cX12_attributes 114 = .ok (.ifCond .eq 12, 3) := by decide +kernel
theorem dX12_attributes_117 : decode cX12_attributes 117 = .ok (.aload_n 0, 1) := by decide +kernel
theorem dX12_attributes_118 : decode cX12_attributes 118 = .ok (.iconst 3, 1) := by decide +kernel
theorem dX12_attributes_119 : decode cX12_attributes 119 = .ok (.iload_n 3, 1) := by decide +kernel
theorem dX12_attributes_120 : decode cX12_attributes 120 = .ok (.invokevirtual 620, 3) := by decide +kernel
theorem dX12_attributes_123 : decode cX12_attributes 123 = .ok (.goto 213, 3) := by decide +kernel
theorem dX12_attributes_126 : decode cX12_attributes 126 = .ok (.aload_n 0, 1) := by decide +kernel
theorem dX12_attributes_127 : decode cX12_attributes 127 = .ok (.getfield 475, 3) := by decide +kernel
theorem dX12_attributes_130 : decode cX12_attributes 130 = .ok (.iload 7, 2) := by decide +kernel
theorem dX12_attributes_132 : decode cX12_attributes 132 = .ok (.iconst 1, 1) := by decide +kernel
theorem dX12_attributes_133 : decode cX12_attributes 133 = .ok (.bastore, 1) := by decide +kernel
theorem dX12_attributes_134 : decode cX12_attributes 134 = .ok (.iload 7, 2) := by decide +kernel
theorem dX12_attributes_136 : decode cX12_attributes 136 = .ok (.iconst 1, 1) := by decide +kernel
theorem dX12_attributes_137 : decode cX12_attributes 137 = .ok (.if_icmp .eq 9, 3) := by decide +kernel
theorem dX12_attributes_140 : decode cX12_attributes 140 = .ok (.iload 7, 2) := by decide +kernel
theorem dX12_attributes_142 : decode cX12_attributes 142 = .ok (.iconst 2, 1) := by decide +kernel
theorem dX12_attributes_143 : decode cX12_attributes 143 = .ok (.if_icmp .ne 8, 3) := by decide +kernel
theorem dX12_attributes_146 : decode cX12_attributes 146 = .ok (.bipush 64, 2) := by decide +kernel
theorem dX12_attributes_148 : decode cX12_attributes 148 = .ok (.goto 29, 3) := by decide +kernel
theorem dX12_attributes_151 : decode cX12_attributes 151 = .ok (.iload 7, 2) := by decide +kernel
theorem dX12_attributes_153 : decode cX12_attributes 153 = .ok (.iconst 4, 1) := by decide +kernel
theorem dX12_attributes_154 : decode cX12_attributes 154 = .ok (.if_icmp .ne 9, 3) := by decide +kernel
theorem dX12_attributes_157 : decode cX12_attributes 157 = .ok (.sipush 128, 3) := by decide +kernel
theorem dX12_attributes_160 : decode cX12_attributes 160 = .ok (.goto 17, 3) := by decide +kernel
theorem dX12_attributes_163 : decode cX12_attributes 163 = .ok (.iload 7, 2) := by decide +kernel
theorem dX12_attributes_165 : decode cX12_attributes 165 = .ok (.bipush 8, 2) := by decide +kernel
theorem dX12_attributes_167 : decode cX12_attributes 167 = .ok (.if_icmp .ne 9, 3) := by decide +kernel
theorem dX12_attributes_170 : decode cX12_attributes 170 = .ok (.sipush 192, 3) := by decide +kernel
theorem dX12_attributes_173 : decode cX12_attributes 173 = .ok (.goto 4, 3) := by decide +kernel
theorem dX12_attributes_176 : decode cX12_attributes 176 = .ok (.iconst (-1), 1) := by decide +kernel
theorem dX12_attributes_177 : decode cX12_attributes 177 = .ok (.istore 10, 2) := by decide +kernel
theorem dX12_attributes_179 : decode cX12_attributes 179 = .ok (.iload 10, 2) := by decide +kernel
theorem dX12_attributes_181 : decode cX12_attributes 181 = .ok (.ifCond .lt 94, 3) := by decide +kernel
theorem dX12_attributes_184 : decode cX12_attributes 184 = .ok (.iload 6, 2) := by decide +kernel
theorem dX12_attributes_186 : decode cX12_attributes 186 = .ok (.bipush (-49), 2) := by decide +kernel
theorem dX12_attributes_188 : decode cX12_attributes 188 = .ok (.iand, 1) := by decide +kernel
theorem dX12_attributes_189 : decode cX12_attributes 189 = .ok (.iload 10, 2) := by decide +kernel
theorem dX12_attributes_191 : decode cX12_attributes 191 = .ok (.if_icmp .ne 78, 3) := by decide +kernel
theorem dX12_attributes_194 : decode cX12_attributes 194 = .ok (.iload 7, 2) := by decide +kernel
theorem dX12_attributes_196 : decode cX12_attributes 196 = .ok (.iconst 1, 1) := by decide +kernel
theorem dX12_attributes_197 : decode cX12_attributes 197 = .ok (.if_icmp .ne 17, 3) := by decide +kernel
theorem dX12_attributes_200 : decode cX12_attributes 200 = .ok (.aload_n 0, 1) := by decide +kernel
theorem dX12_attributes_201 : decode cX12_attributes 201 = .ok (.iload 9, 2) := by decide +kernel
theorem dX12_attributes_203 : decode cX12_attributes 203 = .ok (.iload 8, 2) := by decide +kernel
theorem dX12_attributes_205 : decode cX12_attributes 205 = .ok (.invokevirtual 640, 3) := by decide +kernel
theorem dX12_attributes_208 : decode cX12_attributes 208 = .ok (.ifCond .eq 61, 3) := by decide +kernel
theorem dX12_attributes_211 : decode cX12_attributes 211 = .ok (.goto 54, 3) := by decide +kernel
theorem dX12_attributes_214 : decode cX12_attributes 214 = .ok (.iload 7, 2) := by decide +kernel
theorem dX12_attributes_216 : decode cX12_attributes 216 = .ok (.iconst 2, 1) := by decide +kernel
theorem dX12_attributes_217 : decode cX12_attributes 217 = .ok (.if_icmp .ne 17, 3) := by decide +kernel
theorem dX12_attributes_220 : decode cX12_attributes 220 = .ok (.aload_n 0, 1) := by decide +kernel
theorem dX12_attributes_221 : decode cX12_attributes 221 = .ok (.iload 9, 2) := by decide +kernel
theorem dX12_attributes_223 : decode cX12_attributes 223 = .ok (.iload 8, 2) := by decide +kernel
theorem dX12_attributes_225 : decode cX12_attributes 225 = .ok (.invokevirtual 643, 3) := by decide +kernel
theorem dX12_attributes_228 : decode cX12_attributes 228 = .ok (.ifCond .eq 41, 3) := by decide +kernel
theorem dX12_attributes_231 : decode cX12_attributes 231 = .ok (.goto 34, 3) := by decide +kernel
theorem dX12_attributes_234 : decode cX12_attributes 234 = .ok (.iload 7, 2) := by decide +kernel
theorem dX12_attributes_236 : decode cX12_attributes 236 = .ok (.iconst 4, 1) := by decide +kernel
theorem dX12_attributes_237 : decode cX12_attributes 237 = .ok (.if_icmp .ne 17, 3) := by decide +kernel
theorem dX12_attributes_240 : decode cX12_attributes 240 = .ok (.aload_n 0, 1) := by decide +kernel
theorem dX12_attributes_241 : decode cX12_attributes 241 = .ok (.iload 9, 2) := by decide +kernel
theorem dX12_attributes_243 : decode cX12_attributes 243 = .ok (.iload 8, 2) := by decide +kernel
theorem dX12_attributes_245 : decode cX12_attributes 245 = .ok (.invokevirtual 646, 3) := by decide +kernel
theorem dX12_attributes_248 : decode cX12_attributes 248 = .ok (.ifCond .eq 21, 3) := by decide +kernel
theorem dX12_attributes_251 : decode cX12_attributes 251 = .ok (.goto 14, 3) := by decide +kernel
theorem dX12_attributes_254 : decode cX12_attributes 254 = .ok (.aload_n 0, 1) := by decide +kernel
theorem dX12_attributes_255 : decode cX12_attributes 255 = .ok (.iload 9, 2) := by decide +kernel
theorem dX12_attributes_257 : decode cX12_attributes 257 = .ok (.iload 8, 2) := by decide +kernel
theorem dX12_attributes_259 : decode cX12_attributes 259 = .ok (.invokevirtual 649, 3) := by decide +kernel
theorem dX12_attributes_262 : decode cX12_attributes 262 = .ok (.ifCond .eq 7, 3) := by decide +kernel
theorem dX12_attributes_265 : decode cX12_attributes 265 = .ok (.iconst 1, 1) := by decide +kernel
theorem dX12_attributes_266 : decode cX12_attributes 266 = .ok (.goto 4, 3) := by decide +kernel
theorem dX12_attributes_269 : decode cX12_attributes 269 = .ok (.iconst 0, 1) := by decide +kernel
theorem dX12_attributes_270 : decode cX12_attributes 270 = .ok (.istore 11, 2) := by decide +kernel
theorem dX12_attributes_272 : decode cX12_attributes 272 = .ok (.goto 53, 3) := by decide +kernel
theorem dX12_attributes_275 : decode cX12_attributes 275 = .ok (.iload 6, 2) := by decide +kernel
theorem dX12_attributes_277 : decode cX12_attributes 277 = .ok (.sipush 128, 3) := by decide +kernel
theorem dX12_attributes_280 : decode cX12_attributes 280 = .ok (.iand, 1) := by decide +kernel
theorem dX12_attributes_281 : decode cX12_attributes 281 = .ok (.ifCond .eq 7, 3) := by decide +kernel
theorem dX12_attributes_284 : decode cX12_attributes 284 = .ok (.iconst 1, 1) := by decide +kernel
theorem dX12_attributes_285 : decode cX12_attributes 285 = .ok (.goto 4, 3) := by decide +kernel
theorem dX12_attributes_288 : decode cX12_attributes 288 = .ok (.iconst 0, 1) := by decide +kernel
theorem dX12_attributes_289 : decode cX12_attributes 289 = .ok (.istore 11, 2) := by decide +kernel
theorem dX12_attributes_291 : decode cX12_attributes 291 = .ok (.iload 11, 2) := by decide +kernel
theorem dX12_attributes_293 : decode cX12_attributes 293 = .ok (.ifCond .eq 32, 3) := by decide +kernel
theorem dX12_attributes_296 : decode cX12_attributes 296 = .ok (.iload 6, 2) := by decide +kernel
theorem dX12_attributes_298 : decode cX12_attributes 298 = .ok (.bipush 64, 2) := by decide +kernel
theorem dX12_attributes_300 : decode cX12_attributes 300 = .ok (.iand, 1) := by decide +kernel
theorem dX12_attributes_301 : decode cX12_attributes 301 = .ok (.ifCond .eq 24, 3) := by decide +kernel
theorem dX12_attributes_304 : decode cX12_attributes 304 = .ok (.aload_n 0, 1) := by decide +kernel
theorem dX12_attributes_305 : decode cX12_attributes 305 = .ok (.getfield 472, 3) := by decide +kernel
theorem dX12_attributes_308 : decode cX12_attributes 308 = .ok (.aload_n 0, 1) := by decide +kernel
theorem dX12_attributes_309 : decode cX12_attributes 309 = .ok (.getfield 652, 3) := by decide +kernel
theorem dX12_attributes_312 : decode cX12_attributes 312 = .ok (.iload 7, 2) := by decide +kernel
theorem dX12_attributes_314 : decode cX12_attributes 314 = .ok (.iastore, 1) := by decide +kernel
theorem dX12_attributes_315 : decode cX12_attributes 315 = .ok (.aload_n 0, 1) := by decide +kernel
theorem dX12_attributes_316 : decode cX12_attributes 316 = .ok (.dup, 1) := by decide +kernel
theorem dX12_attributes_317 : decode cX12_attributes 317 = .ok (.getfield 652, 3) := by decide +kernel
theorem dX12_attributes_320 : decode cX12_attributes 320 = .ok (.iconst 1, 1) := by decide +kernel
theorem dX12_attributes_321 : decode cX12_attributes 321 = .ok (.iadd, 1) := by decide +kernel
theorem dX12_attributes_322 : decode cX12_attributes 322 = .ok (.putfield 652, 3) := by decide +kernel
theorem dX12_attributes_325 : decode cX12_attributes 325 = .ok (.iload 11, 2) := by decide +kernel
theorem dX12_attributes_327 : decode cX12_attributes 327 = .ok (.ifCond .ne 9, 3) := by decide +kernel
theorem dX12_attributes_330 : decode cX12_attributes 330 = .ok (.aload_n 0, 1) := by decide +kernel
theorem dX12_attributes_331 : decode cX12_attributes 331 = .ok (.iconst 2, 1) := by decide +kernel
theorem dX12_attributes_332 : decode cX12_attributes 332 = .ok (.iload_n 3, 1) := by decide +kernel
theorem dX12_attributes_333 : decode cX12_attributes 333 = .ok (.invokevirtual 620, 3) := by decide +kernel
theorem dX12_attributes_336 : decode cX12_attributes 336 = .ok (.iload 9, 2) := by decide +kernel
theorem dX12_attributes_338 : decode cX12_attributes 338 = .ok (.iload 8, 2) := by decide +kernel
theorem dX12_attributes_340 : decode cX12_attributes 340 = .ok (.iadd, 1) := by decide +kernel
theorem dX12_attributes_341 : decode cX12_attributes 341 = .ok (.istore_n 3, 1) := by decide +kernel
theorem dX12_attributes_342 : decode cX12_attributes 342 = .ok (.goto (-340), 3) := by decide +kernel
theorem dX12_attributes_345 : decode cX12_attributes 345 = .ok (.return_, 1) := by decide +kernel
theorem dX12_byteAt_0 : decode cX12_byteAt 0 = .ok (.iload_n 1, 1) := by decide +kernel
theorem dX12_byteAt_1 : decode cX12_byteAt 1 = .ok (.aload_n 0, 1) := by decide +kernel
theorem dX12_byteAt_2 : decode cX12_byteAt 2 = .ok (.getfield 1, 3) := by decide +kernel
theorem dX12_byteAt_5 : decode cX12_byteAt 5 = .ok (.if_icmp .ge 16, 3) := by decide +kernel
theorem dX12_byteAt_8 : decode cX12_byteAt 8 = .ok (.aload_n 0, 1) := by decide +kernel
theorem dX12_byteAt_9 : decode cX12_byteAt 9 = .ok (.getfield 7, 3) := by decide +kernel
theorem dX12_byteAt_12 : decode cX12_byteAt 12 = .ok (.iload_n 1, 1) := by decide +kernel
theorem dX12_byteAt_13 : decode cX12_byteAt 13 = .ok (.baload, 1) := by decide +kernel
theorem dX12_byteAt_14 : decode cX12_byteAt 14 = .ok (.sipush 255, 3) := by decide +kernel
theorem dX12_byteAt_17 : decode cX12_byteAt 17 = .ok (.iand, 1) := by decide +kernel
theorem dX12_byteAt_18 : decode cX12_byteAt 18 = .ok (.goto 4, 3) := by decide +kernel
theorem dX12_byteAt_22 : decode cX12_byteAt 22 = .ok (.ireturn, 1) := by decide +kernel
theorem dX12_costRight_0 : decode cX12_costRight 0 = .ok (.iload_n 2, 1) := by decide +kernel
theorem dX12_costRight_1 : decode cX12_costRight 1 = .ok (.iconst 4, 1) := by decide +kernel
theorem dX12_costRight_2 : decode cX12_costRight 2 = .ok (.if_icmp .eq 5, 3) := by decide +kernel
theorem dX12_costRight_5 : decode cX12_costRight 5 = .ok (.iconst 0, 1) := by decide +kernel
theorem dX12_costRight_6 : decode cX12_costRight 6 = .ok (.ireturn, 1) := by decide +kernel
theorem dX12_costRight_7 : decode cX12_costRight 7 = .ok (.aload_n 0, 1) := by decide +kernel
theorem dX12_costRight_8 : decode cX12_costRight 8 = .ok (.iload_n 1, 1) := by decide +kernel
theorem dX12_costRight_9 : decode cX12_costRight 9 = .ok (.iconst 4, 1) := by decide +kernel
theorem dX12_costRight_10 : decode cX12_costRight 10 = .ok (.invokevirtual 623, 3) := by decide +kernel
theorem dX12_costRight_13 : decode cX12_costRight 13 = .ok (.istore_n 3, 1) := by decide +kernel
theorem dX12_costRight_14 : decode cX12_costRight 14 = .ok (.aload_n 0, 1) := by decide +kernel
theorem dX12_costRight_15 : decode cX12_costRight 15 = .ok (.getfield 148, 3) := by decide +kernel
theorem dX12_costRight_18 : decode cX12_costRight 18 = .ok (.sipush 963, 3) := by decide +kernel
theorem dX12_costRight_21 : decode cX12_costRight 21 = .ok (.iload_n 3, 1) := by decide +kernel
theorem dX12_costRight_22 : decode cX12_costRight 22 = .ok (.ifCond .lt 10, 3) := by decide +kernel
theorem dX12_costRight_25 : decode cX12_costRight 25 = .ok (.iload_n 3, 1) := by decide +kernel
theorem dX12_costRight_26 : decode cX12_costRight 26 = .ok (.ldc_w 291, 3) := by decide +kernel
theorem dX12_costRight_29 : decode cX12_costRight 29 = .ok (.if_icmp .le 9, 3) := by decide +kernel
theorem dX12_costRight_32 : decode cX12_costRight 32 = .ok (.ldc_w 291, 3) := by decide +kernel
theorem dX12_costRight_35 : decode cX12_costRight 35 = .ok (.goto 4, 3) := by decide +kernel
theorem dX12_costRight_38 : decode cX12_costRight 38 = .ok (.iload_n 3, 1) := by decide +kernel
theorem dX12_costRight_39 : decode cX12_costRight 39 = .ok (.iastore, 1) := by decide +kernel
theorem dX12_costRight_40 : decode cX12_costRight 40 = .ok (.iconst 1, 1) := by decide +kernel
theorem dX12_costRight_41 : decode cX12_costRight 41 = .ok (.ireturn, 1) := by decide +kernel
theorem dX12_isBelow_0 : decode cX12_isBelow 0 = .ok (.iload_n 0, 1) := by decide +kernel
theorem dX12_isBelow_1 : decode cX12_isBelow 1 = .ok (.ldc_w 571, 3) := by decide +kernel
theorem dX12_isBelow_4 : decode cX12_isBelow 4 = .ok (.iadd, 1) := by decide +kernel
theorem dX12_isBelow_5 : decode cX12_isBelow 5 = .ok (.iload_n 1, 1) := by decide +kernel
theorem dX12_isBelow_6 : decode cX12_isBelow 6 = .ok (.ldc_w 571, 3) := by decide +kernel
theorem dX12_isBelow_9 : decode cX12_isBelow 9 = .ok (.iadd, 1) := by decide +kernel
theorem dX12_isBelow_10 : decode cX12_isBelow 10 = .ok (.if_icmp .ge 7, 3) := by decide +kernel
theorem dX12_isBelow_13 : decode cX12_isBelow 13 = .ok (.iconst 1, 1) := by decide +kernel
theorem dX12_isBelow_14 : decode cX12_isBelow 14 = .ok (.goto 4, 3) := by decide +kernel
theorem dX12_isBelow_17 : decode cX12_isBelow 17 = .ok (.iconst 0, 1) := by decide +kernel
theorem dX12_isBelow_18 : decode cX12_isBelow 18 = .ok (.ireturn, 1) := by decide +kernel
theorem dX12_marksRight_0 : decode cX12_marksRight 0 = .ok (.iload_n 2, 1) := by decide +kernel
theorem dX12_marksRight_1 : decode cX12_marksRight 1 = .ok (.iconst 4, 1) := by decide +kernel
theorem dX12_marksRight_2 : decode cX12_marksRight 2 = .ok (.irem, 1) := by decide +kernel
theorem dX12_marksRight_3 : decode cX12_marksRight 3 = .ok (.ifCond .eq 5, 3) := by decide +kernel
theorem dX12_marksRight_6 : decode cX12_marksRight 6 = .ok (.iconst 0, 1) := by decide +kernel
theorem dX12_marksRight_7 : decode cX12_marksRight 7 = .ok (.ireturn, 1) := by decide +kernel
theorem dX12_marksRight_8 : decode cX12_marksRight 8 = .ok (.iconst 0, 1) := by decide +kernel
theorem dX12_marksRight_9 : decode cX12_marksRight 9 = .ok (.istore_n 3, 1) := by decide +kernel
theorem dX12_marksRight_10 : decode cX12_marksRight 10 = .ok (.iload_n 3, 1) := by decide +kernel
theorem dX12_marksRight_11 : decode cX12_marksRight 11 = .ok (.iload_n 2, 1) := by decide +kernel
theorem dX12_marksRight_12 : decode cX12_marksRight 12 = .ok (.if_icmp .ge 70, 3) := by decide +kernel
theorem dX12_marksRight_15 : decode cX12_marksRight 15 = .ok (.aload_n 0, 1) := by decide +kernel
theorem dX12_marksRight_16 : decode cX12_marksRight 16 = .ok (.iload_n 1, 1) := by decide +kernel
theorem dX12_marksRight_17 : decode cX12_marksRight 17 = .ok (.iload_n 3, 1) := by decide +kernel
theorem dX12_marksRight_18 : decode cX12_marksRight 18 = .ok (.iadd, 1) := by decide +kernel
theorem dX12_marksRight_19 : decode cX12_marksRight 19 = .ok (.iconst 2, 1) := by decide +kernel
theorem dX12_marksRight_20 : decode cX12_marksRight 20 = .ok (.iadd, 1) := by decide +kernel
theorem dX12_marksRight_21 : decode cX12_marksRight 21 = .ok (.iconst 2, 1) := by decide +kernel
theorem dX12_marksRight_22 : decode cX12_marksRight 22 = .ok (.invokevirtual 623, 3) := by decide +kernel
theorem dX12_marksRight_25 : decode cX12_marksRight 25 = .ok (.istore 4, 2) := by decide +kernel
theorem dX12_marksRight_27 : decode cX12_marksRight 27 = .ok (.aload_n 0, 1) := by decide +kernel
theorem dX12_marksRight_28 : decode cX12_marksRight 28 = .ok (.getfield 637, 3) := by decide +kernel
theorem dX12_marksRight_31 : decode cX12_marksRight 31 = .ok (.bipush 8, 2) := by decide +kernel
theorem dX12_marksRight_33 : decode cX12_marksRight 33 = .ok (.if_icmp .ge 43, 3) := by decide +kernel
theorem dX12_marksRight_36 : decode cX12_marksRight 36 = .ok (.aload_n 0, 1) := by decide +kernel
theorem dX12_marksRight_37 : decode cX12_marksRight 37 = .ok (.bipush 24, 2) := by decide +kernel
theorem dX12_marksRight_39 : decode cX12_marksRight 39 = .ok (.iload 4, 2) := by decide +kernel
theorem dX12_marksRight_41 : decode cX12_marksRight 41 = .ok (.invokevirtual 154, 3) := by decide +kernel
theorem dX12_marksRight_44 : decode cX12_marksRight 44 = .ok (.ifCond .ne 32, 3) := by decide +kernel
theorem dX12_marksRight_47 : decode cX12_marksRight 47 = .ok (.aload_n 0, 1) := by decide +kernel
theorem dX12_marksRight_48 : decode cX12_marksRight 48 = .ok (.bipush 24, 2) := by decide +kernel
theorem dX12_marksRight_50 : decode cX12_marksRight 50 = .ok (.iload 4, 2) := by decide +kernel
theorem dX12_marksRight_52 : decode cX12_marksRight 52 = .ok (.invokevirtual 401, 3) := by decide +kernel
theorem dX12_marksRight_55 : decode cX12_marksRight 55 = .ok (.aload_n 0, 1) := by decide +kernel
theorem dX12_marksRight_56 : decode cX12_marksRight 56 = .ok (.getfield 481, 3) := by decide +kernel
theorem dX12_marksRight_59 : decode cX12_marksRight 59 = .ok (.aload_n 0, 1) := by decide +kernel
theorem dX12_marksRight_60 : decode cX12_marksRight 60 = .ok (.getfield 637, 3) := by decide +kernel
theorem dX12_marksRight_63 : decode cX12_marksRight 63 = .ok (.iload 4, 2) := by decide +kernel
theorem dX12_marksRight_65 : decode cX12_marksRight 65 = .ok (.iastore, 1) := by decide +kernel
theorem dX12_marksRight_66 : decode cX12_marksRight 66 = .ok (.aload_n 0, 1) := by decide +kernel
theorem dX12_marksRight_67 : decode cX12_marksRight 67 = .ok (.dup, 1) := by decide +kernel
theorem dX12_marksRight_68 : decode cX12_marksRight 68 = .ok (.getfield 637, 3) := by decide +kernel
theorem dX12_marksRight_71 : decode cX12_marksRight 71 = .ok (.iconst 1, 1) := by decide +kernel
theorem dX12_marksRight_72 : decode cX12_marksRight 72 = .ok (.iadd, 1) := by decide +kernel
theorem dX12_marksRight_73 : decode cX12_marksRight 73 = .ok (.putfield 637, 3) := by decide +kernel
theorem dX12_marksRight_76 : decode cX12_marksRight 76 = .ok (.iinc 3 4, 3) := by decide +kernel
theorem dX12_marksRight_79 : decode cX12_marksRight 79 = .ok (.goto (-69), 3) := by decide +kernel
theorem dX12_marksRight_82 : decode cX12_marksRight 82 = .ok (.iconst 1, 1) := by decide +kernel
theorem dX12_marksRight_83 : decode cX12_marksRight 83 = .ok (.ireturn, 1) := by decide +kernel
theorem dX12_number_0 : decode cX12_number 0 = .ok (.iconst 0, 1) := by decide +kernel
theorem dX12_number_1 : decode cX12_number 1 = .ok (.istore_n 3, 1) := by decide +kernel
theorem dX12_number_2 : decode cX12_number 2 = .ok (.iconst 0, 1) := by decide +kernel
theorem dX12_number_3 : decode cX12_number 3 = .ok (.istore 4, 2) := by decide +kernel
theorem dX12_number_5 : decode cX12_number 5 = .ok (.iload 4, 2) := by decide +kernel
theorem dX12_number_7 : decode cX12_number 7 = .ok (.iload_n 2, 1) := by decide +kernel
theorem dX12_number_8 : decode cX12_number 8 = .ok (.if_icmp .ge 23, 3) := by decide +kernel
theorem dX12_number_11 : decode cX12_number 11 = .ok (.iload_n 3, 1) := by decide +kernel
theorem dX12_number_12 : decode cX12_number 12 = .ok (.bipush 8, 2) := by decide +kernel
theorem dX12_number_14 : decode cX12_number 14 = .ok (.ishl, 1) := by decide +kernel
theorem dX12_number_15 : decode cX12_number 15 = .ok (.aload_n 0, 1) := by decide +kernel
theorem dX12_number_16 : decode cX12_number 16 = .ok (.iload_n 1, 1) := by decide +kernel
theorem dX12_number_17 : decode cX12_number 17 = .ok (.iload 4, 2) := by decide +kernel
theorem dX12_number_19 : decode cX12_number 19 = .ok (.iadd, 1) := by decide +kernel
theorem dX12_number_20 : decode cX12_number 20 = .ok (.invokevirtual 227, 3) := by decide +kernel
theorem dX12_number_23 : decode cX12_number 23 = .ok (.ior, 1) := by decide +kernel
theorem dX12_number_24 : decode cX12_number 24 = .ok (.istore_n 3, 1) := by decide +kernel
theorem dX12_number_25 : decode cX12_number 25 = .ok (.iinc 4 1, 3) := by decide +kernel
theorem dX12_number_28 : decode cX12_number 28 = .ok (.goto (-23), 3) := by decide +kernel
theorem dX12_number_31 : decode cX12_number 31 = .ok (.iload_n 3, 1) := by decide +kernel
theorem dX12_number_32 : decode cX12_number 32 = .ok (.ireturn, 1) := by decide +kernel
theorem dX12_originRight_0 : decode cX12_originRight 0 = .ok (.iload_n 2, 1) := by decide +kernel
theorem dX12_originRight_1 : decode cX12_originRight 1 = .ok (.iconst 1, 1) := by decide +kernel
theorem dX12_originRight_2 : decode cX12_originRight 2 = .ok (.if_icmp .ne 12, 3) := by decide +kernel
theorem dX12_originRight_5 : decode cX12_originRight 5 = .ok (.aload_n 0, 1) := by decide +kernel
theorem dX12_originRight_6 : decode cX12_originRight 6 = .ok (.iload_n 1, 1) := by decide +kernel
theorem dX12_originRight_7 : decode cX12_originRight 7 = .ok (.invokevirtual 227, 3) := by decide +kernel
theorem dX12_originRight_10 : decode cX12_originRight 10 = .ok (.iconst 2, 1) := by decide +kernel
theorem dX12_originRight_11 : decode cX12_originRight 11 = .ok (.if_icmp .le 5, 3) := by decide +kernel
theorem dX12_originRight_14 : decode cX12_originRight 14 = .ok (.iconst 0, 1) := by decide +kernel
theorem dX12_originRight_15 : decode cX12_originRight 15 = .ok (.ireturn, 1) := by decide +kernel
theorem dX12_originRight_16 : decode cX12_originRight 16 = .ok (.aload_n 0, 1) := by decide +kernel
theorem dX12_originRight_17 : decode cX12_originRight 17 = .ok (.getfield 148, 3) := by decide +kernel
theorem dX12_originRight_20 : decode cX12_originRight 20 = .ok (.sipush 962, 3) := by decide +kernel
theorem dX12_originRight_23 : decode cX12_originRight 23 = .ok (.aload_n 0, 1) := by decide +kernel
theorem dX12_originRight_24 : decode cX12_originRight 24 = .ok (.iload_n 1, 1) := by decide +kernel
theorem dX12_originRight_25 : decode cX12_originRight 25 = .ok (.invokevirtual 227, 3) := by decide +kernel
theorem dX12_originRight_28 : decode cX12_originRight 28 = .ok (.iastore, 1) := by decide +kernel
theorem dX12_originRight_29 : decode cX12_originRight 29 = .ok (.aload_n 0, 1) := by decide +kernel
theorem dX12_originRight_30 : decode cX12_originRight 30 = .ok (.iconst 1, 1) := by decide +kernel
theorem dX12_originRight_31 : decode cX12_originRight 31 = .ok (.putfield 631, 3) := by decide +kernel
theorem dX12_originRight_34 : decode cX12_originRight 34 = .ok (.iconst 1, 1) := by decide +kernel
theorem dX12_originRight_35 : decode cX12_originRight 35 = .ok (.ireturn, 1) := by decide +kernel
