theorem dX12_attributes_0 : decode cX12_attributes 0 = .ok (.iload_n 1, 1) := by decide +kernel
theorem dX12_attributes_1 : decode cX12_attributes 1 = .ok (.istore_n 3, 1) := by decide +kernel
theorem dX12_attributes_2 : decode cX12_attributes 2 = .ok (.iload_n 3, 1) := by decide +kernel
theorem dX12_attributes_3 : decode cX12_attributes 3 = .ok (.iload_n 2, 1) := by decide +kernel
theorem dX12_attributes_4 : decode cX12_attributes 4 = .ok (.if_icmp .ge 341, 3) := by decide +kernel
theorem dX12_attributes_7 : decode cX12_attributes 7 = .ok (.aload_n 0, 1) := by decide +kernel
theorem dX12_attributes_8 : decode cX12_attributes 8 = .ok (.iload_n 3, 1) := by decide +kernel
theorem dX12_attributes_9 : decode cX12_attributes 9 = .ok (.invokevirtual 227, 3) := by decide +kernel
theorem dX12_attributes_12 : decode cX12_attributes 12 = .ok (.bipush 16, 2) := by decide +kernel
theorem dX12_attributes_14 : decode cX12_attributes 14 = .ok (.iand, 1) := by decide +kernel
theorem dX12_attributes_15 : decode cX12_attributes 15 = .ok (.ifCond .eq 7, 3) := by decide +kernel
theorem dX12_attributes_18 : decode cX12_attributes 18 = .ok (.iconst 1, 1) := by decide +kernel
theorem dX12_attributes_19 : decode cX12_attributes 19 = .ok (.goto 4, 3) := by decide +kernel
theorem dX12_attributes_22 : decode cX12_attributes 22 = .ok (.iconst 0, 1) := by decide +kernel
theorem dX12_attributes_23 : decode cX12_attributes 23 = .ok (.istore 4, 2) := by decide +kernel
theorem dX12_attributes_25 : decode cX12_attributes 25 = .ok (.iload 4, 2) := by decide +kernel
theorem dX12_attributes_27 : decode cX12_attributes 27 = .ok (.ifCond .eq 7, 3) := by decide +kernel
theorem dX12_attributes_30 : decode cX12_attributes 30 = .ok (.iconst 4, 1) := by decide +kernel
theorem dX12_attributes_31 : decode cX12_attributes 31 = .ok (.goto 4, 3) := by decide +kernel
theorem dX12_attributes_34 : decode cX12_attributes 34 = .ok (.iconst 3, 1) := by decide +kernel
theorem dX12_attributes_35 : decode cX12_attributes 35 = .ok (.istore 5, 2) := by decide +kernel
theorem dX12_attributes_37 : decode cX12_attributes 37 = .ok (.iload_n 3, 1) := by decide +kernel
theorem dX12_attributes_38 : decode cX12_attributes 38 = .ok (.iload 5, 2) := by decide +kernel
theorem dX12_attributes_40 : decode cX12_attributes 40 = .ok (.iadd, 1) := by decide +kernel
theorem dX12_attributes_41 : decode cX12_attributes 41 = .ok (.iload_n 2, 1) := by decide +kernel
theorem dX12_attributes_42 : decode cX12_attributes 42 = .ok (.if_icmp .gt 23, 3) := by decide +kernel
theorem dX12_attributes_45 : decode cX12_attributes 45 = .ok (.iload_n 3, 1) := by decide +kernel
theorem dX12_attributes_46 : decode cX12_attributes 46 = .ok (.iload 5, 2) := by decide +kernel
theorem dX12_attributes_48 : decode cX12_attributes 48 = .ok (.iadd, 1) := by decide +kernel
theorem dX12_attributes_49 : decode cX12_attributes 49 = .ok (.aload_n 0, 1) := by decide +kernel
theorem dX12_attributes_50 : decode cX12_attributes 50 = .ok (.iload_n 3, 1) := by decide +kernel
theorem dX12_attributes_51 : decode cX12_attributes 51 = .ok (.iconst 2, 1) := by decide +kernel
theorem dX12_attributes_52 : decode cX12_attributes 52 = .ok (.iadd, 1) := by decide +kernel
theorem dX12_attributes_53 : decode cX12_attributes 53 = .ok (.iload 5, 2) := by decide +kernel
theorem dX12_attributes_55 : decode cX12_attributes 55 = .ok (.iconst 2, 1) := by decide +kernel
theorem dX12_attributes_56 : decode cX12_attributes 56 = .ok (.isub, 1) := by decide +kernel
theorem dX12_attributes_57 : decode cX12_attributes 57 = .ok (.invokevirtual 623, 3) := by decide +kernel
theorem dX12_attributes_60 : decode cX12_attributes 60 = .ok (.iadd, 1) := by decide +kernel
theorem dX12_attributes_61 : decode cX12_attributes 61 = .ok (.iload_n 2, 1) := by decide +kernel
theorem dX12_attributes_62 : decode cX12_attributes 62 = .ok (.if_icmp .le 10, 3) := by decide +kernel
theorem dX12_attributes_65 : decode cX12_attributes 65 = .ok (.aload_n 0, 1) := by decide +kernel
theorem dX12_attributes_66 : decode cX12_attributes 66 = .ok (.iconst 2, 1) := by decide +kernel
theorem dX12_attributes_67 : decode cX12_attributes 67 = .ok (.iload_n 3, 1) := by decide +kernel
theorem dX12_attributes_68 : decode cX12_attributes 68 = .ok (.invokevirtual 620, 3) := by decide +kernel
theorem dX12_attributes_71 : decode cX12_attributes 71 = .ok (.return_, 1) := by decide +kernel
theorem dX12_attributes_72 : decode cX12_attributes 72 = .ok (.aload_n 0, 1) := by decide +kernel
theorem dX12_attributes_73 : decode cX12_attributes 73 = .ok (.iload_n 3, 1) := by decide +kernel
theorem dX12_attributes_74 : decode cX12_attributes 74 = .ok (.invokevirtual 227, 3) := by decide +kernel
theorem dX12_attributes_77 : decode cX12_attributes 77 = .ok (.istore 6, 2) := by decide +kernel
theorem dX12_attributes_79 : decode cX12_attributes 79 = .ok (.aload_n 0, 1) := by decide +kernel
theorem dX12_attributes_80 : decode cX12_attributes 80 = .ok (.iload_n 3, 1) := by decide +kernel
theorem dX12_attributes_81 : decode cX12_attributes 81 = .ok (.iconst 1, 1) := by decide +kernel
theorem dX12_attributes_82 : decode cX12_attributes 82 = .ok (.iadd, 1) := by decide +kernel
theorem dX12_attributes_83 : decode cX12_attributes 83 = .ok (.invokevirtual 227, 3) := by decide +kernel
theorem dX12_attributes_86 : decode cX12_attributes 86 = .ok (.istore 7, 2) := by decide +kernel
theorem dX12_attributes_88 : decode cX12_attributes 88 = .ok (.aload_n 0, 1) := by decide +kernel
theorem dX12_attributes_89 : decode cX12_attributes 89 = .ok (.iload_n 3, 1) := by decide +kernel
theorem dX12_attributes_90 : decode cX12_attributes 90 = .ok (.iconst 2, 1) := by decide +kernel
theorem dX12_attributes_91 : decode cX12_attributes 91 = .ok (.iadd, 1) := by decide +kernel
theorem dX12_attributes_92 : decode cX12_attributes 92 = .ok (.iload 5, 2) := by decide +kernel
theorem dX12_attributes_94 : decode cX12_attributes 94 = .ok (.iconst 2, 1) := by decide +kernel
theorem dX12_attributes_95 : decode cX12_attributes 95 = .ok (.isub, 1) := by decide +kernel
theorem dX12_attributes_96 : decode cX12_attributes 96 = .ok (.invokevirtual 623, 3) := by decide +kernel
theorem dX12_attributes_99 : decode cX12_attributes 99 = .ok (.istore 8, 2) := by decide +kernel
theorem dX12_attributes_101 : decode cX12_attributes 101 = .ok (.iload_n 3, 1) := by decide +kernel
theorem dX12_attributes_102 : decode cX12_attributes 102 = .ok (.iload 5, 2) := by decide +kernel
theorem dX12_attributes_104 : decode cX12_attributes 104 = .ok (.iadd, 1) := by decide +kernel
theorem dX12_attributes_105 : decode cX12_attributes 105 = .ok (.istore 9, 2) := by decide +kernel
theorem dX12_attributes_107 : decode cX12_attributes 107 = .ok (.aload_n 0, 1) := by decide +kernel
theorem dX12_attributes_108 : decode cX12_attributes 108 = .ok (.getfield 475, 3) := by decide +kernel
theorem dX12_attributes_111 : decode cX12_attributes 111 = .ok (.iload 7, 2) := by decide +kernel
theorem dX12_attributes_113 : decode cX12_attributes 113 = .ok (.baload, 1) := by decide +kernel
theorem dX12_attributes_114 : decode cX12_attributes 114 = .ok (.ifCond .eq 12, 3) := by decide +kernel
theorem dX12_attributes_117 : decode cX12_attributes 117 = .ok (.aload_n 0, 1) := by decide +kernel
theorem dX12_attributes_118 : decode cX12_attributes 118 = .ok (.iconst 3, 1) := by decide +kernel
theorem dX12_attributes_119 : decode cX12_attributes 119 = .ok (.iload_n 3, 1) := by decide +kernel
theorem dX12_attributes_120 : decode cX12_attributes 120 = .ok (.invokevirtual 620, 3) := by decide +kernel
theorem dX12_attributes_123 : decode cX12_attributes 123 = .ok (.goto 213, 3) := by decide +kernel
theorem dX12_attributes_126 : decode cX12_attributes 126 = .ok (.aload_n 0, 1) := by decide +kernel
theorem dX12_attributes_127 : decode cX12_attributes 127 = .ok (.getfield 475, 3) := by decide +kernel
theorem dX12_attributes_130 : decode cX12_attributes 130 = .ok (.iload 7, 2) := by decide +kernel
theorem dX12_attributes_132 : decode cX12_attributes 132 = .ok (.iconst 1, 1) := by decide +kernel
theorem dX12_attributes_133 : decode cX12_attributes 133 = .ok (.bastore, 1) := by decide +kernel
theorem dX12_attributes_134 : decode cX12_attributes 134 = .ok (.iload 7, 2) := by decide +kernel
theorem dX12_attributes_136 : decode cX12_attributes 136 = .ok (.iconst 1, 1) := by decide +kernel
theorem dX12_attributes_137 : decode cX12_attributes 137 = .ok (.if_icmp .eq 9, 3) := by decide +kernel
theorem dX12_attributes_140 : decode cX12_attributes 140 = .ok (.iload 7, 2) := by decide +kernel
theorem dX12_attributes_142 : decode cX12_attributes 142 = .ok (.iconst 2, 1) := by decide +kernel
theorem dX12_attributes_143 : decode cX12_attributes 143 = .ok (.if_icmp .ne 8, 3) := by decide +kernel
theorem dX12_attributes_146 : decode cX12_attributes 146 = .ok (.bipush 64, 2) := by decide +kernel
theorem dX12_attributes_148 : decode cX12_attributes 148 = .ok (.goto 29, 3) := by decide +kernel
theorem dX12_attributes_151 : decode cX12_attributes 151 = .ok (.iload 7, 2) := by decide +kernel
theorem dX12_attributes_153 : decode cX12_attributes 153 = .ok (.iconst 4, 1) := by decide +kernel
theorem dX12_attributes_154 : decode cX12_attributes 154 = .ok (.if_icmp .ne 9, 3) := by decide +kernel
theorem dX12_attributes_157 : decode cX12_attributes 157 = .ok (.sipush 128, 3) := by decide +kernel
theorem dX12_attributes_160 : decode cX12_attributes 160 = .ok (.goto 17, 3) := by decide +kernel
theorem dX12_attributes_163 : decode cX12_attributes 163 = .ok (.iload 7, 2) := by decide +kernel
theorem dX12_attributes_165 : decode cX12_attributes 165 = .ok (.bipush 8, 2) := by decide +kernel
theorem dX12_attributes_167 : decode cX12_attributes 167 = .ok (.if_icmp .ne 9, 3) := by decide +kernel
theorem dX12_attributes_170 : decode cX12_attributes 170 = .ok (.sipush 192, 3) := by decide +kernel
theorem dX12_attributes_173 : decode cX12_attributes 173 = .ok (.goto 4, 3) := by decide +kernel
theorem dX12_attributes_176 : decode cX12_attributes 176 = .ok (.iconst (-1), 1) := by decide +kernel
theorem dX12_attributes_177 : decode cX12_attributes 177 = .ok (.istore 10, 2) := by decide +kernel
theorem dX12_attributes_179 : decode cX12_attributes 179 = .ok (.iload 10, 2) := by decide +kernel
theorem dX12_attributes_181 : decode cX12_attributes 181 = .ok (.ifCond .lt 94, 3) := by decide +kernel
theorem dX12_attributes_184 : decode cX12_attributes 184 = .ok (.iload 6, 2) := by decide +kernel
theorem dX12_attributes_186 : decode cX12_attributes 186 = .ok (.bipush (-49), 2) := by decide +kernel
theorem dX12_attributes_188 : decode cX12_attributes 188 = .ok (.iand, 1) := by decide +kernel
theorem dX12_attributes_189 : decode cX12_attributes 189 = .ok (.iload 10, 2) := by decide +kernel
theorem dX12_attributes_191 : decode cX12_attributes 191 = .ok (.if_icmp .ne 78, 3) := by decide +kernel
theorem dX12_attributes_194 : decode cX12_attributes 194 = .ok (.iload 7, 2) := by decide +kernel
theorem dX12_attributes_196 : decode cX12_attributes 196 = .ok (.iconst 1, 1) := by decide +kernel
theorem dX12_attributes_197 : decode cX12_attributes 197 = .ok (.if_icmp .ne 17, 3) := by decide +kernel
theorem dX12_attributes_200 : decode cX12_attributes 200 = .ok (.aload_n 0, 1) := by decide +kernel
theorem dX12_attributes_201 : decode cX12_attributes 201 = .ok (.iload 9, 2) := by decide +kernel
theorem dX12_attributes_203 : decode cX12_attributes 203 = .ok (.iload 8, 2) := by decide +kernel
theorem dX12_attributes_205 : decode cX12_attributes 205 = .ok (.invokevirtual 640, 3) := by decide +kernel
theorem dX12_attributes_208 : decode cX12_attributes 208 = .ok (.ifCond .eq 61, 3) := by decide +kernel
theorem dX12_attributes_211 : decode cX12_attributes 211 = .ok (.goto 54, 3) := by decide +kernel
theorem dX12_attributes_214 : decode cX12_attributes 214 = .ok (.iload 7, 2) := by decide +kernel
theorem dX12_attributes_216 : decode cX12_attributes 216 = .ok (.iconst 2, 1) := by decide +kernel
theorem dX12_attributes_217 : decode cX12_attributes 217 = .ok (.if_icmp .ne 17, 3) := by decide +kernel
theorem dX12_attributes_220 : decode cX12_attributes 220 = .ok (.aload_n 0, 1) := by decide +kernel
theorem dX12_attributes_221 : decode cX12_attributes 221 = .ok (.iload 9, 2) := by decide +kernel
theorem dX12_attributes_223 : decode cX12_attributes 223 = .ok (.iload 8, 2) := by decide +kernel
theorem dX12_attributes_225 : decode cX12_attributes 225 = .ok (.invokevirtual 643, 3) := by decide +kernel
theorem dX12_attributes_228 : decode cX12_attributes 228 = .ok (.ifCond .eq 41, 3) := by decide +kernel
theorem dX12_attributes_231 : decode cX12_attributes 231 = .ok (.goto 34, 3) := by decide +kernel
theorem dX12_attributes_234 : decode cX12_attributes 234 = .ok (.iload 7, 2) := by decide +kernel
theorem dX12_attributes_236 : decode cX12_attributes 236 = .ok (.iconst 4, 1) := by decide +kernel
theorem dX12_attributes_237 : decode cX12_attributes 237 = .ok (.if_icmp .ne 17, 3) := by decide +kernel
theorem dX12_attributes_240 : decode cX12_attributes 240 = .ok (.aload_n 0, 1) := by decide +kernel
theorem dX12_attributes_241 : decode cX12_attributes 241 = .ok (.iload 9, 2) := by decide +kernel
theorem dX12_attributes_243 : decode cX12_attributes 243 = .ok (.iload 8, 2) := by decide +kernel
theorem dX12_attributes_245 : decode cX12_attributes 245 = .ok (.invokevirtual 646, 3) := by decide +kernel
theorem dX12_attributes_248 : decode cX12_attributes 248 = .ok (.ifCond .eq 21, 3) := by decide +kernel
theorem dX12_attributes_251 : decode cX12_attributes 251 = .ok (.goto 14, 3) := by decide +kernel
theorem dX12_attributes_254 : decode cX12_attributes 254 = .ok (.aload_n 0, 1) := by decide +kernel
theorem dX12_attributes_255 : decode cX12_attributes 255 = .ok (.iload 9, 2) := by decide +kernel
theorem dX12_attributes_257 : decode cX12_attributes 257 = .ok (.iload 8, 2) := by decide +kernel
theorem dX12_attributes_259 : decode cX12_attributes 259 = .ok (.invokevirtual 649, 3) := by decide +kernel
theorem dX12_attributes_262 : decode cX12_attributes 262 = .ok (.ifCond .eq 7, 3) := by decide +kernel
theorem dX12_attributes_265 : decode cX12_attributes 265 = .ok (.iconst 1, 1) := by decide +kernel
theorem dX12_attributes_266 : decode cX12_attributes 266 = .ok (.goto 4, 3) := by decide +kernel
theorem dX12_attributes_269 : decode cX12_attributes 269 = .ok (.iconst 0, 1) := by decide +kernel
theorem dX12_attributes_270 : decode cX12_attributes 270 = .ok (.istore 11, 2) := by decide +kernel
theorem dX12_attributes_272 : decode cX12_attributes 272 = .ok (.goto 53, 3) := by decide +kernel
theorem dX12_attributes_275 : decode cX12_attributes 275 = .ok (.iload 6, 2) := by decide +kernel
theorem dX12_attributes_277 : decode cX12_attributes 277 = .ok (.sipush 128, 3) := by decide +kernel
theorem dX12_attributes_280 : decode cX12_attributes 280 = .ok (.iand, 1) := by decide +kernel
theorem dX12_attributes_281 : decode cX12_attributes 281 = .ok (.ifCond .eq 7, 3) := by decide +kernel
theorem dX12_attributes_284 : decode cX12_attributes 284 = .ok (.iconst 1, 1) := by decide +kernel
theorem dX12_attributes_285 : decode cX12_attributes 285 = .ok (.goto 4, 3) := by decide +kernel
theorem dX12_attributes_288 : decode cX12_attributes 288 = .ok (.iconst 0, 1) := by decide +kernel
theorem dX12_attributes_289 : decode cX12_attributes 289 = .ok (.istore 11, 2) := by decide +kernel
theorem dX12_attributes_291 : decode cX12_attributes 291 = .ok (.iload 11, 2) := by decide +kernel
theorem dX12_attributes_293 : decode cX12_attributes 293 = .ok (.ifCond .eq 32, 3) := by decide +kernel
theorem dX12_attributes_296 : decode cX12_attributes 296 = .ok (.iload 6, 2) := by decide +kernel
theorem dX12_attributes_298 : decode cX12_attributes 298 = .ok (.bipush 64, 2) := by decide +kernel
theorem dX12_attributes_300 : decode cX12_attributes 300 = .ok (.iand, 1) := by decide +kernel
theorem dX12_attributes_301 : decode cX12_attributes 301 = .ok (.ifCond .eq 24, 3) := by decide +kernel
theorem dX12_attributes_304 : decode cX12_attributes 304 = .ok (.aload_n 0, 1) := by decide +kernel
theorem dX12_attributes_305 : decode cX12_attributes 305 = .ok (.getfield 472, 3) := by decide +kernel
theorem dX12_attributes_308 : decode cX12_attributes 308 = .ok (.aload_n 0, 1) := by decide +kernel
theorem dX12_attributes_309 : decode cX12_attributes 309 = .ok (.getfield 652, 3) := by decide +kernel
theorem dX12_attributes_312 : decode cX12_attributes 312 = .ok (.iload 7, 2) := by decide +kernel
theorem dX12_attributes_314 : decode cX12_attributes 314 = .ok (.iastore, 1) := by decide +kernel
theorem dX12_attributes_315 : decode cX12_attributes 315 = .ok (.aload_n 0, 1) := by decide +kernel
theorem dX12_attributes_316 : decode cX12_attributes 316 = .ok (.dup, 1) := by decide +kernel
theorem dX12_attributes_317 : decode cX12_attributes 317 = .ok (.getfield 652, 3) := by decide +kernel
theorem dX12_attributes_320 : decode cX12_attributes 320 = .ok (.iconst 1, 1) := by decide +kernel
theorem dX12_attributes_321 : decode cX12_attributes 321 = .ok (.iadd, 1) := by decide +kernel
theorem dX12_attributes_322 : decode cX12_attributes 322 = .ok (.putfield 652, 3) := by decide +kernel
theorem dX12_attributes_325 : decode cX12_attributes 325 = .ok (.iload 11, 2) := by decide +kernel
theorem dX12_attributes_327 : decode cX12_attributes 327 = .ok (.ifCond .ne 9, 3) := by decide +kernel
theorem dX12_attributes_330 : decode cX12_attributes 330 = .ok (.aload_n 0, 1) := by decide +kernel
theorem dX12_attributes_331 : decode cX12_attributes 331 = .ok (.iconst 2, 1) := by decide +kernel
theorem dX12_attributes_332 : decode cX12_attributes 332 = .ok (.iload_n 3, 1) := by decide +kernel
theorem dX12_attributes_333 : decode cX12_attributes 333 = .ok (.invokevirtual 620, 3) := by decide +kernel
theorem dX12_attributes_336 : decode cX12_attributes 336 = .ok (.iload 9, 2) := by decide +kernel
theorem dX12_attributes_338 : decode cX12_attributes 338 = .ok (.iload 8, 2) := by decide +kernel
theorem dX12_attributes_340 : decode cX12_attributes 340 = .ok (.iadd, 1) := by decide +kernel
theorem dX12_attributes_341 : decode cX12_attributes 341 = .ok (.istore_n 3, 1) := by decide +kernel
theorem dX12_attributes_342 : decode cX12_attributes 342 = .ok (.goto (-340), 3) := by decide +kernel
theorem dX12_attributes_345 : decode cX12_attributes 345 = .ok (.return_, 1) := by decide +kernel
theorem dX12_message_0 : decode cX12_message 0 = .ok (.iconst 0, 1) := by decide +kernel
theorem dX12_message_1 : decode cX12_message 1 = .ok (.istore_n 1, 1) := by decide +kernel
theorem dX12_message_2 : decode cX12_message 2 = .ok (.iload_n 1, 1) := by decide +kernel
theorem dX12_message_3 : decode cX12_message 3 = .ok (.iconst 4, 1) := by decide +kernel
theorem dX12_message_4 : decode cX12_message 4 = .ok (.if_icmp .ge 17, 3) := by decide +kernel
theorem dX12_message_7 : decode cX12_message 7 = .ok (.aload_n 0, 1) := by decide +kernel
theorem dX12_message_8 : decode cX12_message 8 = .ok (.getfield 478, 3) := by decide +kernel
theorem dX12_message_11 : decode cX12_message 11 = .ok (.iload_n 1, 1) := by decide +kernel
theorem dX12_message_12 : decode cX12_message 12 = .ok (.ldc 29, 2) := by decide +kernel
theorem dX12_message_14 : decode cX12_message 14 = .ok (.iastore, 1) := by decide +kernel
theorem dX12_message_15 : decode cX12_message 15 = .ok (.iinc 1 1, 3) := by decide +kernel
theorem dX12_message_18 : decode cX12_message 18 = .ok (.goto (-16), 3) := by decide +kernel
theorem dX12_message_21 : decode cX12_message 21 = .ok (.iconst 0, 1) := by decide +kernel
theorem dX12_message_22 : decode cX12_message 22 = .ok (.istore_n 1, 1) := by decide +kernel
theorem dX12_message_23 : decode cX12_message 23 = .ok (.iload_n 1, 1) := by decide +kernel
theorem dX12_message_24 : decode cX12_message 24 = .ok (.sipush 256, 3) := by decide +kernel
theorem dX12_message_27 : decode cX12_message 27 = .ok (.if_icmp .ge 16, 3) := by decide +kernel
theorem dX12_message_30 : decode cX12_message 30 = .ok (.aload_n 0, 1) := by decide +kernel
theorem dX12_message_31 : decode cX12_message 31 = .ok (.getfield 475, 3) := by decide +kernel
theorem dX12_message_34 : decode cX12_message 34 = .ok (.iload_n 1, 1) := by decide +kernel
theorem dX12_message_35 : decode cX12_message 35 = .ok (.iconst 0, 1) := by decide +kernel
theorem dX12_message_36 : decode cX12_message 36 = .ok (.bastore, 1) := by decide +kernel
theorem dX12_message_37 : decode cX12_message 37 = .ok (.iinc 1 1, 3) := by decide +kernel
theorem dX12_message_40 : decode cX12_message 40 = .ok (.goto (-17), 3) := by decide +kernel
theorem dX12_message_43 : decode cX12_message 43 = .ok (.aload_n 0, 1) := by decide +kernel
theorem dX12_message_44 : decode cX12_message 44 = .ok (.iconst 0, 1) := by decide +kernel
theorem dX12_message_45 : decode cX12_message 45 = .ok (.putfield 625, 3) := by decide +kernel
theorem dX12_message_48 : decode cX12_message 48 = .ok (.aload_n 0, 1) := by decide +kernel
theorem dX12_message_49 : decode cX12_message 49 = .ok (.iconst 0, 1) := by decide +kernel
theorem dX12_message_50 : decode cX12_message 50 = .ok (.putfield 628, 3) := by decide +kernel
theorem dX12_message_53 : decode cX12_message 53 = .ok (.aload_n 0, 1) := by decide +kernel
theorem dX12_message_54 : decode cX12_message 54 = .ok (.iconst 0, 1) := by decide +kernel
theorem dX12_message_55 : decode cX12_message 55 = .ok (.putfield 652, 3) := by decide +kernel
theorem dX12_message_58 : decode cX12_message 58 = .ok (.aload_n 0, 1) := by decide +kernel
theorem dX12_message_59 : decode cX12_message 59 = .ok (.iconst 0, 1) := by decide +kernel
theorem dX12_message_60 : decode cX12_message 60 = .ok (.putfield 637, 3) := by decide +kernel
theorem dX12_message_63 : decode cX12_message 63 = .ok (.aload_n 0, 1) := by decide +kernel
theorem dX12_message_64 : decode cX12_message 64 = .ok (.iconst 0, 1) := by decide +kernel
theorem dX12_message_65 : decode cX12_message 65 = .ok (.putfield 631, 3) := by decide +kernel
theorem dX12_message_68 : decode cX12_message 68 = .ok (.aload_n 0, 1) := by decide +kernel
theorem dX12_message_69 : decode cX12_message 69 = .ok (.iconst 0, 1) := by decide +kernel
theorem dX12_message_70 : decode cX12_message 70 = .ok (.putfield 634, 3) := by decide +kernel
theorem dX12_message_73 : decode cX12_message 73 = .ok (.sipush 960, 3) := by decide +kernel
theorem dX12_message_76 : decode cX12_message 76 = .ok (.istore_n 1, 1) := by decide +kernel
theorem dX12_message_77 : decode cX12_message 77 = .ok (.aload_n 0, 1) := by decide +kernel
theorem dX12_message_78 : decode cX12_message 78 = .ok (.getfield 148, 3) := by decide +kernel
theorem dX12_message_81 : decode cX12_message 81 = .ok (.iload_n 1, 1) := by decide +kernel
theorem dX12_message_82 : decode cX12_message 82 = .ok (.iconst 0, 1) := by decide +kernel
theorem dX12_message_83 : decode cX12_message 83 = .ok (.iastore, 1) := by decide +kernel
theorem dX12_message_84 : decode cX12_message 84 = .ok (.aload_n 0, 1) := by decide +kernel
theorem dX12_message_85 : decode cX12_message 85 = .ok (.getfield 148, 3) := by decide +kernel
theorem dX12_message_88 : decode cX12_message 88 = .ok (.iload_n 1, 1) := by decide +kernel
theorem dX12_message_89 : decode cX12_message 89 = .ok (.iconst 1, 1) := by decide +kernel
theorem dX12_message_90 : decode cX12_message 90 = .ok (.iadd, 1) := by decide +kernel
theorem dX12_message_91 : decode cX12_message 91 = .ok (.bipush 100, 2) := by decide +kernel
theorem dX12_message_93 : decode cX12_message 93 = .ok (.iastore, 1) := by decide +kernel
theorem dX12_message_94 : decode cX12_message 94 = .ok (.iconst 2, 1) := by decide +kernel
theorem dX12_message_95 : decode cX12_message 95 = .ok (.istore_n 2, 1) := by decide +kernel
theorem dX12_message_96 : decode cX12_message 96 = .ok (.iload_n 2, 1) := by decide +kernel
theorem dX12_message_97 : decode cX12_message 97 = .ok (.bipush 6, 2) := by decide +kernel
theorem dX12_message_99 : decode cX12_message 99 = .ok (.if_icmp .ge 18, 3) := by decide +kernel
theorem dX12_message_102 : decode cX12_message 102 = .ok (.aload_n 0, 1) := by decide +kernel
theorem dX12_message_103 : decode cX12_message 103 = .ok (.getfield 148, 3) := by decide +kernel
theorem dX12_message_106 : decode cX12_message 106 = .ok (.iload_n 1, 1) := by decide +kernel
theorem dX12_message_107 : decode cX12_message 107 = .ok (.iload_n 2, 1) := by decide +kernel
theorem dX12_message_108 : decode cX12_message 108 = .ok (.iadd, 1) := by decide +kernel
theorem dX12_message_109 : decode cX12_message 109 = .ok (.iconst 0, 1) := by decide +kernel
theorem dX12_message_110 : decode cX12_message 110 = .ok (.iastore, 1) := by decide +kernel
theorem dX12_message_111 : decode cX12_message 111 = .ok (.iinc 2 1, 3) := by decide +kernel
theorem dX12_message_114 : decode cX12_message 114 = .ok (.goto (-18), 3) := by decide +kernel
theorem dX12_message_117 : decode cX12_message 117 = .ok (.aload_n 0, 1) := by decide +kernel
theorem dX12_message_118 : decode cX12_message 118 = .ok (.iconst 1, 1) := by decide +kernel
theorem dX12_message_119 : decode cX12_message 119 = .ok (.putfield 655, 3) := by decide +kernel
theorem dX12_message_122 : decode cX12_message 122 = .ok (.aload_n 0, 1) := by decide +kernel
theorem dX12_message_123 : decode cX12_message 123 = .ok (.getfield 1, 3) := by decide +kernel
theorem dX12_message_126 : decode cX12_message 126 = .ok (.iconst 2, 1) := by decide +kernel
theorem dX12_message_127 : decode cX12_message 127 = .ok (.if_icmp .lt 12, 3) := by decide +kernel
theorem dX12_message_130 : decode cX12_message 130 = .ok (.aload_n 0, 1) := by decide +kernel
theorem dX12_message_131 : decode cX12_message 131 = .ok (.iconst 0, 1) := by decide +kernel
theorem dX12_message_132 : decode cX12_message 132 = .ok (.iconst 2, 1) := by decide +kernel
theorem dX12_message_133 : decode cX12_message 133 = .ok (.invokevirtual 623, 3) := by decide +kernel
theorem dX12_message_136 : decode cX12_message 136 = .ok (.goto 4, 3) := by decide +kernel
theorem dX12_message_139 : decode cX12_message 139 = .ok (.iconst 0, 1) := by decide +kernel
theorem dX12_message_140 : decode cX12_message 140 = .ok (.istore_n 2, 1) := by decide +kernel
theorem dX12_message_141 : decode cX12_message 141 = .ok (.aload_n 0, 1) := by decide +kernel
theorem dX12_message_142 : decode cX12_message 142 = .ok (.getfield 1, 3) := by decide +kernel
theorem dX12_message_145 : decode cX12_message 145 = .ok (.iconst 2, 1) := by decide +kernel
theorem dX12_message_146 : decode cX12_message 146 = .ok (.if_icmp .lt 13, 3) := by decide +kernel
theorem dX12_message_149 : decode cX12_message 149 = .ok (.iconst 2, 1) := by decide +kernel
theorem dX12_message_150 : decode cX12_message 150 = .ok (.iload_n 2, 1) := by decide +kernel
theorem dX12_message_151 : decode cX12_message 151 = .ok (.iadd, 1) := by decide +kernel
theorem dX12_message_152 : decode cX12_message 152 = .ok (.aload_n 0, 1) := by decide +kernel
theorem dX12_message_153 : decode cX12_message 153 = .ok (.getfield 1, 3) := by decide +kernel
theorem dX12_message_156 : decode cX12_message 156 = .ok (.if_icmp .le 12, 3) := by decide +kernel
theorem dX12_message_159 : decode cX12_message 159 = .ok (.aload_n 0, 1) := by decide +kernel
theorem dX12_message_160 : decode cX12_message 160 = .ok (.iconst 1, 1) := by decide +kernel
theorem dX12_message_161 : decode cX12_message 161 = .ok (.iconst 0, 1) := by decide +kernel
theorem dX12_message_162 : decode cX12_message 162 = .ok (.invokevirtual 620, 3) := by decide +kernel
theorem dX12_message_165 : decode cX12_message 165 = .ok (.goto 138, 3) := by decide +kernel
theorem dX12_message_168 : decode cX12_message 168 = .ok (.aload_n 0, 1) := by decide +kernel
theorem dX12_message_169 : decode cX12_message 169 = .ok (.iconst 2, 1) := by decide +kernel
theorem dX12_message_170 : decode cX12_message 170 = .ok (.iconst 2, 1) := by decide +kernel
theorem dX12_message_171 : decode cX12_message 171 = .ok (.iload_n 2, 1) := by decide +kernel
theorem dX12_message_172 : decode cX12_message 172 = .ok (.iadd, 1) := by decide +kernel
theorem dX12_message_173 : decode cX12_message 173 = .ok (.iconst 1, 1) := by decide +kernel
theorem dX12_message_174 : decode cX12_message 174 = .ok (.invokevirtual 658, 3) := by decide +kernel
theorem dX12_message_177 : decode cX12_message 177 = .ok (.pop, 1) := by decide +kernel
theorem dX12_message_178 : decode cX12_message 178 = .ok (.iconst 2, 1) := by decide +kernel
theorem dX12_message_179 : decode cX12_message 179 = .ok (.iload_n 2, 1) := by decide +kernel
theorem dX12_message_180 : decode cX12_message 180 = .ok (.iadd, 1) := by decide +kernel
theorem dX12_message_181 : decode cX12_message 181 = .ok (.istore_n 3, 1) := by decide +kernel
theorem dX12_message_182 : decode cX12_message 182 = .ok (.iload_n 3, 1) := by decide +kernel
theorem dX12_message_183 : decode cX12_message 183 = .ok (.iconst 2, 1) := by decide +kernel
theorem dX12_message_184 : decode cX12_message 184 = .ok (.iadd, 1) := by decide +kernel
theorem dX12_message_185 : decode cX12_message 185 = .ok (.aload_n 0, 1) := by decide +kernel
theorem dX12_message_186 : decode cX12_message 186 = .ok (.getfield 1, 3) := by decide +kernel
theorem dX12_message_189 : decode cX12_message 189 = .ok (.if_icmp .gt 12, 3) := by decide +kernel
theorem dX12_message_192 : decode cX12_message 192 = .ok (.aload_n 0, 1) := by decide +kernel
theorem dX12_message_193 : decode cX12_message 193 = .ok (.iload_n 3, 1) := by decide +kernel
theorem dX12_message_194 : decode cX12_message 194 = .ok (.iconst 2, 1) := by decide +kernel
theorem dX12_message_195 : decode cX12_message 195 = .ok (.invokevirtual 623, 3) := by decide +kernel
theorem dX12_message_198 : decode cX12_message 198 = .ok (.goto 4, 3) := by decide +kernel
theorem dX12_message_201 : decode cX12_message 201 = .ok (.iconst 0, 1) := by decide +kernel
theorem dX12_message_202 : decode cX12_message 202 = .ok (.istore 4, 2) := by decide +kernel
theorem dX12_message_204 : decode cX12_message 204 = .ok (.iload_n 3, 1) := by decide +kernel
theorem dX12_message_205 : decode cX12_message 205 = .ok (.iconst 2, 1) := by decide +kernel
theorem dX12_message_206 : decode cX12_message 206 = .ok (.iadd, 1) := by decide +kernel
theorem dX12_message_207 : decode cX12_message 207 = .ok (.aload_n 0, 1) := by decide +kernel
theorem dX12_message_208 : decode cX12_message 208 = .ok (.getfield 1, 3) := by decide +kernel
theorem dX12_message_211 : decode cX12_message 211 = .ok (.if_icmp .gt 16, 3) := by decide +kernel
theorem dX12_message_214 : decode cX12_message 214 = .ok (.iload_n 3, 1) := by decide +kernel
theorem dX12_message_215 : decode cX12_message 215 = .ok (.iconst 2, 1) := by decide +kernel
theorem dX12_message_216 : decode cX12_message 216 = .ok (.iadd, 1) := by decide +kernel
theorem dX12_message_217 : decode cX12_message 217 = .ok (.iload 4, 2) := by decide +kernel
theorem dX12_message_219 : decode cX12_message 219 = .ok (.iadd, 1) := by decide +kernel
theorem dX12_message_220 : decode cX12_message 220 = .ok (.aload_n 0, 1) := by decide +kernel
theorem dX12_message_221 : decode cX12_message 221 = .ok (.getfield 1, 3) := by decide +kernel
theorem dX12_message_224 : decode cX12_message 224 = .ok (.if_icmp .le 12, 3) := by decide +kernel
theorem dX12_message_227 : decode cX12_message 227 = .ok (.aload_n 0, 1) := by decide +kernel
theorem dX12_message_228 : decode cX12_message 228 = .ok (.iconst 1, 1) := by decide +kernel
theorem dX12_message_229 : decode cX12_message 229 = .ok (.iload_n 3, 1) := by decide +kernel
theorem dX12_message_230 : decode cX12_message 230 = .ok (.invokevirtual 620, 3) := by decide +kernel
theorem dX12_message_233 : decode cX12_message 233 = .ok (.goto 70, 3) := by decide +kernel
theorem dX12_message_236 : decode cX12_message 236 = .ok (.aload_n 0, 1) := by decide +kernel
theorem dX12_message_237 : decode cX12_message 237 = .ok (.iload_n 3, 1) := by decide +kernel
theorem dX12_message_238 : decode cX12_message 238 = .ok (.iconst 2, 1) := by decide +kernel
theorem dX12_message_239 : decode cX12_message 239 = .ok (.iadd, 1) := by decide +kernel
theorem dX12_message_240 : decode cX12_message 240 = .ok (.iload_n 3, 1) := by decide +kernel
theorem dX12_message_241 : decode cX12_message 241 = .ok (.iconst 2, 1) := by decide +kernel
theorem dX12_message_242 : decode cX12_message 242 = .ok (.iadd, 1) := by decide +kernel
theorem dX12_message_243 : decode cX12_message 243 = .ok (.iload 4, 2) := by decide +kernel
theorem dX12_message_245 : decode cX12_message 245 = .ok (.iadd, 1) := by decide +kernel
theorem dX12_message_246 : decode cX12_message 246 = .ok (.invokevirtual 662, 3) := by decide +kernel
theorem dX12_message_249 : decode cX12_message 249 = .ok (.aload_n 0, 1) := by decide +kernel
theorem dX12_message_250 : decode cX12_message 250 = .ok (.iload_n 3, 1) := by decide +kernel
theorem dX12_message_251 : decode cX12_message 251 = .ok (.iconst 2, 1) := by decide +kernel
theorem dX12_message_252 : decode cX12_message 252 = .ok (.iadd, 1) := by decide +kernel
theorem dX12_message_253 : decode cX12_message 253 = .ok (.iload 4, 2) := by decide +kernel
theorem dX12_message_255 : decode cX12_message 255 = .ok (.iadd, 1) := by decide +kernel
theorem dX12_message_256 : decode cX12_message 256 = .ok (.aload_n 0, 1) := by decide +kernel
theorem dX12_message_257 : decode cX12_message 257 = .ok (.getfield 1, 3) := by decide +kernel
theorem dX12_message_260 : decode cX12_message 260 = .ok (.iconst 0, 1) := by decide +kernel
theorem dX12_message_261 : decode cX12_message 261 = .ok (.invokevirtual 658, 3) := by decide +kernel
theorem dX12_message_264 : decode cX12_message 264 = .ok (.pop, 1) := by decide +kernel
theorem dX12_message_265 : decode cX12_message 265 = .ok (.aload_n 0, 1) := by decide +kernel
theorem dX12_message_266 : decode cX12_message 266 = .ok (.getfield 1, 3) := by decide +kernel
theorem dX12_message_269 : decode cX12_message 269 = .ok (.iload_n 3, 1) := by decide +kernel
theorem dX12_message_270 : decode cX12_message 270 = .ok (.iconst 2, 1) := by decide +kernel
theorem dX12_message_271 : decode cX12_message 271 = .ok (.iadd, 1) := by decide +kernel
theorem dX12_message_272 : decode cX12_message 272 = .ok (.iload 4, 2) := by decide +kernel
theorem dX12_message_274 : decode cX12_message 274 = .ok (.iadd, 1) := by decide +kernel
theorem dX12_message_275 : decode cX12_message 275 = .ok (.if_icmp .le 28, 3) := by decide +kernel
theorem dX12_message_278 : decode cX12_message 278 = .ok (.aload_n 0, 1) := by decide +kernel
theorem dX12_message_279 : decode cX12_message 279 = .ok (.getfield 631, 3) := by decide +kernel
theorem dX12_message_282 : decode cX12_message 282 = .ok (.ifCond .eq 10, 3) := by decide +kernel
theorem dX12_message_285 : decode cX12_message 285 = .ok (.aload_n 0, 1) := by decide +kernel
theorem dX12_message_286 : decode cX12_message 286 = .ok (.getfield 634, 3) := by decide +kernel
theorem dX12_message_289 : decode cX12_message 289 = .ok (.ifCond .ne 14, 3) := by decide +kernel
theorem dX12_message_292 : decode cX12_message 292 = .ok (.aload_n 0, 1) := by decide +kernel
theorem dX12_message_293 : decode cX12_message 293 = .ok (.iconst 2, 1) := by decide +kernel
theorem dX12_message_294 : decode cX12_message 294 = .ok (.iload_n 3, 1) := by decide +kernel
theorem dX12_message_295 : decode cX12_message 295 = .ok (.iconst 2, 1) := by decide +kernel
theorem dX12_message_296 : decode cX12_message 296 = .ok (.iadd, 1) := by decide +kernel
theorem dX12_message_297 : decode cX12_message 297 = .ok (.iload 4, 2) := by decide +kernel
theorem dX12_message_299 : decode cX12_message 299 = .ok (.iadd, 1) := by decide +kernel
theorem dX12_message_300 : decode cX12_message 300 = .ok (.invokevirtual 620, 3) := by decide +kernel
theorem dX12_message_303 : decode cX12_message 303 = .ok (.aload_n 0, 1) := by decide +kernel
theorem dX12_message_304 : decode cX12_message 304 = .ok (.iconst 0, 1) := by decide +kernel
theorem dX12_message_305 : decode cX12_message 305 = .ok (.putfield 1, 3) := by decide +kernel
theorem dX12_message_308 : decode cX12_message 308 = .ok (.aload_n 0, 1) := by decide +kernel
theorem dX12_message_309 : decode cX12_message 309 = .ok (.aload_n 0, 1) := by decide +kernel
theorem dX12_message_310 : decode cX12_message 310 = .ok (.getfield 478, 3) := by decide +kernel
theorem dX12_message_313 : decode cX12_message 313 = .ok (.iconst 1, 1) := by decide +kernel
theorem dX12_message_314 : decode cX12_message 314 = .ok (.iaload, 1) := by decide +kernel
theorem dX12_message_315 : decode cX12_message 315 = .ok (.ldc 29, 2) := by decide +kernel
theorem dX12_message_317 : decode cX12_message 317 = .ok (.if_icmp .eq 7, 3) := by decide +kernel
theorem dX12_message_320 : decode cX12_message 320 = .ok (.iconst 1, 1) := by decide +kernel
theorem dX12_message_321 : decode cX12_message 321 = .ok (.goto 4, 3) := by decide +kernel
theorem dX12_message_324 : decode cX12_message 324 = .ok (.iconst 0, 1) := by decide +kernel
theorem dX12_message_325 : decode cX12_message 325 = .ok (.putfield 665, 3) := by decide +kernel
theorem dX12_message_328 : decode cX12_message 328 = .ok (.aload_n 0, 1) := by decide +kernel
theorem dX12_message_329 : decode cX12_message 329 = .ok (.getfield 665, 3) := by decide +kernel
theorem dX12_message_332 : decode cX12_message 332 = .ok (.ifCond .ne 75, 3) := by decide +kernel
theorem dX12_message_335 : decode cX12_message 335 = .ok (.aload_n 0, 1) := by decide +kernel
theorem dX12_message_336 : decode cX12_message 336 = .ok (.getfield 478, 3) := by decide +kernel
theorem dX12_message_339 : decode cX12_message 339 = .ok (.iconst 2, 1) := by decide +kernel
theorem dX12_message_340 : decode cX12_message 340 = .ok (.iaload, 1) := by decide +kernel
theorem dX12_message_341 : decode cX12_message 341 = .ok (.ldc 29, 2) := by decide +kernel
theorem dX12_message_343 : decode cX12_message 343 = .ok (.if_icmp .eq 64, 3) := by decide +kernel
theorem dX12_message_346 : decode cX12_message 346 = .ok (.iconst 0, 1) := by decide +kernel
theorem dX12_message_347 : decode cX12_message 347 = .ok (.istore_n 3, 1) := by decide +kernel
theorem dX12_message_348 : decode cX12_message 348 = .ok (.iload_n 3, 1) := by decide +kernel
theorem dX12_message_349 : decode cX12_message 349 = .ok (.aload_n 0, 1) := by decide +kernel
theorem dX12_message_350 : decode cX12_message 350 = .ok (.getfield 628, 3) := by decide +kernel
theorem dX12_message_353 : decode cX12_message 353 = .ok (.if_icmp .ge 49, 3) := by decide +kernel
theorem dX12_message_356 : decode cX12_message 356 = .ok (.aload_n 0, 1) := by decide +kernel
theorem dX12_message_357 : decode cX12_message 357 = .ok (.getfield 460, 3) := by decide +kernel
theorem dX12_message_360 : decode cX12_message 360 = .ok (.aload_n 0, 1) := by decide +kernel
theorem dX12_message_361 : decode cX12_message 361 = .ok (.getfield 625, 3) := by decide +kernel
theorem dX12_message_364 : decode cX12_message 364 = .ok (.aload_n 0, 1) := by decide +kernel
theorem dX12_message_365 : decode cX12_message 365 = .ok (.getfield 466, 3) := by decide +kernel
theorem dX12_message_368 : decode cX12_message 368 = .ok (.iload_n 3, 1) := by decide +kernel
theorem dX12_message_369 : decode cX12_message 369 = .ok (.iaload, 1) := by decide +kernel
theorem dX12_message_370 : decode cX12_message 370 = .ok (.iastore, 1) := by decide +kernel
theorem dX12_message_371 : decode cX12_message 371 = .ok (.aload_n 0, 1) := by decide +kernel
theorem dX12_message_372 : decode cX12_message 372 = .ok (.getfield 463, 3) := by decide +kernel
theorem dX12_message_375 : decode cX12_message 375 = .ok (.aload_n 0, 1) := by decide +kernel
theorem dX12_message_376 : decode cX12_message 376 = .ok (.getfield 625, 3) := by decide +kernel
theorem dX12_message_379 : decode cX12_message 379 = .ok (.aload_n 0, 1) := by decide +kernel
theorem dX12_message_380 : decode cX12_message 380 = .ok (.getfield 469, 3) := by decide +kernel
theorem dX12_message_383 : decode cX12_message 383 = .ok (.iload_n 3, 1) := by decide +kernel
theorem dX12_message_384 : decode cX12_message 384 = .ok (.iaload, 1) := by decide +kernel
theorem dX12_message_385 : decode cX12_message 385 = .ok (.iastore, 1) := by decide +kernel
theorem dX12_message_386 : decode cX12_message 386 = .ok (.aload_n 0, 1) := by decide +kernel
theorem dX12_message_387 : decode cX12_message 387 = .ok (.dup, 1) := by decide +kernel
theorem dX12_message_388 : decode cX12_message 388 = .ok (.getfield 625, 3) := by decide +kernel
theorem dX12_message_391 : decode cX12_message 391 = .ok (.iconst 1, 1) := by decide +kernel
theorem dX12_message_392 : decode cX12_message 392 = .ok (.iadd, 1) := by decide +kernel
theorem dX12_message_393 : decode cX12_message 393 = .ok (.putfield 625, 3) := by decide +kernel
theorem dX12_message_396 : decode cX12_message 396 = .ok (.iinc 3 1, 3) := by decide +kernel
theorem dX12_message_399 : decode cX12_message 399 = .ok (.goto (-51), 3) := by decide +kernel
theorem dX12_message_402 : decode cX12_message 402 = .ok (.aload_n 0, 1) := by decide +kernel
theorem dX12_message_403 : decode cX12_message 403 = .ok (.iconst 0, 1) := by decide +kernel
theorem dX12_message_404 : decode cX12_message 404 = .ok (.putfield 628, 3) := by decide +kernel
theorem dX12_message_407 : decode cX12_message 407 = .ok (.aload_n 0, 1) := by decide +kernel
theorem dX12_message_408 : decode cX12_message 408 = .ok (.aload_n 0, 1) := by decide +kernel
theorem dX12_message_409 : decode cX12_message 409 = .ok (.getfield 478, 3) := by decide +kernel
theorem dX12_message_412 : decode cX12_message 412 = .ok (.iconst 1, 1) := by decide +kernel
theorem dX12_message_413 : decode cX12_message 413 = .ok (.iaload, 1) := by decide +kernel
theorem dX12_message_414 : decode cX12_message 414 = .ok (.ldc 29, 2) := by decide +kernel
theorem dX12_message_416 : decode cX12_message 416 = .ok (.if_icmp .eq 7, 3) := by decide +kernel
theorem dX12_message_419 : decode cX12_message 419 = .ok (.iconst 1, 1) := by decide +kernel
theorem dX12_message_420 : decode cX12_message 420 = .ok (.goto 34, 3) := by decide +kernel
theorem dX12_message_423 : decode cX12_message 423 = .ok (.aload_n 0, 1) := by decide +kernel
theorem dX12_message_424 : decode cX12_message 424 = .ok (.getfield 478, 3) := by decide +kernel
theorem dX12_message_427 : decode cX12_message 427 = .ok (.iconst 2, 1) := by decide +kernel
theorem dX12_message_428 : decode cX12_message 428 = .ok (.iaload, 1) := by decide +kernel
theorem dX12_message_429 : decode cX12_message 429 = .ok (.ldc 29, 2) := by decide +kernel
theorem dX12_message_431 : decode cX12_message 431 = .ok (.if_icmp .eq 7, 3) := by decide +kernel
theorem dX12_message_434 : decode cX12_message 434 = .ok (.iconst 2, 1) := by decide +kernel
theorem dX12_message_435 : decode cX12_message 435 = .ok (.goto 19, 3) := by decide +kernel
theorem dX12_message_438 : decode cX12_message 438 = .ok (.aload_n 0, 1) := by decide +kernel
theorem dX12_message_439 : decode cX12_message 439 = .ok (.getfield 478, 3) := by decide +kernel
theorem dX12_message_442 : decode cX12_message 442 = .ok (.iconst 3, 1) := by decide +kernel
theorem dX12_message_443 : decode cX12_message 443 = .ok (.iaload, 1) := by decide +kernel
theorem dX12_message_444 : decode cX12_message 444 = .ok (.ldc 29, 2) := by decide +kernel
theorem dX12_message_446 : decode cX12_message 446 = .ok (.if_icmp .eq 7, 3) := by decide +kernel
theorem dX12_message_449 : decode cX12_message 449 = .ok (.iconst 3, 1) := by decide +kernel
theorem dX12_message_450 : decode cX12_message 450 = .ok (.goto 4, 3) := by decide +kernel
theorem dX12_message_453 : decode cX12_message 453 = .ok (.iconst 0, 1) := by decide +kernel
theorem dX12_message_454 : decode cX12_message 454 = .ok (.putfield 668, 3) := by decide +kernel
theorem dX12_message_457 : decode cX12_message 457 = .ok (.aload_n 0, 1) := by decide +kernel
theorem dX12_message_458 : decode cX12_message 458 = .ok (.getfield 668, 3) := by decide +kernel
theorem dX12_message_461 : decode cX12_message 461 = .ok (.ireturn, 1) := by decide +kernel
theorem dX12_wayRight_0 : decode cX12_wayRight 0 = .ok (.iload_n 1, 1) := by decide +kernel
theorem dX12_wayRight_1 : decode cX12_wayRight 1 = .ok (.istore_n 3, 1) := by decide +kernel
theorem dX12_wayRight_2 : decode cX12_wayRight 2 = .ok (.iconst 0, 1) := by decide +kernel
theorem dX12_wayRight_3 : decode cX12_wayRight 3 = .ok (.istore 4, 2) := by decide +kernel
theorem dX12_wayRight_5 : decode cX12_wayRight 5 = .ok (.iload_n 3, 1) := by decide +kernel
theorem dX12_wayRight_6 : decode cX12_wayRight 6 = .ok (.iload_n 1, 1) := by decide +kernel
theorem dX12_wayRight_7 : decode cX12_wayRight 7 = .ok (.iload_n 2, 1) := by decide +kernel
theorem dX12_wayRight_8 : decode cX12_wayRight 8 = .ok (.iadd, 1) := by decide +kernel
theorem dX12_wayRight_9 : decode cX12_wayRight 9 = .ok (.if_icmp .ge 85, 3) := by decide +kernel
theorem dX12_wayRight_12 : decode cX12_wayRight 12 = .ok (.iload_n 3, 1) := by decide +kernel
theorem dX12_wayRight_13 : decode cX12_wayRight 13 = .ok (.iconst 2, 1) := by decide +kernel
theorem dX12_wayRight_14 : decode cX12_wayRight 14 = .ok (.iadd, 1) := by decide +kernel
theorem dX12_wayRight_15 : decode cX12_wayRight 15 = .ok (.iload_n 1, 1) := by decide +kernel
theorem dX12_wayRight_16 : decode cX12_wayRight 16 = .ok (.iload_n 2, 1) := by decide +kernel
theorem dX12_wayRight_17 : decode cX12_wayRight 17 = .ok (.iadd, 1) := by decide +kernel
theorem dX12_wayRight_18 : decode cX12_wayRight 18 = .ok (.if_icmp .gt 45, 3) := by decide +kernel
theorem dX12_wayRight_21 : decode cX12_wayRight 21 = .ok (.aload_n 0, 1) := by decide +kernel
theorem dX12_wayRight_22 : decode cX12_wayRight 22 = .ok (.iload_n 3, 1) := by decide +kernel
theorem dX12_wayRight_23 : decode cX12_wayRight 23 = .ok (.invokevirtual 227, 3) := by decide +kernel
theorem dX12_wayRight_26 : decode cX12_wayRight 26 = .ok (.iconst 1, 1) := by decide +kernel
theorem dX12_wayRight_27 : decode cX12_wayRight 27 = .ok (.iconst 2, 1) := by decide +kernel
theorem dX12_wayRight_28 : decode cX12_wayRight 28 = .ok (.invokestatic 18, 3) := by decide +kernel
theorem dX12_wayRight_31 : decode cX12_wayRight 31 = .ok (.ifCond .eq 32, 3) := by decide +kernel
theorem dX12_wayRight_34 : decode cX12_wayRight 34 = .ok (.aload_n 0, 1) := by decide +kernel
theorem dX12_wayRight_35 : decode cX12_wayRight 35 = .ok (.iload_n 3, 1) := by decide +kernel
theorem dX12_wayRight_36 : decode cX12_wayRight 36 = .ok (.iconst 1, 1) := by decide +kernel
theorem dX12_wayRight_37 : decode cX12_wayRight 37 = .ok (.iadd, 1) := by decide +kernel
theorem dX12_wayRight_38 : decode cX12_wayRight 38 = .ok (.invokevirtual 227, 3) := by decide +kernel
theorem dX12_wayRight_41 : decode cX12_wayRight 41 = .ok (.ifCond .eq 22, 3) := by decide +kernel
theorem dX12_wayRight_44 : decode cX12_wayRight 44 = .ok (.iload_n 3, 1) := by decide +kernel
theorem dX12_wayRight_45 : decode cX12_wayRight 45 = .ok (.iconst 2, 1) := by decide +kernel
theorem dX12_wayRight_46 : decode cX12_wayRight 46 = .ok (.iadd, 1) := by decide +kernel
theorem dX12_wayRight_47 : decode cX12_wayRight 47 = .ok (.iconst 4, 1) := by decide +kernel
theorem dX12_wayRight_48 : decode cX12_wayRight 48 = .ok (.aload_n 0, 1) := by decide +kernel
theorem dX12_wayRight_49 : decode cX12_wayRight 49 = .ok (.iload_n 3, 1) := by decide +kernel
theorem dX12_wayRight_50 : decode cX12_wayRight 50 = .ok (.iconst 1, 1) := by decide +kernel
theorem dX12_wayRight_51 : decode cX12_wayRight 51 = .ok (.iadd, 1) := by decide +kernel
theorem dX12_wayRight_52 : decode cX12_wayRight 52 = .ok (.invokevirtual 227, 3) := by decide +kernel
theorem dX12_wayRight_55 : decode cX12_wayRight 55 = .ok (.imul, 1) := by decide +kernel
theorem dX12_wayRight_56 : decode cX12_wayRight 56 = .ok (.iadd, 1) := by decide +kernel
theorem dX12_wayRight_57 : decode cX12_wayRight 57 = .ok (.iload_n 1, 1) := by decide +kernel
theorem dX12_wayRight_58 : decode cX12_wayRight 58 = .ok (.iload_n 2, 1) := by decide +kernel
theorem dX12_wayRight_59 : decode cX12_wayRight 59 = .ok (.iadd, 1) := by decide +kernel
theorem dX12_wayRight_60 : decode cX12_wayRight 60 = .ok (.if_icmp .le 5, 3) := by decide +kernel
theorem dX12_wayRight_63 : decode cX12_wayRight 63 = .ok (.iconst 0, 1) := by decide +kernel
theorem dX12_wayRight_64 : decode cX12_wayRight 64 = .ok (.ireturn, 1) := by decide +kernel
theorem dX12_wayRight_65 : decode cX12_wayRight 65 = .ok (.iload 4, 2) := by decide +kernel
theorem dX12_wayRight_67 : decode cX12_wayRight 67 = .ok (.aload_n 0, 1) := by decide +kernel
theorem dX12_wayRight_68 : decode cX12_wayRight 68 = .ok (.iload_n 3, 1) := by decide +kernel
theorem dX12_wayRight_69 : decode cX12_wayRight 69 = .ok (.iconst 1, 1) := by decide +kernel
theorem dX12_wayRight_70 : decode cX12_wayRight 70 = .ok (.iadd, 1) := by decide +kernel
theorem dX12_wayRight_71 : decode cX12_wayRight 71 = .ok (.invokevirtual 227, 3) := by decide +kernel
theorem dX12_wayRight_74 : decode cX12_wayRight 74 = .ok (.iadd, 1) := by decide +kernel
theorem dX12_wayRight_75 : decode cX12_wayRight 75 = .ok (.istore 4, 2) := by decide +kernel
theorem dX12_wayRight_77 : decode cX12_wayRight 77 = .ok (.iload_n 3, 1) := by decide +kernel
theorem dX12_wayRight_78 : decode cX12_wayRight 78 = .ok (.iconst 2, 1) := by decide +kernel
theorem dX12_wayRight_79 : decode cX12_wayRight 79 = .ok (.iconst 4, 1) := by decide +kernel
theorem dX12_wayRight_80 : decode cX12_wayRight 80 = .ok (.aload_n 0, 1) := by decide +kernel
theorem dX12_wayRight_81 : decode cX12_wayRight 81 = .ok (.iload_n 3, 1) := by decide +kernel
theorem dX12_wayRight_82 : decode cX12_wayRight 82 = .ok (.iconst 1, 1) := by decide +kernel
theorem dX12_wayRight_83 : decode cX12_wayRight 83 = .ok (.iadd, 1) := by decide +kernel
theorem dX12_wayRight_84 : decode cX12_wayRight 84 = .ok (.invokevirtual 227, 3) := by decide +kernel
theorem dX12_wayRight_87 : decode cX12_wayRight 87 = .ok (.imul, 1) := by decide +kernel
theorem dX12_wayRight_88 : decode cX12_wayRight 88 = .ok (.iadd, 1) := by decide +kernel
theorem dX12_wayRight_89 : decode cX12_wayRight 89 = .ok (.iadd, 1) := by decide +kernel
theorem dX12_wayRight_90 : decode cX12_wayRight 90 = .ok (.istore_n 3, 1) := by decide +kernel
theorem dX12_wayRight_91 : decode cX12_wayRight 91 = .ok (.goto (-86), 3) := by decide +kernel
theorem dX12_wayRight_94 : decode cX12_wayRight 94 = .ok (.iload 4, 2) := by decide +kernel
theorem dX12_wayRight_96 : decode cX12_wayRight 96 = .ok (.bipush 20, 2) := by decide +kernel
theorem dX12_wayRight_98 : decode cX12_wayRight 98 = .ok (.if_icmp .le 5, 3) := by decide +kernel
theorem dX12_wayRight_101 : decode cX12_wayRight 101 = .ok (.iconst 0, 1) := by decide +kernel
theorem dX12_wayRight_102 : decode cX12_wayRight 102 = .ok (.ireturn, 1) := by decide +kernel
theorem dX12_wayRight_103 : decode cX12_wayRight 103 = .ok (.iload_n 1, 1) := by decide +kernel
theorem dX12_wayRight_104 : decode cX12_wayRight 104 = .ok (.istore_n 3, 1) := by decide +kernel
theorem dX12_wayRight_105 : decode cX12_wayRight 105 = .ok (.sipush 966, 3) := by decide +kernel
theorem dX12_wayRight_108 : decode cX12_wayRight 108 = .ok (.istore 5, 2) := by decide +kernel
theorem dX12_wayRight_110 : decode cX12_wayRight 110 = .ok (.iload_n 3, 1) := by decide +kernel
theorem dX12_wayRight_111 : decode cX12_wayRight 111 = .ok (.iload_n 1, 1) := by decide +kernel
theorem dX12_wayRight_112 : decode cX12_wayRight 112 = .ok (.iload_n 2, 1) := by decide +kernel
theorem dX12_wayRight_113 : decode cX12_wayRight 113 = .ok (.iadd, 1) := by decide +kernel
theorem dX12_wayRight_114 : decode cX12_wayRight 114 = .ok (.if_icmp .ge 130, 3) := by decide +kernel
theorem dX12_wayRight_117 : decode cX12_wayRight 117 = .ok (.aload_n 0, 1) := by decide +kernel
theorem dX12_wayRight_118 : decode cX12_wayRight 118 = .ok (.iload_n 3, 1) := by decide +kernel
theorem dX12_wayRight_119 : decode cX12_wayRight 119 = .ok (.iconst 1, 1) := by decide +kernel
theorem dX12_wayRight_120 : decode cX12_wayRight 120 = .ok (.iadd, 1) := by decide +kernel
theorem dX12_wayRight_121 : decode cX12_wayRight 121 = .ok (.invokevirtual 227, 3) := by decide +kernel
theorem dX12_wayRight_124 : decode cX12_wayRight 124 = .ok (.istore 6, 2) := by decide +kernel
theorem dX12_wayRight_126 : decode cX12_wayRight 126 = .ok (.iload 5, 2) := by decide +kernel
theorem dX12_wayRight_128 : decode cX12_wayRight 128 = .ok (.istore 7, 2) := by decide +kernel
theorem dX12_wayRight_130 : decode cX12_wayRight 130 = .ok (.iconst 0, 1) := by decide +kernel
theorem dX12_wayRight_131 : decode cX12_wayRight 131 = .ok (.istore 8, 2) := by decide +kernel
theorem dX12_wayRight_133 : decode cX12_wayRight 133 = .ok (.iload 8, 2) := by decide +kernel
theorem dX12_wayRight_135 : decode cX12_wayRight 135 = .ok (.iload 6, 2) := by decide +kernel
theorem dX12_wayRight_137 : decode cX12_wayRight 137 = .ok (.if_icmp .ge 95, 3) := by decide +kernel
theorem dX12_wayRight_140 : decode cX12_wayRight 140 = .ok (.aload_n 0, 1) := by decide +kernel
theorem dX12_wayRight_141 : decode cX12_wayRight 141 = .ok (.iload_n 3, 1) := by decide +kernel
theorem dX12_wayRight_142 : decode cX12_wayRight 142 = .ok (.iconst 2, 1) := by decide +kernel
theorem dX12_wayRight_143 : decode cX12_wayRight 143 = .ok (.iadd, 1) := by decide +kernel
theorem dX12_wayRight_144 : decode cX12_wayRight 144 = .ok (.iconst 4, 1) := by decide +kernel
theorem dX12_wayRight_145 : decode cX12_wayRight 145 = .ok (.iload 8, 2) := by decide +kernel
theorem dX12_wayRight_147 : decode cX12_wayRight 147 = .ok (.imul, 1) := by decide +kernel
theorem dX12_wayRight_148 : decode cX12_wayRight 148 = .ok (.iadd, 1) := by decide +kernel
theorem dX12_wayRight_149 : decode cX12_wayRight 149 = .ok (.iconst 4, 1) := by decide +kernel
theorem dX12_wayRight_150 : decode cX12_wayRight 150 = .ok (.invokevirtual 623, 3) := by decide +kernel
theorem dX12_wayRight_153 : decode cX12_wayRight 153 = .ok (.istore 9, 2) := by decide +kernel
theorem dX12_wayRight_155 : decode cX12_wayRight 155 = .ok (.iload 5, 2) := by decide +kernel
theorem dX12_wayRight_157 : decode cX12_wayRight 157 = .ok (.istore 10, 2) := by decide +kernel
theorem dX12_wayRight_159 : decode cX12_wayRight 159 = .ok (.aload_n 0, 1) := by decide +kernel
theorem dX12_wayRight_160 : decode cX12_wayRight 160 = .ok (.iload_n 3, 1) := by decide +kernel
theorem dX12_wayRight_161 : decode cX12_wayRight 161 = .ok (.invokevirtual 227, 3) := by decide +kernel
theorem dX12_wayRight_164 : decode cX12_wayRight 164 = .ok (.iconst 1, 1) := by decide +kernel
theorem dX12_wayRight_165 : decode cX12_wayRight 165 = .ok (.if_icmp .ne 49, 3) := by decide +kernel
theorem dX12_wayRight_168 : decode cX12_wayRight 168 = .ok (.iload 10, 2) := by decide +kernel
theorem dX12_wayRight_170 : decode cX12_wayRight 170 = .ok (.iload 7, 2) := by decide +kernel
theorem dX12_wayRight_172 : decode cX12_wayRight 172 = .ok (.if_icmp .le 42, 3) := by decide +kernel
theorem dX12_wayRight_175 : decode cX12_wayRight 175 = .ok (.iload 9, 2) := by decide +kernel
theorem dX12_wayRight_177 : decode cX12_wayRight 177 = .ok (.aload_n 0, 1) := by decide +kernel
theorem dX12_wayRight_178 : decode cX12_wayRight 178 = .ok (.getfield 148, 3) := by decide +kernel
theorem dX12_wayRight_181 : decode cX12_wayRight 181 = .ok (.iload 10, 2) := by decide +kernel
theorem dX12_wayRight_183 : decode cX12_wayRight 183 = .ok (.iconst 1, 1) := by decide +kernel
theorem dX12_wayRight_184 : decode cX12_wayRight 184 = .ok (.isub, 1) := by decide +kernel
theorem dX12_wayRight_185 : decode cX12_wayRight 185 = .ok (.iaload, 1) := by decide +kernel
theorem dX12_wayRight_186 : decode cX12_wayRight 186 = .ok (.invokestatic 578, 3) := by decide +kernel
theorem dX12_wayRight_189 : decode cX12_wayRight 189 = .ok (.ifCond .eq 25, 3) := by decide +kernel
theorem dX12_wayRight_192 : decode cX12_wayRight 192 = .ok (.aload_n 0, 1) := by decide +kernel
theorem dX12_wayRight_193 : decode cX12_wayRight 193 = .ok (.getfield 148, 3) := by decide +kernel
theorem dX12_wayRight_196 : decode cX12_wayRight 196 = .ok (.iload 10, 2) := by decide +kernel
theorem dX12_wayRight_198 : decode cX12_wayRight 198 = .ok (.aload_n 0, 1) := by decide +kernel
theorem dX12_wayRight_199 : decode cX12_wayRight 199 = .ok (.getfield 148, 3) := by decide +kernel
theorem dX12_wayRight_202 : decode cX12_wayRight 202 = .ok (.iload 10, 2) := by decide +kernel
theorem dX12_wayRight_204 : decode cX12_wayRight 204 = .ok (.iconst 1, 1) := by decide +kernel
theorem dX12_wayRight_205 : decode cX12_wayRight 205 = .ok (.isub, 1) := by decide +kernel
theorem dX12_wayRight_206 : decode cX12_wayRight 206 = .ok (.iaload, 1) := by decide +kernel
theorem dX12_wayRight_207 : decode cX12_wayRight 207 = .ok (.iastore, 1) := by decide +kernel
theorem dX12_wayRight_208 : decode cX12_wayRight 208 = .ok (.iinc 10 (-1), 3) := by decide +kernel
theorem dX12_wayRight_211 : decode cX12_wayRight 211 = .ok (.goto (-52), 3) := by decide +kernel
theorem dX12_wayRight_214 : decode cX12_wayRight 214 = .ok (.aload_n 0, 1) := by decide +kernel
theorem dX12_wayRight_215 : decode cX12_wayRight 215 = .ok (.getfield 148, 3) := by decide +kernel
theorem dX12_wayRight_218 : decode cX12_wayRight 218 = .ok (.iload 10, 2) := by decide +kernel
theorem dX12_wayRight_220 : decode cX12_wayRight 220 = .ok (.iload 9, 2) := by decide +kernel
theorem dX12_wayRight_222 : decode cX12_wayRight 222 = .ok (.iastore, 1) := by decide +kernel
theorem dX12_wayRight_223 : decode cX12_wayRight 223 = .ok (.iinc 5 1, 3) := by decide +kernel
theorem dX12_wayRight_226 : decode cX12_wayRight 226 = .ok (.iinc 8 1, 3) := by decide +kernel
theorem dX12_wayRight_229 : decode cX12_wayRight 229 = .ok (.goto (-96), 3) := by decide +kernel
theorem dX12_wayRight_232 : decode cX12_wayRight 232 = .ok (.iload_n 3, 1) := by decide +kernel
theorem dX12_wayRight_233 : decode cX12_wayRight 233 = .ok (.iconst 2, 1) := by decide +kernel
theorem dX12_wayRight_234 : decode cX12_wayRight 234 = .ok (.iconst 4, 1) := by decide +kernel
theorem dX12_wayRight_235 : decode cX12_wayRight 235 = .ok (.iload 6, 2) := by decide +kernel
theorem dX12_wayRight_237 : decode cX12_wayRight 237 = .ok (.imul, 1) := by decide +kernel
theorem dX12_wayRight_238 : decode cX12_wayRight 238 = .ok (.iadd, 1) := by decide +kernel
theorem dX12_wayRight_239 : decode cX12_wayRight 239 = .ok (.iadd, 1) := by decide +kernel
theorem dX12_wayRight_240 : decode cX12_wayRight 240 = .ok (.istore_n 3, 1) := by decide +kernel
theorem dX12_wayRight_241 : decode cX12_wayRight 241 = .ok (.goto (-131), 3) := by decide +kernel
theorem dX12_wayRight_244 : decode cX12_wayRight 244 = .ok (.aload_n 0, 1) := by decide +kernel
theorem dX12_wayRight_245 : decode cX12_wayRight 245 = .ok (.getfield 148, 3) := by decide +kernel
theorem dX12_wayRight_248 : decode cX12_wayRight 248 = .ok (.sipush 964, 3) := by decide +kernel
theorem dX12_wayRight_251 : decode cX12_wayRight 251 = .ok (.iload 4, 2) := by decide +kernel
theorem dX12_wayRight_253 : decode cX12_wayRight 253 = .ok (.iastore, 1) := by decide +kernel
theorem dX12_wayRight_254 : decode cX12_wayRight 254 = .ok (.aload_n 0, 1) := by decide +kernel
theorem dX12_wayRight_255 : decode cX12_wayRight 255 = .ok (.iconst 1, 1) := by decide +kernel
theorem dX12_wayRight_256 : decode cX12_wayRight 256 = .ok (.putfield 634, 3) := by decide +kernel
theorem dX12_wayRight_259 : decode cX12_wayRight 259 = .ok (.iconst 1, 1) := by decide +kernel
theorem dX12_wayRight_260 : decode cX12_wayRight 260 = .ok (.ireturn, 1) := by decide +kernel
