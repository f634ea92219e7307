theorem dX1_doActs_0 : decode cX1_doActs 0 = .ok (.iconst 0, 1) := by decide +kernel
theorem dX1_doActs_1 : decode cX1_doActs 1 = .ok (.istore 5, 2) := by decide +kernel
theorem dX1_doActs_3 : decode cX1_doActs 3 = .ok (.iload 5, 2) := by decide +kernel
theorem dX1_doActs_5 : decode cX1_doActs 5 = .ok (.iload_n 3, 1) := by decide +kernel
theorem dX1_doActs_6 : decode cX1_doActs 6 = .ok (.if_icmp .ge 260, 3) := by decide +kernel
theorem dX1_doActs_9 : decode cX1_doActs 9 = .ok (.aload_n 0, 1) := by decide +kernel
theorem dX1_doActs_10 : decode cX1_doActs 10 = .ok (.getfield 50, 3) := by decide +kernel
theorem dX1_doActs_13 : decode cX1_doActs 13 = .ok (.ifCond .ne 253, 3) := by decide +kernel
theorem dX1_doActs_16 : decode cX1_doActs 16 = .ok (.aload_n 1, 1) := by decide +kernel
theorem dX1_doActs_17 : decode cX1_doActs 17 = .ok (.iload_n 2, 1) := by decide +kernel
theorem dX1_doActs_18 : decode cX1_doActs 18 = .ok (.iload 5, 2) := by decide +kernel
theorem dX1_doActs_20 : decode cX1_doActs 20 = .ok (.iconst 2, 1) := by decide +kernel
theorem dX1_doActs_21 : decode cX1_doActs 21 = .ok (.imul, 1) := by decide +kernel
theorem dX1_doActs_22 : decode cX1_doActs 22 = .ok (.iadd, 1) := by decide +kernel
theorem dX1_doActs_23 : decode cX1_doActs 23 = .ok (.iconst 1, 1) := by decide +kernel
theorem dX1_doActs_24 : decode cX1_doActs 24 = .ok (.iadd, 1) := by decide +kernel
theorem dX1_doActs_25 : decode cX1_doActs 25 = .ok (.iaload, 1) := by decide +kernel
theorem dX1_doActs_26 : decode cX1_doActs 26 = .ok (.istore 6, 2) := by decide +kernel
theorem dX1_doActs_28 : decode cX1_doActs 28 = .ok (.aload_n 0, 1) := by decide +kernel
theorem dX1_doActs_29 : decode cX1_doActs 29 = .ok (.getfield 47, 3) := by decide +kernel
theorem dX1_doActs_32 : decode cX1_doActs 32 = .ok (.sipush 500, 3) := by decide +kernel
theorem dX1_doActs_35 : decode cX1_doActs 35 = .ok (.if_icmp .lt 9, 3) := by decide +kernel
theorem dX1_doActs_38 : decode cX1_doActs 38 = .ok (.aload_n 0, 1) := by decide +kernel
theorem dX1_doActs_39 : decode cX1_doActs 39 = .ok (.iconst 2, 1) := by decide +kernel
theorem dX1_doActs_40 : decode cX1_doActs 40 = .ok (.putfield 50, 3) := by decide +kernel
theorem dX1_doActs_43 : decode cX1_doActs 43 = .ok (.return_, 1) := by decide +kernel
theorem dX1_doActs_44 : decode cX1_doActs 44 = .ok (.aload_n 0, 1) := by decide +kernel
theorem dX1_doActs_45 : decode cX1_doActs 45 = .ok (.dup, 1) := by decide +kernel
theorem dX1_doActs_46 : decode cX1_doActs 46 = .ok (.getfield 47, 3) := by decide +kernel
theorem dX1_doActs_49 : decode cX1_doActs 49 = .ok (.iconst 1, 1) := by decide +kernel
theorem dX1_doActs_50 : decode cX1_doActs 50 = .ok (.iadd, 1) := by decide +kernel
theorem dX1_doActs_51 : decode cX1_doActs 51 = .ok (.putfield 47, 3) := by decide +kernel
theorem dX1_doActs_54 : decode cX1_doActs 54 = .ok (.aload_n 1, 1) := by decide +kernel
theorem dX1_doActs_55 : decode cX1_doActs 55 = .ok (.iload_n 2, 1) := by decide +kernel
theorem dX1_doActs_56 : decode cX1_doActs 56 = .ok (.iload 5, 2) := by decide +kernel
theorem dX1_doActs_58 : decode cX1_doActs 58 = .ok (.iconst 2, 1) := by decide +kernel
theorem dX1_doActs_59 : decode cX1_doActs 59 = .ok (.imul, 1) := by decide +kernel
theorem dX1_doActs_60 : decode cX1_doActs 60 = .ok (.iadd, 1) := by decide +kernel
theorem dX1_doActs_61 : decode cX1_doActs 61 = .ok (.iaload, 1) := by decide +kernel
theorem dX1_doActs_62 : decode cX1_doActs 62 = .ok (.tableswitch 198 12 28 #[122, 134, 198, 198, 198, 198, 198, 198, 198, 198, 198, 82, 90, 98, 110, 146, 185], 82) := by decide +kernel
theorem dX1_doActs_144 : decode cX1_doActs 144 = .ok (.aload_n 0, 1) := by decide +kernel
theorem dX1_doActs_145 : decode cX1_doActs 145 = .ok (.iconst 1, 1) := by decide +kernel
theorem dX1_doActs_146 : decode cX1_doActs 146 = .ok (.putfield 50, 3) := by decide +kernel
theorem dX1_doActs_149 : decode cX1_doActs 149 = .ok (.goto 111, 3) := by decide +kernel
theorem dX1_doActs_152 : decode cX1_doActs 152 = .ok (.aload_n 0, 1) := by decide +kernel
theorem dX1_doActs_153 : decode cX1_doActs 153 = .ok (.iconst 2, 1) := by decide +kernel
theorem dX1_doActs_154 : decode cX1_doActs 154 = .ok (.putfield 50, 3) := by decide +kernel
theorem dX1_doActs_157 : decode cX1_doActs 157 = .ok (.goto 103, 3) := by decide +kernel
theorem dX1_doActs_160 : decode cX1_doActs 160 = .ok (.aload_n 0, 1) := by decide +kernel
theorem dX1_doActs_161 : decode cX1_doActs 161 = .ok (.getfield 25, 3) := by decide +kernel
theorem dX1_doActs_164 : decode cX1_doActs 164 = .ok (.iload 6, 2) := by decide +kernel
theorem dX1_doActs_166 : decode cX1_doActs 166 = .ok (.invokevirtual 124, 3) := by decide +kernel
theorem dX1_doActs_169 : decode cX1_doActs 169 = .ok (.goto 91, 3) := by decide +kernel
theorem dX1_doActs_172 : decode cX1_doActs 172 = .ok (.aload_n 0, 1) := by decide +kernel
theorem dX1_doActs_173 : decode cX1_doActs 173 = .ok (.getfield 25, 3) := by decide +kernel
theorem dX1_doActs_176 : decode cX1_doActs 176 = .ok (.iload 6, 2) := by decide +kernel
theorem dX1_doActs_178 : decode cX1_doActs 178 = .ok (.invokevirtual 128, 3) := by decide +kernel
theorem dX1_doActs_181 : decode cX1_doActs 181 = .ok (.goto 79, 3) := by decide +kernel
theorem dX1_doActs_184 : decode cX1_doActs 184 = .ok (.aload_n 0, 1) := by decide +kernel
theorem dX1_doActs_185 : decode cX1_doActs 185 = .ok (.getfield 25, 3) := by decide +kernel
theorem dX1_doActs_188 : decode cX1_doActs 188 = .ok (.iload 6, 2) := by decide +kernel
theorem dX1_doActs_190 : decode cX1_doActs 190 = .ok (.putfield 105, 3) := by decide +kernel
theorem dX1_doActs_193 : decode cX1_doActs 193 = .ok (.goto 67, 3) := by decide +kernel
theorem dX1_doActs_196 : decode cX1_doActs 196 = .ok (.aload_n 0, 1) := by decide +kernel
theorem dX1_doActs_197 : decode cX1_doActs 197 = .ok (.getfield 25, 3) := by decide +kernel
theorem dX1_doActs_200 : decode cX1_doActs 200 = .ok (.iload 6, 2) := by decide +kernel
theorem dX1_doActs_202 : decode cX1_doActs 202 = .ok (.putfield 108, 3) := by decide +kernel
theorem dX1_doActs_205 : decode cX1_doActs 205 = .ok (.goto 55, 3) := by decide +kernel
theorem dX1_doActs_208 : decode cX1_doActs 208 = .ok (.aload_n 0, 1) := by decide +kernel
theorem dX1_doActs_209 : decode cX1_doActs 209 = .ok (.getfield 25, 3) := by decide +kernel
theorem dX1_doActs_212 : decode cX1_doActs 212 = .ok (.getfield 96, 3) := by decide +kernel
theorem dX1_doActs_215 : decode cX1_doActs 215 = .ok (.ifCond .le 45, 3) := by decide +kernel
theorem dX1_doActs_218 : decode cX1_doActs 218 = .ok (.aload_n 0, 1) := by decide +kernel
theorem dX1_doActs_219 : decode cX1_doActs 219 = .ok (.getfield 25, 3) := by decide +kernel
theorem dX1_doActs_222 : decode cX1_doActs 222 = .ok (.aload_n 0, 1) := by decide +kernel
theorem dX1_doActs_223 : decode cX1_doActs 223 = .ok (.getfield 25, 3) := by decide +kernel
theorem dX1_doActs_226 : decode cX1_doActs 226 = .ok (.getfield 114, 3) := by decide +kernel
theorem dX1_doActs_229 : decode cX1_doActs 229 = .ok (.iconst 0, 1) := by decide +kernel
theorem dX1_doActs_230 : decode cX1_doActs 230 = .ok (.iaload, 1) := by decide +kernel
theorem dX1_doActs_231 : decode cX1_doActs 231 = .ok (.iload 6, 2) := by decide +kernel
theorem dX1_doActs_233 : decode cX1_doActs 233 = .ok (.invokevirtual 131, 3) := by decide +kernel
theorem dX1_doActs_236 : decode cX1_doActs 236 = .ok (.ifCond .ne 24, 3) := by decide +kernel
theorem dX1_doActs_239 : decode cX1_doActs 239 = .ok (.aload_n 0, 1) := by decide +kernel
theorem dX1_doActs_240 : decode cX1_doActs 240 = .ok (.iconst 2, 1) := by decide +kernel
theorem dX1_doActs_241 : decode cX1_doActs 241 = .ok (.putfield 50, 3) := by decide +kernel
theorem dX1_doActs_244 : decode cX1_doActs 244 = .ok (.goto 16, 3) := by decide +kernel
theorem dX1_doActs_247 : decode cX1_doActs 247 = .ok (.aload_n 0, 1) := by decide +kernel
theorem dX1_doActs_248 : decode cX1_doActs 248 = .ok (.iload 6, 2) := by decide +kernel
theorem dX1_doActs_250 : decode cX1_doActs 250 = .ok (.iload 4, 2) := by decide +kernel
theorem dX1_doActs_252 : decode cX1_doActs 252 = .ok (.iconst 1, 1) := by decide +kernel
theorem dX1_doActs_253 : decode cX1_doActs 253 = .ok (.iadd, 1) := by decide +kernel
theorem dX1_doActs_254 : decode cX1_doActs 254 = .ok (.invokevirtual 53, 3) := by decide +kernel
theorem dX1_doActs_257 : decode cX1_doActs 257 = .ok (.goto 3, 3) := by decide +kernel
theorem dX1_doActs_260 : decode cX1_doActs 260 = .ok (.iinc 5 1, 3) := by decide +kernel
theorem dX1_doActs_263 : decode cX1_doActs 263 = .ok (.goto (-260), 3) := by decide +kernel
theorem dX1_doActs_266 : decode cX1_doActs 266 = .ok (.return_, 1) := by decide +kernel
theorem dX1_goThrough_0 : decode cX1_goThrough 0 = .ok (.iload_n 1, 1) := by decide +kernel
theorem dX1_goThrough_1 : decode cX1_goThrough 1 = .ok (.ifCond .lt 17, 3) := by decide +kernel
theorem dX1_goThrough_4 : decode cX1_goThrough 4 = .ok (.iload_n 1, 1) := by decide +kernel
theorem dX1_goThrough_5 : decode cX1_goThrough 5 = .ok (.aload_n 0, 1) := by decide +kernel
theorem dX1_goThrough_6 : decode cX1_goThrough 6 = .ok (.getfield 21, 3) := by decide +kernel
theorem dX1_goThrough_9 : decode cX1_goThrough 9 = .ok (.if_icmp .ge 9, 3) := by decide +kernel
theorem dX1_goThrough_12 : decode cX1_goThrough 12 = .ok (.iload_n 2, 1) := by decide +kernel
theorem dX1_goThrough_13 : decode cX1_goThrough 13 = .ok (.bipush 12, 2) := by decide +kernel
theorem dX1_goThrough_15 : decode cX1_goThrough 15 = .ok (.if_icmp .le 4, 3) := by decide +kernel
theorem dX1_goThrough_18 : decode cX1_goThrough 18 = .ok (.return_, 1) := by decide +kernel
theorem dX1_goThrough_19 : decode cX1_goThrough 19 = .ok (.aload_n 0, 1) := by decide +kernel
theorem dX1_goThrough_20 : decode cX1_goThrough 20 = .ok (.getfield 17, 3) := by decide +kernel
theorem dX1_goThrough_23 : decode cX1_goThrough 23 = .ok (.iload_n 1, 1) := by decide +kernel
theorem dX1_goThrough_24 : decode cX1_goThrough 24 = .ok (.aaload, 1) := by decide +kernel
theorem dX1_goThrough_25 : decode cX1_goThrough 25 = .ok (.astore_n 3, 1) := by decide +kernel
theorem dX1_goThrough_26 : decode cX1_goThrough 26 = .ok (.iconst 0, 1) := by decide +kernel
theorem dX1_goThrough_27 : decode cX1_goThrough 27 = .ok (.istore 4, 2) := by decide +kernel
theorem dX1_goThrough_29 : decode cX1_goThrough 29 = .ok (.iconst 0, 1) := by decide +kernel
theorem dX1_goThrough_30 : decode cX1_goThrough 30 = .ok (.istore 5, 2) := by decide +kernel
theorem dX1_goThrough_32 : decode cX1_goThrough 32 = .ok (.iload 5, 2) := by decide +kernel
theorem dX1_goThrough_34 : decode cX1_goThrough 34 = .ok (.aload_n 3, 1) := by decide +kernel
theorem dX1_goThrough_35 : decode cX1_goThrough 35 = .ok (.getfield 57, 3) := by decide +kernel
theorem dX1_goThrough_38 : decode cX1_goThrough 38 = .ok (.if_icmp .ge 136, 3) := by decide +kernel
theorem dX1_goThrough_41 : decode cX1_goThrough 41 = .ok (.aload_n 0, 1) := by decide +kernel
theorem dX1_goThrough_42 : decode cX1_goThrough 42 = .ok (.getfield 50, 3) := by decide +kernel
theorem dX1_goThrough_45 : decode cX1_goThrough 45 = .ok (.ifCond .ne 129, 3) := by decide +kernel
theorem dX1_goThrough_48 : decode cX1_goThrough 48 = .ok (.aload_n 3, 1) := by decide +kernel
theorem dX1_goThrough_49 : decode cX1_goThrough 49 = .ok (.getfield 60, 3) := by decide +kernel
theorem dX1_goThrough_52 : decode cX1_goThrough 52 = .ok (.iload 4, 2) := by decide +kernel
theorem dX1_goThrough_54 : decode cX1_goThrough 54 = .ok (.iaload, 1) := by decide +kernel
theorem dX1_goThrough_55 : decode cX1_goThrough 55 = .ok (.istore 6, 2) := by decide +kernel
theorem dX1_goThrough_57 : decode cX1_goThrough 57 = .ok (.aload_n 3, 1) := by decide +kernel
theorem dX1_goThrough_58 : decode cX1_goThrough 58 = .ok (.getfield 60, 3) := by decide +kernel
theorem dX1_goThrough_61 : decode cX1_goThrough 61 = .ok (.iload 4, 2) := by decide +kernel
theorem dX1_goThrough_63 : decode cX1_goThrough 63 = .ok (.iconst 1, 1) := by decide +kernel
theorem dX1_goThrough_64 : decode cX1_goThrough 64 = .ok (.iadd, 1) := by decide +kernel
theorem dX1_goThrough_65 : decode cX1_goThrough 65 = .ok (.iaload, 1) := by decide +kernel
theorem dX1_goThrough_66 : decode cX1_goThrough 66 = .ok (.istore 7, 2) := by decide +kernel
theorem dX1_goThrough_68 : decode cX1_goThrough 68 = .ok (.iload 4, 2) := by decide +kernel
theorem dX1_goThrough_70 : decode cX1_goThrough 70 = .ok (.iconst 2, 1) := by decide +kernel
theorem dX1_goThrough_71 : decode cX1_goThrough 71 = .ok (.iadd, 1) := by decide +kernel
theorem dX1_goThrough_72 : decode cX1_goThrough 72 = .ok (.iload 6, 2) := by decide +kernel
theorem dX1_goThrough_74 : decode cX1_goThrough 74 = .ok (.iconst 5, 1) := by decide +kernel
theorem dX1_goThrough_75 : decode cX1_goThrough 75 = .ok (.imul, 1) := by decide +kernel
theorem dX1_goThrough_76 : decode cX1_goThrough 76 = .ok (.iadd, 1) := by decide +kernel
theorem dX1_goThrough_77 : decode cX1_goThrough 77 = .ok (.istore 8, 2) := by decide +kernel
theorem dX1_goThrough_79 : decode cX1_goThrough 79 = .ok (.iconst 1, 1) := by decide +kernel
theorem dX1_goThrough_80 : decode cX1_goThrough 80 = .ok (.istore 9, 2) := by decide +kernel
theorem dX1_goThrough_82 : decode cX1_goThrough 82 = .ok (.iload 4, 2) := by decide +kernel
theorem dX1_goThrough_84 : decode cX1_goThrough 84 = .ok (.iconst 2, 1) := by decide +kernel
theorem dX1_goThrough_85 : decode cX1_goThrough 85 = .ok (.iadd, 1) := by decide +kernel
theorem dX1_goThrough_86 : decode cX1_goThrough 86 = .ok (.istore 10, 2) := by decide +kernel
theorem dX1_goThrough_88 : decode cX1_goThrough 88 = .ok (.iload 10, 2) := by decide +kernel
theorem dX1_goThrough_90 : decode cX1_goThrough 90 = .ok (.iload 8, 2) := by decide +kernel
theorem dX1_goThrough_92 : decode cX1_goThrough 92 = .ok (.if_icmp .ge 49, 3) := by decide +kernel
theorem dX1_goThrough_95 : decode cX1_goThrough 95 = .ok (.iload 9, 2) := by decide +kernel
theorem dX1_goThrough_97 : decode cX1_goThrough 97 = .ok (.ifCond .eq 44, 3) := by decide +kernel
theorem dX1_goThrough_100 : decode cX1_goThrough 100 = .ok (.aload_n 0, 1) := by decide +kernel
theorem dX1_goThrough_101 : decode cX1_goThrough 101 = .ok (.aload_n 3, 1) := by decide +kernel
theorem dX1_goThrough_102 : decode cX1_goThrough 102 = .ok (.iload 10, 2) := by decide +kernel
theorem dX1_goThrough_104 : decode cX1_goThrough 104 = .ok (.invokevirtual 64, 3) := by decide +kernel
theorem dX1_goThrough_107 : decode cX1_goThrough 107 = .ok (.aload_n 3, 1) := by decide +kernel
theorem dX1_goThrough_108 : decode cX1_goThrough 108 = .ok (.getfield 60, 3) := by decide +kernel
theorem dX1_goThrough_111 : decode cX1_goThrough 111 = .ok (.iload 10, 2) := by decide +kernel
theorem dX1_goThrough_113 : decode cX1_goThrough 113 = .ok (.iconst 1, 1) := by decide +kernel
theorem dX1_goThrough_114 : decode cX1_goThrough 114 = .ok (.iadd, 1) := by decide +kernel
theorem dX1_goThrough_115 : decode cX1_goThrough 115 = .ok (.iaload, 1) := by decide +kernel
theorem dX1_goThrough_116 : decode cX1_goThrough 116 = .ok (.iconst 1, 1) := by decide +kernel
theorem dX1_goThrough_117 : decode cX1_goThrough 117 = .ok (.if_icmp .ne 7, 3) := by decide +kernel
theorem dX1_goThrough_120 : decode cX1_goThrough 120 = .ok (.iconst 1, 1) := by decide +kernel
theorem dX1_goThrough_121 : decode cX1_goThrough 121 = .ok (.goto 4, 3) := by decide +kernel
theorem dX1_goThrough_124 : decode cX1_goThrough 124 = .ok (.iconst 0, 1) := by decide +kernel
theorem dX1_goThrough_125 : decode cX1_goThrough 125 = .ok (.if_icmp .eq 7, 3) := by decide +kernel
theorem dX1_goThrough_128 : decode cX1_goThrough 128 = .ok (.iconst 1, 1) := by decide +kernel
theorem dX1_goThrough_129 : decode cX1_goThrough 129 = .ok (.goto 4, 3) := by decide +kernel
theorem dX1_goThrough_132 : decode cX1_goThrough 132 = .ok (.iconst 0, 1) := by decide +kernel
theorem dX1_goThrough_133 : decode cX1_goThrough 133 = .ok (.istore 9, 2) := by decide +kernel
theorem dX1_goThrough_135 : decode cX1_goThrough 135 = .ok (.iinc 10 5, 3) := by decide +kernel
theorem dX1_goThrough_138 : decode cX1_goThrough 138 = .ok (.goto (-50), 3) := by decide +kernel
theorem dX1_goThrough_141 : decode cX1_goThrough 141 = .ok (.iload 9, 2) := by decide +kernel
theorem dX1_goThrough_143 : decode cX1_goThrough 143 = .ok (.ifCond .eq 16, 3) := by decide +kernel
theorem dX1_goThrough_146 : decode cX1_goThrough 146 = .ok (.aload_n 0, 1) := by decide +kernel
theorem dX1_goThrough_147 : decode cX1_goThrough 147 = .ok (.aload_n 3, 1) := by decide +kernel
theorem dX1_goThrough_148 : decode cX1_goThrough 148 = .ok (.getfield 60, 3) := by decide +kernel
theorem dX1_goThrough_151 : decode cX1_goThrough 151 = .ok (.iload 8, 2) := by decide +kernel
theorem dX1_goThrough_153 : decode cX1_goThrough 153 = .ok (.iload 7, 2) := by decide +kernel
theorem dX1_goThrough_155 : decode cX1_goThrough 155 = .ok (.iload_n 2, 1) := by decide +kernel
theorem dX1_goThrough_156 : decode cX1_goThrough 156 = .ok (.invokevirtual 68, 3) := by decide +kernel
theorem dX1_goThrough_159 : decode cX1_goThrough 159 = .ok (.iload 8, 2) := by decide +kernel
theorem dX1_goThrough_161 : decode cX1_goThrough 161 = .ok (.iload 7, 2) := by decide +kernel
theorem dX1_goThrough_163 : decode cX1_goThrough 163 = .ok (.iconst 2, 1) := by decide +kernel
theorem dX1_goThrough_164 : decode cX1_goThrough 164 = .ok (.imul, 1) := by decide +kernel
theorem dX1_goThrough_165 : decode cX1_goThrough 165 = .ok (.iadd, 1) := by decide +kernel
theorem dX1_goThrough_166 : decode cX1_goThrough 166 = .ok (.istore 4, 2) := by decide +kernel
theorem dX1_goThrough_168 : decode cX1_goThrough 168 = .ok (.iinc 5 1, 3) := by decide +kernel
theorem dX1_goThrough_171 : decode cX1_goThrough 171 = .ok (.goto (-139), 3) := by decide +kernel
theorem dX1_goThrough_174 : decode cX1_goThrough 174 = .ok (.return_, 1) := by decide +kernel
theorem dX1_isSo_0 : decode cX1_isSo 0 = .ok (.aload_n 1, 1) := by decide +kernel
theorem dX1_isSo_1 : decode cX1_isSo 1 = .ok (.getfield 60, 3) := by decide +kernel
theorem dX1_isSo_4 : decode cX1_isSo 4 = .ok (.iload_n 2, 1) := by decide +kernel
theorem dX1_isSo_5 : decode cX1_isSo 5 = .ok (.iconst 2, 1) := by decide +kernel
theorem dX1_isSo_6 : decode cX1_isSo 6 = .ok (.iadd, 1) := by decide +kernel
theorem dX1_isSo_7 : decode cX1_isSo 7 = .ok (.iaload, 1) := by decide +kernel
theorem dX1_isSo_8 : decode cX1_isSo 8 = .ok (.istore_n 3, 1) := by decide +kernel
theorem dX1_isSo_9 : decode cX1_isSo 9 = .ok (.aload_n 1, 1) := by decide +kernel
theorem dX1_isSo_10 : decode cX1_isSo 10 = .ok (.getfield 60, 3) := by decide +kernel
theorem dX1_isSo_13 : decode cX1_isSo 13 = .ok (.iload_n 2, 1) := by decide +kernel
theorem dX1_isSo_14 : decode cX1_isSo 14 = .ok (.iconst 3, 1) := by decide +kernel
theorem dX1_isSo_15 : decode cX1_isSo 15 = .ok (.iadd, 1) := by decide +kernel
theorem dX1_isSo_16 : decode cX1_isSo 16 = .ok (.iaload, 1) := by decide +kernel
theorem dX1_isSo_17 : decode cX1_isSo 17 = .ok (.istore 4, 2) := by decide +kernel
theorem dX1_isSo_19 : decode cX1_isSo 19 = .ok (.aload_n 1, 1) := by decide +kernel
theorem dX1_isSo_20 : decode cX1_isSo 20 = .ok (.getfield 60, 3) := by decide +kernel
theorem dX1_isSo_23 : decode cX1_isSo 23 = .ok (.iload_n 2, 1) := by decide +kernel
theorem dX1_isSo_24 : decode cX1_isSo 24 = .ok (.iconst 4, 1) := by decide +kernel
theorem dX1_isSo_25 : decode cX1_isSo 25 = .ok (.iadd, 1) := by decide +kernel
theorem dX1_isSo_26 : decode cX1_isSo 26 = .ok (.iaload, 1) := by decide +kernel
theorem dX1_isSo_27 : decode cX1_isSo 27 = .ok (.istore 5, 2) := by decide +kernel
theorem dX1_isSo_29 : decode cX1_isSo 29 = .ok (.aload_n 1, 1) := by decide +kernel
theorem dX1_isSo_30 : decode cX1_isSo 30 = .ok (.getfield 60, 3) := by decide +kernel
theorem dX1_isSo_33 : decode cX1_isSo 33 = .ok (.iload_n 2, 1) := by decide +kernel
theorem dX1_isSo_34 : decode cX1_isSo 34 = .ok (.iaload, 1) := by decide +kernel
theorem dX1_isSo_35 : decode cX1_isSo 35 = .ok (.tableswitch 346 4 15 #[61, 346, 123, 346, 144, 153, 167, 181, 205, 229, 253, 270], 61) := by decide +kernel
theorem dX1_isSo_96 : decode cX1_isSo 96 = .ok (.aload_n 0, 1) := by decide +kernel
theorem dX1_isSo_97 : decode cX1_isSo 97 = .ok (.getfield 9, 3) := by decide +kernel
theorem dX1_isSo_100 : decode cX1_isSo 100 = .ok (.getfield 72, 3) := by decide +kernel
theorem dX1_isSo_103 : decode cX1_isSo 103 = .ok (.aload_n 0, 1) := by decide +kernel
theorem dX1_isSo_104 : decode cX1_isSo 104 = .ok (.getfield 25, 3) := by decide +kernel
theorem dX1_isSo_107 : decode cX1_isSo 107 = .ok (.getfield 77, 3) := by decide +kernel
theorem dX1_isSo_110 : decode cX1_isSo 110 = .ok (.iaload, 1) := by decide +kernel
theorem dX1_isSo_111 : decode cX1_isSo 111 = .ok (.istore 6, 2) := by decide +kernel
theorem dX1_isSo_113 : decode cX1_isSo 113 = .ok (.iload 6, 2) := by decide +kernel
theorem dX1_isSo_115 : decode cX1_isSo 115 = .ok (.iload 4, 2) := by decide +kernel
theorem dX1_isSo_117 : decode cX1_isSo 117 = .ok (.if_icmp .lt 39, 3) := by decide +kernel
theorem dX1_isSo_120 : decode cX1_isSo 120 = .ok (.iload 6, 2) := by decide +kernel
theorem dX1_isSo_122 : decode cX1_isSo 122 = .ok (.iload 5, 2) := by decide +kernel
theorem dX1_isSo_124 : decode cX1_isSo 124 = .ok (.if_icmp .gt 32, 3) := by decide +kernel
theorem dX1_isSo_127 : decode cX1_isSo 127 = .ok (.aload_n 0, 1) := by decide +kernel
theorem dX1_isSo_128 : decode cX1_isSo 128 = .ok (.getfield 9, 3) := by decide +kernel
theorem dX1_isSo_131 : decode cX1_isSo 131 = .ok (.getfield 82, 3) := by decide +kernel
theorem dX1_isSo_134 : decode cX1_isSo 134 = .ok (.aload_n 0, 1) := by decide +kernel
theorem dX1_isSo_135 : decode cX1_isSo 135 = .ok (.getfield 25, 3) := by decide +kernel
theorem dX1_isSo_138 : decode cX1_isSo 138 = .ok (.getfield 77, 3) := by decide +kernel
theorem dX1_isSo_141 : decode cX1_isSo 141 = .ok (.iaload, 1) := by decide +kernel
theorem dX1_isSo_142 : decode cX1_isSo 142 = .ok (.iload 4, 2) := by decide +kernel
theorem dX1_isSo_144 : decode cX1_isSo 144 = .ok (.invokestatic 85, 3) := by decide +kernel
theorem dX1_isSo_147 : decode cX1_isSo 147 = .ok (.iand, 1) := by decide +kernel
theorem dX1_isSo_148 : decode cX1_isSo 148 = .ok (.iload_n 3, 1) := by decide +kernel
theorem dX1_isSo_149 : decode cX1_isSo 149 = .ok (.if_icmp .ne 7, 3) := by decide +kernel
theorem dX1_isSo_152 : decode cX1_isSo 152 = .ok (.iconst 1, 1) := by decide +kernel
theorem dX1_isSo_153 : decode cX1_isSo 153 = .ok (.goto 4, 3) := by decide +kernel
theorem dX1_isSo_156 : decode cX1_isSo 156 = .ok (.iconst 0, 1) := by decide +kernel
theorem dX1_isSo_157 : decode cX1_isSo 157 = .ok (.ireturn, 1) := by decide +kernel
theorem dX1_isSo_158 : decode cX1_isSo 158 = .ok (.aload_n 1, 1) := by decide +kernel
theorem dX1_isSo_159 : decode cX1_isSo 159 = .ok (.iload_n 3, 1) := by decide +kernel
theorem dX1_isSo_160 : decode cX1_isSo 160 = .ok (.iload 4, 2) := by decide +kernel
theorem dX1_isSo_162 : decode cX1_isSo 162 = .ok (.iconst 1, 1) := by decide +kernel
theorem dX1_isSo_163 : decode cX1_isSo 163 = .ok (.if_icmp .ne 7, 3) := by decide +kernel
theorem dX1_isSo_166 : decode cX1_isSo 166 = .ok (.iconst 1, 1) := by decide +kernel
theorem dX1_isSo_167 : decode cX1_isSo 167 = .ok (.goto 4, 3) := by decide +kernel
theorem dX1_isSo_170 : decode cX1_isSo 170 = .ok (.iconst 0, 1) := by decide +kernel
theorem dX1_isSo_171 : decode cX1_isSo 171 = .ok (.aload_n 0, 1) := by decide +kernel
theorem dX1_isSo_172 : decode cX1_isSo 172 = .ok (.getfield 25, 3) := by decide +kernel
theorem dX1_isSo_175 : decode cX1_isSo 175 = .ok (.invokevirtual 88, 3) := by decide +kernel
theorem dX1_isSo_178 : decode cX1_isSo 178 = .ok (.ireturn, 1) := by decide +kernel
theorem dX1_isSo_179 : decode cX1_isSo 179 = .ok (.aload_n 0, 1) := by decide +kernel
theorem dX1_isSo_180 : decode cX1_isSo 180 = .ok (.getfield 25, 3) := by decide +kernel
theorem dX1_isSo_183 : decode cX1_isSo 183 = .ok (.iload_n 3, 1) := by decide +kernel
theorem dX1_isSo_184 : decode cX1_isSo 184 = .ok (.invokevirtual 92, 3) := by decide +kernel
theorem dX1_isSo_187 : decode cX1_isSo 187 = .ok (.ireturn, 1) := by decide +kernel
theorem dX1_isSo_188 : decode cX1_isSo 188 = .ok (.aload_n 0, 1) := by decide +kernel
theorem dX1_isSo_189 : decode cX1_isSo 189 = .ok (.getfield 38, 3) := by decide +kernel
theorem dX1_isSo_192 : decode cX1_isSo 192 = .ok (.iload_n 3, 1) := by decide +kernel
theorem dX1_isSo_193 : decode cX1_isSo 193 = .ok (.if_icmp .ne 7, 3) := by decide +kernel
theorem dX1_isSo_196 : decode cX1_isSo 196 = .ok (.iconst 1, 1) := by decide +kernel
theorem dX1_isSo_197 : decode cX1_isSo 197 = .ok (.goto 4, 3) := by decide +kernel
theorem dX1_isSo_200 : decode cX1_isSo 200 = .ok (.iconst 0, 1) := by decide +kernel
theorem dX1_isSo_201 : decode cX1_isSo 201 = .ok (.ireturn, 1) := by decide +kernel
theorem dX1_isSo_202 : decode cX1_isSo 202 = .ok (.aload_n 0, 1) := by decide +kernel
theorem dX1_isSo_203 : decode cX1_isSo 203 = .ok (.getfield 44, 3) := by decide +kernel
theorem dX1_isSo_206 : decode cX1_isSo 206 = .ok (.iload_n 3, 1) := by decide +kernel
theorem dX1_isSo_207 : decode cX1_isSo 207 = .ok (.if_icmp .ne 7, 3) := by decide +kernel
theorem dX1_isSo_210 : decode cX1_isSo 210 = .ok (.iconst 1, 1) := by decide +kernel
theorem dX1_isSo_211 : decode cX1_isSo 211 = .ok (.goto 4, 3) := by decide +kernel
theorem dX1_isSo_214 : decode cX1_isSo 214 = .ok (.iconst 0, 1) := by decide +kernel
theorem dX1_isSo_215 : decode cX1_isSo 215 = .ok (.ireturn, 1) := by decide +kernel
theorem dX1_isSo_216 : decode cX1_isSo 216 = .ok (.aload_n 0, 1) := by decide +kernel
theorem dX1_isSo_217 : decode cX1_isSo 217 = .ok (.getfield 25, 3) := by decide +kernel
theorem dX1_isSo_220 : decode cX1_isSo 220 = .ok (.getfield 96, 3) := by decide +kernel
theorem dX1_isSo_223 : decode cX1_isSo 223 = .ok (.iload 4, 2) := by decide +kernel
theorem dX1_isSo_225 : decode cX1_isSo 225 = .ok (.invokestatic 99, 3) := by decide +kernel
theorem dX1_isSo_228 : decode cX1_isSo 228 = .ok (.iconst 1, 1) := by decide +kernel
theorem dX1_isSo_229 : decode cX1_isSo 229 = .ok (.iadd, 1) := by decide +kernel
theorem dX1_isSo_230 : decode cX1_isSo 230 = .ok (.iload_n 3, 1) := by decide +kernel
theorem dX1_isSo_231 : decode cX1_isSo 231 = .ok (.if_icmp .ne 7, 3) := by decide +kernel
theorem dX1_isSo_234 : decode cX1_isSo 234 = .ok (.iconst 1, 1) := by decide +kernel
theorem dX1_isSo_235 : decode cX1_isSo 235 = .ok (.goto 4, 3) := by decide +kernel
theorem dX1_isSo_238 : decode cX1_isSo 238 = .ok (.iconst 0, 1) := by decide +kernel
theorem dX1_isSo_239 : decode cX1_isSo 239 = .ok (.ireturn, 1) := by decide +kernel
theorem dX1_isSo_240 : decode cX1_isSo 240 = .ok (.aload_n 0, 1) := by decide +kernel
theorem dX1_isSo_241 : decode cX1_isSo 241 = .ok (.getfield 25, 3) := by decide +kernel
theorem dX1_isSo_244 : decode cX1_isSo 244 = .ok (.getfield 105, 3) := by decide +kernel
theorem dX1_isSo_247 : decode cX1_isSo 247 = .ok (.iload 4, 2) := by decide +kernel
theorem dX1_isSo_249 : decode cX1_isSo 249 = .ok (.invokestatic 99, 3) := by decide +kernel
theorem dX1_isSo_252 : decode cX1_isSo 252 = .ok (.iconst 1, 1) := by decide +kernel
theorem dX1_isSo_253 : decode cX1_isSo 253 = .ok (.iadd, 1) := by decide +kernel
theorem dX1_isSo_254 : decode cX1_isSo 254 = .ok (.iload_n 3, 1) := by decide +kernel
theorem dX1_isSo_255 : decode cX1_isSo 255 = .ok (.if_icmp .ne 7, 3) := by decide +kernel
theorem dX1_isSo_258 : decode cX1_isSo 258 = .ok (.iconst 1, 1) := by decide +kernel
theorem dX1_isSo_259 : decode cX1_isSo 259 = .ok (.goto 4, 3) := by decide +kernel
theorem dX1_isSo_262 : decode cX1_isSo 262 = .ok (.iconst 0, 1) := by decide +kernel
theorem dX1_isSo_263 : decode cX1_isSo 263 = .ok (.ireturn, 1) := by decide +kernel
theorem dX1_isSo_264 : decode cX1_isSo 264 = .ok (.aload_n 0, 1) := by decide +kernel
theorem dX1_isSo_265 : decode cX1_isSo 265 = .ok (.getfield 25, 3) := by decide +kernel
theorem dX1_isSo_268 : decode cX1_isSo 268 = .ok (.getfield 108, 3) := by decide +kernel
theorem dX1_isSo_271 : decode cX1_isSo 271 = .ok (.iload 4, 2) := by decide +kernel
theorem dX1_isSo_273 : decode cX1_isSo 273 = .ok (.invokestatic 99, 3) := by decide +kernel
theorem dX1_isSo_276 : decode cX1_isSo 276 = .ok (.iconst 1, 1) := by decide +kernel
theorem dX1_isSo_277 : decode cX1_isSo 277 = .ok (.iadd, 1) := by decide +kernel
theorem dX1_isSo_278 : decode cX1_isSo 278 = .ok (.iload_n 3, 1) := by decide +kernel
theorem dX1_isSo_279 : decode cX1_isSo 279 = .ok (.if_icmp .ne 7, 3) := by decide +kernel
theorem dX1_isSo_282 : decode cX1_isSo 282 = .ok (.iconst 1, 1) := by decide +kernel
theorem dX1_isSo_283 : decode cX1_isSo 283 = .ok (.goto 4, 3) := by decide +kernel
theorem dX1_isSo_286 : decode cX1_isSo 286 = .ok (.iconst 0, 1) := by decide +kernel
theorem dX1_isSo_287 : decode cX1_isSo 287 = .ok (.ireturn, 1) := by decide +kernel
theorem dX1_isSo_288 : decode cX1_isSo 288 = .ok (.aload_n 0, 1) := by decide +kernel
theorem dX1_isSo_289 : decode cX1_isSo 289 = .ok (.getfield 25, 3) := by decide +kernel
theorem dX1_isSo_292 : decode cX1_isSo 292 = .ok (.getfield 111, 3) := by decide +kernel
theorem dX1_isSo_295 : decode cX1_isSo 295 = .ok (.iload_n 3, 1) := by decide +kernel
theorem dX1_isSo_296 : decode cX1_isSo 296 = .ok (.if_icmp .ne 7, 3) := by decide +kernel
theorem dX1_isSo_299 : decode cX1_isSo 299 = .ok (.iconst 1, 1) := by decide +kernel
theorem dX1_isSo_300 : decode cX1_isSo 300 = .ok (.goto 4, 3) := by decide +kernel
theorem dX1_isSo_303 : decode cX1_isSo 303 = .ok (.iconst 0, 1) := by decide +kernel
theorem dX1_isSo_304 : decode cX1_isSo 304 = .ok (.ireturn, 1) := by decide +kernel
theorem dX1_isSo_305 : decode cX1_isSo 305 = .ok (.aload_n 0, 1) := by decide +kernel
theorem dX1_isSo_306 : decode cX1_isSo 306 = .ok (.getfield 25, 3) := by decide +kernel
theorem dX1_isSo_309 : decode cX1_isSo 309 = .ok (.getfield 96, 3) := by decide +kernel
theorem dX1_isSo_312 : decode cX1_isSo 312 = .ok (.ifCond .le 23, 3) := by decide +kernel
theorem dX1_isSo_315 : decode cX1_isSo 315 = .ok (.aload_n 0, 1) := by decide +kernel
theorem dX1_isSo_316 : decode cX1_isSo 316 = .ok (.getfield 25, 3) := by decide +kernel
theorem dX1_isSo_319 : decode cX1_isSo 319 = .ok (.getfield 114, 3) := by decide +kernel
theorem dX1_isSo_322 : decode cX1_isSo 322 = .ok (.aload_n 0, 1) := by decide +kernel
theorem dX1_isSo_323 : decode cX1_isSo 323 = .ok (.getfield 25, 3) := by decide +kernel
theorem dX1_isSo_326 : decode cX1_isSo 326 = .ok (.getfield 96, 3) := by decide +kernel
theorem dX1_isSo_329 : decode cX1_isSo 329 = .ok (.iconst 1, 1) := by decide +kernel
theorem dX1_isSo_330 : decode cX1_isSo 330 = .ok (.isub, 1) := by decide +kernel
theorem dX1_isSo_331 : decode cX1_isSo 331 = .ok (.iaload, 1) := by decide +kernel
theorem dX1_isSo_332 : decode cX1_isSo 332 = .ok (.goto 7, 3) := by decide +kernel
theorem dX1_isSo_335 : decode cX1_isSo 335 = .ok (.aload_n 0, 1) := by decide +kernel
theorem dX1_isSo_336 : decode cX1_isSo 336 = .ok (.getfield 35, 3) := by decide +kernel
theorem dX1_isSo_339 : decode cX1_isSo 339 = .ok (.istore 7, 2) := by decide +kernel
theorem dX1_isSo_341 : decode cX1_isSo 341 = .ok (.aload_n 0, 1) := by decide +kernel
theorem dX1_isSo_342 : decode cX1_isSo 342 = .ok (.getfield 9, 3) := by decide +kernel
theorem dX1_isSo_345 : decode cX1_isSo 345 = .ok (.aload_n 0, 1) := by decide +kernel
theorem dX1_isSo_346 : decode cX1_isSo 346 = .ok (.getfield 25, 3) := by decide +kernel
theorem dX1_isSo_349 : decode cX1_isSo 349 = .ok (.getfield 77, 3) := by decide +kernel
theorem dX1_isSo_352 : decode cX1_isSo 352 = .ok (.iload 7, 2) := by decide +kernel
theorem dX1_isSo_354 : decode cX1_isSo 354 = .ok (.aload_n 0, 1) := by decide +kernel
theorem dX1_isSo_355 : decode cX1_isSo 355 = .ok (.getfield 9, 3) := by decide +kernel
theorem dX1_isSo_358 : decode cX1_isSo 358 = .ok (.getfield 117, 3) := by decide +kernel
theorem dX1_isSo_361 : decode cX1_isSo 361 = .ok (.aload_n 0, 1) := by decide +kernel
theorem dX1_isSo_362 : decode cX1_isSo 362 = .ok (.getfield 9, 3) := by decide +kernel
theorem dX1_isSo_365 : decode cX1_isSo 365 = .ok (.getfield 117, 3) := by decide +kernel
theorem dX1_isSo_368 : decode cX1_isSo 368 = .ok (.invokevirtual 120, 3) := by decide +kernel
theorem dX1_isSo_371 : decode cX1_isSo 371 = .ok (.iload_n 3, 1) := by decide +kernel
theorem dX1_isSo_372 : decode cX1_isSo 372 = .ok (.if_icmp .ne 7, 3) := by decide +kernel
theorem dX1_isSo_375 : decode cX1_isSo 375 = .ok (.iconst 1, 1) := by decide +kernel
theorem dX1_isSo_376 : decode cX1_isSo 376 = .ok (.goto 4, 3) := by decide +kernel
theorem dX1_isSo_379 : decode cX1_isSo 379 = .ok (.iconst 0, 1) := by decide +kernel
theorem dX1_isSo_380 : decode cX1_isSo 380 = .ok (.ireturn, 1) := by decide +kernel
theorem dX1_isSo_381 : decode cX1_isSo 381 = .ok (.iconst 0, 1) := by decide +kernel
theorem dX1_isSo_382 : decode cX1_isSo 382 = .ok (.ireturn, 1) := by decide +kernel
theorem dX1_lets_0 : decode cX1_lets 0 = .ok (.iload_n 1, 1) := by decide +kernel
theorem dX1_lets_1 : decode cX1_lets 1 = .ok (.ifCond .lt 11, 3) := by decide +kernel
theorem dX1_lets_4 : decode cX1_lets 4 = .ok (.iload_n 1, 1) := by decide +kernel
theorem dX1_lets_5 : decode cX1_lets 5 = .ok (.aload_n 0, 1) := by decide +kernel
theorem dX1_lets_6 : decode cX1_lets 6 = .ok (.getfield 21, 3) := by decide +kernel
theorem dX1_lets_9 : decode cX1_lets 9 = .ok (.if_icmp .lt 5, 3) := by decide +kernel
theorem dX1_lets_12 : decode cX1_lets 12 = .ok (.iconst 1, 1) := by decide +kernel
theorem dX1_lets_13 : decode cX1_lets 13 = .ok (.ireturn, 1) := by decide +kernel
theorem dX1_lets_14 : decode cX1_lets 14 = .ok (.aload_n 0, 1) := by decide +kernel
theorem dX1_lets_15 : decode cX1_lets 15 = .ok (.aload_n 2, 1) := by decide +kernel
theorem dX1_lets_16 : decode cX1_lets 16 = .ok (.putfield 25, 3) := by decide +kernel
theorem dX1_lets_19 : decode cX1_lets 19 = .ok (.aload_n 0, 1) := by decide +kernel
theorem dX1_lets_20 : decode cX1_lets 20 = .ok (.aload_n 3, 1) := by decide +kernel
theorem dX1_lets_21 : decode cX1_lets 21 = .ok (.iload 4, 2) := by decide +kernel
theorem dX1_lets_23 : decode cX1_lets 23 = .ok (.invokevirtual 29, 3) := by decide +kernel
theorem dX1_lets_26 : decode cX1_lets 26 = .ok (.putfield 35, 3) := by decide +kernel
theorem dX1_lets_29 : decode cX1_lets 29 = .ok (.aload_n 0, 1) := by decide +kernel
theorem dX1_lets_30 : decode cX1_lets 30 = .ok (.aload_n 3, 1) := by decide +kernel
theorem dX1_lets_31 : decode cX1_lets 31 = .ok (.iconst 1, 1) := by decide +kernel
theorem dX1_lets_32 : decode cX1_lets 32 = .ok (.iload 4, 2) := by decide +kernel
theorem dX1_lets_34 : decode cX1_lets 34 = .ok (.isub, 1) := by decide +kernel
theorem dX1_lets_35 : decode cX1_lets 35 = .ok (.invokevirtual 29, 3) := by decide +kernel
theorem dX1_lets_38 : decode cX1_lets 38 = .ok (.putfield 38, 3) := by decide +kernel
theorem dX1_lets_41 : decode cX1_lets 41 = .ok (.aload_n 0, 1) := by decide +kernel
theorem dX1_lets_42 : decode cX1_lets 42 = .ok (.aload_n 3, 1) := by decide +kernel
theorem dX1_lets_43 : decode cX1_lets 43 = .ok (.iload 4, 2) := by decide +kernel
theorem dX1_lets_45 : decode cX1_lets 45 = .ok (.invokevirtual 41, 3) := by decide +kernel
theorem dX1_lets_48 : decode cX1_lets 48 = .ok (.putfield 44, 3) := by decide +kernel
theorem dX1_lets_51 : decode cX1_lets 51 = .ok (.aload_n 0, 1) := by decide +kernel
theorem dX1_lets_52 : decode cX1_lets 52 = .ok (.iconst 0, 1) := by decide +kernel
theorem dX1_lets_53 : decode cX1_lets 53 = .ok (.putfield 47, 3) := by decide +kernel
theorem dX1_lets_56 : decode cX1_lets 56 = .ok (.aload_n 0, 1) := by decide +kernel
theorem dX1_lets_57 : decode cX1_lets 57 = .ok (.iconst 0, 1) := by decide +kernel
theorem dX1_lets_58 : decode cX1_lets 58 = .ok (.putfield 50, 3) := by decide +kernel
theorem dX1_lets_61 : decode cX1_lets 61 = .ok (.aload_n 0, 1) := by decide +kernel
theorem dX1_lets_62 : decode cX1_lets 62 = .ok (.iload_n 1, 1) := by decide +kernel
theorem dX1_lets_63 : decode cX1_lets 63 = .ok (.iconst 0, 1) := by decide +kernel
theorem dX1_lets_64 : decode cX1_lets 64 = .ok (.invokevirtual 53, 3) := by decide +kernel
theorem dX1_lets_67 : decode cX1_lets 67 = .ok (.aload_n 0, 1) := by decide +kernel
theorem dX1_lets_68 : decode cX1_lets 68 = .ok (.getfield 50, 3) := by decide +kernel
theorem dX1_lets_71 : decode cX1_lets 71 = .ok (.iconst 2, 1) := by decide +kernel
theorem dX1_lets_72 : decode cX1_lets 72 = .ok (.if_icmp .eq 7, 3) := by decide +kernel
theorem dX1_lets_75 : decode cX1_lets 75 = .ok (.iconst 1, 1) := by decide +kernel
theorem dX1_lets_76 : decode cX1_lets 76 = .ok (.goto 4, 3) := by decide +kernel
theorem dX1_lets_79 : decode cX1_lets 79 = .ok (.iconst 0, 1) := by decide +kernel
theorem dX1_lets_80 : decode cX1_lets 80 = .ok (.ireturn, 1) := by decide +kernel
theorem dX5_tells_0 : decode cX5_tells 0 = .ok (.aload_n 3, 1) := by decide +kernel
theorem dX5_tells_1 : decode cX5_tells 1 = .ok (.getfield 30, 3) := by decide +kernel
theorem dX5_tells_4 : decode cX5_tells 4 = .ok (.ifCond .ne 5, 3) := by decide +kernel
theorem dX5_tells_7 : decode cX5_tells 7 = .ok (.iload_n 2, 1) := by decide +kernel
theorem dX5_tells_8 : decode cX5_tells 8 = .ok (.ireturn, 1) := by decide +kernel
theorem dX5_tells_9 : decode cX5_tells 9 = .ok (.iload_n 1, 1) := by decide +kernel
theorem dX5_tells_10 : decode cX5_tells 10 = .ok (.ifCond .lt 12, 3) := by decide +kernel
theorem dX5_tells_13 : decode cX5_tells 13 = .ok (.iload_n 1, 1) := by decide +kernel
theorem dX5_tells_14 : decode cX5_tells 14 = .ok (.aload_n 0, 1) := by decide +kernel
theorem dX5_tells_15 : decode cX5_tells 15 = .ok (.getfield 24, 3) := by decide +kernel
theorem dX5_tells_18 : decode cX5_tells 18 = .ok (.arraylength, 1) := by decide +kernel
theorem dX5_tells_19 : decode cX5_tells 19 = .ok (.if_icmp .lt 5, 3) := by decide +kernel
theorem dX5_tells_22 : decode cX5_tells 22 = .ok (.iconst 0, 1) := by decide +kernel
theorem dX5_tells_23 : decode cX5_tells 23 = .ok (.ireturn, 1) := by decide +kernel
theorem dX5_tells_24 : decode cX5_tells 24 = .ok (.aload_n 0, 1) := by decide +kernel
theorem dX5_tells_25 : decode cX5_tells 25 = .ok (.getfield 24, 3) := by decide +kernel
theorem dX5_tells_28 : decode cX5_tells 28 = .ok (.iload_n 1, 1) := by decide +kernel
theorem dX5_tells_29 : decode cX5_tells 29 = .ok (.laload, 1) := by decide +kernel
theorem dX5_tells_30 : decode cX5_tells 30 = .ok (.lstore 4, 2) := by decide +kernel
theorem dX5_tells_32 : decode cX5_tells 32 = .ok (.lconst 0, 1) := by decide +kernel
theorem dX5_tells_33 : decode cX5_tells 33 = .ok (.lstore 6, 2) := by decide +kernel
theorem dX5_tells_35 : decode cX5_tells 35 = .ok (.iconst 0, 1) := by decide +kernel
theorem dX5_tells_36 : decode cX5_tells 36 = .ok (.istore 8, 2) := by decide +kernel
theorem dX5_tells_38 : decode cX5_tells 38 = .ok (.iload 8, 2) := by decide +kernel
theorem dX5_tells_40 : decode cX5_tells 40 = .ok (.aload_n 3, 1) := by decide +kernel
theorem dX5_tells_41 : decode cX5_tells 41 = .ok (.getfield 30, 3) := by decide +kernel
theorem dX5_tells_44 : decode cX5_tells 44 = .ok (.if_icmp .ge 111, 3) := by decide +kernel
theorem dX5_tells_47 : decode cX5_tells 47 = .ok (.lconst 0, 1) := by decide +kernel
theorem dX5_tells_48 : decode cX5_tells 48 = .ok (.lstore 6, 2) := by decide +kernel
theorem dX5_tells_50 : decode cX5_tells 50 = .ok (.lconst 0, 1) := by decide +kernel
theorem dX5_tells_51 : decode cX5_tells 51 = .ok (.lstore 9, 2) := by decide +kernel
theorem dX5_tells_53 : decode cX5_tells 53 = .ok (.iconst 0, 1) := by decide +kernel
theorem dX5_tells_54 : decode cX5_tells 54 = .ok (.istore 11, 2) := by decide +kernel
theorem dX5_tells_56 : decode cX5_tells 56 = .ok (.iload 11, 2) := by decide +kernel
theorem dX5_tells_58 : decode cX5_tells 58 = .ok (.aload_n 0, 1) := by decide +kernel
theorem dX5_tells_59 : decode cX5_tells 59 = .ok (.getfield 17, 3) := by decide +kernel
theorem dX5_tells_62 : decode cX5_tells 62 = .ok (.arraylength, 1) := by decide +kernel
theorem dX5_tells_63 : decode cX5_tells 63 = .ok (.if_icmp .ge 82, 3) := by decide +kernel
theorem dX5_tells_66 : decode cX5_tells 66 = .ok (.aload_n 0, 1) := by decide +kernel
theorem dX5_tells_67 : decode cX5_tells 67 = .ok (.getfield 17, 3) := by decide +kernel
theorem dX5_tells_70 : decode cX5_tells 70 = .ok (.iload 11, 2) := by decide +kernel
theorem dX5_tells_72 : decode cX5_tells 72 = .ok (.iaload, 1) := by decide +kernel
theorem dX5_tells_73 : decode cX5_tells 73 = .ok (.iconst (-1), 1) := by decide +kernel
theorem dX5_tells_74 : decode cX5_tells 74 = .ok (.if_icmp .eq 20, 3) := by decide +kernel
theorem dX5_tells_77 : decode cX5_tells 77 = .ok (.aload_n 0, 1) := by decide +kernel
theorem dX5_tells_78 : decode cX5_tells 78 = .ok (.getfield 17, 3) := by decide +kernel
theorem dX5_tells_81 : decode cX5_tells 81 = .ok (.iload 11, 2) := by decide +kernel
theorem dX5_tells_83 : decode cX5_tells 83 = .ok (.iaload, 1) := by decide +kernel
theorem dX5_tells_84 : decode cX5_tells 84 = .ok (.aload_n 3, 1) := by decide +kernel
theorem dX5_tells_85 : decode cX5_tells 85 = .ok (.getfield 35, 3) := by decide +kernel
theorem dX5_tells_88 : decode cX5_tells 88 = .ok (.iload 8, 2) := by decide +kernel
theorem dX5_tells_90 : decode cX5_tells 90 = .ok (.iaload, 1) := by decide +kernel
theorem dX5_tells_91 : decode cX5_tells 91 = .ok (.if_icmp .ne 7, 3) := by decide +kernel
theorem dX5_tells_94 : decode cX5_tells 94 = .ok (.iconst 1, 1) := by decide +kernel
theorem dX5_tells_95 : decode cX5_tells 95 = .ok (.goto 4, 3) := by decide +kernel
theorem dX5_tells_98 : decode cX5_tells 98 = .ok (.iconst 0, 1) := by decide +kernel
theorem dX5_tells_99 : decode cX5_tells 99 = .ok (.istore 12, 2) := by decide +kernel
theorem dX5_tells_101 : decode cX5_tells 101 = .ok (.iload 12, 2) := by decide +kernel
theorem dX5_tells_103 : decode cX5_tells 103 = .ok (.ifCond .eq 36, 3) := by decide +kernel
theorem dX5_tells_106 : decode cX5_tells 106 = .ok (.lload 4, 2) := by decide +kernel
theorem dX5_tells_108 : decode cX5_tells 108 = .ok (.iload 11, 2) := by decide +kernel
theorem dX5_tells_110 : decode cX5_tells 110 = .ok (.lushr, 1) := by decide +kernel
theorem dX5_tells_111 : decode cX5_tells 111 = .ok (.lconst 1, 1) := by decide +kernel
theorem dX5_tells_112 : decode cX5_tells 112 = .ok (.land, 1) := by decide +kernel
theorem dX5_tells_113 : decode cX5_tells 113 = .ok (.lconst 0, 1) := by decide +kernel
theorem dX5_tells_114 : decode cX5_tells 114 = .ok (.lcmp, 1) := by decide +kernel
theorem dX5_tells_115 : decode cX5_tells 115 = .ok (.ifCond .eq 24, 3) := by decide +kernel
theorem dX5_tells_118 : decode cX5_tells 118 = .ok (.lload 6, 2) := by decide +kernel
theorem dX5_tells_120 : decode cX5_tells 120 = .ok (.lconst 1, 1) := by decide +kernel
theorem dX5_tells_121 : decode cX5_tells 121 = .ok (.iload 11, 2) := by decide +kernel
theorem dX5_tells_123 : decode cX5_tells 123 = .ok (.lshl, 1) := by decide +kernel
theorem dX5_tells_124 : decode cX5_tells 124 = .ok (.lor, 1) := by decide +kernel
theorem dX5_tells_125 : decode cX5_tells 125 = .ok (.lstore 6, 2) := by decide +kernel
theorem dX5_tells_127 : decode cX5_tells 127 = .ok (.lload 9, 2) := by decide +kernel
theorem dX5_tells_129 : decode cX5_tells 129 = .ok (.aload_n 0, 1) := by decide +kernel
theorem dX5_tells_130 : decode cX5_tells 130 = .ok (.getfield 20, 3) := by decide +kernel
theorem dX5_tells_133 : decode cX5_tells 133 = .ok (.iload 11, 2) := by decide +kernel
theorem dX5_tells_135 : decode cX5_tells 135 = .ok (.laload, 1) := by decide +kernel
theorem dX5_tells_136 : decode cX5_tells 136 = .ok (.lor, 1) := by decide +kernel
theorem dX5_tells_137 : decode cX5_tells 137 = .ok (.lstore 9, 2) := by decide +kernel
theorem dX5_tells_139 : decode cX5_tells 139 = .ok (.iinc 11 1, 3) := by decide +kernel
theorem dX5_tells_142 : decode cX5_tells 142 = .ok (.goto (-86), 3) := by decide +kernel
theorem dX5_tells_145 : decode cX5_tells 145 = .ok (.lload 9, 2) := by decide +kernel
theorem dX5_tells_147 : decode cX5_tells 147 = .ok (.lstore 4, 2) := by decide +kernel
theorem dX5_tells_149 : decode cX5_tells 149 = .ok (.iinc 8 1, 3) := by decide +kernel
theorem dX5_tells_152 : decode cX5_tells 152 = .ok (.goto (-114), 3) := by decide +kernel
theorem dX5_tells_155 : decode cX5_tells 155 = .ok (.lload 6, 2) := by decide +kernel
theorem dX5_tells_157 : decode cX5_tells 157 = .ok (.aload_n 0, 1) := by decide +kernel
theorem dX5_tells_158 : decode cX5_tells 158 = .ok (.getfield 27, 3) := by decide +kernel
theorem dX5_tells_161 : decode cX5_tells 161 = .ok (.iload_n 1, 1) := by decide +kernel
theorem dX5_tells_162 : decode cX5_tells 162 = .ok (.laload, 1) := by decide +kernel
theorem dX5_tells_163 : decode cX5_tells 163 = .ok (.land, 1) := by decide +kernel
theorem dX5_tells_164 : decode cX5_tells 164 = .ok (.lconst 0, 1) := by decide +kernel
theorem dX5_tells_165 : decode cX5_tells 165 = .ok (.lcmp, 1) := by decide +kernel
theorem dX5_tells_166 : decode cX5_tells 166 = .ok (.ifCond .eq 7, 3) := by decide +kernel
theorem dX5_tells_169 : decode cX5_tells 169 = .ok (.iconst 1, 1) := by decide +kernel
theorem dX5_tells_170 : decode cX5_tells 170 = .ok (.goto 4, 3) := by decide +kernel
theorem dX5_tells_173 : decode cX5_tells 173 = .ok (.iconst 0, 1) := by decide +kernel
theorem dX5_tells_174 : decode cX5_tells 174 = .ok (.ireturn, 1) := by decide +kernel
