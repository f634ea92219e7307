section
theorem dX12_attributes_0 : decode cX12_attributes 0 = .ok (.iload_n 1, 1) := dc0 dO_27 (by decide +kernel)
theorem dX12_attributes_1 : decode cX12_attributes 1 = .ok (.istore_n 3, 1) := dc0 dO_62 (by decide +kernel)
theorem dX12_attributes_2 : decode cX12_attributes 2 = .ok (.iload_n 3, 1) := dc0 dO_29 (by decide +kernel)
theorem dX12_attributes_3 : decode cX12_attributes 3 = .ok (.iload_n 2, 1) := dc0 dO_28 (by decide +kernel)
theorem dX12_attributes_4 : decode cX12_attributes 4 = .ok (.if_icmp .ge 341, 3) := dcS2 dO_162 (by decide +kernel)
theorem dX12_attributes_7 : decode cX12_attributes 7 = .ok (.aload_n 0, 1) := dc0 dO_42 (by decide +kernel)
theorem dX12_attributes_8 : decode cX12_attributes 8 = .ok (.iload_n 3, 1) := dc0 dO_29 (by decide +kernel)
theorem dX12_attributes_9 : decode cX12_attributes 9 = .ok (.invokevirtual 227, 3) := dcU2 dO_182 (by decide +kernel)
theorem dX12_attributes_12 : decode cX12_attributes 12 = .ok (.bipush 16, 2) := dcS1 dO_16 (by decide +kernel)
theorem dX12_attributes_14 : decode cX12_attributes 14 = .ok (.iand, 1) := dc0 dO_126 (by decide +kernel)
theorem dX12_attributes_15 : decode cX12_attributes 15 = .ok (.ifCond .eq 7, 3) := dcS2 dO_153 (by decide +kernel)
theorem dX12_attributes_18 : decode cX12_attributes 18 = .ok (.iconst 1, 1) := dc0 dO_4 (by decide +kernel)
theorem dX12_attributes_19 : decode cX12_attributes 19 = .ok (.goto 4, 3) := dcS2 dO_167 (by decide +kernel)
theorem dX12_attributes_22 : decode cX12_attributes 22 = .ok (.iconst 0, 1) := dc0 dO_3 (by decide +kernel)
theorem dX12_attributes_23 : decode cX12_attributes 23 = .ok (.istore 4, 2) := dcU1 dO_54 (by decide +kernel)
theorem dX12_attributes_25 : decode cX12_attributes 25 = .ok (.iload 4, 2) := dcU1 dO_21 (by decide +kernel)
theorem dX12_attributes_27 : decode cX12_attributes 27 = .ok (.ifCond .eq 7, 3) := dcS2 dO_153 (by decide +kernel)
theorem dX12_attributes_30 : decode cX12_attributes 30 = .ok (.iconst 4, 1) := dc0 dO_7 (by decide +kernel)
theorem dX12_attributes_31 : decode cX12_attributes 31 = .ok (.goto 4, 3) := dcS2 dO_167 (by decide +kernel)
theorem dX12_attributes_34 : decode cX12_attributes 34 = .ok (.iconst 3, 1) := dc0 dO_6 (by decide +kernel)
theorem dX12_attributes_35 : decode cX12_attributes 35 = .ok (.istore 5, 2) := dcU1 dO_54 (by decide +kernel)
theorem dX12_attributes_37 : decode cX12_attributes 37 = .ok (.iload_n 3, 1) := dc0 dO_29 (by decide +kernel)
theorem dX12_attributes_38 : decode cX12_attributes 38 = .ok (.iload 5, 2) := dcU1 dO_21 (by decide +kernel)
theorem dX12_attributes_40 : decode cX12_attributes 40 = .ok (.iadd, 1) := dc0 dO_96 (by decide +kernel)
theorem dX12_attributes_41 : decode cX12_attributes 41 = .ok (.iload_n 2, 1) := dc0 dO_28 (by decide +kernel)
theorem dX12_attributes_42 : decode cX12_attributes 42 = .ok (.if_icmp .gt 23, 3) := dcS2 dO_163 (by decide +kernel)
theorem dX12_attributes_45 : decode cX12_attributes 45 = .ok (.iload_n 3, 1) := dc0 dO_29 (by decide +kernel)
theorem dX12_attributes_46 : decode cX12_attributes 46 = .ok (.iload 5, 2) := dcU1 dO_21 (by decide +kernel)
theorem dX12_attributes_48 : decode cX12_attributes 48 = .ok (.iadd, 1) := dc0 dO_96 (by decide +kernel)
theorem dX12_attributes_49 : decode cX12_attributes 49 = .ok (.aload_n 0, 1) := dc0 dO_42 (by decide +kernel)
theorem dX12_attributes_50 : decode cX12_attributes 50 = .ok (.iload_n 3, 1) := dc0 dO_29 (by decide +kernel)
theorem dX12_attributes_51 : decode cX12_attributes 51 = .ok (.iconst 2, 1) := dc0 dO_5 (by decide +kernel)
theorem dX12_attributes_52 : decode cX12_attributes 52 = .ok (.iadd, 1) := dc0 dO_96 (by decide +kernel)
theorem dX12_attributes_53 : decode cX12_attributes 53 = .ok (.iload 5, 2) := dcU1 dO_21 (by decide +kernel)
theorem dX12_attributes_55 : decode cX12_attributes 55 = .ok (.iconst 2, 1) := dc0 dO_5 (by decide +kernel)
theorem dX12_attributes_56 : decode cX12_attributes 56 = .ok (.isub, 1) := dc0 dO_100 (by decide +kernel)
theorem dX12_attributes_57 : decode cX12_attributes 57 = .ok (.invokevirtual 623, 3) := dcU2 dO_182 (by decide +kernel)
theorem dX12_attributes_60 : decode cX12_attributes 60 = .ok (.iadd, 1) := dc0 dO_96 (by decide +kernel)
theorem dX12_attributes_61 : decode cX12_attributes 61 = .ok (.iload_n 2, 1) := dc0 dO_28 (by decide +kernel)
theorem dX12_attributes_62 : decode cX12_attributes 62 = .ok (.if_icmp .le 10, 3) := dcS2 dO_164 (by decide +kernel)
theorem dX12_attributes_65 : decode cX12_attributes 65 = .ok (.aload_n 0, 1) := dc0 dO_42 (by decide +kernel)
theorem dX12_attributes_66 : decode cX12_attributes 66 = .ok (.iconst 2, 1) := dc0 dO_5 (by decide +kernel)
theorem dX12_attributes_67 : decode cX12_attributes 67 = .ok (.iload_n 3, 1) := dc0 dO_29 (by decide +kernel)
theorem dX12_attributes_68 : decode cX12_attributes 68 = .ok (.invokevirtual 620, 3) := dcU2 dO_182 (by decide +kernel)
theorem dX12_attributes_71 : decode cX12_attributes 71 = .ok (.return_, 1) := dc0 dO_177 (by decide +kernel)
theorem dX12_attributes_72 : decode cX12_attributes 72 = .ok (.aload_n 0, 1) := dc0 dO_42 (by decide +kernel)
theorem dX12_attributes_73 : decode cX12_attributes 73 = .ok (.iload_n 3, 1) := dc0 dO_29 (by decide +kernel)
theorem dX12_attributes_74 : decode cX12_attributes 74 = .ok (.invokevirtual 227, 3) := dcU2 dO_182 (by decide +kernel)
theorem dX12_attributes_77 : decode cX12_attributes 77 = .ok (.istore 6, 2) := dcU1 dO_54 (by decide +kernel)
theorem dX12_attributes_79 : decode cX12_attributes 79 = .ok (.aload_n 0, 1) := dc0 dO_42 (by decide +kernel)
theorem dX12_attributes_80 : decode cX12_attributes 80 = .ok (.iload_n 3, 1) := dc0 dO_29 (by decide +kernel)
theorem dX12_attributes_81 : decode cX12_attributes 81 = .ok (.iconst 1, 1) := dc0 dO_4 (by decide +kernel)
theorem dX12_attributes_82 : decode cX12_attributes 82 = .ok (.iadd, 1) := dc0 dO_96 (by decide +kernel)
theorem dX12_attributes_83 : decode cX12_attributes 83 = .ok (.invokevirtual 227, 3) := dcU2 dO_182 (by decide +kernel)
theorem dX12_attributes_86 : decode cX12_attributes 86 = .ok (.istore 7, 2) := dcU1 dO_54 (by decide +kernel)
theorem dX12_attributes_88 : decode cX12_attributes 88 = .ok (.aload_n 0, 1) := dc0 dO_42 (by decide +kernel)
theorem dX12_attributes_89 : decode cX12_attributes 89 = .ok (.iload_n 3, 1) := dc0 dO_29 (by decide +kernel)
theorem dX12_attributes_90 : decode cX12_attributes 90 = .ok (.iconst 2, 1) := dc0 dO_5 (by decide +kernel)
theorem dX12_attributes_91 : decode cX12_attributes 91 = .ok (.iadd, 1) := dc0 dO_96 (by decide +kernel)
theorem dX12_attributes_92 : decode cX12_attributes 92 = .ok (.iload 5, 2) := dcU1 dO_21 (by decide +kernel)
theorem dX12_attributes_94 : decode cX12_attributes 94 = .ok (.iconst 2, 1) := dc0 dO_5 (by decide +kernel)
theorem dX12_attributes_95 : decode cX12_attributes 95 = .ok (.isub, 1) := dc0 dO_100 (by decide +kernel)
theorem dX12_attributes_96 : decode cX12_attributes 96 = .ok (.invokevirtual 623, 3) := dcU2 dO_182 (by decide +kernel)
theorem dX12_attributes_99 : decode cX12_attributes 99 = .ok (.istore 8, 2) := dcU1 dO_54 (by decide +kernel)
theorem dX12_attributes_101 : decode cX12_attributes 101 = .ok (.iload_n 3, 1) := dc0 dO_29 (by decide +kernel)
theorem dX12_attributes_102 : decode cX12_attributes 102 = .ok (.iload 5, 2) := dcU1 dO_21 (by decide +kernel)
theorem dX12_attributes_104 : decode cX12_attributes 104 = .ok (.iadd, 1) := dc0 dO_96 (by decide +kernel)
theorem dX12_attributes_105 : decode cX12_attributes 105 = .ok (.istore 9, 2) := dcU1 dO_54 (by decide +kernel)
theorem dX12_attributes_107 : decode cX12_attributes 107 = .ok (.aload_n 0, 1) := dc0 dO_42 (by decide +kernel)
theorem dX12_attributes_108 : decode cX12_attributes 108 = .ok (.getfield 475, 3) := dcU2 dO_180 (by decide +kernel)
theorem dX12_attributes_111 : decode cX12_attributes 111 = .ok (.iload 7, 2) := dcU1 dO_21 (by decide +kernel)
theorem dX12_attributes_113 : decode cX12_attributes 113 = .ok (.baload, 1) := dc0 dO_51 (by decide +kernel)
theorem dX12_attributes_114 : decode cX12_attributes 114 = .ok (.ifCond .eq 12, 3) := dcS2 dO_153 (by decide +kernel)
theorem dX12_attributes_117 : decode cX12_attributes 117 = .ok (.aload_n 0, 1) := dc0 dO_42 (by decide +kernel)
theorem dX12_attributes_118 : decode cX12_attributes 118 = .ok (.iconst 3, 1) := dc0 dO_6 (by decide +kernel)
theorem dX12_attributes_119 : decode cX12_attributes 119 = .ok (.iload_n 3, 1) := dc0 dO_29 (by decide +kernel)
theorem dX12_attributes_120 : decode cX12_attributes 120 = .ok (.invokevirtual 620, 3) := dcU2 dO_182 (by decide +kernel)
theorem dX12_attributes_123 : decode cX12_attributes 123 = .ok (.goto 213, 3) := dcS2 dO_167 (by decide +kernel)
theorem dX12_attributes_126 : decode cX12_attributes 126 = .ok (.aload_n 0, 1) := dc0 dO_42 (by decide +kernel)
theorem dX12_attributes_127 : decode cX12_attributes 127 = .ok (.getfield 475, 3) := dcU2 dO_180 (by decide +kernel)
theorem sfx_cX12_attributes_128 : (cX12_attributes.data.toList.drop 128).take 67 = [1, 219, 21, 7, 4, 84, 21, 7, 4, 159, 0, 9, 21, 7, 5, 160, 0, 8, 16, 64, 167, 0, 29, 21, 7, 7, 160, 0, 9, 17, 0, 128, 167, 0, 17, 21, 7, 16, 8, 160, 0, 9, 17, 0, 192, 167, 0, 4, 2, 54, 10, 21, 10, 155, 0, 94, 21, 6, 16, 207, 126, 21, 10, 160, 0, 78, 21] := by decide +kernel
theorem dX12_attributes_130 : decode cX12_attributes 130 = .ok (.iload 7, 2) := dcU1 dO_21 (rdU1.ch sfx_cX12_attributes_128 2 rfl (by decide +kernel))
theorem dX12_attributes_132 : decode cX12_attributes 132 = .ok (.iconst 1, 1) := dc0 dO_4 (rdB.ch sfx_cX12_attributes_128 4 rfl (by decide +kernel))
theorem dX12_attributes_133 : decode cX12_attributes 133 = .ok (.bastore, 1) := dc0 dO_84 (rdB.ch sfx_cX12_attributes_128 5 rfl (by decide +kernel))
theorem dX12_attributes_134 : decode cX12_attributes 134 = .ok (.iload 7, 2) := dcU1 dO_21 (rdU1.ch sfx_cX12_attributes_128 6 rfl (by decide +kernel))
theorem dX12_attributes_136 : decode cX12_attributes 136 = .ok (.iconst 1, 1) := dc0 dO_4 (rdB.ch sfx_cX12_attributes_128 8 rfl (by decide +kernel))
theorem dX12_attributes_137 : decode cX12_attributes 137 = .ok (.if_icmp .eq 9, 3) := dcS2 dO_159 (rdS2.ch sfx_cX12_attributes_128 9 rfl (by decide +kernel))
theorem dX12_attributes_140 : decode cX12_attributes 140 = .ok (.iload 7, 2) := dcU1 dO_21 (rdU1.ch sfx_cX12_attributes_128 12 rfl (by decide +kernel))
theorem dX12_attributes_142 : decode cX12_attributes 142 = .ok (.iconst 2, 1) := dc0 dO_5 (rdB.ch sfx_cX12_attributes_128 14 rfl (by decide +kernel))
theorem dX12_attributes_143 : decode cX12_attributes 143 = .ok (.if_icmp .ne 8, 3) := dcS2 dO_160 (rdS2.ch sfx_cX12_attributes_128 15 rfl (by decide +kernel))
theorem dX12_attributes_146 : decode cX12_attributes 146 = .ok (.bipush 64, 2) := dcS1 dO_16 (rdS1.ch sfx_cX12_attributes_128 18 rfl (by decide +kernel))
theorem dX12_attributes_148 : decode cX12_attributes 148 = .ok (.goto 29, 3) := dcS2 dO_167 (rdS2.ch sfx_cX12_attributes_128 20 rfl (by decide +kernel))
theorem dX12_attributes_151 : decode cX12_attributes 151 = .ok (.iload 7, 2) := dcU1 dO_21 (rdU1.ch sfx_cX12_attributes_128 23 rfl (by decide +kernel))
theorem dX12_attributes_153 : decode cX12_attributes 153 = .ok (.iconst 4, 1) := dc0 dO_7 (rdB.ch sfx_cX12_attributes_128 25 rfl (by decide +kernel))
theorem dX12_attributes_154 : decode cX12_attributes 154 = .ok (.if_icmp .ne 9, 3) := dcS2 dO_160 (rdS2.ch sfx_cX12_attributes_128 26 rfl (by decide +kernel))
theorem dX12_attributes_157 : decode cX12_attributes 157 = .ok (.sipush 128, 3) := dcS2 dO_17 (rdS2.ch sfx_cX12_attributes_128 29 rfl (by decide +kernel))
theorem dX12_attributes_160 : decode cX12_attributes 160 = .ok (.goto 17, 3) := dcS2 dO_167 (rdS2.ch sfx_cX12_attributes_128 32 rfl (by decide +kernel))
theorem dX12_attributes_163 : decode cX12_attributes 163 = .ok (.iload 7, 2) := dcU1 dO_21 (rdU1.ch sfx_cX12_attributes_128 35 rfl (by decide +kernel))
theorem dX12_attributes_165 : decode cX12_attributes 165 = .ok (.bipush 8, 2) := dcS1 dO_16 (rdS1.ch sfx_cX12_attributes_128 37 rfl (by decide +kernel))
theorem dX12_attributes_167 : decode cX12_attributes 167 = .ok (.if_icmp .ne 9, 3) := dcS2 dO_160 (rdS2.ch sfx_cX12_attributes_128 39 rfl (by decide +kernel))
theorem dX12_attributes_170 : decode cX12_attributes 170 = .ok (.sipush 192, 3) := dcS2 dO_17 (rdS2.ch sfx_cX12_attributes_128 42 rfl (by decide +kernel))
theorem dX12_attributes_173 : decode cX12_attributes 173 = .ok (.goto 4, 3) := dcS2 dO_167 (rdS2.ch sfx_cX12_attributes_128 45 rfl (by decide +kernel))
theorem dX12_attributes_176 : decode cX12_attributes 176 = .ok (.iconst (-1), 1) := dc0 dO_2 (rdB.ch sfx_cX12_attributes_128 48 rfl (by decide +kernel))
theorem dX12_attributes_177 : decode cX12_attributes 177 = .ok (.istore 10, 2) := dcU1 dO_54 (rdU1.ch sfx_cX12_attributes_128 49 rfl (by decide +kernel))
theorem dX12_attributes_179 : decode cX12_attributes 179 = .ok (.iload 10, 2) := dcU1 dO_21 (rdU1.ch sfx_cX12_attributes_128 51 rfl (by decide +kernel))
theorem dX12_attributes_181 : decode cX12_attributes 181 = .ok (.ifCond .lt 94, 3) := dcS2 dO_155 (rdS2.ch sfx_cX12_attributes_128 53 rfl (by decide +kernel))
theorem dX12_attributes_184 : decode cX12_attributes 184 = .ok (.iload 6, 2) := dcU1 dO_21 (rdU1.ch sfx_cX12_attributes_128 56 rfl (by decide +kernel))
theorem dX12_attributes_186 : decode cX12_attributes 186 = .ok (.bipush (-49), 2) := dcS1 dO_16 (rdS1.ch sfx_cX12_attributes_128 58 rfl (by decide +kernel))
theorem dX12_attributes_188 : decode cX12_attributes 188 = .ok (.iand, 1) := dc0 dO_126 (rdB.ch sfx_cX12_attributes_128 60 rfl (by decide +kernel))
theorem dX12_attributes_189 : decode cX12_attributes 189 = .ok (.iload 10, 2) := dcU1 dO_21 (rdU1.ch sfx_cX12_attributes_128 61 rfl (by decide +kernel))
theorem dX12_attributes_191 : decode cX12_attributes 191 = .ok (.if_icmp .ne 78, 3) := dcS2 dO_160 (rdS2.ch sfx_cX12_attributes_128 63 rfl (by decide +kernel))
theorem sfx_cX12_attributes_192 : (cX12_attributes.data.toList.drop 192).take 67 = [0, 78, 21, 7, 4, 160, 0, 17, 42, 21, 9, 21, 8, 182, 2, 128, 153, 0, 61, 167, 0, 54, 21, 7, 5, 160, 0, 17, 42, 21, 9, 21, 8, 182, 2, 131, 153, 0, 41, 167, 0, 34, 21, 7, 7, 160, 0, 17, 42, 21, 9, 21, 8, 182, 2, 134, 153, 0, 21, 167, 0, 14, 42, 21, 9, 21, 8] := by decide +kernel
theorem dX12_attributes_194 : decode cX12_attributes 194 = .ok (.iload 7, 2) := dcU1 dO_21 (rdU1.ch sfx_cX12_attributes_192 2 rfl (by decide +kernel))
theorem dX12_attributes_196 : decode cX12_attributes 196 = .ok (.iconst 1, 1) := dc0 dO_4 (rdB.ch sfx_cX12_attributes_192 4 rfl (by decide +kernel))
theorem dX12_attributes_197 : decode cX12_attributes 197 = .ok (.if_icmp .ne 17, 3) := dcS2 dO_160 (rdS2.ch sfx_cX12_attributes_192 5 rfl (by decide +kernel))
theorem dX12_attributes_200 : decode cX12_attributes 200 = .ok (.aload_n 0, 1) := dc0 dO_42 (rdB.ch sfx_cX12_attributes_192 8 rfl (by decide +kernel))
theorem dX12_attributes_201 : decode cX12_attributes 201 = .ok (.iload 9, 2) := dcU1 dO_21 (rdU1.ch sfx_cX12_attributes_192 9 rfl (by decide +kernel))
theorem dX12_attributes_203 : decode cX12_attributes 203 = .ok (.iload 8, 2) := dcU1 dO_21 (rdU1.ch sfx_cX12_attributes_192 11 rfl (by decide +kernel))
theorem dX12_attributes_205 : decode cX12_attributes 205 = .ok (.invokevirtual 640, 3) := dcU2 dO_182 (rdU2.ch sfx_cX12_attributes_192 13 rfl (by decide +kernel))
theorem dX12_attributes_208 : decode cX12_attributes 208 = .ok (.ifCond .eq 61, 3) := dcS2 dO_153 (rdS2.ch sfx_cX12_attributes_192 16 rfl (by decide +kernel))
theorem dX12_attributes_211 : decode cX12_attributes 211 = .ok (.goto 54, 3) := dcS2 dO_167 (rdS2.ch sfx_cX12_attributes_192 19 rfl (by decide +kernel))
theorem dX12_attributes_214 : decode cX12_attributes 214 = .ok (.iload 7, 2) := dcU1 dO_21 (rdU1.ch sfx_cX12_attributes_192 22 rfl (by decide +kernel))
theorem dX12_attributes_216 : decode cX12_attributes 216 = .ok (.iconst 2, 1) := dc0 dO_5 (rdB.ch sfx_cX12_attributes_192 24 rfl (by decide +kernel))
theorem dX12_attributes_217 : decode cX12_attributes 217 = .ok (.if_icmp .ne 17, 3) := dcS2 dO_160 (rdS2.ch sfx_cX12_attributes_192 25 rfl (by decide +kernel))
theorem dX12_attributes_220 : decode cX12_attributes 220 = .ok (.aload_n 0, 1) := dc0 dO_42 (rdB.ch sfx_cX12_attributes_192 28 rfl (by decide +kernel))
theorem dX12_attributes_221 : decode cX12_attributes 221 = .ok (.iload 9, 2) := dcU1 dO_21 (rdU1.ch sfx_cX12_attributes_192 29 rfl (by decide +kernel))
theorem dX12_attributes_223 : decode cX12_attributes 223 = .ok (.iload 8, 2) := dcU1 dO_21 (rdU1.ch sfx_cX12_attributes_192 31 rfl (by decide +kernel))
theorem dX12_attributes_225 : decode cX12_attributes 225 = .ok (.invokevirtual 643, 3) := dcU2 dO_182 (rdU2.ch sfx_cX12_attributes_192 33 rfl (by decide +kernel))
theorem dX12_attributes_228 : decode cX12_attributes 228 = .ok (.ifCond .eq 41, 3) := dcS2 dO_153 (rdS2.ch sfx_cX12_attributes_192 36 rfl (by decide +kernel))
theorem dX12_attributes_231 : decode cX12_attributes 231 = .ok (.goto 34, 3) := dcS2 dO_167 (rdS2.ch sfx_cX12_attributes_192 39 rfl (by decide +kernel))
theorem dX12_attributes_234 : decode cX12_attributes 234 = .ok (.iload 7, 2) := dcU1 dO_21 (rdU1.ch sfx_cX12_attributes_192 42 rfl (by decide +kernel))
theorem dX12_attributes_236 : decode cX12_attributes 236 = .ok (.iconst 4, 1) := dc0 dO_7 (rdB.ch sfx_cX12_attributes_192 44 rfl (by decide +kernel))
theorem dX12_attributes_237 : decode cX12_attributes 237 = .ok (.if_icmp .ne 17, 3) := dcS2 dO_160 (rdS2.ch sfx_cX12_attributes_192 45 rfl (by decide +kernel))
theorem dX12_attributes_240 : decode cX12_attributes 240 = .ok (.aload_n 0, 1) := dc0 dO_42 (rdB.ch sfx_cX12_attributes_192 48 rfl (by decide +kernel))
theorem dX12_attributes_241 : decode cX12_attributes 241 = .ok (.iload 9, 2) := dcU1 dO_21 (rdU1.ch sfx_cX12_attributes_192 49 rfl (by decide +kernel))
theorem dX12_attributes_243 : decode cX12_attributes 243 = .ok (.iload 8, 2) := dcU1 dO_21 (rdU1.ch sfx_cX12_attributes_192 51 rfl (by decide +kernel))
theorem dX12_attributes_245 : decode cX12_attributes 245 = .ok (.invokevirtual 646, 3) := dcU2 dO_182 (rdU2.ch sfx_cX12_attributes_192 53 rfl (by decide +kernel))
theorem dX12_attributes_248 : decode cX12_attributes 248 = .ok (.ifCond .eq 21, 3) := dcS2 dO_153 (rdS2.ch sfx_cX12_attributes_192 56 rfl (by decide +kernel))
theorem dX12_attributes_251 : decode cX12_attributes 251 = .ok (.goto 14, 3) := dcS2 dO_167 (rdS2.ch sfx_cX12_attributes_192 59 rfl (by decide +kernel))
theorem dX12_attributes_254 : decode cX12_attributes 254 = .ok (.aload_n 0, 1) := dc0 dO_42 (rdB.ch sfx_cX12_attributes_192 62 rfl (by decide +kernel))
theorem dX12_attributes_255 : decode cX12_attributes 255 = .ok (.iload 9, 2) := dcU1 dO_21 (rdU1.ch sfx_cX12_attributes_192 63 rfl (by decide +kernel))
theorem sfx_cX12_attributes_256 : (cX12_attributes.data.toList.drop 256).take 67 = [9, 21, 8, 182, 2, 137, 153, 0, 7, 4, 167, 0, 4, 3, 54, 11, 167, 0, 53, 21, 6, 17, 0, 128, 126, 153, 0, 7, 4, 167, 0, 4, 3, 54, 11, 21, 11, 153, 0, 32, 21, 6, 16, 64, 126, 153, 0, 24, 42, 180, 1, 216, 42, 180, 2, 140, 21, 7, 79, 42, 89, 180, 2, 140, 4, 96, 181] := by decide +kernel
theorem dX12_attributes_257 : decode cX12_attributes 257 = .ok (.iload 8, 2) := dcU1 dO_21 (rdU1.ch sfx_cX12_attributes_256 1 rfl (by decide +kernel))
theorem dX12_attributes_259 : decode cX12_attributes 259 = .ok (.invokevirtual 649, 3) := dcU2 dO_182 (rdU2.ch sfx_cX12_attributes_256 3 rfl (by decide +kernel))
theorem dX12_attributes_262 : decode cX12_attributes 262 = .ok (.ifCond .eq 7, 3) := dcS2 dO_153 (rdS2.ch sfx_cX12_attributes_256 6 rfl (by decide +kernel))
theorem dX12_attributes_265 : decode cX12_attributes 265 = .ok (.iconst 1, 1) := dc0 dO_4 (rdB.ch sfx_cX12_attributes_256 9 rfl (by decide +kernel))
theorem dX12_attributes_266 : decode cX12_attributes 266 = .ok (.goto 4, 3) := dcS2 dO_167 (rdS2.ch sfx_cX12_attributes_256 10 rfl (by decide +kernel))
theorem dX12_attributes_269 : decode cX12_attributes 269 = .ok (.iconst 0, 1) := dc0 dO_3 (rdB.ch sfx_cX12_attributes_256 13 rfl (by decide +kernel))
theorem dX12_attributes_270 : decode cX12_attributes 270 = .ok (.istore 11, 2) := dcU1 dO_54 (rdU1.ch sfx_cX12_attributes_256 14 rfl (by decide +kernel))
theorem dX12_attributes_272 : decode cX12_attributes 272 = .ok (.goto 53, 3) := dcS2 dO_167 (rdS2.ch sfx_cX12_attributes_256 16 rfl (by decide +kernel))
theorem dX12_attributes_275 : decode cX12_attributes 275 = .ok (.iload 6, 2) := dcU1 dO_21 (rdU1.ch sfx_cX12_attributes_256 19 rfl (by decide +kernel))
theorem dX12_attributes_277 : decode cX12_attributes 277 = .ok (.sipush 128, 3) := dcS2 dO_17 (rdS2.ch sfx_cX12_attributes_256 21 rfl (by decide +kernel))
theorem dX12_attributes_280 : decode cX12_attributes 280 = .ok (.iand, 1) := dc0 dO_126 (rdB.ch sfx_cX12_attributes_256 24 rfl (by decide +kernel))
theorem dX12_attributes_281 : decode cX12_attributes 281 = .ok (.ifCond .eq 7, 3) := dcS2 dO_153 (rdS2.ch sfx_cX12_attributes_256 25 rfl (by decide +kernel))
theorem dX12_attributes_284 : decode cX12_attributes 284 = .ok (.iconst 1, 1) := dc0 dO_4 (rdB.ch sfx_cX12_attributes_256 28 rfl (by decide +kernel))
theorem dX12_attributes_285 : decode cX12_attributes 285 = .ok (.goto 4, 3) := dcS2 dO_167 (rdS2.ch sfx_cX12_attributes_256 29 rfl (by decide +kernel))
theorem dX12_attributes_288 : decode cX12_attributes 288 = .ok (.iconst 0, 1) := dc0 dO_3 (rdB.ch sfx_cX12_attributes_256 32 rfl (by decide +kernel))
theorem dX12_attributes_289 : decode cX12_attributes 289 = .ok (.istore 11, 2) := dcU1 dO_54 (rdU1.ch sfx_cX12_attributes_256 33 rfl (by decide +kernel))
theorem dX12_attributes_291 : decode cX12_attributes 291 = .ok (.iload 11, 2) := dcU1 dO_21 (rdU1.ch sfx_cX12_attributes_256 35 rfl (by decide +kernel))
theorem dX12_attributes_293 : decode cX12_attributes 293 = .ok (.ifCond .eq 32, 3) := dcS2 dO_153 (rdS2.ch sfx_cX12_attributes_256 37 rfl (by decide +kernel))
theorem dX12_attributes_296 : decode cX12_attributes 296 = .ok (.iload 6, 2) := dcU1 dO_21 (rdU1.ch sfx_cX12_attributes_256 40 rfl (by decide +kernel))
theorem dX12_attributes_298 : decode cX12_attributes 298 = .ok (.bipush 64, 2) := dcS1 dO_16 (rdS1.ch sfx_cX12_attributes_256 42 rfl (by decide +kernel))
theorem dX12_attributes_300 : decode cX12_attributes 300 = .ok (.iand, 1) := dc0 dO_126 (rdB.ch sfx_cX12_attributes_256 44 rfl (by decide +kernel))
theorem dX12_attributes_301 : decode cX12_attributes 301 = .ok (.ifCond .eq 24, 3) := dcS2 dO_153 (rdS2.ch sfx_cX12_attributes_256 45 rfl (by decide +kernel))
theorem dX12_attributes_304 : decode cX12_attributes 304 = .ok (.aload_n 0, 1) := dc0 dO_42 (rdB.ch sfx_cX12_attributes_256 48 rfl (by decide +kernel))
theorem dX12_attributes_305 : decode cX12_attributes 305 = .ok (.getfield 472, 3) := dcU2 dO_180 (rdU2.ch sfx_cX12_attributes_256 49 rfl (by decide +kernel))
theorem dX12_attributes_308 : decode cX12_attributes 308 = .ok (.aload_n 0, 1) := dc0 dO_42 (rdB.ch sfx_cX12_attributes_256 52 rfl (by decide +kernel))
theorem dX12_attributes_309 : decode cX12_attributes 309 = .ok (.getfield 652, 3) := dcU2 dO_180 (rdU2.ch sfx_cX12_attributes_256 53 rfl (by decide +kernel))
theorem dX12_attributes_312 : decode cX12_attributes 312 = .ok (.iload 7, 2) := dcU1 dO_21 (rdU1.ch sfx_cX12_attributes_256 56 rfl (by decide +kernel))
theorem dX12_attributes_314 : decode cX12_attributes 314 = .ok (.iastore, 1) := dc0 dO_79 (rdB.ch sfx_cX12_attributes_256 58 rfl (by decide +kernel))
theorem dX12_attributes_315 : decode cX12_attributes 315 = .ok (.aload_n 0, 1) := dc0 dO_42 (rdB.ch sfx_cX12_attributes_256 59 rfl (by decide +kernel))
theorem dX12_attributes_316 : decode cX12_attributes 316 = .ok (.dup, 1) := dc0 dO_89 (rdB.ch sfx_cX12_attributes_256 60 rfl (by decide +kernel))
theorem dX12_attributes_317 : decode cX12_attributes 317 = .ok (.getfield 652, 3) := dcU2 dO_180 (rdU2.ch sfx_cX12_attributes_256 61 rfl (by decide +kernel))
theorem sfx_cX12_attributes_320 : (cX12_attributes.data.toList.drop 320).take 67 = [4, 96, 181, 2, 140, 21, 11, 154, 0, 9, 42, 5, 29, 182, 2, 108, 21, 9, 21, 8, 96, 62, 167, 254, 172, 177] := by decide +kernel
theorem dX12_attributes_320 : decode cX12_attributes 320 = .ok (.iconst 1, 1) := dc0 dO_4 (rdB.ch sfx_cX12_attributes_320 0 rfl (by decide +kernel))
theorem dX12_attributes_321 : decode cX12_attributes 321 = .ok (.iadd, 1) := dc0 dO_96 (rdB.ch sfx_cX12_attributes_320 1 rfl (by decide +kernel))
theorem dX12_attributes_322 : decode cX12_attributes 322 = .ok (.putfield 652, 3) := dcU2 dO_181 (rdU2.ch sfx_cX12_attributes_320 2 rfl (by decide +kernel))
theorem dX12_attributes_325 : decode cX12_attributes 325 = .ok (.iload 11, 2) := dcU1 dO_21 (rdU1.ch sfx_cX12_attributes_320 5 rfl (by decide +kernel))
theorem dX12_attributes_327 : decode cX12_attributes 327 = .ok (.ifCond .ne 9, 3) := dcS2 dO_154 (rdS2.ch sfx_cX12_attributes_320 7 rfl (by decide +kernel))
theorem dX12_attributes_330 : decode cX12_attributes 330 = .ok (.aload_n 0, 1) := dc0 dO_42 (rdB.ch sfx_cX12_attributes_320 10 rfl (by decide +kernel))
theorem dX12_attributes_331 : decode cX12_attributes 331 = .ok (.iconst 2, 1) := dc0 dO_5 (rdB.ch sfx_cX12_attributes_320 11 rfl (by decide +kernel))
theorem dX12_attributes_332 : decode cX12_attributes 332 = .ok (.iload_n 3, 1) := dc0 dO_29 (rdB.ch sfx_cX12_attributes_320 12 rfl (by decide +kernel))
theorem dX12_attributes_333 : decode cX12_attributes 333 = .ok (.invokevirtual 620, 3) := dcU2 dO_182 (rdU2.ch sfx_cX12_attributes_320 13 rfl (by decide +kernel))
theorem dX12_attributes_336 : decode cX12_attributes 336 = .ok (.iload 9, 2) := dcU1 dO_21 (rdU1.ch sfx_cX12_attributes_320 16 rfl (by decide +kernel))
theorem dX12_attributes_338 : decode cX12_attributes 338 = .ok (.iload 8, 2) := dcU1 dO_21 (rdU1.ch sfx_cX12_attributes_320 18 rfl (by decide +kernel))
theorem dX12_attributes_340 : decode cX12_attributes 340 = .ok (.iadd, 1) := dc0 dO_96 (rdB.ch sfx_cX12_attributes_320 20 rfl (by decide +kernel))
theorem dX12_attributes_341 : decode cX12_attributes 341 = .ok (.istore_n 3, 1) := dc0 dO_62 (rdB.ch sfx_cX12_attributes_320 21 rfl (by decide +kernel))
theorem dX12_attributes_342 : decode cX12_attributes 342 = .ok (.goto (-340), 3) := dcS2 dO_167 (rdS2.ch sfx_cX12_attributes_320 22 rfl (by decide +kernel))
theorem dX12_attributes_345 : decode cX12_attributes 345 = .ok (.return_, 1) := dc0 dO_177 (rdB.ch sfx_cX12_attributes_320 25 rfl (by decide +kernel))
theorem dX12_message_0 : decode cX12_message 0 = .ok (.iconst 0, 1) := dc0 dO_3 (by decide +kernel)
theorem dX12_message_1 : decode cX12_message 1 = .ok (.istore_n 1, 1) := dc0 dO_60 (by decide +kernel)
theorem dX12_message_2 : decode cX12_message 2 = .ok (.iload_n 1, 1) := dc0 dO_27 (by decide +kernel)
theorem dX12_message_3 : decode cX12_message 3 = .ok (.iconst 4, 1) := dc0 dO_7 (by decide +kernel)
theorem dX12_message_4 : decode cX12_message 4 = .ok (.if_icmp .ge 17, 3) := dcS2 dO_162 (by decide +kernel)
theorem dX12_message_7 : decode cX12_message 7 = .ok (.aload_n 0, 1) := dc0 dO_42 (by decide +kernel)
theorem dX12_message_8 : decode cX12_message 8 = .ok (.getfield 478, 3) := dcU2 dO_180 (by decide +kernel)
theorem dX12_message_11 : decode cX12_message 11 = .ok (.iload_n 1, 1) := dc0 dO_27 (by decide +kernel)
theorem dX12_message_12 : decode cX12_message 12 = .ok (.ldc 29, 2) := dcU1 dO_18 (by decide +kernel)
theorem dX12_message_14 : decode cX12_message 14 = .ok (.iastore, 1) := dc0 dO_79 (by decide +kernel)
theorem dX12_message_15 : decode cX12_message 15 = .ok (.iinc 1 1, 3) := dcI dO_132 (by decide +kernel)
theorem dX12_message_18 : decode cX12_message 18 = .ok (.goto (-16), 3) := dcS2 dO_167 (by decide +kernel)
theorem dX12_message_21 : decode cX12_message 21 = .ok (.iconst 0, 1) := dc0 dO_3 (by decide +kernel)
theorem dX12_message_22 : decode cX12_message 22 = .ok (.istore_n 1, 1) := dc0 dO_60 (by decide +kernel)
theorem dX12_message_23 : decode cX12_message 23 = .ok (.iload_n 1, 1) := dc0 dO_27 (by decide +kernel)
theorem dX12_message_24 : decode cX12_message 24 = .ok (.sipush 256, 3) := dcS2 dO_17 (by decide +kernel)
theorem dX12_message_27 : decode cX12_message 27 = .ok (.if_icmp .ge 16, 3) := dcS2 dO_162 (by decide +kernel)
theorem dX12_message_30 : decode cX12_message 30 = .ok (.aload_n 0, 1) := dc0 dO_42 (by decide +kernel)
theorem dX12_message_31 : decode cX12_message 31 = .ok (.getfield 475, 3) := dcU2 dO_180 (by decide +kernel)
theorem dX12_message_34 : decode cX12_message 34 = .ok (.iload_n 1, 1) := dc0 dO_27 (by decide +kernel)
theorem dX12_message_35 : decode cX12_message 35 = .ok (.iconst 0, 1) := dc0 dO_3 (by decide +kernel)
theorem dX12_message_36 : decode cX12_message 36 = .ok (.bastore, 1) := dc0 dO_84 (by decide +kernel)
theorem dX12_message_37 : decode cX12_message 37 = .ok (.iinc 1 1, 3) := dcI dO_132 (by decide +kernel)
theorem dX12_message_40 : decode cX12_message 40 = .ok (.goto (-17), 3) := dcS2 dO_167 (by decide +kernel)
theorem dX12_message_43 : decode cX12_message 43 = .ok (.aload_n 0, 1) := dc0 dO_42 (by decide +kernel)
theorem dX12_message_44 : decode cX12_message 44 = .ok (.iconst 0, 1) := dc0 dO_3 (by decide +kernel)
theorem dX12_message_45 : decode cX12_message 45 = .ok (.putfield 625, 3) := dcU2 dO_181 (by decide +kernel)
theorem dX12_message_48 : decode cX12_message 48 = .ok (.aload_n 0, 1) := dc0 dO_42 (by decide +kernel)
theorem dX12_message_49 : decode cX12_message 49 = .ok (.iconst 0, 1) := dc0 dO_3 (by decide +kernel)
theorem dX12_message_50 : decode cX12_message 50 = .ok (.putfield 628, 3) := dcU2 dO_181 (by decide +kernel)
theorem dX12_message_53 : decode cX12_message 53 = .ok (.aload_n 0, 1) := dc0 dO_42 (by decide +kernel)
theorem dX12_message_54 : decode cX12_message 54 = .ok (.iconst 0, 1) := dc0 dO_3 (by decide +kernel)
theorem dX12_message_55 : decode cX12_message 55 = .ok (.putfield 652, 3) := dcU2 dO_181 (by decide +kernel)
theorem dX12_message_58 : decode cX12_message 58 = .ok (.aload_n 0, 1) := dc0 dO_42 (by decide +kernel)
theorem dX12_message_59 : decode cX12_message 59 = .ok (.iconst 0, 1) := dc0 dO_3 (by decide +kernel)
theorem dX12_message_60 : decode cX12_message 60 = .ok (.putfield 637, 3) := dcU2 dO_181 (by decide +kernel)
theorem dX12_message_63 : decode cX12_message 63 = .ok (.aload_n 0, 1) := dc0 dO_42 (by decide +kernel)
theorem dX12_message_64 : decode cX12_message 64 = .ok (.iconst 0, 1) := dc0 dO_3 (by decide +kernel)
theorem dX12_message_65 : decode cX12_message 65 = .ok (.putfield 631, 3) := dcU2 dO_181 (by decide +kernel)
theorem dX12_message_68 : decode cX12_message 68 = .ok (.aload_n 0, 1) := dc0 dO_42 (by decide +kernel)
theorem dX12_message_69 : decode cX12_message 69 = .ok (.iconst 0, 1) := dc0 dO_3 (by decide +kernel)
theorem dX12_message_70 : decode cX12_message 70 = .ok (.putfield 634, 3) := dcU2 dO_181 (by decide +kernel)
theorem dX12_message_73 : decode cX12_message 73 = .ok (.sipush 960, 3) := dcS2 dO_17 (by decide +kernel)
theorem dX12_message_76 : decode cX12_message 76 = .ok (.istore_n 1, 1) := dc0 dO_60 (by decide +kernel)
theorem dX12_message_77 : decode cX12_message 77 = .ok (.aload_n 0, 1) := dc0 dO_42 (by decide +kernel)
theorem dX12_message_78 : decode cX12_message 78 = .ok (.getfield 148, 3) := dcU2 dO_180 (by decide +kernel)
theorem dX12_message_81 : decode cX12_message 81 = .ok (.iload_n 1, 1) := dc0 dO_27 (by decide +kernel)
theorem dX12_message_82 : decode cX12_message 82 = .ok (.iconst 0, 1) := dc0 dO_3 (by decide +kernel)
theorem dX12_message_83 : decode cX12_message 83 = .ok (.iastore, 1) := dc0 dO_79 (by decide +kernel)
theorem dX12_message_84 : decode cX12_message 84 = .ok (.aload_n 0, 1) := dc0 dO_42 (by decide +kernel)
theorem dX12_message_85 : decode cX12_message 85 = .ok (.getfield 148, 3) := dcU2 dO_180 (by decide +kernel)
theorem dX12_message_88 : decode cX12_message 88 = .ok (.iload_n 1, 1) := dc0 dO_27 (by decide +kernel)
theorem dX12_message_89 : decode cX12_message 89 = .ok (.iconst 1, 1) := dc0 dO_4 (by decide +kernel)
theorem dX12_message_90 : decode cX12_message 90 = .ok (.iadd, 1) := dc0 dO_96 (by decide +kernel)
theorem dX12_message_91 : decode cX12_message 91 = .ok (.bipush 100, 2) := dcS1 dO_16 (by decide +kernel)
theorem dX12_message_93 : decode cX12_message 93 = .ok (.iastore, 1) := dc0 dO_79 (by decide +kernel)
theorem dX12_message_94 : decode cX12_message 94 = .ok (.iconst 2, 1) := dc0 dO_5 (by decide +kernel)
theorem dX12_message_95 : decode cX12_message 95 = .ok (.istore_n 2, 1) := dc0 dO_61 (by decide +kernel)
theorem dX12_message_96 : decode cX12_message 96 = .ok (.iload_n 2, 1) := dc0 dO_28 (by decide +kernel)
theorem dX12_message_97 : decode cX12_message 97 = .ok (.bipush 6, 2) := dcS1 dO_16 (by decide +kernel)
theorem dX12_message_99 : decode cX12_message 99 = .ok (.if_icmp .ge 18, 3) := dcS2 dO_162 (by decide +kernel)
theorem dX12_message_102 : decode cX12_message 102 = .ok (.aload_n 0, 1) := dc0 dO_42 (by decide +kernel)
theorem dX12_message_103 : decode cX12_message 103 = .ok (.getfield 148, 3) := dcU2 dO_180 (by decide +kernel)
theorem dX12_message_106 : decode cX12_message 106 = .ok (.iload_n 1, 1) := dc0 dO_27 (by decide +kernel)
theorem dX12_message_107 : decode cX12_message 107 = .ok (.iload_n 2, 1) := dc0 dO_28 (by decide +kernel)
theorem dX12_message_108 : decode cX12_message 108 = .ok (.iadd, 1) := dc0 dO_96 (by decide +kernel)
theorem dX12_message_109 : decode cX12_message 109 = .ok (.iconst 0, 1) := dc0 dO_3 (by decide +kernel)
theorem dX12_message_110 : decode cX12_message 110 = .ok (.iastore, 1) := dc0 dO_79 (by decide +kernel)
theorem dX12_message_111 : decode cX12_message 111 = .ok (.iinc 2 1, 3) := dcI dO_132 (by decide +kernel)
theorem dX12_message_114 : decode cX12_message 114 = .ok (.goto (-18), 3) := dcS2 dO_167 (by decide +kernel)
theorem dX12_message_117 : decode cX12_message 117 = .ok (.aload_n 0, 1) := dc0 dO_42 (by decide +kernel)
theorem dX12_message_118 : decode cX12_message 118 = .ok (.iconst 1, 1) := dc0 dO_4 (by decide +kernel)
theorem dX12_message_119 : decode cX12_message 119 = .ok (.putfield 655, 3) := dcU2 dO_181 (by decide +kernel)
theorem dX12_message_122 : decode cX12_message 122 = .ok (.aload_n 0, 1) := dc0 dO_42 (by decide +kernel)
theorem dX12_message_123 : decode cX12_message 123 = .ok (.getfield 1, 3) := dcU2 dO_180 (by decide +kernel)
theorem dX12_message_126 : decode cX12_message 126 = .ok (.iconst 2, 1) := dc0 dO_5 (by decide +kernel)
theorem dX12_message_127 : decode cX12_message 127 = .ok (.if_icmp .lt 12, 3) := dcS2 dO_161 (by decide +kernel)
theorem sfx_cX12_message_128 : (cX12_message.data.toList.drop 128).take 67 = [0, 12, 42, 3, 5, 182, 2, 111, 167, 0, 4, 3, 61, 42, 180, 0, 1, 5, 161, 0, 13, 5, 28, 96, 42, 180, 0, 1, 164, 0, 12, 42, 4, 3, 182, 2, 108, 167, 0, 138, 42, 5, 5, 28, 96, 4, 182, 2, 146, 87, 5, 28, 96, 62, 29, 5, 96, 42, 180, 0, 1, 163, 0, 12, 42, 29, 5] := by decide +kernel
theorem dX12_message_130 : decode cX12_message 130 = .ok (.aload_n 0, 1) := dc0 dO_42 (rdB.ch sfx_cX12_message_128 2 rfl (by decide +kernel))
theorem dX12_message_131 : decode cX12_message 131 = .ok (.iconst 0, 1) := dc0 dO_3 (rdB.ch sfx_cX12_message_128 3 rfl (by decide +kernel))
theorem dX12_message_132 : decode cX12_message 132 = .ok (.iconst 2, 1) := dc0 dO_5 (rdB.ch sfx_cX12_message_128 4 rfl (by decide +kernel))
theorem dX12_message_133 : decode cX12_message 133 = .ok (.invokevirtual 623, 3) := dcU2 dO_182 (rdU2.ch sfx_cX12_message_128 5 rfl (by decide +kernel))
theorem dX12_message_136 : decode cX12_message 136 = .ok (.goto 4, 3) := dcS2 dO_167 (rdS2.ch sfx_cX12_message_128 8 rfl (by decide +kernel))
theorem dX12_message_139 : decode cX12_message 139 = .ok (.iconst 0, 1) := dc0 dO_3 (rdB.ch sfx_cX12_message_128 11 rfl (by decide +kernel))
theorem dX12_message_140 : decode cX12_message 140 = .ok (.istore_n 2, 1) := dc0 dO_61 (rdB.ch sfx_cX12_message_128 12 rfl (by decide +kernel))
theorem dX12_message_141 : decode cX12_message 141 = .ok (.aload_n 0, 1) := dc0 dO_42 (rdB.ch sfx_cX12_message_128 13 rfl (by decide +kernel))
theorem dX12_message_142 : decode cX12_message 142 = .ok (.getfield 1, 3) := dcU2 dO_180 (rdU2.ch sfx_cX12_message_128 14 rfl (by decide +kernel))
theorem dX12_message_145 : decode cX12_message 145 = .ok (.iconst 2, 1) := dc0 dO_5 (rdB.ch sfx_cX12_message_128 17 rfl (by decide +kernel))
theorem dX12_message_146 : decode cX12_message 146 = .ok (.if_icmp .lt 13, 3) := dcS2 dO_161 (rdS2.ch sfx_cX12_message_128 18 rfl (by decide +kernel))
theorem dX12_message_149 : decode cX12_message 149 = .ok (.iconst 2, 1) := dc0 dO_5 (rdB.ch sfx_cX12_message_128 21 rfl (by decide +kernel))
theorem dX12_message_150 : decode cX12_message 150 = .ok (.iload_n 2, 1) := dc0 dO_28 (rdB.ch sfx_cX12_message_128 22 rfl (by decide +kernel))
theorem dX12_message_151 : decode cX12_message 151 = .ok (.iadd, 1) := dc0 dO_96 (rdB.ch sfx_cX12_message_128 23 rfl (by decide +kernel))
theorem dX12_message_152 : decode cX12_message 152 = .ok (.aload_n 0, 1) := dc0 dO_42 (rdB.ch sfx_cX12_message_128 24 rfl (by decide +kernel))
theorem dX12_message_153 : decode cX12_message 153 = .ok (.getfield 1, 3) := dcU2 dO_180 (rdU2.ch sfx_cX12_message_128 25 rfl (by decide +kernel))
theorem dX12_message_156 : decode cX12_message 156 = .ok (.if_icmp .le 12, 3) := dcS2 dO_164 (rdS2.ch sfx_cX12_message_128 28 rfl (by decide +kernel))
theorem dX12_message_159 : decode cX12_message 159 = .ok (.aload_n 0, 1) := dc0 dO_42 (rdB.ch sfx_cX12_message_128 31 rfl (by decide +kernel))
theorem dX12_message_160 : decode cX12_message 160 = .ok (.iconst 1, 1) := dc0 dO_4 (rdB.ch sfx_cX12_message_128 32 rfl (by decide +kernel))
theorem dX12_message_161 : decode cX12_message 161 = .ok (.iconst 0, 1) := dc0 dO_3 (rdB.ch sfx_cX12_message_128 33 rfl (by decide +kernel))
theorem dX12_message_162 : decode cX12_message 162 = .ok (.invokevirtual 620, 3) := dcU2 dO_182 (rdU2.ch sfx_cX12_message_128 34 rfl (by decide +kernel))
theorem dX12_message_165 : decode cX12_message 165 = .ok (.goto 138, 3) := dcS2 dO_167 (rdS2.ch sfx_cX12_message_128 37 rfl (by decide +kernel))
theorem dX12_message_168 : decode cX12_message 168 = .ok (.aload_n 0, 1) := dc0 dO_42 (rdB.ch sfx_cX12_message_128 40 rfl (by decide +kernel))
theorem dX12_message_169 : decode cX12_message 169 = .ok (.iconst 2, 1) := dc0 dO_5 (rdB.ch sfx_cX12_message_128 41 rfl (by decide +kernel))
theorem dX12_message_170 : decode cX12_message 170 = .ok (.iconst 2, 1) := dc0 dO_5 (rdB.ch sfx_cX12_message_128 42 rfl (by decide +kernel))
theorem dX12_message_171 : decode cX12_message 171 = .ok (.iload_n 2, 1) := dc0 dO_28 (rdB.ch sfx_cX12_message_128 43 rfl (by decide +kernel))
theorem dX12_message_172 : decode cX12_message 172 = .ok (.iadd, 1) := dc0 dO_96 (rdB.ch sfx_cX12_message_128 44 rfl (by decide +kernel))
theorem dX12_message_173 : decode cX12_message 173 = .ok (.iconst 1, 1) := dc0 dO_4 (rdB.ch sfx_cX12_message_128 45 rfl (by decide +kernel))
theorem dX12_message_174 : decode cX12_message 174 = .ok (.invokevirtual 658, 3) := dcU2 dO_182 (rdU2.ch sfx_cX12_message_128 46 rfl (by decide +kernel))
theorem dX12_message_177 : decode cX12_message 177 = .ok (.pop, 1) := dc0 dO_87 (rdB.ch sfx_cX12_message_128 49 rfl (by decide +kernel))
theorem dX12_message_178 : decode cX12_message 178 = .ok (.iconst 2, 1) := dc0 dO_5 (rdB.ch sfx_cX12_message_128 50 rfl (by decide +kernel))
theorem dX12_message_179 : decode cX12_message 179 = .ok (.iload_n 2, 1) := dc0 dO_28 (rdB.ch sfx_cX12_message_128 51 rfl (by decide +kernel))
theorem dX12_message_180 : decode cX12_message 180 = .ok (.iadd, 1) := dc0 dO_96 (rdB.ch sfx_cX12_message_128 52 rfl (by decide +kernel))
theorem dX12_message_181 : decode cX12_message 181 = .ok (.istore_n 3, 1) := dc0 dO_62 (rdB.ch sfx_cX12_message_128 53 rfl (by decide +kernel))
theorem dX12_message_182 : decode cX12_message 182 = .ok (.iload_n 3, 1) := dc0 dO_29 (rdB.ch sfx_cX12_message_128 54 rfl (by decide +kernel))
theorem dX12_message_183 : decode cX12_message 183 = .ok (.iconst 2, 1) := dc0 dO_5 (rdB.ch sfx_cX12_message_128 55 rfl (by decide +kernel))
theorem dX12_message_184 : decode cX12_message 184 = .ok (.iadd, 1) := dc0 dO_96 (rdB.ch sfx_cX12_message_128 56 rfl (by decide +kernel))
theorem dX12_message_185 : decode cX12_message 185 = .ok (.aload_n 0, 1) := dc0 dO_42 (rdB.ch sfx_cX12_message_128 57 rfl (by decide +kernel))
theorem dX12_message_186 : decode cX12_message 186 = .ok (.getfield 1, 3) := dcU2 dO_180 (rdU2.ch sfx_cX12_message_128 58 rfl (by decide +kernel))
theorem dX12_message_189 : decode cX12_message 189 = .ok (.if_icmp .gt 12, 3) := dcS2 dO_163 (rdS2.ch sfx_cX12_message_128 61 rfl (by decide +kernel))
theorem sfx_cX12_message_192 : (cX12_message.data.toList.drop 192).take 67 = [42, 29, 5, 182, 2, 111, 167, 0, 4, 3, 54, 4, 29, 5, 96, 42, 180, 0, 1, 163, 0, 16, 29, 5, 96, 21, 4, 96, 42, 180, 0, 1, 164, 0, 12, 42, 4, 29, 182, 2, 108, 167, 0, 70, 42, 29, 5, 96, 29, 5, 96, 21, 4, 96, 182, 2, 150, 42, 29, 5, 96, 21, 4, 96, 42, 180, 0] := by decide +kernel
theorem dX12_message_192 : decode cX12_message 192 = .ok (.aload_n 0, 1) := dc0 dO_42 (rdB.ch sfx_cX12_message_192 0 rfl (by decide +kernel))
theorem dX12_message_193 : decode cX12_message 193 = .ok (.iload_n 3, 1) := dc0 dO_29 (rdB.ch sfx_cX12_message_192 1 rfl (by decide +kernel))
theorem dX12_message_194 : decode cX12_message 194 = .ok (.iconst 2, 1) := dc0 dO_5 (rdB.ch sfx_cX12_message_192 2 rfl (by decide +kernel))
theorem dX12_message_195 : decode cX12_message 195 = .ok (.invokevirtual 623, 3) := dcU2 dO_182 (rdU2.ch sfx_cX12_message_192 3 rfl (by decide +kernel))
theorem dX12_message_198 : decode cX12_message 198 = .ok (.goto 4, 3) := dcS2 dO_167 (rdS2.ch sfx_cX12_message_192 6 rfl (by decide +kernel))
theorem dX12_message_201 : decode cX12_message 201 = .ok (.iconst 0, 1) := dc0 dO_3 (rdB.ch sfx_cX12_message_192 9 rfl (by decide +kernel))
theorem dX12_message_202 : decode cX12_message 202 = .ok (.istore 4, 2) := dcU1 dO_54 (rdU1.ch sfx_cX12_message_192 10 rfl (by decide +kernel))
theorem dX12_message_204 : decode cX12_message 204 = .ok (.iload_n 3, 1) := dc0 dO_29 (rdB.ch sfx_cX12_message_192 12 rfl (by decide +kernel))
theorem dX12_message_205 : decode cX12_message 205 = .ok (.iconst 2, 1) := dc0 dO_5 (rdB.ch sfx_cX12_message_192 13 rfl (by decide +kernel))
theorem dX12_message_206 : decode cX12_message 206 = .ok (.iadd, 1) := dc0 dO_96 (rdB.ch sfx_cX12_message_192 14 rfl (by decide +kernel))
theorem dX12_message_207 : decode cX12_message 207 = .ok (.aload_n 0, 1) := dc0 dO_42 (rdB.ch sfx_cX12_message_192 15 rfl (by decide +kernel))
theorem dX12_message_208 : decode cX12_message 208 = .ok (.getfield 1, 3) := dcU2 dO_180 (rdU2.ch sfx_cX12_message_192 16 rfl (by decide +kernel))
theorem dX12_message_211 : decode cX12_message 211 = .ok (.if_icmp .gt 16, 3) := dcS2 dO_163 (rdS2.ch sfx_cX12_message_192 19 rfl (by decide +kernel))
theorem dX12_message_214 : decode cX12_message 214 = .ok (.iload_n 3, 1) := dc0 dO_29 (rdB.ch sfx_cX12_message_192 22 rfl (by decide +kernel))
theorem dX12_message_215 : decode cX12_message 215 = .ok (.iconst 2, 1) := dc0 dO_5 (rdB.ch sfx_cX12_message_192 23 rfl (by decide +kernel))
theorem dX12_message_216 : decode cX12_message 216 = .ok (.iadd, 1) := dc0 dO_96 (rdB.ch sfx_cX12_message_192 24 rfl (by decide +kernel))
theorem dX12_message_217 : decode cX12_message 217 = .ok (.iload 4, 2) := dcU1 dO_21 (rdU1.ch sfx_cX12_message_192 25 rfl (by decide +kernel))
theorem dX12_message_219 : decode cX12_message 219 = .ok (.iadd, 1) := dc0 dO_96 (rdB.ch sfx_cX12_message_192 27 rfl (by decide +kernel))
theorem dX12_message_220 : decode cX12_message 220 = .ok (.aload_n 0, 1) := dc0 dO_42 (rdB.ch sfx_cX12_message_192 28 rfl (by decide +kernel))
theorem dX12_message_221 : decode cX12_message 221 = .ok (.getfield 1, 3) := dcU2 dO_180 (rdU2.ch sfx_cX12_message_192 29 rfl (by decide +kernel))
theorem dX12_message_224 : decode cX12_message 224 = .ok (.if_icmp .le 12, 3) := dcS2 dO_164 (rdS2.ch sfx_cX12_message_192 32 rfl (by decide +kernel))
theorem dX12_message_227 : decode cX12_message 227 = .ok (.aload_n 0, 1) := dc0 dO_42 (rdB.ch sfx_cX12_message_192 35 rfl (by decide +kernel))
theorem dX12_message_228 : decode cX12_message 228 = .ok (.iconst 1, 1) := dc0 dO_4 (rdB.ch sfx_cX12_message_192 36 rfl (by decide +kernel))
theorem dX12_message_229 : decode cX12_message 229 = .ok (.iload_n 3, 1) := dc0 dO_29 (rdB.ch sfx_cX12_message_192 37 rfl (by decide +kernel))
theorem dX12_message_230 : decode cX12_message 230 = .ok (.invokevirtual 620, 3) := dcU2 dO_182 (rdU2.ch sfx_cX12_message_192 38 rfl (by decide +kernel))
theorem dX12_message_233 : decode cX12_message 233 = .ok (.goto 70, 3) := dcS2 dO_167 (rdS2.ch sfx_cX12_message_192 41 rfl (by decide +kernel))
theorem dX12_message_236 : decode cX12_message 236 = .ok (.aload_n 0, 1) := dc0 dO_42 (rdB.ch sfx_cX12_message_192 44 rfl (by decide +kernel))
theorem dX12_message_237 : decode cX12_message 237 = .ok (.iload_n 3, 1) := dc0 dO_29 (rdB.ch sfx_cX12_message_192 45 rfl (by decide +kernel))
theorem dX12_message_238 : decode cX12_message 238 = .ok (.iconst 2, 1) := dc0 dO_5 (rdB.ch sfx_cX12_message_192 46 rfl (by decide +kernel))
theorem dX12_message_239 : decode cX12_message 239 = .ok (.iadd, 1) := dc0 dO_96 (rdB.ch sfx_cX12_message_192 47 rfl (by decide +kernel))
theorem dX12_message_240 : decode cX12_message 240 = .ok (.iload_n 3, 1) := dc0 dO_29 (rdB.ch sfx_cX12_message_192 48 rfl (by decide +kernel))
theorem dX12_message_241 : decode cX12_message 241 = .ok (.iconst 2, 1) := dc0 dO_5 (rdB.ch sfx_cX12_message_192 49 rfl (by decide +kernel))
theorem dX12_message_242 : decode cX12_message 242 = .ok (.iadd, 1) := dc0 dO_96 (rdB.ch sfx_cX12_message_192 50 rfl (by decide +kernel))
theorem dX12_message_243 : decode cX12_message 243 = .ok (.iload 4, 2) := dcU1 dO_21 (rdU1.ch sfx_cX12_message_192 51 rfl (by decide +kernel))
theorem dX12_message_245 : decode cX12_message 245 = .ok (.iadd, 1) := dc0 dO_96 (rdB.ch sfx_cX12_message_192 53 rfl (by decide +kernel))
theorem dX12_message_246 : decode cX12_message 246 = .ok (.invokevirtual 662, 3) := dcU2 dO_182 (rdU2.ch sfx_cX12_message_192 54 rfl (by decide +kernel))
theorem dX12_message_249 : decode cX12_message 249 = .ok (.aload_n 0, 1) := dc0 dO_42 (rdB.ch sfx_cX12_message_192 57 rfl (by decide +kernel))
theorem dX12_message_250 : decode cX12_message 250 = .ok (.iload_n 3, 1) := dc0 dO_29 (rdB.ch sfx_cX12_message_192 58 rfl (by decide +kernel))
theorem dX12_message_251 : decode cX12_message 251 = .ok (.iconst 2, 1) := dc0 dO_5 (rdB.ch sfx_cX12_message_192 59 rfl (by decide +kernel))
theorem dX12_message_252 : decode cX12_message 252 = .ok (.iadd, 1) := dc0 dO_96 (rdB.ch sfx_cX12_message_192 60 rfl (by decide +kernel))
theorem dX12_message_253 : decode cX12_message 253 = .ok (.iload 4, 2) := dcU1 dO_21 (rdU1.ch sfx_cX12_message_192 61 rfl (by decide +kernel))
theorem dX12_message_255 : decode cX12_message 255 = .ok (.iadd, 1) := dc0 dO_96 (rdB.ch sfx_cX12_message_192 63 rfl (by decide +kernel))
theorem sfx_cX12_message_256 : (cX12_message.data.toList.drop 256).take 67 = [42, 180, 0, 1, 3, 182, 2, 146, 87, 42, 180, 0, 1, 29, 5, 96, 21, 4, 96, 164, 0, 28, 42, 180, 2, 119, 153, 0, 10, 42, 180, 2, 122, 154, 0, 14, 42, 5, 29, 5, 96, 21, 4, 96, 182, 2, 108, 42, 3, 181, 0, 1, 42, 42, 180, 1, 222, 4, 46, 18, 29, 159, 0, 7, 4, 167, 0] := by decide +kernel
theorem dX12_message_256 : decode cX12_message 256 = .ok (.aload_n 0, 1) := dc0 dO_42 (rdB.ch sfx_cX12_message_256 0 rfl (by decide +kernel))
theorem dX12_message_257 : decode cX12_message 257 = .ok (.getfield 1, 3) := dcU2 dO_180 (rdU2.ch sfx_cX12_message_256 1 rfl (by decide +kernel))
theorem dX12_message_260 : decode cX12_message 260 = .ok (.iconst 0, 1) := dc0 dO_3 (rdB.ch sfx_cX12_message_256 4 rfl (by decide +kernel))
theorem dX12_message_261 : decode cX12_message 261 = .ok (.invokevirtual 658, 3) := dcU2 dO_182 (rdU2.ch sfx_cX12_message_256 5 rfl (by decide +kernel))
theorem dX12_message_264 : decode cX12_message 264 = .ok (.pop, 1) := dc0 dO_87 (rdB.ch sfx_cX12_message_256 8 rfl (by decide +kernel))
theorem dX12_message_265 : decode cX12_message 265 = .ok (.aload_n 0, 1) := dc0 dO_42 (rdB.ch sfx_cX12_message_256 9 rfl (by decide +kernel))
theorem dX12_message_266 : decode cX12_message 266 = .ok (.getfield 1, 3) := dcU2 dO_180 (rdU2.ch sfx_cX12_message_256 10 rfl (by decide +kernel))
theorem dX12_message_269 : decode cX12_message 269 = .ok (.iload_n 3, 1) := dc0 dO_29 (rdB.ch sfx_cX12_message_256 13 rfl (by decide +kernel))
theorem dX12_message_270 : decode cX12_message 270 = .ok (.iconst 2, 1) := dc0 dO_5 (rdB.ch sfx_cX12_message_256 14 rfl (by decide +kernel))
theorem dX12_message_271 : decode cX12_message 271 = .ok (.iadd, 1) := dc0 dO_96 (rdB.ch sfx_cX12_message_256 15 rfl (by decide +kernel))
theorem dX12_message_272 : decode cX12_message 272 = .ok (.iload 4, 2) := dcU1 dO_21 (rdU1.ch sfx_cX12_message_256 16 rfl (by decide +kernel))
theorem dX12_message_274 : decode cX12_message 274 = .ok (.iadd, 1) := dc0 dO_96 (rdB.ch sfx_cX12_message_256 18 rfl (by decide +kernel))
theorem dX12_message_275 : decode cX12_message 275 = .ok (.if_icmp .le 28, 3) := dcS2 dO_164 (rdS2.ch sfx_cX12_message_256 19 rfl (by decide +kernel))
theorem dX12_message_278 : decode cX12_message 278 = .ok (.aload_n 0, 1) := dc0 dO_42 (rdB.ch sfx_cX12_message_256 22 rfl (by decide +kernel))
theorem dX12_message_279 : decode cX12_message 279 = .ok (.getfield 631, 3) := dcU2 dO_180 (rdU2.ch sfx_cX12_message_256 23 rfl (by decide +kernel))
theorem dX12_message_282 : decode cX12_message 282 = .ok (.ifCond .eq 10, 3) := dcS2 dO_153 (rdS2.ch sfx_cX12_message_256 26 rfl (by decide +kernel))
theorem dX12_message_285 : decode cX12_message 285 = .ok (.aload_n 0, 1) := dc0 dO_42 (rdB.ch sfx_cX12_message_256 29 rfl (by decide +kernel))
theorem dX12_message_286 : decode cX12_message 286 = .ok (.getfield 634, 3) := dcU2 dO_180 (rdU2.ch sfx_cX12_message_256 30 rfl (by decide +kernel))
theorem dX12_message_289 : decode cX12_message 289 = .ok (.ifCond .ne 14, 3) := dcS2 dO_154 (rdS2.ch sfx_cX12_message_256 33 rfl (by decide +kernel))
theorem dX12_message_292 : decode cX12_message 292 = .ok (.aload_n 0, 1) := dc0 dO_42 (rdB.ch sfx_cX12_message_256 36 rfl (by decide +kernel))
theorem dX12_message_293 : decode cX12_message 293 = .ok (.iconst 2, 1) := dc0 dO_5 (rdB.ch sfx_cX12_message_256 37 rfl (by decide +kernel))
theorem dX12_message_294 : decode cX12_message 294 = .ok (.iload_n 3, 1) := dc0 dO_29 (rdB.ch sfx_cX12_message_256 38 rfl (by decide +kernel))
theorem dX12_message_295 : decode cX12_message 295 = .ok (.iconst 2, 1) := dc0 dO_5 (rdB.ch sfx_cX12_message_256 39 rfl (by decide +kernel))
theorem dX12_message_296 : decode cX12_message 296 = .ok (.iadd, 1) := dc0 dO_96 (rdB.ch sfx_cX12_message_256 40 rfl (by decide +kernel))
theorem dX12_message_297 : decode cX12_message 297 = .ok (.iload 4, 2) := dcU1 dO_21 (rdU1.ch sfx_cX12_message_256 41 rfl (by decide +kernel))
theorem dX12_message_299 : decode cX12_message 299 = .ok (.iadd, 1) := dc0 dO_96 (rdB.ch sfx_cX12_message_256 43 rfl (by decide +kernel))
theorem dX12_message_300 : decode cX12_message 300 = .ok (.invokevirtual 620, 3) := dcU2 dO_182 (rdU2.ch sfx_cX12_message_256 44 rfl (by decide +kernel))
theorem dX12_message_303 : decode cX12_message 303 = .ok (.aload_n 0, 1) := dc0 dO_42 (rdB.ch sfx_cX12_message_256 47 rfl (by decide +kernel))
theorem dX12_message_304 : decode cX12_message 304 = .ok (.iconst 0, 1) := dc0 dO_3 (rdB.ch sfx_cX12_message_256 48 rfl (by decide +kernel))
theorem dX12_message_305 : decode cX12_message 305 = .ok (.putfield 1, 3) := dcU2 dO_181 (rdU2.ch sfx_cX12_message_256 49 rfl (by decide +kernel))
theorem dX12_message_308 : decode cX12_message 308 = .ok (.aload_n 0, 1) := dc0 dO_42 (rdB.ch sfx_cX12_message_256 52 rfl (by decide +kernel))
theorem dX12_message_309 : decode cX12_message 309 = .ok (.aload_n 0, 1) := dc0 dO_42 (rdB.ch sfx_cX12_message_256 53 rfl (by decide +kernel))
theorem dX12_message_310 : decode cX12_message 310 = .ok (.getfield 478, 3) := dcU2 dO_180 (rdU2.ch sfx_cX12_message_256 54 rfl (by decide +kernel))
theorem dX12_message_313 : decode cX12_message 313 = .ok (.iconst 1, 1) := dc0 dO_4 (rdB.ch sfx_cX12_message_256 57 rfl (by decide +kernel))
theorem dX12_message_314 : decode cX12_message 314 = .ok (.iaload, 1) := dc0 dO_46 (rdB.ch sfx_cX12_message_256 58 rfl (by decide +kernel))
theorem dX12_message_315 : decode cX12_message 315 = .ok (.ldc 29, 2) := dcU1 dO_18 (rdU1.ch sfx_cX12_message_256 59 rfl (by decide +kernel))
theorem dX12_message_317 : decode cX12_message 317 = .ok (.if_icmp .eq 7, 3) := dcS2 dO_159 (rdS2.ch sfx_cX12_message_256 61 rfl (by decide +kernel))
theorem sfx_cX12_message_320 : (cX12_message.data.toList.drop 320).take 67 = [4, 167, 0, 4, 3, 181, 2, 153, 42, 180, 2, 153, 154, 0, 75, 42, 180, 1, 222, 5, 46, 18, 29, 159, 0, 64, 3, 62, 29, 42, 180, 2, 116, 162, 0, 49, 42, 180, 1, 204, 42, 180, 2, 113, 42, 180, 1, 210, 29, 46, 79, 42, 180, 1, 207, 42, 180, 2, 113, 42, 180, 1, 213, 29, 46, 79, 42] := by decide +kernel
theorem dX12_message_320 : decode cX12_message 320 = .ok (.iconst 1, 1) := dc0 dO_4 (rdB.ch sfx_cX12_message_320 0 rfl (by decide +kernel))
theorem dX12_message_321 : decode cX12_message 321 = .ok (.goto 4, 3) := dcS2 dO_167 (rdS2.ch sfx_cX12_message_320 1 rfl (by decide +kernel))
theorem dX12_message_324 : decode cX12_message 324 = .ok (.iconst 0, 1) := dc0 dO_3 (rdB.ch sfx_cX12_message_320 4 rfl (by decide +kernel))
theorem dX12_message_325 : decode cX12_message 325 = .ok (.putfield 665, 3) := dcU2 dO_181 (rdU2.ch sfx_cX12_message_320 5 rfl (by decide +kernel))
theorem dX12_message_328 : decode cX12_message 328 = .ok (.aload_n 0, 1) := dc0 dO_42 (rdB.ch sfx_cX12_message_320 8 rfl (by decide +kernel))
theorem dX12_message_329 : decode cX12_message 329 = .ok (.getfield 665, 3) := dcU2 dO_180 (rdU2.ch sfx_cX12_message_320 9 rfl (by decide +kernel))
theorem dX12_message_332 : decode cX12_message 332 = .ok (.ifCond .ne 75, 3) := dcS2 dO_154 (rdS2.ch sfx_cX12_message_320 12 rfl (by decide +kernel))
theorem dX12_message_335 : decode cX12_message 335 = .ok (.aload_n 0, 1) := dc0 dO_42 (rdB.ch sfx_cX12_message_320 15 rfl (by decide +kernel))
theorem dX12_message_336 : decode cX12_message 336 = .ok (.getfield 478, 3) := dcU2 dO_180 (rdU2.ch sfx_cX12_message_320 16 rfl (by decide +kernel))
theorem dX12_message_339 : decode cX12_message 339 = .ok (.iconst 2, 1) := dc0 dO_5 (rdB.ch sfx_cX12_message_320 19 rfl (by decide +kernel))
theorem dX12_message_340 : decode cX12_message 340 = .ok (.iaload, 1) := dc0 dO_46 (rdB.ch sfx_cX12_message_320 20 rfl (by decide +kernel))
theorem dX12_message_341 : decode cX12_message 341 = .ok (.ldc 29, 2) := dcU1 dO_18 (rdU1.ch sfx_cX12_message_320 21 rfl (by decide +kernel))
theorem dX12_message_343 : decode cX12_message 343 = .ok (.if_icmp .eq 64, 3) := dcS2 dO_159 (rdS2.ch sfx_cX12_message_320 23 rfl (by decide +kernel))
theorem dX12_message_346 : decode cX12_message 346 = .ok (.iconst 0, 1) := dc0 dO_3 (rdB.ch sfx_cX12_message_320 26 rfl (by decide +kernel))
theorem dX12_message_347 : decode cX12_message 347 = .ok (.istore_n 3, 1) := dc0 dO_62 (rdB.ch sfx_cX12_message_320 27 rfl (by decide +kernel))
theorem dX12_message_348 : decode cX12_message 348 = .ok (.iload_n 3, 1) := dc0 dO_29 (rdB.ch sfx_cX12_message_320 28 rfl (by decide +kernel))
theorem dX12_message_349 : decode cX12_message 349 = .ok (.aload_n 0, 1) := dc0 dO_42 (rdB.ch sfx_cX12_message_320 29 rfl (by decide +kernel))
theorem dX12_message_350 : decode cX12_message 350 = .ok (.getfield 628, 3) := dcU2 dO_180 (rdU2.ch sfx_cX12_message_320 30 rfl (by decide +kernel))
theorem dX12_message_353 : decode cX12_message 353 = .ok (.if_icmp .ge 49, 3) := dcS2 dO_162 (rdS2.ch sfx_cX12_message_320 33 rfl (by decide +kernel))
theorem dX12_message_356 : decode cX12_message 356 = .ok (.aload_n 0, 1) := dc0 dO_42 (rdB.ch sfx_cX12_message_320 36 rfl (by decide +kernel))
theorem dX12_message_357 : decode cX12_message 357 = .ok (.getfield 460, 3) := dcU2 dO_180 (rdU2.ch sfx_cX12_message_320 37 rfl (by decide +kernel))
theorem dX12_message_360 : decode cX12_message 360 = .ok (.aload_n 0, 1) := dc0 dO_42 (rdB.ch sfx_cX12_message_320 40 rfl (by decide +kernel))
theorem dX12_message_361 : decode cX12_message 361 = .ok (.getfield 625, 3) := dcU2 dO_180 (rdU2.ch sfx_cX12_message_320 41 rfl (by decide +kernel))
theorem dX12_message_364 : decode cX12_message 364 = .ok (.aload_n 0, 1) := dc0 dO_42 (rdB.ch sfx_cX12_message_320 44 rfl (by decide +kernel))
theorem dX12_message_365 : decode cX12_message 365 = .ok (.getfield 466, 3) := dcU2 dO_180 (rdU2.ch sfx_cX12_message_320 45 rfl (by decide +kernel))
theorem dX12_message_368 : decode cX12_message 368 = .ok (.iload_n 3, 1) := dc0 dO_29 (rdB.ch sfx_cX12_message_320 48 rfl (by decide +kernel))
theorem dX12_message_369 : decode cX12_message 369 = .ok (.iaload, 1) := dc0 dO_46 (rdB.ch sfx_cX12_message_320 49 rfl (by decide +kernel))
theorem dX12_message_370 : decode cX12_message 370 = .ok (.iastore, 1) := dc0 dO_79 (rdB.ch sfx_cX12_message_320 50 rfl (by decide +kernel))
theorem dX12_message_371 : decode cX12_message 371 = .ok (.aload_n 0, 1) := dc0 dO_42 (rdB.ch sfx_cX12_message_320 51 rfl (by decide +kernel))
theorem dX12_message_372 : decode cX12_message 372 = .ok (.getfield 463, 3) := dcU2 dO_180 (rdU2.ch sfx_cX12_message_320 52 rfl (by decide +kernel))
theorem dX12_message_375 : decode cX12_message 375 = .ok (.aload_n 0, 1) := dc0 dO_42 (rdB.ch sfx_cX12_message_320 55 rfl (by decide +kernel))
theorem dX12_message_376 : decode cX12_message 376 = .ok (.getfield 625, 3) := dcU2 dO_180 (rdU2.ch sfx_cX12_message_320 56 rfl (by decide +kernel))
theorem dX12_message_379 : decode cX12_message 379 = .ok (.aload_n 0, 1) := dc0 dO_42 (rdB.ch sfx_cX12_message_320 59 rfl (by decide +kernel))
theorem dX12_message_380 : decode cX12_message 380 = .ok (.getfield 469, 3) := dcU2 dO_180 (rdU2.ch sfx_cX12_message_320 60 rfl (by decide +kernel))
theorem dX12_message_383 : decode cX12_message 383 = .ok (.iload_n 3, 1) := dc0 dO_29 (rdB.ch sfx_cX12_message_320 63 rfl (by decide +kernel))
theorem sfx_cX12_message_384 : (cX12_message.data.toList.drop 384).take 67 = [46, 79, 42, 89, 180, 2, 113, 4, 96, 181, 2, 113, 132, 3, 1, 167, 255, 205, 42, 3, 181, 2, 116, 42, 42, 180, 1, 222, 4, 46, 18, 29, 159, 0, 7, 4, 167, 0, 34, 42, 180, 1, 222, 5, 46, 18, 29, 159, 0, 7, 5, 167, 0, 19, 42, 180, 1, 222, 6, 46, 18, 29, 159, 0, 7, 6, 167] := by decide +kernel
theorem dX12_message_384 : decode cX12_message 384 = .ok (.iaload, 1) := dc0 dO_46 (rdB.ch sfx_cX12_message_384 0 rfl (by decide +kernel))
theorem dX12_message_385 : decode cX12_message 385 = .ok (.iastore, 1) := dc0 dO_79 (rdB.ch sfx_cX12_message_384 1 rfl (by decide +kernel))
theorem dX12_message_386 : decode cX12_message 386 = .ok (.aload_n 0, 1) := dc0 dO_42 (rdB.ch sfx_cX12_message_384 2 rfl (by decide +kernel))
theorem dX12_message_387 : decode cX12_message 387 = .ok (.dup, 1) := dc0 dO_89 (rdB.ch sfx_cX12_message_384 3 rfl (by decide +kernel))
theorem dX12_message_388 : decode cX12_message 388 = .ok (.getfield 625, 3) := dcU2 dO_180 (rdU2.ch sfx_cX12_message_384 4 rfl (by decide +kernel))
theorem dX12_message_391 : decode cX12_message 391 = .ok (.iconst 1, 1) := dc0 dO_4 (rdB.ch sfx_cX12_message_384 7 rfl (by decide +kernel))
theorem dX12_message_392 : decode cX12_message 392 = .ok (.iadd, 1) := dc0 dO_96 (rdB.ch sfx_cX12_message_384 8 rfl (by decide +kernel))
theorem dX12_message_393 : decode cX12_message 393 = .ok (.putfield 625, 3) := dcU2 dO_181 (rdU2.ch sfx_cX12_message_384 9 rfl (by decide +kernel))
theorem dX12_message_396 : decode cX12_message 396 = .ok (.iinc 3 1, 3) := dcI dO_132 (rdI.ch sfx_cX12_message_384 12 rfl (by decide +kernel))
theorem dX12_message_399 : decode cX12_message 399 = .ok (.goto (-51), 3) := dcS2 dO_167 (rdS2.ch sfx_cX12_message_384 15 rfl (by decide +kernel))
theorem dX12_message_402 : decode cX12_message 402 = .ok (.aload_n 0, 1) := dc0 dO_42 (rdB.ch sfx_cX12_message_384 18 rfl (by decide +kernel))
theorem dX12_message_403 : decode cX12_message 403 = .ok (.iconst 0, 1) := dc0 dO_3 (rdB.ch sfx_cX12_message_384 19 rfl (by decide +kernel))
theorem dX12_message_404 : decode cX12_message 404 = .ok (.putfield 628, 3) := dcU2 dO_181 (rdU2.ch sfx_cX12_message_384 20 rfl (by decide +kernel))
theorem dX12_message_407 : decode cX12_message 407 = .ok (.aload_n 0, 1) := dc0 dO_42 (rdB.ch sfx_cX12_message_384 23 rfl (by decide +kernel))
theorem dX12_message_408 : decode cX12_message 408 = .ok (.aload_n 0, 1) := dc0 dO_42 (rdB.ch sfx_cX12_message_384 24 rfl (by decide +kernel))
theorem dX12_message_409 : decode cX12_message 409 = .ok (.getfield 478, 3) := dcU2 dO_180 (rdU2.ch sfx_cX12_message_384 25 rfl (by decide +kernel))
theorem dX12_message_412 : decode cX12_message 412 = .ok (.iconst 1, 1) := dc0 dO_4 (rdB.ch sfx_cX12_message_384 28 rfl (by decide +kernel))
theorem dX12_message_413 : decode cX12_message 413 = .ok (.iaload, 1) := dc0 dO_46 (rdB.ch sfx_cX12_message_384 29 rfl (by decide +kernel))
theorem dX12_message_414 : decode cX12_message 414 = .ok (.ldc 29, 2) := dcU1 dO_18 (rdU1.ch sfx_cX12_message_384 30 rfl (by decide +kernel))
theorem dX12_message_416 : decode cX12_message 416 = .ok (.if_icmp .eq 7, 3) := dcS2 dO_159 (rdS2.ch sfx_cX12_message_384 32 rfl (by decide +kernel))
theorem dX12_message_419 : decode cX12_message 419 = .ok (.iconst 1, 1) := dc0 dO_4 (rdB.ch sfx_cX12_message_384 35 rfl (by decide +kernel))
theorem dX12_message_420 : decode cX12_message 420 = .ok (.goto 34, 3) := dcS2 dO_167 (rdS2.ch sfx_cX12_message_384 36 rfl (by decide +kernel))
theorem dX12_message_423 : decode cX12_message 423 = .ok (.aload_n 0, 1) := dc0 dO_42 (rdB.ch sfx_cX12_message_384 39 rfl (by decide +kernel))
theorem dX12_message_424 : decode cX12_message 424 = .ok (.getfield 478, 3) := dcU2 dO_180 (rdU2.ch sfx_cX12_message_384 40 rfl (by decide +kernel))
theorem dX12_message_427 : decode cX12_message 427 = .ok (.iconst 2, 1) := dc0 dO_5 (rdB.ch sfx_cX12_message_384 43 rfl (by decide +kernel))
theorem dX12_message_428 : decode cX12_message 428 = .ok (.iaload, 1) := dc0 dO_46 (rdB.ch sfx_cX12_message_384 44 rfl (by decide +kernel))
theorem dX12_message_429 : decode cX12_message 429 = .ok (.ldc 29, 2) := dcU1 dO_18 (rdU1.ch sfx_cX12_message_384 45 rfl (by decide +kernel))
theorem dX12_message_431 : decode cX12_message 431 = .ok (.if_icmp .eq 7, 3) := dcS2 dO_159 (rdS2.ch sfx_cX12_message_384 47 rfl (by decide +kernel))
theorem dX12_message_434 : decode cX12_message 434 = .ok (.iconst 2, 1) := dc0 dO_5 (rdB.ch sfx_cX12_message_384 50 rfl (by decide +kernel))
theorem dX12_message_435 : decode cX12_message 435 = .ok (.goto 19, 3) := dcS2 dO_167 (rdS2.ch sfx_cX12_message_384 51 rfl (by decide +kernel))
theorem dX12_message_438 : decode cX12_message 438 = .ok (.aload_n 0, 1) := dc0 dO_42 (rdB.ch sfx_cX12_message_384 54 rfl (by decide +kernel))
theorem dX12_message_439 : decode cX12_message 439 = .ok (.getfield 478, 3) := dcU2 dO_180 (rdU2.ch sfx_cX12_message_384 55 rfl (by decide +kernel))
theorem dX12_message_442 : decode cX12_message 442 = .ok (.iconst 3, 1) := dc0 dO_6 (rdB.ch sfx_cX12_message_384 58 rfl (by decide +kernel))
theorem dX12_message_443 : decode cX12_message 443 = .ok (.iaload, 1) := dc0 dO_46 (rdB.ch sfx_cX12_message_384 59 rfl (by decide +kernel))
theorem dX12_message_444 : decode cX12_message 444 = .ok (.ldc 29, 2) := dcU1 dO_18 (rdU1.ch sfx_cX12_message_384 60 rfl (by decide +kernel))
theorem dX12_message_446 : decode cX12_message 446 = .ok (.if_icmp .eq 7, 3) := dcS2 dO_159 (rdS2.ch sfx_cX12_message_384 62 rfl (by decide +kernel))
theorem sfx_cX12_message_448 : (cX12_message.data.toList.drop 448).take 67 = [7, 6, 167, 0, 4, 3, 181, 2, 156, 42, 180, 2, 156, 172] := by decide +kernel
theorem dX12_message_449 : decode cX12_message 449 = .ok (.iconst 3, 1) := dc0 dO_6 (rdB.ch sfx_cX12_message_448 1 rfl (by decide +kernel))
theorem dX12_message_450 : decode cX12_message 450 = .ok (.goto 4, 3) := dcS2 dO_167 (rdS2.ch sfx_cX12_message_448 2 rfl (by decide +kernel))
theorem dX12_message_453 : decode cX12_message 453 = .ok (.iconst 0, 1) := dc0 dO_3 (rdB.ch sfx_cX12_message_448 5 rfl (by decide +kernel))
theorem dX12_message_454 : decode cX12_message 454 = .ok (.putfield 668, 3) := dcU2 dO_181 (rdU2.ch sfx_cX12_message_448 6 rfl (by decide +kernel))
theorem dX12_message_457 : decode cX12_message 457 = .ok (.aload_n 0, 1) := dc0 dO_42 (rdB.ch sfx_cX12_message_448 9 rfl (by decide +kernel))
theorem dX12_message_458 : decode cX12_message 458 = .ok (.getfield 668, 3) := dcU2 dO_180 (rdU2.ch sfx_cX12_message_448 10 rfl (by decide +kernel))
theorem dX12_message_461 : decode cX12_message 461 = .ok (.ireturn, 1) := dc0 dO_172 (rdB.ch sfx_cX12_message_448 13 rfl (by decide +kernel))
theorem dX12_wayRight_0 : decode cX12_wayRight 0 = .ok (.iload_n 1, 1) := dc0 dO_27 (by decide +kernel)
theorem dX12_wayRight_1 : decode cX12_wayRight 1 = .ok (.istore_n 3, 1) := dc0 dO_62 (by decide +kernel)
theorem dX12_wayRight_2 : decode cX12_wayRight 2 = .ok (.iconst 0, 1) := dc0 dO_3 (by decide +kernel)
theorem dX12_wayRight_3 : decode cX12_wayRight 3 = .ok (.istore 4, 2) := dcU1 dO_54 (by decide +kernel)
theorem dX12_wayRight_5 : decode cX12_wayRight 5 = .ok (.iload_n 3, 1) := dc0 dO_29 (by decide +kernel)
theorem dX12_wayRight_6 : decode cX12_wayRight 6 = .ok (.iload_n 1, 1) := dc0 dO_27 (by decide +kernel)
theorem dX12_wayRight_7 : decode cX12_wayRight 7 = .ok (.iload_n 2, 1) := dc0 dO_28 (by decide +kernel)
theorem dX12_wayRight_8 : decode cX12_wayRight 8 = .ok (.iadd, 1) := dc0 dO_96 (by decide +kernel)
theorem dX12_wayRight_9 : decode cX12_wayRight 9 = .ok (.if_icmp .ge 85, 3) := dcS2 dO_162 (by decide +kernel)
theorem dX12_wayRight_12 : decode cX12_wayRight 12 = .ok (.iload_n 3, 1) := dc0 dO_29 (by decide +kernel)
theorem dX12_wayRight_13 : decode cX12_wayRight 13 = .ok (.iconst 2, 1) := dc0 dO_5 (by decide +kernel)
theorem dX12_wayRight_14 : decode cX12_wayRight 14 = .ok (.iadd, 1) := dc0 dO_96 (by decide +kernel)
theorem dX12_wayRight_15 : decode cX12_wayRight 15 = .ok (.iload_n 1, 1) := dc0 dO_27 (by decide +kernel)
theorem dX12_wayRight_16 : decode cX12_wayRight 16 = .ok (.iload_n 2, 1) := dc0 dO_28 (by decide +kernel)
theorem dX12_wayRight_17 : decode cX12_wayRight 17 = .ok (.iadd, 1) := dc0 dO_96 (by decide +kernel)
theorem dX12_wayRight_18 : decode cX12_wayRight 18 = .ok (.if_icmp .gt 45, 3) := dcS2 dO_163 (by decide +kernel)
theorem dX12_wayRight_21 : decode cX12_wayRight 21 = .ok (.aload_n 0, 1) := dc0 dO_42 (by decide +kernel)
theorem dX12_wayRight_22 : decode cX12_wayRight 22 = .ok (.iload_n 3, 1) := dc0 dO_29 (by decide +kernel)
theorem dX12_wayRight_23 : decode cX12_wayRight 23 = .ok (.invokevirtual 227, 3) := dcU2 dO_182 (by decide +kernel)
theorem dX12_wayRight_26 : decode cX12_wayRight 26 = .ok (.iconst 1, 1) := dc0 dO_4 (by decide +kernel)
theorem dX12_wayRight_27 : decode cX12_wayRight 27 = .ok (.iconst 2, 1) := dc0 dO_5 (by decide +kernel)
theorem dX12_wayRight_28 : decode cX12_wayRight 28 = .ok (.invokestatic 18, 3) := dcU2 dO_184 (by decide +kernel)
theorem dX12_wayRight_31 : decode cX12_wayRight 31 = .ok (.ifCond .eq 32, 3) := dcS2 dO_153 (by decide +kernel)
theorem dX12_wayRight_34 : decode cX12_wayRight 34 = .ok (.aload_n 0, 1) := dc0 dO_42 (by decide +kernel)
theorem dX12_wayRight_35 : decode cX12_wayRight 35 = .ok (.iload_n 3, 1) := dc0 dO_29 (by decide +kernel)
theorem dX12_wayRight_36 : decode cX12_wayRight 36 = .ok (.iconst 1, 1) := dc0 dO_4 (by decide +kernel)
theorem dX12_wayRight_37 : decode cX12_wayRight 37 = .ok (.iadd, 1) := dc0 dO_96 (by decide +kernel)
theorem dX12_wayRight_38 : decode cX12_wayRight 38 = .ok (.invokevirtual 227, 3) := dcU2 dO_182 (by decide +kernel)
theorem dX12_wayRight_41 : decode cX12_wayRight 41 = .ok (.ifCond .eq 22, 3) := dcS2 dO_153 (by decide +kernel)
theorem dX12_wayRight_44 : decode cX12_wayRight 44 = .ok (.iload_n 3, 1) := dc0 dO_29 (by decide +kernel)
theorem dX12_wayRight_45 : decode cX12_wayRight 45 = .ok (.iconst 2, 1) := dc0 dO_5 (by decide +kernel)
theorem dX12_wayRight_46 : decode cX12_wayRight 46 = .ok (.iadd, 1) := dc0 dO_96 (by decide +kernel)
theorem dX12_wayRight_47 : decode cX12_wayRight 47 = .ok (.iconst 4, 1) := dc0 dO_7 (by decide +kernel)
theorem dX12_wayRight_48 : decode cX12_wayRight 48 = .ok (.aload_n 0, 1) := dc0 dO_42 (by decide +kernel)
theorem dX12_wayRight_49 : decode cX12_wayRight 49 = .ok (.iload_n 3, 1) := dc0 dO_29 (by decide +kernel)
theorem dX12_wayRight_50 : decode cX12_wayRight 50 = .ok (.iconst 1, 1) := dc0 dO_4 (by decide +kernel)
theorem dX12_wayRight_51 : decode cX12_wayRight 51 = .ok (.iadd, 1) := dc0 dO_96 (by decide +kernel)
theorem dX12_wayRight_52 : decode cX12_wayRight 52 = .ok (.invokevirtual 227, 3) := dcU2 dO_182 (by decide +kernel)
theorem dX12_wayRight_55 : decode cX12_wayRight 55 = .ok (.imul, 1) := dc0 dO_104 (by decide +kernel)
theorem dX12_wayRight_56 : decode cX12_wayRight 56 = .ok (.iadd, 1) := dc0 dO_96 (by decide +kernel)
theorem dX12_wayRight_57 : decode cX12_wayRight 57 = .ok (.iload_n 1, 1) := dc0 dO_27 (by decide +kernel)
theorem dX12_wayRight_58 : decode cX12_wayRight 58 = .ok (.iload_n 2, 1) := dc0 dO_28 (by decide +kernel)
theorem dX12_wayRight_59 : decode cX12_wayRight 59 = .ok (.iadd, 1) := dc0 dO_96 (by decide +kernel)
theorem dX12_wayRight_60 : decode cX12_wayRight 60 = .ok (.if_icmp .le 5, 3) := dcS2 dO_164 (by decide +kernel)
theorem dX12_wayRight_63 : decode cX12_wayRight 63 = .ok (.iconst 0, 1) := dc0 dO_3 (by decide +kernel)
theorem dX12_wayRight_64 : decode cX12_wayRight 64 = .ok (.ireturn, 1) := dc0 dO_172 (by decide +kernel)
theorem dX12_wayRight_65 : decode cX12_wayRight 65 = .ok (.iload 4, 2) := dcU1 dO_21 (by decide +kernel)
theorem dX12_wayRight_67 : decode cX12_wayRight 67 = .ok (.aload_n 0, 1) := dc0 dO_42 (by decide +kernel)
theorem dX12_wayRight_68 : decode cX12_wayRight 68 = .ok (.iload_n 3, 1) := dc0 dO_29 (by decide +kernel)
theorem dX12_wayRight_69 : decode cX12_wayRight 69 = .ok (.iconst 1, 1) := dc0 dO_4 (by decide +kernel)
theorem dX12_wayRight_70 : decode cX12_wayRight 70 = .ok (.iadd, 1) := dc0 dO_96 (by decide +kernel)
theorem dX12_wayRight_71 : decode cX12_wayRight 71 = .ok (.invokevirtual 227, 3) := dcU2 dO_182 (by decide +kernel)
theorem dX12_wayRight_74 : decode cX12_wayRight 74 = .ok (.iadd, 1) := dc0 dO_96 (by decide +kernel)
theorem dX12_wayRight_75 : decode cX12_wayRight 75 = .ok (.istore 4, 2) := dcU1 dO_54 (by decide +kernel)
theorem dX12_wayRight_77 : decode cX12_wayRight 77 = .ok (.iload_n 3, 1) := dc0 dO_29 (by decide +kernel)
theorem dX12_wayRight_78 : decode cX12_wayRight 78 = .ok (.iconst 2, 1) := dc0 dO_5 (by decide +kernel)
theorem dX12_wayRight_79 : decode cX12_wayRight 79 = .ok (.iconst 4, 1) := dc0 dO_7 (by decide +kernel)
theorem dX12_wayRight_80 : decode cX12_wayRight 80 = .ok (.aload_n 0, 1) := dc0 dO_42 (by decide +kernel)
theorem dX12_wayRight_81 : decode cX12_wayRight 81 = .ok (.iload_n 3, 1) := dc0 dO_29 (by decide +kernel)
theorem dX12_wayRight_82 : decode cX12_wayRight 82 = .ok (.iconst 1, 1) := dc0 dO_4 (by decide +kernel)
theorem dX12_wayRight_83 : decode cX12_wayRight 83 = .ok (.iadd, 1) := dc0 dO_96 (by decide +kernel)
theorem dX12_wayRight_84 : decode cX12_wayRight 84 = .ok (.invokevirtual 227, 3) := dcU2 dO_182 (by decide +kernel)
theorem dX12_wayRight_87 : decode cX12_wayRight 87 = .ok (.imul, 1) := dc0 dO_104 (by decide +kernel)
theorem dX12_wayRight_88 : decode cX12_wayRight 88 = .ok (.iadd, 1) := dc0 dO_96 (by decide +kernel)
theorem dX12_wayRight_89 : decode cX12_wayRight 89 = .ok (.iadd, 1) := dc0 dO_96 (by decide +kernel)
theorem dX12_wayRight_90 : decode cX12_wayRight 90 = .ok (.istore_n 3, 1) := dc0 dO_62 (by decide +kernel)
theorem dX12_wayRight_91 : decode cX12_wayRight 91 = .ok (.goto (-86), 3) := dcS2 dO_167 (by decide +kernel)
theorem dX12_wayRight_94 : decode cX12_wayRight 94 = .ok (.iload 4, 2) := dcU1 dO_21 (by decide +kernel)
theorem dX12_wayRight_96 : decode cX12_wayRight 96 = .ok (.bipush 20, 2) := dcS1 dO_16 (by decide +kernel)
theorem dX12_wayRight_98 : decode cX12_wayRight 98 = .ok (.if_icmp .le 5, 3) := dcS2 dO_164 (by decide +kernel)
theorem dX12_wayRight_101 : decode cX12_wayRight 101 = .ok (.iconst 0, 1) := dc0 dO_3 (by decide +kernel)
theorem dX12_wayRight_102 : decode cX12_wayRight 102 = .ok (.ireturn, 1) := dc0 dO_172 (by decide +kernel)
theorem dX12_wayRight_103 : decode cX12_wayRight 103 = .ok (.iload_n 1, 1) := dc0 dO_27 (by decide +kernel)
theorem dX12_wayRight_104 : decode cX12_wayRight 104 = .ok (.istore_n 3, 1) := dc0 dO_62 (by decide +kernel)
theorem dX12_wayRight_105 : decode cX12_wayRight 105 = .ok (.sipush 966, 3) := dcS2 dO_17 (by decide +kernel)
theorem dX12_wayRight_108 : decode cX12_wayRight 108 = .ok (.istore 5, 2) := dcU1 dO_54 (by decide +kernel)
theorem dX12_wayRight_110 : decode cX12_wayRight 110 = .ok (.iload_n 3, 1) := dc0 dO_29 (by decide +kernel)
theorem dX12_wayRight_111 : decode cX12_wayRight 111 = .ok (.iload_n 1, 1) := dc0 dO_27 (by decide +kernel)
theorem dX12_wayRight_112 : decode cX12_wayRight 112 = .ok (.iload_n 2, 1) := dc0 dO_28 (by decide +kernel)
theorem dX12_wayRight_113 : decode cX12_wayRight 113 = .ok (.iadd, 1) := dc0 dO_96 (by decide +kernel)
theorem dX12_wayRight_114 : decode cX12_wayRight 114 = .ok (.if_icmp .ge 130, 3) := dcS2 dO_162 (by decide +kernel)
theorem dX12_wayRight_117 : decode cX12_wayRight 117 = .ok (.aload_n 0, 1) := dc0 dO_42 (by decide +kernel)
theorem dX12_wayRight_118 : decode cX12_wayRight 118 = .ok (.iload_n 3, 1) := dc0 dO_29 (by decide +kernel)
theorem dX12_wayRight_119 : decode cX12_wayRight 119 = .ok (.iconst 1, 1) := dc0 dO_4 (by decide +kernel)
theorem dX12_wayRight_120 : decode cX12_wayRight 120 = .ok (.iadd, 1) := dc0 dO_96 (by decide +kernel)
theorem dX12_wayRight_121 : decode cX12_wayRight 121 = .ok (.invokevirtual 227, 3) := dcU2 dO_182 (by decide +kernel)
theorem dX12_wayRight_124 : decode cX12_wayRight 124 = .ok (.istore 6, 2) := dcU1 dO_54 (by decide +kernel)
theorem dX12_wayRight_126 : decode cX12_wayRight 126 = .ok (.iload 5, 2) := dcU1 dO_21 (by decide +kernel)
theorem sfx_cX12_wayRight_128 : (cX12_wayRight.data.toList.drop 128).take 67 = [54, 7, 3, 54, 8, 21, 8, 21, 6, 162, 0, 95, 42, 29, 5, 96, 7, 21, 8, 104, 96, 7, 182, 2, 111, 54, 9, 21, 5, 54, 10, 42, 29, 182, 0, 227, 4, 160, 0, 49, 21, 10, 21, 7, 164, 0, 42, 21, 9, 42, 180, 0, 148, 21, 10, 4, 100, 46, 184, 2, 66, 153, 0, 25, 42, 180, 0] := by decide +kernel
theorem dX12_wayRight_128 : decode cX12_wayRight 128 = .ok (.istore 7, 2) := dcU1 dO_54 (rdU1.ch sfx_cX12_wayRight_128 0 rfl (by decide +kernel))
theorem dX12_wayRight_130 : decode cX12_wayRight 130 = .ok (.iconst 0, 1) := dc0 dO_3 (rdB.ch sfx_cX12_wayRight_128 2 rfl (by decide +kernel))
theorem dX12_wayRight_131 : decode cX12_wayRight 131 = .ok (.istore 8, 2) := dcU1 dO_54 (rdU1.ch sfx_cX12_wayRight_128 3 rfl (by decide +kernel))
theorem dX12_wayRight_133 : decode cX12_wayRight 133 = .ok (.iload 8, 2) := dcU1 dO_21 (rdU1.ch sfx_cX12_wayRight_128 5 rfl (by decide +kernel))
theorem dX12_wayRight_135 : decode cX12_wayRight 135 = .ok (.iload 6, 2) := dcU1 dO_21 (rdU1.ch sfx_cX12_wayRight_128 7 rfl (by decide +kernel))
theorem dX12_wayRight_137 : decode cX12_wayRight 137 = .ok (.if_icmp .ge 95, 3) := dcS2 dO_162 (rdS2.ch sfx_cX12_wayRight_128 9 rfl (by decide +kernel))
theorem dX12_wayRight_140 : decode cX12_wayRight 140 = .ok (.aload_n 0, 1) := dc0 dO_42 (rdB.ch sfx_cX12_wayRight_128 12 rfl (by decide +kernel))
theorem dX12_wayRight_141 : decode cX12_wayRight 141 = .ok (.iload_n 3, 1) := dc0 dO_29 (rdB.ch sfx_cX12_wayRight_128 13 rfl (by decide +kernel))
theorem dX12_wayRight_142 : decode cX12_wayRight 142 = .ok (.iconst 2, 1) := dc0 dO_5 (rdB.ch sfx_cX12_wayRight_128 14 rfl (by decide +kernel))
theorem dX12_wayRight_143 : decode cX12_wayRight 143 = .ok (.iadd, 1) := dc0 dO_96 (rdB.ch sfx_cX12_wayRight_128 15 rfl (by decide +kernel))
theorem dX12_wayRight_144 : decode cX12_wayRight 144 = .ok (.iconst 4, 1) := dc0 dO_7 (rdB.ch sfx_cX12_wayRight_128 16 rfl (by decide +kernel))
theorem dX12_wayRight_145 : decode cX12_wayRight 145 = .ok (.iload 8, 2) := dcU1 dO_21 (rdU1.ch sfx_cX12_wayRight_128 17 rfl (by decide +kernel))
theorem dX12_wayRight_147 : decode cX12_wayRight 147 = .ok (.imul, 1) := dc0 dO_104 (rdB.ch sfx_cX12_wayRight_128 19 rfl (by decide +kernel))
theorem dX12_wayRight_148 : decode cX12_wayRight 148 = .ok (.iadd, 1) := dc0 dO_96 (rdB.ch sfx_cX12_wayRight_128 20 rfl (by decide +kernel))
theorem dX12_wayRight_149 : decode cX12_wayRight 149 = .ok (.iconst 4, 1) := dc0 dO_7 (rdB.ch sfx_cX12_wayRight_128 21 rfl (by decide +kernel))
theorem dX12_wayRight_150 : decode cX12_wayRight 150 = .ok (.invokevirtual 623, 3) := dcU2 dO_182 (rdU2.ch sfx_cX12_wayRight_128 22 rfl (by decide +kernel))
theorem dX12_wayRight_153 : decode cX12_wayRight 153 = .ok (.istore 9, 2) := dcU1 dO_54 (rdU1.ch sfx_cX12_wayRight_128 25 rfl (by decide +kernel))
theorem dX12_wayRight_155 : decode cX12_wayRight 155 = .ok (.iload 5, 2) := dcU1 dO_21 (rdU1.ch sfx_cX12_wayRight_128 27 rfl (by decide +kernel))
theorem dX12_wayRight_157 : decode cX12_wayRight 157 = .ok (.istore 10, 2) := dcU1 dO_54 (rdU1.ch sfx_cX12_wayRight_128 29 rfl (by decide +kernel))
theorem dX12_wayRight_159 : decode cX12_wayRight 159 = .ok (.aload_n 0, 1) := dc0 dO_42 (rdB.ch sfx_cX12_wayRight_128 31 rfl (by decide +kernel))
theorem dX12_wayRight_160 : decode cX12_wayRight 160 = .ok (.iload_n 3, 1) := dc0 dO_29 (rdB.ch sfx_cX12_wayRight_128 32 rfl (by decide +kernel))
theorem dX12_wayRight_161 : decode cX12_wayRight 161 = .ok (.invokevirtual 227, 3) := dcU2 dO_182 (rdU2.ch sfx_cX12_wayRight_128 33 rfl (by decide +kernel))
theorem dX12_wayRight_164 : decode cX12_wayRight 164 = .ok (.iconst 1, 1) := dc0 dO_4 (rdB.ch sfx_cX12_wayRight_128 36 rfl (by decide +kernel))
theorem dX12_wayRight_165 : decode cX12_wayRight 165 = .ok (.if_icmp .ne 49, 3) := dcS2 dO_160 (rdS2.ch sfx_cX12_wayRight_128 37 rfl (by decide +kernel))
theorem dX12_wayRight_168 : decode cX12_wayRight 168 = .ok (.iload 10, 2) := dcU1 dO_21 (rdU1.ch sfx_cX12_wayRight_128 40 rfl (by decide +kernel))
theorem dX12_wayRight_170 : decode cX12_wayRight 170 = .ok (.iload 7, 2) := dcU1 dO_21 (rdU1.ch sfx_cX12_wayRight_128 42 rfl (by decide +kernel))
theorem dX12_wayRight_172 : decode cX12_wayRight 172 = .ok (.if_icmp .le 42, 3) := dcS2 dO_164 (rdS2.ch sfx_cX12_wayRight_128 44 rfl (by decide +kernel))
theorem dX12_wayRight_175 : decode cX12_wayRight 175 = .ok (.iload 9, 2) := dcU1 dO_21 (rdU1.ch sfx_cX12_wayRight_128 47 rfl (by decide +kernel))
theorem dX12_wayRight_177 : decode cX12_wayRight 177 = .ok (.aload_n 0, 1) := dc0 dO_42 (rdB.ch sfx_cX12_wayRight_128 49 rfl (by decide +kernel))
theorem dX12_wayRight_178 : decode cX12_wayRight 178 = .ok (.getfield 148, 3) := dcU2 dO_180 (rdU2.ch sfx_cX12_wayRight_128 50 rfl (by decide +kernel))
theorem dX12_wayRight_181 : decode cX12_wayRight 181 = .ok (.iload 10, 2) := dcU1 dO_21 (rdU1.ch sfx_cX12_wayRight_128 53 rfl (by decide +kernel))
theorem dX12_wayRight_183 : decode cX12_wayRight 183 = .ok (.iconst 1, 1) := dc0 dO_4 (rdB.ch sfx_cX12_wayRight_128 55 rfl (by decide +kernel))
theorem dX12_wayRight_184 : decode cX12_wayRight 184 = .ok (.isub, 1) := dc0 dO_100 (rdB.ch sfx_cX12_wayRight_128 56 rfl (by decide +kernel))
theorem dX12_wayRight_185 : decode cX12_wayRight 185 = .ok (.iaload, 1) := dc0 dO_46 (rdB.ch sfx_cX12_wayRight_128 57 rfl (by decide +kernel))
theorem dX12_wayRight_186 : decode cX12_wayRight 186 = .ok (.invokestatic 578, 3) := dcU2 dO_184 (rdU2.ch sfx_cX12_wayRight_128 58 rfl (by decide +kernel))
theorem dX12_wayRight_189 : decode cX12_wayRight 189 = .ok (.ifCond .eq 25, 3) := dcS2 dO_153 (rdS2.ch sfx_cX12_wayRight_128 61 rfl (by decide +kernel))
theorem sfx_cX12_wayRight_192 : (cX12_wayRight.data.toList.drop 192).take 67 = [42, 180, 0, 148, 21, 10, 42, 180, 0, 148, 21, 10, 4, 100, 46, 79, 132, 10, 255, 167, 255, 204, 42, 180, 0, 148, 21, 10, 21, 9, 79, 132, 5, 1, 132, 8, 1, 167, 255, 160, 29, 5, 7, 21, 6, 104, 96, 96, 62, 167, 255, 125, 42, 180, 0, 148, 17, 3, 196, 21, 4, 79, 42, 4, 181, 2, 122] := by decide +kernel
theorem dX12_wayRight_192 : decode cX12_wayRight 192 = .ok (.aload_n 0, 1) := dc0 dO_42 (rdB.ch sfx_cX12_wayRight_192 0 rfl (by decide +kernel))
theorem dX12_wayRight_193 : decode cX12_wayRight 193 = .ok (.getfield 148, 3) := dcU2 dO_180 (rdU2.ch sfx_cX12_wayRight_192 1 rfl (by decide +kernel))
theorem dX12_wayRight_196 : decode cX12_wayRight 196 = .ok (.iload 10, 2) := dcU1 dO_21 (rdU1.ch sfx_cX12_wayRight_192 4 rfl (by decide +kernel))
theorem dX12_wayRight_198 : decode cX12_wayRight 198 = .ok (.aload_n 0, 1) := dc0 dO_42 (rdB.ch sfx_cX12_wayRight_192 6 rfl (by decide +kernel))
theorem dX12_wayRight_199 : decode cX12_wayRight 199 = .ok (.getfield 148, 3) := dcU2 dO_180 (rdU2.ch sfx_cX12_wayRight_192 7 rfl (by decide +kernel))
theorem dX12_wayRight_202 : decode cX12_wayRight 202 = .ok (.iload 10, 2) := dcU1 dO_21 (rdU1.ch sfx_cX12_wayRight_192 10 rfl (by decide +kernel))
theorem dX12_wayRight_204 : decode cX12_wayRight 204 = .ok (.iconst 1, 1) := dc0 dO_4 (rdB.ch sfx_cX12_wayRight_192 12 rfl (by decide +kernel))
theorem dX12_wayRight_205 : decode cX12_wayRight 205 = .ok (.isub, 1) := dc0 dO_100 (rdB.ch sfx_cX12_wayRight_192 13 rfl (by decide +kernel))
theorem dX12_wayRight_206 : decode cX12_wayRight 206 = .ok (.iaload, 1) := dc0 dO_46 (rdB.ch sfx_cX12_wayRight_192 14 rfl (by decide +kernel))
theorem dX12_wayRight_207 : decode cX12_wayRight 207 = .ok (.iastore, 1) := dc0 dO_79 (rdB.ch sfx_cX12_wayRight_192 15 rfl (by decide +kernel))
theorem dX12_wayRight_208 : decode cX12_wayRight 208 = .ok (.iinc 10 (-1), 3) := dcI dO_132 (rdI.ch sfx_cX12_wayRight_192 16 rfl (by decide +kernel))
theorem dX12_wayRight_211 : decode cX12_wayRight 211 = .ok (.goto (-52), 3) := dcS2 dO_167 (rdS2.ch sfx_cX12_wayRight_192 19 rfl (by decide +kernel))
theorem dX12_wayRight_214 : decode cX12_wayRight 214 = .ok (.aload_n 0, 1) := dc0 dO_42 (rdB.ch sfx_cX12_wayRight_192 22 rfl (by decide +kernel))
theorem dX12_wayRight_215 : decode cX12_wayRight 215 = .ok (.getfield 148, 3) := dcU2 dO_180 (rdU2.ch sfx_cX12_wayRight_192 23 rfl (by decide +kernel))
theorem dX12_wayRight_218 : decode cX12_wayRight 218 = .ok (.iload 10, 2) := dcU1 dO_21 (rdU1.ch sfx_cX12_wayRight_192 26 rfl (by decide +kernel))
theorem dX12_wayRight_220 : decode cX12_wayRight 220 = .ok (.iload 9, 2) := dcU1 dO_21 (rdU1.ch sfx_cX12_wayRight_192 28 rfl (by decide +kernel))
theorem dX12_wayRight_222 : decode cX12_wayRight 222 = .ok (.iastore, 1) := dc0 dO_79 (rdB.ch sfx_cX12_wayRight_192 30 rfl (by decide +kernel))
theorem dX12_wayRight_223 : decode cX12_wayRight 223 = .ok (.iinc 5 1, 3) := dcI dO_132 (rdI.ch sfx_cX12_wayRight_192 31 rfl (by decide +kernel))
theorem dX12_wayRight_226 : decode cX12_wayRight 226 = .ok (.iinc 8 1, 3) := dcI dO_132 (rdI.ch sfx_cX12_wayRight_192 34 rfl (by decide +kernel))
theorem dX12_wayRight_229 : decode cX12_wayRight 229 = .ok (.goto (-96), 3) := dcS2 dO_167 (rdS2.ch sfx_cX12_wayRight_192 37 rfl (by decide +kernel))
theorem dX12_wayRight_232 : decode cX12_wayRight 232 = .ok (.iload_n 3, 1) := dc0 dO_29 (rdB.ch sfx_cX12_wayRight_192 40 rfl (by decide +kernel))
theorem dX12_wayRight_233 : decode cX12_wayRight 233 = .ok (.iconst 2, 1) := dc0 dO_5 (rdB.ch sfx_cX12_wayRight_192 41 rfl (by decide +kernel))
theorem dX12_wayRight_234 : decode cX12_wayRight 234 = .ok (.iconst 4, 1) := dc0 dO_7 (rdB.ch sfx_cX12_wayRight_192 42 rfl (by decide +kernel))
theorem dX12_wayRight_235 : decode cX12_wayRight 235 = .ok (.iload 6, 2) := dcU1 dO_21 (rdU1.ch sfx_cX12_wayRight_192 43 rfl (by decide +kernel))
theorem dX12_wayRight_237 : decode cX12_wayRight 237 = .ok (.imul, 1) := dc0 dO_104 (rdB.ch sfx_cX12_wayRight_192 45 rfl (by decide +kernel))
theorem dX12_wayRight_238 : decode cX12_wayRight 238 = .ok (.iadd, 1) := dc0 dO_96 (rdB.ch sfx_cX12_wayRight_192 46 rfl (by decide +kernel))
theorem dX12_wayRight_239 : decode cX12_wayRight 239 = .ok (.iadd, 1) := dc0 dO_96 (rdB.ch sfx_cX12_wayRight_192 47 rfl (by decide +kernel))
theorem dX12_wayRight_240 : decode cX12_wayRight 240 = .ok (.istore_n 3, 1) := dc0 dO_62 (rdB.ch sfx_cX12_wayRight_192 48 rfl (by decide +kernel))
theorem dX12_wayRight_241 : decode cX12_wayRight 241 = .ok (.goto (-131), 3) := dcS2 dO_167 (rdS2.ch sfx_cX12_wayRight_192 49 rfl (by decide +kernel))
theorem dX12_wayRight_244 : decode cX12_wayRight 244 = .ok (.aload_n 0, 1) := dc0 dO_42 (rdB.ch sfx_cX12_wayRight_192 52 rfl (by decide +kernel))
theorem dX12_wayRight_245 : decode cX12_wayRight 245 = .ok (.getfield 148, 3) := dcU2 dO_180 (rdU2.ch sfx_cX12_wayRight_192 53 rfl (by decide +kernel))
theorem dX12_wayRight_248 : decode cX12_wayRight 248 = .ok (.sipush 964, 3) := dcS2 dO_17 (rdS2.ch sfx_cX12_wayRight_192 56 rfl (by decide +kernel))
theorem dX12_wayRight_251 : decode cX12_wayRight 251 = .ok (.iload 4, 2) := dcU1 dO_21 (rdU1.ch sfx_cX12_wayRight_192 59 rfl (by decide +kernel))
theorem dX12_wayRight_253 : decode cX12_wayRight 253 = .ok (.iastore, 1) := dc0 dO_79 (rdB.ch sfx_cX12_wayRight_192 61 rfl (by decide +kernel))
theorem dX12_wayRight_254 : decode cX12_wayRight 254 = .ok (.aload_n 0, 1) := dc0 dO_42 (rdB.ch sfx_cX12_wayRight_192 62 rfl (by decide +kernel))
theorem dX12_wayRight_255 : decode cX12_wayRight 255 = .ok (.iconst 1, 1) := dc0 dO_4 (rdB.ch sfx_cX12_wayRight_192 63 rfl (by decide +kernel))
theorem sfx_cX12_wayRight_256 : (cX12_wayRight.data.toList.drop 256).take 67 = [181, 2, 122, 4, 172] := by decide +kernel
theorem dX12_wayRight_256 : decode cX12_wayRight 256 = .ok (.putfield 634, 3) := dcU2 dO_181 (rdU2.ch sfx_cX12_wayRight_256 0 rfl (by decide +kernel))
theorem dX12_wayRight_259 : decode cX12_wayRight 259 = .ok (.iconst 1, 1) := dc0 dO_4 (rdB.ch sfx_cX12_wayRight_256 3 rfl (by decide +kernel))
theorem dX12_wayRight_260 : decode cX12_wayRight 260 = .ok (.ireturn, 1) := dc0 dO_172 (rdB.ch sfx_cX12_wayRight_256 4 rfl (by decide +kernel))
end
section
theorem vc_X12_byteAt_f_4 {f_size p1 : Int} (h0 : p1 < f_size) (h1 : 1 ≤ f_size ∧ f_size ≤ 1000) (h2 : 0 ≤ p1 ∧ p1 ≤ 999) : p1 < f_size := by omega
set_option maxRecDepth 4000 in
set_option maxHeartbeats 4000000 in
theorem c_X12_byteAt_f {l : Launch} {D : va_G} {c : Nat → ClassId} {H0 : Heap} {sa : Nat × Nat × (Nat → Int32)} {w : mW} {μ : mM} (hw : mWF w) (hT : mT w μ) {p1 : Int} (hp1 : 0 ≤ p1 ∧ p1 ≤ 2147483647) {f_size : Int} (q_f_size : μ 106 1 = f_size) (hq0 : p1 < f_size) : sC (gG l D c H0 sa) mX12_byteAt 1 0 0 [.ref 106, iv p1] (mk w μ) (qP w μ (fun z => (0 ≤ z ∧ z ≤ 255) ∧ z = byteF μ p1 ∧ True)) := by
  refine sC.of rfl (by decide) (le_t rfl) ?_
  have ht_f_size : (0 ≤ f_size ∧ f_size ≤ 1000) := by rw [← q_f_size]; exact hT 106 106 (A_106 hw) 1
  have h1 : 0 ≤ p1 ∧ p1 ≤ 999 := (vc_X12_byteAt_3 hq0 ht_f_size hp1)
  have h2 : 1 ≤ f_size ∧ f_size ≤ 1000 := (vc_X12_byteAt_4 hq0 ht_f_size h1)
  refine mr_lvE (lv' := [(0, .ref 106), (1, iv p1)]) rfl ?_
  refine mr_iload_n (pc := 0) (z := p1) dX12_byteAt_0 rfl rfl ?_
  refine sv_aload_n (pc := 1) dX12_byteAt_1 rfl rfl ?_
  refine gk_X12_1 (pc := 2) dX12_byteAt_2 wF_X12_1 (A_106 hw) q_f_size ?_
  refine mr_icmp_ge (pc := 5) (tgt := 21) dX12_byteAt_5 (by decide) (r32 h1 rfl) (r32 h2 rfl) (fun h => ((vc_X12_byteAt_in_3 h hq0 h2 h1)).elim) (fun h24 => ?_)
  refine sv_aload_n (pc := 8) dX12_byteAt_8 rfl rfl ?_
  refine gf_X12_0 (pc := 9) dX12_byteAt_9 wF_X12_7 (A_106 hw) hT ?_
  refine mr_iload_n (pc := 12) (z := p1) dX12_byteAt_12 rfl rfl ?_
  refine la_107 (pc := 13) dX12_byteAt_13 (A_107 hw) hT (rIx (n := 1000) h1 rfl) fun z25 q26 h27 => ?_
  refine mr_sipush (pc := 14) (z := 255) dX12_byteAt_14 (by decide) ?_
  refine mr_iand (pc := 17) (x := z25) (y := 255) dX12_byteAt_17 ?_
  refine mr_gen (P := fun z => 0 ≤ z ∧ z ≤ 255) (rAndR (rR (x := 255)) rfl) fun z28 q29 h30 => ?_
  refine sv_goto (pc := 18) (tgt := 22) dX12_byteAt_18 (by decide) ?_
  exact mr_iretP dX12_byteAt_22 rfl (le_t rfl) (le_t rfl) ⟨h30, (byteF.in q_f_size (vc_X12_byteAt_f_4 hq0 h2 h1) q26 q29), trivial⟩
theorem vc_X12_number_f_2 {f_size p1 p2 : Int} (h0 : p1 + p2 ≤ f_size) (h1 : p2 ≤ 0) (h2 : 0 ≤ f_size ∧ f_size ≤ 1000) (h3 : 0 ≤ p1 ∧ p1 ≤ 1000) (h4 : 0 ≤ p2 ∧ p2 ≤ 0) : p2 = (0 : Int) := by omega
theorem vc_X12_number_f_7 {f_size p1 p2 : Int} (h0 : p1 + p2 ≤ f_size) (h1 : 0 < p2) (h2 : 0 ≤ f_size ∧ f_size ≤ 1000) (h3 : 0 ≤ p1 ∧ p1 ≤ 1000) (h4 : 1 ≤ p2 ∧ p2 ≤ 4) : (p1 + 0) = p1 + (0 : Int) := by omega
theorem vc_X12_number_f_9 {f_size p1 p2 : Int} (h0 : p1 + p2 ≤ f_size) (h1 : 0 < p2) (h2 : p2 ≤ 1) (h3 : 0 ≤ f_size ∧ f_size ≤ 1000) (h4 : 0 ≤ p1 ∧ p1 ≤ 1000) (h5 : 1 ≤ p2 ∧ p2 ≤ 1) : p2 = (1 : Int) := by omega
theorem vc_X12_number_f_13  : (0 : Int) ≤ ((1 : Int) : Int) := by omega
theorem vc_X12_number_f_14 {f_size p1 p2 : Int} (h0 : p1 + p2 ≤ f_size) (h1 : 0 < p2) (h2 : 1 < p2) (h3 : 0 ≤ f_size ∧ f_size ≤ 1000) (h4 : 0 ≤ p1 ∧ p1 ≤ 1000) (h5 : 2 ≤ p2 ∧ p2 ≤ 4) : (p1 + 1) = p1 + (1 : Int) := by omega
theorem vc_X12_number_f_16 {f_size p1 p2 z452 z453 : Int} (h0 : p1 + p2 ≤ f_size) (h1 : 0 < p2) (h2 : 1 < p2) (h3 : z452 = 2 → 0 ≤ z453 ∧ z453 ≤ 65535) (h4 : z452 ≤ p2) (h5 : p2 ≤ z452) (h6 : 0 ≤ f_size ∧ f_size ≤ 1000) (h7 : 0 ≤ p1 ∧ p1 ≤ 1000) (h8 : 2 ≤ p2 ∧ p2 ≤ 4) (h9 : 2 ≤ z452 ∧ z452 ≤ 4) (h10 : (-2147483648) ≤ z453 ∧ z453 ≤ 2147483647) : p2 = z452 := by omega
theorem vc_X12_number_f_21 {f_size p1 p2 z452 z453 : Int} (h0 : z452 = 2 → 0 ≤ z453 ∧ z453 ≤ 65535) (h1 : z452 ≤ p2) (h2 : z452 < p2) (h3 : p1 + p2 ≤ f_size) (h4 : 0 < p2) (h5 : 1 < p2) (h6 : 0 ≤ f_size ∧ f_size ≤ 1000) (h7 : 0 ≤ p1 ∧ p1 ≤ 1000) (h8 : 3 ≤ p2 ∧ p2 ≤ 4) (h9 : 2 ≤ z452 ∧ z452 ≤ 3) (h10 : (-2147483648) ≤ z453 ∧ z453 ≤ 2147483647) : 0 ≤ z452 := by omega
theorem vc_X12_number_f_22 {f_size p1 p2 z452 z453 : Int} (h0 : p1 + p2 ≤ f_size) (h1 : z452 = 2 → 0 ≤ z453 ∧ z453 ≤ 65535) (h2 : z452 ≤ p2) (h3 : z452 < p2) (h4 : 0 < p2) (h5 : 1 < p2) (h6 : 0 ≤ f_size ∧ f_size ≤ 1000) (h7 : 0 ≤ p1 ∧ p1 ≤ 1000) (h8 : 3 ≤ p2 ∧ p2 ≤ 4) (h9 : 2 ≤ z452 ∧ z452 ≤ 3) (h10 : (-2147483648) ≤ z453 ∧ z453 ≤ 2147483647) : (p1 + z452) = p1 + z452 := by omega
set_option maxRecDepth 4000 in
set_option maxHeartbeats 4000000 in
theorem c_X12_number_f {l : Launch} {D : va_G} {c : Nat → ClassId} {H0 : Heap} {sa : Nat × Nat × (Nat → Int32)} {w : mW} {μ : mM} (hw : mWF w) (hT : mT w μ) {p1 : Int} (hp1 : 0 ≤ p1 ∧ p1 ≤ 1000) {p2 : Int} (hp2 : 0 ≤ p2 ∧ p2 ≤ 4) {f_size : Int} (q_f_size : μ 106 1 = f_size) (hq0 : p1 + p2 ≤ f_size) : sC (gG l D c H0 sa) mX12_number 2 0 0 [.ref 106, iv p1, iv p2] (mk w μ) (qP w μ (fun z => ((-2147483648) ≤ z ∧ z ≤ 2147483647) ∧ z = numF μ p1 p2 ∧ (p2 ≤ 2 → 0 ≤ z ∧ z ≤ 65535) ∧ True)) := by
  refine sC.of rfl (by decide) (le_t rfl) ?_
  have ht_f_size : (0 ≤ f_size ∧ f_size ≤ 1000) := by rw [← q_f_size]; exact hT 106 106 (A_106 hw) 1
  refine mr_lvE (lv' := [(0, .ref 106), (1, iv p1), (2, iv p2)]) rfl ?_
  refine mr_iconst (pc := 0) (z := 0) dX12_number_0 ?_
  refine mr_istore_n (pc := 1) (lv' := [(3, iv 0), (0, .ref 106), (1, iv p1), (2, iv p2)]) dX12_number_1 rfl (by decide) rfl ?_
  refine mr_iconst (pc := 2) (z := 0) dX12_number_2 ?_
  refine mr_istore (pc := 3) (lv' := [(4, iv 0), (3, iv 0), (0, .ref 106), (1, iv p1), (2, iv p2)]) dX12_number_3 (by decide) rfl ?_
  refine mr_iload (pc := 5) (z := 0) dX12_number_5 rfl ?_
  refine mr_iload_n (pc := 7) (z := p2) dX12_number_7 rfl rfl ?_
  refine mr_icmp_ge (pc := 8) (tgt := 31) dX12_number_8 (by decide) (r32 (rR (x := 0)) rfl) (r32 hp2 rfl) (fun h292 => ?_) (fun h292 => ?_)
  · have h293 : 0 ≤ p2 ∧ p2 ≤ 0 := (vc_X12_number_1 h292 hq0 ht_f_size hp1 hp2)
    refine mr_iload_n (pc := 31) (z := 0) dX12_number_31 rfl rfl ?_
    exact mr_iretP dX12_number_32 rfl (le_t rfl) (le_t rfl) ⟨(rW (c := (-2147483648)) (d := 2147483647) (rR (x := 0)) rfl), (numF.fin (k := (0 : Int)) numF.zero (vc_X12_number_f_2 hq0 h292 ht_f_size hp1 h293)), (vc_X12_number_2 hq0 h292 ht_f_size hp1 h293), trivial⟩
  have h294 : 1 ≤ p2 ∧ p2 ≤ 4 := (vc_X12_number_3 h292 hq0 ht_f_size hp1 hp2)
  refine mr_iload_n (pc := 11) (z := 0) dX12_number_11 rfl rfl ?_
  refine mr_bipush (pc := 12) (z := 8) dX12_number_12 (by decide) ?_
  refine mr_ishl (pc := 14) (x := 0) (y := 8) dX12_number_14 ?_
  refine mr_gen (P := fun z => 0 ≤ z ∧ z ≤ 0) (rShl (k := 8) (rR (x := 0)) rfl) fun z295 q296 h297 => ?_
  refine sv_aload_n (pc := 15) dX12_number_15 rfl rfl ?_
  refine mr_iload_n (pc := 16) (z := p1) dX12_number_16 rfl rfl ?_
  refine mr_iload (pc := 17) (z := 0) dX12_number_17 rfl ?_
  refine mr_iadd (pc := 19) (x := p1) (y := 0) dX12_number_19 ?_
  refine mr_cVP (pc := 20) (c_X12_byteAt_f hw hT (rW (c := 0) (d := 2147483647) (rAdd (e := 0) (f := 1000) hp1 (rR (x := 0)) rfl) rfl) q_f_size (vc_X12_number_4 hq0 h292 ht_f_size hp1 h294)) (gOk _ _ _ _ _) dX12_number_20 (tX12_byteAt _ _ _ _ _) ⟨wV_X12_byteAt, wL_X12_byteAt⟩ wM_X12_227 (gCX12 _ _ _ _ _) rfl (A_106 hw) rfl ⟨le_t rfl, le_t rfl⟩ ⟨le_t rfl, le_t rfl⟩ rfl (le_t rfl) fun z302 h301 => ?_
  refine mr_ior (pc := 23) (x := z295) (y := z302) dX12_number_23 ?_
  refine mr_gen (P := fun z => 0 ≤ z ∧ z ≤ 255) (rOr 8 h297 h301.1 rfl) fun z303 q304 h305 => ?_
  refine mr_istore_n (pc := 24) (lv' := [(3, iv z303), (4, iv 0), (0, .ref 106), (1, iv p1), (2, iv p2)]) dX12_number_24 rfl (by decide) rfl ?_
  refine mr_iinc (pc := 25) (lv' := [(4, iv 1), (3, iv z303), (0, .ref 106), (1, iv p1), (2, iv p2)]) dX12_number_25 rfl (by decide) rfl ?_
  refine sv_goto (pc := 28) (tgt := 5) dX12_number_28 (by decide) ?_
  refine mr_iload (pc := 5) (z := 1) dX12_number_5 rfl ?_
  refine mr_iload_n (pc := 7) (z := p2) dX12_number_7 rfl rfl ?_
  refine mr_icmp_ge (pc := 8) (tgt := 31) dX12_number_8 (by decide) (r32 (rR (x := 1)) rfl) (r32 h294 rfl) (fun h353 => ?_) (fun h353 => ?_)
  · have h354 : 1 ≤ p2 ∧ p2 ≤ 1 := (vc_X12_number_5 h353 hq0 h292 ht_f_size hp1 h294)
    refine mr_iload_n (pc := 31) (z := z303) dX12_number_31 rfl rfl ?_
    exact mr_iretP dX12_number_32 rfl (le_t rfl) (le_t rfl) ⟨(rW (c := (-2147483648)) (d := 2147483647) h305 rfl), (numF.fin (k := (1 : Int)) (numF.succ (n := (0 : Int)) numF.zero vc_X12_through_6 q296 (vc_X12_number_f_7 hq0 h292 ht_f_size hp1 h294) h301.2.1.symm.symm q304) (vc_X12_number_f_9 hq0 h292 h353 ht_f_size hp1 h354)), (vc_X12_number_6 hq0 h292 h353 ht_f_size hp1 h354 h305), trivial⟩
  have h355 : 2 ≤ p2 ∧ p2 ≤ 4 := (vc_X12_number_7 h353 hq0 h292 ht_f_size hp1 h294)
  refine mr_iload_n (pc := 11) (z := z303) dX12_number_11 rfl rfl ?_
  refine mr_bipush (pc := 12) (z := 8) dX12_number_12 (by decide) ?_
  refine mr_ishl (pc := 14) (x := z303) (y := 8) dX12_number_14 ?_
  refine mr_gen (P := fun z => 0 ≤ z ∧ z ≤ 65280) (rShl (k := 8) h305 rfl) fun z356 q357 h358 => ?_
  refine sv_aload_n (pc := 15) dX12_number_15 rfl rfl ?_
  refine mr_iload_n (pc := 16) (z := p1) dX12_number_16 rfl rfl ?_
  refine mr_iload (pc := 17) (z := 1) dX12_number_17 rfl ?_
  refine mr_iadd (pc := 19) (x := p1) (y := 1) dX12_number_19 ?_
  refine mr_cVP (pc := 20) (c_X12_byteAt_f hw hT (rW (c := 0) (d := 2147483647) (rAdd (e := 1) (f := 1001) hp1 (rR (x := 1)) rfl) rfl) q_f_size (vc_X12_number_8 hq0 h292 h353 ht_f_size hp1 h355)) (gOk _ _ _ _ _) dX12_number_20 (tX12_byteAt _ _ _ _ _) ⟨wV_X12_byteAt, wL_X12_byteAt⟩ wM_X12_227 (gCX12 _ _ _ _ _) rfl (A_106 hw) rfl ⟨le_t rfl, le_t rfl⟩ ⟨le_t rfl, le_t rfl⟩ rfl (le_t rfl) fun z363 h362 => ?_
  refine mr_ior (pc := 23) (x := z356) (y := z363) dX12_number_23 ?_
  refine mr_gen (P := fun z => 0 ≤ z ∧ z ≤ 65535) (rOr 16 h358 h362.1 rfl) fun z364 q365 h366 => ?_
  refine mr_istore_n (pc := 24) (lv' := [(3, iv z364), (4, iv 1), (0, .ref 106), (1, iv p1), (2, iv p2)]) dX12_number_24 rfl (by decide) rfl ?_
  refine mr_iinc (pc := 25) (lv' := [(4, iv 2), (3, iv z364), (0, .ref 106), (1, iv p1), (2, iv p2)]) dX12_number_25 rfl (by decide) rfl ?_
  refine sv_goto (pc := 28) (tgt := 5) dX12_number_28 (by decide) ?_
  have L454 : ∀ (nL454 : Nat) (z453 z452 : Int), True → ((-2147483648) ≤ z453 ∧ z453 ≤ 2147483647) → (2 ≤ z452 ∧ z452 ≤ 4) → (z452 = 2 → 0 ≤ z453 ∧ z453 ≤ 65535) → (z452 ≤ p2) → numF μ p1 z452 = z453 → (5 - z452) < (nL454 : Int) → sV (gG l D c H0 sa) mX12_number (sRm 2 0 0) (sZ (gG l D c H0 sa) 0 0 (qP w μ (fun z => ((-2147483648) ≤ z ∧ z ≤ 2147483647) ∧ z = numF μ p1 p2 ∧ (p2 ≤ 2 → 0 ≤ z ∧ z ≤ 65535) ∧ True))) 5 [(0, .ref 106), (1, iv p1), (2, iv p2), (3, iv z453), (4, iv z452)] [] (mk w μ) 0 0 := by
    intro nL454
    induction nL454 with
    | zero => intro z453 z452 _ h455 h456 h460 h461 R462 h463; exact ((vc_X12_number_9 h463 h460 h461 hq0 h292 h353 ht_f_size hp1 h355 h456 h455)).elim
    | succ nL454 ih464 =>
      intro z453 z452 _ h455 h456 h460 h461 R462 h463
      refine mr_iload (pc := 5) (z := z452) dX12_number_5 rfl ?_
      refine mr_iload_n (pc := 7) (z := p2) dX12_number_7 rfl rfl ?_
      refine mr_icmp_ge (pc := 8) (tgt := 31) dX12_number_8 (by decide) (r32 h456 rfl) (r32 h355 rfl) (fun h478 => ?_) (fun h478 => ?_)
      · refine mr_iload_n (pc := 31) (z := z453) dX12_number_31 rfl rfl ?_
        exact mr_iretP dX12_number_32 rfl (le_t rfl) (le_t rfl) ⟨h455, (numF.fin (k := z452) R462 (vc_X12_number_f_16 hq0 h292 h353 h460 h461 h478 ht_f_size hp1 h355 h456 h455)), (vc_X12_number_10 hq0 h292 h353 h460 h461 h478 ht_f_size hp1 h355 h456 h455), trivial⟩
      have h479 : 2 ≤ z452 ∧ z452 ≤ 3 := (vc_X12_number_11 h478 hq0 h292 h353 h460 h461 ht_f_size hp1 h355 h456 h455)
      have h480 : 3 ≤ p2 ∧ p2 ≤ 4 := (vc_X12_number_12 h478 hq0 h292 h353 h460 h461 ht_f_size hp1 h355 h479 h455)
      refine mr_iload_n (pc := 11) (z := z453) dX12_number_11 rfl rfl ?_
      refine mr_bipush (pc := 12) (z := 8) dX12_number_12 (by decide) ?_
      refine mr_ishl (pc := 14) (x := z453) (y := 8) dX12_number_14 ?_
      refine mr_gen (P := fun z => (-2147483648) ≤ z ∧ z ≤ 2147483647) (r32i _) fun z481 q482 h483 => ?_
      refine sv_aload_n (pc := 15) dX12_number_15 rfl rfl ?_
      refine mr_iload_n (pc := 16) (z := p1) dX12_number_16 rfl rfl ?_
      refine mr_iload (pc := 17) (z := z452) dX12_number_17 rfl ?_
      refine mr_iadd (pc := 19) (x := p1) (y := z452) dX12_number_19 ?_
      refine mr_cVP (pc := 20) (c_X12_byteAt_f hw hT (rW (c := 0) (d := 2147483647) (rAdd (e := 2) (f := 1003) hp1 h479 rfl) rfl) q_f_size (vc_X12_number_13 hq0 h460 h461 h478 h292 h353 ht_f_size hp1 h480 h479 h455)) (gOk _ _ _ _ _) dX12_number_20 (tX12_byteAt _ _ _ _ _) ⟨wV_X12_byteAt, wL_X12_byteAt⟩ wM_X12_227 (gCX12 _ _ _ _ _) rfl (A_106 hw) rfl ⟨le_t rfl, le_t rfl⟩ ⟨le_t rfl, le_t rfl⟩ rfl (le_t rfl) fun z488 h487 => ?_
      refine mr_ior (pc := 23) (x := z481) (y := z488) dX12_number_23 ?_
      refine mr_gen (P := fun z => (-2147483648) ≤ z ∧ z ≤ 2147483647) (r32i _) fun z489 q490 h491 => ?_
      refine mr_istore_n (pc := 24) (lv' := [(3, iv z489), (0, .ref 106), (1, iv p1), (2, iv p2), (4, iv z452)]) dX12_number_24 rfl (by decide) rfl ?_
      refine mr_iinc (pc := 25) (lv' := [(4, iv (z452 + 1)), (3, iv z489), (0, .ref 106), (1, iv p1), (2, iv p2)]) dX12_number_25 rfl (by decide) rfl ?_
      refine sv_goto (pc := 28) (tgt := 5) dX12_number_28 (by decide) ?_
      refine mr_lvS (lv' := [(0, .ref 106), (1, iv p1), (2, iv p2), (3, iv z489), (4, iv (z452 + 1))]) (List.forall_mem_cons.mpr ⟨rfl, List.forall_mem_cons.mpr ⟨rfl, List.forall_mem_cons.mpr ⟨rfl, List.forall_mem_cons.mpr ⟨rfl, List.forall_mem_cons.mpr ⟨rfl, fun _ h => absurd h List.not_mem_nil⟩⟩⟩⟩⟩) ?_
      exact ih464 z489 (z452 + 1) trivial h491 (rW (c := 2) (d := 4) (rAdd (e := 3) (f := 4) h479 (rR (x := 1)) rfl) rfl) (vc_X12_number_14 h460 h461 h478 hq0 h292 h353 ht_f_size hp1 h480 h479 h455 h491) (vc_X12_number_15 hq0 h292 h353 h460 h461 h478 ht_f_size hp1 h480 h479 h455) (numF.succ (n := z452) R462 (vc_X12_number_f_21 h460 h461 h478 hq0 h292 h353 ht_f_size hp1 h480 h479 h455) q482 (vc_X12_number_f_22 hq0 h460 h461 h478 h292 h353 ht_f_size hp1 h480 h479 h455) h487.2.1.symm.symm q490) (vc_X12_number_16 (nS h463) h460 h461 h478 hq0 h292 h353 ht_f_size hp1 h480 h479 h455)
  refine mr_lvS (lv' := [(0, .ref 106), (1, iv p1), (2, iv p2), (3, iv z364), (4, iv 2)]) (List.forall_mem_cons.mpr ⟨rfl, List.forall_mem_cons.mpr ⟨rfl, List.forall_mem_cons.mpr ⟨rfl, List.forall_mem_cons.mpr ⟨rfl, List.forall_mem_cons.mpr ⟨rfl, fun _ h => absurd h List.not_mem_nil⟩⟩⟩⟩⟩) ?_
  exact L454 4 z364 2 trivial (rW (c := (-2147483648)) (d := 2147483647) h366 rfl) (rW (c := 2) (d := 4) (rR (x := 2)) rfl) (vc_X12_number_17 h366) (vc_X12_number_18 hq0 h292 h353 ht_f_size hp1 h355) (numF.succ (n := (1 : Int)) (numF.succ (n := (0 : Int)) numF.zero vc_X12_through_6 q296 (vc_X12_number_f_7 hq0 h292 ht_f_size hp1 h294) h301.2.1.symm.symm q304) vc_X12_number_f_13 q357 (vc_X12_number_f_14 hq0 h292 h353 ht_f_size hp1 h355) h362.2.1.symm.symm q365) vc_X12_number_19
theorem vc_X12_number_f2_1 {f_size p1 p2 : Int} (h0 : p2 ≤ 0) (h1 : p1 + p2 ≤ f_size) (h2 : 0 ≤ f_size ∧ f_size ≤ 1000) (h3 : 0 ≤ p1 ∧ p1 ≤ 1000) (h4 : 0 ≤ p2 ∧ p2 ≤ 2) : 0 ≤ p2 ∧ p2 ≤ 0 := by omega
theorem vc_X12_number_f2_3 {f_size p1 p2 : Int} (h0 : 0 < p2) (h1 : p1 + p2 ≤ f_size) (h2 : 0 ≤ f_size ∧ f_size ≤ 1000) (h3 : 0 ≤ p1 ∧ p1 ≤ 1000) (h4 : 0 ≤ p2 ∧ p2 ≤ 2) : 1 ≤ p2 ∧ p2 ≤ 2 := by omega
theorem vc_X12_number_f2_4 {f_size p1 p2 : Int} (h0 : p1 + p2 ≤ f_size) (h1 : 0 < p2) (h2 : 0 ≤ f_size ∧ f_size ≤ 1000) (h3 : 0 ≤ p1 ∧ p1 ≤ 1000) (h4 : 1 ≤ p2 ∧ p2 ≤ 2) : (p1 + 0) < f_size := by omega
theorem vc_X12_number_f2_6 {f_size p1 p2 : Int} (h0 : p1 + p2 ≤ f_size) (h1 : 0 < p2) (h2 : 0 ≤ f_size ∧ f_size ≤ 1000) (h3 : 0 ≤ p1 ∧ p1 ≤ 1000) (h4 : 1 ≤ p2 ∧ p2 ≤ 2) : (p1 + 0) = p1 + (0 : Int) := by omega
theorem vc_X12_number_f2_7 {f_size p1 p2 : Int} (h0 : p2 ≤ 1) (h1 : p1 + p2 ≤ f_size) (h2 : 0 < p2) (h3 : 0 ≤ f_size ∧ f_size ≤ 1000) (h4 : 0 ≤ p1 ∧ p1 ≤ 1000) (h5 : 1 ≤ p2 ∧ p2 ≤ 2) : 1 ≤ p2 ∧ p2 ≤ 1 := by omega
theorem vc_X12_number_f2_9 {f_size p1 p2 : Int} (h0 : 1 < p2) (h1 : p1 + p2 ≤ f_size) (h2 : 0 < p2) (h3 : 0 ≤ f_size ∧ f_size ≤ 1000) (h4 : 0 ≤ p1 ∧ p1 ≤ 1000) (h5 : 1 ≤ p2 ∧ p2 ≤ 2) : 2 ≤ p2 ∧ p2 ≤ 2 := by omega
theorem vc_X12_number_f2_10 {f_size p1 p2 : Int} (h0 : p1 + p2 ≤ f_size) (h1 : 0 < p2) (h2 : 1 < p2) (h3 : 0 ≤ f_size ∧ f_size ≤ 1000) (h4 : 0 ≤ p1 ∧ p1 ≤ 1000) (h5 : 2 ≤ p2 ∧ p2 ≤ 2) : (p1 + 1) < f_size := by omega
theorem vc_X12_number_f2_12 {f_size p1 p2 : Int} (h0 : p1 + p2 ≤ f_size) (h1 : 0 < p2) (h2 : 1 < p2) (h3 : 0 ≤ f_size ∧ f_size ≤ 1000) (h4 : 0 ≤ p1 ∧ p1 ≤ 1000) (h5 : 2 ≤ p2 ∧ p2 ≤ 2) : (p1 + 1) = p1 + (1 : Int) := by omega
theorem vc_X12_number_f2_13 {p2 : Int} (h0 : 2 < p2) (h1 : 2 ≤ p2 ∧ p2 ≤ 2) : False := by omega
theorem vc_X12_number_f2_14 {f_size p1 p2 : Int} (h0 : p1 + p2 ≤ f_size) (h1 : 0 < p2) (h2 : 1 < p2) (h3 : 0 ≤ f_size ∧ f_size ≤ 1000) (h4 : 0 ≤ p1 ∧ p1 ≤ 1000) (h5 : 2 ≤ p2 ∧ p2 ≤ 2) : p2 = (2 : Int) := by omega
set_option maxRecDepth 4000 in
set_option maxHeartbeats 4000000 in
theorem c_X12_number_f2 {l : Launch} {D : va_G} {c : Nat → ClassId} {H0 : Heap} {sa : Nat × Nat × (Nat → Int32)} {w : mW} {μ : mM} (hw : mWF w) (hT : mT w μ) {p1 : Int} (hp1 : 0 ≤ p1 ∧ p1 ≤ 1000) {p2 : Int} (hp2 : 0 ≤ p2 ∧ p2 ≤ 2) {f_size : Int} (q_f_size : μ 106 1 = f_size) (hq0 : p1 + p2 ≤ f_size) : sC (gG l D c H0 sa) mX12_number 2 0 0 [.ref 106, iv p1, iv p2] (mk w μ) (qP w μ (fun z => (0 ≤ z ∧ z ≤ 65535) ∧ z = numF μ p1 p2 ∧ True)) := by
  refine sC.of rfl (by decide) (le_t rfl) ?_
  have ht_f_size : (0 ≤ f_size ∧ f_size ≤ 1000) := by rw [← q_f_size]; exact hT 106 106 (A_106 hw) 1
  refine mr_lvE (lv' := [(0, .ref 106), (1, iv p1), (2, iv p2)]) rfl ?_
  refine mr_iconst (pc := 0) (z := 0) dX12_number_0 ?_
  refine mr_istore_n (pc := 1) (lv' := [(3, iv 0), (0, .ref 106), (1, iv p1), (2, iv p2)]) dX12_number_1 rfl (by decide) rfl ?_
  refine mr_iconst (pc := 2) (z := 0) dX12_number_2 ?_
  refine mr_istore (pc := 3) (lv' := [(4, iv 0), (3, iv 0), (0, .ref 106), (1, iv p1), (2, iv p2)]) dX12_number_3 (by decide) rfl ?_
  refine mr_iload (pc := 5) (z := 0) dX12_number_5 rfl ?_
  refine mr_iload_n (pc := 7) (z := p2) dX12_number_7 rfl rfl ?_
  refine mr_icmp_ge (pc := 8) (tgt := 31) dX12_number_8 (by decide) (r32 (rR (x := 0)) rfl) (r32 hp2 rfl) (fun h105 => ?_) (fun h105 => ?_)
  · have h106 : 0 ≤ p2 ∧ p2 ≤ 0 := (vc_X12_number_f2_1 h105 hq0 ht_f_size hp1 hp2)
    refine mr_iload_n (pc := 31) (z := 0) dX12_number_31 rfl rfl ?_
    exact mr_iretP dX12_number_32 rfl (le_t rfl) (le_t rfl) ⟨(rW (c := 0) (d := 65535) (rR (x := 0)) rfl), (numF.fin (k := (0 : Int)) numF.zero (vc_X12_number_f_2 hq0 h105 ht_f_size hp1 h106)), trivial⟩
  have h107 : 1 ≤ p2 ∧ p2 ≤ 2 := (vc_X12_number_f2_3 h105 hq0 ht_f_size hp1 hp2)
  refine mr_iload_n (pc := 11) (z := 0) dX12_number_11 rfl rfl ?_
  refine mr_bipush (pc := 12) (z := 8) dX12_number_12 (by decide) ?_
  refine mr_ishl (pc := 14) (x := 0) (y := 8) dX12_number_14 ?_
  refine mr_gen (P := fun z => 0 ≤ z ∧ z ≤ 0) (rShl (k := 8) (rR (x := 0)) rfl) fun z108 q109 h110 => ?_
  refine sv_aload_n (pc := 15) dX12_number_15 rfl rfl ?_
  refine mr_iload_n (pc := 16) (z := p1) dX12_number_16 rfl rfl ?_
  refine mr_iload (pc := 17) (z := 0) dX12_number_17 rfl ?_
  refine mr_iadd (pc := 19) (x := p1) (y := 0) dX12_number_19 ?_
  refine mr_cVP (pc := 20) (c_X12_byteAt_f hw hT (rW (c := 0) (d := 2147483647) (rAdd (e := 0) (f := 1000) hp1 (rR (x := 0)) rfl) rfl) q_f_size (vc_X12_number_f2_4 hq0 h105 ht_f_size hp1 h107)) (gOk _ _ _ _ _) dX12_number_20 (tX12_byteAt _ _ _ _ _) ⟨wV_X12_byteAt, wL_X12_byteAt⟩ wM_X12_227 (gCX12 _ _ _ _ _) rfl (A_106 hw) rfl ⟨le_t rfl, le_t rfl⟩ ⟨le_t rfl, le_t rfl⟩ rfl (le_t rfl) fun z115 h114 => ?_
  refine mr_ior (pc := 23) (x := z108) (y := z115) dX12_number_23 ?_
  refine mr_gen (P := fun z => 0 ≤ z ∧ z ≤ 255) (rOr 8 h110 h114.1 rfl) fun z116 q117 h118 => ?_
  refine mr_istore_n (pc := 24) (lv' := [(3, iv z116), (4, iv 0), (0, .ref 106), (1, iv p1), (2, iv p2)]) dX12_number_24 rfl (by decide) rfl ?_
  refine mr_iinc (pc := 25) (lv' := [(4, iv 1), (3, iv z116), (0, .ref 106), (1, iv p1), (2, iv p2)]) dX12_number_25 rfl (by decide) rfl ?_
  refine sv_goto (pc := 28) (tgt := 5) dX12_number_28 (by decide) ?_
  refine mr_iload (pc := 5) (z := 1) dX12_number_5 rfl ?_
  refine mr_iload_n (pc := 7) (z := p2) dX12_number_7 rfl rfl ?_
  refine mr_icmp_ge (pc := 8) (tgt := 31) dX12_number_8 (by decide) (r32 (rR (x := 1)) rfl) (r32 h107 rfl) (fun h132 => ?_) (fun h132 => ?_)
  · have h133 : 1 ≤ p2 ∧ p2 ≤ 1 := (vc_X12_number_f2_7 h132 hq0 h105 ht_f_size hp1 h107)
    refine mr_iload_n (pc := 31) (z := z116) dX12_number_31 rfl rfl ?_
    exact mr_iretP dX12_number_32 rfl (le_t rfl) (le_t rfl) ⟨(rW (c := 0) (d := 65535) h118 rfl), (numF.fin (k := (1 : Int)) (numF.succ (n := (0 : Int)) numF.zero vc_X12_through_6 q109 (vc_X12_number_f2_6 hq0 h105 ht_f_size hp1 h107) h114.2.1.symm.symm q117) (vc_X12_number_f_9 hq0 h105 h132 ht_f_size hp1 h133)), trivial⟩
  have h134 : 2 ≤ p2 ∧ p2 ≤ 2 := (vc_X12_number_f2_9 h132 hq0 h105 ht_f_size hp1 h107)
  refine mr_iload_n (pc := 11) (z := z116) dX12_number_11 rfl rfl ?_
  refine mr_bipush (pc := 12) (z := 8) dX12_number_12 (by decide) ?_
  refine mr_ishl (pc := 14) (x := z116) (y := 8) dX12_number_14 ?_
  refine mr_gen (P := fun z => 0 ≤ z ∧ z ≤ 65280) (rShl (k := 8) h118 rfl) fun z135 q136 h137 => ?_
  refine sv_aload_n (pc := 15) dX12_number_15 rfl rfl ?_
  refine mr_iload_n (pc := 16) (z := p1) dX12_number_16 rfl rfl ?_
  refine mr_iload (pc := 17) (z := 1) dX12_number_17 rfl ?_
  refine mr_iadd (pc := 19) (x := p1) (y := 1) dX12_number_19 ?_
  refine mr_cVP (pc := 20) (c_X12_byteAt_f hw hT (rW (c := 0) (d := 2147483647) (rAdd (e := 1) (f := 1001) hp1 (rR (x := 1)) rfl) rfl) q_f_size (vc_X12_number_f2_10 hq0 h105 h132 ht_f_size hp1 h134)) (gOk _ _ _ _ _) dX12_number_20 (tX12_byteAt _ _ _ _ _) ⟨wV_X12_byteAt, wL_X12_byteAt⟩ wM_X12_227 (gCX12 _ _ _ _ _) rfl (A_106 hw) rfl ⟨le_t rfl, le_t rfl⟩ ⟨le_t rfl, le_t rfl⟩ rfl (le_t rfl) fun z142 h141 => ?_
  refine mr_ior (pc := 23) (x := z135) (y := z142) dX12_number_23 ?_
  refine mr_gen (P := fun z => 0 ≤ z ∧ z ≤ 65535) (rOr 16 h137 h141.1 rfl) fun z143 q144 h145 => ?_
  refine mr_istore_n (pc := 24) (lv' := [(3, iv z143), (4, iv 1), (0, .ref 106), (1, iv p1), (2, iv p2)]) dX12_number_24 rfl (by decide) rfl ?_
  refine mr_iinc (pc := 25) (lv' := [(4, iv 2), (3, iv z143), (0, .ref 106), (1, iv p1), (2, iv p2)]) dX12_number_25 rfl (by decide) rfl ?_
  refine sv_goto (pc := 28) (tgt := 5) dX12_number_28 (by decide) ?_
  refine mr_iload (pc := 5) (z := 2) dX12_number_5 rfl ?_
  refine mr_iload_n (pc := 7) (z := p2) dX12_number_7 rfl rfl ?_
  refine mr_icmp_ge (pc := 8) (tgt := 31) dX12_number_8 (by decide) (r32 (rR (x := 2)) rfl) (r32 h134 rfl) (fun _ => ?_) (fun h => ((vc_X12_number_f2_13 h h134)).elim)
  refine mr_iload_n (pc := 31) (z := z143) dX12_number_31 rfl rfl ?_
  exact mr_iretP dX12_number_32 rfl (le_t rfl) (le_t rfl) ⟨h145, (numF.fin (k := (2 : Int)) (numF.succ (n := (1 : Int)) (numF.succ (n := (0 : Int)) numF.zero vc_X12_through_6 q109 (vc_X12_number_f2_6 hq0 h105 ht_f_size hp1 h107) h114.2.1.symm.symm q117) vc_X12_number_f_13 q136 (vc_X12_number_f2_12 hq0 h105 h132 ht_f_size hp1 h134) h141.2.1.symm.symm q144) (vc_X12_number_f2_14 hq0 h105 h132 ht_f_size hp1 h134)), trivial⟩
theorem vc_X12_wayRight_1 {f_size p1 p2 z4574 z4575 : Int} (h0 : (1001 - z4575) < ((0 : Nat) : Int)) (h1 : 4 * z4574 ≤ z4575 - p1) (h2 : z4575 ≤ p1 + p2) (h3 : p1 + p2 ≤ f_size) (h4 : 0 ≤ f_size ∧ f_size ≤ 1000) (h5 : 0 ≤ p1 ∧ p1 ≤ 1000) (h6 : 0 ≤ p2 ∧ p2 ≤ 1000) (h7 : 0 ≤ z4574 ∧ z4574 ≤ 250) (h8 : 0 ≤ z4575 ∧ z4575 ≤ 1000) : False := by omega
theorem vc_X12_wayRight_2 {p1 z4574 z4575 : Int} (h0 : z4574 ≤ 20) (h1 : 4 * z4574 ≤ z4575 - p1) (h2 : 0 ≤ p1 ∧ p1 ≤ 1000) (h3 : 0 ≤ z4574 ∧ z4574 ≤ 250) (h4 : 0 ≤ z4575 ∧ z4575 ≤ 1000) : 0 ≤ z4574 ∧ z4574 ≤ 20 := by omega
theorem vc_X12_wayRight_3 {f_size p1 p2 z4574 z4575 z5068 : Int} (h0 : (1001 - z5068) < ((0 : Nat) : Int)) (h1 : p1 ≤ z5068) (h2 : p1 + p2 ≤ f_size) (h3 : 4 * z4574 ≤ z4575 - p1) (h4 : z4575 ≤ p1 + p2) (h5 : (p1 + p2) ≤ z4575) (h6 : 0 ≤ f_size ∧ f_size ≤ 1000) (h7 : 0 ≤ p1 ∧ p1 ≤ 1000) (h8 : 0 ≤ p2 ∧ p2 ≤ 1000) (h9 : 0 ≤ z4574 ∧ z4574 ≤ 20) (h10 : 0 ≤ z4575 ∧ z4575 ≤ 1000) (h11 : 0 ≤ z5068 ∧ z5068 ≤ 1000) : False := by omega
theorem vc_X12_wayRight_4 {f_size p1 p2 z4574 z4575 z5068 : Int} (h0 : 4 * z4574 ≤ z4575 - p1) (h1 : z4574 ≤ 20) (h2 : p1 + p2 ≤ f_size) (h3 : z4575 ≤ p1 + p2) (h4 : (p1 + p2) ≤ z4575) (h5 : p1 ≤ z5068) (h6 : (p1 + p2) ≤ z5068) (h7 : 0 ≤ f_size ∧ f_size ≤ 1000) (h8 : 0 ≤ p1 ∧ p1 ≤ 1000) (h9 : 0 ≤ p2 ∧ p2 ≤ 1000) (h10 : 0 ≤ z4574 ∧ z4574 ≤ 20) (h11 : 0 ≤ z4575 ∧ z4575 ≤ 1000) (h12 : 0 ≤ z5068 ∧ z5068 ≤ 1000) : (-2147483648 ≤ z4574 ∧ z4574 ≤ 2147483647) ∧ ((964 : Int) % 40 = 0 → -1 ≤ z4574 ∧ z4574 ≤ 9) ∧ ((964 : Int) % 40 = 4 → 0 ≤ z4574 ∧ z4574 ≤ 20) ∧ ((964 : Int) % 40 = 5 → 0 ≤ z4574 ∧ z4574 ≤ 8) := by omega
theorem vc_X12_wayRight_5  : (964 : Int) ≤ (964 : Int) ∧ (986 : Int) ≤ (986 : Int) := by omega
theorem vc_X12_wayRight_6  : (0 : Int) ≤ (964 : Int) ∧ (964 : Int) ≤ (964 : Int) ∧ (964 : Int) < (986 : Int) := by omega
theorem vc_X12_wayRight_7 {f_size p1 p2 z4574 z4575 z5068 : Int} (h0 : p1 + p2 ≤ f_size) (h1 : 4 * z4574 ≤ z4575 - p1) (h2 : z4575 ≤ p1 + p2) (h3 : (p1 + p2) ≤ z4575) (h4 : p1 ≤ z5068) (h5 : z5068 < (p1 + p2)) (h6 : z4574 ≤ 20) (h7 : 0 ≤ f_size ∧ f_size ≤ 1000) (h8 : 0 ≤ p1 ∧ p1 ≤ 1000) (h9 : 0 ≤ p2 ∧ p2 ≤ 1000) (h10 : 0 ≤ z4574 ∧ z4574 ≤ 20) (h11 : 0 ≤ z4575 ∧ z4575 ≤ 1000) (h12 : 0 ≤ z5068 ∧ z5068 ≤ 1000) : z5068 < p1 + p2 := by omega
theorem vc_X12_wayRight_8 {f_size p1 p2 z4574 z4575 z5068 : Int} (h0 : p1 + p2 ≤ f_size) (h1 : p1 ≤ z5068) (h2 : z5068 < (p1 + p2)) (h3 : z5068 + 2 ≤ p1 + p2) (h4 : 4 * z4574 ≤ z4575 - p1) (h5 : z4575 ≤ p1 + p2) (h6 : (p1 + p2) ≤ z4575) (h7 : 0 ≤ f_size ∧ f_size ≤ 1000) (h8 : 0 ≤ p1 ∧ p1 ≤ 1000) (h9 : 0 ≤ p2 ∧ p2 ≤ 1000) (h10 : 0 ≤ z4574 ∧ z4574 ≤ 20) (h11 : 0 ≤ z4575 ∧ z4575 ≤ 1000) (h12 : 0 ≤ z5068 ∧ z5068 ≤ 1000) : (z5068 + 1) < f_size := by omega
theorem vc_X12_wayRight_9 {f_size p1 p2 z4574 z4575 z5067 z5068 z5241 : Int} (h0 : 4 * z4574 ≤ z4575 - p1) (h1 : z4574 ≤ 20) (h2 : 1 ≤ z5241 ∧ z5068 + 2 + 4 * z5241 ≤ p1 + p2 ∧ z5241 ≤ z4574 - (z5067 - 966)) (h3 : p1 + p2 ≤ f_size) (h4 : z4575 ≤ p1 + p2) (h5 : (p1 + p2) ≤ z4575) (h6 : p1 ≤ z5068) (h7 : z5068 < (p1 + p2)) (h8 : z5068 + 2 ≤ p1 + p2) (h9 : 0 ≤ f_size ∧ f_size ≤ 1000) (h10 : 0 ≤ p1 ∧ p1 ≤ 1000) (h11 : 0 ≤ p2 ∧ p2 ≤ 1000) (h12 : 0 ≤ z4574 ∧ z4574 ≤ 20) (h13 : 0 ≤ z4575 ∧ z4575 ≤ 1000) (h14 : 966 ≤ z5067 ∧ z5067 ≤ 986) (h15 : 0 ≤ z5068 ∧ z5068 ≤ 1000) (h16 : 0 ≤ z5241 ∧ z5241 ≤ 255) : 1 ≤ z5241 ∧ z5241 ≤ 20 := by omega
theorem vc_X12_wayRight_10 {p1 p2 z4574 z5067 z5068 z5241 z6107 z6108 : Int} (h0 : (987 - z6108) < ((0 : Nat) : Int)) (h1 : z6108 = z5067 + z6107) (h2 : 1 ≤ z5241 ∧ z5068 + 2 + 4 * z5241 ≤ p1 + p2 ∧ z5241 ≤ z4574 - (z5067 - 966)) (h3 : z6107 ≤ z5241) (h4 : 0 ≤ p1 ∧ p1 ≤ 1000) (h5 : 0 ≤ p2 ∧ p2 ≤ 1000) (h6 : 0 ≤ z4574 ∧ z4574 ≤ 20) (h7 : 966 ≤ z5067 ∧ z5067 ≤ 986) (h8 : 0 ≤ z5068 ∧ z5068 ≤ 1000) (h9 : 1 ≤ z5241 ∧ z5241 ≤ 20) (h10 : 0 ≤ z6107 ∧ z6107 ≤ 20) (h11 : 966 ≤ z6108 ∧ z6108 ≤ 986) : False := by omega
theorem vc_X12_wayRight_11 {p1 p2 z4574 z5067 z5068 z5241 z6107 z6108 : Int} (h0 : z5241 ≤ z6107) (h1 : 1 ≤ z5241 ∧ z5068 + 2 + 4 * z5241 ≤ p1 + p2 ∧ z5241 ≤ z4574 - (z5067 - 966)) (h2 : z6108 = z5067 + z6107) (h3 : z6107 ≤ z5241) (h4 : 0 ≤ p1 ∧ p1 ≤ 1000) (h5 : 0 ≤ p2 ∧ p2 ≤ 1000) (h6 : 0 ≤ z4574 ∧ z4574 ≤ 20) (h7 : 966 ≤ z5067 ∧ z5067 ≤ 986) (h8 : 0 ≤ z5068 ∧ z5068 ≤ 1000) (h9 : 1 ≤ z5241 ∧ z5241 ≤ 20) (h10 : 0 ≤ z6107 ∧ z6107 ≤ 20) (h11 : 966 ≤ z6108 ∧ z6108 ≤ 986) : 1 ≤ z6107 ∧ z6107 ≤ 20 := by omega
theorem vc_X12_wayRight_12 {f_size p1 p2 z4574 z4575 z5067 z5068 z5241 z6107 z6108 : Int} (h0 : p1 ≤ z5068) (h1 : z5068 < (p1 + p2)) (h2 : z5068 + 2 ≤ p1 + p2) (h3 : 1 ≤ z5241 ∧ z5068 + 2 + 4 * z5241 ≤ p1 + p2 ∧ z5241 ≤ z4574 - (z5067 - 966)) (h4 : z6107 ≤ z5241) (h5 : z5241 ≤ z6107) (h6 : p1 + p2 ≤ f_size) (h7 : 4 * z4574 ≤ z4575 - p1) (h8 : z4575 ≤ p1 + p2) (h9 : (p1 + p2) ≤ z4575) (h10 : z4574 ≤ 20) (h11 : z6108 = z5067 + z6107) (h12 : 0 ≤ f_size ∧ f_size ≤ 1000) (h13 : 0 ≤ p1 ∧ p1 ≤ 1000) (h14 : 0 ≤ p2 ∧ p2 ≤ 1000) (h15 : 0 ≤ z4574 ∧ z4574 ≤ 20) (h16 : 0 ≤ z4575 ∧ z4575 ≤ 1000) (h17 : 966 ≤ z5067 ∧ z5067 ≤ 986) (h18 : 0 ≤ z5068 ∧ z5068 ≤ 1000) (h19 : 1 ≤ z5241 ∧ z5241 ≤ 20) (h20 : 1 ≤ z6107 ∧ z6107 ≤ 20) (h21 : 966 ≤ z6108 ∧ z6108 ≤ 986) : 0 ≤ (z5068 + (2 + (4 * z5241))) ∧ (z5068 + (2 + (4 * z5241))) ≤ 1000 := by omega
theorem vc_X12_wayRight_13 {f_size p1 p2 z4574 z4575 z5067 z5068 z5241 z6107 z6108 : Int} (h0 : p1 + p2 ≤ f_size) (h1 : 4 * z4574 ≤ z4575 - p1) (h2 : z4575 ≤ p1 + p2) (h3 : (p1 + p2) ≤ z4575) (h4 : p1 ≤ z5068) (h5 : z5068 < (p1 + p2)) (h6 : z5068 + 2 ≤ p1 + p2) (h7 : 1 ≤ z5241 ∧ z5068 + 2 + 4 * z5241 ≤ p1 + p2 ∧ z5241 ≤ z4574 - (z5067 - 966)) (h8 : z6107 ≤ z5241) (h9 : z5241 ≤ z6107) (h10 : z4574 ≤ 20) (h11 : z6108 = z5067 + z6107) (h12 : 0 ≤ f_size ∧ f_size ≤ 1000) (h13 : 0 ≤ p1 ∧ p1 ≤ 1000) (h14 : 0 ≤ p2 ∧ p2 ≤ 1000) (h15 : 0 ≤ z4574 ∧ z4574 ≤ 20) (h16 : 0 ≤ z4575 ∧ z4575 ≤ 1000) (h17 : 966 ≤ z5067 ∧ z5067 ≤ 986) (h18 : 0 ≤ z5068 ∧ z5068 ≤ 1000) (h19 : 1 ≤ z5241 ∧ z5241 ≤ 20) (h20 : 1 ≤ z6107 ∧ z6107 ≤ 20) (h21 : 966 ≤ z6108 ∧ z6108 ≤ 986) : p1 ≤ (z5068 + (2 + (4 * z5241))) := by omega
theorem vc_X12_wayRight_14 {N f_size p1 p2 z4574 z4575 z5067 z5068 z5241 z6107 z6108 : Int} (h0 : (1001 - z5068) < N + 1) (h1 : p1 ≤ z5068) (h2 : z5068 < (p1 + p2)) (h3 : z5068 + 2 ≤ p1 + p2) (h4 : 1 ≤ z5241 ∧ z5068 + 2 + 4 * z5241 ≤ p1 + p2 ∧ z5241 ≤ z4574 - (z5067 - 966)) (h5 : z6107 ≤ z5241) (h6 : z5241 ≤ z6107) (h7 : p1 + p2 ≤ f_size) (h8 : 4 * z4574 ≤ z4575 - p1) (h9 : z4575 ≤ p1 + p2) (h10 : (p1 + p2) ≤ z4575) (h11 : z4574 ≤ 20) (h12 : z6108 = z5067 + z6107) (h13 : 0 ≤ f_size ∧ f_size ≤ 1000) (h14 : 0 ≤ p1 ∧ p1 ≤ 1000) (h15 : 0 ≤ p2 ∧ p2 ≤ 1000) (h16 : 0 ≤ z4574 ∧ z4574 ≤ 20) (h17 : 0 ≤ z4575 ∧ z4575 ≤ 1000) (h18 : 966 ≤ z5067 ∧ z5067 ≤ 986) (h19 : 0 ≤ z5068 ∧ z5068 ≤ 1000) (h20 : 1 ≤ z5241 ∧ z5241 ≤ 20) (h21 : 1 ≤ z6107 ∧ z6107 ≤ 20) (h22 : 966 ≤ z6108 ∧ z6108 ≤ 986) : (1001 - (z5068 + (2 + (4 * z5241)))) < N := by omega
theorem vc_X12_wayRight_15 {f_size p1 p2 z4574 z4575 z5067 z5068 z5241 z6107 z6108 : Int} (h0 : p1 ≤ z5068) (h1 : z5068 < (p1 + p2)) (h2 : z5068 + 2 ≤ p1 + p2) (h3 : 1 ≤ z5241 ∧ z5068 + 2 + 4 * z5241 ≤ p1 + p2 ∧ z5241 ≤ z4574 - (z5067 - 966)) (h4 : z6107 ≤ z5241) (h5 : z5241 ≤ z6107) (h6 : p1 + p2 ≤ f_size) (h7 : 4 * z4574 ≤ z4575 - p1) (h8 : z4575 ≤ p1 + p2) (h9 : (p1 + p2) ≤ z4575) (h10 : z4574 ≤ 20) (h11 : z6108 = z5067 + z6107) (h12 : 0 ≤ f_size ∧ f_size ≤ 1000) (h13 : 0 ≤ p1 ∧ p1 ≤ 1000) (h14 : 0 ≤ p2 ∧ p2 ≤ 1000) (h15 : 0 ≤ z4574 ∧ z4574 ≤ 20) (h16 : 0 ≤ z4575 ∧ z4575 ≤ 1000) (h17 : 966 ≤ z5067 ∧ z5067 ≤ 986) (h18 : 0 ≤ z5068 ∧ z5068 ≤ 1000) (h19 : 1 ≤ z5241 ∧ z5241 ≤ 20) (h20 : 1 ≤ z6107 ∧ z6107 ≤ 20) (h21 : 966 ≤ z6108 ∧ z6108 ≤ 986) : (z5068 + (2 + (4 * z5241))) = z5068 + 2 + 4 * z5241 := by omega
theorem vc_X12_wayRight_16 {f_size p1 p2 z4574 z4575 z5067 z5068 z5241 z6107 z6108 : Int} (h0 : p1 + p2 ≤ f_size) (h1 : 4 * z4574 ≤ z4575 - p1) (h2 : z4575 ≤ p1 + p2) (h3 : (p1 + p2) ≤ z4575) (h4 : z4574 ≤ 20) (h5 : p1 ≤ z5068) (h6 : z5068 < (p1 + p2)) (h7 : z5068 + 2 ≤ p1 + p2) (h8 : 1 ≤ z5241 ∧ z5068 + 2 + 4 * z5241 ≤ p1 + p2 ∧ z5241 ≤ z4574 - (z5067 - 966)) (h9 : z6108 = z5067 + z6107) (h10 : z6107 ≤ z5241) (h11 : z5241 ≤ z6107) (h12 : 0 ≤ f_size ∧ f_size ≤ 1000) (h13 : 0 ≤ p1 ∧ p1 ≤ 1000) (h14 : 0 ≤ p2 ∧ p2 ≤ 1000) (h15 : 0 ≤ z4574 ∧ z4574 ≤ 20) (h16 : 0 ≤ z4575 ∧ z4575 ≤ 1000) (h17 : 966 ≤ z5067 ∧ z5067 ≤ 986) (h18 : 0 ≤ z5068 ∧ z5068 ≤ 1000) (h19 : 1 ≤ z5241 ∧ z5241 ≤ 20) (h20 : 1 ≤ z6107 ∧ z6107 ≤ 20) (h21 : 966 ≤ z6108 ∧ z6108 ≤ 986) : z4574 - (z6108 - 966) = z4574 - (z5067 - 966) - z5241 := by omega
theorem vc_X12_wayRight_17 {p1 p2 z4574 z5067 z5068 z5241 z6107 z6108 : Int} (h0 : z6107 < z5241) (h1 : 1 ≤ z5241 ∧ z5068 + 2 + 4 * z5241 ≤ p1 + p2 ∧ z5241 ≤ z4574 - (z5067 - 966)) (h2 : z6108 = z5067 + z6107) (h3 : z6107 ≤ z5241) (h4 : 0 ≤ p1 ∧ p1 ≤ 1000) (h5 : 0 ≤ p2 ∧ p2 ≤ 1000) (h6 : 0 ≤ z4574 ∧ z4574 ≤ 20) (h7 : 966 ≤ z5067 ∧ z5067 ≤ 986) (h8 : 0 ≤ z5068 ∧ z5068 ≤ 1000) (h9 : 1 ≤ z5241 ∧ z5241 ≤ 20) (h10 : 0 ≤ z6107 ∧ z6107 ≤ 20) (h11 : 966 ≤ z6108 ∧ z6108 ≤ 986) : 0 ≤ z6107 ∧ z6107 ≤ 19 := by omega
theorem vc_X12_wayRight_18 {f_size p1 p2 z4574 z4575 z5067 z5068 z5241 z6107 z6108 : Int} (h0 : p1 ≤ z5068) (h1 : z5068 < (p1 + p2)) (h2 : z5068 + 2 ≤ p1 + p2) (h3 : 1 ≤ z5241 ∧ z5068 + 2 + 4 * z5241 ≤ p1 + p2 ∧ z5241 ≤ z4574 - (z5067 - 966)) (h4 : z6108 = z5067 + z6107) (h5 : z6107 ≤ z5241) (h6 : z6107 < z5241) (h7 : p1 + p2 ≤ f_size) (h8 : 4 * z4574 ≤ z4575 - p1) (h9 : z4575 ≤ p1 + p2) (h10 : (p1 + p2) ≤ z4575) (h11 : z4574 ≤ 20) (h12 : 0 ≤ f_size ∧ f_size ≤ 1000) (h13 : 0 ≤ p1 ∧ p1 ≤ 1000) (h14 : 0 ≤ p2 ∧ p2 ≤ 1000) (h15 : 0 ≤ z4574 ∧ z4574 ≤ 20) (h16 : 0 ≤ z4575 ∧ z4575 ≤ 1000) (h17 : 966 ≤ z5067 ∧ z5067 ≤ 986) (h18 : 0 ≤ z5068 ∧ z5068 ≤ 1000) (h19 : 1 ≤ z5241 ∧ z5241 ≤ 20) (h20 : 0 ≤ z6107 ∧ z6107 ≤ 19) (h21 : 966 ≤ z6108 ∧ z6108 ≤ 986) : 0 ≤ ((z5068 + 2) + (4 * z6107)) ∧ ((z5068 + 2) + (4 * z6107)) ≤ 1000 := by omega
theorem vc_X12_wayRight_19 {f_size p1 p2 z4574 z4575 z5067 z5068 z5241 z6107 z6108 : Int} (h0 : p1 + p2 ≤ f_size) (h1 : p1 ≤ z5068) (h2 : z5068 < (p1 + p2)) (h3 : z5068 + 2 ≤ p1 + p2) (h4 : 1 ≤ z5241 ∧ z5068 + 2 + 4 * z5241 ≤ p1 + p2 ∧ z5241 ≤ z4574 - (z5067 - 966)) (h5 : z6108 = z5067 + z6107) (h6 : z6107 ≤ z5241) (h7 : z6107 < z5241) (h8 : 4 * z4574 ≤ z4575 - p1) (h9 : z4575 ≤ p1 + p2) (h10 : (p1 + p2) ≤ z4575) (h11 : z4574 ≤ 20) (h12 : 0 ≤ f_size ∧ f_size ≤ 1000) (h13 : 0 ≤ p1 ∧ p1 ≤ 1000) (h14 : 0 ≤ p2 ∧ p2 ≤ 1000) (h15 : 0 ≤ z4574 ∧ z4574 ≤ 20) (h16 : 0 ≤ z4575 ∧ z4575 ≤ 1000) (h17 : 966 ≤ z5067 ∧ z5067 ≤ 986) (h18 : 0 ≤ z5068 ∧ z5068 ≤ 1000) (h19 : 1 ≤ z5241 ∧ z5241 ≤ 20) (h20 : 0 ≤ z6107 ∧ z6107 ≤ 19) (h21 : 966 ≤ z6108 ∧ z6108 ≤ 986) : ((z5068 + 2) + (4 * z6107)) + (4 : Int) ≤ f_size := by omega
theorem vc_X12_wayRight_20 {p1 p2 z4574 z5067 z5068 z5241 z6107 z6108 z6285 : Int} (h0 : (z6285 - 965) < ((0 : Nat) : Int)) (h1 : z6285 ≤ z6108) (h2 : z5067 ≤ z6285) (h3 : 1 ≤ z5241 ∧ z5068 + 2 + 4 * z5241 ≤ p1 + p2 ∧ z5241 ≤ z4574 - (z5067 - 966)) (h4 : z6108 = z5067 + z6107) (h5 : 0 ≤ p1 ∧ p1 ≤ 1000) (h6 : 0 ≤ p2 ∧ p2 ≤ 1000) (h7 : 0 ≤ z4574 ∧ z4574 ≤ 20) (h8 : 966 ≤ z5067 ∧ z5067 ≤ 986) (h9 : 0 ≤ z5068 ∧ z5068 ≤ 1000) (h10 : 1 ≤ z5241 ∧ z5241 ≤ 20) (h11 : 0 ≤ z6107 ∧ z6107 ≤ 19) (h12 : 966 ≤ z6108 ∧ z6108 ≤ 986) (h13 : 966 ≤ z6285 ∧ z6285 ≤ 985) : False := by omega
theorem vc_X12_wayRight_21 {f_size p1 p2 z4574 z4575 z5067 z5068 z5241 z6107 z6108 z6285 : Int} (h0 : p1 + p2 ≤ f_size) (h1 : p1 ≤ z5068) (h2 : z5068 < (p1 + p2)) (h3 : z5068 + 2 ≤ p1 + p2) (h4 : 1 ≤ z5241 ∧ z5068 + 2 + 4 * z5241 ≤ p1 + p2 ∧ z5241 ≤ z4574 - (z5067 - 966)) (h5 : 4 * z4574 ≤ z4575 - p1) (h6 : z4575 ≤ p1 + p2) (h7 : (p1 + p2) ≤ z4575) (h8 : z4574 ≤ 20) (h9 : z6108 = z5067 + z6107) (h10 : z6107 ≤ z5241) (h11 : z6107 < z5241) (h12 : z5067 ≤ z6285) (h13 : 0 ≤ f_size ∧ f_size ≤ 1000) (h14 : 0 ≤ p1 ∧ p1 ≤ 1000) (h15 : 0 ≤ p2 ∧ p2 ≤ 1000) (h16 : 0 ≤ z4574 ∧ z4574 ≤ 20) (h17 : 0 ≤ z4575 ∧ z4575 ≤ 1000) (h18 : 966 ≤ z5067 ∧ z5067 ≤ 986) (h19 : 0 ≤ z5068 ∧ z5068 ≤ 1000) (h20 : 1 ≤ z5241 ∧ z5241 ≤ 20) (h21 : 0 ≤ z6107 ∧ z6107 ≤ 19) (h22 : 966 ≤ z6108 ∧ z6108 ≤ 986) (h23 : 966 ≤ z6285 ∧ z6285 ≤ 985) : z5068 < f_size := by omega
theorem vc_X12_wayRight_22 {p1 p2 z4574 z5067 z5068 z5241 z6107 z6108 z6194 z6285 : Int} (h0 : (4 : Int) ≤ 2 → 0 ≤ z6194 ∧ z6194 ≤ 65535) (h1 : z6285 ≤ z6108) (h2 : z5067 ≤ z6285) (h3 : 1 ≤ z5241 ∧ z5068 + 2 + 4 * z5241 ≤ p1 + p2 ∧ z5241 ≤ z4574 - (z5067 - 966)) (h4 : z6108 = z5067 + z6107) (h5 : 0 ≤ p1 ∧ p1 ≤ 1000) (h6 : 0 ≤ p2 ∧ p2 ≤ 1000) (h7 : 0 ≤ z4574 ∧ z4574 ≤ 20) (h8 : 966 ≤ z5067 ∧ z5067 ≤ 986) (h9 : 0 ≤ z5068 ∧ z5068 ≤ 1000) (h10 : 1 ≤ z5241 ∧ z5241 ≤ 20) (h11 : 0 ≤ z6107 ∧ z6107 ≤ 19) (h12 : 966 ≤ z6108 ∧ z6108 ≤ 986) (h13 : (-2147483648) ≤ z6194 ∧ z6194 ≤ 2147483647) (h14 : 966 ≤ z6285 ∧ z6285 ≤ 985) : (-2147483648 ≤ z6194 ∧ z6194 ≤ 2147483647) ∧ (z6285 % 40 = 0 → -1 ≤ z6194 ∧ z6194 ≤ 9) ∧ (z6285 % 40 = 4 → 0 ≤ z6194 ∧ z6194 ≤ 20) ∧ (z6285 % 40 = 5 → 0 ≤ z6194 ∧ z6194 ≤ 8) := by omega
theorem vc_X12_wayRight_23 {p1 p2 z4574 z5067 z5068 z5241 z6107 z6108 z6285 : Int} (h0 : z6108 = z5067 + z6107) (h1 : z6285 ≤ z6108) (h2 : 1 ≤ z5241 ∧ z5068 + 2 + 4 * z5241 ≤ p1 + p2 ∧ z5241 ≤ z4574 - (z5067 - 966)) (h3 : z6107 ≤ z5241) (h4 : z6107 < z5241) (h5 : z5067 ≤ z6285) (h6 : 0 ≤ p1 ∧ p1 ≤ 1000) (h7 : 0 ≤ p2 ∧ p2 ≤ 1000) (h8 : 0 ≤ z4574 ∧ z4574 ≤ 20) (h9 : 966 ≤ z5067 ∧ z5067 ≤ 986) (h10 : 0 ≤ z5068 ∧ z5068 ≤ 1000) (h11 : 1 ≤ z5241 ∧ z5241 ≤ 20) (h12 : 0 ≤ z6107 ∧ z6107 ≤ 19) (h13 : 966 ≤ z6108 ∧ z6108 ≤ 986) (h14 : 966 ≤ z6285 ∧ z6285 ≤ 985) : 966 ≤ (z6108 + 1) ∧ (z6108 + 1) ≤ 986 := by omega
theorem vc_X12_wayRight_24 {f_size p1 p2 z4574 z4575 z5067 z5068 z5241 z6107 z6108 z6285 : Int} (h0 : 1 ≤ z5241 ∧ z5068 + 2 + 4 * z5241 ≤ p1 + p2 ∧ z5241 ≤ z4574 - (z5067 - 966)) (h1 : z6108 = z5067 + z6107) (h2 : z6107 ≤ z5241) (h3 : z6107 < z5241) (h4 : z6285 ≤ z6108) (h5 : z5067 ≤ z6285) (h6 : p1 + p2 ≤ f_size) (h7 : 4 * z4574 ≤ z4575 - p1) (h8 : z4575 ≤ p1 + p2) (h9 : (p1 + p2) ≤ z4575) (h10 : z4574 ≤ 20) (h11 : p1 ≤ z5068) (h12 : z5068 < (p1 + p2)) (h13 : z5068 + 2 ≤ p1 + p2) (h14 : 0 ≤ f_size ∧ f_size ≤ 1000) (h15 : 0 ≤ p1 ∧ p1 ≤ 1000) (h16 : 0 ≤ p2 ∧ p2 ≤ 1000) (h17 : 0 ≤ z4574 ∧ z4574 ≤ 20) (h18 : 0 ≤ z4575 ∧ z4575 ≤ 1000) (h19 : 966 ≤ z5067 ∧ z5067 ≤ 986) (h20 : 0 ≤ z5068 ∧ z5068 ≤ 1000) (h21 : 1 ≤ z5241 ∧ z5241 ≤ 20) (h22 : 0 ≤ z6107 ∧ z6107 ≤ 19) (h23 : 966 ≤ z6108 ∧ z6108 ≤ 986) (h24 : 966 ≤ z6285 ∧ z6285 ≤ 985) : (z6108 + 1) = z5067 + (z6107 + 1) := by omega
theorem vc_X12_wayRight_25 {f_size p1 p2 z4574 z4575 z5067 z5068 z5241 z6107 z6108 z6285 : Int} (h0 : 1 ≤ z5241 ∧ z5068 + 2 + 4 * z5241 ≤ p1 + p2 ∧ z5241 ≤ z4574 - (z5067 - 966)) (h1 : z6108 = z5067 + z6107) (h2 : z6107 ≤ z5241) (h3 : z6107 < z5241) (h4 : p1 + p2 ≤ f_size) (h5 : 4 * z4574 ≤ z4575 - p1) (h6 : z4575 ≤ p1 + p2) (h7 : (p1 + p2) ≤ z4575) (h8 : z4574 ≤ 20) (h9 : p1 ≤ z5068) (h10 : z5068 < (p1 + p2)) (h11 : z5068 + 2 ≤ p1 + p2) (h12 : z6285 ≤ z6108) (h13 : z5067 ≤ z6285) (h14 : 0 ≤ f_size ∧ f_size ≤ 1000) (h15 : 0 ≤ p1 ∧ p1 ≤ 1000) (h16 : 0 ≤ p2 ∧ p2 ≤ 1000) (h17 : 0 ≤ z4574 ∧ z4574 ≤ 20) (h18 : 0 ≤ z4575 ∧ z4575 ≤ 1000) (h19 : 966 ≤ z5067 ∧ z5067 ≤ 986) (h20 : 0 ≤ z5068 ∧ z5068 ≤ 1000) (h21 : 1 ≤ z5241 ∧ z5241 ≤ 20) (h22 : 0 ≤ z6107 ∧ z6107 ≤ 19) (h23 : 966 ≤ z6108 ∧ z6108 ≤ 986) (h24 : 966 ≤ z6285 ∧ z6285 ≤ 985) : (z6107 + 1) ≤ z5241 := by omega
theorem vc_X12_wayRight_26 {N p1 p2 z4574 z5067 z5068 z5241 z6107 z6108 z6285 : Int} (h0 : (987 - z6108) < N + 1) (h1 : z6108 = z5067 + z6107) (h2 : z6285 ≤ z6108) (h3 : 1 ≤ z5241 ∧ z5068 + 2 + 4 * z5241 ≤ p1 + p2 ∧ z5241 ≤ z4574 - (z5067 - 966)) (h4 : z6107 ≤ z5241) (h5 : z6107 < z5241) (h6 : z5067 ≤ z6285) (h7 : 0 ≤ p1 ∧ p1 ≤ 1000) (h8 : 0 ≤ p2 ∧ p2 ≤ 1000) (h9 : 0 ≤ z4574 ∧ z4574 ≤ 20) (h10 : 966 ≤ z5067 ∧ z5067 ≤ 986) (h11 : 0 ≤ z5068 ∧ z5068 ≤ 1000) (h12 : 1 ≤ z5241 ∧ z5241 ≤ 20) (h13 : 0 ≤ z6107 ∧ z6107 ≤ 19) (h14 : 966 ≤ z6108 ∧ z6108 ≤ 986) (h15 : 966 ≤ z6285 ∧ z6285 ≤ 985) : (987 - (z6108 + 1)) < N := by omega
theorem vc_X12_wayRight_27 {p1 p2 z4574 z5067 z5068 z5241 z6107 z6108 z6285 : Int} (h0 : z6285 ≤ z6108) (h1 : z5067 ≤ z6285) (h2 : 1 ≤ z5241 ∧ z5068 + 2 + 4 * z5241 ≤ p1 + p2 ∧ z5241 ≤ z4574 - (z5067 - 966)) (h3 : z6108 = z5067 + z6107) (h4 : 0 ≤ p1 ∧ p1 ≤ 1000) (h5 : 0 ≤ p2 ∧ p2 ≤ 1000) (h6 : 0 ≤ z4574 ∧ z4574 ≤ 20) (h7 : 966 ≤ z5067 ∧ z5067 ≤ 986) (h8 : 0 ≤ z5068 ∧ z5068 ≤ 1000) (h9 : 1 ≤ z5241 ∧ z5241 ≤ 20) (h10 : 0 ≤ z6107 ∧ z6107 ≤ 19) (h11 : 966 ≤ z6108 ∧ z6108 ≤ 986) (h12 : 966 ≤ z6285 ∧ z6285 ≤ 985) : 0 ≤ z6285 ∧ 964 ≤ z6285 ∧ z6285 < 986 := by omega
theorem vc_X12_wayRight_28 {z6300 : Int} (h0 : z6300 = 1) (h1 : 0 ≤ z6300 ∧ z6300 ≤ 255) : 1 ≤ z6300 ∧ z6300 ≤ 1 := by omega
theorem vc_X12_wayRight_29 {p1 p2 z4574 z5067 z5068 z5241 z6107 z6108 z6285 : Int} (h0 : z5067 < z6285) (h1 : 1 ≤ z5241 ∧ z5068 + 2 + 4 * z5241 ≤ p1 + p2 ∧ z5241 ≤ z4574 - (z5067 - 966)) (h2 : z6108 = z5067 + z6107) (h3 : z6285 ≤ z6108) (h4 : z5067 ≤ z6285) (h5 : 0 ≤ p1 ∧ p1 ≤ 1000) (h6 : 0 ≤ p2 ∧ p2 ≤ 1000) (h7 : 0 ≤ z4574 ∧ z4574 ≤ 20) (h8 : 966 ≤ z5067 ∧ z5067 ≤ 986) (h9 : 0 ≤ z5068 ∧ z5068 ≤ 1000) (h10 : 1 ≤ z5241 ∧ z5241 ≤ 20) (h11 : 0 ≤ z6107 ∧ z6107 ≤ 19) (h12 : 966 ≤ z6108 ∧ z6108 ≤ 986) (h13 : 966 ≤ z6285 ∧ z6285 ≤ 985) : 967 ≤ z6285 ∧ z6285 ≤ 985 := by omega
theorem vc_X12_wayRight_30 {p1 p2 z4574 z5067 z5068 z5241 z6107 z6108 z6285 : Int} (h0 : z5067 < z6285) (h1 : 1 ≤ z5241 ∧ z5068 + 2 + 4 * z5241 ≤ p1 + p2 ∧ z5241 ≤ z4574 - (z5067 - 966)) (h2 : z6108 = z5067 + z6107) (h3 : z6285 ≤ z6108) (h4 : z5067 ≤ z6285) (h5 : 0 ≤ p1 ∧ p1 ≤ 1000) (h6 : 0 ≤ p2 ∧ p2 ≤ 1000) (h7 : 0 ≤ z4574 ∧ z4574 ≤ 20) (h8 : 966 ≤ z5067 ∧ z5067 ≤ 986) (h9 : 0 ≤ z5068 ∧ z5068 ≤ 1000) (h10 : 1 ≤ z5241 ∧ z5241 ≤ 20) (h11 : 0 ≤ z6107 ∧ z6107 ≤ 19) (h12 : 966 ≤ z6108 ∧ z6108 ≤ 986) (h13 : 967 ≤ z6285 ∧ z6285 ≤ 985) : 966 ≤ z5067 ∧ z5067 ≤ 984 := by omega
theorem vc_X12_wayRight_31 {z6194 z6328 z6335 : Int} (h0 : z6335 = 0) (h1 : (z6335 = 1 → z6194 % 4294967296 < z6328 % 4294967296)) (h2 : (z6335 = 0 → z6328 % 4294967296 ≤ z6194 % 4294967296)) (h3 : (-2147483648) ≤ z6194 ∧ z6194 ≤ 2147483647) (h4 : (-2147483648) ≤ z6328 ∧ z6328 ≤ 2147483647) (h5 : 0 ≤ z6335 ∧ z6335 ≤ 1) : 0 ≤ z6335 ∧ z6335 ≤ 0 := by omega
theorem vc_X12_wayRight_32 {z6194 z6285 z6328 z6335 : Int} (h0 : (z6335 = 1 → z6194 % 4294967296 < z6328 % 4294967296)) (h1 : (z6335 = 0 → z6328 % 4294967296 ≤ z6194 % 4294967296)) (h2 : z6335 = 0) (h3 : (4 : Int) ≤ 2 → 0 ≤ z6194 ∧ z6194 ≤ 65535) (h4 : ((z6285 - 1) % 40 = 0 → -1 ≤ z6328 ∧ z6328 ≤ 9)) (h5 : ((z6285 - 1) % 40 = 4 → 0 ≤ z6328 ∧ z6328 ≤ 20)) (h6 : ((z6285 - 1) % 40 = 5 → 0 ≤ z6328 ∧ z6328 ≤ 8)) (h7 : (-2147483648) ≤ z6194 ∧ z6194 ≤ 2147483647) (h8 : 967 ≤ z6285 ∧ z6285 ≤ 985) (h9 : (-2147483648) ≤ z6328 ∧ z6328 ≤ 2147483647) (h10 : 0 ≤ z6335 ∧ z6335 ≤ 0) : z6335 = 0 := by omega
theorem vc_X12_wayRight_33 {z6194 z6328 z6335 : Int} (h0 : ¬ z6335 = 0) (h1 : (z6335 = 1 → z6194 % 4294967296 < z6328 % 4294967296)) (h2 : (z6335 = 0 → z6328 % 4294967296 ≤ z6194 % 4294967296)) (h3 : (-2147483648) ≤ z6194 ∧ z6194 ≤ 2147483647) (h4 : (-2147483648) ≤ z6328 ∧ z6328 ≤ 2147483647) (h5 : 0 ≤ z6335 ∧ z6335 ≤ 1) : 1 ≤ z6335 ∧ z6335 ≤ 1 := by omega
theorem vc_X12_wayRight_34 {z6194 z6285 z6328 z6335 : Int} (h0 : (z6335 = 1 → z6194 % 4294967296 < z6328 % 4294967296)) (h1 : (z6335 = 0 → z6328 % 4294967296 ≤ z6194 % 4294967296)) (h2 : ¬ z6335 = 0) (h3 : (4 : Int) ≤ 2 → 0 ≤ z6194 ∧ z6194 ≤ 65535) (h4 : ((z6285 - 1) % 40 = 0 → -1 ≤ z6328 ∧ z6328 ≤ 9)) (h5 : ((z6285 - 1) % 40 = 4 → 0 ≤ z6328 ∧ z6328 ≤ 20)) (h6 : ((z6285 - 1) % 40 = 5 → 0 ≤ z6328 ∧ z6328 ≤ 8)) (h7 : (-2147483648) ≤ z6194 ∧ z6194 ≤ 2147483647) (h8 : 967 ≤ z6285 ∧ z6285 ≤ 985) (h9 : (-2147483648) ≤ z6328 ∧ z6328 ≤ 2147483647) (h10 : 1 ≤ z6335 ∧ z6335 ≤ 1) : z6335 = 1 := by omega
theorem vc_X12_wayRight_35 {p1 p2 z4574 z5067 z5068 z5241 z6107 z6108 z6194 z6285 z6328 z6335 : Int} (h0 : z6285 ≤ z6108) (h1 : z5067 ≤ z6285) (h2 : z5067 < z6285) (h3 : ((z6285 - 1) % 40 = 0 → -1 ≤ z6328 ∧ z6328 ≤ 9)) (h4 : ((z6285 - 1) % 40 = 4 → 0 ≤ z6328 ∧ z6328 ≤ 20)) (h5 : ((z6285 - 1) % 40 = 5 → 0 ≤ z6328 ∧ z6328 ≤ 8)) (h6 : (z6335 = 1 → z6194 % 4294967296 < z6328 % 4294967296)) (h7 : (z6335 = 0 → z6328 % 4294967296 ≤ z6194 % 4294967296)) (h8 : z6194 % 4294967296 < z6328 % 4294967296) (h9 : 1 ≤ z5241 ∧ z5068 + 2 + 4 * z5241 ≤ p1 + p2 ∧ z5241 ≤ z4574 - (z5067 - 966)) (h10 : z6108 = z5067 + z6107) (h11 : (4 : Int) ≤ 2 → 0 ≤ z6194 ∧ z6194 ≤ 65535) (h12 : ¬ z6335 = 0) (h13 : 0 ≤ p1 ∧ p1 ≤ 1000) (h14 : 0 ≤ p2 ∧ p2 ≤ 1000) (h15 : 0 ≤ z4574 ∧ z4574 ≤ 20) (h16 : 966 ≤ z5067 ∧ z5067 ≤ 984) (h17 : 0 ≤ z5068 ∧ z5068 ≤ 1000) (h18 : 1 ≤ z5241 ∧ z5241 ≤ 20) (h19 : 0 ≤ z6107 ∧ z6107 ≤ 19) (h20 : 966 ≤ z6108 ∧ z6108 ≤ 986) (h21 : (-2147483648) ≤ z6194 ∧ z6194 ≤ 2147483647) (h22 : 967 ≤ z6285 ∧ z6285 ≤ 985) (h23 : (-2147483648) ≤ z6328 ∧ z6328 ≤ 2147483647) (h24 : 1 ≤ z6335 ∧ z6335 ≤ 1) : (-2147483648 ≤ z6328 ∧ z6328 ≤ 2147483647) ∧ (z6285 % 40 = 0 → -1 ≤ z6328 ∧ z6328 ≤ 9) ∧ (z6285 % 40 = 4 → 0 ≤ z6328 ∧ z6328 ≤ 20) ∧ (z6285 % 40 = 5 → 0 ≤ z6328 ∧ z6328 ≤ 8) := by omega
theorem vc_X12_wayRight_36 {p1 p2 z4574 z5067 z5068 z5241 z6107 z6108 z6194 z6285 z6328 z6335 : Int} (h0 : z6108 = z5067 + z6107) (h1 : z6285 ≤ z6108) (h2 : z5067 ≤ z6285) (h3 : z5067 < z6285) (h4 : ((z6285 - 1) % 40 = 0 → -1 ≤ z6328 ∧ z6328 ≤ 9)) (h5 : ((z6285 - 1) % 40 = 4 → 0 ≤ z6328 ∧ z6328 ≤ 20)) (h6 : ((z6285 - 1) % 40 = 5 → 0 ≤ z6328 ∧ z6328 ≤ 8)) (h7 : 1 ≤ z5241 ∧ z5068 + 2 + 4 * z5241 ≤ p1 + p2 ∧ z5241 ≤ z4574 - (z5067 - 966)) (h8 : z6107 ≤ z5241) (h9 : z6107 < z5241) (h10 : (z6335 = 1 → z6194 % 4294967296 < z6328 % 4294967296)) (h11 : (z6335 = 0 → z6328 % 4294967296 ≤ z6194 % 4294967296)) (h12 : z6194 % 4294967296 < z6328 % 4294967296) (h13 : 0 ≤ p1 ∧ p1 ≤ 1000) (h14 : 0 ≤ p2 ∧ p2 ≤ 1000) (h15 : 0 ≤ z4574 ∧ z4574 ≤ 20) (h16 : 966 ≤ z5067 ∧ z5067 ≤ 984) (h17 : 0 ≤ z5068 ∧ z5068 ≤ 1000) (h18 : 1 ≤ z5241 ∧ z5241 ≤ 20) (h19 : 0 ≤ z6107 ∧ z6107 ≤ 19) (h20 : 966 ≤ z6108 ∧ z6108 ≤ 986) (h21 : (-2147483648) ≤ z6194 ∧ z6194 ≤ 2147483647) (h22 : 967 ≤ z6285 ∧ z6285 ≤ 985) (h23 : (-2147483648) ≤ z6328 ∧ z6328 ≤ 2147483647) (h24 : 1 ≤ z6335 ∧ z6335 ≤ 1) : (z6285 + (-1)) ≤ z6108 := by omega
theorem vc_X12_wayRight_37 {f_size p1 p2 z4574 z4575 z5067 z5068 z5241 z6107 z6108 z6194 z6285 z6328 z6335 : Int} (h0 : 1 ≤ z5241 ∧ z5068 + 2 + 4 * z5241 ≤ p1 + p2 ∧ z5241 ≤ z4574 - (z5067 - 966)) (h1 : z6108 = z5067 + z6107) (h2 : z6285 ≤ z6108) (h3 : z5067 ≤ z6285) (h4 : z5067 < z6285) (h5 : ((z6285 - 1) % 40 = 0 → -1 ≤ z6328 ∧ z6328 ≤ 9)) (h6 : ((z6285 - 1) % 40 = 4 → 0 ≤ z6328 ∧ z6328 ≤ 20)) (h7 : ((z6285 - 1) % 40 = 5 → 0 ≤ z6328 ∧ z6328 ≤ 8)) (h8 : p1 + p2 ≤ f_size) (h9 : 4 * z4574 ≤ z4575 - p1) (h10 : z4575 ≤ p1 + p2) (h11 : (p1 + p2) ≤ z4575) (h12 : z4574 ≤ 20) (h13 : p1 ≤ z5068) (h14 : z5068 < (p1 + p2)) (h15 : z5068 + 2 ≤ p1 + p2) (h16 : z6107 ≤ z5241) (h17 : z6107 < z5241) (h18 : (z6335 = 1 → z6194 % 4294967296 < z6328 % 4294967296)) (h19 : (z6335 = 0 → z6328 % 4294967296 ≤ z6194 % 4294967296)) (h20 : z6194 % 4294967296 < z6328 % 4294967296) (h21 : 0 ≤ f_size ∧ f_size ≤ 1000) (h22 : 0 ≤ p1 ∧ p1 ≤ 1000) (h23 : 0 ≤ p2 ∧ p2 ≤ 1000) (h24 : 0 ≤ z4574 ∧ z4574 ≤ 20) (h25 : 0 ≤ z4575 ∧ z4575 ≤ 1000) (h26 : 966 ≤ z5067 ∧ z5067 ≤ 984) (h27 : 0 ≤ z5068 ∧ z5068 ≤ 1000) (h28 : 1 ≤ z5241 ∧ z5241 ≤ 20) (h29 : 0 ≤ z6107 ∧ z6107 ≤ 19) (h30 : 966 ≤ z6108 ∧ z6108 ≤ 986) (h31 : (-2147483648) ≤ z6194 ∧ z6194 ≤ 2147483647) (h32 : 967 ≤ z6285 ∧ z6285 ≤ 985) (h33 : (-2147483648) ≤ z6328 ∧ z6328 ≤ 2147483647) (h34 : 1 ≤ z6335 ∧ z6335 ≤ 1) : z5067 ≤ (z6285 + (-1)) := by omega
theorem vc_X12_wayRight_38 {N p1 p2 z4574 z5067 z5068 z5241 z6107 z6108 z6194 z6285 z6328 z6335 : Int} (h0 : (z6285 - 965) < N + 1) (h1 : z6285 ≤ z6108) (h2 : z5067 ≤ z6285) (h3 : z5067 < z6285) (h4 : ((z6285 - 1) % 40 = 0 → -1 ≤ z6328 ∧ z6328 ≤ 9)) (h5 : ((z6285 - 1) % 40 = 4 → 0 ≤ z6328 ∧ z6328 ≤ 20)) (h6 : ((z6285 - 1) % 40 = 5 → 0 ≤ z6328 ∧ z6328 ≤ 8)) (h7 : 1 ≤ z5241 ∧ z5068 + 2 + 4 * z5241 ≤ p1 + p2 ∧ z5241 ≤ z4574 - (z5067 - 966)) (h8 : z6108 = z5067 + z6107) (h9 : (z6335 = 1 → z6194 % 4294967296 < z6328 % 4294967296)) (h10 : (z6335 = 0 → z6328 % 4294967296 ≤ z6194 % 4294967296)) (h11 : z6194 % 4294967296 < z6328 % 4294967296) (h12 : 0 ≤ p1 ∧ p1 ≤ 1000) (h13 : 0 ≤ p2 ∧ p2 ≤ 1000) (h14 : 0 ≤ z4574 ∧ z4574 ≤ 20) (h15 : 966 ≤ z5067 ∧ z5067 ≤ 984) (h16 : 0 ≤ z5068 ∧ z5068 ≤ 1000) (h17 : 1 ≤ z5241 ∧ z5241 ≤ 20) (h18 : 0 ≤ z6107 ∧ z6107 ≤ 19) (h19 : 966 ≤ z6108 ∧ z6108 ≤ 986) (h20 : (-2147483648) ≤ z6194 ∧ z6194 ≤ 2147483647) (h21 : 967 ≤ z6285 ∧ z6285 ≤ 985) (h22 : (-2147483648) ≤ z6328 ∧ z6328 ≤ 2147483647) (h23 : 1 ≤ z6335 ∧ z6335 ≤ 1) : ((z6285 + (-1)) - 965) < N := by omega
theorem vc_X12_wayRight_39 {p1 p2 z4574 z5067 z5068 z5241 z6107 z6108 z6194 z6285 z6328 z6335 : Int} (h0 : z6285 ≤ z6108) (h1 : z5067 ≤ z6285) (h2 : z5067 < z6285) (h3 : ((z6285 - 1) % 40 = 0 → -1 ≤ z6328 ∧ z6328 ≤ 9)) (h4 : ((z6285 - 1) % 40 = 4 → 0 ≤ z6328 ∧ z6328 ≤ 20)) (h5 : ((z6285 - 1) % 40 = 5 → 0 ≤ z6328 ∧ z6328 ≤ 8)) (h6 : 1 ≤ z5241 ∧ z5068 + 2 + 4 * z5241 ≤ p1 + p2 ∧ z5241 ≤ z4574 - (z5067 - 966)) (h7 : z6108 = z5067 + z6107) (h8 : (z6335 = 1 → z6194 % 4294967296 < z6328 % 4294967296)) (h9 : (z6335 = 0 → z6328 % 4294967296 ≤ z6194 % 4294967296)) (h10 : z6194 % 4294967296 < z6328 % 4294967296) (h11 : 0 ≤ p1 ∧ p1 ≤ 1000) (h12 : 0 ≤ p2 ∧ p2 ≤ 1000) (h13 : 0 ≤ z4574 ∧ z4574 ≤ 20) (h14 : 966 ≤ z5067 ∧ z5067 ≤ 984) (h15 : 0 ≤ z5068 ∧ z5068 ≤ 1000) (h16 : 1 ≤ z5241 ∧ z5241 ≤ 20) (h17 : 0 ≤ z6107 ∧ z6107 ≤ 19) (h18 : 966 ≤ z6108 ∧ z6108 ≤ 986) (h19 : (-2147483648) ≤ z6194 ∧ z6194 ≤ 2147483647) (h20 : 967 ≤ z6285 ∧ z6285 ≤ 985) (h21 : (-2147483648) ≤ z6328 ∧ z6328 ≤ 2147483647) (h22 : 1 ≤ z6335 ∧ z6335 ≤ 1) : 0 ≤ z6285 ∧ 964 ≤ z6285 ∧ z6285 < 986 := by omega
theorem vc_X12_wayRight_40 {p1 p2 z4574 z5067 z5068 z5241 z6107 z6108 : Int} (h0 : z6108 = z5067 + z6107) (h1 : 1 ≤ z5241 ∧ z5068 + 2 + 4 * z5241 ≤ p1 + p2 ∧ z5241 ≤ z4574 - (z5067 - 966)) (h2 : z6107 ≤ z5241) (h3 : z6107 < z5241) (h4 : 0 ≤ p1 ∧ p1 ≤ 1000) (h5 : 0 ≤ p2 ∧ p2 ≤ 1000) (h6 : 0 ≤ z4574 ∧ z4574 ≤ 20) (h7 : 966 ≤ z5067 ∧ z5067 ≤ 986) (h8 : 0 ≤ z5068 ∧ z5068 ≤ 1000) (h9 : 1 ≤ z5241 ∧ z5241 ≤ 20) (h10 : 0 ≤ z6107 ∧ z6107 ≤ 19) (h11 : 966 ≤ z6108 ∧ z6108 ≤ 986) : 966 ≤ z6108 ∧ z6108 ≤ 985 := by omega
theorem vc_X12_wayRight_41 {p1 p2 z4574 z5067 z5068 z5241 z6107 z6108 : Int} (h0 : z6108 = z5067 + z6107) (h1 : 1 ≤ z5241 ∧ z5068 + 2 + 4 * z5241 ≤ p1 + p2 ∧ z5241 ≤ z4574 - (z5067 - 966)) (h2 : z6107 ≤ z5241) (h3 : z6107 < z5241) (h4 : 0 ≤ p1 ∧ p1 ≤ 1000) (h5 : 0 ≤ p2 ∧ p2 ≤ 1000) (h6 : 0 ≤ z4574 ∧ z4574 ≤ 20) (h7 : 966 ≤ z5067 ∧ z5067 ≤ 986) (h8 : 0 ≤ z5068 ∧ z5068 ≤ 1000) (h9 : 1 ≤ z5241 ∧ z5241 ≤ 20) (h10 : 0 ≤ z6107 ∧ z6107 ≤ 19) (h11 : 966 ≤ z6108 ∧ z6108 ≤ 986) : z6108 ≤ z6108 := by omega
theorem vc_X12_wayRight_42 {f_size p1 p2 z4574 z4575 z5067 z5068 z5241 z6107 z6108 : Int} (h0 : 1 ≤ z5241 ∧ z5068 + 2 + 4 * z5241 ≤ p1 + p2 ∧ z5241 ≤ z4574 - (z5067 - 966)) (h1 : z6108 = z5067 + z6107) (h2 : p1 + p2 ≤ f_size) (h3 : 4 * z4574 ≤ z4575 - p1) (h4 : z4575 ≤ p1 + p2) (h5 : (p1 + p2) ≤ z4575) (h6 : z4574 ≤ 20) (h7 : p1 ≤ z5068) (h8 : z5068 < (p1 + p2)) (h9 : z5068 + 2 ≤ p1 + p2) (h10 : z6107 ≤ z5241) (h11 : z6107 < z5241) (h12 : 0 ≤ f_size ∧ f_size ≤ 1000) (h13 : 0 ≤ p1 ∧ p1 ≤ 1000) (h14 : 0 ≤ p2 ∧ p2 ≤ 1000) (h15 : 0 ≤ z4574 ∧ z4574 ≤ 20) (h16 : 0 ≤ z4575 ∧ z4575 ≤ 1000) (h17 : 966 ≤ z5067 ∧ z5067 ≤ 986) (h18 : 0 ≤ z5068 ∧ z5068 ≤ 1000) (h19 : 1 ≤ z5241 ∧ z5241 ≤ 20) (h20 : 0 ≤ z6107 ∧ z6107 ≤ 19) (h21 : 966 ≤ z6108 ∧ z6108 ≤ 986) : z5067 ≤ z6108 := by omega
theorem vc_X12_wayRight_43 {p1 p2 z4574 z5067 z5068 z5241 z6107 z6108 : Int} (h0 : z6108 = z5067 + z6107) (h1 : 1 ≤ z5241 ∧ z5068 + 2 + 4 * z5241 ≤ p1 + p2 ∧ z5241 ≤ z4574 - (z5067 - 966)) (h2 : z6107 ≤ z5241) (h3 : z6107 < z5241) (h4 : 0 ≤ p1 ∧ p1 ≤ 1000) (h5 : 0 ≤ p2 ∧ p2 ≤ 1000) (h6 : 0 ≤ z4574 ∧ z4574 ≤ 20) (h7 : 966 ≤ z5067 ∧ z5067 ≤ 986) (h8 : 0 ≤ z5068 ∧ z5068 ≤ 1000) (h9 : 1 ≤ z5241 ∧ z5241 ≤ 20) (h10 : 0 ≤ z6107 ∧ z6107 ≤ 19) (h11 : 966 ≤ z6108 ∧ z6108 ≤ 986) : (z6108 - 965) < ((22 : Nat) : Int) := by omega
theorem vc_X12_wayRight_44 {f_size p1 p2 z4574 z4575 z5067 z5068 z5241 : Int} (h0 : 1 ≤ z5241 ∧ z5068 + 2 + 4 * z5241 ≤ p1 + p2 ∧ z5241 ≤ z4574 - (z5067 - 966)) (h1 : p1 + p2 ≤ f_size) (h2 : 4 * z4574 ≤ z4575 - p1) (h3 : z4575 ≤ p1 + p2) (h4 : (p1 + p2) ≤ z4575) (h5 : z4574 ≤ 20) (h6 : p1 ≤ z5068) (h7 : z5068 < (p1 + p2)) (h8 : z5068 + 2 ≤ p1 + p2) (h9 : 0 ≤ f_size ∧ f_size ≤ 1000) (h10 : 0 ≤ p1 ∧ p1 ≤ 1000) (h11 : 0 ≤ p2 ∧ p2 ≤ 1000) (h12 : 0 ≤ z4574 ∧ z4574 ≤ 20) (h13 : 0 ≤ z4575 ∧ z4575 ≤ 1000) (h14 : 966 ≤ z5067 ∧ z5067 ≤ 986) (h15 : 0 ≤ z5068 ∧ z5068 ≤ 1000) (h16 : 1 ≤ z5241 ∧ z5241 ≤ 20) : z5067 = z5067 + (0 : Int) := by omega
theorem vc_X12_wayRight_45 {f_size p1 p2 z4574 z4575 z5067 z5068 z5241 : Int} (h0 : 1 ≤ z5241 ∧ z5068 + 2 + 4 * z5241 ≤ p1 + p2 ∧ z5241 ≤ z4574 - (z5067 - 966)) (h1 : p1 + p2 ≤ f_size) (h2 : 4 * z4574 ≤ z4575 - p1) (h3 : z4575 ≤ p1 + p2) (h4 : (p1 + p2) ≤ z4575) (h5 : z4574 ≤ 20) (h6 : p1 ≤ z5068) (h7 : z5068 < (p1 + p2)) (h8 : z5068 + 2 ≤ p1 + p2) (h9 : 0 ≤ f_size ∧ f_size ≤ 1000) (h10 : 0 ≤ p1 ∧ p1 ≤ 1000) (h11 : 0 ≤ p2 ∧ p2 ≤ 1000) (h12 : 0 ≤ z4574 ∧ z4574 ≤ 20) (h13 : 0 ≤ z4575 ∧ z4575 ≤ 1000) (h14 : 966 ≤ z5067 ∧ z5067 ≤ 986) (h15 : 0 ≤ z5068 ∧ z5068 ≤ 1000) (h16 : 1 ≤ z5241 ∧ z5241 ≤ 20) : (0 : Int) ≤ z5241 := by omega
theorem vc_X12_wayRight_46 {f_size p1 p2 z4574 z4575 z5067 z5068 z5241 : Int} (h0 : 1 ≤ z5241 ∧ z5068 + 2 + 4 * z5241 ≤ p1 + p2 ∧ z5241 ≤ z4574 - (z5067 - 966)) (h1 : p1 + p2 ≤ f_size) (h2 : 4 * z4574 ≤ z4575 - p1) (h3 : z4575 ≤ p1 + p2) (h4 : (p1 + p2) ≤ z4575) (h5 : z4574 ≤ 20) (h6 : p1 ≤ z5068) (h7 : z5068 < (p1 + p2)) (h8 : z5068 + 2 ≤ p1 + p2) (h9 : 0 ≤ f_size ∧ f_size ≤ 1000) (h10 : 0 ≤ p1 ∧ p1 ≤ 1000) (h11 : 0 ≤ p2 ∧ p2 ≤ 1000) (h12 : 0 ≤ z4574 ∧ z4574 ≤ 20) (h13 : 0 ≤ z4575 ∧ z4575 ≤ 1000) (h14 : 966 ≤ z5067 ∧ z5067 ≤ 986) (h15 : 0 ≤ z5068 ∧ z5068 ≤ 1000) (h16 : 1 ≤ z5241 ∧ z5241 ≤ 20) : (987 - z5067) < ((22 : Nat) : Int) := by omega
theorem vc_X12_wayRight_47 {f_size p1 p2 z4574 z4575 : Int} (h0 : p1 + p2 ≤ f_size) (h1 : 4 * z4574 ≤ z4575 - p1) (h2 : z4575 ≤ p1 + p2) (h3 : (p1 + p2) ≤ z4575) (h4 : z4574 ≤ 20) (h5 : 0 ≤ f_size ∧ f_size ≤ 1000) (h6 : 0 ≤ p1 ∧ p1 ≤ 1000) (h7 : 0 ≤ p2 ∧ p2 ≤ 1000) (h8 : 0 ≤ z4574 ∧ z4574 ≤ 20) (h9 : 0 ≤ z4575 ∧ z4575 ≤ 1000) : p1 ≤ p1 := by omega
theorem vc_X12_wayRight_48 {f_size p1 p2 z4574 z4575 : Int} (h0 : p1 + p2 ≤ f_size) (h1 : 4 * z4574 ≤ z4575 - p1) (h2 : z4575 ≤ p1 + p2) (h3 : (p1 + p2) ≤ z4575) (h4 : z4574 ≤ 20) (h5 : 0 ≤ f_size ∧ f_size ≤ 1000) (h6 : 0 ≤ p1 ∧ p1 ≤ 1000) (h7 : 0 ≤ p2 ∧ p2 ≤ 1000) (h8 : 0 ≤ z4574 ∧ z4574 ≤ 20) (h9 : 0 ≤ z4575 ∧ z4575 ≤ 1000) : (1001 - p1) < ((1002 : Nat) : Int) := by omega
theorem vc_X12_wayRight_49 {f_size p1 p2 z4574 z4575 : Int} (h0 : p1 + p2 ≤ f_size) (h1 : 4 * z4574 ≤ z4575 - p1) (h2 : z4575 ≤ p1 + p2) (h3 : (p1 + p2) ≤ z4575) (h4 : z4574 ≤ 20) (h5 : 0 ≤ f_size ∧ f_size ≤ 1000) (h6 : 0 ≤ p1 ∧ p1 ≤ 1000) (h7 : 0 ≤ p2 ∧ p2 ≤ 1000) (h8 : 0 ≤ z4574 ∧ z4574 ≤ 20) (h9 : 0 ≤ z4575 ∧ z4575 ≤ 1000) : p1 + p2 ≤ z4575 := by omega
theorem vc_X12_wayRight_50 {f_size p1 p2 z4574 z4575 : Int} (h0 : p1 + p2 ≤ f_size) (h1 : 4 * z4574 ≤ z4575 - p1) (h2 : z4575 ≤ p1 + p2) (h3 : (p1 + p2) ≤ z4575) (h4 : z4574 ≤ 20) (h5 : 0 ≤ f_size ∧ f_size ≤ 1000) (h6 : 0 ≤ p1 ∧ p1 ≤ 1000) (h7 : 0 ≤ p2 ∧ p2 ≤ 1000) (h8 : 0 ≤ z4574 ∧ z4574 ≤ 20) (h9 : 0 ≤ z4575 ∧ z4575 ≤ 1000) : z4574 - ((966 : Int) - 966) = z4574 := by omega
theorem vc_X12_wayRight_51 {p1 z4574 z4575 : Int} (h0 : 20 < z4574) (h1 : 4 * z4574 ≤ z4575 - p1) (h2 : 0 ≤ p1 ∧ p1 ≤ 1000) (h3 : 0 ≤ z4574 ∧ z4574 ≤ 250) (h4 : 0 ≤ z4575 ∧ z4575 ≤ 1000) : 21 ≤ z4574 ∧ z4574 ≤ 250 := by omega
theorem vc_X12_wayRight_52 {f_size p1 p2 z4574 z4575 : Int} (h0 : p1 + p2 ≤ f_size) (h1 : 4 * z4574 ≤ z4575 - p1) (h2 : z4575 ≤ p1 + p2) (h3 : z4575 < (p1 + p2)) (h4 : (z4575 + 2) ≤ (p1 + p2)) (h5 : 0 ≤ f_size ∧ f_size ≤ 1000) (h6 : 0 ≤ p1 ∧ p1 ≤ 1000) (h7 : 0 ≤ p2 ∧ p2 ≤ 1000) (h8 : 0 ≤ z4574 ∧ z4574 ≤ 250) (h9 : 0 ≤ z4575 ∧ z4575 ≤ 1000) : z4575 < f_size := by omega
theorem vc_X12_wayRight_53 {z6350 z6355 : Int} (h0 : z6355 = 0) (h1 : (z6355 = 1 → (1 : Int) ≤ z6350 ∧ z6350 ≤ (2 : Int))) (h2 : (z6355 = 0 → z6350 < (1 : Int) ∨ (2 : Int) < z6350)) (h3 : 0 ≤ z6350 ∧ z6350 ≤ 255) (h4 : 0 ≤ z6355 ∧ z6355 ≤ 1) : 0 ≤ z6355 ∧ z6355 ≤ 0 := by omega
theorem vc_X12_wayRight_54 {z6350 z6355 : Int} (h0 : (z6355 = 1 → (1 : Int) ≤ z6350 ∧ z6350 ≤ (2 : Int))) (h1 : (z6355 = 0 → z6350 < (1 : Int) ∨ (2 : Int) < z6350)) (h2 : z6355 = 0) (h3 : 0 ≤ z6350 ∧ z6350 ≤ 255) (h4 : 0 ≤ z6355 ∧ z6355 ≤ 0) : z6355 = 0 := by omega
theorem vc_X12_wayRight_55 {z6350 z6355 : Int} (h0 : ¬ z6355 = 0) (h1 : (z6355 = 1 → (1 : Int) ≤ z6350 ∧ z6350 ≤ (2 : Int))) (h2 : (z6355 = 0 → z6350 < (1 : Int) ∨ (2 : Int) < z6350)) (h3 : 0 ≤ z6350 ∧ z6350 ≤ 255) (h4 : 0 ≤ z6355 ∧ z6355 ≤ 1) : 1 ≤ z6355 ∧ z6355 ≤ 1 := by omega
theorem vc_X12_wayRight_56 {z6350 z6355 : Int} (h0 : (z6355 = 1 → (1 : Int) ≤ z6350 ∧ z6350 ≤ (2 : Int))) (h1 : (z6355 = 0 → z6350 < (1 : Int) ∨ (2 : Int) < z6350)) (h2 : ¬ z6355 = 0) (h3 : 0 ≤ z6350 ∧ z6350 ≤ 255) (h4 : 1 ≤ z6355 ∧ z6355 ≤ 1) : z6355 = 1 := by omega
theorem vc_X12_wayRight_57 {z6350 z6355 : Int} (h0 : (1 : Int) ≤ z6350 ∧ z6350 ≤ (2 : Int)) (h1 : (z6355 = 1 → (1 : Int) ≤ z6350 ∧ z6350 ≤ (2 : Int))) (h2 : (z6355 = 0 → z6350 < (1 : Int) ∨ (2 : Int) < z6350)) (h3 : 0 ≤ z6350 ∧ z6350 ≤ 255) (h4 : 1 ≤ z6355 ∧ z6355 ≤ 1) : 1 ≤ z6350 ∧ z6350 ≤ 2 := by omega
theorem vc_X12_wayRight_58 {f_size p1 p2 z4574 z4575 : Int} (h0 : p1 + p2 ≤ f_size) (h1 : 4 * z4574 ≤ z4575 - p1) (h2 : z4575 ≤ p1 + p2) (h3 : z4575 < (p1 + p2)) (h4 : (z4575 + 2) ≤ (p1 + p2)) (h5 : 0 ≤ f_size ∧ f_size ≤ 1000) (h6 : 0 ≤ p1 ∧ p1 ≤ 1000) (h7 : 0 ≤ p2 ∧ p2 ≤ 1000) (h8 : 0 ≤ z4574 ∧ z4574 ≤ 250) (h9 : 0 ≤ z4575 ∧ z4575 ≤ 1000) : (z4575 + 1) < f_size := by omega
theorem vc_X12_wayRight_59 {z6366 : Int} (h0 : z6366 = 0) (h1 : 0 ≤ z6366 ∧ z6366 ≤ 255) : 0 ≤ z6366 ∧ z6366 ≤ 0 := by omega
theorem vc_X12_wayRight_60 {z6366 : Int} (h0 : ¬ z6366 = 0) (h1 : 0 ≤ z6366 ∧ z6366 ≤ 255) : 1 ≤ z6366 ∧ z6366 ≤ 255 := by omega
theorem vc_X12_wayRight_61 {z6366 z6374 : Int} (h0 : z6374 = z6366) (h1 : ¬ z6366 = 0) (h2 : 1 ≤ z6366 ∧ z6366 ≤ 255) (h3 : 0 ≤ z6374 ∧ z6374 ≤ 255) : 1 ≤ z6374 ∧ z6374 ≤ 255 := by omega
theorem vc_X12_wayRight_62 {f_size p1 p2 z4574 z4575 z6366 z6374 : Int} (h0 : p1 + p2 ≤ f_size) (h1 : 4 * z4574 ≤ z4575 - p1) (h2 : z4575 ≤ p1 + p2) (h3 : z4575 < (p1 + p2)) (h4 : (z4575 + 2) ≤ (p1 + p2)) (h5 : ((z4575 + 2) + (4 * z6374)) ≤ (p1 + p2)) (h6 : z6374 = z6366) (h7 : 0 ≤ f_size ∧ f_size ≤ 1000) (h8 : 0 ≤ p1 ∧ p1 ≤ 1000) (h9 : 0 ≤ p2 ∧ p2 ≤ 1000) (h10 : 0 ≤ z4574 ∧ z4574 ≤ 250) (h11 : 0 ≤ z4575 ∧ z4575 ≤ 1000) (h12 : 1 ≤ z6366 ∧ z6366 ≤ 255) (h13 : 1 ≤ z6374 ∧ z6374 ≤ 255) : (z4575 + 1) < f_size := by omega
theorem vc_X12_wayRight_63 {z6366 z6374 z6381 : Int} (h0 : z6381 = z6366) (h1 : ¬ z6366 = 0) (h2 : z6374 = z6366) (h3 : 1 ≤ z6366 ∧ z6366 ≤ 255) (h4 : 1 ≤ z6374 ∧ z6374 ≤ 255) (h5 : 0 ≤ z6381 ∧ z6381 ≤ 255) : 1 ≤ z6381 ∧ z6381 ≤ 255 := by omega
theorem vc_X12_wayRight_64 {z6366 z6374 z6381 z6387 : Int} (h0 : z6387 = z6366) (h1 : ¬ z6366 = 0) (h2 : z6374 = z6366) (h3 : z6381 = z6366) (h4 : 1 ≤ z6366 ∧ z6366 ≤ 255) (h5 : 1 ≤ z6374 ∧ z6374 ≤ 255) (h6 : 1 ≤ z6381 ∧ z6381 ≤ 255) (h7 : 0 ≤ z6387 ∧ z6387 ≤ 255) : 1 ≤ z6387 ∧ z6387 ≤ 255 := by omega
theorem vc_X12_wayRight_65 {f_size p1 p2 z4574 z4575 z6366 z6374 z6381 z6387 : Int} (h0 : 4 * z4574 ≤ z4575 - p1) (h1 : z4575 ≤ p1 + p2) (h2 : z4575 < (p1 + p2)) (h3 : (z4575 + 2) ≤ (p1 + p2)) (h4 : ((z4575 + 2) + (4 * z6374)) ≤ (p1 + p2)) (h5 : z6387 = z6366) (h6 : p1 + p2 ≤ f_size) (h7 : ¬ z6366 = 0) (h8 : z6374 = z6366) (h9 : z6381 = z6366) (h10 : 0 ≤ f_size ∧ f_size ≤ 1000) (h11 : 0 ≤ p1 ∧ p1 ≤ 1000) (h12 : 0 ≤ p2 ∧ p2 ≤ 1000) (h13 : 0 ≤ z4574 ∧ z4574 ≤ 250) (h14 : 0 ≤ z4575 ∧ z4575 ≤ 1000) (h15 : 1 ≤ z6366 ∧ z6366 ≤ 255) (h16 : 1 ≤ z6374 ∧ z6374 ≤ 255) (h17 : 1 ≤ z6381 ∧ z6381 ≤ 255) (h18 : 1 ≤ z6387 ∧ z6387 ≤ 255) : 0 ≤ (z4575 + (2 + (4 * z6387))) ∧ (z4575 + (2 + (4 * z6387))) ≤ 1000 := by omega
theorem vc_X12_wayRight_66 {f_size p1 p2 z4574 z4575 z6366 z6374 z6381 z6387 : Int} (h0 : 4 * z4574 ≤ z4575 - p1) (h1 : z6381 = z6366) (h2 : p1 + p2 ≤ f_size) (h3 : z4575 ≤ p1 + p2) (h4 : z4575 < (p1 + p2)) (h5 : (z4575 + 2) ≤ (p1 + p2)) (h6 : ¬ z6366 = 0) (h7 : z6374 = z6366) (h8 : ((z4575 + 2) + (4 * z6374)) ≤ (p1 + p2)) (h9 : z6387 = z6366) (h10 : 0 ≤ f_size ∧ f_size ≤ 1000) (h11 : 0 ≤ p1 ∧ p1 ≤ 1000) (h12 : 0 ≤ p2 ∧ p2 ≤ 1000) (h13 : 0 ≤ z4574 ∧ z4574 ≤ 250) (h14 : 0 ≤ z4575 ∧ z4575 ≤ 1000) (h15 : 1 ≤ z6366 ∧ z6366 ≤ 255) (h16 : 1 ≤ z6374 ∧ z6374 ≤ 255) (h17 : 1 ≤ z6381 ∧ z6381 ≤ 255) (h18 : 1 ≤ z6387 ∧ z6387 ≤ 255) : 0 ≤ (z4574 + z6381) ∧ (z4574 + z6381) ≤ 250 := by omega
theorem vc_X12_wayRight_67 {f_size p1 p2 z4574 z4575 z6366 z6374 z6381 z6387 : Int} (h0 : p1 + p2 ≤ f_size) (h1 : 4 * z4574 ≤ z4575 - p1) (h2 : z4575 ≤ p1 + p2) (h3 : z4575 < (p1 + p2)) (h4 : (z4575 + 2) ≤ (p1 + p2)) (h5 : ((z4575 + 2) + (4 * z6374)) ≤ (p1 + p2)) (h6 : z6381 = z6366) (h7 : z6387 = z6366) (h8 : ¬ z6366 = 0) (h9 : z6374 = z6366) (h10 : 0 ≤ f_size ∧ f_size ≤ 1000) (h11 : 0 ≤ p1 ∧ p1 ≤ 1000) (h12 : 0 ≤ p2 ∧ p2 ≤ 1000) (h13 : 0 ≤ z4574 ∧ z4574 ≤ 250) (h14 : 0 ≤ z4575 ∧ z4575 ≤ 1000) (h15 : 1 ≤ z6366 ∧ z6366 ≤ 255) (h16 : 1 ≤ z6374 ∧ z6374 ≤ 255) (h17 : 1 ≤ z6381 ∧ z6381 ≤ 255) (h18 : 1 ≤ z6387 ∧ z6387 ≤ 255) : 4 * (z4574 + z6381) ≤ (z4575 + (2 + (4 * z6387))) - p1 := by omega
theorem vc_X12_wayRight_68 {f_size p1 p2 z4574 z4575 z6366 z6374 z6381 z6387 : Int} (h0 : p1 + p2 ≤ f_size) (h1 : 4 * z4574 ≤ z4575 - p1) (h2 : z4575 ≤ p1 + p2) (h3 : z4575 < (p1 + p2)) (h4 : (z4575 + 2) ≤ (p1 + p2)) (h5 : ((z4575 + 2) + (4 * z6374)) ≤ (p1 + p2)) (h6 : z6387 = z6366) (h7 : ¬ z6366 = 0) (h8 : z6374 = z6366) (h9 : z6381 = z6366) (h10 : 0 ≤ f_size ∧ f_size ≤ 1000) (h11 : 0 ≤ p1 ∧ p1 ≤ 1000) (h12 : 0 ≤ p2 ∧ p2 ≤ 1000) (h13 : 0 ≤ z4574 ∧ z4574 ≤ 250) (h14 : 0 ≤ z4575 ∧ z4575 ≤ 1000) (h15 : 1 ≤ z6366 ∧ z6366 ≤ 255) (h16 : 1 ≤ z6374 ∧ z6374 ≤ 255) (h17 : 1 ≤ z6381 ∧ z6381 ≤ 255) (h18 : 1 ≤ z6387 ∧ z6387 ≤ 255) : (z4575 + (2 + (4 * z6387))) ≤ p1 + p2 := by omega
theorem vc_X12_wayRight_69 {N f_size p1 p2 z4574 z4575 z6366 z6374 z6381 z6387 : Int} (h0 : (1001 - z4575) < N + 1) (h1 : 4 * z4574 ≤ z4575 - p1) (h2 : z4575 ≤ p1 + p2) (h3 : z4575 < (p1 + p2)) (h4 : (z4575 + 2) ≤ (p1 + p2)) (h5 : ((z4575 + 2) + (4 * z6374)) ≤ (p1 + p2)) (h6 : z6387 = z6366) (h7 : p1 + p2 ≤ f_size) (h8 : ¬ z6366 = 0) (h9 : z6374 = z6366) (h10 : z6381 = z6366) (h11 : 0 ≤ f_size ∧ f_size ≤ 1000) (h12 : 0 ≤ p1 ∧ p1 ≤ 1000) (h13 : 0 ≤ p2 ∧ p2 ≤ 1000) (h14 : 0 ≤ z4574 ∧ z4574 ≤ 250) (h15 : 0 ≤ z4575 ∧ z4575 ≤ 1000) (h16 : 1 ≤ z6366 ∧ z6366 ≤ 255) (h17 : 1 ≤ z6374 ∧ z6374 ≤ 255) (h18 : 1 ≤ z6381 ∧ z6381 ≤ 255) (h19 : 1 ≤ z6387 ∧ z6387 ≤ 255) : (1001 - (z4575 + (2 + (4 * z6387)))) < N := by omega
theorem vc_X12_wayRight_70 {f_size p1 p2 z4574 z4575 z6366 z6374 : Int} (h0 : p1 + p2 ≤ f_size) (h1 : 4 * z4574 ≤ z4575 - p1) (h2 : z4575 ≤ p1 + p2) (h3 : z4575 < (p1 + p2)) (h4 : (z4575 + 2) ≤ (p1 + p2)) (h5 : ((z4575 + 2) + (4 * z6374)) ≤ (p1 + p2)) (h6 : z6374 = z6366) (h7 : 0 ≤ f_size ∧ f_size ≤ 1000) (h8 : 0 ≤ p1 ∧ p1 ≤ 1000) (h9 : 0 ≤ p2 ∧ p2 ≤ 1000) (h10 : 0 ≤ z4574 ∧ z4574 ≤ 250) (h11 : 0 ≤ z4575 ∧ z4575 ≤ 1000) (h12 : 1 ≤ z6366 ∧ z6366 ≤ 255) (h13 : 1 ≤ z6374 ∧ z6374 ≤ 255) : z4575 < p1 + p2 := by omega
theorem vc_X12_wayRight_71 {f_size p1 p2 z4574 z4575 z6366 z6374 : Int} (h0 : p1 + p2 ≤ f_size) (h1 : 4 * z4574 ≤ z4575 - p1) (h2 : z4575 ≤ p1 + p2) (h3 : z4575 < (p1 + p2)) (h4 : (z4575 + 2) ≤ (p1 + p2)) (h5 : ((z4575 + 2) + (4 * z6374)) ≤ (p1 + p2)) (h6 : z6374 = z6366) (h7 : 0 ≤ f_size ∧ f_size ≤ 1000) (h8 : 0 ≤ p1 ∧ p1 ≤ 1000) (h9 : 0 ≤ p2 ∧ p2 ≤ 1000) (h10 : 0 ≤ z4574 ∧ z4574 ≤ 250) (h11 : 0 ≤ z4575 ∧ z4575 ≤ 1000) (h12 : 1 ≤ z6366 ∧ z6366 ≤ 255) (h13 : 1 ≤ z6374 ∧ z6374 ≤ 255) : z4575 + 2 ≤ p1 + p2 := by omega
theorem vc_X12_wayRight_72 {f_size p1 p2 z4574 z4575 z6366 z6374 z6381 z6387 : Int} (h0 : p1 + p2 ≤ f_size) (h1 : 4 * z4574 ≤ z4575 - p1) (h2 : z4575 ≤ p1 + p2) (h3 : z4575 < (p1 + p2)) (h4 : (z4575 + 2) ≤ (p1 + p2)) (h5 : ¬ z6366 = 0) (h6 : z6374 = z6366) (h7 : ((z4575 + 2) + (4 * z6374)) ≤ (p1 + p2)) (h8 : z6381 = z6366) (h9 : z6387 = z6366) (h10 : 0 ≤ f_size ∧ f_size ≤ 1000) (h11 : 0 ≤ p1 ∧ p1 ≤ 1000) (h12 : 0 ≤ p2 ∧ p2 ≤ 1000) (h13 : 0 ≤ z4574 ∧ z4574 ≤ 250) (h14 : 0 ≤ z4575 ∧ z4575 ≤ 1000) (h15 : 1 ≤ z6366 ∧ z6366 ≤ 255) (h16 : 1 ≤ z6374 ∧ z6374 ≤ 255) (h17 : 1 ≤ z6381 ∧ z6381 ≤ 255) (h18 : 1 ≤ z6387 ∧ z6387 ≤ 255) : 1 ≤ z6366 := by omega
theorem vc_X12_wayRight_73 {f_size p1 p2 z4574 z4575 z6366 z6374 z6381 z6387 : Int} (h0 : p1 + p2 ≤ f_size) (h1 : 4 * z4574 ≤ z4575 - p1) (h2 : z4575 ≤ p1 + p2) (h3 : z4575 < (p1 + p2)) (h4 : (z4575 + 2) ≤ (p1 + p2)) (h5 : ¬ z6366 = 0) (h6 : z6374 = z6366) (h7 : ((z4575 + 2) + (4 * z6374)) ≤ (p1 + p2)) (h8 : z6381 = z6366) (h9 : z6387 = z6366) (h10 : 0 ≤ f_size ∧ f_size ≤ 1000) (h11 : 0 ≤ p1 ∧ p1 ≤ 1000) (h12 : 0 ≤ p2 ∧ p2 ≤ 1000) (h13 : 0 ≤ z4574 ∧ z4574 ≤ 250) (h14 : 0 ≤ z4575 ∧ z4575 ≤ 1000) (h15 : 1 ≤ z6366 ∧ z6366 ≤ 255) (h16 : 1 ≤ z6374 ∧ z6374 ≤ 255) (h17 : 1 ≤ z6381 ∧ z6381 ≤ 255) (h18 : 1 ≤ z6387 ∧ z6387 ≤ 255) : z4575 + 2 + 4 * z6366 ≤ p1 + p2 := by omega
theorem vc_X12_wayRight_74 {f_size p1 p2 z4574 z4575 z6366 z6374 z6381 z6387 : Int} (h0 : p1 + p2 ≤ f_size) (h1 : 4 * z4574 ≤ z4575 - p1) (h2 : z4575 ≤ p1 + p2) (h3 : z4575 < (p1 + p2)) (h4 : (z4575 + 2) ≤ (p1 + p2)) (h5 : ¬ z6366 = 0) (h6 : z6374 = z6366) (h7 : ((z4575 + 2) + (4 * z6374)) ≤ (p1 + p2)) (h8 : z6381 = z6366) (h9 : z6387 = z6366) (h10 : 0 ≤ f_size ∧ f_size ≤ 1000) (h11 : 0 ≤ p1 ∧ p1 ≤ 1000) (h12 : 0 ≤ p2 ∧ p2 ≤ 1000) (h13 : 0 ≤ z4574 ∧ z4574 ≤ 250) (h14 : 0 ≤ z4575 ∧ z4575 ≤ 1000) (h15 : 1 ≤ z6366 ∧ z6366 ≤ 255) (h16 : 1 ≤ z6374 ∧ z6374 ≤ 255) (h17 : 1 ≤ z6381 ∧ z6381 ≤ 255) (h18 : 1 ≤ z6387 ∧ z6387 ≤ 255) : (z4575 + (2 + (4 * z6387))) = z4575 + 2 + 4 * z6366 := by omega
theorem vc_X12_wayRight_75 {f_size p1 p2 z4574 z4575 z6366 z6374 z6381 z6387 : Int} (h0 : p1 + p2 ≤ f_size) (h1 : 4 * z4574 ≤ z4575 - p1) (h2 : z4575 ≤ p1 + p2) (h3 : z4575 < (p1 + p2)) (h4 : (z4575 + 2) ≤ (p1 + p2)) (h5 : ¬ z6366 = 0) (h6 : z6374 = z6366) (h7 : ((z4575 + 2) + (4 * z6374)) ≤ (p1 + p2)) (h8 : z6381 = z6366) (h9 : z6387 = z6366) (h10 : 0 ≤ f_size ∧ f_size ≤ 1000) (h11 : 0 ≤ p1 ∧ p1 ≤ 1000) (h12 : 0 ≤ p2 ∧ p2 ≤ 1000) (h13 : 0 ≤ z4574 ∧ z4574 ≤ 250) (h14 : 0 ≤ z4575 ∧ z4575 ≤ 1000) (h15 : 1 ≤ z6366 ∧ z6366 ≤ 255) (h16 : 1 ≤ z6374 ∧ z6374 ≤ 255) (h17 : 1 ≤ z6381 ∧ z6381 ≤ 255) (h18 : 1 ≤ z6387 ∧ z6387 ≤ 255) : (z4574 + z6381) = z4574 + z6366 := by omega
theorem vc_X12_wayRight_76 {f_size p1 p2 : Int} (h0 : p1 + p2 ≤ f_size) (h1 : 0 ≤ f_size ∧ f_size ≤ 1000) (h2 : 0 ≤ p1 ∧ p1 ≤ 1000) (h3 : 0 ≤ p2 ∧ p2 ≤ 1000) : 4 * (0 : Int) ≤ p1 - p1 := by omega
theorem vc_X12_wayRight_77 {f_size p1 p2 : Int} (h0 : p1 + p2 ≤ f_size) (h1 : 0 ≤ f_size ∧ f_size ≤ 1000) (h2 : 0 ≤ p1 ∧ p1 ≤ 1000) (h3 : 0 ≤ p2 ∧ p2 ≤ 1000) : p1 ≤ p1 + p2 := by omega
theorem vc_X12_wayRight_78 {f_size p1 p2 : Int} (h0 : p1 + p2 ≤ f_size) (h1 : 0 ≤ f_size ∧ f_size ≤ 1000) (h2 : 0 ≤ p1 ∧ p1 ≤ 1000) (h3 : 0 ≤ p2 ∧ p2 ≤ 1000) : (1001 - p1) < ((1002 : Nat) : Int) := by omega
set_option maxRecDepth 4000 in
set_option maxHeartbeats 4000000 in
theorem c_X12_wayRight {l : Launch} {D : va_G} {c : Nat → ClassId} {H0 : Heap} {sa : Nat × Nat × (Nat → Int32)} {w : mW} {μ : mM} (hw : mWF w) (hT : mT w μ) {p1 : Int} (hp1 : 0 ≤ p1 ∧ p1 ≤ 1000) {p2 : Int} (hp2 : 0 ≤ p2 ∧ p2 ≤ 1000) {f_size : Int} (q_f_size : μ 106 1 = f_size) (hq0 : p1 + p2 ≤ f_size) : sC (gG l D c H0 sa) mX12_wayRight 3 0 0 [.ref 106, iv p1, iv p2] (mk w μ) (qI w [106099, 126999] μ (fun z μ1 => (0 ≤ z ∧ z ≤ 1) ∧ mG [(964, 986)] μ μ1 ∧ True)) := by
  refine sC.of rfl (by decide) (le_t rfl) ?_
  have ht_f_size : (0 ≤ f_size ∧ f_size ≤ 1000) := by rw [← q_f_size]; exact hT 106 106 (A_106 hw) 1
  refine mr_lvE (lv' := [(0, .ref 106), (1, iv p1), (2, iv p2)]) rfl ?_
  refine mr_iload_n (pc := 0) (z := p1) dX12_wayRight_0 rfl rfl ?_
  refine mr_istore_n (pc := 1) (lv' := [(3, iv p1), (0, .ref 106), (1, iv p1), (2, iv p2)]) dX12_wayRight_1 rfl (by decide) rfl ?_
  refine mr_iconst (pc := 2) (z := 0) dX12_wayRight_2 ?_
  refine mr_istore (pc := 3) (lv' := [(4, iv 0), (3, iv p1), (0, .ref 106), (1, iv p1), (2, iv p2)]) dX12_wayRight_3 (by decide) rfl ?_
  have L4576 : ∀ (nL4576 : Nat) (z4575 z4574 : Int), True → (0 ≤ z4575 ∧ z4575 ≤ 1000) → (0 ≤ z4574 ∧ z4574 ≤ 250) → (4 * z4574 ≤ z4575 - p1) → (z4575 ≤ p1 + p2) → (∀ s, Chn μ (p1 + p2) z4575 s → Chn μ (p1 + p2) p1 (z4574 + s)) → (1001 - z4575) < (nL4576 : Int) → sV (gG l D c H0 sa) mX12_wayRight (sRm 3 0 0) (sZ (gG l D c H0 sa) 0 0 (qI w [106099, 126999] μ (fun z μ1 => (0 ≤ z ∧ z ≤ 1) ∧ mG [(964, 986)] μ μ1 ∧ True))) 5 [(0, .ref 106), (1, iv p1), (2, iv p2), (3, iv z4575), (4, iv z4574)] [] (mk w μ) 0 0 := by
    intro nL4576
    induction nL4576 with
    | zero => intro z4575 z4574 _ h4577 h4578 h4582 h4583 R4584 h4585; exact ((vc_X12_wayRight_1 h4585 h4582 h4583 hq0 ht_f_size hp1 hp2 h4578 h4577)).elim
    | succ nL4576 ih4586 =>
      intro z4575 z4574 _ h4577 h4578 h4582 h4583 R4584 h4585
      refine mr_iload_n (pc := 5) (z := z4575) dX12_wayRight_5 rfl rfl ?_
      refine mr_iload_n (pc := 6) (z := p1) dX12_wayRight_6 rfl rfl ?_
      refine mr_iload_n (pc := 7) (z := p2) dX12_wayRight_7 rfl rfl ?_
      refine mr_iadd (pc := 8) (x := p1) (y := p2) dX12_wayRight_8 ?_
      refine mr_icmp_ge (pc := 9) (tgt := 94) dX12_wayRight_9 (by decide) (r32 h4577 rfl) (r32 (rAdd (e := 0) (f := 2000) hp1 hp2 rfl) rfl) (fun h4587 => ?_) (fun h4587 => ?_)
      · refine mr_iload (pc := 94) (z := z4574) dX12_wayRight_94 rfl ?_
        refine mr_bipush (pc := 96) (z := 20) dX12_wayRight_96 (by decide) ?_
        refine mr_icmp_le (pc := 98) (tgt := 103) dX12_wayRight_98 (by decide) (r32 h4578 rfl) (r32 (rR (x := 20)) rfl) (fun h4588 => ?_) (fun h4588 => ?_)
        · have h4589 : 0 ≤ z4574 ∧ z4574 ≤ 20 := (vc_X12_wayRight_2 h4588 h4582 hp1 h4578 h4577)
          refine mr_iload_n (pc := 103) (z := p1) dX12_wayRight_103 rfl rfl ?_
          refine mr_istore_n (pc := 104) (lv' := [(3, iv p1), (0, .ref 106), (1, iv p1), (2, iv p2), (4, iv z4574)]) dX12_wayRight_104 rfl (by decide) rfl ?_
          refine mr_sipush (pc := 105) (z := 966) dX12_wayRight_105 (by decide) ?_
          refine mr_istore (pc := 108) (lv' := [(5, iv 966), (3, iv p1), (0, .ref 106), (1, iv p1), (2, iv p2), (4, iv z4574)]) dX12_wayRight_108 (by decide) rfl ?_
          have L5070 : ∀ (nL5070 : Nat) (z5068 z5067 : Int) (μ5069 : mM), mT w μ5069 → mF [126999] w μ μ5069 → mG [(964, 986)] μ μ5069 → (0 ≤ z5068 ∧ z5068 ≤ 1000) → (966 ≤ z5067 ∧ z5067 ≤ 986) → (p1 ≤ z5068) → Chn μ5069 (p1 + p2) z5068 (z4574 - (z5067 - 966)) → (1001 - z5068) < (nL5070 : Int) → sV (gG l D c H0 sa) mX12_wayRight (sRm 3 0 0) (sZ (gG l D c H0 sa) 0 0 (qI w [106099, 126999] μ (fun z μ1 => (0 ≤ z ∧ z ≤ 1) ∧ mG [(964, 986)] μ μ1 ∧ True))) 110 [(0, .ref 106), (1, iv p1), (2, iv p2), (3, iv z5068), (4, iv z4574), (5, iv z5067)] [] (mk w μ5069) 0 0 := by
            intro nL5070
            induction nL5070 with
            | zero => intro z5068 z5067 μ5069 T5073 F5074 G5075 h5071 h5072 h5076 R5077 h5078; exact ((vc_X12_wayRight_3 h5078 h5076 hq0 h4582 h4583 h4587 ht_f_size hp1 hp2 h4589 h4577 h5071)).elim
            | succ nL5070 ih5079 =>
              intro z5068 z5067 μ5069 T5073 F5074 G5075 h5071 h5072 h5076 R5077 h5078
              refine mr_iload_n (pc := 110) (z := z5068) dX12_wayRight_110 rfl rfl ?_
              refine mr_iload_n (pc := 111) (z := p1) dX12_wayRight_111 rfl rfl ?_
              refine mr_iload_n (pc := 112) (z := p2) dX12_wayRight_112 rfl rfl ?_
              refine mr_iadd (pc := 113) (x := p1) (y := p2) dX12_wayRight_113 ?_
              refine mr_icmp_ge (pc := 114) (tgt := 244) dX12_wayRight_114 (by decide) (r32 h5071 rfl) (r32 (rAdd (e := 0) (f := 2000) hp1 hp2 rfl) rfl) (fun h5229 => ?_) (fun h5229 => ?_)
              · refine sv_aload_n (pc := 244) dX12_wayRight_244 rfl rfl ?_
                refine gf_X12_32 (pc := 245) dX12_wayRight_245 wF_X12_148 (A_106 hw) T5073 ?_
                refine mr_sipush (pc := 248) (z := 964) dX12_wayRight_248 (by decide) ?_
                refine mr_iload (pc := 251) (z := z4574) dX12_wayRight_251 rfl ?_
                refine ss_126 (pc := 253) dX12_wayRight_253 (A_126 hw) T5073 (rIx (n := 84000) (rR (x := 964)) rfl) (vc_X12_wayRight_4 h4582 h4588 hq0 h4583 h4587 h5076 h5229 ht_f_size hp1 hp2 h4589 h4577 h5071) fun μ5230 u5231 T5232 => ?_
                refine sv_aload_n (pc := 254) dX12_wayRight_254 rfl rfl ?_
                refine mr_iconst (pc := 255) (z := 1) dX12_wayRight_255 ?_
                refine pf_X12_99 (pc := 256) dX12_wayRight_256 wF_X12_634 (A_106 hw) T5232 (rW (c := 0) (d := 1) (rR (x := 1)) rfl) fun μ5233 u5234 T5235 => ?_
                refine mr_iconst (pc := 259) (z := 1) dX12_wayRight_259 ?_
                exact mr_zret dX12_wayRight_260 rfl (rW (c := 0) (d := 1) (rR (x := 1)) rfl) (le_t rfl) (le_t rfl) T5235 (mF.up (mF.up (mF.call mF.refl F5074 rfl) (A_126 hw) u5231 rfl) (A_106 hw) u5234 rfl) ⟨(rW (c := 0) (d := 1) (rR (x := 1)) rfl), (mG.upO (mG.up (mG.call mG.refl G5075 (List.forall_mem_cons.mpr ⟨⟨_, List.mem_cons_self, vc_X12_wayRight_5⟩, (fun _ h => absurd h List.not_mem_nil)⟩)) u5231 List.mem_cons_self vc_X12_wayRight_6) u5234 rfl), trivial⟩
              have B5236 := Chn.un R5077 (vc_X12_wayRight_7 hq0 h4582 h4583 h4587 h5076 h5229 h4588 ht_f_size hp1 hp2 h4589 h4577 h5071)
              refine sv_aload_n (pc := 117) dX12_wayRight_117 rfl rfl ?_
              refine mr_iload_n (pc := 118) (z := z5068) dX12_wayRight_118 rfl rfl ?_
              refine mr_iconst (pc := 119) (z := 1) dX12_wayRight_119 ?_
              refine mr_iadd (pc := 120) (x := z5068) (y := 1) dX12_wayRight_120 ?_
              refine mr_cVP (pc := 121) (c_X12_byteAt_f hw T5073 (rW (c := 0) (d := 2147483647) (rAdd (e := 1) (f := 1001) h5071 (rR (x := 1)) rfl) rfl) (F5074.f (A_106 hw) rfl q_f_size) (vc_X12_wayRight_8 hq0 h5076 h5229 B5236.1 h4582 h4583 h4587 ht_f_size hp1 hp2 h4589 h4577 h5071)) (gOk _ _ _ _ _) dX12_wayRight_121 (tX12_byteAt _ _ _ _ _) ⟨wV_X12_byteAt, wL_X12_byteAt⟩ wM_X12_227 (gCX12 _ _ _ _ _) rfl (A_106 hw) rfl ⟨le_t rfl, le_t rfl⟩ ⟨le_t rfl, le_t rfl⟩ rfl (le_t rfl) fun z5241 h5240 => ?_
              have B5242 := B5236; rw [h5240.2.1.symm] at B5242
              have h5243 : 1 ≤ z5241 ∧ z5068 + 2 + 4 * z5241 ≤ p1 + p2 ∧ z5241 ≤ z4574 - (z5067 - 966) := ⟨B5242.2.1, B5242.2.2.1, B5242.2.2.2.1⟩
              have h5244 : 1 ≤ z5241 ∧ z5241 ≤ 20 := (vc_X12_wayRight_9 h4582 h4588 h5243 hq0 h4583 h4587 h5076 h5229 B5236.1 ht_f_size hp1 hp2 h4589 h4577 h5072 h5071 h5240.1)
              refine mr_istore (pc := 124) (lv' := [(6, iv z5241), (0, .ref 106), (1, iv p1), (2, iv p2), (3, iv z5068), (4, iv z4574), (5, iv z5067)]) dX12_wayRight_124 (by decide) rfl ?_
              refine mr_iload (pc := 126) (z := z5067) dX12_wayRight_126 rfl ?_
              refine mr_istore (pc := 128) (lv' := [(7, iv z5067), (6, iv z5241), (0, .ref 106), (1, iv p1), (2, iv p2), (3, iv z5068), (4, iv z4574), (5, iv z5067)]) dX12_wayRight_128 (by decide) rfl ?_
              refine mr_iconst (pc := 130) (z := 0) dX12_wayRight_130 ?_
              refine mr_istore (pc := 131) (lv' := [(8, iv 0), (7, iv z5067), (6, iv z5241), (0, .ref 106), (1, iv p1), (2, iv p2), (3, iv z5068), (4, iv z4574), (5, iv z5067)]) dX12_wayRight_131 (by decide) rfl ?_
              have L6110 : ∀ (nL6110 : Nat) (z6108 z6107 : Int) (μ6109 : mM), mT w μ6109 → mF [126999] w μ5069 μ6109 → mG [(964, 986)] μ5069 μ6109 → (966 ≤ z6108 ∧ z6108 ≤ 986) → (0 ≤ z6107 ∧ z6107 ≤ 20) → (z6108 = z5067 + z6107) → (z6107 ≤ z5241) → (987 - z6108) < (nL6110 : Int) → sV (gG l D c H0 sa) mX12_wayRight (sRm 3 0 0) (sZ (gG l D c H0 sa) 0 0 (qI w [106099, 126999] μ (fun z μ1 => (0 ≤ z ∧ z ≤ 1) ∧ mG [(964, 986)] μ μ1 ∧ True))) 133 [(0, .ref 106), (1, iv p1), (2, iv p2), (3, iv z5068), (4, iv z4574), (5, iv z6108), (6, iv z5241), (7, iv z5067), (8, iv z6107)] [] (mk w μ6109) 0 0 := by
                intro nL6110
                induction nL6110 with
                | zero => intro z6108 z6107 μ6109 T6113 F6114 G6115 h6111 h6112 h6116 h6117 h6118; exact ((vc_X12_wayRight_10 h6118 h6116 h5243 h6117 hp1 hp2 h4589 h5072 h5071 h5244 h6112 h6111)).elim
                | succ nL6110 ih6119 =>
                  intro z6108 z6107 μ6109 T6113 F6114 G6115 h6111 h6112 h6116 h6117 h6118
                  refine mr_iload (pc := 133) (z := z6107) dX12_wayRight_133 rfl ?_
                  refine mr_iload (pc := 135) (z := z5241) dX12_wayRight_135 rfl ?_
                  refine mr_icmp_ge (pc := 137) (tgt := 232) dX12_wayRight_137 (by decide) (r32 h6112 rfl) (r32 h5244 rfl) (fun h6187 => ?_) (fun h6187 => ?_)
                  · have h6188 : 1 ≤ z6107 ∧ z6107 ≤ 20 := (vc_X12_wayRight_11 h6187 h5243 h6116 h6117 hp1 hp2 h4589 h5072 h5071 h5244 h6112 h6111)
                    refine mr_iload_n (pc := 232) (z := z5068) dX12_wayRight_232 rfl rfl ?_
                    refine mr_iconst (pc := 233) (z := 2) dX12_wayRight_233 ?_
                    refine mr_iconst (pc := 234) (z := 4) dX12_wayRight_234 ?_
                    refine mr_iload (pc := 235) (z := z5241) dX12_wayRight_235 rfl ?_
                    refine mr_imul (pc := 237) (x := 4) (y := z5241) dX12_wayRight_237 ?_
                    refine mr_iadd (pc := 238) (x := 2) (y := (4 * z5241)) dX12_wayRight_238 ?_
                    refine mr_iadd (pc := 239) (x := z5068) (y := (2 + (4 * z5241))) dX12_wayRight_239 ?_
                    refine mr_istore_n (pc := 240) (lv' := [(3, iv (z5068 + (2 + (4 * z5241)))), (0, .ref 106), (1, iv p1), (2, iv p2), (4, iv z4574), (5, iv z6108), (6, iv z5241), (7, iv z5067), (8, iv z6107)]) dX12_wayRight_240 rfl (by decide) rfl ?_
                    refine sv_goto (pc := 241) (tgt := 110) dX12_wayRight_241 (by decide) ?_
                    refine mr_lvS (lv' := [(0, .ref 106), (1, iv p1), (2, iv p2), (3, iv (z5068 + (2 + (4 * z5241)))), (4, iv z4574), (5, iv z6108)]) (List.forall_mem_cons.mpr ⟨rfl, List.forall_mem_cons.mpr ⟨rfl, List.forall_mem_cons.mpr ⟨rfl, List.forall_mem_cons.mpr ⟨rfl, List.forall_mem_cons.mpr ⟨rfl, List.forall_mem_cons.mpr ⟨rfl, fun _ h => absurd h List.not_mem_nil⟩⟩⟩⟩⟩⟩) ?_
                    exact ih5079 (z5068 + (2 + (4 * z5241))) z6108 μ6109 T6113 (mF.call (mF.call mF.refl F5074 rfl) F6114 rfl) (mG.call (mG.call mG.refl G5075 (List.forall_mem_cons.mpr ⟨⟨_, List.mem_cons_self, vc_X12_wayRight_5⟩, (fun _ h => absurd h List.not_mem_nil)⟩)) G6115 (List.forall_mem_cons.mpr ⟨⟨_, List.mem_cons_self, vc_X12_wayRight_5⟩, (fun _ h => absurd h List.not_mem_nil)⟩)) (vc_X12_wayRight_12 h5076 h5229 B5236.1 h5243 h6117 h6187 hq0 h4582 h4583 h4587 h4588 h6116 ht_f_size hp1 hp2 h4589 h4577 h5072 h5071 h5244 h6188 h6111) h6111 (vc_X12_wayRight_13 hq0 h4582 h4583 h4587 h5076 h5229 B5236.1 h5243 h6117 h6187 h4588 h6116 ht_f_size hp1 hp2 h4589 h4577 h5072 h5071 h5244 h6188 h6111) (Chn.cg (Chn.keep B5242.2.2.2.2 hw ((mF.call mF.refl F6114 rfl) : mF [126999] w μ5069 μ6109) rfl) (vc_X12_wayRight_15 h5076 h5229 B5236.1 h5243 h6117 h6187 hq0 h4582 h4583 h4587 h4588 h6116 ht_f_size hp1 hp2 h4589 h4577 h5072 h5071 h5244 h6188 h6111) (vc_X12_wayRight_16 hq0 h4582 h4583 h4587 h4588 h5076 h5229 B5236.1 h5243 h6116 h6117 h6187 ht_f_size hp1 hp2 h4589 h4577 h5072 h5071 h5244 h6188 h6111)) (vc_X12_wayRight_14 (nS h5078) h5076 h5229 B5236.1 h5243 h6117 h6187 hq0 h4582 h4583 h4587 h4588 h6116 ht_f_size hp1 hp2 h4589 h4577 h5072 h5071 h5244 h6188 h6111)
                  have h6189 : 0 ≤ z6107 ∧ z6107 ≤ 19 := (vc_X12_wayRight_17 h6187 h5243 h6116 h6117 hp1 hp2 h4589 h5072 h5071 h5244 h6112 h6111)
                  refine sv_aload_n (pc := 140) dX12_wayRight_140 rfl rfl ?_
                  refine mr_iload_n (pc := 141) (z := z5068) dX12_wayRight_141 rfl rfl ?_
                  refine mr_iconst (pc := 142) (z := 2) dX12_wayRight_142 ?_
                  refine mr_iadd (pc := 143) (x := z5068) (y := 2) dX12_wayRight_143 ?_
                  refine mr_iconst (pc := 144) (z := 4) dX12_wayRight_144 ?_
                  refine mr_iload (pc := 145) (z := z6107) dX12_wayRight_145 rfl ?_
                  refine mr_imul (pc := 147) (x := 4) (y := z6107) dX12_wayRight_147 ?_
                  refine mr_iadd (pc := 148) (x := (z5068 + 2)) (y := (4 * z6107)) dX12_wayRight_148 ?_
                  refine mr_iconst (pc := 149) (z := 4) dX12_wayRight_149 ?_
                  refine mr_cVP (pc := 150) (c_X12_number_f hw T6113 (vc_X12_wayRight_18 h5076 h5229 B5236.1 h5243 h6116 h6117 h6187 hq0 h4582 h4583 h4587 h4588 ht_f_size hp1 hp2 h4589 h4577 h5072 h5071 h5244 h6189 h6111) (rW (c := 0) (d := 4) (rR (x := 4)) rfl) (F6114.f (A_106 hw) rfl (F5074.f (A_106 hw) rfl q_f_size)) (vc_X12_wayRight_19 hq0 h5076 h5229 B5236.1 h5243 h6116 h6117 h6187 h4582 h4583 h4587 h4588 ht_f_size hp1 hp2 h4589 h4577 h5072 h5071 h5244 h6189 h6111)) (gOk _ _ _ _ _) dX12_wayRight_150 (tX12_number _ _ _ _ _) ⟨wV_X12_number, wL_X12_number⟩ wM_X12_623 (gCX12 _ _ _ _ _) rfl (A_106 hw) rfl ⟨le_t rfl, le_t rfl⟩ ⟨le_t rfl, le_t rfl⟩ rfl (le_t rfl) fun z6194 h6193 => ?_
                  refine mr_istore (pc := 153) (lv' := [(9, iv z6194), (0, .ref 106), (1, iv p1), (2, iv p2), (3, iv z5068), (4, iv z4574), (5, iv z6108), (6, iv z5241), (7, iv z5067), (8, iv z6107)]) dX12_wayRight_153 (by decide) rfl ?_
                  refine mr_iload (pc := 155) (z := z6108) dX12_wayRight_155 rfl ?_
                  refine mr_istore (pc := 157) (lv' := [(10, iv z6108), (9, iv z6194), (0, .ref 106), (1, iv p1), (2, iv p2), (3, iv z5068), (4, iv z4574), (5, iv z6108), (6, iv z5241), (7, iv z5067), (8, iv z6107)]) dX12_wayRight_157 (by decide) rfl ?_
                  have L6287 : ∀ (nL6287 : Nat) (z6285 : Int) (μ6286 : mM), mT w μ6286 → mF [126999] w μ6109 μ6286 → mG [(964, 986)] μ6109 μ6286 → (966 ≤ z6285 ∧ z6285 ≤ 985) → (z6285 ≤ z6108) → (z5067 ≤ z6285) → (z6285 - 965) < (nL6287 : Int) → sV (gG l D c H0 sa) mX12_wayRight (sRm 3 0 0) (sZ (gG l D c H0 sa) 0 0 (qI w [106099, 126999] μ (fun z μ1 => (0 ≤ z ∧ z ≤ 1) ∧ mG [(964, 986)] μ μ1 ∧ True))) 159 [(0, .ref 106), (1, iv p1), (2, iv p2), (3, iv z5068), (4, iv z4574), (5, iv z6108), (6, iv z5241), (7, iv z5067), (8, iv z6107), (9, iv z6194), (10, iv z6285)] [] (mk w μ6286) 0 0 := by
                    intro nL6287
                    induction nL6287 with
                    | zero => intro z6285 μ6286 T6289 F6290 G6291 h6288 h6292 h6293 h6294; exact ((vc_X12_wayRight_20 h6294 h6292 h6293 h5243 h6116 hp1 hp2 h4589 h5072 h5071 h5244 h6189 h6111 h6288)).elim
                    | succ nL6287 ih6295 =>
                      intro z6285 μ6286 T6289 F6290 G6291 h6288 h6292 h6293 h6294
                      refine sv_aload_n (pc := 159) dX12_wayRight_159 rfl rfl ?_
                      refine mr_iload_n (pc := 160) (z := z5068) dX12_wayRight_160 rfl rfl ?_
                      refine mr_cVP (pc := 161) (c_X12_byteAt_f hw T6289 (rW (c := 0) (d := 2147483647) h5071 rfl) (F6290.f (A_106 hw) rfl (F6114.f (A_106 hw) rfl (F5074.f (A_106 hw) rfl q_f_size))) (vc_X12_wayRight_21 hq0 h5076 h5229 B5236.1 h5243 h4582 h4583 h4587 h4588 h6116 h6117 h6187 h6293 ht_f_size hp1 hp2 h4589 h4577 h5072 h5071 h5244 h6189 h6111 h6288)) (gOk _ _ _ _ _) dX12_wayRight_161 (tX12_byteAt _ _ _ _ _) ⟨wV_X12_byteAt, wL_X12_byteAt⟩ wM_X12_227 (gCX12 _ _ _ _ _) rfl (A_106 hw) rfl ⟨le_t rfl, le_t rfl⟩ ⟨le_t rfl, le_t rfl⟩ rfl (le_t rfl) fun z6300 h6299 => ?_
                      refine mr_iconst (pc := 164) (z := 1) dX12_wayRight_164 ?_
                      have J6319 : sV (gG l D c H0 sa) mX12_wayRight (sRm 3 0 0) (sZ (gG l D c H0 sa) 0 0 (qI w [106099, 126999] μ (fun z μ1 => (0 ≤ z ∧ z ≤ 1) ∧ mG [(964, 986)] μ μ1 ∧ True))) 214 [(0, .ref 106), (1, iv p1), (2, iv p2), (3, iv z5068), (4, iv z4574), (5, iv z6108), (6, iv z5241), (7, iv z5067), (8, iv z6107), (9, iv z6194), (10, iv z6285)] [] (mk w μ6286) 0 0 := by
                        refine sv_aload_n (pc := 214) dX12_wayRight_214 rfl rfl ?_
                        refine gf_X12_32 (pc := 215) dX12_wayRight_215 wF_X12_148 (A_106 hw) T6289 ?_
                        refine mr_iload (pc := 218) (z := z6285) dX12_wayRight_218 rfl ?_
                        refine mr_iload (pc := 220) (z := z6194) dX12_wayRight_220 rfl ?_
                        refine ss_126 (pc := 222) dX12_wayRight_222 (A_126 hw) T6289 (rIx (n := 84000) h6288 rfl) (vc_X12_wayRight_22 h6193.2.2.1 h6292 h6293 h5243 h6116 hp1 hp2 h4589 h5072 h5071 h5244 h6189 h6111 h6193.1 h6288) fun μ6320 u6321 T6322 => ?_
                        refine mr_iinc (pc := 223) (lv' := [(5, iv (z6108 + 1)), (0, .ref 106), (1, iv p1), (2, iv p2), (3, iv z5068), (4, iv z4574), (6, iv z5241), (7, iv z5067), (8, iv z6107), (9, iv z6194), (10, iv z6285)]) dX12_wayRight_223 rfl (by decide) rfl ?_
                        refine mr_iinc (pc := 226) (lv' := [(8, iv (z6107 + 1)), (5, iv (z6108 + 1)), (0, .ref 106), (1, iv p1), (2, iv p2), (3, iv z5068), (4, iv z4574), (6, iv z5241), (7, iv z5067), (9, iv z6194), (10, iv z6285)]) dX12_wayRight_226 rfl (by decide) rfl ?_
                        refine sv_goto (pc := 229) (tgt := 133) dX12_wayRight_229 (by decide) ?_
                        refine mr_lvS (lv' := [(0, .ref 106), (1, iv p1), (2, iv p2), (3, iv z5068), (4, iv z4574), (5, iv (z6108 + 1)), (6, iv z5241), (7, iv z5067), (8, iv (z6107 + 1))]) (List.forall_mem_cons.mpr ⟨rfl, List.forall_mem_cons.mpr ⟨rfl, List.forall_mem_cons.mpr ⟨rfl, List.forall_mem_cons.mpr ⟨rfl, List.forall_mem_cons.mpr ⟨rfl, List.forall_mem_cons.mpr ⟨rfl, List.forall_mem_cons.mpr ⟨rfl, List.forall_mem_cons.mpr ⟨rfl, List.forall_mem_cons.mpr ⟨rfl, fun _ h => absurd h List.not_mem_nil⟩⟩⟩⟩⟩⟩⟩⟩⟩) ?_
                        exact ih6119 (z6108 + 1) (z6107 + 1) μ6320 T6322 (mF.up (mF.call (mF.call mF.refl F6114 rfl) F6290 rfl) (A_126 hw) u6321 rfl) (mG.up (mG.call (mG.call mG.refl G6115 (List.forall_mem_cons.mpr ⟨⟨_, List.mem_cons_self, vc_X12_wayRight_5⟩, (fun _ h => absurd h List.not_mem_nil)⟩)) G6291 (List.forall_mem_cons.mpr ⟨⟨_, List.mem_cons_self, vc_X12_wayRight_5⟩, (fun _ h => absurd h List.not_mem_nil)⟩)) u6321 List.mem_cons_self (vc_X12_wayRight_27 h6292 h6293 h5243 h6116 hp1 hp2 h4589 h5072 h5071 h5244 h6189 h6111 h6288)) (vc_X12_wayRight_23 h6116 h6292 h5243 h6117 h6187 h6293 hp1 hp2 h4589 h5072 h5071 h5244 h6189 h6111 h6288) (rW (c := 0) (d := 20) (rAdd (e := 1) (f := 20) h6189 (rR (x := 1)) rfl) rfl) (vc_X12_wayRight_24 h5243 h6116 h6117 h6187 h6292 h6293 hq0 h4582 h4583 h4587 h4588 h5076 h5229 B5236.1 ht_f_size hp1 hp2 h4589 h4577 h5072 h5071 h5244 h6189 h6111 h6288) (vc_X12_wayRight_25 h5243 h6116 h6117 h6187 hq0 h4582 h4583 h4587 h4588 h5076 h5229 B5236.1 h6292 h6293 ht_f_size hp1 hp2 h4589 h4577 h5072 h5071 h5244 h6189 h6111 h6288) (vc_X12_wayRight_26 (nS h6118) h6116 h6292 h5243 h6117 h6187 h6293 hp1 hp2 h4589 h5072 h5071 h5244 h6189 h6111 h6288)
                      refine mr_icmp_ne (pc := 165) (tgt := 214) dX12_wayRight_165 (by decide) (r32 h6299.1 rfl) (r32 (rR (x := 1)) rfl) (fun h6323 => ?_) (fun h6323 => ?_)
                      · exact J6319 
                      have h6324 : 1 ≤ z6300 ∧ z6300 ≤ 1 := (vc_X12_wayRight_28 h6323 h6299.1)
                      refine mr_iload (pc := 168) (z := z6285) dX12_wayRight_168 rfl ?_
                      refine mr_iload (pc := 170) (z := z5067) dX12_wayRight_170 rfl ?_
                      refine mr_icmp_le (pc := 172) (tgt := 214) dX12_wayRight_172 (by decide) (r32 h6288 rfl) (r32 h5072 rfl) (fun h6325 => ?_) (fun h6325 => ?_)
                      · exact J6319 
                      have h6326 : 967 ≤ z6285 ∧ z6285 ≤ 985 := (vc_X12_wayRight_29 h6325 h5243 h6116 h6292 h6293 hp1 hp2 h4589 h5072 h5071 h5244 h6189 h6111 h6288)
                      have h6327 : 966 ≤ z5067 ∧ z5067 ≤ 984 := (vc_X12_wayRight_30 h6325 h5243 h6116 h6292 h6293 hp1 hp2 h4589 h5072 h5071 h5244 h6189 h6111 h6326)
                      refine mr_iload (pc := 175) (z := z6194) dX12_wayRight_175 rfl ?_
                      refine sv_aload_n (pc := 177) dX12_wayRight_177 rfl rfl ?_
                      refine gf_X12_32 (pc := 178) dX12_wayRight_178 wF_X12_148 (A_106 hw) T6289 ?_
                      refine mr_iload (pc := 181) (z := z6285) dX12_wayRight_181 rfl ?_
                      refine mr_iconst (pc := 183) (z := 1) dX12_wayRight_183 ?_
                      refine mr_isub (pc := 184) (x := z6285) (y := 1) dX12_wayRight_184 ?_
                      refine la_126 (pc := 185) dX12_wayRight_185 (A_126 hw) T6289 (rIx (n := 84000) (rSub (e := 966) (f := 984) h6326 (rR (x := 1)) rfl) rfl) fun z6328 q6329 h6330 => ?_
                      refine mr_cSP (pc := 186) (c_X12_isBelow hw T6289 h6193.1 h6330.1) (gOk _ _ _ _ _) dX12_wayRight_186 (tX12_isBelow _ _ _ _ _) wS_X12_isBelow wM_X12_578 ⟨le_t rfl, le_t rfl⟩ ⟨le_t rfl, le_t rfl⟩ rfl (le_t rfl) fun z6335 h6334 => ?_
                      refine mr_if_eq (pc := 189) (tgt := 214) dX12_wayRight_189 (by decide) (r32 h6334.1 rfl) (fun h6336 => ?_) (fun h6336 => ?_)
                      · have h6337 : 0 ≤ z6335 ∧ z6335 ≤ 0 := (vc_X12_wayRight_31 h6336 h6334.2.1 h6334.2.2.1 h6193.1 h6330.1 h6334.1)
                        have h6338 : z6328 % 4294967296 ≤ z6194 % 4294967296 := (h6334.2.2.1 (vc_X12_wayRight_32 h6334.2.1 h6334.2.2.1 h6336 h6193.2.2.1 h6330.2.1 h6330.2.2.1 h6330.2.2.2 h6193.1 h6326 h6330.1 h6337))
                        exact J6319 
                      have h6339 : 1 ≤ z6335 ∧ z6335 ≤ 1 := (vc_X12_wayRight_33 h6336 h6334.2.1 h6334.2.2.1 h6193.1 h6330.1 h6334.1)
                      have h6340 : z6194 % 4294967296 < z6328 % 4294967296 := (h6334.2.1 (vc_X12_wayRight_34 h6334.2.1 h6334.2.2.1 h6336 h6193.2.2.1 h6330.2.1 h6330.2.2.1 h6330.2.2.2 h6193.1 h6326 h6330.1 h6339))
                      refine sv_aload_n (pc := 192) dX12_wayRight_192 rfl rfl ?_
                      refine gf_X12_32 (pc := 193) dX12_wayRight_193 wF_X12_148 (A_106 hw) T6289 ?_
                      refine mr_iload (pc := 196) (z := z6285) dX12_wayRight_196 rfl ?_
                      refine sv_aload_n (pc := 198) dX12_wayRight_198 rfl rfl ?_
                      refine gf_X12_32 (pc := 199) dX12_wayRight_199 wF_X12_148 (A_106 hw) T6289 ?_
                      refine mr_iload (pc := 202) (z := z6285) dX12_wayRight_202 rfl ?_
                      refine mr_iconst (pc := 204) (z := 1) dX12_wayRight_204 ?_
                      refine mr_isub (pc := 205) (x := z6285) (y := 1) dX12_wayRight_205 ?_
                      refine lk_126 (pc := 206) dX12_wayRight_206 (A_126 hw) (rIx (n := 84000) (rSub (e := 966) (f := 984) h6326 (rR (x := 1)) rfl) rfl) q6329 ?_
                      refine ss_126 (pc := 207) dX12_wayRight_207 (A_126 hw) T6289 (rIx (n := 84000) h6326 rfl) (vc_X12_wayRight_35 h6292 h6293 h6325 h6330.2.1 h6330.2.2.1 h6330.2.2.2 h6334.2.1 h6334.2.2.1 h6340 h5243 h6116 h6193.2.2.1 h6336 hp1 hp2 h4589 h6327 h5071 h5244 h6189 h6111 h6193.1 h6326 h6330.1 h6339) fun μ6341 u6342 T6343 => ?_
                      refine mr_iinc (pc := 208) (lv' := [(10, iv (z6285 + (-1))), (0, .ref 106), (1, iv p1), (2, iv p2), (3, iv z5068), (4, iv z4574), (5, iv z6108), (6, iv z5241), (7, iv z5067), (8, iv z6107), (9, iv z6194)]) dX12_wayRight_208 rfl (by decide) rfl ?_
                      refine sv_goto (pc := 211) (tgt := 159) dX12_wayRight_211 (by decide) ?_
                      refine mr_lvS (lv' := [(0, .ref 106), (1, iv p1), (2, iv p2), (3, iv z5068), (4, iv z4574), (5, iv z6108), (6, iv z5241), (7, iv z5067), (8, iv z6107), (9, iv z6194), (10, iv (z6285 + (-1)))]) (List.forall_mem_cons.mpr ⟨rfl, List.forall_mem_cons.mpr ⟨rfl, List.forall_mem_cons.mpr ⟨rfl, List.forall_mem_cons.mpr ⟨rfl, List.forall_mem_cons.mpr ⟨rfl, List.forall_mem_cons.mpr ⟨rfl, List.forall_mem_cons.mpr ⟨rfl, List.forall_mem_cons.mpr ⟨rfl, List.forall_mem_cons.mpr ⟨rfl, List.forall_mem_cons.mpr ⟨rfl, List.forall_mem_cons.mpr ⟨rfl, fun _ h => absurd h List.not_mem_nil⟩⟩⟩⟩⟩⟩⟩⟩⟩⟩⟩) ?_
                      exact ih6295 (z6285 + (-1)) μ6341 T6343 (mF.up (mF.call mF.refl F6290 rfl) (A_126 hw) u6342 rfl) (mG.up (mG.call mG.refl G6291 (List.forall_mem_cons.mpr ⟨⟨_, List.mem_cons_self, vc_X12_wayRight_5⟩, (fun _ h => absurd h List.not_mem_nil)⟩)) u6342 List.mem_cons_self (vc_X12_wayRight_39 h6292 h6293 h6325 h6330.2.1 h6330.2.2.1 h6330.2.2.2 h5243 h6116 h6334.2.1 h6334.2.2.1 h6340 hp1 hp2 h4589 h6327 h5071 h5244 h6189 h6111 h6193.1 h6326 h6330.1 h6339)) (rW (c := 966) (d := 985) (rAdd (e := 966) (f := 984) h6326 (rR (x := (-1))) rfl) rfl) (vc_X12_wayRight_36 h6116 h6292 h6293 h6325 h6330.2.1 h6330.2.2.1 h6330.2.2.2 h5243 h6117 h6187 h6334.2.1 h6334.2.2.1 h6340 hp1 hp2 h4589 h6327 h5071 h5244 h6189 h6111 h6193.1 h6326 h6330.1 h6339) (vc_X12_wayRight_37 h5243 h6116 h6292 h6293 h6325 h6330.2.1 h6330.2.2.1 h6330.2.2.2 hq0 h4582 h4583 h4587 h4588 h5076 h5229 B5236.1 h6117 h6187 h6334.2.1 h6334.2.2.1 h6340 ht_f_size hp1 hp2 h4589 h4577 h6327 h5071 h5244 h6189 h6111 h6193.1 h6326 h6330.1 h6339) (vc_X12_wayRight_38 (nS h6294) h6292 h6293 h6325 h6330.2.1 h6330.2.2.1 h6330.2.2.2 h5243 h6116 h6334.2.1 h6334.2.2.1 h6340 hp1 hp2 h4589 h6327 h5071 h5244 h6189 h6111 h6193.1 h6326 h6330.1 h6339)
                  refine mr_lvS (lv' := [(0, .ref 106), (1, iv p1), (2, iv p2), (3, iv z5068), (4, iv z4574), (5, iv z6108), (6, iv z5241), (7, iv z5067), (8, iv z6107), (9, iv z6194), (10, iv z6108)]) (List.forall_mem_cons.mpr ⟨rfl, List.forall_mem_cons.mpr ⟨rfl, List.forall_mem_cons.mpr ⟨rfl, List.forall_mem_cons.mpr ⟨rfl, List.forall_mem_cons.mpr ⟨rfl, List.forall_mem_cons.mpr ⟨rfl, List.forall_mem_cons.mpr ⟨rfl, List.forall_mem_cons.mpr ⟨rfl, List.forall_mem_cons.mpr ⟨rfl, List.forall_mem_cons.mpr ⟨rfl, List.forall_mem_cons.mpr ⟨rfl, fun _ h => absurd h List.not_mem_nil⟩⟩⟩⟩⟩⟩⟩⟩⟩⟩⟩) ?_
                  exact L6287 22 z6108 μ6109 T6113 mF.refl mG.refl (vc_X12_wayRight_40 h6116 h5243 h6117 h6187 hp1 hp2 h4589 h5072 h5071 h5244 h6189 h6111) (vc_X12_wayRight_41 h6116 h5243 h6117 h6187 hp1 hp2 h4589 h5072 h5071 h5244 h6189 h6111) (vc_X12_wayRight_42 h5243 h6116 hq0 h4582 h4583 h4587 h4588 h5076 h5229 B5236.1 h6117 h6187 ht_f_size hp1 hp2 h4589 h4577 h5072 h5071 h5244 h6189 h6111) (vc_X12_wayRight_43 h6116 h5243 h6117 h6187 hp1 hp2 h4589 h5072 h5071 h5244 h6189 h6111)
              refine mr_lvS (lv' := [(0, .ref 106), (1, iv p1), (2, iv p2), (3, iv z5068), (4, iv z4574), (5, iv z5067), (6, iv z5241), (7, iv z5067), (8, iv 0)]) (List.forall_mem_cons.mpr ⟨rfl, List.forall_mem_cons.mpr ⟨rfl, List.forall_mem_cons.mpr ⟨rfl, List.forall_mem_cons.mpr ⟨rfl, List.forall_mem_cons.mpr ⟨rfl, List.forall_mem_cons.mpr ⟨rfl, List.forall_mem_cons.mpr ⟨rfl, List.forall_mem_cons.mpr ⟨rfl, List.forall_mem_cons.mpr ⟨rfl, fun _ h => absurd h List.not_mem_nil⟩⟩⟩⟩⟩⟩⟩⟩⟩) ?_
              exact L6110 22 z5067 0 μ5069 T5073 mF.refl mG.refl h5072 (rW (c := 0) (d := 20) (rR (x := 0)) rfl) (vc_X12_wayRight_44 h5243 hq0 h4582 h4583 h4587 h4588 h5076 h5229 B5236.1 ht_f_size hp1 hp2 h4589 h4577 h5072 h5071 h5244) (vc_X12_wayRight_45 h5243 hq0 h4582 h4583 h4587 h4588 h5076 h5229 B5236.1 ht_f_size hp1 hp2 h4589 h4577 h5072 h5071 h5244) (vc_X12_wayRight_46 h5243 hq0 h4582 h4583 h4587 h4588 h5076 h5229 B5236.1 ht_f_size hp1 hp2 h4589 h4577 h5072 h5071 h5244)
          refine mr_lvS (lv' := [(0, .ref 106), (1, iv p1), (2, iv p2), (3, iv p1), (4, iv z4574), (5, iv 966)]) (List.forall_mem_cons.mpr ⟨rfl, List.forall_mem_cons.mpr ⟨rfl, List.forall_mem_cons.mpr ⟨rfl, List.forall_mem_cons.mpr ⟨rfl, List.forall_mem_cons.mpr ⟨rfl, List.forall_mem_cons.mpr ⟨rfl, fun _ h => absurd h List.not_mem_nil⟩⟩⟩⟩⟩⟩) ?_
          exact L5070 1002 p1 966 μ hT mF.refl mG.refl hp1 (rW (c := 966) (d := 986) (rR (x := 966)) rfl) (vc_X12_wayRight_47 hq0 h4582 h4583 h4587 h4588 ht_f_size hp1 hp2 h4589 h4577) (Chn.fin R4584 (vc_X12_wayRight_49 hq0 h4582 h4583 h4587 h4588 ht_f_size hp1 hp2 h4589 h4577) (vc_X12_wayRight_50 hq0 h4582 h4583 h4587 h4588 ht_f_size hp1 hp2 h4589 h4577)) (vc_X12_wayRight_48 hq0 h4582 h4583 h4587 h4588 ht_f_size hp1 hp2 h4589 h4577)
        have h6344 : 21 ≤ z4574 ∧ z4574 ≤ 250 := (vc_X12_wayRight_51 h4588 h4582 hp1 h4578 h4577)
        refine mr_iconst (pc := 101) (z := 0) dX12_wayRight_101 ?_
        exact mr_zret dX12_wayRight_102 rfl (rW (c := 0) (d := 1) (rR (x := 0)) rfl) (le_t rfl) (le_t rfl) hT mF.refl ⟨(rW (c := 0) (d := 1) (rR (x := 0)) rfl), mG.refl, trivial⟩
      refine mr_iload_n (pc := 12) (z := z4575) dX12_wayRight_12 rfl rfl ?_
      refine mr_iconst (pc := 13) (z := 2) dX12_wayRight_13 ?_
      refine mr_iadd (pc := 14) (x := z4575) (y := 2) dX12_wayRight_14 ?_
      refine mr_iload_n (pc := 15) (z := p1) dX12_wayRight_15 rfl rfl ?_
      refine mr_iload_n (pc := 16) (z := p2) dX12_wayRight_16 rfl rfl ?_
      refine mr_iadd (pc := 17) (x := p1) (y := p2) dX12_wayRight_17 ?_
      refine mr_icmp_gt (pc := 18) (tgt := 63) dX12_wayRight_18 (by decide) (r32 (rAdd (e := 2) (f := 1002) h4577 (rR (x := 2)) rfl) rfl) (r32 (rAdd (e := 0) (f := 2000) hp1 hp2 rfl) rfl) (fun h6345 => ?_) (fun h6345 => ?_)
      · refine mr_iconst (pc := 63) (z := 0) dX12_wayRight_63 ?_
        exact mr_zret dX12_wayRight_64 rfl (rW (c := 0) (d := 1) (rR (x := 0)) rfl) (le_t rfl) (le_t rfl) hT mF.refl ⟨(rW (c := 0) (d := 1) (rR (x := 0)) rfl), mG.refl, trivial⟩
      refine sv_aload_n (pc := 21) dX12_wayRight_21 rfl rfl ?_
      refine mr_iload_n (pc := 22) (z := z4575) dX12_wayRight_22 rfl rfl ?_
      refine mr_cVP (pc := 23) (c_X12_byteAt_f hw hT (rW (c := 0) (d := 2147483647) h4577 rfl) q_f_size (vc_X12_wayRight_52 hq0 h4582 h4583 h4587 h6345 ht_f_size hp1 hp2 h4578 h4577)) (gOk _ _ _ _ _) dX12_wayRight_23 (tX12_byteAt _ _ _ _ _) ⟨wV_X12_byteAt, wL_X12_byteAt⟩ wM_X12_227 (gCX12 _ _ _ _ _) rfl (A_106 hw) rfl ⟨le_t rfl, le_t rfl⟩ ⟨le_t rfl, le_t rfl⟩ rfl (le_t rfl) fun z6350 h6349 => ?_
      refine mr_iconst (pc := 26) (z := 1) dX12_wayRight_26 ?_
      refine mr_iconst (pc := 27) (z := 2) dX12_wayRight_27 ?_
      refine mr_cSP (pc := 28) (c_X12_in hw hT (rW (c := (-2147483648)) (d := 2147483647) h6349.1 rfl) (rW (c := (-2147483648)) (d := 2147483647) (rR (x := 1)) rfl) (rW (c := (-2147483648)) (d := 2147483647) (rR (x := 2)) rfl)) (gOk _ _ _ _ _) dX12_wayRight_28 (tX12_in _ _ _ _ _) wS_X12_in wM_X12_18 ⟨le_t rfl, le_t rfl⟩ ⟨le_t rfl, le_t rfl⟩ rfl (le_t rfl) fun z6355 h6354 => ?_
      refine mr_if_eq (pc := 31) (tgt := 63) dX12_wayRight_31 (by decide) (r32 h6354.1 rfl) (fun h6356 => ?_) (fun h6356 => ?_)
      · have h6357 : 0 ≤ z6355 ∧ z6355 ≤ 0 := (vc_X12_wayRight_53 h6356 h6354.2.1 h6354.2.2.1 h6349.1 h6354.1)
        have h6358 : z6350 < (1 : Int) ∨ (2 : Int) < z6350 := (h6354.2.2.1 (vc_X12_wayRight_54 h6354.2.1 h6354.2.2.1 h6356 h6349.1 h6357))
        refine mr_iconst (pc := 63) (z := 0) dX12_wayRight_63 ?_
        exact mr_zret dX12_wayRight_64 rfl (rW (c := 0) (d := 1) (rR (x := 0)) rfl) (le_t rfl) (le_t rfl) hT mF.refl ⟨(rW (c := 0) (d := 1) (rR (x := 0)) rfl), mG.refl, trivial⟩
      have h6359 : 1 ≤ z6355 ∧ z6355 ≤ 1 := (vc_X12_wayRight_55 h6356 h6354.2.1 h6354.2.2.1 h6349.1 h6354.1)
      have h6360 : (1 : Int) ≤ z6350 ∧ z6350 ≤ (2 : Int) := (h6354.2.1 (vc_X12_wayRight_56 h6354.2.1 h6354.2.2.1 h6356 h6349.1 h6359))
      have h6361 : 1 ≤ z6350 ∧ z6350 ≤ 2 := (vc_X12_wayRight_57 h6360 h6354.2.1 h6354.2.2.1 h6349.1 h6359)
      refine sv_aload_n (pc := 34) dX12_wayRight_34 rfl rfl ?_
      refine mr_iload_n (pc := 35) (z := z4575) dX12_wayRight_35 rfl rfl ?_
      refine mr_iconst (pc := 36) (z := 1) dX12_wayRight_36 ?_
      refine mr_iadd (pc := 37) (x := z4575) (y := 1) dX12_wayRight_37 ?_
      refine mr_cVP (pc := 38) (c_X12_byteAt_f hw hT (rW (c := 0) (d := 2147483647) (rAdd (e := 1) (f := 1001) h4577 (rR (x := 1)) rfl) rfl) q_f_size (vc_X12_wayRight_58 hq0 h4582 h4583 h4587 h6345 ht_f_size hp1 hp2 h4578 h4577)) (gOk _ _ _ _ _) dX12_wayRight_38 (tX12_byteAt _ _ _ _ _) ⟨wV_X12_byteAt, wL_X12_byteAt⟩ wM_X12_227 (gCX12 _ _ _ _ _) rfl (A_106 hw) rfl ⟨le_t rfl, le_t rfl⟩ ⟨le_t rfl, le_t rfl⟩ rfl (le_t rfl) fun z6366 h6365 => ?_
      refine mr_if_eq (pc := 41) (tgt := 63) dX12_wayRight_41 (by decide) (r32 h6365.1 rfl) (fun h6367 => ?_) (fun h6367 => ?_)
      · have h6368 : 0 ≤ z6366 ∧ z6366 ≤ 0 := (vc_X12_wayRight_59 h6367 h6365.1)
        refine mr_iconst (pc := 63) (z := 0) dX12_wayRight_63 ?_
        exact mr_zret dX12_wayRight_64 rfl (rW (c := 0) (d := 1) (rR (x := 0)) rfl) (le_t rfl) (le_t rfl) hT mF.refl ⟨(rW (c := 0) (d := 1) (rR (x := 0)) rfl), mG.refl, trivial⟩
      have h6369 : 1 ≤ z6366 ∧ z6366 ≤ 255 := (vc_X12_wayRight_60 h6367 h6365.1)
      refine mr_iload_n (pc := 44) (z := z4575) dX12_wayRight_44 rfl rfl ?_
      refine mr_iconst (pc := 45) (z := 2) dX12_wayRight_45 ?_
      refine mr_iadd (pc := 46) (x := z4575) (y := 2) dX12_wayRight_46 ?_
      refine mr_iconst (pc := 47) (z := 4) dX12_wayRight_47 ?_
      refine sv_aload_n (pc := 48) dX12_wayRight_48 rfl rfl ?_
      refine mr_iload_n (pc := 49) (z := z4575) dX12_wayRight_49 rfl rfl ?_
      refine mr_iconst (pc := 50) (z := 1) dX12_wayRight_50 ?_
      refine mr_iadd (pc := 51) (x := z4575) (y := 1) dX12_wayRight_51 ?_
      refine mr_cVP (pc := 52) (c_X12_byteAt_f hw hT (rW (c := 0) (d := 2147483647) (rAdd (e := 1) (f := 1001) h4577 (rR (x := 1)) rfl) rfl) q_f_size (vc_X12_wayRight_58 hq0 h4582 h4583 h4587 h6345 ht_f_size hp1 hp2 h4578 h4577)) (gOk _ _ _ _ _) dX12_wayRight_52 (tX12_byteAt _ _ _ _ _) ⟨wV_X12_byteAt, wL_X12_byteAt⟩ wM_X12_227 (gCX12 _ _ _ _ _) rfl (A_106 hw) rfl ⟨le_t rfl, le_t rfl⟩ ⟨le_t rfl, le_t rfl⟩ rfl (le_t rfl) fun z6374 h6373 => ?_
      have h6375 : 1 ≤ z6374 ∧ z6374 ≤ 255 := (vc_X12_wayRight_61 (h6373.2.1.trans h6365.2.1.symm) h6367 h6369 h6373.1)
      refine mr_imul (pc := 55) (x := 4) (y := z6374) dX12_wayRight_55 ?_
      refine mr_iadd (pc := 56) (x := (z4575 + 2)) (y := (4 * z6374)) dX12_wayRight_56 ?_
      refine mr_iload_n (pc := 57) (z := p1) dX12_wayRight_57 rfl rfl ?_
      refine mr_iload_n (pc := 58) (z := p2) dX12_wayRight_58 rfl rfl ?_
      refine mr_iadd (pc := 59) (x := p1) (y := p2) dX12_wayRight_59 ?_
      refine mr_icmp_le (pc := 60) (tgt := 65) dX12_wayRight_60 (by decide) (r32 (rAdd (e := 6) (f := 2022) (rAdd (e := 2) (f := 1002) h4577 (rR (x := 2)) rfl) (rMulL (n := 4) (e := 4) (f := 1020) h6375 rfl) rfl) rfl) (r32 (rAdd (e := 0) (f := 2000) hp1 hp2 rfl) rfl) (fun h6376 => ?_) (fun h6376 => ?_)
      · refine mr_iload (pc := 65) (z := z4574) dX12_wayRight_65 rfl ?_
        refine sv_aload_n (pc := 67) dX12_wayRight_67 rfl rfl ?_
        refine mr_iload_n (pc := 68) (z := z4575) dX12_wayRight_68 rfl rfl ?_
        refine mr_iconst (pc := 69) (z := 1) dX12_wayRight_69 ?_
        refine mr_iadd (pc := 70) (x := z4575) (y := 1) dX12_wayRight_70 ?_
        refine mr_cVP (pc := 71) (c_X12_byteAt_f hw hT (rW (c := 0) (d := 2147483647) (rAdd (e := 1) (f := 1001) h4577 (rR (x := 1)) rfl) rfl) q_f_size (vc_X12_wayRight_62 hq0 h4582 h4583 h4587 h6345 h6376 (h6373.2.1.trans h6365.2.1.symm) ht_f_size hp1 hp2 h4578 h4577 h6369 h6375)) (gOk _ _ _ _ _) dX12_wayRight_71 (tX12_byteAt _ _ _ _ _) ⟨wV_X12_byteAt, wL_X12_byteAt⟩ wM_X12_227 (gCX12 _ _ _ _ _) rfl (A_106 hw) rfl ⟨le_t rfl, le_t rfl⟩ ⟨le_t rfl, le_t rfl⟩ rfl (le_t rfl) fun z6381 h6380 => ?_
        have h6382 : 1 ≤ z6381 ∧ z6381 ≤ 255 := (vc_X12_wayRight_63 (h6380.2.1.trans h6365.2.1.symm) h6367 (h6373.2.1.trans h6365.2.1.symm) h6369 h6375 h6380.1)
        refine mr_iadd (pc := 74) (x := z4574) (y := z6381) dX12_wayRight_74 ?_
        refine mr_istore (pc := 75) (lv' := [(4, iv (z4574 + z6381)), (0, .ref 106), (1, iv p1), (2, iv p2), (3, iv z4575)]) dX12_wayRight_75 (by decide) rfl ?_
        refine mr_iload_n (pc := 77) (z := z4575) dX12_wayRight_77 rfl rfl ?_
        refine mr_iconst (pc := 78) (z := 2) dX12_wayRight_78 ?_
        refine mr_iconst (pc := 79) (z := 4) dX12_wayRight_79 ?_
        refine sv_aload_n (pc := 80) dX12_wayRight_80 rfl rfl ?_
        refine mr_iload_n (pc := 81) (z := z4575) dX12_wayRight_81 rfl rfl ?_
        refine mr_iconst (pc := 82) (z := 1) dX12_wayRight_82 ?_
        refine mr_iadd (pc := 83) (x := z4575) (y := 1) dX12_wayRight_83 ?_
        refine mr_cVP (pc := 84) (c_X12_byteAt_f hw hT (rW (c := 0) (d := 2147483647) (rAdd (e := 1) (f := 1001) h4577 (rR (x := 1)) rfl) rfl) q_f_size (vc_X12_wayRight_62 hq0 h4582 h4583 h4587 h6345 h6376 (h6373.2.1.trans h6365.2.1.symm) ht_f_size hp1 hp2 h4578 h4577 h6369 h6375)) (gOk _ _ _ _ _) dX12_wayRight_84 (tX12_byteAt _ _ _ _ _) ⟨wV_X12_byteAt, wL_X12_byteAt⟩ wM_X12_227 (gCX12 _ _ _ _ _) rfl (A_106 hw) rfl ⟨le_t rfl, le_t rfl⟩ ⟨le_t rfl, le_t rfl⟩ rfl (le_t rfl) fun z6387 h6386 => ?_
        have h6388 : 1 ≤ z6387 ∧ z6387 ≤ 255 := (vc_X12_wayRight_64 (h6386.2.1.trans h6365.2.1.symm) h6367 (h6373.2.1.trans h6365.2.1.symm) (h6380.2.1.trans h6365.2.1.symm) h6369 h6375 h6382 h6386.1)
        refine mr_imul (pc := 87) (x := 4) (y := z6387) dX12_wayRight_87 ?_
        refine mr_iadd (pc := 88) (x := 2) (y := (4 * z6387)) dX12_wayRight_88 ?_
        refine mr_iadd (pc := 89) (x := z4575) (y := (2 + (4 * z6387))) dX12_wayRight_89 ?_
        refine mr_istore_n (pc := 90) (lv' := [(3, iv (z4575 + (2 + (4 * z6387)))), (4, iv (z4574 + z6381)), (0, .ref 106), (1, iv p1), (2, iv p2)]) dX12_wayRight_90 rfl (by decide) rfl ?_
        refine sv_goto (pc := 91) (tgt := 5) dX12_wayRight_91 (by decide) ?_
        refine mr_lvS (lv' := [(0, .ref 106), (1, iv p1), (2, iv p2), (3, iv (z4575 + (2 + (4 * z6387)))), (4, iv (z4574 + z6381))]) (List.forall_mem_cons.mpr ⟨rfl, List.forall_mem_cons.mpr ⟨rfl, List.forall_mem_cons.mpr ⟨rfl, List.forall_mem_cons.mpr ⟨rfl, List.forall_mem_cons.mpr ⟨rfl, fun _ h => absurd h List.not_mem_nil⟩⟩⟩⟩⟩) ?_
        exact ih4586 (z4575 + (2 + (4 * z6387))) (z4574 + z6381) trivial (vc_X12_wayRight_65 h4582 h4583 h4587 h6345 h6376 (h6386.2.1.trans h6365.2.1.symm) hq0 h6367 (h6373.2.1.trans h6365.2.1.symm) (h6380.2.1.trans h6365.2.1.symm) ht_f_size hp1 hp2 h4578 h4577 h6369 h6375 h6382 h6388) (vc_X12_wayRight_66 h4582 (h6380.2.1.trans h6365.2.1.symm) hq0 h4583 h4587 h6345 h6367 (h6373.2.1.trans h6365.2.1.symm) h6376 (h6386.2.1.trans h6365.2.1.symm) ht_f_size hp1 hp2 h4578 h4577 h6369 h6375 h6382 h6388) (vc_X12_wayRight_67 hq0 h4582 h4583 h4587 h6345 h6376 (h6380.2.1.trans h6365.2.1.symm) (h6386.2.1.trans h6365.2.1.symm) h6367 (h6373.2.1.trans h6365.2.1.symm) ht_f_size hp1 hp2 h4578 h4577 h6369 h6375 h6382 h6388) (vc_X12_wayRight_68 hq0 h4582 h4583 h4587 h6345 h6376 (h6386.2.1.trans h6365.2.1.symm) h6367 (h6373.2.1.trans h6365.2.1.symm) (h6380.2.1.trans h6365.2.1.symm) ht_f_size hp1 hp2 h4578 h4577 h6369 h6375 h6382 h6388) (Chn.step R4584 (vc_X12_wayRight_70 hq0 h4582 h4583 h4587 h6345 h6376 (h6373.2.1.trans h6365.2.1.symm) ht_f_size hp1 hp2 h4578 h4577 h6369 h6375) (vc_X12_wayRight_71 hq0 h4582 h4583 h4587 h6345 h6376 (h6373.2.1.trans h6365.2.1.symm) ht_f_size hp1 hp2 h4578 h4577 h6369 h6375) h6365.2.1.symm (vc_X12_wayRight_72 hq0 h4582 h4583 h4587 h6345 h6367 (h6373.2.1.trans h6365.2.1.symm) h6376 (h6380.2.1.trans h6365.2.1.symm) (h6386.2.1.trans h6365.2.1.symm) ht_f_size hp1 hp2 h4578 h4577 h6369 h6375 h6382 h6388) (vc_X12_wayRight_73 hq0 h4582 h4583 h4587 h6345 h6367 (h6373.2.1.trans h6365.2.1.symm) h6376 (h6380.2.1.trans h6365.2.1.symm) (h6386.2.1.trans h6365.2.1.symm) ht_f_size hp1 hp2 h4578 h4577 h6369 h6375 h6382 h6388) (vc_X12_wayRight_74 hq0 h4582 h4583 h4587 h6345 h6367 (h6373.2.1.trans h6365.2.1.symm) h6376 (h6380.2.1.trans h6365.2.1.symm) (h6386.2.1.trans h6365.2.1.symm) ht_f_size hp1 hp2 h4578 h4577 h6369 h6375 h6382 h6388) (vc_X12_wayRight_75 hq0 h4582 h4583 h4587 h6345 h6367 (h6373.2.1.trans h6365.2.1.symm) h6376 (h6380.2.1.trans h6365.2.1.symm) (h6386.2.1.trans h6365.2.1.symm) ht_f_size hp1 hp2 h4578 h4577 h6369 h6375 h6382 h6388)) (vc_X12_wayRight_69 (nS h4585) h4582 h4583 h4587 h6345 h6376 (h6386.2.1.trans h6365.2.1.symm) hq0 h6367 (h6373.2.1.trans h6365.2.1.symm) (h6380.2.1.trans h6365.2.1.symm) ht_f_size hp1 hp2 h4578 h4577 h6369 h6375 h6382 h6388)
      refine mr_iconst (pc := 63) (z := 0) dX12_wayRight_63 ?_
      exact mr_zret dX12_wayRight_64 rfl (rW (c := 0) (d := 1) (rR (x := 0)) rfl) (le_t rfl) (le_t rfl) hT mF.refl ⟨(rW (c := 0) (d := 1) (rR (x := 0)) rfl), mG.refl, trivial⟩
  refine mr_lvS (lv' := [(0, .ref 106), (1, iv p1), (2, iv p2), (3, iv p1), (4, iv 0)]) (List.forall_mem_cons.mpr ⟨rfl, List.forall_mem_cons.mpr ⟨rfl, List.forall_mem_cons.mpr ⟨rfl, List.forall_mem_cons.mpr ⟨rfl, List.forall_mem_cons.mpr ⟨rfl, fun _ h => absurd h List.not_mem_nil⟩⟩⟩⟩⟩) ?_
  exact L4576 1002 p1 0 trivial hp1 (rW (c := 0) (d := 250) (rR (x := 0)) rfl) (vc_X12_wayRight_76 hq0 ht_f_size hp1 hp2) (vc_X12_wayRight_77 hq0 ht_f_size hp1 hp2) (Chn.id rfl) (vc_X12_wayRight_78 hq0 ht_f_size hp1 hp2)
theorem vc_X12_originRight_f_1 {f_size p1 p2 : Int} (h0 : p2 = 1) (h1 : p1 + p2 ≤ f_size) (h2 : 0 ≤ f_size ∧ f_size ≤ 1000) (h3 : 0 ≤ p1 ∧ p1 ≤ 1000) (h4 : 0 ≤ p2 ∧ p2 ≤ 1000) : 1 ≤ p2 ∧ p2 ≤ 1 := by omega
theorem vc_X12_originRight_f_2 {f_size p1 z64 : Int} (h0 : z64 ≤ 2) (h1 : 0 ≤ z64 → p1 < f_size) (h2 : p1 < f_size → 0 ≤ z64) (h3 : 0 ≤ f_size ∧ f_size ≤ 1000) (h4 : 0 ≤ p1 ∧ p1 ≤ 1000) (h5 : (-1) ≤ z64 ∧ z64 ≤ 255) : (-1) ≤ z64 ∧ z64 ≤ 2 := by omega
theorem vc_X12_originRight_f_3 {f_size p1 p2 z64 z71 : Int} (h0 : 0 ≤ z71 → p1 < f_size) (h1 : p1 < f_size → 0 ≤ z71) (h2 : p1 + p2 ≤ f_size) (h3 : 0 ≤ z64 → p1 < f_size) (h4 : p1 < f_size → 0 ≤ z64) (h5 : 0 ≤ f_size ∧ f_size ≤ 1000) (h6 : 0 ≤ p1 ∧ p1 ≤ 1000) (h7 : 1 ≤ p2 ∧ p2 ≤ 1) (h8 : (-1) ≤ z64 ∧ z64 ≤ 2) (h9 : (-1) ≤ z71 ∧ z71 ≤ 255) : (-2147483648 ≤ z71 ∧ z71 ≤ 2147483647) ∧ ((962 : Int) % 40 = 0 → -1 ≤ z71 ∧ z71 ≤ 9) ∧ ((962 : Int) % 40 = 4 → 0 ≤ z71 ∧ z71 ≤ 20) ∧ ((962 : Int) % 40 = 5 → 0 ≤ z71 ∧ z71 ≤ 8) := by omega
theorem vc_X12_originRight_f_4  : (0 : Int) ≤ (962 : Int) ∧ (962 : Int) ≤ (962 : Int) ∧ (962 : Int) < (963 : Int) := by omega
theorem vc_X12_originRight_f_5 {f_size p1 z64 : Int} (h0 : 2 < z64) (h1 : 0 ≤ z64 → p1 < f_size) (h2 : p1 < f_size → 0 ≤ z64) (h3 : 0 ≤ f_size ∧ f_size ≤ 1000) (h4 : 0 ≤ p1 ∧ p1 ≤ 1000) (h5 : (-1) ≤ z64 ∧ z64 ≤ 255) : 3 ≤ z64 ∧ z64 ≤ 255 := by omega
set_option maxRecDepth 4000 in
set_option maxHeartbeats 4000000 in
theorem c_X12_originRight_f {l : Launch} {D : va_G} {c : Nat → ClassId} {H0 : Heap} {sa : Nat × Nat × (Nat → Int32)} {w : mW} {μ : mM} (hw : mWF w) (hT : mT w μ) {p1 : Int} (hp1 : 0 ≤ p1 ∧ p1 ≤ 1000) {p2 : Int} (hp2 : 0 ≤ p2 ∧ p2 ≤ 1000) {f_size : Int} (q_f_size : μ 106 1 = f_size) (hq0 : p1 + p2 ≤ f_size) : sC (gG l D c H0 sa) mX12_originRight 2 0 0 [.ref 106, iv p1, iv p2] (mk w μ) (qI w [106098, 126999] μ (fun z μ1 => (0 ≤ z ∧ z ≤ 1) ∧ mG [(962, 963)] μ μ1 ∧ True)) := by
  refine sC.of rfl (by decide) (le_t rfl) ?_
  have ht_f_size : (0 ≤ f_size ∧ f_size ≤ 1000) := by rw [← q_f_size]; exact hT 106 106 (A_106 hw) 1
  refine mr_lvE (lv' := [(0, .ref 106), (1, iv p1), (2, iv p2)]) rfl ?_
  refine mr_iload_n (pc := 0) (z := p2) dX12_originRight_0 rfl rfl ?_
  refine mr_iconst (pc := 1) (z := 1) dX12_originRight_1 ?_
  refine mr_icmp_ne (pc := 2) (tgt := 14) dX12_originRight_2 (by decide) (r32 hp2 rfl) (r32 (rR (x := 1)) rfl) (fun h58 => ?_) (fun h58 => ?_)
  · refine mr_iconst (pc := 14) (z := 0) dX12_originRight_14 ?_
    exact mr_zret dX12_originRight_15 rfl (rW (c := 0) (d := 1) (rR (x := 0)) rfl) (le_t rfl) (le_t rfl) hT mF.refl ⟨(rW (c := 0) (d := 1) (rR (x := 0)) rfl), mG.refl, trivial⟩
  have h59 : 1 ≤ p2 ∧ p2 ≤ 1 := (vc_X12_originRight_f_1 h58 hq0 ht_f_size hp1 hp2)
  refine sv_aload_n (pc := 5) dX12_originRight_5 rfl rfl ?_
  refine mr_iload_n (pc := 6) (z := p1) dX12_originRight_6 rfl rfl ?_
  refine mr_cVP (pc := 7) (c_X12_byteAt hw hT (rW (c := 0) (d := 2147483647) hp1 rfl) q_f_size) (gOk _ _ _ _ _) dX12_originRight_7 (tX12_byteAt _ _ _ _ _) ⟨wV_X12_byteAt, wL_X12_byteAt⟩ wM_X12_227 (gCX12 _ _ _ _ _) rfl (A_106 hw) rfl ⟨le_t rfl, le_t rfl⟩ ⟨le_t rfl, le_t rfl⟩ rfl (le_t rfl) fun z64 h63 => ?_
  refine mr_iconst (pc := 10) (z := 2) dX12_originRight_10 ?_
  refine mr_icmp_le (pc := 11) (tgt := 16) dX12_originRight_11 (by decide) (r32 h63.1 rfl) (r32 (rR (x := 2)) rfl) (fun h65 => ?_) (fun h65 => ?_)
  · have h66 : (-1) ≤ z64 ∧ z64 ≤ 2 := (vc_X12_originRight_f_2 h65 h63.2.1 h63.2.2.1 ht_f_size hp1 h63.1)
    refine sv_aload_n (pc := 16) dX12_originRight_16 rfl rfl ?_
    refine gf_X12_32 (pc := 17) dX12_originRight_17 wF_X12_148 (A_106 hw) hT ?_
    refine mr_sipush (pc := 20) (z := 962) dX12_originRight_20 (by decide) ?_
    refine sv_aload_n (pc := 23) dX12_originRight_23 rfl rfl ?_
    refine mr_iload_n (pc := 24) (z := p1) dX12_originRight_24 rfl rfl ?_
    refine mr_cVP (pc := 25) (c_X12_byteAt hw hT (rW (c := 0) (d := 2147483647) hp1 rfl) q_f_size) (gOk _ _ _ _ _) dX12_originRight_25 (tX12_byteAt _ _ _ _ _) ⟨wV_X12_byteAt, wL_X12_byteAt⟩ wM_X12_227 (gCX12 _ _ _ _ _) rfl (A_106 hw) rfl ⟨le_t rfl, le_t rfl⟩ ⟨le_t rfl, le_t rfl⟩ rfl (le_t rfl) fun z71 h70 => ?_
    refine ss_126 (pc := 28) dX12_originRight_28 (A_126 hw) hT (rIx (n := 84000) (rR (x := 962)) rfl) (vc_X12_originRight_f_3 h70.2.1 h70.2.2.1 hq0 h63.2.1 h63.2.2.1 ht_f_size hp1 h59 h66 h70.1) fun μ72 u73 T74 => ?_
    refine sv_aload_n (pc := 29) dX12_originRight_29 rfl rfl ?_
    refine mr_iconst (pc := 30) (z := 1) dX12_originRight_30 ?_
    refine pf_X12_98 (pc := 31) dX12_originRight_31 wF_X12_631 (A_106 hw) T74 (rW (c := 0) (d := 1) (rR (x := 1)) rfl) fun μ75 u76 T77 => ?_
    refine mr_iconst (pc := 34) (z := 1) dX12_originRight_34 ?_
    exact mr_zret dX12_originRight_35 rfl (rW (c := 0) (d := 1) (rR (x := 1)) rfl) (le_t rfl) (le_t rfl) T77 (mF.up (mF.up mF.refl (A_126 hw) u73 rfl) (A_106 hw) u76 rfl) ⟨(rW (c := 0) (d := 1) (rR (x := 1)) rfl), (mG.upO (mG.up mG.refl u73 List.mem_cons_self vc_X12_originRight_f_4) u76 rfl), trivial⟩
  have h78 : 3 ≤ z64 ∧ z64 ≤ 255 := (vc_X12_originRight_f_5 h65 h63.2.1 h63.2.2.1 ht_f_size hp1 h63.1)
  refine mr_iconst (pc := 14) (z := 0) dX12_originRight_14 ?_
  exact mr_zret dX12_originRight_15 rfl (rW (c := 0) (d := 1) (rR (x := 0)) rfl) (le_t rfl) (le_t rfl) hT mF.refl ⟨(rW (c := 0) (d := 1) (rR (x := 0)) rfl), mG.refl, trivial⟩
theorem vc_X12_costRight_f_1 {f_size p1 p2 : Int} (h0 : p2 = 4) (h1 : p1 + p2 ≤ f_size) (h2 : 0 ≤ f_size ∧ f_size ≤ 1000) (h3 : 0 ≤ p1 ∧ p1 ≤ 1000) (h4 : 0 ≤ p2 ∧ p2 ≤ 1000) : 4 ≤ p2 ∧ p2 ≤ 4 := by omega
theorem vc_X12_costRight_f_2 {f_size p1 p2 : Int} (h0 : p1 + p2 ≤ f_size) (h1 : p2 = 4) (h2 : 0 ≤ f_size ∧ f_size ≤ 1000) (h3 : 0 ≤ p1 ∧ p1 ≤ 1000) (h4 : 4 ≤ p2 ∧ p2 ≤ 4) : p1 + (4 : Int) ≤ f_size := by omega
theorem vc_X12_costRight_f_3 {z64 : Int} (h0 : z64 < 0) (h1 : (4 : Int) ≤ 2 → 0 ≤ z64 ∧ z64 ≤ 65535) (h2 : (-2147483648) ≤ z64 ∧ z64 ≤ 2147483647) : (-2147483648) ≤ z64 ∧ z64 ≤ (-1) := by omega
theorem vc_X12_costRight_f_4  : (-(2147483648 : Int) ≤ ((1000000 : Int) : Int) ∧ ((1000000 : Int) : Int) ≤ (2147483647 : Int)) ∧ (((963 : Int) : Int) % (40 : Int) = (0 : Int) → -(1 : Int) ≤ ((1000000 : Int) : Int) ∧ ((1000000 : Int) : Int) ≤ (9 : Int)) ∧ (((963 : Int) : Int) % (40 : Int) = (4 : Int) → (0 : Int) ≤ ((1000000 : Int) : Int) ∧ ((1000000 : Int) : Int) ≤ (20 : Int)) ∧ (((963 : Int) : Int) % (40 : Int) = (5 : Int) → (0 : Int) ≤ ((1000000 : Int) : Int) ∧ ((1000000 : Int) : Int) ≤ (8 : Int)) := by omega
theorem vc_X12_costRight_f_5  : (0 : Int) ≤ (963 : Int) ∧ (963 : Int) ≤ (963 : Int) ∧ (963 : Int) < (964 : Int) := by omega
theorem vc_X12_costRight_f_6 {z64 : Int} (h0 : 0 ≤ z64) (h1 : (4 : Int) ≤ 2 → 0 ≤ z64 ∧ z64 ≤ 65535) (h2 : (-2147483648) ≤ z64 ∧ z64 ≤ 2147483647) : 0 ≤ z64 ∧ z64 ≤ 2147483647 := by omega
theorem vc_X12_costRight_f_7 {z64 : Int} (h0 : z64 ≤ 1000000) (h1 : (4 : Int) ≤ 2 → 0 ≤ z64 ∧ z64 ≤ 65535) (h2 : 0 ≤ z64) (h3 : 0 ≤ z64 ∧ z64 ≤ 2147483647) : 0 ≤ z64 ∧ z64 ≤ 1000000 := by omega
theorem vc_X12_costRight_f_8 {z64 : Int} (h0 : (4 : Int) ≤ 2 → 0 ≤ z64 ∧ z64 ≤ 65535) (h1 : 0 ≤ z64) (h2 : z64 ≤ 1000000) (h3 : 0 ≤ z64 ∧ z64 ≤ 1000000) : (-2147483648 ≤ z64 ∧ z64 ≤ 2147483647) ∧ ((963 : Int) % 40 = 0 → -1 ≤ z64 ∧ z64 ≤ 9) ∧ ((963 : Int) % 40 = 4 → 0 ≤ z64 ∧ z64 ≤ 20) ∧ ((963 : Int) % 40 = 5 → 0 ≤ z64 ∧ z64 ≤ 8) := by omega
theorem vc_X12_costRight_f_9 {z64 : Int} (h0 : 1000000 < z64) (h1 : (4 : Int) ≤ 2 → 0 ≤ z64 ∧ z64 ≤ 65535) (h2 : 0 ≤ z64) (h3 : 0 ≤ z64 ∧ z64 ≤ 2147483647) : 1000001 ≤ z64 ∧ z64 ≤ 2147483647 := by omega
set_option maxRecDepth 4000 in
set_option maxHeartbeats 4000000 in
theorem c_X12_costRight_f {l : Launch} {D : va_G} {c : Nat → ClassId} {H0 : Heap} {sa : Nat × Nat × (Nat → Int32)} {w : mW} {μ : mM} (hw : mWF w) (hT : mT w μ) {p1 : Int} (hp1 : 0 ≤ p1 ∧ p1 ≤ 1000) {p2 : Int} (hp2 : 0 ≤ p2 ∧ p2 ≤ 1000) {f_size : Int} (q_f_size : μ 106 1 = f_size) (hq0 : p1 + p2 ≤ f_size) : sC (gG l D c H0 sa) mX12_costRight 3 0 0 [.ref 106, iv p1, iv p2] (mk w μ) (qI w [126999] μ (fun z μ1 => (0 ≤ z ∧ z ≤ 1) ∧ mG [(963, 964)] μ μ1 ∧ True)) := by
  refine sC.of rfl (by decide) (le_t rfl) ?_
  have ht_f_size : (0 ≤ f_size ∧ f_size ≤ 1000) := by rw [← q_f_size]; exact hT 106 106 (A_106 hw) 1
  refine mr_lvE (lv' := [(0, .ref 106), (1, iv p1), (2, iv p2)]) rfl ?_
  refine mr_iload_n (pc := 0) (z := p2) dX12_costRight_0 rfl rfl ?_
  refine mr_iconst (pc := 1) (z := 4) dX12_costRight_1 ?_
  refine mr_icmp_eq (pc := 2) (tgt := 7) dX12_costRight_2 (by decide) (r32 hp2 rfl) (r32 (rR (x := 4)) rfl) (fun h58 => ?_) (fun h58 => ?_)
  · have h59 : 4 ≤ p2 ∧ p2 ≤ 4 := (vc_X12_costRight_f_1 h58 hq0 ht_f_size hp1 hp2)
    refine sv_aload_n (pc := 7) dX12_costRight_7 rfl rfl ?_
    refine mr_iload_n (pc := 8) (z := p1) dX12_costRight_8 rfl rfl ?_
    refine mr_iconst (pc := 9) (z := 4) dX12_costRight_9 ?_
    refine mr_cVP (pc := 10) (c_X12_number hw hT hp1 (rW (c := 0) (d := 4) (rR (x := 4)) rfl) q_f_size (vc_X12_costRight_f_2 hq0 h58 ht_f_size hp1 h59)) (gOk _ _ _ _ _) dX12_costRight_10 (tX12_number _ _ _ _ _) ⟨wV_X12_number, wL_X12_number⟩ wM_X12_623 (gCX12 _ _ _ _ _) rfl (A_106 hw) rfl ⟨le_t rfl, le_t rfl⟩ ⟨le_t rfl, le_t rfl⟩ rfl (le_t rfl) fun z64 h63 => ?_
    refine mr_istore_n (pc := 13) (lv' := [(3, iv z64), (0, .ref 106), (1, iv p1), (2, iv p2)]) dX12_costRight_13 rfl (by decide) rfl ?_
    refine sv_aload_n (pc := 14) dX12_costRight_14 rfl rfl ?_
    refine gf_X12_32 (pc := 15) dX12_costRight_15 wF_X12_148 (A_106 hw) hT ?_
    refine mr_sipush (pc := 18) (z := 963) dX12_costRight_18 (by decide) ?_
    refine mr_iload_n (pc := 21) (z := z64) dX12_costRight_21 rfl rfl ?_
    refine mr_if_lt (pc := 22) (tgt := 32) dX12_costRight_22 (by decide) h63.1 (fun h69 => ?_) (fun h69 => ?_)
    · have h70 : (-2147483648) ≤ z64 ∧ z64 ≤ (-1) := (vc_X12_costRight_f_3 h69 h63.2.1 h63.1)
      refine mr_ldcw (pc := 32) (z := 1000000) dX12_costRight_32 wG_X12_291 (by decide) ?_
      refine sv_goto (pc := 35) (tgt := 39) dX12_costRight_35 (by decide) ?_
      refine ss_126 (pc := 39) dX12_costRight_39 (A_126 hw) hT (rIx (n := 84000) (rR (x := 963)) rfl) vc_X12_costRight_f_4 fun μ71 u72 T73 => ?_
      refine mr_iconst (pc := 40) (z := 1) dX12_costRight_40 ?_
      exact mr_zret dX12_costRight_41 rfl (rW (c := 0) (d := 1) (rR (x := 1)) rfl) (le_t rfl) (le_t rfl) T73 (mF.up mF.refl (A_126 hw) u72 rfl) ⟨(rW (c := 0) (d := 1) (rR (x := 1)) rfl), (mG.up mG.refl u72 List.mem_cons_self vc_X12_costRight_f_5), trivial⟩
    have h74 : 0 ≤ z64 ∧ z64 ≤ 2147483647 := (vc_X12_costRight_f_6 h69 h63.2.1 h63.1)
    refine mr_iload_n (pc := 25) (z := z64) dX12_costRight_25 rfl rfl ?_
    refine mr_ldcw (pc := 26) (z := 1000000) dX12_costRight_26 wG_X12_291 (by decide) ?_
    refine mr_icmp_le (pc := 29) (tgt := 38) dX12_costRight_29 (by decide) (r32 h74 rfl) (r32 (rR (x := 1000000)) rfl) (fun h77 => ?_) (fun h77 => ?_)
    · have h78 : 0 ≤ z64 ∧ z64 ≤ 1000000 := (vc_X12_costRight_f_7 h77 h63.2.1 h69 h74)
      refine mr_iload_n (pc := 38) (z := z64) dX12_costRight_38 rfl rfl ?_
      refine ss_126 (pc := 39) dX12_costRight_39 (A_126 hw) hT (rIx (n := 84000) (rR (x := 963)) rfl) (vc_X12_costRight_f_8 h63.2.1 h69 h77 h78) fun μ79 u80 T81 => ?_
      refine mr_iconst (pc := 40) (z := 1) dX12_costRight_40 ?_
      exact mr_zret dX12_costRight_41 rfl (rW (c := 0) (d := 1) (rR (x := 1)) rfl) (le_t rfl) (le_t rfl) T81 (mF.up mF.refl (A_126 hw) u80 rfl) ⟨(rW (c := 0) (d := 1) (rR (x := 1)) rfl), (mG.up mG.refl u80 List.mem_cons_self vc_X12_costRight_f_5), trivial⟩
    have h82 : 1000001 ≤ z64 ∧ z64 ≤ 2147483647 := (vc_X12_costRight_f_9 h77 h63.2.1 h69 h74)
    refine mr_ldcw (pc := 32) (z := 1000000) dX12_costRight_32 wG_X12_291 (by decide) ?_
    refine sv_goto (pc := 35) (tgt := 39) dX12_costRight_35 (by decide) ?_
    refine ss_126 (pc := 39) dX12_costRight_39 (A_126 hw) hT (rIx (n := 84000) (rR (x := 963)) rfl) vc_X12_costRight_f_4 fun μ83 u84 T85 => ?_
    refine mr_iconst (pc := 40) (z := 1) dX12_costRight_40 ?_
    exact mr_zret dX12_costRight_41 rfl (rW (c := 0) (d := 1) (rR (x := 1)) rfl) (le_t rfl) (le_t rfl) T85 (mF.up mF.refl (A_126 hw) u84 rfl) ⟨(rW (c := 0) (d := 1) (rR (x := 1)) rfl), (mG.up mG.refl u84 List.mem_cons_self vc_X12_costRight_f_5), trivial⟩
  refine mr_iconst (pc := 5) (z := 0) dX12_costRight_5 ?_
  exact mr_zret dX12_costRight_6 rfl (rW (c := 0) (d := 1) (rR (x := 0)) rfl) (le_t rfl) (le_t rfl) hT mF.refl ⟨(rW (c := 0) (d := 1) (rR (x := 0)) rfl), mG.refl, trivial⟩
theorem vc_X12_marksRight_f_3 {z725 : Int} (h0 : (1004 - z725) < ((0 : Nat) : Int)) (h1 : z725 % 4 = 0) (h2 : 0 ≤ z725 ∧ z725 ≤ 1003) : False := by omega
theorem vc_X12_marksRight_f_4  : (961 : Int) ≤ (961 : Int) ∧ (1000 : Int) ≤ (1000 : Int) := by omega
theorem vc_X12_marksRight_f_5 {f_size p1 p2 z432 z725 : Int} (h0 : z725 < p2) (h1 : p1 + p2 ≤ f_size) (h2 : p2 % 4 = z432) (h3 : z725 % 4 = 0) (h4 : 0 ≤ f_size ∧ f_size ≤ 1000) (h5 : 0 ≤ p1 ∧ p1 ≤ 1000) (h6 : 0 ≤ p2 ∧ p2 ≤ 1000) (h7 : 0 ≤ z432 ∧ z432 ≤ 0) (h8 : 0 ≤ z725 ∧ z725 ≤ 1003) : 0 ≤ z725 ∧ z725 ≤ 999 := by omega
theorem vc_X12_marksRight_f_6 {f_size p1 p2 z432 z725 : Int} (h0 : z725 < p2) (h1 : p1 + p2 ≤ f_size) (h2 : p2 % 4 = z432) (h3 : z725 % 4 = 0) (h4 : 0 ≤ f_size ∧ f_size ≤ 1000) (h5 : 0 ≤ p1 ∧ p1 ≤ 1000) (h6 : 0 ≤ p2 ∧ p2 ≤ 1000) (h7 : 0 ≤ z432 ∧ z432 ≤ 0) (h8 : 0 ≤ z725 ∧ z725 ≤ 999) : 1 ≤ p2 ∧ p2 ≤ 1000 := by omega
theorem vc_X12_marksRight_f_7 {f_size p1 p2 z432 z725 : Int} (h0 : p1 + p2 ≤ f_size) (h1 : z725 % 4 = 0) (h2 : z725 < p2) (h3 : p2 % 4 = z432) (h4 : 0 ≤ f_size ∧ f_size ≤ 1000) (h5 : 0 ≤ p1 ∧ p1 ≤ 1000) (h6 : 1 ≤ p2 ∧ p2 ≤ 1000) (h7 : 0 ≤ z432 ∧ z432 ≤ 0) (h8 : 0 ≤ z725 ∧ z725 ≤ 999) : 0 ≤ ((p1 + z725) + 2) ∧ ((p1 + z725) + 2) ≤ 1000 := by omega
theorem vc_X12_marksRight_f_8 {f_size p1 p2 z432 z725 : Int} (h0 : p1 + p2 ≤ f_size) (h1 : z725 % 4 = 0) (h2 : z725 < p2) (h3 : p2 % 4 = z432) (h4 : 0 ≤ f_size ∧ f_size ≤ 1000) (h5 : 0 ≤ p1 ∧ p1 ≤ 1000) (h6 : 1 ≤ p2 ∧ p2 ≤ 1000) (h7 : 0 ≤ z432 ∧ z432 ≤ 0) (h8 : 0 ≤ z725 ∧ z725 ≤ 999) : ((p1 + z725) + 2) + (2 : Int) ≤ f_size := by omega
theorem vc_X12_marksRight_f_10 {f_size p1 p2 z432 z725 : Int} (h0 : z725 % 4 = 0) (h1 : z725 < p2) (h2 : p1 + p2 ≤ f_size) (h3 : p2 % 4 = z432) (h4 : 0 ≤ f_size ∧ f_size ≤ 1000) (h5 : 0 ≤ p1 ∧ p1 ≤ 1000) (h6 : 1 ≤ p2 ∧ p2 ≤ 1000) (h7 : 0 ≤ z432 ∧ z432 ≤ 0) (h8 : 0 ≤ z725 ∧ z725 ≤ 999) : (z725 + 4) % 4 = 0 := by omega
theorem vc_X12_marksRight_f_11 {N f_size p1 p2 z432 z725 : Int} (h0 : (1004 - z725) < N + 1) (h1 : z725 % 4 = 0) (h2 : z725 < p2) (h3 : p1 + p2 ≤ f_size) (h4 : p2 % 4 = z432) (h5 : 0 ≤ f_size ∧ f_size ≤ 1000) (h6 : 0 ≤ p1 ∧ p1 ≤ 1000) (h7 : 1 ≤ p2 ∧ p2 ≤ 1000) (h8 : 0 ≤ z432 ∧ z432 ≤ 0) (h9 : 0 ≤ z725 ∧ z725 ≤ 999) : (1004 - (z725 + 4)) < N := by omega
theorem vc_X12_marksRight_f_15  : (961 : Int) ≤ (((40 : Int) * (24 : Int)) + (1 : Int)) ∧ (((40 : Int) * (24 : Int)) + (40 : Int)) ≤ (1000 : Int) := by omega
theorem vc_X12_marksRight_f_16  : ((0 : Int) : Int) % (4 : Int) = (0 : Int) := by omega
theorem vc_X12_marksRight_f_17  : (1004 - 0) < ((1005 : Nat) : Int) := by omega
set_option maxRecDepth 4000 in
set_option maxHeartbeats 4000000 in
theorem c_X12_marksRight_f {l : Launch} {D : va_G} {c : Nat → ClassId} {H0 : Heap} {sa : Nat × Nat × (Nat → Int32)} {w : mW} {μ : mM} (hw : mWF w) (hT : mT w μ) {p1 : Int} (hp1 : 0 ≤ p1 ∧ p1 ≤ 1000) {p2 : Int} (hp2 : 0 ≤ p2 ∧ p2 ≤ 1000) {f_size : Int} (q_f_size : μ 106 1 = f_size) (hq0 : p1 + p2 ≤ f_size) : sC (gG l D c H0 sa) mX12_marksRight 3 0 0 [.ref 106, iv p1, iv p2] (mk w μ) (qI w [106101, 126999, 173999] μ (fun z μ1 => (0 ≤ z ∧ z ≤ 1) ∧ mG [(961, 1000)] μ μ1 ∧ True)) := by
  refine sC.of rfl (by decide) (le_t rfl) ?_
  have ht_f_size : (0 ≤ f_size ∧ f_size ≤ 1000) := by rw [← q_f_size]; exact hT 106 106 (A_106 hw) 1
  refine mr_lvE (lv' := [(0, .ref 106), (1, iv p1), (2, iv p2)]) rfl ?_
  refine mr_iload_n (pc := 0) (z := p2) dX12_marksRight_0 rfl rfl ?_
  refine mr_iconst (pc := 1) (z := 4) dX12_marksRight_1 ?_
  refine mr_irem (pc := 2) (x := p2) (y := 4) dX12_marksRight_2 (rW (c := 0) (d := 2147483647) hp2 rfl) vc_X3_readMarks_1 ?_
  refine mr_gen (P := fun z => 0 ≤ z ∧ z ≤ 3) (rMod hp2 rfl) fun z432 q433 h434 => ?_
  refine mr_if_eq (pc := 3) (tgt := 8) dX12_marksRight_3 (by decide) (r32 h434 rfl) (fun h435 => ?_) (fun h435 => ?_)
  · have h436 : 0 ≤ z432 ∧ z432 ≤ 0 := (vc_X3_readMarks_2 h435 q433 hp2 h434)
    refine mr_iconst (pc := 8) (z := 0) dX12_marksRight_8 ?_
    refine mr_istore_n (pc := 9) (lv' := [(3, iv 0), (0, .ref 106), (1, iv p1), (2, iv p2)]) dX12_marksRight_9 rfl (by decide) rfl ?_
    have L727 : ∀ (nL727 : Nat) (z725 : Int) (μ726 : mM), mT w μ726 → mF [106101, 126999, 173999] w μ μ726 → mG [(961, 1000)] μ μ726 → (0 ≤ z725 ∧ z725 ≤ 1003) → (z725 % 4 = 0) → (1004 - z725) < (nL727 : Int) → sV (gG l D c H0 sa) mX12_marksRight (sRm 3 0 0) (sZ (gG l D c H0 sa) 0 0 (qI w [106101, 126999, 173999] μ (fun z μ1 => (0 ≤ z ∧ z ≤ 1) ∧ mG [(961, 1000)] μ μ1 ∧ True))) 10 [(0, .ref 106), (1, iv p1), (2, iv p2), (3, iv z725)] [] (mk w μ726) 0 0 := by
      intro nL727
      induction nL727 with
      | zero => intro z725 μ726 T729 F730 G731 h728 h732 h733; exact ((vc_X12_marksRight_f_3 h733 h732 h728)).elim
      | succ nL727 ih734 =>
        intro z725 μ726 T729 F730 G731 h728 h732 h733
        refine mr_iload_n (pc := 10) (z := z725) dX12_marksRight_10 rfl rfl ?_
        refine mr_iload_n (pc := 11) (z := p2) dX12_marksRight_11 rfl rfl ?_
        refine mr_icmp_ge (pc := 12) (tgt := 82) dX12_marksRight_12 (by decide) (r32 h728 rfl) (r32 hp2 rfl) (fun h764 => ?_) (fun h764 => ?_)
        · refine mr_iconst (pc := 82) (z := 1) dX12_marksRight_82 ?_
          exact mr_zret dX12_marksRight_83 rfl (rW (c := 0) (d := 1) (rR (x := 1)) rfl) (le_t rfl) (le_t rfl) T729 (mF.call mF.refl F730 rfl) ⟨(rW (c := 0) (d := 1) (rR (x := 1)) rfl), (mG.call mG.refl G731 (List.forall_mem_cons.mpr ⟨⟨_, List.mem_cons_self, vc_X12_marksRight_f_4⟩, (fun _ h => absurd h List.not_mem_nil)⟩)), trivial⟩
        have h765 : 0 ≤ z725 ∧ z725 ≤ 999 := (vc_X12_marksRight_f_5 h764 hq0 q433 h732 ht_f_size hp1 hp2 h436 h728)
        have h766 : 1 ≤ p2 ∧ p2 ≤ 1000 := (vc_X12_marksRight_f_6 h764 hq0 q433 h732 ht_f_size hp1 hp2 h436 h765)
        refine sv_aload_n (pc := 15) dX12_marksRight_15 rfl rfl ?_
        refine mr_iload_n (pc := 16) (z := p1) dX12_marksRight_16 rfl rfl ?_
        refine mr_iload_n (pc := 17) (z := z725) dX12_marksRight_17 rfl rfl ?_
        refine mr_iadd (pc := 18) (x := p1) (y := z725) dX12_marksRight_18 ?_
        refine mr_iconst (pc := 19) (z := 2) dX12_marksRight_19 ?_
        refine mr_iadd (pc := 20) (x := (p1 + z725)) (y := 2) dX12_marksRight_20 ?_
        refine mr_iconst (pc := 21) (z := 2) dX12_marksRight_21 ?_
        refine mr_cVP (pc := 22) (c_X12_number hw T729 (vc_X12_marksRight_f_7 hq0 h732 h764 q433 ht_f_size hp1 h766 h436 h765) (rW (c := 0) (d := 4) (rR (x := 2)) rfl) (F730.f (A_106 hw) rfl q_f_size) (vc_X12_marksRight_f_8 hq0 h732 h764 q433 ht_f_size hp1 h766 h436 h765)) (gOk _ _ _ _ _) dX12_marksRight_22 (tX12_number _ _ _ _ _) ⟨wV_X12_number, wL_X12_number⟩ wM_X12_623 (gCX12 _ _ _ _ _) rfl (A_106 hw) rfl ⟨le_t rfl, le_t rfl⟩ ⟨le_t rfl, le_t rfl⟩ rfl (le_t rfl) fun z771 h770 => ?_
        refine mr_istore (pc := 25) (lv' := [(4, iv z771), (0, .ref 106), (1, iv p1), (2, iv p2), (3, iv z725)]) dX12_marksRight_25 (by decide) rfl ?_
        refine sv_aload_n (pc := 27) dX12_marksRight_27 rfl rfl ?_
        refine gf_X12_101 (pc := 28) dX12_marksRight_28 wF_X12_637 (A_106 hw) T729 fun z772 q773 h774 => ?_
        refine mr_bipush (pc := 31) (z := 8) dX12_marksRight_31 (by decide) ?_
        refine mr_icmp_ge (pc := 33) (tgt := 76) dX12_marksRight_33 (by decide) (r32 h774 rfl) (r32 (rR (x := 8)) rfl) (fun h794 => ?_) (fun h794 => ?_)
        · have h795 : 8 ≤ z772 ∧ z772 ≤ 8 := (vc_X12_same_18 h794 h774)
          refine mr_iinc (pc := 76) (lv' := [(3, iv (z725 + 4)), (4, iv z771), (0, .ref 106), (1, iv p1), (2, iv p2)]) dX12_marksRight_76 rfl (by decide) rfl ?_
          refine sv_goto (pc := 79) (tgt := 10) dX12_marksRight_79 (by decide) ?_
          refine mr_lvS (lv' := [(0, .ref 106), (1, iv p1), (2, iv p2), (3, iv (z725 + 4))]) (List.forall_mem_cons.mpr ⟨rfl, List.forall_mem_cons.mpr ⟨rfl, List.forall_mem_cons.mpr ⟨rfl, List.forall_mem_cons.mpr ⟨rfl, fun _ h => absurd h List.not_mem_nil⟩⟩⟩⟩) ?_
          exact ih734 (z725 + 4) μ726 T729 (mF.call mF.refl F730 rfl) (mG.call mG.refl G731 (List.forall_mem_cons.mpr ⟨⟨_, List.mem_cons_self, vc_X12_marksRight_f_4⟩, (fun _ h => absurd h List.not_mem_nil)⟩)) (rW (c := 0) (d := 1003) (rAdd (e := 4) (f := 1003) h765 (rR (x := 4)) rfl) rfl) (vc_X12_marksRight_f_10 h732 h764 hq0 q433 ht_f_size hp1 h766 h436 h765) (vc_X12_marksRight_f_11 (nS h733) h732 h764 hq0 q433 ht_f_size hp1 h766 h436 h765)
        have h796 : 0 ≤ z772 ∧ z772 ≤ 7 := (vc_X12_same_19 h794 h774)
        refine sv_aload_n (pc := 36) dX12_marksRight_36 rfl rfl ?_
        refine mr_bipush (pc := 37) (z := 24) dX12_marksRight_37 (by decide) ?_
        refine mr_iload (pc := 39) (z := z771) dX12_marksRight_39 rfl ?_
        refine mr_cVP (pc := 41) (c_X12_marked hw T729 (rW (c := 0) (d := 2099) (rR (x := 24)) rfl) h770.1) (gOk _ _ _ _ _) dX12_marksRight_41 (tX12_marked _ _ _ _ _) ⟨wV_X12_marked, wL_X12_marked⟩ wM_X12_154 (gCX12 _ _ _ _ _) rfl (A_106 hw) rfl ⟨le_t rfl, le_t rfl⟩ ⟨le_t rfl, le_t rfl⟩ rfl (le_t rfl) fun z801 h800 => ?_
        refine mr_if_ne (pc := 44) (tgt := 76) dX12_marksRight_44 (by decide) (r32 h800.1 rfl) (fun h814 => ?_) (fun h814 => ?_)
        · have h815 : 1 ≤ z801 ∧ z801 ≤ 1 := (vc_X12_ring_24 h814 h800.1)
          refine mr_iinc (pc := 76) (lv' := [(3, iv (z725 + 4)), (4, iv z771), (0, .ref 106), (1, iv p1), (2, iv p2)]) dX12_marksRight_76 rfl (by decide) rfl ?_
          refine sv_goto (pc := 79) (tgt := 10) dX12_marksRight_79 (by decide) ?_
          refine mr_lvS (lv' := [(0, .ref 106), (1, iv p1), (2, iv p2), (3, iv (z725 + 4))]) (List.forall_mem_cons.mpr ⟨rfl, List.forall_mem_cons.mpr ⟨rfl, List.forall_mem_cons.mpr ⟨rfl, List.forall_mem_cons.mpr ⟨rfl, fun _ h => absurd h List.not_mem_nil⟩⟩⟩⟩) ?_
          exact ih734 (z725 + 4) μ726 T729 (mF.call mF.refl F730 rfl) (mG.call mG.refl G731 (List.forall_mem_cons.mpr ⟨⟨_, List.mem_cons_self, vc_X12_marksRight_f_4⟩, (fun _ h => absurd h List.not_mem_nil)⟩)) (rW (c := 0) (d := 1003) (rAdd (e := 4) (f := 1003) h765 (rR (x := 4)) rfl) rfl) (vc_X12_marksRight_f_10 h732 h764 hq0 q433 ht_f_size hp1 h766 h436 h765) (vc_X12_marksRight_f_11 (nS h733) h732 h764 hq0 q433 ht_f_size hp1 h766 h436 h765)
        have h816 : 0 ≤ z801 ∧ z801 ≤ 0 := (vc_X12_ring_22 h814 h800.1)
        refine sv_aload_n (pc := 47) dX12_marksRight_47 rfl rfl ?_
        refine mr_bipush (pc := 48) (z := 24) dX12_marksRight_48 (by decide) ?_
        refine mr_iload (pc := 50) (z := z771) dX12_marksRight_50 rfl ?_
        refine mr_cVV (pc := 52) (c_X12_addMark hw T729 (rW (c := 0) (d := 2099) (rR (x := 24)) rfl) h770.1) (gOk _ _ _ _ _) dX12_marksRight_52 (tX12_addMark _ _ _ _ _) ⟨wV_X12_addMark, wL_X12_addMark⟩ wM_X12_401 (gCX12 _ _ _ _ _) rfl (A_106 hw) rfl ⟨le_t rfl, le_t rfl⟩ ⟨le_t rfl, le_t rfl⟩ rfl (le_t rfl) fun μ817 T818 F819 h820 => ?_
        refine sv_aload_n (pc := 55) dX12_marksRight_55 rfl rfl ?_
        refine gf_X12_100 (pc := 56) dX12_marksRight_56 wF_X12_481 (A_106 hw) T818 ?_
        refine sv_aload_n (pc := 59) dX12_marksRight_59 rfl rfl ?_
        refine gk_X12_101 (pc := 60) dX12_marksRight_60 wF_X12_637 (A_106 hw) (F819.f (A_106 hw) rfl q773) ?_
        refine mr_iload (pc := 63) (z := z771) dX12_marksRight_63 rfl ?_
        refine ss_173 (pc := 65) dX12_marksRight_65 (A_173 hw) T818 (rIx (n := 8) h796 rfl) h770.1 fun μ821 u822 T823 => ?_
        refine sv_aload_n (pc := 66) dX12_marksRight_66 rfl rfl ?_
        refine sv_dup (pc := 67) dX12_marksRight_67 rfl ?_
        refine gk_X12_101 (pc := 68) dX12_marksRight_68 wF_X12_637 (A_106 hw) (u822.f (Or.inl (mAt.ne (A_173 hw) (A_106 hw) rfl)) (F819.f (A_106 hw) rfl q773)) ?_
        refine mr_iconst (pc := 71) (z := 1) dX12_marksRight_71 ?_
        refine mr_iadd (pc := 72) (x := z772) (y := 1) dX12_marksRight_72 ?_
        refine pf_X12_101 (pc := 73) dX12_marksRight_73 wF_X12_637 (A_106 hw) T823 (rW (c := 0) (d := 8) (rAdd (e := 1) (f := 8) h796 (rR (x := 1)) rfl) rfl) fun μ824 u825 T826 => ?_
        refine mr_iinc (pc := 76) (lv' := [(3, iv (z725 + 4)), (4, iv z771), (0, .ref 106), (1, iv p1), (2, iv p2)]) dX12_marksRight_76 rfl (by decide) rfl ?_
        refine sv_goto (pc := 79) (tgt := 10) dX12_marksRight_79 (by decide) ?_
        refine mr_lvS (lv' := [(0, .ref 106), (1, iv p1), (2, iv p2), (3, iv (z725 + 4))]) (List.forall_mem_cons.mpr ⟨rfl, List.forall_mem_cons.mpr ⟨rfl, List.forall_mem_cons.mpr ⟨rfl, List.forall_mem_cons.mpr ⟨rfl, fun _ h => absurd h List.not_mem_nil⟩⟩⟩⟩) ?_
        exact ih734 (z725 + 4) μ824 T826 (mF.up (mF.up (mF.call (mF.call mF.refl F730 rfl) F819 rfl) (A_173 hw) u822 rfl) (A_106 hw) u825 rfl) (mG.upO (mG.upO (mG.call (mG.call mG.refl G731 (List.forall_mem_cons.mpr ⟨⟨_, List.mem_cons_self, vc_X12_marksRight_f_4⟩, (fun _ h => absurd h List.not_mem_nil)⟩)) h820.1 (List.forall_mem_cons.mpr ⟨⟨_, List.mem_cons_self, vc_X12_marksRight_f_15⟩, (fun _ h => absurd h List.not_mem_nil)⟩)) u822 rfl) u825 rfl) (rW (c := 0) (d := 1003) (rAdd (e := 4) (f := 1003) h765 (rR (x := 4)) rfl) rfl) (vc_X12_marksRight_f_10 h732 h764 hq0 q433 ht_f_size hp1 h766 h436 h765) (vc_X12_marksRight_f_11 (nS h733) h732 h764 hq0 q433 ht_f_size hp1 h766 h436 h765)
    refine mr_lvS (lv' := [(0, .ref 106), (1, iv p1), (2, iv p2), (3, iv 0)]) (List.forall_mem_cons.mpr ⟨rfl, List.forall_mem_cons.mpr ⟨rfl, List.forall_mem_cons.mpr ⟨rfl, List.forall_mem_cons.mpr ⟨rfl, fun _ h => absurd h List.not_mem_nil⟩⟩⟩⟩) ?_
    exact L727 1005 0 μ hT mF.refl mG.refl (rW (c := 0) (d := 1003) (rR (x := 0)) rfl) vc_X12_marksRight_f_16 vc_X12_marksRight_f_17
  have h827 : 1 ≤ z432 ∧ z432 ≤ 3 := (vc_X3_readMarks_12 h435 q433 hp2 h434)
  refine mr_iconst (pc := 6) (z := 0) dX12_marksRight_6 ?_
  exact mr_zret dX12_marksRight_7 rfl (rW (c := 0) (d := 1) (rR (x := 0)) rfl) (le_t rfl) (le_t rfl) hT mF.refl ⟨(rW (c := 0) (d := 1) (rR (x := 0)) rfl), mG.refl, trivial⟩
end
section
theorem dX12_doEvent_0 : decode cX12_doEvent 0 = .ok (.aload_n 0, 1) := dc0 dO_42 (by decide +kernel)
theorem dX12_doEvent_1 : decode cX12_doEvent 1 = .ok (.aload_n 0, 1) := dc0 dO_42 (by decide +kernel)
theorem dX12_doEvent_2 : decode cX12_doEvent 2 = .ok (.iload_n 1, 1) := dc0 dO_27 (by decide +kernel)
theorem dX12_doEvent_3 : decode cX12_doEvent 3 = .ok (.invokevirtual 607, 3) := dcU2 dO_182 (by decide +kernel)
theorem dX12_doEvent_6 : decode cX12_doEvent 6 = .ok (.putfield 591, 3) := dcU2 dO_181 (by decide +kernel)
theorem dX12_doEvent_9 : decode cX12_doEvent 9 = .ok (.aload_n 0, 1) := dc0 dO_42 (by decide +kernel)
theorem dX12_doEvent_10 : decode cX12_doEvent 10 = .ok (.dup, 1) := dc0 dO_89 (by decide +kernel)
theorem dX12_doEvent_11 : decode cX12_doEvent 11 = .ok (.getfield 610, 3) := dcU2 dO_180 (by decide +kernel)
theorem dX12_doEvent_14 : decode cX12_doEvent 14 = .ok (.iconst 1, 1) := dc0 dO_4 (by decide +kernel)
theorem dX12_doEvent_15 : decode cX12_doEvent 15 = .ok (.iadd, 1) := dc0 dO_96 (by decide +kernel)
theorem dX12_doEvent_16 : decode cX12_doEvent 16 = .ok (.putfield 610, 3) := dcU2 dO_181 (by decide +kernel)
theorem dX12_doEvent_19 : decode cX12_doEvent 19 = .ok (.iload_n 1, 1) := dc0 dO_27 (by decide +kernel)
theorem dX12_doEvent_20 : decode cX12_doEvent 20 = .ok (.sipush 400, 3) := dcS2 dO_17 (by decide +kernel)
theorem dX12_doEvent_23 : decode cX12_doEvent 23 = .ok (.irem, 1) := dc0 dO_112 (by decide +kernel)
theorem dX12_doEvent_24 : decode cX12_doEvent 24 = .ok (.istore_n 2, 1) := dc0 dO_61 (by decide +kernel)
theorem dX12_doEvent_25 : decode cX12_doEvent 25 = .ok (.iload_n 2, 1) := dc0 dO_28 (by decide +kernel)
theorem dX12_doEvent_26 : decode cX12_doEvent 26 = .ok (.bipush 20, 2) := dcS1 dO_16 (by decide +kernel)
theorem dX12_doEvent_28 : decode cX12_doEvent 28 = .ok (.idiv, 1) := dc0 dO_108 (by decide +kernel)
theorem dX12_doEvent_29 : decode cX12_doEvent 29 = .ok (.istore_n 3, 1) := dc0 dO_62 (by decide +kernel)
theorem dX12_doEvent_30 : decode cX12_doEvent 30 = .ok (.iload_n 2, 1) := dc0 dO_28 (by decide +kernel)
theorem dX12_doEvent_31 : decode cX12_doEvent 31 = .ok (.bipush 10, 2) := dcS1 dO_16 (by decide +kernel)
theorem dX12_doEvent_33 : decode cX12_doEvent 33 = .ok (.idiv, 1) := dc0 dO_108 (by decide +kernel)
theorem dX12_doEvent_34 : decode cX12_doEvent 34 = .ok (.iconst 2, 1) := dc0 dO_5 (by decide +kernel)
theorem dX12_doEvent_35 : decode cX12_doEvent 35 = .ok (.irem, 1) := dc0 dO_112 (by decide +kernel)
theorem dX12_doEvent_36 : decode cX12_doEvent 36 = .ok (.istore 4, 2) := dcU1 dO_54 (by decide +kernel)
theorem dX12_doEvent_38 : decode cX12_doEvent 38 = .ok (.iload_n 2, 1) := dc0 dO_28 (by decide +kernel)
theorem dX12_doEvent_39 : decode cX12_doEvent 39 = .ok (.bipush 10, 2) := dcS1 dO_16 (by decide +kernel)
theorem dX12_doEvent_41 : decode cX12_doEvent 41 = .ok (.irem, 1) := dc0 dO_112 (by decide +kernel)
theorem dX12_doEvent_42 : decode cX12_doEvent 42 = .ok (.istore 5, 2) := dcU1 dO_54 (by decide +kernel)
theorem dX12_doEvent_44 : decode cX12_doEvent 44 = .ok (.iload_n 1, 1) := dc0 dO_27 (by decide +kernel)
theorem dX12_doEvent_45 : decode cX12_doEvent 45 = .ok (.sipush 400, 3) := dcS2 dO_17 (by decide +kernel)
theorem dX12_doEvent_48 : decode cX12_doEvent 48 = .ok (.if_icmp .lt 29, 3) := dcS2 dO_161 (by decide +kernel)
theorem dX12_doEvent_51 : decode cX12_doEvent 51 = .ok (.aload_n 0, 1) := dc0 dO_42 (by decide +kernel)
theorem dX12_doEvent_52 : decode cX12_doEvent 52 = .ok (.getfield 439, 3) := dcU2 dO_180 (by decide +kernel)
theorem dX12_doEvent_55 : decode cX12_doEvent 55 = .ok (.iload_n 2, 1) := dc0 dO_28 (by decide +kernel)
theorem dX12_doEvent_56 : decode cX12_doEvent 56 = .ok (.iconst (-1), 1) := dc0 dO_2 (by decide +kernel)
theorem dX12_doEvent_57 : decode cX12_doEvent 57 = .ok (.iastore, 1) := dc0 dO_79 (by decide +kernel)
theorem dX12_doEvent_58 : decode cX12_doEvent 58 = .ok (.aload_n 0, 1) := dc0 dO_42 (by decide +kernel)
theorem dX12_doEvent_59 : decode cX12_doEvent 59 = .ok (.aload_n 0, 1) := dc0 dO_42 (by decide +kernel)
theorem dX12_doEvent_60 : decode cX12_doEvent 60 = .ok (.getfield 40, 3) := dcU2 dO_180 (by decide +kernel)
theorem dX12_doEvent_63 : decode cX12_doEvent 63 = .ok (.iconst 2, 1) := dc0 dO_5 (by decide +kernel)
theorem dX12_doEvent_64 : decode cX12_doEvent 64 = .ok (.iload_n 3, 1) := dc0 dO_29 (by decide +kernel)
theorem dX12_doEvent_65 : decode cX12_doEvent 65 = .ok (.imul, 1) := dc0 dO_104 (by decide +kernel)
theorem dX12_doEvent_66 : decode cX12_doEvent 66 = .ok (.iload 4, 2) := dcU1 dO_21 (by decide +kernel)
theorem dX12_doEvent_68 : decode cX12_doEvent 68 = .ok (.iadd, 1) := dc0 dO_96 (by decide +kernel)
theorem dX12_doEvent_69 : decode cX12_doEvent 69 = .ok (.iaload, 1) := dc0 dO_46 (by decide +kernel)
theorem dX12_doEvent_70 : decode cX12_doEvent 70 = .ok (.iload_n 3, 1) := dc0 dO_29 (by decide +kernel)
theorem dX12_doEvent_71 : decode cX12_doEvent 71 = .ok (.iload 5, 2) := dcU1 dO_21 (by decide +kernel)
theorem dX12_doEvent_73 : decode cX12_doEvent 73 = .ok (.invokevirtual 587, 3) := dcU2 dO_182 (by decide +kernel)
theorem dX12_doEvent_76 : decode cX12_doEvent 76 = .ok (.return_, 1) := dc0 dO_177 (by decide +kernel)
theorem dX12_doEvent_77 : decode cX12_doEvent 77 = .ok (.aload_n 0, 1) := dc0 dO_42 (by decide +kernel)
theorem dX12_doEvent_78 : decode cX12_doEvent 78 = .ok (.getfield 433, 3) := dcU2 dO_180 (by decide +kernel)
theorem dX12_doEvent_81 : decode cX12_doEvent 81 = .ok (.iload_n 2, 1) := dc0 dO_28 (by decide +kernel)
theorem dX12_doEvent_82 : decode cX12_doEvent 82 = .ok (.iconst (-1), 1) := dc0 dO_2 (by decide +kernel)
theorem dX12_doEvent_83 : decode cX12_doEvent 83 = .ok (.iastore, 1) := dc0 dO_79 (by decide +kernel)
theorem dX12_doEvent_84 : decode cX12_doEvent 84 = .ok (.iload_n 3, 1) := dc0 dO_29 (by decide +kernel)
theorem dX12_doEvent_85 : decode cX12_doEvent 85 = .ok (.iconst 1, 1) := dc0 dO_4 (by decide +kernel)
theorem dX12_doEvent_86 : decode cX12_doEvent 86 = .ok (.iload 4, 2) := dcU1 dO_21 (by decide +kernel)
theorem dX12_doEvent_88 : decode cX12_doEvent 88 = .ok (.isub, 1) := dc0 dO_100 (by decide +kernel)
theorem dX12_doEvent_89 : decode cX12_doEvent 89 = .ok (.iload 5, 2) := dcU1 dO_21 (by decide +kernel)
theorem dX12_doEvent_91 : decode cX12_doEvent 91 = .ok (.invokestatic 545, 3) := dcU2 dO_184 (by decide +kernel)
theorem dX12_doEvent_94 : decode cX12_doEvent 94 = .ok (.istore 6, 2) := dcU1 dO_54 (by decide +kernel)
theorem dX12_doEvent_96 : decode cX12_doEvent 96 = .ok (.aload_n 0, 1) := dc0 dO_42 (by decide +kernel)
theorem dX12_doEvent_97 : decode cX12_doEvent 97 = .ok (.sipush 930, 3) := dcS2 dO_17 (by decide +kernel)
theorem dX12_doEvent_100 : decode cX12_doEvent 100 = .ok (.iload_n 2, 1) := dc0 dO_28 (by decide +kernel)
theorem dX12_doEvent_101 : decode cX12_doEvent 101 = .ok (.iadd, 1) := dc0 dO_96 (by decide +kernel)
theorem dX12_doEvent_102 : decode cX12_doEvent 102 = .ok (.sipush 130, 3) := dcS2 dO_17 (by decide +kernel)
theorem dX12_doEvent_105 : decode cX12_doEvent 105 = .ok (.iload 6, 2) := dcU1 dO_21 (by decide +kernel)
theorem dX12_doEvent_107 : decode cX12_doEvent 107 = .ok (.iadd, 1) := dc0 dO_96 (by decide +kernel)
theorem dX12_doEvent_108 : decode cX12_doEvent 108 = .ok (.invokevirtual 559, 3) := dcU2 dO_182 (by decide +kernel)
theorem dX12_doEvent_111 : decode cX12_doEvent 111 = .ok (.aload_n 0, 1) := dc0 dO_42 (by decide +kernel)
theorem dX12_doEvent_112 : decode cX12_doEvent 112 = .ok (.getfield 424, 3) := dcU2 dO_180 (by decide +kernel)
theorem dX12_doEvent_115 : decode cX12_doEvent 115 = .ok (.iload 6, 2) := dcU1 dO_21 (by decide +kernel)
theorem dX12_doEvent_117 : decode cX12_doEvent 117 = .ok (.aload_n 0, 1) := dc0 dO_42 (by decide +kernel)
theorem dX12_doEvent_118 : decode cX12_doEvent 118 = .ok (.getfield 591, 3) := dcU2 dO_180 (by decide +kernel)
theorem dX12_doEvent_121 : decode cX12_doEvent 121 = .ok (.iastore, 1) := dc0 dO_79 (by decide +kernel)
theorem dX12_doEvent_122 : decode cX12_doEvent 122 = .ok (.aload_n 0, 1) := dc0 dO_42 (by decide +kernel)
theorem dX12_doEvent_123 : decode cX12_doEvent 123 = .ok (.aload_n 0, 1) := dc0 dO_42 (by decide +kernel)
theorem dX12_doEvent_124 : decode cX12_doEvent 124 = .ok (.getfield 40, 3) := dcU2 dO_180 (by decide +kernel)
theorem dX12_doEvent_127 : decode cX12_doEvent 127 = .ok (.iconst 2, 1) := dc0 dO_5 (by decide +kernel)
theorem sfx_cX12_doEvent_128 : (cX12_doEvent.data.toList.drop 128).take 67 = [29, 104, 4, 96, 21, 4, 100, 46, 21, 5, 182, 2, 85, 177] := by decide +kernel
theorem dX12_doEvent_128 : decode cX12_doEvent 128 = .ok (.iload_n 3, 1) := dc0 dO_29 (rdB.ch sfx_cX12_doEvent_128 0 rfl (by decide +kernel))
theorem dX12_doEvent_129 : decode cX12_doEvent 129 = .ok (.imul, 1) := dc0 dO_104 (rdB.ch sfx_cX12_doEvent_128 1 rfl (by decide +kernel))
theorem dX12_doEvent_130 : decode cX12_doEvent 130 = .ok (.iconst 1, 1) := dc0 dO_4 (rdB.ch sfx_cX12_doEvent_128 2 rfl (by decide +kernel))
theorem dX12_doEvent_131 : decode cX12_doEvent 131 = .ok (.iadd, 1) := dc0 dO_96 (rdB.ch sfx_cX12_doEvent_128 3 rfl (by decide +kernel))
theorem dX12_doEvent_132 : decode cX12_doEvent 132 = .ok (.iload 4, 2) := dcU1 dO_21 (rdU1.ch sfx_cX12_doEvent_128 4 rfl (by decide +kernel))
theorem dX12_doEvent_134 : decode cX12_doEvent 134 = .ok (.isub, 1) := dc0 dO_100 (rdB.ch sfx_cX12_doEvent_128 6 rfl (by decide +kernel))
theorem dX12_doEvent_135 : decode cX12_doEvent 135 = .ok (.iaload, 1) := dc0 dO_46 (rdB.ch sfx_cX12_doEvent_128 7 rfl (by decide +kernel))
theorem dX12_doEvent_136 : decode cX12_doEvent 136 = .ok (.iload 5, 2) := dcU1 dO_21 (rdU1.ch sfx_cX12_doEvent_128 8 rfl (by decide +kernel))
theorem dX12_doEvent_138 : decode cX12_doEvent 138 = .ok (.invokevirtual 597, 3) := dcU2 dO_182 (rdU2.ch sfx_cX12_doEvent_128 10 rfl (by decide +kernel))
theorem dX12_doEvent_141 : decode cX12_doEvent 141 = .ok (.return_, 1) := dc0 dO_177 (rdB.ch sfx_cX12_doEvent_128 13 rfl (by decide +kernel))
theorem dX12_go_0 : decode cX12_go 0 = .ok (.iload_n 1, 1) := dc0 dO_27 (by decide +kernel)
theorem dX12_go_1 : decode cX12_go 1 = .ok (.iconst 1, 1) := dc0 dO_4 (by decide +kernel)
theorem dX12_go_2 : decode cX12_go 2 = .ok (.sipush 500, 3) := dcS2 dO_17 (by decide +kernel)
theorem dX12_go_5 : decode cX12_go 5 = .ok (.invokestatic 18, 3) := dcU2 dO_184 (by decide +kernel)
theorem dX12_go_8 : decode cX12_go 8 = .ok (.ifCond .ne 5, 3) := dcS2 dO_154 (by decide +kernel)
theorem dX12_go_11 : decode cX12_go 11 = .ok (.iconst (-1), 1) := dc0 dO_2 (by decide +kernel)
theorem dX12_go_12 : decode cX12_go 12 = .ok (.ireturn, 1) := dc0 dO_172 (by decide +kernel)
theorem dX12_go_13 : decode cX12_go 13 = .ok (.iconst 0, 1) := dc0 dO_3 (by decide +kernel)
theorem dX12_go_14 : decode cX12_go 14 = .ok (.istore_n 2, 1) := dc0 dO_61 (by decide +kernel)
theorem dX12_go_15 : decode cX12_go 15 = .ok (.iload_n 2, 1) := dc0 dO_28 (by decide +kernel)
theorem dX12_go_16 : decode cX12_go 16 = .ok (.iload_n 1, 1) := dc0 dO_27 (by decide +kernel)
theorem dX12_go_17 : decode cX12_go 17 = .ok (.if_icmp .ge 26, 3) := dcS2 dO_162 (by decide +kernel)
theorem dX12_go_20 : decode cX12_go 20 = .ok (.aload_n 0, 1) := dc0 dO_42 (by decide +kernel)
theorem dX12_go_21 : decode cX12_go 21 = .ok (.invokevirtual 613, 3) := dcU2 dO_182 (by decide +kernel)
theorem dX12_go_24 : decode cX12_go 24 = .ok (.ldc 29, 2) := dcU1 dO_18 (by decide +kernel)
theorem dX12_go_26 : decode cX12_go 26 = .ok (.if_icmp .eq 17, 3) := dcS2 dO_159 (by decide +kernel)
theorem dX12_go_29 : decode cX12_go 29 = .ok (.aload_n 0, 1) := dc0 dO_42 (by decide +kernel)
theorem dX12_go_30 : decode cX12_go 30 = .ok (.aload_n 0, 1) := dc0 dO_42 (by decide +kernel)
theorem dX12_go_31 : decode cX12_go 31 = .ok (.invokevirtual 613, 3) := dcU2 dO_182 (by decide +kernel)
theorem dX12_go_34 : decode cX12_go 34 = .ok (.invokevirtual 616, 3) := dcU2 dO_182 (by decide +kernel)
theorem dX12_go_37 : decode cX12_go 37 = .ok (.iinc 2 1, 3) := dcI dO_132 (by decide +kernel)
theorem dX12_go_40 : decode cX12_go 40 = .ok (.goto (-25), 3) := dcS2 dO_167 (by decide +kernel)
theorem dX12_go_43 : decode cX12_go 43 = .ok (.iload_n 2, 1) := dc0 dO_28 (by decide +kernel)
theorem dX12_go_44 : decode cX12_go 44 = .ok (.ireturn, 1) := dc0 dO_172 (by decide +kernel)
theorem dX12_goes_0 : decode cX12_goes 0 = .ok (.aload_n 0, 1) := dc0 dO_42 (by decide +kernel)
theorem dX12_goes_1 : decode cX12_goes 1 = .ok (.iconst 0, 1) := dc0 dO_3 (by decide +kernel)
theorem dX12_goes_2 : decode cX12_goes 2 = .ok (.putfield 683, 3) := dcU2 dO_181 (by decide +kernel)
theorem dX12_goes_5 : decode cX12_goes 5 = .ok (.iload_n 1, 1) := dc0 dO_27 (by decide +kernel)
theorem dX12_goes_6 : decode cX12_goes 6 = .ok (.istore_n 3, 1) := dc0 dO_62 (by decide +kernel)
theorem dX12_goes_7 : decode cX12_goes 7 = .ok (.iconst 0, 1) := dc0 dO_3 (by decide +kernel)
theorem dX12_goes_8 : decode cX12_goes 8 = .ok (.istore 4, 2) := dcU1 dO_54 (by decide +kernel)
theorem dX12_goes_10 : decode cX12_goes 10 = .ok (.iconst 0, 1) := dc0 dO_3 (by decide +kernel)
theorem dX12_goes_11 : decode cX12_goes 11 = .ok (.istore 5, 2) := dcU1 dO_54 (by decide +kernel)
theorem dX12_goes_13 : decode cX12_goes 13 = .ok (.iload 5, 2) := dcU1 dO_21 (by decide +kernel)
theorem dX12_goes_15 : decode cX12_goes 15 = .ok (.aload_n 0, 1) := dc0 dO_42 (by decide +kernel)
theorem dX12_goes_16 : decode cX12_goes 16 = .ok (.getfield 683, 3) := dcU2 dO_180 (by decide +kernel)
theorem dX12_goes_19 : decode cX12_goes 19 = .ok (.if_icmp .ge 32, 3) := dcS2 dO_162 (by decide +kernel)
theorem dX12_goes_22 : decode cX12_goes 22 = .ok (.iload 4, 2) := dcU1 dO_21 (by decide +kernel)
theorem dX12_goes_24 : decode cX12_goes 24 = .ok (.ifCond .ne 14, 3) := dcS2 dO_154 (by decide +kernel)
theorem dX12_goes_27 : decode cX12_goes 27 = .ok (.aload_n 0, 1) := dc0 dO_42 (by decide +kernel)
theorem dX12_goes_28 : decode cX12_goes 28 = .ok (.getfield 487, 3) := dcU2 dO_180 (by decide +kernel)
theorem dX12_goes_31 : decode cX12_goes 31 = .ok (.iload 5, 2) := dcU1 dO_21 (by decide +kernel)
theorem dX12_goes_33 : decode cX12_goes 33 = .ok (.iaload, 1) := dc0 dO_46 (by decide +kernel)
theorem dX12_goes_34 : decode cX12_goes 34 = .ok (.iload_n 3, 1) := dc0 dO_29 (by decide +kernel)
theorem dX12_goes_35 : decode cX12_goes 35 = .ok (.if_icmp .ne 7, 3) := dcS2 dO_160 (by decide +kernel)
theorem dX12_goes_38 : decode cX12_goes 38 = .ok (.iconst 1, 1) := dc0 dO_4 (by decide +kernel)
theorem dX12_goes_39 : decode cX12_goes 39 = .ok (.goto 4, 3) := dcS2 dO_167 (by decide +kernel)
theorem dX12_goes_42 : decode cX12_goes 42 = .ok (.iconst 0, 1) := dc0 dO_3 (by decide +kernel)
theorem dX12_goes_43 : decode cX12_goes 43 = .ok (.istore 4, 2) := dcU1 dO_54 (by decide +kernel)
theorem dX12_goes_45 : decode cX12_goes 45 = .ok (.iinc 5 1, 3) := dcI dO_132 (by decide +kernel)
theorem dX12_goes_48 : decode cX12_goes 48 = .ok (.goto (-35), 3) := dcS2 dO_167 (by decide +kernel)
theorem dX12_goes_51 : decode cX12_goes 51 = .ok (.aload_n 0, 1) := dc0 dO_42 (by decide +kernel)
theorem dX12_goes_52 : decode cX12_goes 52 = .ok (.getfield 487, 3) := dcU2 dO_180 (by decide +kernel)
theorem dX12_goes_55 : decode cX12_goes 55 = .ok (.aload_n 0, 1) := dc0 dO_42 (by decide +kernel)
theorem dX12_goes_56 : decode cX12_goes 56 = .ok (.getfield 683, 3) := dcU2 dO_180 (by decide +kernel)
theorem dX12_goes_59 : decode cX12_goes 59 = .ok (.iload_n 3, 1) := dc0 dO_29 (by decide +kernel)
theorem dX12_goes_60 : decode cX12_goes 60 = .ok (.iastore, 1) := dc0 dO_79 (by decide +kernel)
theorem dX12_goes_61 : decode cX12_goes 61 = .ok (.aload_n 0, 1) := dc0 dO_42 (by decide +kernel)
theorem dX12_goes_62 : decode cX12_goes 62 = .ok (.dup, 1) := dc0 dO_89 (by decide +kernel)
theorem dX12_goes_63 : decode cX12_goes 63 = .ok (.getfield 683, 3) := dcU2 dO_180 (by decide +kernel)
theorem dX12_goes_66 : decode cX12_goes 66 = .ok (.iconst 1, 1) := dc0 dO_4 (by decide +kernel)
theorem dX12_goes_67 : decode cX12_goes 67 = .ok (.iadd, 1) := dc0 dO_96 (by decide +kernel)
theorem dX12_goes_68 : decode cX12_goes 68 = .ok (.putfield 683, 3) := dcU2 dO_181 (by decide +kernel)
theorem dX12_goes_71 : decode cX12_goes 71 = .ok (.iload 4, 2) := dcU1 dO_21 (by decide +kernel)
theorem dX12_goes_73 : decode cX12_goes 73 = .ok (.ifCond .eq 5, 3) := dcS2 dO_153 (by decide +kernel)
theorem dX12_goes_76 : decode cX12_goes 76 = .ok (.iconst 2, 1) := dc0 dO_5 (by decide +kernel)
theorem dX12_goes_77 : decode cX12_goes 77 = .ok (.ireturn, 1) := dc0 dO_172 (by decide +kernel)
theorem dX12_goes_78 : decode cX12_goes 78 = .ok (.aload_n 0, 1) := dc0 dO_42 (by decide +kernel)
theorem dX12_goes_79 : decode cX12_goes 79 = .ok (.iload_n 3, 1) := dc0 dO_29 (by decide +kernel)
theorem dX12_goes_80 : decode cX12_goes 80 = .ok (.iload_n 2, 1) := dc0 dO_28 (by decide +kernel)
theorem dX12_goes_81 : decode cX12_goes 81 = .ok (.invokevirtual 686, 3) := dcU2 dO_182 (by decide +kernel)
theorem dX12_goes_84 : decode cX12_goes 84 = .ok (.istore 5, 2) := dcU1 dO_54 (by decide +kernel)
theorem dX12_goes_86 : decode cX12_goes 86 = .ok (.iload 5, 2) := dcU1 dO_21 (by decide +kernel)
theorem dX12_goes_88 : decode cX12_goes 88 = .ok (.bipush (-4), 2) := dcS1 dO_16 (by decide +kernel)
theorem dX12_goes_90 : decode cX12_goes 90 = .ok (.if_icmp .ne 5, 3) := dcS2 dO_160 (by decide +kernel)
theorem dX12_goes_93 : decode cX12_goes 93 = .ok (.iconst 0, 1) := dc0 dO_3 (by decide +kernel)
theorem dX12_goes_94 : decode cX12_goes 94 = .ok (.ireturn, 1) := dc0 dO_172 (by decide +kernel)
theorem dX12_goes_95 : decode cX12_goes 95 = .ok (.iload 5, 2) := dcU1 dO_21 (by decide +kernel)
theorem dX12_goes_97 : decode cX12_goes 97 = .ok (.ldc 29, 2) := dcU1 dO_18 (by decide +kernel)
theorem dX12_goes_99 : decode cX12_goes 99 = .ok (.if_icmp .ne 5, 3) := dcS2 dO_160 (by decide +kernel)
theorem dX12_goes_102 : decode cX12_goes 102 = .ok (.iconst 1, 1) := dc0 dO_4 (by decide +kernel)
theorem dX12_goes_103 : decode cX12_goes 103 = .ok (.ireturn, 1) := dc0 dO_172 (by decide +kernel)
theorem dX12_goes_104 : decode cX12_goes 104 = .ok (.aload_n 0, 1) := dc0 dO_42 (by decide +kernel)
theorem dX12_goes_105 : decode cX12_goes 105 = .ok (.iload 5, 2) := dcU1 dO_21 (by decide +kernel)
theorem dX12_goes_107 : decode cX12_goes 107 = .ok (.iload_n 3, 1) := dc0 dO_29 (by decide +kernel)
theorem dX12_goes_108 : decode cX12_goes 108 = .ok (.invokevirtual 553, 3) := dcU2 dO_182 (by decide +kernel)
theorem dX12_goes_111 : decode cX12_goes 111 = .ok (.istore_n 3, 1) := dc0 dO_62 (by decide +kernel)
theorem dX12_goes_112 : decode cX12_goes 112 = .ok (.goto (-105), 3) := dcS2 dO_167 (by decide +kernel)
theorem dX12_hear_0 : decode cX12_hear 0 = .ok (.aload_n 0, 1) := dc0 dO_42 (by decide +kernel)
theorem dX12_hear_1 : decode cX12_hear 1 = .ok (.iload_n 1, 1) := dc0 dO_27 (by decide +kernel)
theorem dX12_hear_2 : decode cX12_hear 2 = .ok (.invokevirtual 66, 3) := dcU2 dO_182 (by decide +kernel)
theorem dX12_hear_5 : decode cX12_hear 5 = .ok (.ifCond .eq 12, 3) := dcS2 dO_153 (by decide +kernel)
theorem dX12_hear_8 : decode cX12_hear 8 = .ok (.iload_n 2, 1) := dc0 dO_28 (by decide +kernel)
theorem dX12_hear_9 : decode cX12_hear 9 = .ok (.iconst 0, 1) := dc0 dO_3 (by decide +kernel)
theorem dX12_hear_10 : decode cX12_hear 10 = .ok (.iconst 1, 1) := dc0 dO_4 (by decide +kernel)
theorem dX12_hear_11 : decode cX12_hear 11 = .ok (.invokestatic 18, 3) := dcU2 dO_184 (by decide +kernel)
theorem dX12_hear_14 : decode cX12_hear 14 = .ok (.ifCond .ne 5, 3) := dcS2 dO_154 (by decide +kernel)
theorem dX12_hear_17 : decode cX12_hear 17 = .ok (.iconst (-1), 1) := dc0 dO_2 (by decide +kernel)
theorem dX12_hear_18 : decode cX12_hear 18 = .ok (.ireturn, 1) := dc0 dO_172 (by decide +kernel)
theorem dX12_hear_19 : decode cX12_hear 19 = .ok (.aload_n 0, 1) := dc0 dO_42 (by decide +kernel)
theorem dX12_hear_20 : decode cX12_hear 20 = .ok (.getfield 655, 3) := dcU2 dO_180 (by decide +kernel)
theorem dX12_hear_23 : decode cX12_hear 23 = .ok (.ifCond .eq 19, 3) := dcS2 dO_153 (by decide +kernel)
theorem dX12_hear_26 : decode cX12_hear 26 = .ok (.aload_n 0, 1) := dc0 dO_42 (by decide +kernel)
theorem dX12_hear_27 : decode cX12_hear 27 = .ok (.getfield 665, 3) := dcU2 dO_180 (by decide +kernel)
theorem dX12_hear_30 : decode cX12_hear 30 = .ok (.ifCond .ne 12, 3) := dcS2 dO_154 (by decide +kernel)
theorem dX12_hear_33 : decode cX12_hear 33 = .ok (.aload_n 0, 1) := dc0 dO_42 (by decide +kernel)
theorem dX12_hear_34 : decode cX12_hear 34 = .ok (.getfield 53, 3) := dcU2 dO_180 (by decide +kernel)
theorem dX12_hear_37 : decode cX12_hear 37 = .ok (.iload_n 1, 1) := dc0 dO_27 (by decide +kernel)
theorem dX12_hear_38 : decode cX12_hear 38 = .ok (.baload, 1) := dc0 dO_51 (by decide +kernel)
theorem dX12_hear_39 : decode cX12_hear 39 = .ok (.ifCond .ne 6, 3) := dcS2 dO_154 (by decide +kernel)
theorem dX12_hear_42 : decode cX12_hear 42 = .ok (.bipush (-2), 2) := dcS1 dO_16 (by decide +kernel)
theorem dX12_hear_44 : decode cX12_hear 44 = .ok (.ireturn, 1) := dc0 dO_172 (by decide +kernel)
theorem dX12_hear_45 : decode cX12_hear 45 = .ok (.iconst 0, 1) := dc0 dO_3 (by decide +kernel)
theorem dX12_hear_46 : decode cX12_hear 46 = .ok (.istore_n 3, 1) := dc0 dO_62 (by decide +kernel)
theorem dX12_hear_47 : decode cX12_hear 47 = .ok (.iconst 0, 1) := dc0 dO_3 (by decide +kernel)
theorem dX12_hear_48 : decode cX12_hear 48 = .ok (.istore 4, 2) := dcU1 dO_54 (by decide +kernel)
theorem dX12_hear_50 : decode cX12_hear 50 = .ok (.iload 4, 2) := dcU1 dO_21 (by decide +kernel)
theorem dX12_hear_52 : decode cX12_hear 52 = .ok (.aload_n 0, 1) := dc0 dO_42 (by decide +kernel)
theorem dX12_hear_53 : decode cX12_hear 53 = .ok (.getfield 625, 3) := dcU2 dO_180 (by decide +kernel)
theorem dX12_hear_56 : decode cX12_hear 56 = .ok (.aload_n 0, 1) := dc0 dO_42 (by decide +kernel)
theorem dX12_hear_57 : decode cX12_hear 57 = .ok (.getfield 628, 3) := dcU2 dO_180 (by decide +kernel)
theorem dX12_hear_60 : decode cX12_hear 60 = .ok (.iadd, 1) := dc0 dO_96 (by decide +kernel)
theorem dX12_hear_61 : decode cX12_hear 61 = .ok (.if_icmp .ge 168, 3) := dcS2 dO_162 (by decide +kernel)
theorem dX12_hear_64 : decode cX12_hear 64 = .ok (.iload 4, 2) := dcU1 dO_21 (by decide +kernel)
theorem dX12_hear_66 : decode cX12_hear 66 = .ok (.aload_n 0, 1) := dc0 dO_42 (by decide +kernel)
theorem dX12_hear_67 : decode cX12_hear 67 = .ok (.getfield 625, 3) := dcU2 dO_180 (by decide +kernel)
theorem dX12_hear_70 : decode cX12_hear 70 = .ok (.if_icmp .ge 24, 3) := dcS2 dO_162 (by decide +kernel)
theorem dX12_hear_73 : decode cX12_hear 73 = .ok (.aload_n 0, 1) := dc0 dO_42 (by decide +kernel)
theorem dX12_hear_74 : decode cX12_hear 74 = .ok (.aload_n 0, 1) := dc0 dO_42 (by decide +kernel)
theorem dX12_hear_75 : decode cX12_hear 75 = .ok (.getfield 460, 3) := dcU2 dO_180 (by decide +kernel)
theorem dX12_hear_78 : decode cX12_hear 78 = .ok (.iload 4, 2) := dcU1 dO_21 (by decide +kernel)
theorem dX12_hear_80 : decode cX12_hear 80 = .ok (.iaload, 1) := dc0 dO_46 (by decide +kernel)
theorem dX12_hear_81 : decode cX12_hear 81 = .ok (.aload_n 0, 1) := dc0 dO_42 (by decide +kernel)
theorem dX12_hear_82 : decode cX12_hear 82 = .ok (.getfield 463, 3) := dcU2 dO_180 (by decide +kernel)
theorem dX12_hear_85 : decode cX12_hear 85 = .ok (.iload 4, 2) := dcU1 dO_21 (by decide +kernel)
theorem dX12_hear_87 : decode cX12_hear 87 = .ok (.iaload, 1) := dc0 dO_46 (by decide +kernel)
theorem dX12_hear_88 : decode cX12_hear 88 = .ok (.invokevirtual 30, 3) := dcU2 dO_182 (by decide +kernel)
theorem dX12_hear_91 : decode cX12_hear 91 = .ok (.goto 31, 3) := dcS2 dO_167 (by decide +kernel)
theorem dX12_hear_94 : decode cX12_hear 94 = .ok (.aload_n 0, 1) := dc0 dO_42 (by decide +kernel)
theorem dX12_hear_95 : decode cX12_hear 95 = .ok (.aload_n 0, 1) := dc0 dO_42 (by decide +kernel)
theorem dX12_hear_96 : decode cX12_hear 96 = .ok (.getfield 466, 3) := dcU2 dO_180 (by decide +kernel)
theorem dX12_hear_99 : decode cX12_hear 99 = .ok (.iload 4, 2) := dcU1 dO_21 (by decide +kernel)
theorem dX12_hear_101 : decode cX12_hear 101 = .ok (.aload_n 0, 1) := dc0 dO_42 (by decide +kernel)
theorem dX12_hear_102 : decode cX12_hear 102 = .ok (.getfield 625, 3) := dcU2 dO_180 (by decide +kernel)
theorem dX12_hear_105 : decode cX12_hear 105 = .ok (.isub, 1) := dc0 dO_100 (by decide +kernel)
theorem dX12_hear_106 : decode cX12_hear 106 = .ok (.iaload, 1) := dc0 dO_46 (by decide +kernel)
theorem dX12_hear_107 : decode cX12_hear 107 = .ok (.aload_n 0, 1) := dc0 dO_42 (by decide +kernel)
theorem dX12_hear_108 : decode cX12_hear 108 = .ok (.getfield 469, 3) := dcU2 dO_180 (by decide +kernel)
theorem dX12_hear_111 : decode cX12_hear 111 = .ok (.iload 4, 2) := dcU1 dO_21 (by decide +kernel)
theorem dX12_hear_113 : decode cX12_hear 113 = .ok (.aload_n 0, 1) := dc0 dO_42 (by decide +kernel)
theorem dX12_hear_114 : decode cX12_hear 114 = .ok (.getfield 625, 3) := dcU2 dO_180 (by decide +kernel)
theorem dX12_hear_117 : decode cX12_hear 117 = .ok (.isub, 1) := dc0 dO_100 (by decide +kernel)
theorem dX12_hear_118 : decode cX12_hear 118 = .ok (.iaload, 1) := dc0 dO_46 (by decide +kernel)
theorem dX12_hear_119 : decode cX12_hear 119 = .ok (.invokevirtual 30, 3) := dcU2 dO_182 (by decide +kernel)
theorem dX12_hear_122 : decode cX12_hear 122 = .ok (.istore 5, 2) := dcU1 dO_54 (by decide +kernel)
theorem dX12_hear_124 : decode cX12_hear 124 = .ok (.iload 5, 2) := dcU1 dO_21 (by decide +kernel)
theorem dX12_hear_126 : decode cX12_hear 126 = .ok (.ldc 29, 2) := dcU1 dO_18 (by decide +kernel)
theorem sfx_cX12_hear_128 : (cX12_hear.data.toList.drop 128).take 67 = [160, 0, 6, 167, 0, 92, 27, 28, 21, 5, 184, 2, 33, 54, 6, 21, 4, 42, 180, 2, 113, 162, 0, 16, 42, 17, 0, 130, 21, 6, 96, 182, 2, 27, 167, 0, 31, 42, 16, 24, 17, 0, 130, 21, 6, 96, 182, 2, 47, 42, 180, 0, 148, 16, 40, 17, 0, 130, 21, 6, 96, 104, 21, 5, 79, 42, 180] := by decide +kernel
theorem dX12_hear_128 : decode cX12_hear 128 = .ok (.if_icmp .ne 6, 3) := dcS2 dO_160 (rdS2.ch sfx_cX12_hear_128 0 rfl (by decide +kernel))
theorem dX12_hear_131 : decode cX12_hear 131 = .ok (.goto 92, 3) := dcS2 dO_167 (rdS2.ch sfx_cX12_hear_128 3 rfl (by decide +kernel))
theorem dX12_hear_134 : decode cX12_hear 134 = .ok (.iload_n 1, 1) := dc0 dO_27 (rdB.ch sfx_cX12_hear_128 6 rfl (by decide +kernel))
theorem dX12_hear_135 : decode cX12_hear 135 = .ok (.iload_n 2, 1) := dc0 dO_28 (rdB.ch sfx_cX12_hear_128 7 rfl (by decide +kernel))
theorem dX12_hear_136 : decode cX12_hear 136 = .ok (.iload 5, 2) := dcU1 dO_21 (rdU1.ch sfx_cX12_hear_128 8 rfl (by decide +kernel))
theorem dX12_hear_138 : decode cX12_hear 138 = .ok (.invokestatic 545, 3) := dcU2 dO_184 (rdU2.ch sfx_cX12_hear_128 10 rfl (by decide +kernel))
theorem dX12_hear_141 : decode cX12_hear 141 = .ok (.istore 6, 2) := dcU1 dO_54 (rdU1.ch sfx_cX12_hear_128 13 rfl (by decide +kernel))
theorem dX12_hear_143 : decode cX12_hear 143 = .ok (.iload 4, 2) := dcU1 dO_21 (rdU1.ch sfx_cX12_hear_128 15 rfl (by decide +kernel))
theorem dX12_hear_145 : decode cX12_hear 145 = .ok (.aload_n 0, 1) := dc0 dO_42 (rdB.ch sfx_cX12_hear_128 17 rfl (by decide +kernel))
theorem dX12_hear_146 : decode cX12_hear 146 = .ok (.getfield 625, 3) := dcU2 dO_180 (rdU2.ch sfx_cX12_hear_128 18 rfl (by decide +kernel))
theorem dX12_hear_149 : decode cX12_hear 149 = .ok (.if_icmp .ge 16, 3) := dcS2 dO_162 (rdS2.ch sfx_cX12_hear_128 21 rfl (by decide +kernel))
theorem dX12_hear_152 : decode cX12_hear 152 = .ok (.aload_n 0, 1) := dc0 dO_42 (rdB.ch sfx_cX12_hear_128 24 rfl (by decide +kernel))
theorem dX12_hear_153 : decode cX12_hear 153 = .ok (.sipush 130, 3) := dcS2 dO_17 (rdS2.ch sfx_cX12_hear_128 25 rfl (by decide +kernel))
theorem dX12_hear_156 : decode cX12_hear 156 = .ok (.iload 6, 2) := dcU1 dO_21 (rdU1.ch sfx_cX12_hear_128 28 rfl (by decide +kernel))
theorem dX12_hear_158 : decode cX12_hear 158 = .ok (.iadd, 1) := dc0 dO_96 (rdB.ch sfx_cX12_hear_128 30 rfl (by decide +kernel))
theorem dX12_hear_159 : decode cX12_hear 159 = .ok (.invokevirtual 539, 3) := dcU2 dO_182 (rdU2.ch sfx_cX12_hear_128 31 rfl (by decide +kernel))
theorem dX12_hear_162 : decode cX12_hear 162 = .ok (.goto 31, 3) := dcS2 dO_167 (rdS2.ch sfx_cX12_hear_128 34 rfl (by decide +kernel))
theorem dX12_hear_165 : decode cX12_hear 165 = .ok (.aload_n 0, 1) := dc0 dO_42 (rdB.ch sfx_cX12_hear_128 37 rfl (by decide +kernel))
theorem dX12_hear_166 : decode cX12_hear 166 = .ok (.bipush 24, 2) := dcS1 dO_16 (rdS1.ch sfx_cX12_hear_128 38 rfl (by decide +kernel))
theorem dX12_hear_168 : decode cX12_hear 168 = .ok (.sipush 130, 3) := dcS2 dO_17 (rdS2.ch sfx_cX12_hear_128 40 rfl (by decide +kernel))
theorem dX12_hear_171 : decode cX12_hear 171 = .ok (.iload 6, 2) := dcU1 dO_21 (rdU1.ch sfx_cX12_hear_128 43 rfl (by decide +kernel))
theorem dX12_hear_173 : decode cX12_hear 173 = .ok (.iadd, 1) := dc0 dO_96 (rdB.ch sfx_cX12_hear_128 45 rfl (by decide +kernel))
theorem dX12_hear_174 : decode cX12_hear 174 = .ok (.invokevirtual 559, 3) := dcU2 dO_182 (rdU2.ch sfx_cX12_hear_128 46 rfl (by decide +kernel))
theorem dX12_hear_177 : decode cX12_hear 177 = .ok (.aload_n 0, 1) := dc0 dO_42 (rdB.ch sfx_cX12_hear_128 49 rfl (by decide +kernel))
theorem dX12_hear_178 : decode cX12_hear 178 = .ok (.getfield 148, 3) := dcU2 dO_180 (rdU2.ch sfx_cX12_hear_128 50 rfl (by decide +kernel))
theorem dX12_hear_181 : decode cX12_hear 181 = .ok (.bipush 40, 2) := dcS1 dO_16 (rdS1.ch sfx_cX12_hear_128 53 rfl (by decide +kernel))
theorem dX12_hear_183 : decode cX12_hear 183 = .ok (.sipush 130, 3) := dcS2 dO_17 (rdS2.ch sfx_cX12_hear_128 55 rfl (by decide +kernel))
theorem dX12_hear_186 : decode cX12_hear 186 = .ok (.iload 6, 2) := dcU1 dO_21 (rdU1.ch sfx_cX12_hear_128 58 rfl (by decide +kernel))
theorem dX12_hear_188 : decode cX12_hear 188 = .ok (.iadd, 1) := dc0 dO_96 (rdB.ch sfx_cX12_hear_128 60 rfl (by decide +kernel))
theorem dX12_hear_189 : decode cX12_hear 189 = .ok (.imul, 1) := dc0 dO_104 (rdB.ch sfx_cX12_hear_128 61 rfl (by decide +kernel))
theorem dX12_hear_190 : decode cX12_hear 190 = .ok (.iload 5, 2) := dcU1 dO_21 (rdU1.ch sfx_cX12_hear_128 62 rfl (by decide +kernel))
theorem sfx_cX12_hear_192 : (cX12_hear.data.toList.drop 192).take 67 = [79, 42, 180, 1, 168, 21, 6, 42, 180, 2, 79, 79, 132, 3, 1, 42, 42, 180, 0, 40, 5, 27, 104, 28, 96, 46, 21, 5, 182, 2, 85, 132, 4, 1, 167, 255, 80, 29, 172] := by decide +kernel
theorem dX12_hear_192 : decode cX12_hear 192 = .ok (.iastore, 1) := dc0 dO_79 (rdB.ch sfx_cX12_hear_192 0 rfl (by decide +kernel))
theorem dX12_hear_193 : decode cX12_hear 193 = .ok (.aload_n 0, 1) := dc0 dO_42 (rdB.ch sfx_cX12_hear_192 1 rfl (by decide +kernel))
theorem dX12_hear_194 : decode cX12_hear 194 = .ok (.getfield 424, 3) := dcU2 dO_180 (rdU2.ch sfx_cX12_hear_192 2 rfl (by decide +kernel))
theorem dX12_hear_197 : decode cX12_hear 197 = .ok (.iload 6, 2) := dcU1 dO_21 (rdU1.ch sfx_cX12_hear_192 5 rfl (by decide +kernel))
theorem dX12_hear_199 : decode cX12_hear 199 = .ok (.aload_n 0, 1) := dc0 dO_42 (rdB.ch sfx_cX12_hear_192 7 rfl (by decide +kernel))
theorem dX12_hear_200 : decode cX12_hear 200 = .ok (.getfield 591, 3) := dcU2 dO_180 (rdU2.ch sfx_cX12_hear_192 8 rfl (by decide +kernel))
theorem dX12_hear_203 : decode cX12_hear 203 = .ok (.iastore, 1) := dc0 dO_79 (rdB.ch sfx_cX12_hear_192 11 rfl (by decide +kernel))
theorem dX12_hear_204 : decode cX12_hear 204 = .ok (.iinc 3 1, 3) := dcI dO_132 (rdI.ch sfx_cX12_hear_192 12 rfl (by decide +kernel))
theorem dX12_hear_207 : decode cX12_hear 207 = .ok (.aload_n 0, 1) := dc0 dO_42 (rdB.ch sfx_cX12_hear_192 15 rfl (by decide +kernel))
theorem dX12_hear_208 : decode cX12_hear 208 = .ok (.aload_n 0, 1) := dc0 dO_42 (rdB.ch sfx_cX12_hear_192 16 rfl (by decide +kernel))
theorem dX12_hear_209 : decode cX12_hear 209 = .ok (.getfield 40, 3) := dcU2 dO_180 (rdU2.ch sfx_cX12_hear_192 17 rfl (by decide +kernel))
theorem dX12_hear_212 : decode cX12_hear 212 = .ok (.iconst 2, 1) := dc0 dO_5 (rdB.ch sfx_cX12_hear_192 20 rfl (by decide +kernel))
theorem dX12_hear_213 : decode cX12_hear 213 = .ok (.iload_n 1, 1) := dc0 dO_27 (rdB.ch sfx_cX12_hear_192 21 rfl (by decide +kernel))
theorem dX12_hear_214 : decode cX12_hear 214 = .ok (.imul, 1) := dc0 dO_104 (rdB.ch sfx_cX12_hear_192 22 rfl (by decide +kernel))
theorem dX12_hear_215 : decode cX12_hear 215 = .ok (.iload_n 2, 1) := dc0 dO_28 (rdB.ch sfx_cX12_hear_192 23 rfl (by decide +kernel))
theorem dX12_hear_216 : decode cX12_hear 216 = .ok (.iadd, 1) := dc0 dO_96 (rdB.ch sfx_cX12_hear_192 24 rfl (by decide +kernel))
theorem dX12_hear_217 : decode cX12_hear 217 = .ok (.iaload, 1) := dc0 dO_46 (rdB.ch sfx_cX12_hear_192 25 rfl (by decide +kernel))
theorem dX12_hear_218 : decode cX12_hear 218 = .ok (.iload 5, 2) := dcU1 dO_21 (rdU1.ch sfx_cX12_hear_192 26 rfl (by decide +kernel))
theorem dX12_hear_220 : decode cX12_hear 220 = .ok (.invokevirtual 597, 3) := dcU2 dO_182 (rdU2.ch sfx_cX12_hear_192 28 rfl (by decide +kernel))
theorem dX12_hear_223 : decode cX12_hear 223 = .ok (.iinc 4 1, 3) := dcI dO_132 (rdI.ch sfx_cX12_hear_192 31 rfl (by decide +kernel))
theorem dX12_hear_226 : decode cX12_hear 226 = .ok (.goto (-176), 3) := dcS2 dO_167 (rdS2.ch sfx_cX12_hear_192 34 rfl (by decide +kernel))
theorem dX12_hear_229 : decode cX12_hear 229 = .ok (.iload_n 3, 1) := dc0 dO_29 (rdB.ch sfx_cX12_hear_192 37 rfl (by decide +kernel))
theorem dX12_hear_230 : decode cX12_hear 230 = .ok (.ireturn, 1) := dc0 dO_172 (rdB.ch sfx_cX12_hear_192 38 rfl (by decide +kernel))
theorem dX12_judge_0 : decode cX12_judge 0 = .ok (.iload_n 1, 1) := dc0 dO_27 (by decide +kernel)
theorem dX12_judge_1 : decode cX12_judge 1 = .ok (.iconst 0, 1) := dc0 dO_3 (by decide +kernel)
theorem dX12_judge_2 : decode cX12_judge 2 = .ok (.aload_n 0, 1) := dc0 dO_42 (by decide +kernel)
theorem dX12_judge_3 : decode cX12_judge 3 = .ok (.getfield 355, 3) := dcU2 dO_180 (by decide +kernel)
theorem dX12_judge_6 : decode cX12_judge 6 = .ok (.iconst 1, 1) := dc0 dO_4 (by decide +kernel)
theorem dX12_judge_7 : decode cX12_judge 7 = .ok (.isub, 1) := dc0 dO_100 (by decide +kernel)
theorem dX12_judge_8 : decode cX12_judge 8 = .ok (.invokestatic 18, 3) := dcU2 dO_184 (by decide +kernel)
theorem dX12_judge_11 : decode cX12_judge 11 = .ok (.ifCond .eq 30, 3) := dcS2 dO_153 (by decide +kernel)
theorem dX12_judge_14 : decode cX12_judge 14 = .ok (.aload_n 0, 1) := dc0 dO_42 (by decide +kernel)
theorem dX12_judge_15 : decode cX12_judge 15 = .ok (.iload_n 2, 1) := dc0 dO_28 (by decide +kernel)
theorem dX12_judge_16 : decode cX12_judge 16 = .ok (.invokevirtual 49, 3) := dcU2 dO_182 (by decide +kernel)
theorem dX12_judge_19 : decode cX12_judge 19 = .ok (.ifCond .eq 22, 3) := dcS2 dO_153 (by decide +kernel)
theorem dX12_judge_22 : decode cX12_judge 22 = .ok (.aload_n 0, 1) := dc0 dO_42 (by decide +kernel)
theorem dX12_judge_23 : decode cX12_judge 23 = .ok (.iload_n 3, 1) := dc0 dO_29 (by decide +kernel)
theorem dX12_judge_24 : decode cX12_judge 24 = .ok (.invokevirtual 49, 3) := dcU2 dO_182 (by decide +kernel)
theorem dX12_judge_27 : decode cX12_judge 27 = .ok (.ifCond .eq 14, 3) := dcS2 dO_153 (by decide +kernel)
theorem dX12_judge_30 : decode cX12_judge 30 = .ok (.aload_n 0, 1) := dc0 dO_42 (by decide +kernel)
theorem dX12_judge_31 : decode cX12_judge 31 = .ok (.iload_n 2, 1) := dc0 dO_28 (by decide +kernel)
theorem dX12_judge_32 : decode cX12_judge 32 = .ok (.iload_n 3, 1) := dc0 dO_29 (by decide +kernel)
theorem dX12_judge_33 : decode cX12_judge 33 = .ok (.invokevirtual 43, 3) := dcU2 dO_182 (by decide +kernel)
theorem dX12_judge_36 : decode cX12_judge 36 = .ok (.ldc 29, 2) := dcU1 dO_18 (by decide +kernel)
theorem dX12_judge_38 : decode cX12_judge 38 = .ok (.if_icmp .ne 5, 3) := dcS2 dO_160 (by decide +kernel)
theorem dX12_judge_41 : decode cX12_judge 41 = .ok (.iconst (-1), 1) := dc0 dO_2 (by decide +kernel)
theorem dX12_judge_42 : decode cX12_judge 42 = .ok (.ireturn, 1) := dc0 dO_172 (by decide +kernel)
theorem dX12_judge_43 : decode cX12_judge 43 = .ok (.aload_n 0, 1) := dc0 dO_42 (by decide +kernel)
theorem dX12_judge_44 : decode cX12_judge 44 = .ok (.getfield 411, 3) := dcU2 dO_180 (by decide +kernel)
theorem dX12_judge_47 : decode cX12_judge 47 = .ok (.ifCond .ne 6, 3) := dcS2 dO_154 (by decide +kernel)
theorem dX12_judge_50 : decode cX12_judge 50 = .ok (.bipush (-2), 2) := dcS1 dO_16 (by decide +kernel)
theorem dX12_judge_52 : decode cX12_judge 52 = .ok (.ireturn, 1) := dc0 dO_172 (by decide +kernel)
theorem dX12_judge_53 : decode cX12_judge 53 = .ok (.aload_n 0, 1) := dc0 dO_42 (by decide +kernel)
theorem dX12_judge_54 : decode cX12_judge 54 = .ok (.iload_n 1, 1) := dc0 dO_27 (by decide +kernel)
theorem dX12_judge_55 : decode cX12_judge 55 = .ok (.iconst 0, 1) := dc0 dO_3 (by decide +kernel)
theorem dX12_judge_56 : decode cX12_judge 56 = .ok (.iload_n 2, 1) := dc0 dO_28 (by decide +kernel)
theorem dX12_judge_57 : decode cX12_judge 57 = .ok (.iload_n 3, 1) := dc0 dO_29 (by decide +kernel)
theorem dX12_judge_58 : decode cX12_judge 58 = .ok (.invokevirtual 414, 3) := dcU2 dO_182 (by decide +kernel)
theorem dX12_judge_61 : decode cX12_judge 61 = .ok (.ifCond .eq 7, 3) := dcS2 dO_153 (by decide +kernel)
theorem dX12_judge_64 : decode cX12_judge 64 = .ok (.iconst 1, 1) := dc0 dO_4 (by decide +kernel)
theorem dX12_judge_65 : decode cX12_judge 65 = .ok (.goto 4, 3) := dcS2 dO_167 (by decide +kernel)
theorem dX12_judge_68 : decode cX12_judge 68 = .ok (.iconst 0, 1) := dc0 dO_3 (by decide +kernel)
theorem dX12_judge_69 : decode cX12_judge 69 = .ok (.ireturn, 1) := dc0 dO_172 (by decide +kernel)
theorem dX12_letter_0 : decode cX12_letter 0 = .ok (.aload_n 0, 1) := dc0 dO_42 (by decide +kernel)
theorem dX12_letter_1 : decode cX12_letter 1 = .ok (.iload_n 1, 1) := dc0 dO_27 (by decide +kernel)
theorem dX12_letter_2 : decode cX12_letter 2 = .ok (.invokevirtual 49, 3) := dcU2 dO_182 (by decide +kernel)
theorem dX12_letter_5 : decode cX12_letter 5 = .ok (.ifCond .ne 5, 3) := dcS2 dO_154 (by decide +kernel)
theorem dX12_letter_8 : decode cX12_letter 8 = .ok (.iconst (-1), 1) := dc0 dO_2 (by decide +kernel)
theorem dX12_letter_9 : decode cX12_letter 9 = .ok (.ireturn, 1) := dc0 dO_172 (by decide +kernel)
theorem dX12_letter_10 : decode cX12_letter 10 = .ok (.aload_n 0, 1) := dc0 dO_42 (by decide +kernel)
theorem dX12_letter_11 : decode cX12_letter 11 = .ok (.iload_n 1, 1) := dc0 dO_27 (by decide +kernel)
theorem dX12_letter_12 : decode cX12_letter 12 = .ok (.iload_n 2, 1) := dc0 dO_28 (by decide +kernel)
theorem dX12_letter_13 : decode cX12_letter 13 = .ok (.invokevirtual 689, 3) := dcU2 dO_182 (by decide +kernel)
theorem dX12_letter_16 : decode cX12_letter 16 = .ok (.istore_n 3, 1) := dc0 dO_62 (by decide +kernel)
theorem dX12_letter_17 : decode cX12_letter 17 = .ok (.aload_n 0, 1) := dc0 dO_42 (by decide +kernel)
theorem dX12_letter_18 : decode cX12_letter 18 = .ok (.aload_n 0, 1) := dc0 dO_42 (by decide +kernel)
theorem dX12_letter_19 : decode cX12_letter 19 = .ok (.getfield 683, 3) := dcU2 dO_180 (by decide +kernel)
theorem dX12_letter_22 : decode cX12_letter 22 = .ok (.putfield 692, 3) := dcU2 dO_181 (by decide +kernel)
theorem dX12_letter_25 : decode cX12_letter 25 = .ok (.iconst 0, 1) := dc0 dO_3 (by decide +kernel)
theorem dX12_letter_26 : decode cX12_letter 26 = .ok (.istore 4, 2) := dcU1 dO_54 (by decide +kernel)
theorem dX12_letter_28 : decode cX12_letter 28 = .ok (.iload 4, 2) := dcU1 dO_21 (by decide +kernel)
theorem dX12_letter_30 : decode cX12_letter 30 = .ok (.aload_n 0, 1) := dc0 dO_42 (by decide +kernel)
theorem dX12_letter_31 : decode cX12_letter 31 = .ok (.getfield 683, 3) := dcU2 dO_180 (by decide +kernel)
theorem dX12_letter_34 : decode cX12_letter 34 = .ok (.if_icmp .ge 23, 3) := dcS2 dO_162 (by decide +kernel)
theorem dX12_letter_37 : decode cX12_letter 37 = .ok (.aload_n 0, 1) := dc0 dO_42 (by decide +kernel)
theorem dX12_letter_38 : decode cX12_letter 38 = .ok (.getfield 490, 3) := dcU2 dO_180 (by decide +kernel)
theorem dX12_letter_41 : decode cX12_letter 41 = .ok (.iload 4, 2) := dcU1 dO_21 (by decide +kernel)
theorem dX12_letter_43 : decode cX12_letter 43 = .ok (.aload_n 0, 1) := dc0 dO_42 (by decide +kernel)
theorem dX12_letter_44 : decode cX12_letter 44 = .ok (.getfield 487, 3) := dcU2 dO_180 (by decide +kernel)
theorem dX12_letter_47 : decode cX12_letter 47 = .ok (.iload 4, 2) := dcU1 dO_21 (by decide +kernel)
theorem dX12_letter_49 : decode cX12_letter 49 = .ok (.iaload, 1) := dc0 dO_46 (by decide +kernel)
theorem dX12_letter_50 : decode cX12_letter 50 = .ok (.iastore, 1) := dc0 dO_79 (by decide +kernel)
theorem dX12_letter_51 : decode cX12_letter 51 = .ok (.iinc 4 1, 3) := dcI dO_132 (by decide +kernel)
theorem dX12_letter_54 : decode cX12_letter 54 = .ok (.goto (-26), 3) := dcS2 dO_167 (by decide +kernel)
theorem dX12_letter_57 : decode cX12_letter 57 = .ok (.iload_n 3, 1) := dc0 dO_29 (by decide +kernel)
theorem dX12_letter_58 : decode cX12_letter 58 = .ok (.ireturn, 1) := dc0 dO_172 (by decide +kernel)
theorem dX12_load_0 : decode cX12_load 0 = .ok (.aload_n 0, 1) := dc0 dO_42 (by decide +kernel)
theorem dX12_load_1 : decode cX12_load 1 = .ok (.iload_n 1, 1) := dc0 dO_27 (by decide +kernel)
theorem dX12_load_2 : decode cX12_load 2 = .ok (.invokevirtual 66, 3) := dcU2 dO_182 (by decide +kernel)
theorem dX12_load_5 : decode cX12_load 5 = .ok (.ifCond .eq 12, 3) := dcS2 dO_153 (by decide +kernel)
theorem dX12_load_8 : decode cX12_load 8 = .ok (.iload_n 2, 1) := dc0 dO_28 (by decide +kernel)
theorem dX12_load_9 : decode cX12_load 9 = .ok (.iconst 0, 1) := dc0 dO_3 (by decide +kernel)
theorem dX12_load_10 : decode cX12_load 10 = .ok (.iconst 1, 1) := dc0 dO_4 (by decide +kernel)
theorem dX12_load_11 : decode cX12_load 11 = .ok (.invokestatic 18, 3) := dcU2 dO_184 (by decide +kernel)
theorem dX12_load_14 : decode cX12_load 14 = .ok (.ifCond .ne 5, 3) := dcS2 dO_154 (by decide +kernel)
theorem dX12_load_17 : decode cX12_load 17 = .ok (.iconst (-1), 1) := dc0 dO_2 (by decide +kernel)
theorem dX12_load_18 : decode cX12_load 18 = .ok (.ireturn, 1) := dc0 dO_172 (by decide +kernel)
theorem dX12_load_19 : decode cX12_load 19 = .ok (.iconst 0, 1) := dc0 dO_3 (by decide +kernel)
theorem dX12_load_20 : decode cX12_load 20 = .ok (.istore_n 3, 1) := dc0 dO_62 (by decide +kernel)
theorem dX12_load_21 : decode cX12_load 21 = .ok (.iconst 0, 1) := dc0 dO_3 (by decide +kernel)
theorem dX12_load_22 : decode cX12_load 22 = .ok (.istore 4, 2) := dcU1 dO_54 (by decide +kernel)
theorem dX12_load_24 : decode cX12_load 24 = .ok (.iload 4, 2) := dcU1 dO_21 (by decide +kernel)
theorem dX12_load_26 : decode cX12_load 26 = .ok (.aload_n 0, 1) := dc0 dO_42 (by decide +kernel)
theorem dX12_load_27 : decode cX12_load 27 = .ok (.getfield 695, 3) := dcU2 dO_180 (by decide +kernel)
theorem dX12_load_30 : decode cX12_load 30 = .ok (.if_icmp .ge 102, 3) := dcS2 dO_162 (by decide +kernel)
theorem dX12_load_33 : decode cX12_load 33 = .ok (.aload_n 0, 1) := dc0 dO_42 (by decide +kernel)
theorem dX12_load_34 : decode cX12_load 34 = .ok (.aload_n 0, 1) := dc0 dO_42 (by decide +kernel)
theorem dX12_load_35 : decode cX12_load 35 = .ok (.getfield 493, 3) := dcU2 dO_180 (by decide +kernel)
theorem dX12_load_38 : decode cX12_load 38 = .ok (.iload 4, 2) := dcU1 dO_21 (by decide +kernel)
theorem dX12_load_40 : decode cX12_load 40 = .ok (.iaload, 1) := dc0 dO_46 (by decide +kernel)
theorem dX12_load_41 : decode cX12_load 41 = .ok (.aload_n 0, 1) := dc0 dO_42 (by decide +kernel)
theorem dX12_load_42 : decode cX12_load 42 = .ok (.getfield 496, 3) := dcU2 dO_180 (by decide +kernel)
theorem dX12_load_45 : decode cX12_load 45 = .ok (.iload 4, 2) := dcU1 dO_21 (by decide +kernel)
theorem dX12_load_47 : decode cX12_load 47 = .ok (.iaload, 1) := dc0 dO_46 (by decide +kernel)
theorem dX12_load_48 : decode cX12_load 48 = .ok (.invokevirtual 689, 3) := dcU2 dO_182 (by decide +kernel)
theorem dX12_load_51 : decode cX12_load 51 = .ok (.pop, 1) := dc0 dO_87 (by decide +kernel)
theorem dX12_load_52 : decode cX12_load 52 = .ok (.iconst 0, 1) := dc0 dO_3 (by decide +kernel)
theorem dX12_load_53 : decode cX12_load 53 = .ok (.istore 5, 2) := dcU1 dO_54 (by decide +kernel)
theorem dX12_load_55 : decode cX12_load 55 = .ok (.iload 5, 2) := dcU1 dO_21 (by decide +kernel)
theorem dX12_load_57 : decode cX12_load 57 = .ok (.iconst 1, 1) := dc0 dO_4 (by decide +kernel)
theorem dX12_load_58 : decode cX12_load 58 = .ok (.iadd, 1) := dc0 dO_96 (by decide +kernel)
theorem dX12_load_59 : decode cX12_load 59 = .ok (.aload_n 0, 1) := dc0 dO_42 (by decide +kernel)
theorem dX12_load_60 : decode cX12_load 60 = .ok (.getfield 683, 3) := dcU2 dO_180 (by decide +kernel)
theorem dX12_load_63 : decode cX12_load 63 = .ok (.if_icmp .ge 63, 3) := dcS2 dO_162 (by decide +kernel)
theorem dX12_load_66 : decode cX12_load 66 = .ok (.aload_n 0, 1) := dc0 dO_42 (by decide +kernel)
theorem dX12_load_67 : decode cX12_load 67 = .ok (.getfield 487, 3) := dcU2 dO_180 (by decide +kernel)
theorem dX12_load_70 : decode cX12_load 70 = .ok (.iload 5, 2) := dcU1 dO_21 (by decide +kernel)
theorem dX12_load_72 : decode cX12_load 72 = .ok (.iaload, 1) := dc0 dO_46 (by decide +kernel)
theorem dX12_load_73 : decode cX12_load 73 = .ok (.aload_n 0, 1) := dc0 dO_42 (by decide +kernel)
theorem dX12_load_74 : decode cX12_load 74 = .ok (.getfield 40, 3) := dcU2 dO_180 (by decide +kernel)
theorem dX12_load_77 : decode cX12_load 77 = .ok (.iconst 2, 1) := dc0 dO_5 (by decide +kernel)
theorem dX12_load_78 : decode cX12_load 78 = .ok (.iload_n 1, 1) := dc0 dO_27 (by decide +kernel)
theorem dX12_load_79 : decode cX12_load 79 = .ok (.imul, 1) := dc0 dO_104 (by decide +kernel)
theorem dX12_load_80 : decode cX12_load 80 = .ok (.iload_n 2, 1) := dc0 dO_28 (by decide +kernel)
theorem dX12_load_81 : decode cX12_load 81 = .ok (.iadd, 1) := dc0 dO_96 (by decide +kernel)
theorem dX12_load_82 : decode cX12_load 82 = .ok (.iaload, 1) := dc0 dO_46 (by decide +kernel)
theorem dX12_load_83 : decode cX12_load 83 = .ok (.if_icmp .ne 37, 3) := dcS2 dO_160 (by decide +kernel)
theorem dX12_load_86 : decode cX12_load 86 = .ok (.aload_n 0, 1) := dc0 dO_42 (by decide +kernel)
theorem dX12_load_87 : decode cX12_load 87 = .ok (.getfield 487, 3) := dcU2 dO_180 (by decide +kernel)
theorem dX12_load_90 : decode cX12_load 90 = .ok (.iload 5, 2) := dcU1 dO_21 (by decide +kernel)
theorem dX12_load_92 : decode cX12_load 92 = .ok (.iconst 1, 1) := dc0 dO_4 (by decide +kernel)
theorem dX12_load_93 : decode cX12_load 93 = .ok (.iadd, 1) := dc0 dO_96 (by decide +kernel)
theorem dX12_load_94 : decode cX12_load 94 = .ok (.iaload, 1) := dc0 dO_46 (by decide +kernel)
theorem dX12_load_95 : decode cX12_load 95 = .ok (.aload_n 0, 1) := dc0 dO_42 (by decide +kernel)
theorem dX12_load_96 : decode cX12_load 96 = .ok (.getfield 40, 3) := dcU2 dO_180 (by decide +kernel)
theorem dX12_load_99 : decode cX12_load 99 = .ok (.iconst 2, 1) := dc0 dO_5 (by decide +kernel)
theorem dX12_load_100 : decode cX12_load 100 = .ok (.iload_n 1, 1) := dc0 dO_27 (by decide +kernel)
theorem dX12_load_101 : decode cX12_load 101 = .ok (.imul, 1) := dc0 dO_104 (by decide +kernel)
theorem dX12_load_102 : decode cX12_load 102 = .ok (.iconst 1, 1) := dc0 dO_4 (by decide +kernel)
theorem dX12_load_103 : decode cX12_load 103 = .ok (.iadd, 1) := dc0 dO_96 (by decide +kernel)
theorem dX12_load_104 : decode cX12_load 104 = .ok (.iload_n 2, 1) := dc0 dO_28 (by decide +kernel)
theorem dX12_load_105 : decode cX12_load 105 = .ok (.isub, 1) := dc0 dO_100 (by decide +kernel)
theorem dX12_load_106 : decode cX12_load 106 = .ok (.iaload, 1) := dc0 dO_46 (by decide +kernel)
theorem dX12_load_107 : decode cX12_load 107 = .ok (.if_icmp .ne 13, 3) := dcS2 dO_160 (by decide +kernel)
theorem dX12_load_110 : decode cX12_load 110 = .ok (.iload_n 3, 1) := dc0 dO_29 (by decide +kernel)
theorem dX12_load_111 : decode cX12_load 111 = .ok (.aload_n 0, 1) := dc0 dO_42 (by decide +kernel)
theorem dX12_load_112 : decode cX12_load 112 = .ok (.getfield 499, 3) := dcU2 dO_180 (by decide +kernel)
theorem dX12_load_115 : decode cX12_load 115 = .ok (.iload 4, 2) := dcU1 dO_21 (by decide +kernel)
theorem dX12_load_117 : decode cX12_load 117 = .ok (.iaload, 1) := dc0 dO_46 (by decide +kernel)
theorem dX12_load_118 : decode cX12_load 118 = .ok (.iadd, 1) := dc0 dO_96 (by decide +kernel)
theorem dX12_load_119 : decode cX12_load 119 = .ok (.istore_n 3, 1) := dc0 dO_62 (by decide +kernel)
theorem dX12_load_120 : decode cX12_load 120 = .ok (.iinc 5 1, 3) := dcI dO_132 (by decide +kernel)
theorem dX12_load_123 : decode cX12_load 123 = .ok (.goto (-68), 3) := dcS2 dO_167 (by decide +kernel)
theorem dX12_load_126 : decode cX12_load 126 = .ok (.iinc 4 1, 3) := dcI dO_132 (by decide +kernel)
theorem sfx_cX12_load_128 : (cX12_load.data.toList.drop 128).take 67 = [1, 167, 255, 151, 29, 172] := by decide +kernel
theorem dX12_load_129 : decode cX12_load 129 = .ok (.goto (-105), 3) := dcS2 dO_167 (rdS2.ch sfx_cX12_load_128 1 rfl (by decide +kernel))
theorem dX12_load_132 : decode cX12_load 132 = .ok (.iload_n 3, 1) := dc0 dO_29 (rdB.ch sfx_cX12_load_128 4 rfl (by decide +kernel))
theorem dX12_load_133 : decode cX12_load 133 = .ok (.ireturn, 1) := dc0 dO_172 (rdB.ch sfx_cX12_load_128 5 rfl (by decide +kernel))
theorem dX12_rule_0 : decode cX12_rule 0 = .ok (.aload_n 0, 1) := dc0 dO_42 (by decide +kernel)
theorem dX12_rule_1 : decode cX12_rule 1 = .ok (.iload_n 1, 1) := dc0 dO_27 (by decide +kernel)
theorem dX12_rule_2 : decode cX12_rule 2 = .ok (.invokevirtual 49, 3) := dcU2 dO_182 (by decide +kernel)
theorem dX12_rule_5 : decode cX12_rule 5 = .ok (.ifCond .eq 7, 3) := dcS2 dO_153 (by decide +kernel)
theorem dX12_rule_8 : decode cX12_rule 8 = .ok (.iload_n 2, 1) := dc0 dO_28 (by decide +kernel)
theorem dX12_rule_9 : decode cX12_rule 9 = .ok (.ifCond .ge 5, 3) := dcS2 dO_156 (by decide +kernel)
theorem dX12_rule_12 : decode cX12_rule 12 = .ok (.iconst (-1), 1) := dc0 dO_2 (by decide +kernel)
theorem dX12_rule_13 : decode cX12_rule 13 = .ok (.ireturn, 1) := dc0 dO_172 (by decide +kernel)
theorem dX12_rule_14 : decode cX12_rule 14 = .ok (.iconst 0, 1) := dc0 dO_3 (by decide +kernel)
theorem dX12_rule_15 : decode cX12_rule 15 = .ok (.istore 4, 2) := dcU1 dO_54 (by decide +kernel)
theorem dX12_rule_17 : decode cX12_rule 17 = .ok (.iconst 0, 1) := dc0 dO_3 (by decide +kernel)
theorem dX12_rule_18 : decode cX12_rule 18 = .ok (.istore 5, 2) := dcU1 dO_54 (by decide +kernel)
theorem dX12_rule_20 : decode cX12_rule 20 = .ok (.iload_n 2, 1) := dc0 dO_28 (by decide +kernel)
theorem dX12_rule_21 : decode cX12_rule 21 = .ok (.istore 6, 2) := dcU1 dO_54 (by decide +kernel)
theorem dX12_rule_23 : decode cX12_rule 23 = .ok (.iload 6, 2) := dcU1 dO_21 (by decide +kernel)
theorem dX12_rule_25 : decode cX12_rule 25 = .ok (.ifCond .le 56, 3) := dcS2 dO_158 (by decide +kernel)
theorem dX12_rule_28 : decode cX12_rule 28 = .ok (.iload 6, 2) := dcU1 dO_21 (by decide +kernel)
theorem dX12_rule_30 : decode cX12_rule 30 = .ok (.bipush 10, 2) := dcS1 dO_16 (by decide +kernel)
theorem dX12_rule_32 : decode cX12_rule 32 = .ok (.irem, 1) := dc0 dO_112 (by decide +kernel)
theorem dX12_rule_33 : decode cX12_rule 33 = .ok (.istore 7, 2) := dcU1 dO_54 (by decide +kernel)
theorem dX12_rule_35 : decode cX12_rule 35 = .ok (.iload 7, 2) := dcU1 dO_21 (by decide +kernel)
theorem dX12_rule_37 : decode cX12_rule 37 = .ok (.iconst 1, 1) := dc0 dO_4 (by decide +kernel)
theorem dX12_rule_38 : decode cX12_rule 38 = .ok (.bipush 6, 2) := dcS1 dO_16 (by decide +kernel)
theorem dX12_rule_40 : decode cX12_rule 40 = .ok (.invokestatic 18, 3) := dcU2 dO_184 (by decide +kernel)
theorem dX12_rule_43 : decode cX12_rule 43 = .ok (.ifCond .eq 14, 3) := dcS2 dO_153 (by decide +kernel)
theorem dX12_rule_46 : decode cX12_rule 46 = .ok (.iload 4, 2) := dcU1 dO_21 (by decide +kernel)
theorem dX12_rule_48 : decode cX12_rule 48 = .ok (.iload 7, 2) := dcU1 dO_21 (by decide +kernel)
theorem dX12_rule_50 : decode cX12_rule 50 = .ok (.ishr, 1) := dc0 dO_122 (by decide +kernel)
theorem dX12_rule_51 : decode cX12_rule 51 = .ok (.iconst 1, 1) := dc0 dO_4 (by decide +kernel)
theorem dX12_rule_52 : decode cX12_rule 52 = .ok (.iand, 1) := dc0 dO_126 (by decide +kernel)
theorem dX12_rule_53 : decode cX12_rule 53 = .ok (.iconst 1, 1) := dc0 dO_4 (by decide +kernel)
theorem dX12_rule_54 : decode cX12_rule 54 = .ok (.if_icmp .ne 5, 3) := dcS2 dO_160 (by decide +kernel)
theorem dX12_rule_57 : decode cX12_rule 57 = .ok (.iconst (-1), 1) := dc0 dO_2 (by decide +kernel)
theorem dX12_rule_58 : decode cX12_rule 58 = .ok (.ireturn, 1) := dc0 dO_172 (by decide +kernel)
theorem dX12_rule_59 : decode cX12_rule 59 = .ok (.iload 4, 2) := dcU1 dO_21 (by decide +kernel)
theorem dX12_rule_61 : decode cX12_rule 61 = .ok (.iconst 1, 1) := dc0 dO_4 (by decide +kernel)
theorem dX12_rule_62 : decode cX12_rule 62 = .ok (.iload 7, 2) := dcU1 dO_21 (by decide +kernel)
theorem dX12_rule_64 : decode cX12_rule 64 = .ok (.ishl, 1) := dc0 dO_120 (by decide +kernel)
theorem dX12_rule_65 : decode cX12_rule 65 = .ok (.ior, 1) := dc0 dO_128 (by decide +kernel)
theorem dX12_rule_66 : decode cX12_rule 66 = .ok (.istore 4, 2) := dcU1 dO_54 (by decide +kernel)
theorem dX12_rule_68 : decode cX12_rule 68 = .ok (.iinc 5 1, 3) := dcI dO_132 (by decide +kernel)
theorem dX12_rule_71 : decode cX12_rule 71 = .ok (.iload 6, 2) := dcU1 dO_21 (by decide +kernel)
theorem dX12_rule_73 : decode cX12_rule 73 = .ok (.bipush 10, 2) := dcS1 dO_16 (by decide +kernel)
theorem dX12_rule_75 : decode cX12_rule 75 = .ok (.idiv, 1) := dc0 dO_108 (by decide +kernel)
theorem dX12_rule_76 : decode cX12_rule 76 = .ok (.istore 6, 2) := dcU1 dO_54 (by decide +kernel)
theorem dX12_rule_78 : decode cX12_rule 78 = .ok (.goto (-55), 3) := dcS2 dO_167 (by decide +kernel)
theorem dX12_rule_81 : decode cX12_rule 81 = .ok (.iconst 0, 1) := dc0 dO_3 (by decide +kernel)
theorem dX12_rule_82 : decode cX12_rule 82 = .ok (.istore 6, 2) := dcU1 dO_54 (by decide +kernel)
theorem dX12_rule_84 : decode cX12_rule 84 = .ok (.iload 6, 2) := dcU1 dO_21 (by decide +kernel)
theorem dX12_rule_86 : decode cX12_rule 86 = .ok (.bipush 6, 2) := dcS1 dO_16 (by decide +kernel)
theorem dX12_rule_88 : decode cX12_rule 88 = .ok (.if_icmp .ge 22, 3) := dcS2 dO_162 (by decide +kernel)
theorem dX12_rule_91 : decode cX12_rule 91 = .ok (.aload_n 0, 1) := dc0 dO_42 (by decide +kernel)
theorem dX12_rule_92 : decode cX12_rule 92 = .ok (.getfield 451, 3) := dcU2 dO_180 (by decide +kernel)
theorem dX12_rule_95 : decode cX12_rule 95 = .ok (.bipush 6, 2) := dcS1 dO_16 (by decide +kernel)
theorem dX12_rule_97 : decode cX12_rule 97 = .ok (.iload_n 1, 1) := dc0 dO_27 (by decide +kernel)
theorem dX12_rule_98 : decode cX12_rule 98 = .ok (.imul, 1) := dc0 dO_104 (by decide +kernel)
theorem dX12_rule_99 : decode cX12_rule 99 = .ok (.iload 6, 2) := dcU1 dO_21 (by decide +kernel)
theorem dX12_rule_101 : decode cX12_rule 101 = .ok (.iadd, 1) := dc0 dO_96 (by decide +kernel)
theorem dX12_rule_102 : decode cX12_rule 102 = .ok (.iconst 0, 1) := dc0 dO_3 (by decide +kernel)
theorem dX12_rule_103 : decode cX12_rule 103 = .ok (.iastore, 1) := dc0 dO_79 (by decide +kernel)
theorem dX12_rule_104 : decode cX12_rule 104 = .ok (.iinc 6 1, 3) := dcI dO_132 (by decide +kernel)
theorem dX12_rule_107 : decode cX12_rule 107 = .ok (.goto (-23), 3) := dcS2 dO_167 (by decide +kernel)
theorem dX12_rule_110 : decode cX12_rule 110 = .ok (.iload_n 2, 1) := dc0 dO_28 (by decide +kernel)
theorem dX12_rule_111 : decode cX12_rule 111 = .ok (.istore 6, 2) := dcU1 dO_54 (by decide +kernel)
theorem dX12_rule_113 : decode cX12_rule 113 = .ok (.iload 5, 2) := dcU1 dO_21 (by decide +kernel)
theorem dX12_rule_115 : decode cX12_rule 115 = .ok (.iconst 1, 1) := dc0 dO_4 (by decide +kernel)
theorem dX12_rule_116 : decode cX12_rule 116 = .ok (.isub, 1) := dc0 dO_100 (by decide +kernel)
theorem dX12_rule_117 : decode cX12_rule 117 = .ok (.istore 7, 2) := dcU1 dO_54 (by decide +kernel)
theorem dX12_rule_119 : decode cX12_rule 119 = .ok (.iload 7, 2) := dcU1 dO_21 (by decide +kernel)
theorem dX12_rule_121 : decode cX12_rule 121 = .ok (.ifCond .lt 33, 3) := dcS2 dO_155 (by decide +kernel)
theorem dX12_rule_124 : decode cX12_rule 124 = .ok (.aload_n 0, 1) := dc0 dO_42 (by decide +kernel)
theorem dX12_rule_125 : decode cX12_rule 125 = .ok (.getfield 451, 3) := dcU2 dO_180 (by decide +kernel)
theorem sfx_cX12_rule_128 : (cX12_rule.data.toList.drop 128).take 67 = [16, 6, 27, 104, 21, 7, 96, 21, 6, 16, 10, 112, 79, 21, 6, 16, 10, 108, 54, 6, 132, 7, 255, 167, 255, 224, 42, 180, 1, 198, 27, 29, 84, 42, 27, 182, 2, 88, 3, 172] := by decide +kernel
theorem dX12_rule_128 : decode cX12_rule 128 = .ok (.bipush 6, 2) := dcS1 dO_16 (rdS1.ch sfx_cX12_rule_128 0 rfl (by decide +kernel))
theorem dX12_rule_130 : decode cX12_rule 130 = .ok (.iload_n 1, 1) := dc0 dO_27 (rdB.ch sfx_cX12_rule_128 2 rfl (by decide +kernel))
theorem dX12_rule_131 : decode cX12_rule 131 = .ok (.imul, 1) := dc0 dO_104 (rdB.ch sfx_cX12_rule_128 3 rfl (by decide +kernel))
theorem dX12_rule_132 : decode cX12_rule 132 = .ok (.iload 7, 2) := dcU1 dO_21 (rdU1.ch sfx_cX12_rule_128 4 rfl (by decide +kernel))
theorem dX12_rule_134 : decode cX12_rule 134 = .ok (.iadd, 1) := dc0 dO_96 (rdB.ch sfx_cX12_rule_128 6 rfl (by decide +kernel))
theorem dX12_rule_135 : decode cX12_rule 135 = .ok (.iload 6, 2) := dcU1 dO_21 (rdU1.ch sfx_cX12_rule_128 7 rfl (by decide +kernel))
theorem dX12_rule_137 : decode cX12_rule 137 = .ok (.bipush 10, 2) := dcS1 dO_16 (rdS1.ch sfx_cX12_rule_128 9 rfl (by decide +kernel))
theorem dX12_rule_139 : decode cX12_rule 139 = .ok (.irem, 1) := dc0 dO_112 (rdB.ch sfx_cX12_rule_128 11 rfl (by decide +kernel))
theorem dX12_rule_140 : decode cX12_rule 140 = .ok (.iastore, 1) := dc0 dO_79 (rdB.ch sfx_cX12_rule_128 12 rfl (by decide +kernel))
theorem dX12_rule_141 : decode cX12_rule 141 = .ok (.iload 6, 2) := dcU1 dO_21 (rdU1.ch sfx_cX12_rule_128 13 rfl (by decide +kernel))
theorem dX12_rule_143 : decode cX12_rule 143 = .ok (.bipush 10, 2) := dcS1 dO_16 (rdS1.ch sfx_cX12_rule_128 15 rfl (by decide +kernel))
theorem dX12_rule_145 : decode cX12_rule 145 = .ok (.idiv, 1) := dc0 dO_108 (rdB.ch sfx_cX12_rule_128 17 rfl (by decide +kernel))
theorem dX12_rule_146 : decode cX12_rule 146 = .ok (.istore 6, 2) := dcU1 dO_54 (rdU1.ch sfx_cX12_rule_128 18 rfl (by decide +kernel))
theorem dX12_rule_148 : decode cX12_rule 148 = .ok (.iinc 7 (-1), 3) := dcI dO_132 (rdI.ch sfx_cX12_rule_128 20 rfl (by decide +kernel))
theorem dX12_rule_151 : decode cX12_rule 151 = .ok (.goto (-32), 3) := dcS2 dO_167 (rdS2.ch sfx_cX12_rule_128 23 rfl (by decide +kernel))
theorem dX12_rule_154 : decode cX12_rule 154 = .ok (.aload_n 0, 1) := dc0 dO_42 (rdB.ch sfx_cX12_rule_128 26 rfl (by decide +kernel))
theorem dX12_rule_155 : decode cX12_rule 155 = .ok (.getfield 454, 3) := dcU2 dO_180 (rdU2.ch sfx_cX12_rule_128 27 rfl (by decide +kernel))
theorem dX12_rule_158 : decode cX12_rule 158 = .ok (.iload_n 1, 1) := dc0 dO_27 (rdB.ch sfx_cX12_rule_128 30 rfl (by decide +kernel))
theorem dX12_rule_159 : decode cX12_rule 159 = .ok (.iload_n 3, 1) := dc0 dO_29 (rdB.ch sfx_cX12_rule_128 31 rfl (by decide +kernel))
theorem dX12_rule_160 : decode cX12_rule 160 = .ok (.bastore, 1) := dc0 dO_84 (rdB.ch sfx_cX12_rule_128 32 rfl (by decide +kernel))
theorem dX12_rule_161 : decode cX12_rule 161 = .ok (.aload_n 0, 1) := dc0 dO_42 (rdB.ch sfx_cX12_rule_128 33 rfl (by decide +kernel))
theorem dX12_rule_162 : decode cX12_rule 162 = .ok (.iload_n 1, 1) := dc0 dO_27 (rdB.ch sfx_cX12_rule_128 34 rfl (by decide +kernel))
theorem dX12_rule_163 : decode cX12_rule 163 = .ok (.invokevirtual 600, 3) := dcU2 dO_182 (rdU2.ch sfx_cX12_rule_128 35 rfl (by decide +kernel))
theorem dX12_rule_166 : decode cX12_rule 166 = .ok (.iconst 0, 1) := dc0 dO_3 (rdB.ch sfx_cX12_rule_128 38 rfl (by decide +kernel))
theorem dX12_rule_167 : decode cX12_rule 167 = .ok (.ireturn, 1) := dc0 dO_172 (rdB.ch sfx_cX12_rule_128 39 rfl (by decide +kernel))
theorem dX12_three_0 : decode cX12_three 0 = .ok (.aload_n 0, 1) := dc0 dO_42 (by decide +kernel)
theorem dX12_three_1 : decode cX12_three 1 = .ok (.iload_n 1, 1) := dc0 dO_27 (by decide +kernel)
theorem dX12_three_2 : decode cX12_three 2 = .ok (.invokevirtual 49, 3) := dcU2 dO_182 (by decide +kernel)
theorem dX12_three_5 : decode cX12_three 5 = .ok (.ifCond .eq 11, 3) := dcS2 dO_153 (by decide +kernel)
theorem dX12_three_8 : decode cX12_three 8 = .ok (.aload_n 0, 1) := dc0 dO_42 (by decide +kernel)
theorem dX12_three_9 : decode cX12_three 9 = .ok (.iload_n 2, 1) := dc0 dO_28 (by decide +kernel)
theorem dX12_three_10 : decode cX12_three 10 = .ok (.invokevirtual 92, 3) := dcU2 dO_182 (by decide +kernel)
theorem dX12_three_13 : decode cX12_three 13 = .ok (.ifCond .ne 5, 3) := dcS2 dO_154 (by decide +kernel)
theorem dX12_three_16 : decode cX12_three 16 = .ok (.iconst (-1), 1) := dc0 dO_2 (by decide +kernel)
theorem dX12_three_17 : decode cX12_three 17 = .ok (.ireturn, 1) := dc0 dO_172 (by decide +kernel)
theorem dX12_three_18 : decode cX12_three 18 = .ok (.aload_n 0, 1) := dc0 dO_42 (by decide +kernel)
theorem dX12_three_19 : decode cX12_three 19 = .ok (.getfield 448, 3) := dcU2 dO_180 (by decide +kernel)
theorem dX12_three_22 : decode cX12_three 22 = .ok (.bipush 10, 2) := dcS1 dO_16 (by decide +kernel)
theorem dX12_three_24 : decode cX12_three 24 = .ok (.iload_n 1, 1) := dc0 dO_27 (by decide +kernel)
theorem dX12_three_25 : decode cX12_three 25 = .ok (.imul, 1) := dc0 dO_104 (by decide +kernel)
theorem dX12_three_26 : decode cX12_three 26 = .ok (.iload_n 2, 1) := dc0 dO_28 (by decide +kernel)
theorem dX12_three_27 : decode cX12_three 27 = .ok (.iadd, 1) := dc0 dO_96 (by decide +kernel)
theorem dX12_three_28 : decode cX12_three 28 = .ok (.iaload, 1) := dc0 dO_46 (by decide +kernel)
theorem dX12_three_29 : decode cX12_three 29 = .ok (.ifCond .ge 12, 3) := dcS2 dO_156 (by decide +kernel)
theorem dX12_three_32 : decode cX12_three 32 = .ok (.iload_n 3, 1) := dc0 dO_29 (by decide +kernel)
theorem dX12_three_33 : decode cX12_three 33 = .ok (.iconst 0, 1) := dc0 dO_3 (by decide +kernel)
theorem dX12_three_34 : decode cX12_three 34 = .ok (.iconst 2, 1) := dc0 dO_5 (by decide +kernel)
theorem dX12_three_35 : decode cX12_three 35 = .ok (.invokestatic 18, 3) := dcU2 dO_184 (by decide +kernel)
theorem dX12_three_38 : decode cX12_three 38 = .ok (.ifCond .ne 6, 3) := dcS2 dO_154 (by decide +kernel)
theorem dX12_three_41 : decode cX12_three 41 = .ok (.ldc 29, 2) := dcU1 dO_18 (by decide +kernel)
theorem dX12_three_43 : decode cX12_three 43 = .ok (.ireturn, 1) := dc0 dO_172 (by decide +kernel)
theorem dX12_three_44 : decode cX12_three 44 = .ok (.aload_n 0, 1) := dc0 dO_42 (by decide +kernel)
theorem dX12_three_45 : decode cX12_three 45 = .ok (.iload_n 1, 1) := dc0 dO_27 (by decide +kernel)
theorem dX12_three_46 : decode cX12_three 46 = .ok (.iload_n 2, 1) := dc0 dO_28 (by decide +kernel)
theorem dX12_three_47 : decode cX12_three 47 = .ok (.invokevirtual 572, 3) := dcU2 dO_182 (by decide +kernel)
theorem dX12_three_50 : decode cX12_three 50 = .ok (.iconst 0, 1) := dc0 dO_3 (by decide +kernel)
theorem dX12_three_51 : decode cX12_three 51 = .ok (.istore 4, 2) := dcU1 dO_54 (by decide +kernel)
theorem dX12_three_53 : decode cX12_three 53 = .ok (.iload 4, 2) := dcU1 dO_21 (by decide +kernel)
theorem dX12_three_55 : decode cX12_three 55 = .ok (.aload_n 0, 1) := dc0 dO_42 (by decide +kernel)
theorem dX12_three_56 : decode cX12_three 56 = .ok (.getfield 37, 3) := dcU2 dO_180 (by decide +kernel)
theorem dX12_three_59 : decode cX12_three 59 = .ok (.if_icmp .ge 166, 3) := dcS2 dO_162 (by decide +kernel)
theorem dX12_three_62 : decode cX12_three 62 = .ok (.iconst 0, 1) := dc0 dO_3 (by decide +kernel)
theorem dX12_three_63 : decode cX12_three 63 = .ok (.istore 5, 2) := dcU1 dO_54 (by decide +kernel)
theorem dX12_three_65 : decode cX12_three 65 = .ok (.iload 5, 2) := dcU1 dO_21 (by decide +kernel)
theorem dX12_three_67 : decode cX12_three 67 = .ok (.aload_n 0, 1) := dc0 dO_42 (by decide +kernel)
theorem dX12_three_68 : decode cX12_three 68 = .ok (.getfield 37, 3) := dcU2 dO_180 (by decide +kernel)
theorem dX12_three_71 : decode cX12_three 71 = .ok (.if_icmp .ge 148, 3) := dcS2 dO_162 (by decide +kernel)
theorem dX12_three_74 : decode cX12_three 74 = .ok (.aload_n 0, 1) := dc0 dO_42 (by decide +kernel)
theorem dX12_three_75 : decode cX12_three 75 = .ok (.iconst 4, 1) := dc0 dO_7 (by decide +kernel)
theorem dX12_three_76 : decode cX12_three 76 = .ok (.iload 4, 2) := dcU1 dO_21 (by decide +kernel)
theorem dX12_three_78 : decode cX12_three 78 = .ok (.iadd, 1) := dc0 dO_96 (by decide +kernel)
theorem dX12_three_79 : decode cX12_three 79 = .ok (.invokevirtual 151, 3) := dcU2 dO_182 (by decide +kernel)
theorem dX12_three_82 : decode cX12_three 82 = .ok (.ifCond .eq 137, 3) := dcS2 dO_153 (by decide +kernel)
theorem dX12_three_85 : decode cX12_three 85 = .ok (.iload 5, 2) := dcU1 dO_21 (by decide +kernel)
theorem dX12_three_87 : decode cX12_three 87 = .ok (.iload 4, 2) := dcU1 dO_21 (by decide +kernel)
theorem dX12_three_89 : decode cX12_three 89 = .ok (.if_icmp .eq 124, 3) := dcS2 dO_159 (by decide +kernel)
theorem dX12_three_92 : decode cX12_three 92 = .ok (.aload_n 0, 1) := dc0 dO_42 (by decide +kernel)
theorem dX12_three_93 : decode cX12_three 93 = .ok (.iconst 4, 1) := dc0 dO_7 (by decide +kernel)
theorem dX12_three_94 : decode cX12_three 94 = .ok (.iload 5, 2) := dcU1 dO_21 (by decide +kernel)
theorem dX12_three_96 : decode cX12_three 96 = .ok (.iadd, 1) := dc0 dO_96 (by decide +kernel)
theorem dX12_three_97 : decode cX12_three 97 = .ok (.invokevirtual 151, 3) := dcU2 dO_182 (by decide +kernel)
theorem dX12_three_100 : decode cX12_three 100 = .ok (.ifCond .eq 113, 3) := dcS2 dO_153 (by decide +kernel)
theorem dX12_three_103 : decode cX12_three 103 = .ok (.aload_n 0, 1) := dc0 dO_42 (by decide +kernel)
theorem dX12_three_104 : decode cX12_three 104 = .ok (.iload_n 1, 1) := dc0 dO_27 (by decide +kernel)
theorem dX12_three_105 : decode cX12_three 105 = .ok (.iload 4, 2) := dcU1 dO_21 (by decide +kernel)
theorem dX12_three_107 : decode cX12_three 107 = .ok (.iload 5, 2) := dcU1 dO_21 (by decide +kernel)
theorem dX12_three_109 : decode cX12_three 109 = .ok (.iload_n 2, 1) := dc0 dO_28 (by decide +kernel)
theorem dX12_three_110 : decode cX12_three 110 = .ok (.invokevirtual 568, 3) := dcU2 dO_182 (by decide +kernel)
theorem dX12_three_113 : decode cX12_three 113 = .ok (.ifCond .ne 6, 3) := dcS2 dO_154 (by decide +kernel)
theorem dX12_three_116 : decode cX12_three 116 = .ok (.goto 97, 3) := dcS2 dO_167 (by decide +kernel)
theorem dX12_three_119 : decode cX12_three 119 = .ok (.iconst 0, 1) := dc0 dO_3 (by decide +kernel)
theorem dX12_three_120 : decode cX12_three 120 = .ok (.istore 6, 2) := dcU1 dO_54 (by decide +kernel)
theorem dX12_three_122 : decode cX12_three 122 = .ok (.iload 6, 2) := dcU1 dO_21 (by decide +kernel)
theorem dX12_three_124 : decode cX12_three 124 = .ok (.aload_n 0, 1) := dc0 dO_42 (by decide +kernel)
theorem dX12_three_125 : decode cX12_three 125 = .ok (.getfield 37, 3) := dcU2 dO_180 (by decide +kernel)
theorem sfx_cX12_three_128 : (cX12_three.data.toList.drop 128).take 67 = [162, 0, 85, 21, 6, 21, 4, 159, 0, 72, 21, 6, 21, 5, 159, 0, 65, 42, 7, 21, 6, 96, 182, 0, 151, 154, 0, 6, 167, 0, 51, 42, 27, 21, 5, 21, 6, 28, 182, 2, 56, 153, 0, 38, 42, 27, 21, 6, 21, 4, 28, 182, 2, 56, 153, 0, 25, 29, 154, 0, 8, 21, 4, 167, 0, 15, 29] := by decide +kernel
theorem dX12_three_128 : decode cX12_three 128 = .ok (.if_icmp .ge 85, 3) := dcS2 dO_162 (rdS2.ch sfx_cX12_three_128 0 rfl (by decide +kernel))
theorem dX12_three_131 : decode cX12_three 131 = .ok (.iload 6, 2) := dcU1 dO_21 (rdU1.ch sfx_cX12_three_128 3 rfl (by decide +kernel))
theorem dX12_three_133 : decode cX12_three 133 = .ok (.iload 4, 2) := dcU1 dO_21 (rdU1.ch sfx_cX12_three_128 5 rfl (by decide +kernel))
theorem dX12_three_135 : decode cX12_three 135 = .ok (.if_icmp .eq 72, 3) := dcS2 dO_159 (rdS2.ch sfx_cX12_three_128 7 rfl (by decide +kernel))
theorem dX12_three_138 : decode cX12_three 138 = .ok (.iload 6, 2) := dcU1 dO_21 (rdU1.ch sfx_cX12_three_128 10 rfl (by decide +kernel))
theorem dX12_three_140 : decode cX12_three 140 = .ok (.iload 5, 2) := dcU1 dO_21 (rdU1.ch sfx_cX12_three_128 12 rfl (by decide +kernel))
theorem dX12_three_142 : decode cX12_three 142 = .ok (.if_icmp .eq 65, 3) := dcS2 dO_159 (rdS2.ch sfx_cX12_three_128 14 rfl (by decide +kernel))
theorem dX12_three_145 : decode cX12_three 145 = .ok (.aload_n 0, 1) := dc0 dO_42 (rdB.ch sfx_cX12_three_128 17 rfl (by decide +kernel))
theorem dX12_three_146 : decode cX12_three 146 = .ok (.iconst 4, 1) := dc0 dO_7 (rdB.ch sfx_cX12_three_128 18 rfl (by decide +kernel))
theorem dX12_three_147 : decode cX12_three 147 = .ok (.iload 6, 2) := dcU1 dO_21 (rdU1.ch sfx_cX12_three_128 19 rfl (by decide +kernel))
theorem dX12_three_149 : decode cX12_three 149 = .ok (.iadd, 1) := dc0 dO_96 (rdB.ch sfx_cX12_three_128 21 rfl (by decide +kernel))
theorem dX12_three_150 : decode cX12_three 150 = .ok (.invokevirtual 151, 3) := dcU2 dO_182 (rdU2.ch sfx_cX12_three_128 22 rfl (by decide +kernel))
theorem dX12_three_153 : decode cX12_three 153 = .ok (.ifCond .ne 6, 3) := dcS2 dO_154 (rdS2.ch sfx_cX12_three_128 25 rfl (by decide +kernel))
theorem dX12_three_156 : decode cX12_three 156 = .ok (.goto 51, 3) := dcS2 dO_167 (rdS2.ch sfx_cX12_three_128 28 rfl (by decide +kernel))
theorem dX12_three_159 : decode cX12_three 159 = .ok (.aload_n 0, 1) := dc0 dO_42 (rdB.ch sfx_cX12_three_128 31 rfl (by decide +kernel))
theorem dX12_three_160 : decode cX12_three 160 = .ok (.iload_n 1, 1) := dc0 dO_27 (rdB.ch sfx_cX12_three_128 32 rfl (by decide +kernel))
theorem dX12_three_161 : decode cX12_three 161 = .ok (.iload 5, 2) := dcU1 dO_21 (rdU1.ch sfx_cX12_three_128 33 rfl (by decide +kernel))
theorem dX12_three_163 : decode cX12_three 163 = .ok (.iload 6, 2) := dcU1 dO_21 (rdU1.ch sfx_cX12_three_128 35 rfl (by decide +kernel))
theorem dX12_three_165 : decode cX12_three 165 = .ok (.iload_n 2, 1) := dc0 dO_28 (rdB.ch sfx_cX12_three_128 37 rfl (by decide +kernel))
theorem dX12_three_166 : decode cX12_three 166 = .ok (.invokevirtual 568, 3) := dcU2 dO_182 (rdU2.ch sfx_cX12_three_128 38 rfl (by decide +kernel))
theorem dX12_three_169 : decode cX12_three 169 = .ok (.ifCond .eq 38, 3) := dcS2 dO_153 (rdS2.ch sfx_cX12_three_128 41 rfl (by decide +kernel))
theorem dX12_three_172 : decode cX12_three 172 = .ok (.aload_n 0, 1) := dc0 dO_42 (rdB.ch sfx_cX12_three_128 44 rfl (by decide +kernel))
theorem dX12_three_173 : decode cX12_three 173 = .ok (.iload_n 1, 1) := dc0 dO_27 (rdB.ch sfx_cX12_three_128 45 rfl (by decide +kernel))
theorem dX12_three_174 : decode cX12_three 174 = .ok (.iload 6, 2) := dcU1 dO_21 (rdU1.ch sfx_cX12_three_128 46 rfl (by decide +kernel))
theorem dX12_three_176 : decode cX12_three 176 = .ok (.iload 4, 2) := dcU1 dO_21 (rdU1.ch sfx_cX12_three_128 48 rfl (by decide +kernel))
theorem dX12_three_178 : decode cX12_three 178 = .ok (.iload_n 2, 1) := dc0 dO_28 (rdB.ch sfx_cX12_three_128 50 rfl (by decide +kernel))
theorem dX12_three_179 : decode cX12_three 179 = .ok (.invokevirtual 568, 3) := dcU2 dO_182 (rdU2.ch sfx_cX12_three_128 51 rfl (by decide +kernel))
theorem dX12_three_182 : decode cX12_three 182 = .ok (.ifCond .eq 25, 3) := dcS2 dO_153 (rdS2.ch sfx_cX12_three_128 54 rfl (by decide +kernel))
theorem dX12_three_185 : decode cX12_three 185 = .ok (.iload_n 3, 1) := dc0 dO_29 (rdB.ch sfx_cX12_three_128 57 rfl (by decide +kernel))
theorem dX12_three_186 : decode cX12_three 186 = .ok (.ifCond .ne 8, 3) := dcS2 dO_154 (rdS2.ch sfx_cX12_three_128 58 rfl (by decide +kernel))
theorem dX12_three_189 : decode cX12_three 189 = .ok (.iload 4, 2) := dcU1 dO_21 (rdU1.ch sfx_cX12_three_128 61 rfl (by decide +kernel))
theorem dX12_three_191 : decode cX12_three 191 = .ok (.goto 15, 3) := dcS2 dO_167 (rdS2.ch sfx_cX12_three_128 63 rfl (by decide +kernel))
theorem sfx_cX12_three_192 : (cX12_three.data.toList.drop 192).take 67 = [0, 15, 29, 4, 160, 0, 8, 21, 5, 167, 0, 5, 21, 6, 172, 132, 6, 1, 167, 255, 168, 132, 5, 1, 167, 255, 105, 132, 4, 1, 167, 255, 87, 18, 29, 172] := by decide +kernel
theorem dX12_three_194 : decode cX12_three 194 = .ok (.iload_n 3, 1) := dc0 dO_29 (rdB.ch sfx_cX12_three_192 2 rfl (by decide +kernel))
theorem dX12_three_195 : decode cX12_three 195 = .ok (.iconst 1, 1) := dc0 dO_4 (rdB.ch sfx_cX12_three_192 3 rfl (by decide +kernel))
theorem dX12_three_196 : decode cX12_three 196 = .ok (.if_icmp .ne 8, 3) := dcS2 dO_160 (rdS2.ch sfx_cX12_three_192 4 rfl (by decide +kernel))
theorem dX12_three_199 : decode cX12_three 199 = .ok (.iload 5, 2) := dcU1 dO_21 (rdU1.ch sfx_cX12_three_192 7 rfl (by decide +kernel))
theorem dX12_three_201 : decode cX12_three 201 = .ok (.goto 5, 3) := dcS2 dO_167 (rdS2.ch sfx_cX12_three_192 9 rfl (by decide +kernel))
theorem dX12_three_204 : decode cX12_three 204 = .ok (.iload 6, 2) := dcU1 dO_21 (rdU1.ch sfx_cX12_three_192 12 rfl (by decide +kernel))
theorem dX12_three_206 : decode cX12_three 206 = .ok (.ireturn, 1) := dc0 dO_172 (rdB.ch sfx_cX12_three_192 14 rfl (by decide +kernel))
theorem dX12_three_207 : decode cX12_three 207 = .ok (.iinc 6 1, 3) := dcI dO_132 (rdI.ch sfx_cX12_three_192 15 rfl (by decide +kernel))
theorem dX12_three_210 : decode cX12_three 210 = .ok (.goto (-88), 3) := dcS2 dO_167 (rdS2.ch sfx_cX12_three_192 18 rfl (by decide +kernel))
theorem dX12_three_213 : decode cX12_three 213 = .ok (.iinc 5 1, 3) := dcI dO_132 (rdI.ch sfx_cX12_three_192 21 rfl (by decide +kernel))
theorem dX12_three_216 : decode cX12_three 216 = .ok (.goto (-151), 3) := dcS2 dO_167 (rdS2.ch sfx_cX12_three_192 24 rfl (by decide +kernel))
theorem dX12_three_219 : decode cX12_three 219 = .ok (.iinc 4 1, 3) := dcI dO_132 (rdI.ch sfx_cX12_three_192 27 rfl (by decide +kernel))
theorem dX12_three_222 : decode cX12_three 222 = .ok (.goto (-169), 3) := dcS2 dO_167 (rdS2.ch sfx_cX12_three_192 30 rfl (by decide +kernel))
theorem dX12_three_225 : decode cX12_three 225 = .ok (.ldc 29, 2) := dcU1 dO_18 (rdU1.ch sfx_cX12_three_192 33 rfl (by decide +kernel))
theorem dX12_three_227 : decode cX12_three 227 = .ok (.ireturn, 1) := dc0 dO_172 (rdB.ch sfx_cX12_three_192 35 rfl (by decide +kernel))
theorem dX12_units_0 : decode cX12_units 0 = .ok (.iload_n 1, 1) := dc0 dO_27 (by decide +kernel)
theorem dX12_units_1 : decode cX12_units 1 = .ok (.iconst 0, 1) := dc0 dO_3 (by decide +kernel)
theorem dX12_units_2 : decode cX12_units 2 = .ok (.iconst 2, 1) := dc0 dO_5 (by decide +kernel)
theorem dX12_units_3 : decode cX12_units 3 = .ok (.invokestatic 18, 3) := dcU2 dO_184 (by decide +kernel)
theorem dX12_units_6 : decode cX12_units 6 = .ok (.ifCond .ne 5, 3) := dcS2 dO_154 (by decide +kernel)
theorem dX12_units_9 : decode cX12_units 9 = .ok (.iconst (-1), 1) := dc0 dO_2 (by decide +kernel)
theorem dX12_units_10 : decode cX12_units 10 = .ok (.ireturn, 1) := dc0 dO_172 (by decide +kernel)
theorem dX12_units_11 : decode cX12_units 11 = .ok (.iconst 0, 1) := dc0 dO_3 (by decide +kernel)
theorem dX12_units_12 : decode cX12_units 12 = .ok (.istore_n 2, 1) := dc0 dO_61 (by decide +kernel)
theorem dX12_units_13 : decode cX12_units 13 = .ok (.iconst 0, 1) := dc0 dO_3 (by decide +kernel)
theorem dX12_units_14 : decode cX12_units 14 = .ok (.istore_n 3, 1) := dc0 dO_62 (by decide +kernel)
theorem dX12_units_15 : decode cX12_units 15 = .ok (.iload_n 3, 1) := dc0 dO_29 (by decide +kernel)
theorem dX12_units_16 : decode cX12_units 16 = .ok (.aload_n 0, 1) := dc0 dO_42 (by decide +kernel)
theorem dX12_units_17 : decode cX12_units 17 = .ok (.getfield 695, 3) := dcU2 dO_180 (by decide +kernel)
theorem dX12_units_20 : decode cX12_units 20 = .ok (.if_icmp .ge 42, 3) := dcS2 dO_162 (by decide +kernel)
theorem dX12_units_23 : decode cX12_units 23 = .ok (.iload_n 2, 1) := dc0 dO_28 (by decide +kernel)
theorem dX12_units_24 : decode cX12_units 24 = .ok (.aload_n 0, 1) := dc0 dO_42 (by decide +kernel)
theorem dX12_units_25 : decode cX12_units 25 = .ok (.aload_n 0, 1) := dc0 dO_42 (by decide +kernel)
theorem dX12_units_26 : decode cX12_units 26 = .ok (.getfield 493, 3) := dcU2 dO_180 (by decide +kernel)
theorem dX12_units_29 : decode cX12_units 29 = .ok (.iload_n 3, 1) := dc0 dO_29 (by decide +kernel)
theorem dX12_units_30 : decode cX12_units 30 = .ok (.iaload, 1) := dc0 dO_46 (by decide +kernel)
theorem dX12_units_31 : decode cX12_units 31 = .ok (.aload_n 0, 1) := dc0 dO_42 (by decide +kernel)
theorem dX12_units_32 : decode cX12_units 32 = .ok (.getfield 496, 3) := dcU2 dO_180 (by decide +kernel)
theorem dX12_units_35 : decode cX12_units 35 = .ok (.iload_n 3, 1) := dc0 dO_29 (by decide +kernel)
theorem dX12_units_36 : decode cX12_units 36 = .ok (.iaload, 1) := dc0 dO_46 (by decide +kernel)
theorem dX12_units_37 : decode cX12_units 37 = .ok (.invokevirtual 689, 3) := dcU2 dO_182 (by decide +kernel)
theorem dX12_units_40 : decode cX12_units 40 = .ok (.iload_n 1, 1) := dc0 dO_27 (by decide +kernel)
theorem dX12_units_41 : decode cX12_units 41 = .ok (.if_icmp .ne 12, 3) := dcS2 dO_160 (by decide +kernel)
theorem dX12_units_44 : decode cX12_units 44 = .ok (.aload_n 0, 1) := dc0 dO_42 (by decide +kernel)
theorem dX12_units_45 : decode cX12_units 45 = .ok (.getfield 499, 3) := dcU2 dO_180 (by decide +kernel)
theorem dX12_units_48 : decode cX12_units 48 = .ok (.iload_n 3, 1) := dc0 dO_29 (by decide +kernel)
theorem dX12_units_49 : decode cX12_units 49 = .ok (.iaload, 1) := dc0 dO_46 (by decide +kernel)
theorem dX12_units_50 : decode cX12_units 50 = .ok (.goto 4, 3) := dcS2 dO_167 (by decide +kernel)
theorem dX12_units_53 : decode cX12_units 53 = .ok (.iconst 0, 1) := dc0 dO_3 (by decide +kernel)
theorem dX12_units_54 : decode cX12_units 54 = .ok (.iadd, 1) := dc0 dO_96 (by decide +kernel)
theorem dX12_units_55 : decode cX12_units 55 = .ok (.istore_n 2, 1) := dc0 dO_61 (by decide +kernel)
theorem dX12_units_56 : decode cX12_units 56 = .ok (.iinc 3 1, 3) := dcI dO_132 (by decide +kernel)
theorem dX12_units_59 : decode cX12_units 59 = .ok (.goto (-44), 3) := dcS2 dO_167 (by decide +kernel)
theorem dX12_units_62 : decode cX12_units 62 = .ok (.iload_n 2, 1) := dc0 dO_28 (by decide +kernel)
theorem dX12_units_63 : decode cX12_units 63 = .ok (.ireturn, 1) := dc0 dO_172 (by decide +kernel)
theorem dX12_until_0 : decode cX12_until 0 = .ok (.iload_n 1, 1) := dc0 dO_27 (by decide +kernel)
theorem dX12_until_1 : decode cX12_until 1 = .ok (.aload_n 0, 1) := dc0 dO_42 (by decide +kernel)
theorem dX12_until_2 : decode cX12_until 2 = .ok (.getfield 591, 3) := dcU2 dO_180 (by decide +kernel)
theorem dX12_until_5 : decode cX12_until 5 = .ok (.if_icmp .lt 10, 3) := dcS2 dO_161 (by decide +kernel)
theorem dX12_until_8 : decode cX12_until 8 = .ok (.iload_n 1, 1) := dc0 dO_27 (by decide +kernel)
theorem dX12_until_9 : decode cX12_until 9 = .ok (.ldc_w 619, 3) := dcU2 dO_19 (by decide +kernel)
theorem dX12_until_12 : decode cX12_until 12 = .ok (.if_icmp .le 5, 3) := dcS2 dO_164 (by decide +kernel)
theorem dX12_until_15 : decode cX12_until 15 = .ok (.iconst (-1), 1) := dc0 dO_2 (by decide +kernel)
theorem dX12_until_16 : decode cX12_until 16 = .ok (.ireturn, 1) := dc0 dO_172 (by decide +kernel)
theorem dX12_until_17 : decode cX12_until 17 = .ok (.iconst 0, 1) := dc0 dO_3 (by decide +kernel)
theorem dX12_until_18 : decode cX12_until 18 = .ok (.istore_n 2, 1) := dc0 dO_61 (by decide +kernel)
theorem dX12_until_19 : decode cX12_until 19 = .ok (.aload_n 0, 1) := dc0 dO_42 (by decide +kernel)
theorem dX12_until_20 : decode cX12_until 20 = .ok (.invokevirtual 613, 3) := dcU2 dO_182 (by decide +kernel)
theorem dX12_until_23 : decode cX12_until 23 = .ok (.istore_n 3, 1) := dc0 dO_62 (by decide +kernel)
theorem dX12_until_24 : decode cX12_until 24 = .ok (.iload_n 2, 1) := dc0 dO_28 (by decide +kernel)
theorem dX12_until_25 : decode cX12_until 25 = .ok (.sipush 500, 3) := dcS2 dO_17 (by decide +kernel)
theorem dX12_until_28 : decode cX12_until 28 = .ok (.if_icmp .ge 34, 3) := dcS2 dO_162 (by decide +kernel)
theorem dX12_until_31 : decode cX12_until 31 = .ok (.iload_n 3, 1) := dc0 dO_29 (by decide +kernel)
theorem dX12_until_32 : decode cX12_until 32 = .ok (.ldc 29, 2) := dcU1 dO_18 (by decide +kernel)
theorem dX12_until_34 : decode cX12_until 34 = .ok (.if_icmp .eq 28, 3) := dcS2 dO_159 (by decide +kernel)
theorem dX12_until_37 : decode cX12_until 37 = .ok (.aload_n 0, 1) := dc0 dO_42 (by decide +kernel)
theorem dX12_until_38 : decode cX12_until 38 = .ok (.iload_n 3, 1) := dc0 dO_29 (by decide +kernel)
theorem dX12_until_39 : decode cX12_until 39 = .ok (.invokevirtual 607, 3) := dcU2 dO_182 (by decide +kernel)
theorem dX12_until_42 : decode cX12_until 42 = .ok (.iload_n 1, 1) := dc0 dO_27 (by decide +kernel)
theorem dX12_until_43 : decode cX12_until 43 = .ok (.if_icmp .gt 19, 3) := dcS2 dO_163 (by decide +kernel)
theorem dX12_until_46 : decode cX12_until 46 = .ok (.aload_n 0, 1) := dc0 dO_42 (by decide +kernel)
theorem dX12_until_47 : decode cX12_until 47 = .ok (.iload_n 3, 1) := dc0 dO_29 (by decide +kernel)
theorem dX12_until_48 : decode cX12_until 48 = .ok (.invokevirtual 616, 3) := dcU2 dO_182 (by decide +kernel)
theorem dX12_until_51 : decode cX12_until 51 = .ok (.iinc 2 1, 3) := dcI dO_132 (by decide +kernel)
theorem dX12_until_54 : decode cX12_until 54 = .ok (.aload_n 0, 1) := dc0 dO_42 (by decide +kernel)
theorem dX12_until_55 : decode cX12_until 55 = .ok (.invokevirtual 613, 3) := dcU2 dO_182 (by decide +kernel)
theorem dX12_until_58 : decode cX12_until 58 = .ok (.istore_n 3, 1) := dc0 dO_62 (by decide +kernel)
theorem dX12_until_59 : decode cX12_until 59 = .ok (.goto (-35), 3) := dcS2 dO_167 (by decide +kernel)
theorem dX12_until_62 : decode cX12_until 62 = .ok (.iload_n 3, 1) := dc0 dO_29 (by decide +kernel)
theorem dX12_until_63 : decode cX12_until 63 = .ok (.ldc 29, 2) := dcU1 dO_18 (by decide +kernel)
theorem dX12_until_65 : decode cX12_until 65 = .ok (.if_icmp .eq 12, 3) := dcS2 dO_159 (by decide +kernel)
theorem dX12_until_68 : decode cX12_until 68 = .ok (.aload_n 0, 1) := dc0 dO_42 (by decide +kernel)
theorem dX12_until_69 : decode cX12_until 69 = .ok (.iload_n 3, 1) := dc0 dO_29 (by decide +kernel)
theorem dX12_until_70 : decode cX12_until 70 = .ok (.invokevirtual 607, 3) := dcU2 dO_182 (by decide +kernel)
theorem dX12_until_73 : decode cX12_until 73 = .ok (.iload_n 1, 1) := dc0 dO_27 (by decide +kernel)
theorem dX12_until_74 : decode cX12_until 74 = .ok (.if_icmp .le 8, 3) := dcS2 dO_164 (by decide +kernel)
theorem dX12_until_77 : decode cX12_until 77 = .ok (.aload_n 0, 1) := dc0 dO_42 (by decide +kernel)
theorem dX12_until_78 : decode cX12_until 78 = .ok (.iload_n 1, 1) := dc0 dO_27 (by decide +kernel)
theorem dX12_until_79 : decode cX12_until 79 = .ok (.putfield 591, 3) := dcU2 dO_181 (by decide +kernel)
theorem dX12_until_82 : decode cX12_until 82 = .ok (.iload_n 2, 1) := dc0 dO_28 (by decide +kernel)
theorem dX12_until_83 : decode cX12_until 83 = .ok (.ireturn, 1) := dc0 dO_172 (by decide +kernel)
theorem dX12_wish_0 : decode cX12_wish 0 = .ok (.aload_n 0, 1) := dc0 dO_42 (by decide +kernel)
theorem dX12_wish_1 : decode cX12_wish 1 = .ok (.getfield 79, 3) := dcU2 dO_180 (by decide +kernel)
theorem dX12_wish_4 : decode cX12_wish 4 = .ok (.iconst 2, 1) := dc0 dO_5 (by decide +kernel)
theorem dX12_wish_5 : decode cX12_wish 5 = .ok (.if_icmp .lt 39, 3) := dcS2 dO_161 (by decide +kernel)
theorem dX12_wish_8 : decode cX12_wish 8 = .ok (.aload_n 0, 1) := dc0 dO_42 (by decide +kernel)
theorem dX12_wish_9 : decode cX12_wish 9 = .ok (.getfield 79, 3) := dcU2 dO_180 (by decide +kernel)
theorem dX12_wish_12 : decode cX12_wish 12 = .ok (.bipush 7, 2) := dcS1 dO_16 (by decide +kernel)
theorem dX12_wish_14 : decode cX12_wish 14 = .ok (.if_icmp .gt 30, 3) := dcS2 dO_163 (by decide +kernel)
theorem dX12_wish_17 : decode cX12_wish 17 = .ok (.aload_n 0, 1) := dc0 dO_42 (by decide +kernel)
theorem dX12_wish_18 : decode cX12_wish 18 = .ok (.getfield 82, 3) := dcU2 dO_180 (by decide +kernel)
theorem dX12_wish_21 : decode cX12_wish 21 = .ok (.iconst 0, 1) := dc0 dO_3 (by decide +kernel)
theorem dX12_wish_22 : decode cX12_wish 22 = .ok (.iaload, 1) := dc0 dO_46 (by decide +kernel)
theorem dX12_wish_23 : decode cX12_wish 23 = .ok (.ifCond .eq 21, 3) := dcS2 dO_153 (by decide +kernel)
theorem dX12_wish_26 : decode cX12_wish 26 = .ok (.aload_n 0, 1) := dc0 dO_42 (by decide +kernel)
theorem dX12_wish_27 : decode cX12_wish 27 = .ok (.getfield 82, 3) := dcU2 dO_180 (by decide +kernel)
theorem dX12_wish_30 : decode cX12_wish 30 = .ok (.aload_n 0, 1) := dc0 dO_42 (by decide +kernel)
theorem dX12_wish_31 : decode cX12_wish 31 = .ok (.getfield 79, 3) := dcU2 dO_180 (by decide +kernel)
theorem dX12_wish_34 : decode cX12_wish 34 = .ok (.iconst 1, 1) := dc0 dO_4 (by decide +kernel)
theorem dX12_wish_35 : decode cX12_wish 35 = .ok (.isub, 1) := dc0 dO_100 (by decide +kernel)
theorem dX12_wish_36 : decode cX12_wish 36 = .ok (.iaload, 1) := dc0 dO_46 (by decide +kernel)
theorem dX12_wish_37 : decode cX12_wish 37 = .ok (.ifCond .ne 7, 3) := dcS2 dO_154 (by decide +kernel)
theorem dX12_wish_40 : decode cX12_wish 40 = .ok (.iconst 1, 1) := dc0 dO_4 (by decide +kernel)
theorem dX12_wish_41 : decode cX12_wish 41 = .ok (.goto 4, 3) := dcS2 dO_167 (by decide +kernel)
theorem dX12_wish_44 : decode cX12_wish 44 = .ok (.iconst 0, 1) := dc0 dO_3 (by decide +kernel)
theorem dX12_wish_45 : decode cX12_wish 45 = .ok (.istore_n 1, 1) := dc0 dO_60 (by decide +kernel)
theorem dX12_wish_46 : decode cX12_wish 46 = .ok (.iconst 0, 1) := dc0 dO_3 (by decide +kernel)
theorem dX12_wish_47 : decode cX12_wish 47 = .ok (.istore_n 2, 1) := dc0 dO_61 (by decide +kernel)
theorem dX12_wish_48 : decode cX12_wish 48 = .ok (.iload_n 2, 1) := dc0 dO_28 (by decide +kernel)
theorem dX12_wish_49 : decode cX12_wish 49 = .ok (.aload_n 0, 1) := dc0 dO_42 (by decide +kernel)
theorem dX12_wish_50 : decode cX12_wish 50 = .ok (.getfield 79, 3) := dcU2 dO_180 (by decide +kernel)
theorem dX12_wish_53 : decode cX12_wish 53 = .ok (.if_icmp .ge 68, 3) := dcS2 dO_162 (by decide +kernel)
theorem dX12_wish_56 : decode cX12_wish 56 = .ok (.iload_n 1, 1) := dc0 dO_27 (by decide +kernel)
theorem dX12_wish_57 : decode cX12_wish 57 = .ok (.ifCond .eq 64, 3) := dcS2 dO_153 (by decide +kernel)
theorem dX12_wish_60 : decode cX12_wish 60 = .ok (.aload_n 0, 1) := dc0 dO_42 (by decide +kernel)
theorem dX12_wish_61 : decode cX12_wish 61 = .ok (.getfield 82, 3) := dcU2 dO_180 (by decide +kernel)
theorem dX12_wish_64 : decode cX12_wish 64 = .ok (.iload_n 2, 1) := dc0 dO_28 (by decide +kernel)
theorem dX12_wish_65 : decode cX12_wish 65 = .ok (.iaload, 1) := dc0 dO_46 (by decide +kernel)
theorem dX12_wish_66 : decode cX12_wish 66 = .ok (.bipush 6, 2) := dcS1 dO_16 (by decide +kernel)
theorem dX12_wish_68 : decode cX12_wish 68 = .ok (.if_icmp .gt 7, 3) := dcS2 dO_163 (by decide +kernel)
theorem dX12_wish_71 : decode cX12_wish 71 = .ok (.iconst 1, 1) := dc0 dO_4 (by decide +kernel)
theorem dX12_wish_72 : decode cX12_wish 72 = .ok (.goto 4, 3) := dcS2 dO_167 (by decide +kernel)
theorem dX12_wish_75 : decode cX12_wish 75 = .ok (.iconst 0, 1) := dc0 dO_3 (by decide +kernel)
theorem dX12_wish_76 : decode cX12_wish 76 = .ok (.istore_n 1, 1) := dc0 dO_60 (by decide +kernel)
theorem dX12_wish_77 : decode cX12_wish 77 = .ok (.iconst 0, 1) := dc0 dO_3 (by decide +kernel)
theorem dX12_wish_78 : decode cX12_wish 78 = .ok (.istore_n 3, 1) := dc0 dO_62 (by decide +kernel)
theorem dX12_wish_79 : decode cX12_wish 79 = .ok (.iload_n 3, 1) := dc0 dO_29 (by decide +kernel)
theorem dX12_wish_80 : decode cX12_wish 80 = .ok (.iload_n 2, 1) := dc0 dO_28 (by decide +kernel)
theorem dX12_wish_81 : decode cX12_wish 81 = .ok (.if_icmp .ge 34, 3) := dcS2 dO_162 (by decide +kernel)
theorem dX12_wish_84 : decode cX12_wish 84 = .ok (.iload_n 1, 1) := dc0 dO_27 (by decide +kernel)
theorem dX12_wish_85 : decode cX12_wish 85 = .ok (.ifCond .eq 22, 3) := dcS2 dO_153 (by decide +kernel)
theorem dX12_wish_88 : decode cX12_wish 88 = .ok (.aload_n 0, 1) := dc0 dO_42 (by decide +kernel)
theorem dX12_wish_89 : decode cX12_wish 89 = .ok (.getfield 82, 3) := dcU2 dO_180 (by decide +kernel)
theorem dX12_wish_92 : decode cX12_wish 92 = .ok (.iload_n 2, 1) := dc0 dO_28 (by decide +kernel)
theorem dX12_wish_93 : decode cX12_wish 93 = .ok (.iaload, 1) := dc0 dO_46 (by decide +kernel)
theorem dX12_wish_94 : decode cX12_wish 94 = .ok (.aload_n 0, 1) := dc0 dO_42 (by decide +kernel)
theorem dX12_wish_95 : decode cX12_wish 95 = .ok (.getfield 82, 3) := dcU2 dO_180 (by decide +kernel)
theorem dX12_wish_98 : decode cX12_wish 98 = .ok (.iload_n 3, 1) := dc0 dO_29 (by decide +kernel)
theorem dX12_wish_99 : decode cX12_wish 99 = .ok (.iaload, 1) := dc0 dO_46 (by decide +kernel)
theorem dX12_wish_100 : decode cX12_wish 100 = .ok (.if_icmp .eq 7, 3) := dcS2 dO_159 (by decide +kernel)
theorem dX12_wish_103 : decode cX12_wish 103 = .ok (.iconst 1, 1) := dc0 dO_4 (by decide +kernel)
theorem dX12_wish_104 : decode cX12_wish 104 = .ok (.goto 4, 3) := dcS2 dO_167 (by decide +kernel)
theorem dX12_wish_107 : decode cX12_wish 107 = .ok (.iconst 0, 1) := dc0 dO_3 (by decide +kernel)
theorem dX12_wish_108 : decode cX12_wish 108 = .ok (.istore_n 1, 1) := dc0 dO_60 (by decide +kernel)
theorem dX12_wish_109 : decode cX12_wish 109 = .ok (.iinc 3 1, 3) := dcI dO_132 (by decide +kernel)
theorem dX12_wish_112 : decode cX12_wish 112 = .ok (.goto (-33), 3) := dcS2 dO_167 (by decide +kernel)
theorem dX12_wish_115 : decode cX12_wish 115 = .ok (.iinc 2 1, 3) := dcI dO_132 (by decide +kernel)
theorem dX12_wish_118 : decode cX12_wish 118 = .ok (.goto (-70), 3) := dcS2 dO_167 (by decide +kernel)
theorem dX12_wish_121 : decode cX12_wish 121 = .ok (.iload_n 1, 1) := dc0 dO_27 (by decide +kernel)
theorem dX12_wish_122 : decode cX12_wish 122 = .ok (.ifCond .ne 5, 3) := dcS2 dO_154 (by decide +kernel)
theorem dX12_wish_125 : decode cX12_wish 125 = .ok (.iconst (-1), 1) := dc0 dO_2 (by decide +kernel)
theorem dX12_wish_126 : decode cX12_wish 126 = .ok (.ireturn, 1) := dc0 dO_172 (by decide +kernel)
theorem dX12_wish_127 : decode cX12_wish 127 = .ok (.aload_n 0, 1) := dc0 dO_42 (by decide +kernel)
theorem sfx_cX12_wish_128 : (cX12_wish.data.toList.drop 128).take 67 = [180, 0, 82, 3, 46, 61, 3, 62, 29, 42, 180, 2, 2, 28, 46, 162, 0, 21, 42, 28, 29, 182, 2, 204, 153, 0, 6, 16, 254, 172, 132, 3, 1, 167, 255, 231, 42, 180, 2, 2, 28, 46, 8, 160, 0, 6, 16, 253, 172, 8, 28, 104, 42, 180, 2, 2, 28, 46, 96, 62, 42, 180, 2, 5, 29, 42, 180] := by decide +kernel
theorem dX12_wish_128 : decode cX12_wish 128 = .ok (.getfield 82, 3) := dcU2 dO_180 (rdU2.ch sfx_cX12_wish_128 0 rfl (by decide +kernel))
theorem dX12_wish_131 : decode cX12_wish 131 = .ok (.iconst 0, 1) := dc0 dO_3 (rdB.ch sfx_cX12_wish_128 3 rfl (by decide +kernel))
theorem dX12_wish_132 : decode cX12_wish 132 = .ok (.iaload, 1) := dc0 dO_46 (rdB.ch sfx_cX12_wish_128 4 rfl (by decide +kernel))
theorem dX12_wish_133 : decode cX12_wish 133 = .ok (.istore_n 2, 1) := dc0 dO_61 (rdB.ch sfx_cX12_wish_128 5 rfl (by decide +kernel))
theorem dX12_wish_134 : decode cX12_wish 134 = .ok (.iconst 0, 1) := dc0 dO_3 (rdB.ch sfx_cX12_wish_128 6 rfl (by decide +kernel))
theorem dX12_wish_135 : decode cX12_wish 135 = .ok (.istore_n 3, 1) := dc0 dO_62 (rdB.ch sfx_cX12_wish_128 7 rfl (by decide +kernel))
theorem dX12_wish_136 : decode cX12_wish 136 = .ok (.iload_n 3, 1) := dc0 dO_29 (rdB.ch sfx_cX12_wish_128 8 rfl (by decide +kernel))
theorem dX12_wish_137 : decode cX12_wish 137 = .ok (.aload_n 0, 1) := dc0 dO_42 (rdB.ch sfx_cX12_wish_128 9 rfl (by decide +kernel))
theorem dX12_wish_138 : decode cX12_wish 138 = .ok (.getfield 514, 3) := dcU2 dO_180 (rdU2.ch sfx_cX12_wish_128 10 rfl (by decide +kernel))
theorem dX12_wish_141 : decode cX12_wish 141 = .ok (.iload_n 2, 1) := dc0 dO_28 (rdB.ch sfx_cX12_wish_128 13 rfl (by decide +kernel))
theorem dX12_wish_142 : decode cX12_wish 142 = .ok (.iaload, 1) := dc0 dO_46 (rdB.ch sfx_cX12_wish_128 14 rfl (by decide +kernel))
theorem dX12_wish_143 : decode cX12_wish 143 = .ok (.if_icmp .ge 21, 3) := dcS2 dO_162 (rdS2.ch sfx_cX12_wish_128 15 rfl (by decide +kernel))
theorem dX12_wish_146 : decode cX12_wish 146 = .ok (.aload_n 0, 1) := dc0 dO_42 (rdB.ch sfx_cX12_wish_128 18 rfl (by decide +kernel))
theorem dX12_wish_147 : decode cX12_wish 147 = .ok (.iload_n 2, 1) := dc0 dO_28 (rdB.ch sfx_cX12_wish_128 19 rfl (by decide +kernel))
theorem dX12_wish_148 : decode cX12_wish 148 = .ok (.iload_n 3, 1) := dc0 dO_29 (rdB.ch sfx_cX12_wish_128 20 rfl (by decide +kernel))
theorem dX12_wish_149 : decode cX12_wish 149 = .ok (.invokevirtual 716, 3) := dcU2 dO_182 (rdU2.ch sfx_cX12_wish_128 21 rfl (by decide +kernel))
theorem dX12_wish_152 : decode cX12_wish 152 = .ok (.ifCond .eq 6, 3) := dcS2 dO_153 (rdS2.ch sfx_cX12_wish_128 24 rfl (by decide +kernel))
theorem dX12_wish_155 : decode cX12_wish 155 = .ok (.bipush (-2), 2) := dcS1 dO_16 (rdS1.ch sfx_cX12_wish_128 27 rfl (by decide +kernel))
theorem dX12_wish_157 : decode cX12_wish 157 = .ok (.ireturn, 1) := dc0 dO_172 (rdB.ch sfx_cX12_wish_128 29 rfl (by decide +kernel))
theorem dX12_wish_158 : decode cX12_wish 158 = .ok (.iinc 3 1, 3) := dcI dO_132 (rdI.ch sfx_cX12_wish_128 30 rfl (by decide +kernel))
theorem dX12_wish_161 : decode cX12_wish 161 = .ok (.goto (-25), 3) := dcS2 dO_167 (rdS2.ch sfx_cX12_wish_128 33 rfl (by decide +kernel))
theorem dX12_wish_164 : decode cX12_wish 164 = .ok (.aload_n 0, 1) := dc0 dO_42 (rdB.ch sfx_cX12_wish_128 36 rfl (by decide +kernel))
theorem dX12_wish_165 : decode cX12_wish 165 = .ok (.getfield 514, 3) := dcU2 dO_180 (rdU2.ch sfx_cX12_wish_128 37 rfl (by decide +kernel))
theorem dX12_wish_168 : decode cX12_wish 168 = .ok (.iload_n 2, 1) := dc0 dO_28 (rdB.ch sfx_cX12_wish_128 40 rfl (by decide +kernel))
theorem dX12_wish_169 : decode cX12_wish 169 = .ok (.iaload, 1) := dc0 dO_46 (rdB.ch sfx_cX12_wish_128 41 rfl (by decide +kernel))
theorem dX12_wish_170 : decode cX12_wish 170 = .ok (.iconst 5, 1) := dc0 dO_8 (rdB.ch sfx_cX12_wish_128 42 rfl (by decide +kernel))
theorem dX12_wish_171 : decode cX12_wish 171 = .ok (.if_icmp .ne 6, 3) := dcS2 dO_160 (rdS2.ch sfx_cX12_wish_128 43 rfl (by decide +kernel))
theorem dX12_wish_174 : decode cX12_wish 174 = .ok (.bipush (-3), 2) := dcS1 dO_16 (rdS1.ch sfx_cX12_wish_128 46 rfl (by decide +kernel))
theorem dX12_wish_176 : decode cX12_wish 176 = .ok (.ireturn, 1) := dc0 dO_172 (rdB.ch sfx_cX12_wish_128 48 rfl (by decide +kernel))
theorem dX12_wish_177 : decode cX12_wish 177 = .ok (.iconst 5, 1) := dc0 dO_8 (rdB.ch sfx_cX12_wish_128 49 rfl (by decide +kernel))
theorem dX12_wish_178 : decode cX12_wish 178 = .ok (.iload_n 2, 1) := dc0 dO_28 (rdB.ch sfx_cX12_wish_128 50 rfl (by decide +kernel))
theorem dX12_wish_179 : decode cX12_wish 179 = .ok (.imul, 1) := dc0 dO_104 (rdB.ch sfx_cX12_wish_128 51 rfl (by decide +kernel))
theorem dX12_wish_180 : decode cX12_wish 180 = .ok (.aload_n 0, 1) := dc0 dO_42 (rdB.ch sfx_cX12_wish_128 52 rfl (by decide +kernel))
theorem dX12_wish_181 : decode cX12_wish 181 = .ok (.getfield 514, 3) := dcU2 dO_180 (rdU2.ch sfx_cX12_wish_128 53 rfl (by decide +kernel))
theorem dX12_wish_184 : decode cX12_wish 184 = .ok (.iload_n 2, 1) := dc0 dO_28 (rdB.ch sfx_cX12_wish_128 56 rfl (by decide +kernel))
theorem dX12_wish_185 : decode cX12_wish 185 = .ok (.iaload, 1) := dc0 dO_46 (rdB.ch sfx_cX12_wish_128 57 rfl (by decide +kernel))
theorem dX12_wish_186 : decode cX12_wish 186 = .ok (.iadd, 1) := dc0 dO_96 (rdB.ch sfx_cX12_wish_128 58 rfl (by decide +kernel))
theorem dX12_wish_187 : decode cX12_wish 187 = .ok (.istore_n 3, 1) := dc0 dO_62 (rdB.ch sfx_cX12_wish_128 59 rfl (by decide +kernel))
theorem dX12_wish_188 : decode cX12_wish 188 = .ok (.aload_n 0, 1) := dc0 dO_42 (rdB.ch sfx_cX12_wish_128 60 rfl (by decide +kernel))
theorem dX12_wish_189 : decode cX12_wish 189 = .ok (.getfield 517, 3) := dcU2 dO_180 (rdU2.ch sfx_cX12_wish_128 61 rfl (by decide +kernel))
theorem sfx_cX12_wish_192 : (cX12_wish.data.toList.drop 192).take 67 = [29, 42, 180, 0, 79, 79, 3, 54, 4, 21, 4, 42, 180, 0, 79, 162, 0, 28, 42, 180, 2, 8, 16, 8, 29, 104, 21, 4, 96, 42, 180, 0, 82, 21, 4, 46, 79, 132, 4, 1, 167, 255, 225, 42, 180, 2, 2, 28, 92, 46, 4, 96, 79, 42, 180, 2, 2, 28, 46, 172] := by decide +kernel
theorem dX12_wish_192 : decode cX12_wish 192 = .ok (.iload_n 3, 1) := dc0 dO_29 (rdB.ch sfx_cX12_wish_192 0 rfl (by decide +kernel))
theorem dX12_wish_193 : decode cX12_wish 193 = .ok (.aload_n 0, 1) := dc0 dO_42 (rdB.ch sfx_cX12_wish_192 1 rfl (by decide +kernel))
theorem dX12_wish_194 : decode cX12_wish 194 = .ok (.getfield 79, 3) := dcU2 dO_180 (rdU2.ch sfx_cX12_wish_192 2 rfl (by decide +kernel))
theorem dX12_wish_197 : decode cX12_wish 197 = .ok (.iastore, 1) := dc0 dO_79 (rdB.ch sfx_cX12_wish_192 5 rfl (by decide +kernel))
theorem dX12_wish_198 : decode cX12_wish 198 = .ok (.iconst 0, 1) := dc0 dO_3 (rdB.ch sfx_cX12_wish_192 6 rfl (by decide +kernel))
theorem dX12_wish_199 : decode cX12_wish 199 = .ok (.istore 4, 2) := dcU1 dO_54 (rdU1.ch sfx_cX12_wish_192 7 rfl (by decide +kernel))
theorem dX12_wish_201 : decode cX12_wish 201 = .ok (.iload 4, 2) := dcU1 dO_21 (rdU1.ch sfx_cX12_wish_192 9 rfl (by decide +kernel))
theorem dX12_wish_203 : decode cX12_wish 203 = .ok (.aload_n 0, 1) := dc0 dO_42 (rdB.ch sfx_cX12_wish_192 11 rfl (by decide +kernel))
theorem dX12_wish_204 : decode cX12_wish 204 = .ok (.getfield 79, 3) := dcU2 dO_180 (rdU2.ch sfx_cX12_wish_192 12 rfl (by decide +kernel))
theorem dX12_wish_207 : decode cX12_wish 207 = .ok (.if_icmp .ge 28, 3) := dcS2 dO_162 (rdS2.ch sfx_cX12_wish_192 15 rfl (by decide +kernel))
theorem dX12_wish_210 : decode cX12_wish 210 = .ok (.aload_n 0, 1) := dc0 dO_42 (rdB.ch sfx_cX12_wish_192 18 rfl (by decide +kernel))
theorem dX12_wish_211 : decode cX12_wish 211 = .ok (.getfield 520, 3) := dcU2 dO_180 (rdU2.ch sfx_cX12_wish_192 19 rfl (by decide +kernel))
theorem dX12_wish_214 : decode cX12_wish 214 = .ok (.bipush 8, 2) := dcS1 dO_16 (rdS1.ch sfx_cX12_wish_192 22 rfl (by decide +kernel))
theorem dX12_wish_216 : decode cX12_wish 216 = .ok (.iload_n 3, 1) := dc0 dO_29 (rdB.ch sfx_cX12_wish_192 24 rfl (by decide +kernel))
theorem dX12_wish_217 : decode cX12_wish 217 = .ok (.imul, 1) := dc0 dO_104 (rdB.ch sfx_cX12_wish_192 25 rfl (by decide +kernel))
theorem dX12_wish_218 : decode cX12_wish 218 = .ok (.iload 4, 2) := dcU1 dO_21 (rdU1.ch sfx_cX12_wish_192 26 rfl (by decide +kernel))
theorem dX12_wish_220 : decode cX12_wish 220 = .ok (.iadd, 1) := dc0 dO_96 (rdB.ch sfx_cX12_wish_192 28 rfl (by decide +kernel))
theorem dX12_wish_221 : decode cX12_wish 221 = .ok (.aload_n 0, 1) := dc0 dO_42 (rdB.ch sfx_cX12_wish_192 29 rfl (by decide +kernel))
theorem dX12_wish_222 : decode cX12_wish 222 = .ok (.getfield 82, 3) := dcU2 dO_180 (rdU2.ch sfx_cX12_wish_192 30 rfl (by decide +kernel))
theorem dX12_wish_225 : decode cX12_wish 225 = .ok (.iload 4, 2) := dcU1 dO_21 (rdU1.ch sfx_cX12_wish_192 33 rfl (by decide +kernel))
theorem dX12_wish_227 : decode cX12_wish 227 = .ok (.iaload, 1) := dc0 dO_46 (rdB.ch sfx_cX12_wish_192 35 rfl (by decide +kernel))
theorem dX12_wish_228 : decode cX12_wish 228 = .ok (.iastore, 1) := dc0 dO_79 (rdB.ch sfx_cX12_wish_192 36 rfl (by decide +kernel))
theorem dX12_wish_229 : decode cX12_wish 229 = .ok (.iinc 4 1, 3) := dcI dO_132 (rdI.ch sfx_cX12_wish_192 37 rfl (by decide +kernel))
theorem dX12_wish_232 : decode cX12_wish 232 = .ok (.goto (-31), 3) := dcS2 dO_167 (rdS2.ch sfx_cX12_wish_192 40 rfl (by decide +kernel))
theorem dX12_wish_235 : decode cX12_wish 235 = .ok (.aload_n 0, 1) := dc0 dO_42 (rdB.ch sfx_cX12_wish_192 43 rfl (by decide +kernel))
theorem dX12_wish_236 : decode cX12_wish 236 = .ok (.getfield 514, 3) := dcU2 dO_180 (rdU2.ch sfx_cX12_wish_192 44 rfl (by decide +kernel))
theorem dX12_wish_239 : decode cX12_wish 239 = .ok (.iload_n 2, 1) := dc0 dO_28 (rdB.ch sfx_cX12_wish_192 47 rfl (by decide +kernel))
theorem dX12_wish_240 : decode cX12_wish 240 = .ok (.dup2, 1) := dc0 dO_92 (rdB.ch sfx_cX12_wish_192 48 rfl (by decide +kernel))
theorem dX12_wish_241 : decode cX12_wish 241 = .ok (.iaload, 1) := dc0 dO_46 (rdB.ch sfx_cX12_wish_192 49 rfl (by decide +kernel))
theorem dX12_wish_242 : decode cX12_wish 242 = .ok (.iconst 1, 1) := dc0 dO_4 (rdB.ch sfx_cX12_wish_192 50 rfl (by decide +kernel))
theorem dX12_wish_243 : decode cX12_wish 243 = .ok (.iadd, 1) := dc0 dO_96 (rdB.ch sfx_cX12_wish_192 51 rfl (by decide +kernel))
theorem dX12_wish_244 : decode cX12_wish 244 = .ok (.iastore, 1) := dc0 dO_79 (rdB.ch sfx_cX12_wish_192 52 rfl (by decide +kernel))
theorem dX12_wish_245 : decode cX12_wish 245 = .ok (.aload_n 0, 1) := dc0 dO_42 (rdB.ch sfx_cX12_wish_192 53 rfl (by decide +kernel))
theorem dX12_wish_246 : decode cX12_wish 246 = .ok (.getfield 514, 3) := dcU2 dO_180 (rdU2.ch sfx_cX12_wish_192 54 rfl (by decide +kernel))
theorem dX12_wish_249 : decode cX12_wish 249 = .ok (.iload_n 2, 1) := dc0 dO_28 (rdB.ch sfx_cX12_wish_192 57 rfl (by decide +kernel))
theorem dX12_wish_250 : decode cX12_wish 250 = .ok (.iaload, 1) := dc0 dO_46 (rdB.ch sfx_cX12_wish_192 58 rfl (by decide +kernel))
theorem dX12_wish_251 : decode cX12_wish 251 = .ok (.ireturn, 1) := dc0 dO_172 (rdB.ch sfx_cX12_wish_192 59 rfl (by decide +kernel))
end
