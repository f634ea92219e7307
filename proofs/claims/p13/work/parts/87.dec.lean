theorem dX6_readAct_0 : decode cX6_readAct 0 = .ok (.aload_n 0, 1) := by decide +kernel
theorem dX6_readAct_1 : decode cX6_readAct 1 = .ok (.getfield 9, 3) := by decide +kernel
theorem dX6_readAct_4 : decode cX6_readAct 4 = .ok (.aload_n 0, 1) := by decide +kernel
theorem dX6_readAct_5 : decode cX6_readAct 5 = .ok (.getfield 63, 3) := by decide +kernel
theorem dX6_readAct_8 : decode cX6_readAct 8 = .ok (.iaload, 1) := by decide +kernel
theorem dX6_readAct_9 : decode cX6_readAct 9 = .ok (.istore_n 1, 1) := by decide +kernel
theorem dX6_readAct_10 : decode cX6_readAct 10 = .ok (.iload_n 1, 1) := by decide +kernel
theorem dX6_readAct_11 : decode cX6_readAct 11 = .ok (.invokestatic 127, 3) := by decide +kernel
theorem dX6_readAct_14 : decode cX6_readAct 14 = .ok (.ifCond .ne 9, 3) := by decide +kernel
theorem dX6_readAct_17 : decode cX6_readAct 17 = .ok (.aload_n 0, 1) := by decide +kernel
theorem dX6_readAct_18 : decode cX6_readAct 18 = .ok (.iconst 2, 1) := by decide +kernel
theorem dX6_readAct_19 : decode cX6_readAct 19 = .ok (.invokevirtual 123, 3) := by decide +kernel
theorem dX6_readAct_22 : decode cX6_readAct 22 = .ok (.return_, 1) := by decide +kernel
theorem dX6_readAct_23 : decode cX6_readAct 23 = .ok (.aload_n 0, 1) := by decide +kernel
theorem dX6_readAct_24 : decode cX6_readAct 24 = .ok (.invokevirtual 117, 3) := by decide +kernel
theorem dX6_readAct_27 : decode cX6_readAct 27 = .ok (.aload_n 0, 1) := by decide +kernel
theorem dX6_readAct_28 : decode cX6_readAct 28 = .ok (.iload_n 1, 1) := by decide +kernel
theorem dX6_readAct_29 : decode cX6_readAct 29 = .ok (.invokevirtual 130, 3) := by decide +kernel
theorem dX6_readAct_32 : decode cX6_readAct 32 = .ok (.iload_n 1, 1) := by decide +kernel
theorem dX6_readAct_33 : decode cX6_readAct 33 = .ok (.tableswitch 158 12 28 #[97, 112, 158, 158, 158, 158, 158, 158, 158, 158, 158, 158, 158, 83, 83, 126, 140], 83) := by decide +kernel
theorem dX6_readAct_116 : decode cX6_readAct 116 = .ok (.aload_n 0, 1) := by decide +kernel
theorem dX6_readAct_117 : decode cX6_readAct 117 = .ok (.aload_n 0, 1) := by decide +kernel
theorem dX6_readAct_118 : decode cX6_readAct 118 = .ok (.iconst 0, 1) := by decide +kernel
theorem dX6_readAct_119 : decode cX6_readAct 119 = .ok (.ldc 142, 2) := by decide +kernel
theorem dX6_readAct_121 : decode cX6_readAct 121 = .ok (.invokevirtual 143, 3) := by decide +kernel
theorem dX6_readAct_124 : decode cX6_readAct 124 = .ok (.invokevirtual 130, 3) := by decide +kernel
theorem dX6_readAct_127 : decode cX6_readAct 127 = .ok (.goto 69, 3) := by decide +kernel
theorem dX6_readAct_130 : decode cX6_readAct 130 = .ok (.aload_n 0, 1) := by decide +kernel
theorem dX6_readAct_131 : decode cX6_readAct 131 = .ok (.aload_n 0, 1) := by decide +kernel
theorem dX6_readAct_132 : decode cX6_readAct 132 = .ok (.iconst 0, 1) := by decide +kernel
theorem dX6_readAct_133 : decode cX6_readAct 133 = .ok (.sipush 1000, 3) := by decide +kernel
theorem dX6_readAct_136 : decode cX6_readAct 136 = .ok (.invokevirtual 143, 3) := by decide +kernel
theorem dX6_readAct_139 : decode cX6_readAct 139 = .ok (.invokevirtual 130, 3) := by decide +kernel
theorem dX6_readAct_142 : decode cX6_readAct 142 = .ok (.goto 54, 3) := by decide +kernel
theorem dX6_readAct_145 : decode cX6_readAct 145 = .ok (.aload_n 0, 1) := by decide +kernel
theorem dX6_readAct_146 : decode cX6_readAct 146 = .ok (.aload_n 0, 1) := by decide +kernel
theorem dX6_readAct_147 : decode cX6_readAct 147 = .ok (.iconst 0, 1) := by decide +kernel
theorem dX6_readAct_148 : decode cX6_readAct 148 = .ok (.ldc 147, 2) := by decide +kernel
theorem dX6_readAct_150 : decode cX6_readAct 150 = .ok (.invokevirtual 143, 3) := by decide +kernel
theorem dX6_readAct_153 : decode cX6_readAct 153 = .ok (.invokevirtual 130, 3) := by decide +kernel
theorem dX6_readAct_156 : decode cX6_readAct 156 = .ok (.goto 40, 3) := by decide +kernel
theorem dX6_readAct_159 : decode cX6_readAct 159 = .ok (.aload_n 0, 1) := by decide +kernel
theorem dX6_readAct_160 : decode cX6_readAct 160 = .ok (.aload_n 0, 1) := by decide +kernel
theorem dX6_readAct_161 : decode cX6_readAct 161 = .ok (.iconst 1, 1) := by decide +kernel
theorem dX6_readAct_162 : decode cX6_readAct 162 = .ok (.bipush 9, 2) := by decide +kernel
theorem dX6_readAct_164 : decode cX6_readAct 164 = .ok (.invokevirtual 143, 3) := by decide +kernel
theorem dX6_readAct_167 : decode cX6_readAct 167 = .ok (.invokevirtual 130, 3) := by decide +kernel
theorem dX6_readAct_170 : decode cX6_readAct 170 = .ok (.goto 26, 3) := by decide +kernel
theorem dX6_readAct_173 : decode cX6_readAct 173 = .ok (.aload_n 0, 1) := by decide +kernel
theorem dX6_readAct_174 : decode cX6_readAct 174 = .ok (.aload_n 0, 1) := by decide +kernel
theorem dX6_readAct_175 : decode cX6_readAct 175 = .ok (.iconst 0, 1) := by decide +kernel
theorem dX6_readAct_176 : decode cX6_readAct 176 = .ok (.aload_n 0, 1) := by decide +kernel
theorem dX6_readAct_177 : decode cX6_readAct 177 = .ok (.getfield 56, 3) := by decide +kernel
theorem dX6_readAct_180 : decode cX6_readAct 180 = .ok (.iconst 1, 1) := by decide +kernel
theorem dX6_readAct_181 : decode cX6_readAct 181 = .ok (.isub, 1) := by decide +kernel
theorem dX6_readAct_182 : decode cX6_readAct 182 = .ok (.invokevirtual 143, 3) := by decide +kernel
theorem dX6_readAct_185 : decode cX6_readAct 185 = .ok (.invokevirtual 130, 3) := by decide +kernel
theorem dX6_readAct_188 : decode cX6_readAct 188 = .ok (.goto 8, 3) := by decide +kernel
theorem dX6_readAct_191 : decode cX6_readAct 191 = .ok (.aload_n 0, 1) := by decide +kernel
theorem dX6_readAct_192 : decode cX6_readAct 192 = .ok (.iconst 0, 1) := by decide +kernel
theorem dX6_readAct_193 : decode cX6_readAct 193 = .ok (.invokevirtual 130, 3) := by decide +kernel
theorem dX6_readAct_196 : decode cX6_readAct 196 = .ok (.return_, 1) := by decide +kernel
theorem dX6_readBranches_0 : decode cX6_readBranches 0 = .ok (.iconst 0, 1) := by decide +kernel
theorem dX6_readBranches_1 : decode cX6_readBranches 1 = .ok (.istore_n 2, 1) := by decide +kernel
theorem dX6_readBranches_2 : decode cX6_readBranches 2 = .ok (.lconst 0, 1) := by decide +kernel
theorem dX6_readBranches_3 : decode cX6_readBranches 3 = .ok (.lstore_n 3, 1) := by decide +kernel
theorem dX6_readBranches_4 : decode cX6_readBranches 4 = .ok (.lconst 0, 1) := by decide +kernel
theorem dX6_readBranches_5 : decode cX6_readBranches 5 = .ok (.lstore 5, 2) := by decide +kernel
theorem dX6_readBranches_7 : decode cX6_readBranches 7 = .ok (.iconst 1, 1) := by decide +kernel
theorem dX6_readBranches_8 : decode cX6_readBranches 8 = .ok (.istore 7, 2) := by decide +kernel
theorem dX6_readBranches_10 : decode cX6_readBranches 10 = .ok (.iconst 0, 1) := by decide +kernel
theorem dX6_readBranches_11 : decode cX6_readBranches 11 = .ok (.istore 8, 2) := by decide +kernel
theorem dX6_readBranches_13 : decode cX6_readBranches 13 = .ok (.iload 8, 2) := by decide +kernel
theorem dX6_readBranches_15 : decode cX6_readBranches 15 = .ok (.sipush 1000, 3) := by decide +kernel
theorem dX6_readBranches_18 : decode cX6_readBranches 18 = .ok (.if_icmp .gt 193, 3) := by decide +kernel
theorem dX6_readBranches_21 : decode cX6_readBranches 21 = .ok (.iload 7, 2) := by decide +kernel
theorem dX6_readBranches_23 : decode cX6_readBranches 23 = .ok (.ifCond .eq 188, 3) := by decide +kernel
theorem dX6_readBranches_26 : decode cX6_readBranches 26 = .ok (.iconst 1, 1) := by decide +kernel
theorem dX6_readBranches_27 : decode cX6_readBranches 27 = .ok (.istore 9, 2) := by decide +kernel
theorem dX6_readBranches_29 : decode cX6_readBranches 29 = .ok (.lconst 0, 1) := by decide +kernel
theorem dX6_readBranches_30 : decode cX6_readBranches 30 = .ok (.lstore 10, 2) := by decide +kernel
theorem dX6_readBranches_32 : decode cX6_readBranches 32 = .ok (.lconst 0, 1) := by decide +kernel
theorem dX6_readBranches_33 : decode cX6_readBranches 33 = .ok (.lstore 12, 2) := by decide +kernel
theorem dX6_readBranches_35 : decode cX6_readBranches 35 = .ok (.iconst 0, 1) := by decide +kernel
theorem dX6_readBranches_36 : decode cX6_readBranches 36 = .ok (.istore 14, 2) := by decide +kernel
theorem dX6_readBranches_38 : decode cX6_readBranches 38 = .ok (.iload 14, 2) := by decide +kernel
theorem dX6_readBranches_40 : decode cX6_readBranches 40 = .ok (.sipush 1000, 3) := by decide +kernel
theorem dX6_readBranches_43 : decode cX6_readBranches 43 = .ok (.if_icmp .gt 126, 3) := by decide +kernel
theorem dX6_readBranches_46 : decode cX6_readBranches 46 = .ok (.aload_n 0, 1) := by decide +kernel
theorem dX6_readBranches_47 : decode cX6_readBranches 47 = .ok (.getfield 9, 3) := by decide +kernel
theorem dX6_readBranches_50 : decode cX6_readBranches 50 = .ok (.aload_n 0, 1) := by decide +kernel
theorem dX6_readBranches_51 : decode cX6_readBranches 51 = .ok (.getfield 63, 3) := by decide +kernel
theorem dX6_readBranches_54 : decode cX6_readBranches 54 = .ok (.iaload, 1) := by decide +kernel
theorem dX6_readBranches_55 : decode cX6_readBranches 55 = .ok (.invokestatic 190, 3) := by decide +kernel
theorem dX6_readBranches_58 : decode cX6_readBranches 58 = .ok (.ifCond .eq 111, 3) := by decide +kernel
theorem dX6_readBranches_61 : decode cX6_readBranches 61 = .ok (.aload_n 0, 1) := by decide +kernel
theorem dX6_readBranches_62 : decode cX6_readBranches 62 = .ok (.getfield 9, 3) := by decide +kernel
theorem dX6_readBranches_65 : decode cX6_readBranches 65 = .ok (.aload_n 0, 1) := by decide +kernel
theorem dX6_readBranches_66 : decode cX6_readBranches 66 = .ok (.getfield 63, 3) := by decide +kernel
theorem dX6_readBranches_69 : decode cX6_readBranches 69 = .ok (.iaload, 1) := by decide +kernel
theorem dX6_readBranches_70 : decode cX6_readBranches 70 = .ok (.sipush 1040, 3) := by decide +kernel
theorem dX6_readBranches_73 : decode cX6_readBranches 73 = .ok (.if_icmp .ne 11, 3) := by decide +kernel
theorem dX6_readBranches_76 : decode cX6_readBranches 76 = .ok (.aload_n 0, 1) := by decide +kernel
theorem dX6_readBranches_77 : decode cX6_readBranches 77 = .ok (.iload_n 1, 1) := by decide +kernel
theorem dX6_readBranches_78 : decode cX6_readBranches 78 = .ok (.invokevirtual 193, 3) := by decide +kernel
theorem dX6_readBranches_81 : decode cX6_readBranches 81 = .ok (.goto 7, 3) := by decide +kernel
theorem dX6_readBranches_84 : decode cX6_readBranches 84 = .ok (.aload_n 0, 1) := by decide +kernel
theorem dX6_readBranches_85 : decode cX6_readBranches 85 = .ok (.invokevirtual 196, 3) := by decide +kernel
theorem dX6_readBranches_88 : decode cX6_readBranches 88 = .ok (.aload_n 0, 1) := by decide +kernel
theorem dX6_readBranches_89 : decode cX6_readBranches 89 = .ok (.invokevirtual 199, 3) := by decide +kernel
theorem dX6_readBranches_92 : decode cX6_readBranches 92 = .ok (.aload_n 0, 1) := by decide +kernel
theorem dX6_readBranches_93 : decode cX6_readBranches 93 = .ok (.lload 12, 2) := by decide +kernel
theorem dX6_readBranches_95 : decode cX6_readBranches 95 = .ok (.aload_n 0, 1) := by decide +kernel
theorem dX6_readBranches_96 : decode cX6_readBranches 96 = .ok (.getfield 179, 3) := by decide +kernel
theorem dX6_readBranches_99 : decode cX6_readBranches 99 = .ok (.invokevirtual 202, 3) := by decide +kernel
theorem dX6_readBranches_102 : decode cX6_readBranches 102 = .ok (.iload 9, 2) := by decide +kernel
theorem dX6_readBranches_104 : decode cX6_readBranches 104 = .ok (.ifCond .eq 13, 3) := by decide +kernel
theorem dX6_readBranches_107 : decode cX6_readBranches 107 = .ok (.lload 10, 2) := by decide +kernel
theorem dX6_readBranches_109 : decode cX6_readBranches 109 = .ok (.aload_n 0, 1) := by decide +kernel
theorem dX6_readBranches_110 : decode cX6_readBranches 110 = .ok (.getfield 179, 3) := by decide +kernel
theorem dX6_readBranches_113 : decode cX6_readBranches 113 = .ok (.lor, 1) := by decide +kernel
theorem dX6_readBranches_114 : decode cX6_readBranches 114 = .ok (.goto 5, 3) := by decide +kernel
theorem dX6_readBranches_117 : decode cX6_readBranches 117 = .ok (.lload 10, 2) := by decide +kernel
theorem dX6_readBranches_119 : decode cX6_readBranches 119 = .ok (.lstore 10, 2) := by decide +kernel
theorem dX6_readBranches_121 : decode cX6_readBranches 121 = .ok (.aload_n 0, 1) := by decide +kernel
theorem dX6_readBranches_122 : decode cX6_readBranches 122 = .ok (.getfield 186, 3) := by decide +kernel
theorem dX6_readBranches_125 : decode cX6_readBranches 125 = .ok (.ifCond .eq 13, 3) := by decide +kernel
theorem dX6_readBranches_128 : decode cX6_readBranches 128 = .ok (.lload 12, 2) := by decide +kernel
theorem dX6_readBranches_130 : decode cX6_readBranches 130 = .ok (.aload_n 0, 1) := by decide +kernel
theorem dX6_readBranches_131 : decode cX6_readBranches 131 = .ok (.getfield 183, 3) := by decide +kernel
theorem dX6_readBranches_134 : decode cX6_readBranches 134 = .ok (.lor, 1) := by decide +kernel
theorem dX6_readBranches_135 : decode cX6_readBranches 135 = .ok (.goto 7, 3) := by decide +kernel
theorem dX6_readBranches_138 : decode cX6_readBranches 138 = .ok (.aload_n 0, 1) := by decide +kernel
theorem dX6_readBranches_139 : decode cX6_readBranches 139 = .ok (.getfield 183, 3) := by decide +kernel
theorem dX6_readBranches_142 : decode cX6_readBranches 142 = .ok (.lstore 12, 2) := by decide +kernel
theorem dX6_readBranches_144 : decode cX6_readBranches 144 = .ok (.iload 9, 2) := by decide +kernel
theorem dX6_readBranches_146 : decode cX6_readBranches 146 = .ok (.ifCond .eq 14, 3) := by decide +kernel
theorem dX6_readBranches_149 : decode cX6_readBranches 149 = .ok (.aload_n 0, 1) := by decide +kernel
theorem dX6_readBranches_150 : decode cX6_readBranches 150 = .ok (.getfield 186, 3) := by decide +kernel
theorem dX6_readBranches_153 : decode cX6_readBranches 153 = .ok (.ifCond .eq 7, 3) := by decide +kernel
theorem dX6_readBranches_156 : decode cX6_readBranches 156 = .ok (.iconst 1, 1) := by decide +kernel
theorem dX6_readBranches_157 : decode cX6_readBranches 157 = .ok (.goto 4, 3) := by decide +kernel
theorem dX6_readBranches_160 : decode cX6_readBranches 160 = .ok (.iconst 0, 1) := by decide +kernel
theorem dX6_readBranches_161 : decode cX6_readBranches 161 = .ok (.istore 9, 2) := by decide +kernel
theorem dX6_readBranches_163 : decode cX6_readBranches 163 = .ok (.iinc 14 1, 3) := by decide +kernel
theorem dX6_readBranches_166 : decode cX6_readBranches 166 = .ok (.goto (-128), 3) := by decide +kernel
theorem dX6_readBranches_169 : decode cX6_readBranches 169 = .ok (.iload_n 2, 1) := by decide +kernel
theorem dX6_readBranches_170 : decode cX6_readBranches 170 = .ok (.ifCond .ne 8, 3) := by decide +kernel
theorem dX6_readBranches_173 : decode cX6_readBranches 173 = .ok (.iload 9, 2) := by decide +kernel
theorem dX6_readBranches_175 : decode cX6_readBranches 175 = .ok (.ifCond .eq 7, 3) := by decide +kernel
theorem dX6_readBranches_178 : decode cX6_readBranches 178 = .ok (.iconst 1, 1) := by decide +kernel
theorem dX6_readBranches_179 : decode cX6_readBranches 179 = .ok (.goto 4, 3) := by decide +kernel
theorem dX6_readBranches_182 : decode cX6_readBranches 182 = .ok (.iconst 0, 1) := by decide +kernel
theorem dX6_readBranches_183 : decode cX6_readBranches 183 = .ok (.istore_n 2, 1) := by decide +kernel
theorem dX6_readBranches_184 : decode cX6_readBranches 184 = .ok (.lload_n 3, 1) := by decide +kernel
theorem dX6_readBranches_185 : decode cX6_readBranches 185 = .ok (.lload 10, 2) := by decide +kernel
theorem dX6_readBranches_187 : decode cX6_readBranches 187 = .ok (.lor, 1) := by decide +kernel
theorem dX6_readBranches_188 : decode cX6_readBranches 188 = .ok (.lstore_n 3, 1) := by decide +kernel
theorem dX6_readBranches_189 : decode cX6_readBranches 189 = .ok (.lload 5, 2) := by decide +kernel
theorem dX6_readBranches_191 : decode cX6_readBranches 191 = .ok (.lload 12, 2) := by decide +kernel
theorem dX6_readBranches_193 : decode cX6_readBranches 193 = .ok (.lor, 1) := by decide +kernel
theorem dX6_readBranches_194 : decode cX6_readBranches 194 = .ok (.lstore 5, 2) := by decide +kernel
theorem dX6_readBranches_196 : decode cX6_readBranches 196 = .ok (.aload_n 0, 1) := by decide +kernel
theorem dX6_readBranches_197 : decode cX6_readBranches 197 = .ok (.sipush 1124, 3) := by decide +kernel
theorem dX6_readBranches_200 : decode cX6_readBranches 200 = .ok (.invokevirtual 120, 3) := by decide +kernel
theorem dX6_readBranches_203 : decode cX6_readBranches 203 = .ok (.istore 7, 2) := by decide +kernel
theorem dX6_readBranches_205 : decode cX6_readBranches 205 = .ok (.iinc 8 1, 3) := by decide +kernel
theorem dX6_readBranches_208 : decode cX6_readBranches 208 = .ok (.goto (-195), 3) := by decide +kernel
theorem dX6_readBranches_211 : decode cX6_readBranches 211 = .ok (.aload_n 0, 1) := by decide +kernel
theorem dX6_readBranches_212 : decode cX6_readBranches 212 = .ok (.iload_n 2, 1) := by decide +kernel
theorem dX6_readBranches_213 : decode cX6_readBranches 213 = .ok (.putfield 186, 3) := by decide +kernel
theorem dX6_readBranches_216 : decode cX6_readBranches 216 = .ok (.aload_n 0, 1) := by decide +kernel
theorem dX6_readBranches_217 : decode cX6_readBranches 217 = .ok (.lload_n 3, 1) := by decide +kernel
theorem dX6_readBranches_218 : decode cX6_readBranches 218 = .ok (.putfield 179, 3) := by decide +kernel
theorem dX6_readBranches_221 : decode cX6_readBranches 221 = .ok (.aload_n 0, 1) := by decide +kernel
theorem dX6_readBranches_222 : decode cX6_readBranches 222 = .ok (.lload 5, 2) := by decide +kernel
theorem dX6_readBranches_224 : decode cX6_readBranches 224 = .ok (.putfield 183, 3) := by decide +kernel
theorem dX6_readBranches_227 : decode cX6_readBranches 227 = .ok (.return_, 1) := by decide +kernel
theorem dX6_readGroup_0 : decode cX6_readGroup 0 = .ok (.iload_n 1, 1) := by decide +kernel
theorem dX6_readGroup_1 : decode cX6_readGroup 1 = .ok (.bipush 6, 2) := by decide +kernel
theorem dX6_readGroup_3 : decode cX6_readGroup 3 = .ok (.if_icmp .lt 9, 3) := by decide +kernel
theorem dX6_readGroup_6 : decode cX6_readGroup 6 = .ok (.aload_n 0, 1) := by decide +kernel
theorem dX6_readGroup_7 : decode cX6_readGroup 7 = .ok (.iconst 4, 1) := by decide +kernel
theorem dX6_readGroup_8 : decode cX6_readGroup 8 = .ok (.invokevirtual 123, 3) := by decide +kernel
theorem dX6_readGroup_11 : decode cX6_readGroup 11 = .ok (.return_, 1) := by decide +kernel
theorem dX6_readGroup_12 : decode cX6_readGroup 12 = .ok (.aload_n 0, 1) := by decide +kernel
theorem dX6_readGroup_13 : decode cX6_readGroup 13 = .ok (.invokevirtual 117, 3) := by decide +kernel
theorem dX6_readGroup_16 : decode cX6_readGroup 16 = .ok (.aload_n 0, 1) := by decide +kernel
theorem dX6_readGroup_17 : decode cX6_readGroup 17 = .ok (.iload_n 1, 1) := by decide +kernel
theorem dX6_readGroup_18 : decode cX6_readGroup 18 = .ok (.iconst 1, 1) := by decide +kernel
theorem dX6_readGroup_19 : decode cX6_readGroup 19 = .ok (.iadd, 1) := by decide +kernel
theorem dX6_readGroup_20 : decode cX6_readGroup 20 = .ok (.invokevirtual 176, 3) := by decide +kernel
theorem dX6_readGroup_23 : decode cX6_readGroup 23 = .ok (.aload_n 0, 1) := by decide +kernel
theorem dX6_readGroup_24 : decode cX6_readGroup 24 = .ok (.getfield 9, 3) := by decide +kernel
theorem dX6_readGroup_27 : decode cX6_readGroup 27 = .ok (.aload_n 0, 1) := by decide +kernel
theorem dX6_readGroup_28 : decode cX6_readGroup 28 = .ok (.getfield 63, 3) := by decide +kernel
theorem dX6_readGroup_31 : decode cX6_readGroup 31 = .ok (.iaload, 1) := by decide +kernel
theorem dX6_readGroup_32 : decode cX6_readGroup 32 = .ok (.sipush 1041, 3) := by decide +kernel
theorem dX6_readGroup_35 : decode cX6_readGroup 35 = .ok (.if_icmp .eq 9, 3) := by decide +kernel
theorem dX6_readGroup_38 : decode cX6_readGroup 38 = .ok (.aload_n 0, 1) := by decide +kernel
theorem dX6_readGroup_39 : decode cX6_readGroup 39 = .ok (.iconst 2, 1) := by decide +kernel
theorem dX6_readGroup_40 : decode cX6_readGroup 40 = .ok (.invokevirtual 123, 3) := by decide +kernel
theorem dX6_readGroup_43 : decode cX6_readGroup 43 = .ok (.return_, 1) := by decide +kernel
theorem dX6_readGroup_44 : decode cX6_readGroup 44 = .ok (.aload_n 0, 1) := by decide +kernel
theorem dX6_readGroup_45 : decode cX6_readGroup 45 = .ok (.invokevirtual 117, 3) := by decide +kernel
theorem dX6_readGroup_48 : decode cX6_readGroup 48 = .ok (.return_, 1) := by decide +kernel
theorem dX6_readHeldIn_0 : decode cX6_readHeldIn 0 = .ok (.aload_n 0, 1) := by decide +kernel
theorem dX6_readHeldIn_1 : decode cX6_readHeldIn 1 = .ok (.iconst 0, 1) := by decide +kernel
theorem dX6_readHeldIn_2 : decode cX6_readHeldIn 2 = .ok (.sipush 255, 3) := by decide +kernel
theorem dX6_readHeldIn_5 : decode cX6_readHeldIn 5 = .ok (.invokevirtual 143, 3) := by decide +kernel
theorem dX6_readHeldIn_8 : decode cX6_readHeldIn 8 = .ok (.istore_n 2, 1) := by decide +kernel
theorem dX6_readHeldIn_9 : decode cX6_readHeldIn 9 = .ok (.iconst 0, 1) := by decide +kernel
theorem dX6_readHeldIn_10 : decode cX6_readHeldIn 10 = .ok (.istore_n 3, 1) := by decide +kernel
theorem dX6_readHeldIn_11 : decode cX6_readHeldIn 11 = .ok (.iload_n 3, 1) := by decide +kernel
theorem dX6_readHeldIn_12 : decode cX6_readHeldIn 12 = .ok (.iconst 3, 1) := by decide +kernel
theorem dX6_readHeldIn_13 : decode cX6_readHeldIn 13 = .ok (.if_icmp .ge 30, 3) := by decide +kernel
theorem dX6_readHeldIn_16 : decode cX6_readHeldIn 16 = .ok (.aload_n 0, 1) := by decide +kernel
theorem dX6_readHeldIn_17 : decode cX6_readHeldIn 17 = .ok (.sipush 1046, 3) := by decide +kernel
theorem dX6_readHeldIn_20 : decode cX6_readHeldIn 20 = .ok (.invokevirtual 136, 3) := by decide +kernel
theorem dX6_readHeldIn_23 : decode cX6_readHeldIn 23 = .ok (.iload_n 2, 1) := by decide +kernel
theorem dX6_readHeldIn_24 : decode cX6_readHeldIn 24 = .ok (.bipush 8, 2) := by decide +kernel
theorem dX6_readHeldIn_26 : decode cX6_readHeldIn 26 = .ok (.ishl, 1) := by decide +kernel
theorem dX6_readHeldIn_27 : decode cX6_readHeldIn 27 = .ok (.aload_n 0, 1) := by decide +kernel
theorem dX6_readHeldIn_28 : decode cX6_readHeldIn 28 = .ok (.iconst 0, 1) := by decide +kernel
theorem dX6_readHeldIn_29 : decode cX6_readHeldIn 29 = .ok (.sipush 255, 3) := by decide +kernel
theorem dX6_readHeldIn_32 : decode cX6_readHeldIn 32 = .ok (.invokevirtual 143, 3) := by decide +kernel
theorem dX6_readHeldIn_35 : decode cX6_readHeldIn 35 = .ok (.ior, 1) := by decide +kernel
theorem dX6_readHeldIn_36 : decode cX6_readHeldIn 36 = .ok (.istore_n 2, 1) := by decide +kernel
theorem dX6_readHeldIn_37 : decode cX6_readHeldIn 37 = .ok (.iinc 3 1, 3) := by decide +kernel
theorem dX6_readHeldIn_40 : decode cX6_readHeldIn 40 = .ok (.goto (-29), 3) := by decide +kernel
theorem dX6_readHeldIn_43 : decode cX6_readHeldIn 43 = .ok (.aload_n 0, 1) := by decide +kernel
theorem dX6_readHeldIn_44 : decode cX6_readHeldIn 44 = .ok (.sipush 1047, 3) := by decide +kernel
theorem dX6_readHeldIn_47 : decode cX6_readHeldIn 47 = .ok (.invokevirtual 136, 3) := by decide +kernel
theorem dX6_readHeldIn_50 : decode cX6_readHeldIn 50 = .ok (.aload_n 0, 1) := by decide +kernel
theorem dX6_readHeldIn_51 : decode cX6_readHeldIn 51 = .ok (.getfield 9, 3) := by decide +kernel
theorem dX6_readHeldIn_54 : decode cX6_readHeldIn 54 = .ok (.aload_n 0, 1) := by decide +kernel
theorem dX6_readHeldIn_55 : decode cX6_readHeldIn 55 = .ok (.getfield 63, 3) := by decide +kernel
theorem dX6_readHeldIn_58 : decode cX6_readHeldIn 58 = .ok (.iaload, 1) := by decide +kernel
theorem dX6_readHeldIn_59 : decode cX6_readHeldIn 59 = .ok (.bipush (-2), 2) := by decide +kernel
theorem dX6_readHeldIn_61 : decode cX6_readHeldIn 61 = .ok (.if_icmp .ne 21, 3) := by decide +kernel
theorem dX6_readHeldIn_64 : decode cX6_readHeldIn 64 = .ok (.aload_n 0, 1) := by decide +kernel
theorem dX6_readHeldIn_65 : decode cX6_readHeldIn 65 = .ok (.getfield 15, 3) := by decide +kernel
theorem dX6_readHeldIn_68 : decode cX6_readHeldIn 68 = .ok (.aload_n 0, 1) := by decide +kernel
theorem dX6_readHeldIn_69 : decode cX6_readHeldIn 69 = .ok (.getfield 63, 3) := by decide +kernel
theorem dX6_readHeldIn_72 : decode cX6_readHeldIn 72 = .ok (.iaload, 1) := by decide +kernel
theorem dX6_readHeldIn_73 : decode cX6_readHeldIn 73 = .ok (.bipush 32, 2) := by decide +kernel
theorem dX6_readHeldIn_75 : decode cX6_readHeldIn 75 = .ok (.if_icmp .gt 7, 3) := by decide +kernel
theorem dX6_readHeldIn_78 : decode cX6_readHeldIn 78 = .ok (.iconst 1, 1) := by decide +kernel
theorem dX6_readHeldIn_79 : decode cX6_readHeldIn 79 = .ok (.goto 4, 3) := by decide +kernel
theorem dX6_readHeldIn_82 : decode cX6_readHeldIn 82 = .ok (.iconst 0, 1) := by decide +kernel
theorem dX6_readHeldIn_83 : decode cX6_readHeldIn 83 = .ok (.istore_n 3, 1) := by decide +kernel
theorem dX6_readHeldIn_84 : decode cX6_readHeldIn 84 = .ok (.iload_n 3, 1) := by decide +kernel
theorem dX6_readHeldIn_85 : decode cX6_readHeldIn 85 = .ok (.ifCond .eq 27, 3) := by decide +kernel
theorem dX6_readHeldIn_88 : decode cX6_readHeldIn 88 = .ok (.iload_n 2, 1) := by decide +kernel
theorem dX6_readHeldIn_89 : decode cX6_readHeldIn 89 = .ok (.aload_n 0, 1) := by decide +kernel
theorem dX6_readHeldIn_90 : decode cX6_readHeldIn 90 = .ok (.getfield 15, 3) := by decide +kernel
theorem dX6_readHeldIn_93 : decode cX6_readHeldIn 93 = .ok (.aload_n 0, 1) := by decide +kernel
theorem dX6_readHeldIn_94 : decode cX6_readHeldIn 94 = .ok (.getfield 63, 3) := by decide +kernel
theorem dX6_readHeldIn_97 : decode cX6_readHeldIn 97 = .ok (.iaload, 1) := by decide +kernel
theorem dX6_readHeldIn_98 : decode cX6_readHeldIn 98 = .ok (.invokestatic 171, 3) := by decide +kernel
theorem dX6_readHeldIn_101 : decode cX6_readHeldIn 101 = .ok (.iconst (-1), 1) := by decide +kernel
theorem dX6_readHeldIn_102 : decode cX6_readHeldIn 102 = .ok (.ixor, 1) := by decide +kernel
theorem dX6_readHeldIn_103 : decode cX6_readHeldIn 103 = .ok (.iand, 1) := by decide +kernel
theorem dX6_readHeldIn_104 : decode cX6_readHeldIn 104 = .ok (.ifCond .eq 8, 3) := by decide +kernel
theorem dX6_readHeldIn_107 : decode cX6_readHeldIn 107 = .ok (.aload_n 0, 1) := by decide +kernel
theorem dX6_readHeldIn_108 : decode cX6_readHeldIn 108 = .ok (.iconst 3, 1) := by decide +kernel
theorem dX6_readHeldIn_109 : decode cX6_readHeldIn 109 = .ok (.invokevirtual 123, 3) := by decide +kernel
theorem dX6_readHeldIn_112 : decode cX6_readHeldIn 112 = .ok (.aload_n 0, 1) := by decide +kernel
theorem dX6_readHeldIn_113 : decode cX6_readHeldIn 113 = .ok (.iconst 0, 1) := by decide +kernel
theorem dX6_readHeldIn_114 : decode cX6_readHeldIn 114 = .ok (.bipush 32, 2) := by decide +kernel
theorem dX6_readHeldIn_116 : decode cX6_readHeldIn 116 = .ok (.invokevirtual 143, 3) := by decide +kernel
theorem dX6_readHeldIn_119 : decode cX6_readHeldIn 119 = .ok (.istore 4, 2) := by decide +kernel
theorem dX6_readHeldIn_121 : decode cX6_readHeldIn 121 = .ok (.aload_n 0, 1) := by decide +kernel
theorem dX6_readHeldIn_122 : decode cX6_readHeldIn 122 = .ok (.iconst 5, 1) := by decide +kernel
theorem dX6_readHeldIn_123 : decode cX6_readHeldIn 123 = .ok (.invokevirtual 120, 3) := by decide +kernel
theorem dX6_readHeldIn_126 : decode cX6_readHeldIn 126 = .ok (.ifCond .eq 14, 3) := by decide +kernel
theorem dX6_readHeldIn_129 : decode cX6_readHeldIn 129 = .ok (.aload_n 0, 1) := by decide +kernel
theorem dX6_readHeldIn_130 : decode cX6_readHeldIn 130 = .ok (.iload 4, 2) := by decide +kernel
theorem dX6_readHeldIn_132 : decode cX6_readHeldIn 132 = .ok (.bipush 32, 2) := by decide +kernel
theorem dX6_readHeldIn_134 : decode cX6_readHeldIn 134 = .ok (.invokevirtual 143, 3) := by decide +kernel
theorem dX6_readHeldIn_137 : decode cX6_readHeldIn 137 = .ok (.goto 5, 3) := by decide +kernel
theorem dX6_readHeldIn_140 : decode cX6_readHeldIn 140 = .ok (.bipush 32, 2) := by decide +kernel
theorem dX6_readHeldIn_142 : decode cX6_readHeldIn 142 = .ok (.istore 5, 2) := by decide +kernel
theorem dX6_readHeldIn_144 : decode cX6_readHeldIn 144 = .ok (.aload_n 0, 1) := by decide +kernel
theorem dX6_readHeldIn_145 : decode cX6_readHeldIn 145 = .ok (.iconst 4, 1) := by decide +kernel
theorem dX6_readHeldIn_146 : decode cX6_readHeldIn 146 = .ok (.iload_n 1, 1) := by decide +kernel
theorem dX6_readHeldIn_147 : decode cX6_readHeldIn 147 = .ok (.iload_n 2, 1) := by decide +kernel
theorem dX6_readHeldIn_148 : decode cX6_readHeldIn 148 = .ok (.iload 4, 2) := by decide +kernel
theorem dX6_readHeldIn_150 : decode cX6_readHeldIn 150 = .ok (.iload 5, 2) := by decide +kernel
theorem dX6_readHeldIn_152 : decode cX6_readHeldIn 152 = .ok (.invokevirtual 157, 3) := by decide +kernel
theorem dX6_readHeldIn_155 : decode cX6_readHeldIn 155 = .ok (.return_, 1) := by decide +kernel
theorem dX6_readRow_0 : decode cX6_readRow 0 = .ok (.aload_n 0, 1) := by decide +kernel
theorem dX6_readRow_1 : decode cX6_readRow 1 = .ok (.getfield 9, 3) := by decide +kernel
theorem dX6_readRow_4 : decode cX6_readRow 4 = .ok (.aload_n 0, 1) := by decide +kernel
theorem dX6_readRow_5 : decode cX6_readRow 5 = .ok (.getfield 63, 3) := by decide +kernel
theorem dX6_readRow_8 : decode cX6_readRow 8 = .ok (.iaload, 1) := by decide +kernel
theorem dX6_readRow_9 : decode cX6_readRow 9 = .ok (.ifCond .eq 24, 3) := by decide +kernel
theorem dX6_readRow_12 : decode cX6_readRow 12 = .ok (.aload_n 0, 1) := by decide +kernel
theorem dX6_readRow_13 : decode cX6_readRow 13 = .ok (.getfield 9, 3) := by decide +kernel
theorem dX6_readRow_16 : decode cX6_readRow 16 = .ok (.aload_n 0, 1) := by decide +kernel
theorem dX6_readRow_17 : decode cX6_readRow 17 = .ok (.getfield 63, 3) := by decide +kernel
theorem dX6_readRow_20 : decode cX6_readRow 20 = .ok (.iaload, 1) := by decide +kernel
theorem dX6_readRow_21 : decode cX6_readRow 21 = .ok (.invokestatic 127, 3) := by decide +kernel
theorem dX6_readRow_24 : decode cX6_readRow 24 = .ok (.ifCond .ne 9, 3) := by decide +kernel
theorem dX6_readRow_27 : decode cX6_readRow 27 = .ok (.aload_n 0, 1) := by decide +kernel
theorem dX6_readRow_28 : decode cX6_readRow 28 = .ok (.iconst 2, 1) := by decide +kernel
theorem dX6_readRow_29 : decode cX6_readRow 29 = .ok (.invokevirtual 123, 3) := by decide +kernel
theorem dX6_readRow_32 : decode cX6_readRow 32 = .ok (.return_, 1) := by decide +kernel
theorem dX6_readRow_33 : decode cX6_readRow 33 = .ok (.aload_n 0, 1) := by decide +kernel
theorem dX6_readRow_34 : decode cX6_readRow 34 = .ok (.getfield 44, 3) := by decide +kernel
theorem dX6_readRow_37 : decode cX6_readRow 37 = .ok (.bipush 30, 2) := by decide +kernel
theorem dX6_readRow_39 : decode cX6_readRow 39 = .ok (.if_icmp .lt 9, 3) := by decide +kernel
theorem dX6_readRow_42 : decode cX6_readRow 42 = .ok (.aload_n 0, 1) := by decide +kernel
theorem dX6_readRow_43 : decode cX6_readRow 43 = .ok (.iconst 4, 1) := by decide +kernel
theorem dX6_readRow_44 : decode cX6_readRow 44 = .ok (.invokevirtual 123, 3) := by decide +kernel
theorem dX6_readRow_47 : decode cX6_readRow 47 = .ok (.return_, 1) := by decide +kernel
theorem dX6_readRow_48 : decode cX6_readRow 48 = .ok (.aload_n 0, 1) := by decide +kernel
theorem dX6_readRow_49 : decode cX6_readRow 49 = .ok (.dup, 1) := by decide +kernel
theorem dX6_readRow_50 : decode cX6_readRow 50 = .ok (.getfield 44, 3) := by decide +kernel
theorem dX6_readRow_53 : decode cX6_readRow 53 = .ok (.iconst 1, 1) := by decide +kernel
theorem dX6_readRow_54 : decode cX6_readRow 54 = .ok (.iadd, 1) := by decide +kernel
theorem dX6_readRow_55 : decode cX6_readRow 55 = .ok (.putfield 44, 3) := by decide +kernel
theorem dX6_readRow_58 : decode cX6_readRow 58 = .ok (.aload_n 0, 1) := by decide +kernel
theorem dX6_readRow_59 : decode cX6_readRow 59 = .ok (.getfield 47, 3) := by decide +kernel
theorem dX6_readRow_62 : decode cX6_readRow 62 = .ok (.istore_n 1, 1) := by decide +kernel
theorem dX6_readRow_63 : decode cX6_readRow 63 = .ok (.aload_n 0, 1) := by decide +kernel
theorem dX6_readRow_64 : decode cX6_readRow 64 = .ok (.iconst 0, 1) := by decide +kernel
theorem dX6_readRow_65 : decode cX6_readRow 65 = .ok (.invokevirtual 130, 3) := by decide +kernel
theorem dX6_readRow_68 : decode cX6_readRow 68 = .ok (.aload_n 0, 1) := by decide +kernel
theorem dX6_readRow_69 : decode cX6_readRow 69 = .ok (.iconst 0, 1) := by decide +kernel
theorem dX6_readRow_70 : decode cX6_readRow 70 = .ok (.invokevirtual 130, 3) := by decide +kernel
theorem dX6_readRow_73 : decode cX6_readRow 73 = .ok (.aload_n 0, 1) := by decide +kernel
theorem dX6_readRow_74 : decode cX6_readRow 74 = .ok (.iconst 0, 1) := by decide +kernel
theorem dX6_readRow_75 : decode cX6_readRow 75 = .ok (.invokevirtual 120, 3) := by decide +kernel
theorem dX6_readRow_78 : decode cX6_readRow 78 = .ok (.istore_n 2, 1) := by decide +kernel
theorem dX6_readRow_79 : decode cX6_readRow 79 = .ok (.iload_n 2, 1) := by decide +kernel
theorem dX6_readRow_80 : decode cX6_readRow 80 = .ok (.istore_n 3, 1) := by decide +kernel
theorem dX6_readRow_81 : decode cX6_readRow 81 = .ok (.iconst 0, 1) := by decide +kernel
theorem dX6_readRow_82 : decode cX6_readRow 82 = .ok (.istore 4, 2) := by decide +kernel
theorem dX6_readRow_84 : decode cX6_readRow 84 = .ok (.iload 4, 2) := by decide +kernel
theorem dX6_readRow_86 : decode cX6_readRow 86 = .ok (.sipush 1000, 3) := by decide +kernel
theorem dX6_readRow_89 : decode cX6_readRow 89 = .ok (.if_icmp .ge 33, 3) := by decide +kernel
theorem dX6_readRow_92 : decode cX6_readRow 92 = .ok (.iload_n 3, 1) := by decide +kernel
theorem dX6_readRow_93 : decode cX6_readRow 93 = .ok (.ifCond .eq 29, 3) := by decide +kernel
theorem dX6_readRow_96 : decode cX6_readRow 96 = .ok (.aload_n 0, 1) := by decide +kernel
theorem dX6_readRow_97 : decode cX6_readRow 97 = .ok (.invokevirtual 133, 3) := by decide +kernel
theorem dX6_readRow_100 : decode cX6_readRow 100 = .ok (.aload_n 0, 1) := by decide +kernel
theorem dX6_readRow_101 : decode cX6_readRow 101 = .ok (.getfield 21, 3) := by decide +kernel
theorem dX6_readRow_104 : decode cX6_readRow 104 = .ok (.iload_n 1, 1) := by decide +kernel
theorem dX6_readRow_105 : decode cX6_readRow 105 = .ok (.dup2, 1) := by decide +kernel
theorem dX6_readRow_106 : decode cX6_readRow 106 = .ok (.iaload, 1) := by decide +kernel
theorem dX6_readRow_107 : decode cX6_readRow 107 = .ok (.iconst 1, 1) := by decide +kernel
theorem dX6_readRow_108 : decode cX6_readRow 108 = .ok (.iadd, 1) := by decide +kernel
theorem dX6_readRow_109 : decode cX6_readRow 109 = .ok (.iastore, 1) := by decide +kernel
theorem dX6_readRow_110 : decode cX6_readRow 110 = .ok (.aload_n 0, 1) := by decide +kernel
theorem dX6_readRow_111 : decode cX6_readRow 111 = .ok (.iconst 1, 1) := by decide +kernel
theorem dX6_readRow_112 : decode cX6_readRow 112 = .ok (.invokevirtual 120, 3) := by decide +kernel
theorem dX6_readRow_115 : decode cX6_readRow 115 = .ok (.istore_n 3, 1) := by decide +kernel
theorem dX6_readRow_116 : decode cX6_readRow 116 = .ok (.iinc 4 1, 3) := by decide +kernel
theorem dX6_readRow_119 : decode cX6_readRow 119 = .ok (.goto (-35), 3) := by decide +kernel
theorem dX6_readRow_122 : decode cX6_readRow 122 = .ok (.iload_n 2, 1) := by decide +kernel
theorem dX6_readRow_123 : decode cX6_readRow 123 = .ok (.ifCond .eq 8, 3) := by decide +kernel
theorem dX6_readRow_126 : decode cX6_readRow 126 = .ok (.aload_n 0, 1) := by decide +kernel
theorem dX6_readRow_127 : decode cX6_readRow 127 = .ok (.iconst 2, 1) := by decide +kernel
theorem dX6_readRow_128 : decode cX6_readRow 128 = .ok (.invokevirtual 136, 3) := by decide +kernel
theorem dX6_readRow_131 : decode cX6_readRow 131 = .ok (.iconst 1, 1) := by decide +kernel
theorem dX6_readRow_132 : decode cX6_readRow 132 = .ok (.istore_n 3, 1) := by decide +kernel
theorem dX6_readRow_133 : decode cX6_readRow 133 = .ok (.iconst 0, 1) := by decide +kernel
theorem dX6_readRow_134 : decode cX6_readRow 134 = .ok (.istore 4, 2) := by decide +kernel
theorem dX6_readRow_136 : decode cX6_readRow 136 = .ok (.iload 4, 2) := by decide +kernel
theorem dX6_readRow_138 : decode cX6_readRow 138 = .ok (.sipush 1000, 3) := by decide +kernel
theorem dX6_readRow_141 : decode cX6_readRow 141 = .ok (.if_icmp .ge 37, 3) := by decide +kernel
theorem dX6_readRow_144 : decode cX6_readRow 144 = .ok (.iload_n 3, 1) := by decide +kernel
theorem dX6_readRow_145 : decode cX6_readRow 145 = .ok (.ifCond .eq 33, 3) := by decide +kernel
theorem dX6_readRow_148 : decode cX6_readRow 148 = .ok (.aload_n 0, 1) := by decide +kernel
theorem dX6_readRow_149 : decode cX6_readRow 149 = .ok (.invokevirtual 139, 3) := by decide +kernel
theorem dX6_readRow_152 : decode cX6_readRow 152 = .ok (.aload_n 0, 1) := by decide +kernel
theorem dX6_readRow_153 : decode cX6_readRow 153 = .ok (.getfield 21, 3) := by decide +kernel
theorem dX6_readRow_156 : decode cX6_readRow 156 = .ok (.iload_n 1, 1) := by decide +kernel
theorem dX6_readRow_157 : decode cX6_readRow 157 = .ok (.iconst 1, 1) := by decide +kernel
theorem dX6_readRow_158 : decode cX6_readRow 158 = .ok (.iadd, 1) := by decide +kernel
theorem dX6_readRow_159 : decode cX6_readRow 159 = .ok (.dup2, 1) := by decide +kernel
theorem dX6_readRow_160 : decode cX6_readRow 160 = .ok (.iaload, 1) := by decide +kernel
theorem dX6_readRow_161 : decode cX6_readRow 161 = .ok (.iconst 1, 1) := by decide +kernel
theorem dX6_readRow_162 : decode cX6_readRow 162 = .ok (.iadd, 1) := by decide +kernel
theorem dX6_readRow_163 : decode cX6_readRow 163 = .ok (.iastore, 1) := by decide +kernel
theorem dX6_readRow_164 : decode cX6_readRow 164 = .ok (.aload_n 0, 1) := by decide +kernel
theorem dX6_readRow_165 : decode cX6_readRow 165 = .ok (.sipush 1044, 3) := by decide +kernel
theorem dX6_readRow_168 : decode cX6_readRow 168 = .ok (.invokevirtual 120, 3) := by decide +kernel
theorem dX6_readRow_171 : decode cX6_readRow 171 = .ok (.istore_n 3, 1) := by decide +kernel
theorem dX6_readRow_172 : decode cX6_readRow 172 = .ok (.iinc 4 1, 3) := by decide +kernel
theorem dX6_readRow_175 : decode cX6_readRow 175 = .ok (.goto (-39), 3) := by decide +kernel
theorem dX6_readRow_178 : decode cX6_readRow 178 = .ok (.aload_n 0, 1) := by decide +kernel
theorem dX6_readRow_179 : decode cX6_readRow 179 = .ok (.sipush 1059, 3) := by decide +kernel
theorem dX6_readRow_182 : decode cX6_readRow 182 = .ok (.invokevirtual 136, 3) := by decide +kernel
theorem dX6_readRow_185 : decode cX6_readRow 185 = .ok (.return_, 1) := by decide +kernel
theorem dX6_readTest_0 : decode cX6_readTest 0 = .ok (.iconst 0, 1) := by decide +kernel
theorem dX6_readTest_1 : decode cX6_readTest 1 = .ok (.istore_n 1, 1) := by decide +kernel
theorem dX6_readTest_2 : decode cX6_readTest 2 = .ok (.iconst 0, 1) := by decide +kernel
theorem dX6_readTest_3 : decode cX6_readTest 3 = .ok (.istore_n 2, 1) := by decide +kernel
theorem dX6_readTest_4 : decode cX6_readTest 4 = .ok (.iload_n 2, 1) := by decide +kernel
theorem dX6_readTest_5 : decode cX6_readTest 5 = .ok (.sipush 1000, 3) := by decide +kernel
theorem dX6_readTest_8 : decode cX6_readTest 8 = .ok (.if_icmp .ge 21, 3) := by decide +kernel
theorem dX6_readTest_11 : decode cX6_readTest 11 = .ok (.aload_n 0, 1) := by decide +kernel
theorem dX6_readTest_12 : decode cX6_readTest 12 = .ok (.iconst 3, 1) := by decide +kernel
theorem dX6_readTest_13 : decode cX6_readTest 13 = .ok (.invokevirtual 120, 3) := by decide +kernel
theorem dX6_readTest_16 : decode cX6_readTest 16 = .ok (.ifCond .eq 13, 3) := by decide +kernel
theorem dX6_readTest_19 : decode cX6_readTest 19 = .ok (.iconst 1, 1) := by decide +kernel
theorem dX6_readTest_20 : decode cX6_readTest 20 = .ok (.iload_n 1, 1) := by decide +kernel
theorem dX6_readTest_21 : decode cX6_readTest 21 = .ok (.isub, 1) := by decide +kernel
theorem dX6_readTest_22 : decode cX6_readTest 22 = .ok (.istore_n 1, 1) := by decide +kernel
theorem dX6_readTest_23 : decode cX6_readTest 23 = .ok (.iinc 2 1, 3) := by decide +kernel
theorem dX6_readTest_26 : decode cX6_readTest 26 = .ok (.goto (-22), 3) := by decide +kernel
theorem dX6_readTest_29 : decode cX6_readTest 29 = .ok (.aload_n 0, 1) := by decide +kernel
theorem dX6_readTest_30 : decode cX6_readTest 30 = .ok (.getfield 9, 3) := by decide +kernel
theorem dX6_readTest_33 : decode cX6_readTest 33 = .ok (.aload_n 0, 1) := by decide +kernel
theorem dX6_readTest_34 : decode cX6_readTest 34 = .ok (.getfield 63, 3) := by decide +kernel
theorem dX6_readTest_37 : decode cX6_readTest 37 = .ok (.iaload, 1) := by decide +kernel
theorem dX6_readTest_38 : decode cX6_readTest 38 = .ok (.istore_n 2, 1) := by decide +kernel
theorem dX6_readTest_39 : decode cX6_readTest 39 = .ok (.iload_n 2, 1) := by decide +kernel
theorem dX6_readTest_40 : decode cX6_readTest 40 = .ok (.invokestatic 148, 3) := by decide +kernel
theorem dX6_readTest_43 : decode cX6_readTest 43 = .ok (.ifCond .ne 9, 3) := by decide +kernel
theorem dX6_readTest_46 : decode cX6_readTest 46 = .ok (.aload_n 0, 1) := by decide +kernel
theorem dX6_readTest_47 : decode cX6_readTest 47 = .ok (.iconst 2, 1) := by decide +kernel
theorem dX6_readTest_48 : decode cX6_readTest 48 = .ok (.invokevirtual 123, 3) := by decide +kernel
theorem dX6_readTest_51 : decode cX6_readTest 51 = .ok (.return_, 1) := by decide +kernel
theorem dX6_readTest_52 : decode cX6_readTest 52 = .ok (.aload_n 0, 1) := by decide +kernel
theorem dX6_readTest_53 : decode cX6_readTest 53 = .ok (.invokevirtual 117, 3) := by decide +kernel
theorem dX6_readTest_56 : decode cX6_readTest 56 = .ok (.iload_n 2, 1) := by decide +kernel
theorem dX6_readTest_57 : decode cX6_readTest 57 = .ok (.tableswitch 198 4 15 #[63, 198, 71, 198, 79, 97, 132, 198, 176, 198, 115, 154], 63) := by decide +kernel
theorem dX6_readTest_120 : decode cX6_readTest 120 = .ok (.aload_n 0, 1) := by decide +kernel
theorem dX6_readTest_121 : decode cX6_readTest 121 = .ok (.iload_n 1, 1) := by decide +kernel
theorem dX6_readTest_122 : decode cX6_readTest 122 = .ok (.invokevirtual 151, 3) := by decide +kernel
theorem dX6_readTest_125 : decode cX6_readTest 125 = .ok (.goto 148, 3) := by decide +kernel
theorem dX6_readTest_128 : decode cX6_readTest 128 = .ok (.aload_n 0, 1) := by decide +kernel
theorem dX6_readTest_129 : decode cX6_readTest 129 = .ok (.iload_n 1, 1) := by decide +kernel
theorem dX6_readTest_130 : decode cX6_readTest 130 = .ok (.invokevirtual 154, 3) := by decide +kernel
theorem dX6_readTest_133 : decode cX6_readTest 133 = .ok (.goto 140, 3) := by decide +kernel
theorem dX6_readTest_136 : decode cX6_readTest 136 = .ok (.aload_n 0, 1) := by decide +kernel
theorem dX6_readTest_137 : decode cX6_readTest 137 = .ok (.iload_n 2, 1) := by decide +kernel
theorem dX6_readTest_138 : decode cX6_readTest 138 = .ok (.iload_n 1, 1) := by decide +kernel
theorem dX6_readTest_139 : decode cX6_readTest 139 = .ok (.aload_n 0, 1) := by decide +kernel
theorem dX6_readTest_140 : decode cX6_readTest 140 = .ok (.iconst 0, 1) := by decide +kernel
theorem dX6_readTest_141 : decode cX6_readTest 141 = .ok (.ldc 142, 2) := by decide +kernel
theorem dX6_readTest_143 : decode cX6_readTest 143 = .ok (.invokevirtual 143, 3) := by decide +kernel
theorem dX6_readTest_146 : decode cX6_readTest 146 = .ok (.iconst 0, 1) := by decide +kernel
theorem dX6_readTest_147 : decode cX6_readTest 147 = .ok (.iconst 0, 1) := by decide +kernel
theorem dX6_readTest_148 : decode cX6_readTest 148 = .ok (.invokevirtual 157, 3) := by decide +kernel
theorem dX6_readTest_151 : decode cX6_readTest 151 = .ok (.goto 122, 3) := by decide +kernel
theorem dX6_readTest_154 : decode cX6_readTest 154 = .ok (.aload_n 0, 1) := by decide +kernel
theorem dX6_readTest_155 : decode cX6_readTest 155 = .ok (.iload_n 2, 1) := by decide +kernel
theorem dX6_readTest_156 : decode cX6_readTest 156 = .ok (.iload_n 1, 1) := by decide +kernel
theorem dX6_readTest_157 : decode cX6_readTest 157 = .ok (.aload_n 0, 1) := by decide +kernel
theorem dX6_readTest_158 : decode cX6_readTest 158 = .ok (.iconst 0, 1) := by decide +kernel
theorem dX6_readTest_159 : decode cX6_readTest 159 = .ok (.bipush 9, 2) := by decide +kernel
theorem dX6_readTest_161 : decode cX6_readTest 161 = .ok (.invokevirtual 143, 3) := by decide +kernel
theorem dX6_readTest_164 : decode cX6_readTest 164 = .ok (.iconst 0, 1) := by decide +kernel
theorem dX6_readTest_165 : decode cX6_readTest 165 = .ok (.iconst 0, 1) := by decide +kernel
theorem dX6_readTest_166 : decode cX6_readTest 166 = .ok (.invokevirtual 157, 3) := by decide +kernel
theorem dX6_readTest_169 : decode cX6_readTest 169 = .ok (.goto 104, 3) := by decide +kernel
theorem dX6_readTest_172 : decode cX6_readTest 172 = .ok (.aload_n 0, 1) := by decide +kernel
theorem dX6_readTest_173 : decode cX6_readTest 173 = .ok (.iload_n 2, 1) := by decide +kernel
theorem dX6_readTest_174 : decode cX6_readTest 174 = .ok (.iload_n 1, 1) := by decide +kernel
theorem dX6_readTest_175 : decode cX6_readTest 175 = .ok (.aload_n 0, 1) := by decide +kernel
theorem dX6_readTest_176 : decode cX6_readTest 176 = .ok (.iconst 0, 1) := by decide +kernel
theorem dX6_readTest_177 : decode cX6_readTest 177 = .ok (.iconst 2, 1) := by decide +kernel
theorem dX6_readTest_178 : decode cX6_readTest 178 = .ok (.invokevirtual 143, 3) := by decide +kernel
theorem dX6_readTest_181 : decode cX6_readTest 181 = .ok (.iconst 0, 1) := by decide +kernel
theorem dX6_readTest_182 : decode cX6_readTest 182 = .ok (.iconst 0, 1) := by decide +kernel
theorem dX6_readTest_183 : decode cX6_readTest 183 = .ok (.invokevirtual 157, 3) := by decide +kernel
theorem dX6_readTest_186 : decode cX6_readTest 186 = .ok (.goto 87, 3) := by decide +kernel
theorem dX6_readTest_189 : decode cX6_readTest 189 = .ok (.aload_n 0, 1) := by decide +kernel
theorem dX6_readTest_190 : decode cX6_readTest 190 = .ok (.iload_n 2, 1) := by decide +kernel
theorem dX6_readTest_191 : decode cX6_readTest 191 = .ok (.iload_n 1, 1) := by decide +kernel
theorem dX6_readTest_192 : decode cX6_readTest 192 = .ok (.aload_n 0, 1) := by decide +kernel
theorem dX6_readTest_193 : decode cX6_readTest 193 = .ok (.bipush 16, 2) := by decide +kernel
theorem dX6_readTest_195 : decode cX6_readTest 195 = .ok (.bipush 19, 2) := by decide +kernel
theorem dX6_readTest_197 : decode cX6_readTest 197 = .ok (.invokevirtual 161, 3) := by decide +kernel
theorem dX6_readTest_200 : decode cX6_readTest 200 = .ok (.bipush 16, 2) := by decide +kernel
theorem dX6_readTest_202 : decode cX6_readTest 202 = .ok (.isub, 1) := by decide +kernel
theorem dX6_readTest_203 : decode cX6_readTest 203 = .ok (.iconst 0, 1) := by decide +kernel
theorem dX6_readTest_204 : decode cX6_readTest 204 = .ok (.iconst 0, 1) := by decide +kernel
theorem dX6_readTest_205 : decode cX6_readTest 205 = .ok (.invokevirtual 157, 3) := by decide +kernel
theorem dX6_readTest_208 : decode cX6_readTest 208 = .ok (.goto 65, 3) := by decide +kernel
theorem dX6_readTest_211 : decode cX6_readTest 211 = .ok (.aload_n 0, 1) := by decide +kernel
theorem dX6_readTest_212 : decode cX6_readTest 212 = .ok (.iload_n 2, 1) := by decide +kernel
theorem dX6_readTest_213 : decode cX6_readTest 213 = .ok (.iload_n 1, 1) := by decide +kernel
theorem dX6_readTest_214 : decode cX6_readTest 214 = .ok (.aload_n 0, 1) := by decide +kernel
theorem dX6_readTest_215 : decode cX6_readTest 215 = .ok (.bipush 20, 2) := by decide +kernel
theorem dX6_readTest_217 : decode cX6_readTest 217 = .ok (.bipush 22, 2) := by decide +kernel
theorem dX6_readTest_219 : decode cX6_readTest 219 = .ok (.invokevirtual 161, 3) := by decide +kernel
theorem dX6_readTest_222 : decode cX6_readTest 222 = .ok (.invokestatic 164, 3) := by decide +kernel
theorem dX6_readTest_225 : decode cX6_readTest 225 = .ok (.iconst 0, 1) := by decide +kernel
theorem dX6_readTest_226 : decode cX6_readTest 226 = .ok (.iconst 0, 1) := by decide +kernel
theorem dX6_readTest_227 : decode cX6_readTest 227 = .ok (.invokevirtual 157, 3) := by decide +kernel
theorem dX6_readTest_230 : decode cX6_readTest 230 = .ok (.goto 43, 3) := by decide +kernel
theorem dX6_readTest_233 : decode cX6_readTest 233 = .ok (.aload_n 0, 1) := by decide +kernel
theorem dX6_readTest_234 : decode cX6_readTest 234 = .ok (.iload_n 2, 1) := by decide +kernel
theorem dX6_readTest_235 : decode cX6_readTest 235 = .ok (.iload_n 1, 1) := by decide +kernel
theorem dX6_readTest_236 : decode cX6_readTest 236 = .ok (.aload_n 0, 1) := by decide +kernel
theorem dX6_readTest_237 : decode cX6_readTest 237 = .ok (.invokevirtual 168, 3) := by decide +kernel
theorem dX6_readTest_240 : decode cX6_readTest 240 = .ok (.aload_n 0, 1) := by decide +kernel
theorem dX6_readTest_241 : decode cX6_readTest 241 = .ok (.iconst 0, 1) := by decide +kernel
theorem dX6_readTest_242 : decode cX6_readTest 242 = .ok (.sipush 1000, 3) := by decide +kernel
theorem dX6_readTest_245 : decode cX6_readTest 245 = .ok (.invokevirtual 143, 3) := by decide +kernel
theorem dX6_readTest_248 : decode cX6_readTest 248 = .ok (.iconst 0, 1) := by decide +kernel
theorem dX6_readTest_249 : decode cX6_readTest 249 = .ok (.invokevirtual 157, 3) := by decide +kernel
theorem dX6_readTest_252 : decode cX6_readTest 252 = .ok (.goto 21, 3) := by decide +kernel
theorem dX6_readTest_255 : decode cX6_readTest 255 = .ok (.aload_n 0, 1) := by decide +kernel
theorem dX6_readTest_256 : decode cX6_readTest 256 = .ok (.iload_n 2, 1) := by decide +kernel
theorem dX6_readTest_257 : decode cX6_readTest 257 = .ok (.iload_n 1, 1) := by decide +kernel
theorem dX6_readTest_258 : decode cX6_readTest 258 = .ok (.aload_n 0, 1) := by decide +kernel
theorem dX6_readTest_259 : decode cX6_readTest 259 = .ok (.invokevirtual 168, 3) := by decide +kernel
theorem dX6_readTest_262 : decode cX6_readTest 262 = .ok (.aload_n 0, 1) := by decide +kernel
theorem dX6_readTest_263 : decode cX6_readTest 263 = .ok (.iconst 0, 1) := by decide +kernel
theorem dX6_readTest_264 : decode cX6_readTest 264 = .ok (.ldc 147, 2) := by decide +kernel
theorem dX6_readTest_266 : decode cX6_readTest 266 = .ok (.invokevirtual 143, 3) := by decide +kernel
theorem dX6_readTest_269 : decode cX6_readTest 269 = .ok (.iconst 0, 1) := by decide +kernel
theorem dX6_readTest_270 : decode cX6_readTest 270 = .ok (.invokevirtual 157, 3) := by decide +kernel
theorem dX6_readTest_273 : decode cX6_readTest 273 = .ok (.return_, 1) := by decide +kernel
theorem dX6_readWay_0 : decode cX6_readWay 0 = .ok (.aload_n 0, 1) := by decide +kernel
theorem dX6_readWay_1 : decode cX6_readWay 1 = .ok (.sipush 1040, 3) := by decide +kernel
theorem dX6_readWay_4 : decode cX6_readWay 4 = .ok (.invokevirtual 136, 3) := by decide +kernel
theorem dX6_readWay_7 : decode cX6_readWay 7 = .ok (.aload_n 0, 1) := by decide +kernel
theorem dX6_readWay_8 : decode cX6_readWay 8 = .ok (.iconst 1, 1) := by decide +kernel
theorem dX6_readWay_9 : decode cX6_readWay 9 = .ok (.invokevirtual 176, 3) := by decide +kernel
theorem dX6_readWay_12 : decode cX6_readWay 12 = .ok (.aload_n 0, 1) := by decide +kernel
theorem dX6_readWay_13 : decode cX6_readWay 13 = .ok (.sipush 1041, 3) := by decide +kernel
theorem dX6_readWay_16 : decode cX6_readWay 16 = .ok (.invokevirtual 136, 3) := by decide +kernel
theorem dX6_readWay_19 : decode cX6_readWay 19 = .ok (.aload_n 0, 1) := by decide +kernel
theorem dX6_readWay_20 : decode cX6_readWay 20 = .ok (.getfield 53, 3) := by decide +kernel
theorem dX6_readWay_23 : decode cX6_readWay 23 = .ok (.sipush 250, 3) := by decide +kernel
theorem dX6_readWay_26 : decode cX6_readWay 26 = .ok (.if_icmp .ge 63, 3) := by decide +kernel
theorem dX6_readWay_29 : decode cX6_readWay 29 = .ok (.aload_n 0, 1) := by decide +kernel
theorem dX6_readWay_30 : decode cX6_readWay 30 = .ok (.getfield 31, 3) := by decide +kernel
theorem dX6_readWay_33 : decode cX6_readWay 33 = .ok (.aload_n 0, 1) := by decide +kernel
theorem dX6_readWay_34 : decode cX6_readWay 34 = .ok (.getfield 53, 3) := by decide +kernel
theorem dX6_readWay_37 : decode cX6_readWay 37 = .ok (.aload_n 0, 1) := by decide +kernel
theorem dX6_readWay_38 : decode cX6_readWay 38 = .ok (.getfield 179, 3) := by decide +kernel
theorem dX6_readWay_41 : decode cX6_readWay 41 = .ok (.lastore, 1) := by decide +kernel
theorem dX6_readWay_42 : decode cX6_readWay 42 = .ok (.aload_n 0, 1) := by decide +kernel
theorem dX6_readWay_43 : decode cX6_readWay 43 = .ok (.getfield 34, 3) := by decide +kernel
theorem dX6_readWay_46 : decode cX6_readWay 46 = .ok (.aload_n 0, 1) := by decide +kernel
theorem dX6_readWay_47 : decode cX6_readWay 47 = .ok (.getfield 53, 3) := by decide +kernel
theorem dX6_readWay_50 : decode cX6_readWay 50 = .ok (.aload_n 0, 1) := by decide +kernel
theorem dX6_readWay_51 : decode cX6_readWay 51 = .ok (.getfield 183, 3) := by decide +kernel
theorem dX6_readWay_54 : decode cX6_readWay 54 = .ok (.lastore, 1) := by decide +kernel
theorem dX6_readWay_55 : decode cX6_readWay 55 = .ok (.aload_n 0, 1) := by decide +kernel
theorem dX6_readWay_56 : decode cX6_readWay 56 = .ok (.bipush 6, 2) := by decide +kernel
theorem dX6_readWay_58 : decode cX6_readWay 58 = .ok (.iload_n 1, 1) := by decide +kernel
theorem dX6_readWay_59 : decode cX6_readWay 59 = .ok (.aload_n 0, 1) := by decide +kernel
theorem dX6_readWay_60 : decode cX6_readWay 60 = .ok (.getfield 53, 3) := by decide +kernel
theorem dX6_readWay_63 : decode cX6_readWay 63 = .ok (.aload_n 0, 1) := by decide +kernel
theorem dX6_readWay_64 : decode cX6_readWay 64 = .ok (.getfield 186, 3) := by decide +kernel
theorem dX6_readWay_67 : decode cX6_readWay 67 = .ok (.ifCond .eq 7, 3) := by decide +kernel
theorem dX6_readWay_70 : decode cX6_readWay 70 = .ok (.iconst 1, 1) := by decide +kernel
theorem dX6_readWay_71 : decode cX6_readWay 71 = .ok (.goto 4, 3) := by decide +kernel
theorem dX6_readWay_74 : decode cX6_readWay 74 = .ok (.iconst 0, 1) := by decide +kernel
theorem dX6_readWay_75 : decode cX6_readWay 75 = .ok (.iconst 0, 1) := by decide +kernel
theorem dX6_readWay_76 : decode cX6_readWay 76 = .ok (.invokevirtual 157, 3) := by decide +kernel
theorem dX6_readWay_79 : decode cX6_readWay 79 = .ok (.aload_n 0, 1) := by decide +kernel
theorem dX6_readWay_80 : decode cX6_readWay 80 = .ok (.dup, 1) := by decide +kernel
theorem dX6_readWay_81 : decode cX6_readWay 81 = .ok (.getfield 53, 3) := by decide +kernel
theorem dX6_readWay_84 : decode cX6_readWay 84 = .ok (.iconst 1, 1) := by decide +kernel
theorem dX6_readWay_85 : decode cX6_readWay 85 = .ok (.iadd, 1) := by decide +kernel
theorem dX6_readWay_86 : decode cX6_readWay 86 = .ok (.putfield 53, 3) := by decide +kernel
theorem dX6_readWay_89 : decode cX6_readWay 89 = .ok (.return_, 1) := by decide +kernel
