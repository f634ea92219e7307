theorem dX12_actRead_0 : decode cX12_actRead 0 = .ok (.aload_n 0, 1) := by decide +kernel
theorem dX12_actRead_1 : decode cX12_actRead 1 = .ok (.getfield 230, 3) := by decide +kernel
theorem dX12_actRead_4 : decode cX12_actRead 4 = .ok (.iconst 1, 1) := by decide +kernel
theorem dX12_actRead_5 : decode cX12_actRead 5 = .ok (.if_icmp .ne 39, 3) := by decide +kernel
theorem dX12_actRead_8 : decode cX12_actRead 8 = .ok (.aload_n 0, 1) := by decide +kernel
theorem dX12_actRead_9 : decode cX12_actRead 9 = .ok (.getfield 233, 3) := by decide +kernel
theorem dX12_actRead_12 : decode cX12_actRead 12 = .ok (.bipush 23, 2) := by decide +kernel
theorem dX12_actRead_14 : decode cX12_actRead 14 = .ok (.bipush 28, 2) := by decide +kernel
theorem dX12_actRead_16 : decode cX12_actRead 16 = .ok (.invokestatic 18, 3) := by decide +kernel
theorem dX12_actRead_19 : decode cX12_actRead 19 = .ok (.ifCond .ne 21, 3) := by decide +kernel
theorem dX12_actRead_22 : decode cX12_actRead 22 = .ok (.aload_n 0, 1) := by decide +kernel
theorem dX12_actRead_23 : decode cX12_actRead 23 = .ok (.getfield 233, 3) := by decide +kernel
theorem dX12_actRead_26 : decode cX12_actRead 26 = .ok (.bipush 12, 2) := by decide +kernel
theorem dX12_actRead_28 : decode cX12_actRead 28 = .ok (.if_icmp .eq 12, 3) := by decide +kernel
theorem dX12_actRead_31 : decode cX12_actRead 31 = .ok (.aload_n 0, 1) := by decide +kernel
theorem dX12_actRead_32 : decode cX12_actRead 32 = .ok (.getfield 233, 3) := by decide +kernel
theorem dX12_actRead_35 : decode cX12_actRead 35 = .ok (.bipush 13, 2) := by decide +kernel
theorem dX12_actRead_37 : decode cX12_actRead 37 = .ok (.if_icmp .ne 7, 3) := by decide +kernel
theorem dX12_actRead_40 : decode cX12_actRead 40 = .ok (.iconst 1, 1) := by decide +kernel
theorem dX12_actRead_41 : decode cX12_actRead 41 = .ok (.goto 4, 3) := by decide +kernel
theorem dX12_actRead_44 : decode cX12_actRead 44 = .ok (.iconst 0, 1) := by decide +kernel
theorem dX12_actRead_45 : decode cX12_actRead 45 = .ok (.istore_n 1, 1) := by decide +kernel
theorem dX12_actRead_46 : decode cX12_actRead 46 = .ok (.iload_n 1, 1) := by decide +kernel
theorem dX12_actRead_47 : decode cX12_actRead 47 = .ok (.ifCond .ne 8, 3) := by decide +kernel
theorem dX12_actRead_50 : decode cX12_actRead 50 = .ok (.aload_n 0, 1) := by decide +kernel
theorem dX12_actRead_51 : decode cX12_actRead 51 = .ok (.iconst 2, 1) := by decide +kernel
theorem dX12_actRead_52 : decode cX12_actRead 52 = .ok (.invokevirtual 240, 3) := by decide +kernel
theorem dX12_actRead_55 : decode cX12_actRead 55 = .ok (.aload_n 0, 1) := by decide +kernel
theorem dX12_actRead_56 : decode cX12_actRead 56 = .ok (.getfield 215, 3) := by decide +kernel
theorem dX12_actRead_59 : decode cX12_actRead 59 = .ok (.ifCond .eq 4, 3) := by decide +kernel
theorem dX12_actRead_62 : decode cX12_actRead 62 = .ok (.return_, 1) := by decide +kernel
theorem dX12_actRead_63 : decode cX12_actRead 63 = .ok (.sipush 300, 3) := by decide +kernel
theorem dX12_actRead_66 : decode cX12_actRead 66 = .ok (.aload_n 0, 1) := by decide +kernel
theorem dX12_actRead_67 : decode cX12_actRead 67 = .ok (.getfield 278, 3) := by decide +kernel
theorem dX12_actRead_70 : decode cX12_actRead 70 = .ok (.imul, 1) := by decide +kernel
theorem dX12_actRead_71 : decode cX12_actRead 71 = .ok (.aload_n 0, 1) := by decide +kernel
theorem dX12_actRead_72 : decode cX12_actRead 72 = .ok (.getfield 346, 3) := by decide +kernel
theorem dX12_actRead_75 : decode cX12_actRead 75 = .ok (.aload_n 0, 1) := by decide +kernel
theorem dX12_actRead_76 : decode cX12_actRead 76 = .ok (.getfield 278, 3) := by decide +kernel
theorem dX12_actRead_79 : decode cX12_actRead 79 = .ok (.iaload, 1) := by decide +kernel
theorem dX12_actRead_80 : decode cX12_actRead 80 = .ok (.iadd, 1) := by decide +kernel
theorem dX12_actRead_81 : decode cX12_actRead 81 = .ok (.istore_n 2, 1) := by decide +kernel
theorem dX12_actRead_82 : decode cX12_actRead 82 = .ok (.aload_n 0, 1) := by decide +kernel
theorem dX12_actRead_83 : decode cX12_actRead 83 = .ok (.getfield 346, 3) := by decide +kernel
theorem dX12_actRead_86 : decode cX12_actRead 86 = .ok (.aload_n 0, 1) := by decide +kernel
theorem dX12_actRead_87 : decode cX12_actRead 87 = .ok (.getfield 278, 3) := by decide +kernel
theorem dX12_actRead_90 : decode cX12_actRead 90 = .ok (.dup2, 1) := by decide +kernel
theorem dX12_actRead_91 : decode cX12_actRead 91 = .ok (.iaload, 1) := by decide +kernel
theorem dX12_actRead_92 : decode cX12_actRead 92 = .ok (.iconst 1, 1) := by decide +kernel
theorem dX12_actRead_93 : decode cX12_actRead 93 = .ok (.iadd, 1) := by decide +kernel
theorem dX12_actRead_94 : decode cX12_actRead 94 = .ok (.iastore, 1) := by decide +kernel
theorem dX12_actRead_95 : decode cX12_actRead 95 = .ok (.aload_n 0, 1) := by decide +kernel
theorem dX12_actRead_96 : decode cX12_actRead 96 = .ok (.getfield 233, 3) := by decide +kernel
theorem dX12_actRead_99 : decode cX12_actRead 99 = .ok (.istore_n 3, 1) := by decide +kernel
theorem dX12_actRead_100 : decode cX12_actRead 100 = .ok (.aload_n 0, 1) := by decide +kernel
theorem dX12_actRead_101 : decode cX12_actRead 101 = .ok (.getfield 349, 3) := by decide +kernel
theorem dX12_actRead_104 : decode cX12_actRead 104 = .ok (.iload_n 2, 1) := by decide +kernel
theorem dX12_actRead_105 : decode cX12_actRead 105 = .ok (.iload_n 3, 1) := by decide +kernel
theorem dX12_actRead_106 : decode cX12_actRead 106 = .ok (.iastore, 1) := by decide +kernel
theorem dX12_actRead_107 : decode cX12_actRead 107 = .ok (.aload_n 0, 1) := by decide +kernel
theorem dX12_actRead_108 : decode cX12_actRead 108 = .ok (.invokevirtual 247, 3) := by decide +kernel
theorem dX12_actRead_111 : decode cX12_actRead 111 = .ok (.iload_n 3, 1) := by decide +kernel
theorem dX12_actRead_112 : decode cX12_actRead 112 = .ok (.bipush 25, 2) := by decide +kernel
theorem dX12_actRead_114 : decode cX12_actRead 114 = .ok (.if_icmp .eq 9, 3) := by decide +kernel
theorem dX12_actRead_117 : decode cX12_actRead 117 = .ok (.iload_n 3, 1) := by decide +kernel
theorem dX12_actRead_118 : decode cX12_actRead 118 = .ok (.bipush 26, 2) := by decide +kernel
theorem dX12_actRead_120 : decode cX12_actRead 120 = .ok (.if_icmp .ne 20, 3) := by decide +kernel
theorem dX12_actRead_123 : decode cX12_actRead 123 = .ok (.aload_n 0, 1) := by decide +kernel
theorem dX12_actRead_124 : decode cX12_actRead 124 = .ok (.getfield 352, 3) := by decide +kernel
theorem dX12_actRead_127 : decode cX12_actRead 127 = .ok (.iload_n 2, 1) := by decide +kernel
theorem dX12_actRead_128 : decode cX12_actRead 128 = .ok (.aload_n 0, 1) := by decide +kernel
theorem dX12_actRead_129 : decode cX12_actRead 129 = .ok (.iconst 0, 1) := by decide +kernel
theorem dX12_actRead_130 : decode cX12_actRead 130 = .ok (.ldc_w 345, 3) := by decide +kernel
theorem dX12_actRead_133 : decode cX12_actRead 133 = .ok (.invokevirtual 314, 3) := by decide +kernel
theorem dX12_actRead_136 : decode cX12_actRead 136 = .ok (.iastore, 1) := by decide +kernel
theorem dX12_actRead_137 : decode cX12_actRead 137 = .ok (.goto 94, 3) := by decide +kernel
theorem dX12_actRead_140 : decode cX12_actRead 140 = .ok (.iload_n 3, 1) := by decide +kernel
theorem dX12_actRead_141 : decode cX12_actRead 141 = .ok (.bipush 12, 2) := by decide +kernel
theorem dX12_actRead_143 : decode cX12_actRead 143 = .ok (.if_icmp .ne 20, 3) := by decide +kernel
theorem dX12_actRead_146 : decode cX12_actRead 146 = .ok (.aload_n 0, 1) := by decide +kernel
theorem dX12_actRead_147 : decode cX12_actRead 147 = .ok (.getfield 352, 3) := by decide +kernel
theorem dX12_actRead_150 : decode cX12_actRead 150 = .ok (.iload_n 2, 1) := by decide +kernel
theorem dX12_actRead_151 : decode cX12_actRead 151 = .ok (.aload_n 0, 1) := by decide +kernel
theorem dX12_actRead_152 : decode cX12_actRead 152 = .ok (.iconst 0, 1) := by decide +kernel
theorem dX12_actRead_153 : decode cX12_actRead 153 = .ok (.sipush 1000, 3) := by decide +kernel
theorem dX12_actRead_156 : decode cX12_actRead 156 = .ok (.invokevirtual 314, 3) := by decide +kernel
theorem dX12_actRead_159 : decode cX12_actRead 159 = .ok (.iastore, 1) := by decide +kernel
theorem dX12_actRead_160 : decode cX12_actRead 160 = .ok (.goto 71, 3) := by decide +kernel
theorem dX12_actRead_163 : decode cX12_actRead 163 = .ok (.iload_n 3, 1) := by decide +kernel
theorem dX12_actRead_164 : decode cX12_actRead 164 = .ok (.bipush 13, 2) := by decide +kernel
theorem dX12_actRead_166 : decode cX12_actRead 166 = .ok (.if_icmp .ne 20, 3) := by decide +kernel
theorem dX12_actRead_169 : decode cX12_actRead 169 = .ok (.aload_n 0, 1) := by decide +kernel
theorem dX12_actRead_170 : decode cX12_actRead 170 = .ok (.getfield 352, 3) := by decide +kernel
theorem dX12_actRead_173 : decode cX12_actRead 173 = .ok (.iload_n 2, 1) := by decide +kernel
theorem dX12_actRead_174 : decode cX12_actRead 174 = .ok (.aload_n 0, 1) := by decide +kernel
theorem dX12_actRead_175 : decode cX12_actRead 175 = .ok (.iconst 0, 1) := by decide +kernel
theorem dX12_actRead_176 : decode cX12_actRead 176 = .ok (.ldc_w 291, 3) := by decide +kernel
theorem dX12_actRead_179 : decode cX12_actRead 179 = .ok (.invokevirtual 314, 3) := by decide +kernel
theorem dX12_actRead_182 : decode cX12_actRead 182 = .ok (.iastore, 1) := by decide +kernel
theorem dX12_actRead_183 : decode cX12_actRead 183 = .ok (.goto 48, 3) := by decide +kernel
theorem dX12_actRead_186 : decode cX12_actRead 186 = .ok (.iload_n 3, 1) := by decide +kernel
theorem dX12_actRead_187 : decode cX12_actRead 187 = .ok (.bipush 27, 2) := by decide +kernel
theorem dX12_actRead_189 : decode cX12_actRead 189 = .ok (.if_icmp .ne 19, 3) := by decide +kernel
theorem dX12_actRead_192 : decode cX12_actRead 192 = .ok (.aload_n 0, 1) := by decide +kernel
theorem dX12_actRead_193 : decode cX12_actRead 193 = .ok (.getfield 352, 3) := by decide +kernel
theorem dX12_actRead_196 : decode cX12_actRead 196 = .ok (.iload_n 2, 1) := by decide +kernel
theorem dX12_actRead_197 : decode cX12_actRead 197 = .ok (.aload_n 0, 1) := by decide +kernel
theorem dX12_actRead_198 : decode cX12_actRead 198 = .ok (.iconst 1, 1) := by decide +kernel
theorem dX12_actRead_199 : decode cX12_actRead 199 = .ok (.bipush 9, 2) := by decide +kernel
theorem dX12_actRead_201 : decode cX12_actRead 201 = .ok (.invokevirtual 314, 3) := by decide +kernel
theorem dX12_actRead_204 : decode cX12_actRead 204 = .ok (.iastore, 1) := by decide +kernel
theorem dX12_actRead_205 : decode cX12_actRead 205 = .ok (.goto 26, 3) := by decide +kernel
theorem dX12_actRead_208 : decode cX12_actRead 208 = .ok (.iload_n 3, 1) := by decide +kernel
theorem dX12_actRead_209 : decode cX12_actRead 209 = .ok (.bipush 28, 2) := by decide +kernel
theorem dX12_actRead_211 : decode cX12_actRead 211 = .ok (.if_icmp .ne 20, 3) := by decide +kernel
theorem dX12_actRead_214 : decode cX12_actRead 214 = .ok (.aload_n 0, 1) := by decide +kernel
theorem dX12_actRead_215 : decode cX12_actRead 215 = .ok (.getfield 352, 3) := by decide +kernel
theorem dX12_actRead_218 : decode cX12_actRead 218 = .ok (.iload_n 2, 1) := by decide +kernel
theorem dX12_actRead_219 : decode cX12_actRead 219 = .ok (.aload_n 0, 1) := by decide +kernel
theorem dX12_actRead_220 : decode cX12_actRead 220 = .ok (.iconst 0, 1) := by decide +kernel
theorem dX12_actRead_221 : decode cX12_actRead 221 = .ok (.aload_n 0, 1) := by decide +kernel
theorem dX12_actRead_222 : decode cX12_actRead 222 = .ok (.getfield 355, 3) := by decide +kernel
theorem dX12_actRead_225 : decode cX12_actRead 225 = .ok (.iconst 1, 1) := by decide +kernel
theorem dX12_actRead_226 : decode cX12_actRead 226 = .ok (.isub, 1) := by decide +kernel
theorem dX12_actRead_227 : decode cX12_actRead 227 = .ok (.invokevirtual 314, 3) := by decide +kernel
theorem dX12_actRead_230 : decode cX12_actRead 230 = .ok (.iastore, 1) := by decide +kernel
theorem dX12_actRead_231 : decode cX12_actRead 231 = .ok (.return_, 1) := by decide +kernel
theorem dX12_addressRead_0 : decode cX12_addressRead 0 = .ok (.iconst 0, 1) := by decide +kernel
theorem dX12_addressRead_1 : decode cX12_addressRead 1 = .ok (.istore_n 1, 1) := by decide +kernel
theorem dX12_addressRead_2 : decode cX12_addressRead 2 = .ok (.iconst 0, 1) := by decide +kernel
theorem dX12_addressRead_3 : decode cX12_addressRead 3 = .ok (.istore_n 2, 1) := by decide +kernel
theorem dX12_addressRead_4 : decode cX12_addressRead 4 = .ok (.iload_n 2, 1) := by decide +kernel
theorem dX12_addressRead_5 : decode cX12_addressRead 5 = .ok (.iconst 4, 1) := by decide +kernel
theorem dX12_addressRead_6 : decode cX12_addressRead 6 = .ok (.if_icmp .ge 34, 3) := by decide +kernel
theorem dX12_addressRead_9 : decode cX12_addressRead 9 = .ok (.iload_n 1, 1) := by decide +kernel
theorem dX12_addressRead_10 : decode cX12_addressRead 10 = .ok (.bipush 8, 2) := by decide +kernel
theorem dX12_addressRead_12 : decode cX12_addressRead 12 = .ok (.ishl, 1) := by decide +kernel
theorem dX12_addressRead_13 : decode cX12_addressRead 13 = .ok (.aload_n 0, 1) := by decide +kernel
theorem dX12_addressRead_14 : decode cX12_addressRead 14 = .ok (.iconst 0, 1) := by decide +kernel
theorem dX12_addressRead_15 : decode cX12_addressRead 15 = .ok (.sipush 255, 3) := by decide +kernel
theorem dX12_addressRead_18 : decode cX12_addressRead 18 = .ok (.invokevirtual 314, 3) := by decide +kernel
theorem dX12_addressRead_21 : decode cX12_addressRead 21 = .ok (.ior, 1) := by decide +kernel
theorem dX12_addressRead_22 : decode cX12_addressRead 22 = .ok (.istore_n 1, 1) := by decide +kernel
theorem dX12_addressRead_23 : decode cX12_addressRead 23 = .ok (.iload_n 2, 1) := by decide +kernel
theorem dX12_addressRead_24 : decode cX12_addressRead 24 = .ok (.iconst 3, 1) := by decide +kernel
theorem dX12_addressRead_25 : decode cX12_addressRead 25 = .ok (.if_icmp .ge 9, 3) := by decide +kernel
theorem dX12_addressRead_28 : decode cX12_addressRead 28 = .ok (.aload_n 0, 1) := by decide +kernel
theorem dX12_addressRead_29 : decode cX12_addressRead 29 = .ok (.bipush 46, 2) := by decide +kernel
theorem dX12_addressRead_31 : decode cX12_addressRead 31 = .ok (.invokevirtual 317, 3) := by decide +kernel
theorem dX12_addressRead_34 : decode cX12_addressRead 34 = .ok (.iinc 2 1, 3) := by decide +kernel
theorem dX12_addressRead_37 : decode cX12_addressRead 37 = .ok (.goto (-33), 3) := by decide +kernel
theorem dX12_addressRead_40 : decode cX12_addressRead 40 = .ok (.iload_n 1, 1) := by decide +kernel
theorem dX12_addressRead_41 : decode cX12_addressRead 41 = .ok (.ireturn, 1) := by decide +kernel
theorem dX12_next_0 : decode cX12_next 0 = .ok (.aload_n 0, 1) := by decide +kernel
theorem dX12_next_1 : decode cX12_next 1 = .ok (.getfield 215, 3) := by decide +kernel
theorem dX12_next_4 : decode cX12_next 4 = .ok (.ifCond .eq 4, 3) := by decide +kernel
theorem dX12_next_7 : decode cX12_next 7 = .ok (.return_, 1) := by decide +kernel
theorem dX12_next_8 : decode cX12_next 8 = .ok (.aload_n 0, 1) := by decide +kernel
theorem dX12_next_9 : decode cX12_next 9 = .ok (.aload_n 0, 1) := by decide +kernel
theorem dX12_next_10 : decode cX12_next 10 = .ok (.getfield 224, 3) := by decide +kernel
theorem dX12_next_13 : decode cX12_next 13 = .ok (.invokevirtual 227, 3) := by decide +kernel
theorem dX12_next_16 : decode cX12_next 16 = .ok (.bipush 32, 2) := by decide +kernel
theorem dX12_next_18 : decode cX12_next 18 = .ok (.if_icmp .eq 16, 3) := by decide +kernel
theorem dX12_next_21 : decode cX12_next 21 = .ok (.aload_n 0, 1) := by decide +kernel
theorem dX12_next_22 : decode cX12_next 22 = .ok (.aload_n 0, 1) := by decide +kernel
theorem dX12_next_23 : decode cX12_next 23 = .ok (.getfield 224, 3) := by decide +kernel
theorem dX12_next_26 : decode cX12_next 26 = .ok (.invokevirtual 227, 3) := by decide +kernel
theorem dX12_next_29 : decode cX12_next 29 = .ok (.bipush 10, 2) := by decide +kernel
theorem dX12_next_31 : decode cX12_next 31 = .ok (.if_icmp .ne 16, 3) := by decide +kernel
theorem dX12_next_34 : decode cX12_next 34 = .ok (.aload_n 0, 1) := by decide +kernel
theorem dX12_next_35 : decode cX12_next 35 = .ok (.dup, 1) := by decide +kernel
theorem dX12_next_36 : decode cX12_next 36 = .ok (.getfield 224, 3) := by decide +kernel
theorem dX12_next_39 : decode cX12_next 39 = .ok (.iconst 1, 1) := by decide +kernel
theorem dX12_next_40 : decode cX12_next 40 = .ok (.iadd, 1) := by decide +kernel
theorem dX12_next_41 : decode cX12_next 41 = .ok (.putfield 224, 3) := by decide +kernel
theorem dX12_next_44 : decode cX12_next 44 = .ok (.goto (-36), 3) := by decide +kernel
theorem dX12_next_47 : decode cX12_next 47 = .ok (.aload_n 0, 1) := by decide +kernel
theorem dX12_next_48 : decode cX12_next 48 = .ok (.aload_n 0, 1) := by decide +kernel
theorem dX12_next_49 : decode cX12_next 49 = .ok (.getfield 224, 3) := by decide +kernel
theorem dX12_next_52 : decode cX12_next 52 = .ok (.putfield 218, 3) := by decide +kernel
theorem dX12_next_55 : decode cX12_next 55 = .ok (.aload_n 0, 1) := by decide +kernel
theorem dX12_next_56 : decode cX12_next 56 = .ok (.aload_n 0, 1) := by decide +kernel
theorem dX12_next_57 : decode cX12_next 57 = .ok (.getfield 224, 3) := by decide +kernel
theorem dX12_next_60 : decode cX12_next 60 = .ok (.invokevirtual 227, 3) := by decide +kernel
theorem dX12_next_63 : decode cX12_next 63 = .ok (.istore_n 1, 1) := by decide +kernel
theorem dX12_next_64 : decode cX12_next 64 = .ok (.aload_n 0, 1) := by decide +kernel
theorem dX12_next_65 : decode cX12_next 65 = .ok (.iload_n 1, 1) := by decide +kernel
theorem dX12_next_66 : decode cX12_next 66 = .ok (.ifCond .ge 7, 3) := by decide +kernel
theorem dX12_next_69 : decode cX12_next 69 = .ok (.iconst 0, 1) := by decide +kernel
theorem dX12_next_70 : decode cX12_next 70 = .ok (.goto 36, 3) := by decide +kernel
theorem dX12_next_73 : decode cX12_next 73 = .ok (.iload_n 1, 1) := by decide +kernel
theorem dX12_next_74 : decode cX12_next 74 = .ok (.bipush 97, 2) := by decide +kernel
theorem dX12_next_76 : decode cX12_next 76 = .ok (.if_icmp .lt 13, 3) := by decide +kernel
theorem dX12_next_79 : decode cX12_next 79 = .ok (.iload_n 1, 1) := by decide +kernel
theorem dX12_next_80 : decode cX12_next 80 = .ok (.bipush 122, 2) := by decide +kernel
theorem dX12_next_82 : decode cX12_next 82 = .ok (.if_icmp .gt 7, 3) := by decide +kernel
theorem dX12_next_85 : decode cX12_next 85 = .ok (.iconst 1, 1) := by decide +kernel
theorem dX12_next_86 : decode cX12_next 86 = .ok (.goto 20, 3) := by decide +kernel
theorem dX12_next_89 : decode cX12_next 89 = .ok (.iload_n 1, 1) := by decide +kernel
theorem dX12_next_90 : decode cX12_next 90 = .ok (.bipush 48, 2) := by decide +kernel
theorem dX12_next_92 : decode cX12_next 92 = .ok (.if_icmp .lt 13, 3) := by decide +kernel
theorem dX12_next_95 : decode cX12_next 95 = .ok (.iload_n 1, 1) := by decide +kernel
theorem dX12_next_96 : decode cX12_next 96 = .ok (.bipush 57, 2) := by decide +kernel
theorem dX12_next_98 : decode cX12_next 98 = .ok (.if_icmp .gt 7, 3) := by decide +kernel
theorem dX12_next_101 : decode cX12_next 101 = .ok (.iconst 2, 1) := by decide +kernel
theorem dX12_next_102 : decode cX12_next 102 = .ok (.goto 4, 3) := by decide +kernel
theorem dX12_next_105 : decode cX12_next 105 = .ok (.iconst 3, 1) := by decide +kernel
theorem dX12_next_106 : decode cX12_next 106 = .ok (.putfield 230, 3) := by decide +kernel
theorem dX12_next_109 : decode cX12_next 109 = .ok (.aload_n 0, 1) := by decide +kernel
theorem dX12_next_110 : decode cX12_next 110 = .ok (.iload_n 1, 1) := by decide +kernel
theorem dX12_next_111 : decode cX12_next 111 = .ok (.putfield 233, 3) := by decide +kernel
theorem dX12_next_114 : decode cX12_next 114 = .ok (.aload_n 0, 1) := by decide +kernel
theorem dX12_next_115 : decode cX12_next 115 = .ok (.getfield 230, 3) := by decide +kernel
theorem dX12_next_118 : decode cX12_next 118 = .ok (.ifCond .ne 4, 3) := by decide +kernel
theorem dX12_next_121 : decode cX12_next 121 = .ok (.return_, 1) := by decide +kernel
theorem dX12_next_122 : decode cX12_next 122 = .ok (.aload_n 0, 1) := by decide +kernel
theorem dX12_next_123 : decode cX12_next 123 = .ok (.getfield 230, 3) := by decide +kernel
theorem dX12_next_126 : decode cX12_next 126 = .ok (.iconst 3, 1) := by decide +kernel
theorem dX12_next_127 : decode cX12_next 127 = .ok (.if_icmp .ne 14, 3) := by decide +kernel
theorem dX12_next_130 : decode cX12_next 130 = .ok (.aload_n 0, 1) := by decide +kernel
theorem dX12_next_131 : decode cX12_next 131 = .ok (.dup, 1) := by decide +kernel
theorem dX12_next_132 : decode cX12_next 132 = .ok (.getfield 224, 3) := by decide +kernel
theorem dX12_next_135 : decode cX12_next 135 = .ok (.iconst 1, 1) := by decide +kernel
theorem dX12_next_136 : decode cX12_next 136 = .ok (.iadd, 1) := by decide +kernel
theorem dX12_next_137 : decode cX12_next 137 = .ok (.putfield 224, 3) := by decide +kernel
theorem dX12_next_140 : decode cX12_next 140 = .ok (.return_, 1) := by decide +kernel
theorem dX12_next_141 : decode cX12_next 141 = .ok (.lconst 0, 1) := by decide +kernel
theorem dX12_next_142 : decode cX12_next 142 = .ok (.lstore_n 2, 1) := by decide +kernel
theorem dX12_next_143 : decode cX12_next 143 = .ok (.iconst 0, 1) := by decide +kernel
theorem dX12_next_144 : decode cX12_next 144 = .ok (.istore 4, 2) := by decide +kernel
theorem dX12_next_146 : decode cX12_next 146 = .ok (.iconst 0, 1) := by decide +kernel
theorem dX12_next_147 : decode cX12_next 147 = .ok (.istore 5, 2) := by decide +kernel
theorem dX12_next_149 : decode cX12_next 149 = .ok (.aload_n 0, 1) := by decide +kernel
theorem dX12_next_150 : decode cX12_next 150 = .ok (.aload_n 0, 1) := by decide +kernel
theorem dX12_next_151 : decode cX12_next 151 = .ok (.getfield 224, 3) := by decide +kernel
theorem dX12_next_154 : decode cX12_next 154 = .ok (.invokevirtual 227, 3) := by decide +kernel
theorem dX12_next_157 : decode cX12_next 157 = .ok (.ifCond .lt 133, 3) := by decide +kernel
theorem dX12_next_160 : decode cX12_next 160 = .ok (.aload_n 0, 1) := by decide +kernel
theorem dX12_next_161 : decode cX12_next 161 = .ok (.getfield 230, 3) := by decide +kernel
theorem dX12_next_164 : decode cX12_next 164 = .ok (.iconst 1, 1) := by decide +kernel
theorem dX12_next_165 : decode cX12_next 165 = .ok (.if_icmp .ne 32, 3) := by decide +kernel
theorem dX12_next_168 : decode cX12_next 168 = .ok (.aload_n 0, 1) := by decide +kernel
theorem dX12_next_169 : decode cX12_next 169 = .ok (.aload_n 0, 1) := by decide +kernel
theorem dX12_next_170 : decode cX12_next 170 = .ok (.getfield 224, 3) := by decide +kernel
theorem dX12_next_173 : decode cX12_next 173 = .ok (.invokevirtual 227, 3) := by decide +kernel
theorem dX12_next_176 : decode cX12_next 176 = .ok (.bipush 97, 2) := by decide +kernel
theorem dX12_next_178 : decode cX12_next 178 = .ok (.if_icmp .lt 112, 3) := by decide +kernel
theorem dX12_next_181 : decode cX12_next 181 = .ok (.aload_n 0, 1) := by decide +kernel
theorem dX12_next_182 : decode cX12_next 182 = .ok (.aload_n 0, 1) := by decide +kernel
theorem dX12_next_183 : decode cX12_next 183 = .ok (.getfield 224, 3) := by decide +kernel
theorem dX12_next_186 : decode cX12_next 186 = .ok (.invokevirtual 227, 3) := by decide +kernel
theorem dX12_next_189 : decode cX12_next 189 = .ok (.bipush 122, 2) := by decide +kernel
theorem dX12_next_191 : decode cX12_next 191 = .ok (.if_icmp .gt 99, 3) := by decide +kernel
theorem dX12_next_194 : decode cX12_next 194 = .ok (.goto 29, 3) := by decide +kernel
theorem dX12_next_197 : decode cX12_next 197 = .ok (.aload_n 0, 1) := by decide +kernel
theorem dX12_next_198 : decode cX12_next 198 = .ok (.aload_n 0, 1) := by decide +kernel
theorem dX12_next_199 : decode cX12_next 199 = .ok (.getfield 224, 3) := by decide +kernel
theorem dX12_next_202 : decode cX12_next 202 = .ok (.invokevirtual 227, 3) := by decide +kernel
theorem dX12_next_205 : decode cX12_next 205 = .ok (.bipush 48, 2) := by decide +kernel
theorem dX12_next_207 : decode cX12_next 207 = .ok (.if_icmp .lt 83, 3) := by decide +kernel
theorem dX12_next_210 : decode cX12_next 210 = .ok (.aload_n 0, 1) := by decide +kernel
theorem dX12_next_211 : decode cX12_next 211 = .ok (.aload_n 0, 1) := by decide +kernel
theorem dX12_next_212 : decode cX12_next 212 = .ok (.getfield 224, 3) := by decide +kernel
theorem dX12_next_215 : decode cX12_next 215 = .ok (.invokevirtual 227, 3) := by decide +kernel
theorem dX12_next_218 : decode cX12_next 218 = .ok (.bipush 57, 2) := by decide +kernel
theorem dX12_next_220 : decode cX12_next 220 = .ok (.if_icmp .gt 70, 3) := by decide +kernel
theorem dX12_next_223 : decode cX12_next 223 = .ok (.iload 5, 2) := by decide +kernel
theorem dX12_next_225 : decode cX12_next 225 = .ok (.bipush 8, 2) := by decide +kernel
theorem dX12_next_227 : decode cX12_next 227 = .ok (.if_icmp .ge 21, 3) := by decide +kernel
theorem dX12_next_230 : decode cX12_next 230 = .ok (.lload_n 2, 1) := by decide +kernel
theorem dX12_next_231 : decode cX12_next 231 = .ok (.aload_n 0, 1) := by decide +kernel
theorem dX12_next_232 : decode cX12_next 232 = .ok (.aload_n 0, 1) := by decide +kernel
theorem dX12_next_233 : decode cX12_next 233 = .ok (.getfield 224, 3) := by decide +kernel
theorem dX12_next_236 : decode cX12_next 236 = .ok (.invokevirtual 227, 3) := by decide +kernel
theorem dX12_next_239 : decode cX12_next 239 = .ok (.i2l, 1) := by decide +kernel
theorem dX12_next_240 : decode cX12_next 240 = .ok (.bipush 8, 2) := by decide +kernel
theorem dX12_next_242 : decode cX12_next 242 = .ok (.iload 5, 2) := by decide +kernel
theorem dX12_next_244 : decode cX12_next 244 = .ok (.imul, 1) := by decide +kernel
theorem dX12_next_245 : decode cX12_next 245 = .ok (.lshl, 1) := by decide +kernel
theorem dX12_next_246 : decode cX12_next 246 = .ok (.lor, 1) := by decide +kernel
theorem dX12_next_247 : decode cX12_next 247 = .ok (.lstore_n 2, 1) := by decide +kernel
theorem dX12_next_248 : decode cX12_next 248 = .ok (.iload 5, 2) := by decide +kernel
theorem dX12_next_250 : decode cX12_next 250 = .ok (.bipush 9, 2) := by decide +kernel
theorem dX12_next_252 : decode cX12_next 252 = .ok (.if_icmp .ge 22, 3) := by decide +kernel
theorem dX12_next_255 : decode cX12_next 255 = .ok (.bipush 10, 2) := by decide +kernel
theorem dX12_next_257 : decode cX12_next 257 = .ok (.iload 4, 2) := by decide +kernel
theorem dX12_next_259 : decode cX12_next 259 = .ok (.imul, 1) := by decide +kernel
theorem dX12_next_260 : decode cX12_next 260 = .ok (.aload_n 0, 1) := by decide +kernel
theorem dX12_next_261 : decode cX12_next 261 = .ok (.aload_n 0, 1) := by decide +kernel
theorem dX12_next_262 : decode cX12_next 262 = .ok (.getfield 224, 3) := by decide +kernel
theorem dX12_next_265 : decode cX12_next 265 = .ok (.invokevirtual 227, 3) := by decide +kernel
theorem dX12_next_268 : decode cX12_next 268 = .ok (.iadd, 1) := by decide +kernel
theorem dX12_next_269 : decode cX12_next 269 = .ok (.bipush 48, 2) := by decide +kernel
theorem dX12_next_271 : decode cX12_next 271 = .ok (.isub, 1) := by decide +kernel
theorem dX12_next_272 : decode cX12_next 272 = .ok (.istore 4, 2) := by decide +kernel
theorem dX12_next_274 : decode cX12_next 274 = .ok (.iinc 5 1, 3) := by decide +kernel
theorem dX12_next_277 : decode cX12_next 277 = .ok (.aload_n 0, 1) := by decide +kernel
theorem dX12_next_278 : decode cX12_next 278 = .ok (.dup, 1) := by decide +kernel
theorem dX12_next_279 : decode cX12_next 279 = .ok (.getfield 224, 3) := by decide +kernel
theorem dX12_next_282 : decode cX12_next 282 = .ok (.iconst 1, 1) := by decide +kernel
theorem dX12_next_283 : decode cX12_next 283 = .ok (.iadd, 1) := by decide +kernel
theorem dX12_next_284 : decode cX12_next 284 = .ok (.putfield 224, 3) := by decide +kernel
theorem dX12_next_287 : decode cX12_next 287 = .ok (.goto (-138), 3) := by decide +kernel
theorem dX12_next_290 : decode cX12_next 290 = .ok (.aload_n 0, 1) := by decide +kernel
theorem dX12_next_291 : decode cX12_next 291 = .ok (.aload_n 0, 1) := by decide +kernel
theorem dX12_next_292 : decode cX12_next 292 = .ok (.getfield 230, 3) := by decide +kernel
theorem dX12_next_295 : decode cX12_next 295 = .ok (.iconst 1, 1) := by decide +kernel
theorem dX12_next_296 : decode cX12_next 296 = .ok (.if_icmp .ne 10, 3) := by decide +kernel
theorem dX12_next_299 : decode cX12_next 299 = .ok (.lload_n 2, 1) := by decide +kernel
theorem dX12_next_300 : decode cX12_next 300 = .ok (.invokestatic 236, 3) := by decide +kernel
theorem dX12_next_303 : decode cX12_next 303 = .ok (.goto 5, 3) := by decide +kernel
theorem dX12_next_306 : decode cX12_next 306 = .ok (.iload 4, 2) := by decide +kernel
theorem dX12_next_308 : decode cX12_next 308 = .ok (.putfield 233, 3) := by decide +kernel
theorem dX12_next_311 : decode cX12_next 311 = .ok (.aload_n 0, 1) := by decide +kernel
theorem dX12_next_312 : decode cX12_next 312 = .ok (.getfield 230, 3) := by decide +kernel
theorem dX12_next_315 : decode cX12_next 315 = .ok (.iconst 1, 1) := by decide +kernel
theorem dX12_next_316 : decode cX12_next 316 = .ok (.if_icmp .ne 17, 3) := by decide +kernel
theorem dX12_next_319 : decode cX12_next 319 = .ok (.iload 5, 2) := by decide +kernel
theorem dX12_next_321 : decode cX12_next 321 = .ok (.bipush 8, 2) := by decide +kernel
theorem dX12_next_323 : decode cX12_next 323 = .ok (.if_icmp .gt 25, 3) := by decide +kernel
theorem dX12_next_326 : decode cX12_next 326 = .ok (.aload_n 0, 1) := by decide +kernel
theorem dX12_next_327 : decode cX12_next 327 = .ok (.getfield 233, 3) := by decide +kernel
theorem dX12_next_330 : decode cX12_next 330 = .ok (.ifCond .lt 18, 3) := by decide +kernel
theorem dX12_next_333 : decode cX12_next 333 = .ok (.aload_n 0, 1) := by decide +kernel
theorem dX12_next_334 : decode cX12_next 334 = .ok (.getfield 230, 3) := by decide +kernel
theorem dX12_next_337 : decode cX12_next 337 = .ok (.iconst 2, 1) := by decide +kernel
theorem dX12_next_338 : decode cX12_next 338 = .ok (.if_icmp .ne 15, 3) := by decide +kernel
theorem dX12_next_341 : decode cX12_next 341 = .ok (.iload 5, 2) := by decide +kernel
theorem dX12_next_343 : decode cX12_next 343 = .ok (.bipush 9, 2) := by decide +kernel
theorem dX12_next_345 : decode cX12_next 345 = .ok (.if_icmp .le 8, 3) := by decide +kernel
theorem dX12_next_348 : decode cX12_next 348 = .ok (.aload_n 0, 1) := by decide +kernel
theorem dX12_next_349 : decode cX12_next 349 = .ok (.iconst 1, 1) := by decide +kernel
theorem dX12_next_350 : decode cX12_next 350 = .ok (.invokevirtual 240, 3) := by decide +kernel
theorem dX12_next_353 : decode cX12_next 353 = .ok (.return_, 1) := by decide +kernel
theorem dX12_piece_0 : decode cX12_piece 0 = .ok (.iload 5, 2) := by decide +kernel
theorem dX12_piece_2 : decode cX12_piece 2 = .ok (.istore 6, 2) := by decide +kernel
theorem dX12_piece_4 : decode cX12_piece 4 = .ok (.aload_n 0, 1) := by decide +kernel
theorem dX12_piece_5 : decode cX12_piece 5 = .ok (.bipush 42, 2) := by decide +kernel
theorem dX12_piece_7 : decode cX12_piece 7 = .ok (.invokevirtual 244, 3) := by decide +kernel
theorem dX12_piece_10 : decode cX12_piece 10 = .ok (.ifCond .ne 12, 3) := by decide +kernel
theorem dX12_piece_13 : decode cX12_piece 13 = .ok (.aload_n 0, 1) := by decide +kernel
theorem dX12_piece_14 : decode cX12_piece 14 = .ok (.bipush 43, 2) := by decide +kernel
theorem dX12_piece_16 : decode cX12_piece 16 = .ok (.invokevirtual 244, 3) := by decide +kernel
theorem dX12_piece_19 : decode cX12_piece 19 = .ok (.ifCond .eq 9, 3) := by decide +kernel
theorem dX12_piece_22 : decode cX12_piece 22 = .ok (.aload_n 0, 1) := by decide +kernel
theorem dX12_piece_23 : decode cX12_piece 23 = .ok (.lload_n 3, 1) := by decide +kernel
theorem dX12_piece_24 : decode cX12_piece 24 = .ok (.lload_n 1, 1) := by decide +kernel
theorem dX12_piece_25 : decode cX12_piece 25 = .ok (.invokevirtual 281, 3) := by decide +kernel
theorem dX12_piece_28 : decode cX12_piece 28 = .ok (.aload_n 0, 1) := by decide +kernel
theorem dX12_piece_29 : decode cX12_piece 29 = .ok (.bipush 42, 2) := by decide +kernel
theorem dX12_piece_31 : decode cX12_piece 31 = .ok (.invokevirtual 244, 3) := by decide +kernel
theorem dX12_piece_34 : decode cX12_piece 34 = .ok (.ifCond .ne 12, 3) := by decide +kernel
theorem dX12_piece_37 : decode cX12_piece 37 = .ok (.aload_n 0, 1) := by decide +kernel
theorem dX12_piece_38 : decode cX12_piece 38 = .ok (.bipush 63, 2) := by decide +kernel
theorem dX12_piece_40 : decode cX12_piece 40 = .ok (.invokevirtual 244, 3) := by decide +kernel
theorem dX12_piece_43 : decode cX12_piece 43 = .ok (.ifCond .eq 6, 3) := by decide +kernel
theorem dX12_piece_46 : decode cX12_piece 46 = .ok (.iconst 1, 1) := by decide +kernel
theorem dX12_piece_47 : decode cX12_piece 47 = .ok (.istore 6, 2) := by decide +kernel
theorem dX12_piece_49 : decode cX12_piece 49 = .ok (.aload_n 0, 1) := by decide +kernel
theorem dX12_piece_50 : decode cX12_piece 50 = .ok (.bipush 42, 2) := by decide +kernel
theorem dX12_piece_52 : decode cX12_piece 52 = .ok (.invokevirtual 244, 3) := by decide +kernel
theorem dX12_piece_55 : decode cX12_piece 55 = .ok (.ifCond .ne 21, 3) := by decide +kernel
theorem dX12_piece_58 : decode cX12_piece 58 = .ok (.aload_n 0, 1) := by decide +kernel
theorem dX12_piece_59 : decode cX12_piece 59 = .ok (.bipush 43, 2) := by decide +kernel
theorem dX12_piece_61 : decode cX12_piece 61 = .ok (.invokevirtual 244, 3) := by decide +kernel
theorem dX12_piece_64 : decode cX12_piece 64 = .ok (.ifCond .ne 12, 3) := by decide +kernel
theorem dX12_piece_67 : decode cX12_piece 67 = .ok (.aload_n 0, 1) := by decide +kernel
theorem dX12_piece_68 : decode cX12_piece 68 = .ok (.bipush 63, 2) := by decide +kernel
theorem dX12_piece_70 : decode cX12_piece 70 = .ok (.invokevirtual 244, 3) := by decide +kernel
theorem dX12_piece_73 : decode cX12_piece 73 = .ok (.ifCond .eq 7, 3) := by decide +kernel
theorem dX12_piece_76 : decode cX12_piece 76 = .ok (.aload_n 0, 1) := by decide +kernel
theorem dX12_piece_77 : decode cX12_piece 77 = .ok (.invokevirtual 247, 3) := by decide +kernel
theorem dX12_piece_80 : decode cX12_piece 80 = .ok (.aload_n 0, 1) := by decide +kernel
theorem dX12_piece_81 : decode cX12_piece 81 = .ok (.getfield 254, 3) := by decide +kernel
theorem dX12_piece_84 : decode cX12_piece 84 = .ok (.iconst 1, 1) := by decide +kernel
theorem dX12_piece_85 : decode cX12_piece 85 = .ok (.isub, 1) := by decide +kernel
theorem dX12_piece_86 : decode cX12_piece 86 = .ok (.istore 7, 2) := by decide +kernel
theorem dX12_piece_88 : decode cX12_piece 88 = .ok (.aload_n 0, 1) := by decide +kernel
theorem dX12_piece_89 : decode cX12_piece 89 = .ok (.aload_n 0, 1) := by decide +kernel
theorem dX12_piece_90 : decode cX12_piece 90 = .ok (.getfield 269, 3) := by decide +kernel
theorem dX12_piece_93 : decode cX12_piece 93 = .ok (.iload 7, 2) := by decide +kernel
theorem dX12_piece_95 : decode cX12_piece 95 = .ok (.laload, 1) := by decide +kernel
theorem dX12_piece_96 : decode cX12_piece 96 = .ok (.lload_n 1, 1) := by decide +kernel
theorem dX12_piece_97 : decode cX12_piece 97 = .ok (.invokevirtual 281, 3) := by decide +kernel
theorem dX12_piece_100 : decode cX12_piece 100 = .ok (.aload_n 0, 1) := by decide +kernel
theorem dX12_piece_101 : decode cX12_piece 101 = .ok (.getfield 272, 3) := by decide +kernel
theorem dX12_piece_104 : decode cX12_piece 104 = .ok (.iload 7, 2) := by decide +kernel
theorem dX12_piece_106 : decode cX12_piece 106 = .ok (.baload, 1) := by decide +kernel
theorem dX12_piece_107 : decode cX12_piece 107 = .ok (.ifCond .eq 14, 3) := by decide +kernel
theorem dX12_piece_110 : decode cX12_piece 110 = .ok (.aload_n 0, 1) := by decide +kernel
theorem dX12_piece_111 : decode cX12_piece 111 = .ok (.getfield 266, 3) := by decide +kernel
theorem dX12_piece_114 : decode cX12_piece 114 = .ok (.iload 7, 2) := by decide +kernel
theorem dX12_piece_116 : decode cX12_piece 116 = .ok (.dup2, 1) := by decide +kernel
theorem dX12_piece_117 : decode cX12_piece 117 = .ok (.laload, 1) := by decide +kernel
theorem dX12_piece_118 : decode cX12_piece 118 = .ok (.lload_n 1, 1) := by decide +kernel
theorem dX12_piece_119 : decode cX12_piece 119 = .ok (.lor, 1) := by decide +kernel
theorem dX12_piece_120 : decode cX12_piece 120 = .ok (.lastore, 1) := by decide +kernel
theorem dX12_piece_121 : decode cX12_piece 121 = .ok (.aload_n 0, 1) := by decide +kernel
theorem dX12_piece_122 : decode cX12_piece 122 = .ok (.getfield 269, 3) := by decide +kernel
theorem dX12_piece_125 : decode cX12_piece 125 = .ok (.iload 7, 2) := by decide +kernel
theorem dX12_piece_127 : decode cX12_piece 127 = .ok (.iload 6, 2) := by decide +kernel
theorem dX12_piece_129 : decode cX12_piece 129 = .ok (.ifCond .eq 15, 3) := by decide +kernel
theorem dX12_piece_132 : decode cX12_piece 132 = .ok (.aload_n 0, 1) := by decide +kernel
theorem dX12_piece_133 : decode cX12_piece 133 = .ok (.getfield 269, 3) := by decide +kernel
theorem dX12_piece_136 : decode cX12_piece 136 = .ok (.iload 7, 2) := by decide +kernel
theorem dX12_piece_138 : decode cX12_piece 138 = .ok (.laload, 1) := by decide +kernel
theorem dX12_piece_139 : decode cX12_piece 139 = .ok (.lload_n 3, 1) := by decide +kernel
theorem dX12_piece_140 : decode cX12_piece 140 = .ok (.lor, 1) := by decide +kernel
theorem dX12_piece_141 : decode cX12_piece 141 = .ok (.goto 4, 3) := by decide +kernel
theorem dX12_piece_144 : decode cX12_piece 144 = .ok (.lload_n 3, 1) := by decide +kernel
theorem dX12_piece_145 : decode cX12_piece 145 = .ok (.lastore, 1) := by decide +kernel
theorem dX12_piece_146 : decode cX12_piece 146 = .ok (.aload_n 0, 1) := by decide +kernel
theorem dX12_piece_147 : decode cX12_piece 147 = .ok (.getfield 272, 3) := by decide +kernel
theorem dX12_piece_150 : decode cX12_piece 150 = .ok (.iload 7, 2) := by decide +kernel
theorem dX12_piece_152 : decode cX12_piece 152 = .ok (.aload_n 0, 1) := by decide +kernel
theorem dX12_piece_153 : decode cX12_piece 153 = .ok (.getfield 272, 3) := by decide +kernel
theorem dX12_piece_156 : decode cX12_piece 156 = .ok (.iload 7, 2) := by decide +kernel
theorem dX12_piece_158 : decode cX12_piece 158 = .ok (.baload, 1) := by decide +kernel
theorem dX12_piece_159 : decode cX12_piece 159 = .ok (.ifCond .eq 12, 3) := by decide +kernel
theorem dX12_piece_162 : decode cX12_piece 162 = .ok (.iload 6, 2) := by decide +kernel
theorem dX12_piece_164 : decode cX12_piece 164 = .ok (.ifCond .eq 7, 3) := by decide +kernel
theorem dX12_piece_167 : decode cX12_piece 167 = .ok (.iconst 1, 1) := by decide +kernel
theorem dX12_piece_168 : decode cX12_piece 168 = .ok (.goto 4, 3) := by decide +kernel
theorem dX12_piece_171 : decode cX12_piece 171 = .ok (.iconst 0, 1) := by decide +kernel
theorem dX12_piece_172 : decode cX12_piece 172 = .ok (.bastore, 1) := by decide +kernel
theorem dX12_piece_173 : decode cX12_piece 173 = .ok (.return_, 1) := by decide +kernel
theorem dX12_policy_0 : decode cX12_policy 0 = .ok (.aload_n 0, 1) := by decide +kernel
theorem dX12_policy_1 : decode cX12_policy 1 = .ok (.aload_n 0, 1) := by decide +kernel
theorem dX12_policy_2 : decode cX12_policy 2 = .ok (.getfield 355, 3) := by decide +kernel
theorem dX12_policy_5 : decode cX12_policy 5 = .ok (.bipush 12, 2) := by decide +kernel
theorem dX12_policy_7 : decode cX12_policy 7 = .ok (.if_icmp .ge 10, 3) := by decide +kernel
theorem dX12_policy_10 : decode cX12_policy 10 = .ok (.aload_n 0, 1) := by decide +kernel
theorem dX12_policy_11 : decode cX12_policy 11 = .ok (.getfield 355, 3) := by decide +kernel
theorem dX12_policy_14 : decode cX12_policy 14 = .ok (.goto 5, 3) := by decide +kernel
theorem dX12_policy_17 : decode cX12_policy 17 = .ok (.bipush 12, 2) := by decide +kernel
theorem dX12_policy_19 : decode cX12_policy 19 = .ok (.putfield 278, 3) := by decide +kernel
theorem dX12_policy_22 : decode cX12_policy 22 = .ok (.aload_n 0, 1) := by decide +kernel
theorem dX12_policy_23 : decode cX12_policy 23 = .ok (.getfield 358, 3) := by decide +kernel
theorem dX12_policy_26 : decode cX12_policy 26 = .ok (.aload_n 0, 1) := by decide +kernel
theorem dX12_policy_27 : decode cX12_policy 27 = .ok (.getfield 278, 3) := by decide +kernel
theorem dX12_policy_30 : decode cX12_policy 30 = .ok (.iconst 0, 1) := by decide +kernel
theorem dX12_policy_31 : decode cX12_policy 31 = .ok (.iastore, 1) := by decide +kernel
theorem dX12_policy_32 : decode cX12_policy 32 = .ok (.aload_n 0, 1) := by decide +kernel
theorem dX12_policy_33 : decode cX12_policy 33 = .ok (.getfield 320, 3) := by decide +kernel
theorem dX12_policy_36 : decode cX12_policy 36 = .ok (.aload_n 0, 1) := by decide +kernel
theorem dX12_policy_37 : decode cX12_policy 37 = .ok (.getfield 278, 3) := by decide +kernel
theorem dX12_policy_40 : decode cX12_policy 40 = .ok (.iconst 0, 1) := by decide +kernel
theorem dX12_policy_41 : decode cX12_policy 41 = .ok (.iastore, 1) := by decide +kernel
theorem dX12_policy_42 : decode cX12_policy 42 = .ok (.aload_n 0, 1) := by decide +kernel
theorem dX12_policy_43 : decode cX12_policy 43 = .ok (.getfield 346, 3) := by decide +kernel
theorem dX12_policy_46 : decode cX12_policy 46 = .ok (.aload_n 0, 1) := by decide +kernel
theorem dX12_policy_47 : decode cX12_policy 47 = .ok (.getfield 278, 3) := by decide +kernel
theorem dX12_policy_50 : decode cX12_policy 50 = .ok (.iconst 0, 1) := by decide +kernel
theorem dX12_policy_51 : decode cX12_policy 51 = .ok (.iastore, 1) := by decide +kernel
theorem dX12_policy_52 : decode cX12_policy 52 = .ok (.aload_n 0, 1) := by decide +kernel
theorem dX12_policy_53 : decode cX12_policy 53 = .ok (.getfield 292, 3) := by decide +kernel
theorem dX12_policy_56 : decode cX12_policy 56 = .ok (.aload_n 0, 1) := by decide +kernel
theorem dX12_policy_57 : decode cX12_policy 57 = .ok (.getfield 278, 3) := by decide +kernel
theorem dX12_policy_60 : decode cX12_policy 60 = .ok (.iconst 0, 1) := by decide +kernel
theorem dX12_policy_61 : decode cX12_policy 61 = .ok (.iastore, 1) := by decide +kernel
theorem dX12_policy_62 : decode cX12_policy 62 = .ok (.aload_n 0, 1) := by decide +kernel
theorem dX12_policy_63 : decode cX12_policy 63 = .ok (.iconst 0, 1) := by decide +kernel
theorem dX12_policy_64 : decode cX12_policy 64 = .ok (.putfield 224, 3) := by decide +kernel
theorem dX12_policy_67 : decode cX12_policy 67 = .ok (.aload_n 0, 1) := by decide +kernel
theorem dX12_policy_68 : decode cX12_policy 68 = .ok (.iconst 0, 1) := by decide +kernel
theorem dX12_policy_69 : decode cX12_policy 69 = .ok (.putfield 215, 3) := by decide +kernel
theorem dX12_policy_72 : decode cX12_policy 72 = .ok (.aload_n 0, 1) := by decide +kernel
theorem dX12_policy_73 : decode cX12_policy 73 = .ok (.invokevirtual 247, 3) := by decide +kernel
theorem dX12_policy_76 : decode cX12_policy 76 = .ok (.aload_n 0, 1) := by decide +kernel
theorem dX12_policy_77 : decode cX12_policy 77 = .ok (.getfield 215, 3) := by decide +kernel
theorem dX12_policy_80 : decode cX12_policy 80 = .ok (.ifCond .ne 17, 3) := by decide +kernel
theorem dX12_policy_83 : decode cX12_policy 83 = .ok (.aload_n 0, 1) := by decide +kernel
theorem dX12_policy_84 : decode cX12_policy 84 = .ok (.getfield 230, 3) := by decide +kernel
theorem dX12_policy_87 : decode cX12_policy 87 = .ok (.ifCond .eq 10, 3) := by decide +kernel
theorem dX12_policy_90 : decode cX12_policy 90 = .ok (.aload_n 0, 1) := by decide +kernel
theorem dX12_policy_91 : decode cX12_policy 91 = .ok (.invokevirtual 373, 3) := by decide +kernel
theorem dX12_policy_94 : decode cX12_policy 94 = .ok (.goto (-18), 3) := by decide +kernel
theorem dX12_policy_97 : decode cX12_policy 97 = .ok (.aload_n 0, 1) := by decide +kernel
theorem dX12_policy_98 : decode cX12_policy 98 = .ok (.aload_n 0, 1) := by decide +kernel
theorem dX12_policy_99 : decode cX12_policy 99 = .ok (.getfield 215, 3) := by decide +kernel
theorem dX12_policy_102 : decode cX12_policy 102 = .ok (.putfield 376, 3) := by decide +kernel
theorem dX12_policy_105 : decode cX12_policy 105 = .ok (.aload_n 0, 1) := by decide +kernel
theorem dX12_policy_106 : decode cX12_policy 106 = .ok (.iconst 0, 1) := by decide +kernel
theorem dX12_policy_107 : decode cX12_policy 107 = .ok (.putfield 1, 3) := by decide +kernel
theorem dX12_policy_110 : decode cX12_policy 110 = .ok (.aload_n 0, 1) := by decide +kernel
theorem dX12_policy_111 : decode cX12_policy 111 = .ok (.getfield 215, 3) := by decide +kernel
theorem dX12_policy_114 : decode cX12_policy 114 = .ok (.ifCond .eq 11, 3) := by decide +kernel
theorem dX12_policy_117 : decode cX12_policy 117 = .ok (.bipush (-10), 2) := by decide +kernel
theorem dX12_policy_119 : decode cX12_policy 119 = .ok (.aload_n 0, 1) := by decide +kernel
theorem dX12_policy_120 : decode cX12_policy 120 = .ok (.getfield 221, 3) := by decide +kernel
theorem dX12_policy_123 : decode cX12_policy 123 = .ok (.isub, 1) := by decide +kernel
theorem dX12_policy_124 : decode cX12_policy 124 = .ok (.ireturn, 1) := by decide +kernel
theorem dX12_policy_125 : decode cX12_policy 125 = .ok (.aload_n 0, 1) := by decide +kernel
theorem dX12_policy_126 : decode cX12_policy 126 = .ok (.getfield 355, 3) := by decide +kernel
theorem dX12_policy_129 : decode cX12_policy 129 = .ok (.bipush 12, 2) := by decide +kernel
theorem dX12_policy_131 : decode cX12_policy 131 = .ok (.if_icmp .ne 6, 3) := by decide +kernel
theorem dX12_policy_134 : decode cX12_policy 134 = .ok (.bipush (-3), 2) := by decide +kernel
theorem dX12_policy_136 : decode cX12_policy 136 = .ok (.ireturn, 1) := by decide +kernel
theorem dX12_policy_137 : decode cX12_policy 137 = .ok (.aload_n 0, 1) := by decide +kernel
theorem dX12_policy_138 : decode cX12_policy 138 = .ok (.dup, 1) := by decide +kernel
theorem dX12_policy_139 : decode cX12_policy 139 = .ok (.getfield 355, 3) := by decide +kernel
theorem dX12_policy_142 : decode cX12_policy 142 = .ok (.iconst 1, 1) := by decide +kernel
theorem dX12_policy_143 : decode cX12_policy 143 = .ok (.iadd, 1) := by decide +kernel
theorem dX12_policy_144 : decode cX12_policy 144 = .ok (.putfield 355, 3) := by decide +kernel
theorem dX12_policy_147 : decode cX12_policy 147 = .ok (.aload_n 0, 1) := by decide +kernel
theorem dX12_policy_148 : decode cX12_policy 148 = .ok (.getfield 355, 3) := by decide +kernel
theorem dX12_policy_151 : decode cX12_policy 151 = .ok (.iconst 1, 1) := by decide +kernel
theorem dX12_policy_152 : decode cX12_policy 152 = .ok (.isub, 1) := by decide +kernel
theorem dX12_policy_153 : decode cX12_policy 153 = .ok (.ireturn, 1) := by decide +kernel
theorem dX12_rowRead_0 : decode cX12_rowRead 0 = .ok (.aload_n 0, 1) := by decide +kernel
theorem dX12_rowRead_1 : decode cX12_rowRead 1 = .ok (.getfield 230, 3) := by decide +kernel
theorem dX12_rowRead_4 : decode cX12_rowRead 4 = .ok (.iconst 1, 1) := by decide +kernel
theorem dX12_rowRead_5 : decode cX12_rowRead 5 = .ok (.if_icmp .ne 46, 3) := by decide +kernel
theorem dX12_rowRead_8 : decode cX12_rowRead 8 = .ok (.aload_n 0, 1) := by decide +kernel
theorem dX12_rowRead_9 : decode cX12_rowRead 9 = .ok (.getfield 233, 3) := by decide +kernel
theorem dX12_rowRead_12 : decode cX12_rowRead 12 = .ok (.ifCond .eq 35, 3) := by decide +kernel
theorem dX12_rowRead_15 : decode cX12_rowRead 15 = .ok (.aload_n 0, 1) := by decide +kernel
theorem dX12_rowRead_16 : decode cX12_rowRead 16 = .ok (.getfield 233, 3) := by decide +kernel
theorem dX12_rowRead_19 : decode cX12_rowRead 19 = .ok (.bipush 23, 2) := by decide +kernel
theorem dX12_rowRead_21 : decode cX12_rowRead 21 = .ok (.bipush 28, 2) := by decide +kernel
theorem dX12_rowRead_23 : decode cX12_rowRead 23 = .ok (.invokestatic 18, 3) := by decide +kernel
theorem dX12_rowRead_26 : decode cX12_rowRead 26 = .ok (.ifCond .ne 21, 3) := by decide +kernel
theorem dX12_rowRead_29 : decode cX12_rowRead 29 = .ok (.aload_n 0, 1) := by decide +kernel
theorem dX12_rowRead_30 : decode cX12_rowRead 30 = .ok (.getfield 233, 3) := by decide +kernel
theorem dX12_rowRead_33 : decode cX12_rowRead 33 = .ok (.bipush 12, 2) := by decide +kernel
theorem dX12_rowRead_35 : decode cX12_rowRead 35 = .ok (.if_icmp .eq 12, 3) := by decide +kernel
theorem dX12_rowRead_38 : decode cX12_rowRead 38 = .ok (.aload_n 0, 1) := by decide +kernel
theorem dX12_rowRead_39 : decode cX12_rowRead 39 = .ok (.getfield 233, 3) := by decide +kernel
theorem dX12_rowRead_42 : decode cX12_rowRead 42 = .ok (.bipush 13, 2) := by decide +kernel
theorem dX12_rowRead_44 : decode cX12_rowRead 44 = .ok (.if_icmp .ne 7, 3) := by decide +kernel
theorem dX12_rowRead_47 : decode cX12_rowRead 47 = .ok (.iconst 1, 1) := by decide +kernel
theorem dX12_rowRead_48 : decode cX12_rowRead 48 = .ok (.goto 4, 3) := by decide +kernel
theorem dX12_rowRead_51 : decode cX12_rowRead 51 = .ok (.iconst 0, 1) := by decide +kernel
theorem dX12_rowRead_52 : decode cX12_rowRead 52 = .ok (.istore_n 1, 1) := by decide +kernel
theorem dX12_rowRead_53 : decode cX12_rowRead 53 = .ok (.iload_n 1, 1) := by decide +kernel
theorem dX12_rowRead_54 : decode cX12_rowRead 54 = .ok (.ifCond .ne 8, 3) := by decide +kernel
theorem dX12_rowRead_57 : decode cX12_rowRead 57 = .ok (.aload_n 0, 1) := by decide +kernel
theorem dX12_rowRead_58 : decode cX12_rowRead 58 = .ok (.iconst 2, 1) := by decide +kernel
theorem dX12_rowRead_59 : decode cX12_rowRead 59 = .ok (.invokevirtual 240, 3) := by decide +kernel
theorem dX12_rowRead_62 : decode cX12_rowRead 62 = .ok (.aload_n 0, 1) := by decide +kernel
theorem dX12_rowRead_63 : decode cX12_rowRead 63 = .ok (.getfield 358, 3) := by decide +kernel
theorem dX12_rowRead_66 : decode cX12_rowRead 66 = .ok (.aload_n 0, 1) := by decide +kernel
theorem dX12_rowRead_67 : decode cX12_rowRead 67 = .ok (.getfield 278, 3) := by decide +kernel
theorem dX12_rowRead_70 : decode cX12_rowRead 70 = .ok (.iaload, 1) := by decide +kernel
theorem dX12_rowRead_71 : decode cX12_rowRead 71 = .ok (.bipush 30, 2) := by decide +kernel
theorem dX12_rowRead_73 : decode cX12_rowRead 73 = .ok (.if_icmp .ne 8, 3) := by decide +kernel
theorem dX12_rowRead_76 : decode cX12_rowRead 76 = .ok (.aload_n 0, 1) := by decide +kernel
theorem dX12_rowRead_77 : decode cX12_rowRead 77 = .ok (.iconst 4, 1) := by decide +kernel
theorem dX12_rowRead_78 : decode cX12_rowRead 78 = .ok (.invokevirtual 240, 3) := by decide +kernel
theorem dX12_rowRead_81 : decode cX12_rowRead 81 = .ok (.aload_n 0, 1) := by decide +kernel
theorem dX12_rowRead_82 : decode cX12_rowRead 82 = .ok (.getfield 215, 3) := by decide +kernel
theorem dX12_rowRead_85 : decode cX12_rowRead 85 = .ok (.ifCond .eq 4, 3) := by decide +kernel
theorem dX12_rowRead_88 : decode cX12_rowRead 88 = .ok (.return_, 1) := by decide +kernel
theorem dX12_rowRead_89 : decode cX12_rowRead 89 = .ok (.bipush 31, 2) := by decide +kernel
theorem dX12_rowRead_91 : decode cX12_rowRead 91 = .ok (.aload_n 0, 1) := by decide +kernel
theorem dX12_rowRead_92 : decode cX12_rowRead 92 = .ok (.getfield 278, 3) := by decide +kernel
theorem dX12_rowRead_95 : decode cX12_rowRead 95 = .ok (.imul, 1) := by decide +kernel
theorem dX12_rowRead_96 : decode cX12_rowRead 96 = .ok (.aload_n 0, 1) := by decide +kernel
theorem dX12_rowRead_97 : decode cX12_rowRead 97 = .ok (.getfield 358, 3) := by decide +kernel
theorem dX12_rowRead_100 : decode cX12_rowRead 100 = .ok (.aload_n 0, 1) := by decide +kernel
theorem dX12_rowRead_101 : decode cX12_rowRead 101 = .ok (.getfield 278, 3) := by decide +kernel
theorem dX12_rowRead_104 : decode cX12_rowRead 104 = .ok (.iaload, 1) := by decide +kernel
theorem dX12_rowRead_105 : decode cX12_rowRead 105 = .ok (.iadd, 1) := by decide +kernel
theorem dX12_rowRead_106 : decode cX12_rowRead 106 = .ok (.istore_n 2, 1) := by decide +kernel
theorem dX12_rowRead_107 : decode cX12_rowRead 107 = .ok (.aload_n 0, 1) := by decide +kernel
theorem dX12_rowRead_108 : decode cX12_rowRead 108 = .ok (.getfield 358, 3) := by decide +kernel
theorem dX12_rowRead_111 : decode cX12_rowRead 111 = .ok (.aload_n 0, 1) := by decide +kernel
theorem dX12_rowRead_112 : decode cX12_rowRead 112 = .ok (.getfield 278, 3) := by decide +kernel
theorem dX12_rowRead_115 : decode cX12_rowRead 115 = .ok (.dup2, 1) := by decide +kernel
theorem dX12_rowRead_116 : decode cX12_rowRead 116 = .ok (.iaload, 1) := by decide +kernel
theorem dX12_rowRead_117 : decode cX12_rowRead 117 = .ok (.iconst 1, 1) := by decide +kernel
theorem dX12_rowRead_118 : decode cX12_rowRead 118 = .ok (.iadd, 1) := by decide +kernel
theorem dX12_rowRead_119 : decode cX12_rowRead 119 = .ok (.iastore, 1) := by decide +kernel
theorem dX12_rowRead_120 : decode cX12_rowRead 120 = .ok (.aload_n 0, 1) := by decide +kernel
theorem dX12_rowRead_121 : decode cX12_rowRead 121 = .ok (.getfield 361, 3) := by decide +kernel
theorem dX12_rowRead_124 : decode cX12_rowRead 124 = .ok (.iload_n 2, 1) := by decide +kernel
theorem dX12_rowRead_125 : decode cX12_rowRead 125 = .ok (.aload_n 0, 1) := by decide +kernel
theorem dX12_rowRead_126 : decode cX12_rowRead 126 = .ok (.getfield 320, 3) := by decide +kernel
theorem dX12_rowRead_129 : decode cX12_rowRead 129 = .ok (.aload_n 0, 1) := by decide +kernel
theorem dX12_rowRead_130 : decode cX12_rowRead 130 = .ok (.getfield 278, 3) := by decide +kernel
theorem dX12_rowRead_133 : decode cX12_rowRead 133 = .ok (.iaload, 1) := by decide +kernel
theorem dX12_rowRead_134 : decode cX12_rowRead 134 = .ok (.iastore, 1) := by decide +kernel
theorem dX12_rowRead_135 : decode cX12_rowRead 135 = .ok (.aload_n 0, 1) := by decide +kernel
theorem dX12_rowRead_136 : decode cX12_rowRead 136 = .ok (.getfield 364, 3) := by decide +kernel
theorem dX12_rowRead_139 : decode cX12_rowRead 139 = .ok (.iload_n 2, 1) := by decide +kernel
theorem dX12_rowRead_140 : decode cX12_rowRead 140 = .ok (.aload_n 0, 1) := by decide +kernel
theorem dX12_rowRead_141 : decode cX12_rowRead 141 = .ok (.getfield 346, 3) := by decide +kernel
theorem dX12_rowRead_144 : decode cX12_rowRead 144 = .ok (.aload_n 0, 1) := by decide +kernel
theorem dX12_rowRead_145 : decode cX12_rowRead 145 = .ok (.getfield 278, 3) := by decide +kernel
theorem dX12_rowRead_148 : decode cX12_rowRead 148 = .ok (.iaload, 1) := by decide +kernel
theorem dX12_rowRead_149 : decode cX12_rowRead 149 = .ok (.iastore, 1) := by decide +kernel
theorem dX12_rowRead_150 : decode cX12_rowRead 150 = .ok (.aload_n 0, 1) := by decide +kernel
theorem dX12_rowRead_151 : decode cX12_rowRead 151 = .ok (.iconst 0, 1) := by decide +kernel
theorem dX12_rowRead_152 : decode cX12_rowRead 152 = .ok (.invokevirtual 288, 3) := by decide +kernel
theorem dX12_rowRead_155 : decode cX12_rowRead 155 = .ok (.ifCond .eq 47, 3) := by decide +kernel
theorem dX12_rowRead_158 : decode cX12_rowRead 158 = .ok (.aload_n 0, 1) := by decide +kernel
theorem dX12_rowRead_159 : decode cX12_rowRead 159 = .ok (.invokevirtual 247, 3) := by decide +kernel
theorem dX12_rowRead_162 : decode cX12_rowRead 162 = .ok (.aload_n 0, 1) := by decide +kernel
theorem dX12_rowRead_163 : decode cX12_rowRead 163 = .ok (.invokevirtual 367, 3) := by decide +kernel
theorem dX12_rowRead_166 : decode cX12_rowRead 166 = .ok (.aload_n 0, 1) := by decide +kernel
theorem dX12_rowRead_167 : decode cX12_rowRead 167 = .ok (.iconst 1, 1) := by decide +kernel
theorem dX12_rowRead_168 : decode cX12_rowRead 168 = .ok (.invokevirtual 288, 3) := by decide +kernel
theorem dX12_rowRead_171 : decode cX12_rowRead 171 = .ok (.ifCond .eq 14, 3) := by decide +kernel
theorem dX12_rowRead_174 : decode cX12_rowRead 174 = .ok (.aload_n 0, 1) := by decide +kernel
theorem dX12_rowRead_175 : decode cX12_rowRead 175 = .ok (.invokevirtual 247, 3) := by decide +kernel
theorem dX12_rowRead_178 : decode cX12_rowRead 178 = .ok (.aload_n 0, 1) := by decide +kernel
theorem dX12_rowRead_179 : decode cX12_rowRead 179 = .ok (.invokevirtual 367, 3) := by decide +kernel
theorem dX12_rowRead_182 : decode cX12_rowRead 182 = .ok (.goto (-16), 3) := by decide +kernel
theorem dX12_rowRead_185 : decode cX12_rowRead 185 = .ok (.aload_n 0, 1) := by decide +kernel
theorem dX12_rowRead_186 : decode cX12_rowRead 186 = .ok (.iconst 2, 1) := by decide +kernel
theorem dX12_rowRead_187 : decode cX12_rowRead 187 = .ok (.invokevirtual 288, 3) := by decide +kernel
theorem dX12_rowRead_190 : decode cX12_rowRead 190 = .ok (.ifCond .ne 8, 3) := by decide +kernel
theorem dX12_rowRead_193 : decode cX12_rowRead 193 = .ok (.aload_n 0, 1) := by decide +kernel
theorem dX12_rowRead_194 : decode cX12_rowRead 194 = .ok (.iconst 2, 1) := by decide +kernel
theorem dX12_rowRead_195 : decode cX12_rowRead 195 = .ok (.invokevirtual 240, 3) := by decide +kernel
theorem dX12_rowRead_198 : decode cX12_rowRead 198 = .ok (.aload_n 0, 1) := by decide +kernel
theorem dX12_rowRead_199 : decode cX12_rowRead 199 = .ok (.invokevirtual 247, 3) := by decide +kernel
theorem dX12_rowRead_202 : decode cX12_rowRead 202 = .ok (.aload_n 0, 1) := by decide +kernel
theorem dX12_rowRead_203 : decode cX12_rowRead 203 = .ok (.invokevirtual 370, 3) := by decide +kernel
theorem dX12_rowRead_206 : decode cX12_rowRead 206 = .ok (.aload_n 0, 1) := by decide +kernel
theorem dX12_rowRead_207 : decode cX12_rowRead 207 = .ok (.bipush 44, 2) := by decide +kernel
theorem dX12_rowRead_209 : decode cX12_rowRead 209 = .ok (.invokevirtual 244, 3) := by decide +kernel
theorem dX12_rowRead_212 : decode cX12_rowRead 212 = .ok (.ifCond .eq 14, 3) := by decide +kernel
theorem dX12_rowRead_215 : decode cX12_rowRead 215 = .ok (.aload_n 0, 1) := by decide +kernel
theorem dX12_rowRead_216 : decode cX12_rowRead 216 = .ok (.invokevirtual 247, 3) := by decide +kernel
theorem dX12_rowRead_219 : decode cX12_rowRead 219 = .ok (.aload_n 0, 1) := by decide +kernel
theorem dX12_rowRead_220 : decode cX12_rowRead 220 = .ok (.invokevirtual 370, 3) := by decide +kernel
theorem dX12_rowRead_223 : decode cX12_rowRead 223 = .ok (.goto (-17), 3) := by decide +kernel
theorem dX12_rowRead_226 : decode cX12_rowRead 226 = .ok (.aload_n 0, 1) := by decide +kernel
theorem dX12_rowRead_227 : decode cX12_rowRead 227 = .ok (.bipush 59, 2) := by decide +kernel
theorem dX12_rowRead_229 : decode cX12_rowRead 229 = .ok (.invokevirtual 317, 3) := by decide +kernel
theorem dX12_rowRead_232 : decode cX12_rowRead 232 = .ok (.aload_n 0, 1) := by decide +kernel
theorem dX12_rowRead_233 : decode cX12_rowRead 233 = .ok (.getfield 361, 3) := by decide +kernel
theorem dX12_rowRead_236 : decode cX12_rowRead 236 = .ok (.iload_n 2, 1) := by decide +kernel
theorem dX12_rowRead_237 : decode cX12_rowRead 237 = .ok (.iconst 1, 1) := by decide +kernel
theorem dX12_rowRead_238 : decode cX12_rowRead 238 = .ok (.iadd, 1) := by decide +kernel
theorem dX12_rowRead_239 : decode cX12_rowRead 239 = .ok (.aload_n 0, 1) := by decide +kernel
theorem dX12_rowRead_240 : decode cX12_rowRead 240 = .ok (.getfield 320, 3) := by decide +kernel
theorem dX12_rowRead_243 : decode cX12_rowRead 243 = .ok (.aload_n 0, 1) := by decide +kernel
theorem dX12_rowRead_244 : decode cX12_rowRead 244 = .ok (.getfield 278, 3) := by decide +kernel
theorem dX12_rowRead_247 : decode cX12_rowRead 247 = .ok (.iaload, 1) := by decide +kernel
theorem dX12_rowRead_248 : decode cX12_rowRead 248 = .ok (.iastore, 1) := by decide +kernel
theorem dX12_rowRead_249 : decode cX12_rowRead 249 = .ok (.aload_n 0, 1) := by decide +kernel
theorem dX12_rowRead_250 : decode cX12_rowRead 250 = .ok (.getfield 364, 3) := by decide +kernel
theorem dX12_rowRead_253 : decode cX12_rowRead 253 = .ok (.iload_n 2, 1) := by decide +kernel
theorem dX12_rowRead_254 : decode cX12_rowRead 254 = .ok (.iconst 1, 1) := by decide +kernel
theorem dX12_rowRead_255 : decode cX12_rowRead 255 = .ok (.iadd, 1) := by decide +kernel
theorem dX12_rowRead_256 : decode cX12_rowRead 256 = .ok (.aload_n 0, 1) := by decide +kernel
theorem dX12_rowRead_257 : decode cX12_rowRead 257 = .ok (.getfield 346, 3) := by decide +kernel
theorem dX12_rowRead_260 : decode cX12_rowRead 260 = .ok (.aload_n 0, 1) := by decide +kernel
theorem dX12_rowRead_261 : decode cX12_rowRead 261 = .ok (.getfield 278, 3) := by decide +kernel
theorem dX12_rowRead_264 : decode cX12_rowRead 264 = .ok (.iaload, 1) := by decide +kernel
theorem dX12_rowRead_265 : decode cX12_rowRead 265 = .ok (.iastore, 1) := by decide +kernel
theorem dX12_rowRead_266 : decode cX12_rowRead 266 = .ok (.return_, 1) := by decide +kernel
theorem dX12_sign_0 : decode cX12_sign 0 = .ok (.aload_n 0, 1) := by decide +kernel
theorem dX12_sign_1 : decode cX12_sign 1 = .ok (.iload_n 1, 1) := by decide +kernel
theorem dX12_sign_2 : decode cX12_sign 2 = .ok (.invokevirtual 244, 3) := by decide +kernel
theorem dX12_sign_5 : decode cX12_sign 5 = .ok (.ifCond .ne 8, 3) := by decide +kernel
theorem dX12_sign_8 : decode cX12_sign 8 = .ok (.aload_n 0, 1) := by decide +kernel
theorem dX12_sign_9 : decode cX12_sign 9 = .ok (.iconst 2, 1) := by decide +kernel
theorem dX12_sign_10 : decode cX12_sign 10 = .ok (.invokevirtual 240, 3) := by decide +kernel
theorem dX12_sign_13 : decode cX12_sign 13 = .ok (.aload_n 0, 1) := by decide +kernel
theorem dX12_sign_14 : decode cX12_sign 14 = .ok (.invokevirtual 247, 3) := by decide +kernel
theorem dX12_sign_17 : decode cX12_sign 17 = .ok (.return_, 1) := by decide +kernel
theorem dX12_test_0 : decode cX12_test 0 = .ok (.iconst 0, 1) := by decide +kernel
theorem dX12_test_1 : decode cX12_test 1 = .ok (.istore_n 1, 1) := by decide +kernel
theorem dX12_test_2 : decode cX12_test 2 = .ok (.aload_n 0, 1) := by decide +kernel
theorem dX12_test_3 : decode cX12_test 3 = .ok (.iconst 3, 1) := by decide +kernel
theorem dX12_test_4 : decode cX12_test 4 = .ok (.invokevirtual 288, 3) := by decide +kernel
theorem dX12_test_7 : decode cX12_test 7 = .ok (.ifCond .eq 20, 3) := by decide +kernel
theorem dX12_test_10 : decode cX12_test 10 = .ok (.iload_n 1, 1) := by decide +kernel
theorem dX12_test_11 : decode cX12_test 11 = .ok (.ifCond .ne 7, 3) := by decide +kernel
theorem dX12_test_14 : decode cX12_test 14 = .ok (.iconst 1, 1) := by decide +kernel
theorem dX12_test_15 : decode cX12_test 15 = .ok (.goto 4, 3) := by decide +kernel
theorem dX12_test_18 : decode cX12_test 18 = .ok (.iconst 0, 1) := by decide +kernel
theorem dX12_test_19 : decode cX12_test 19 = .ok (.istore_n 1, 1) := by decide +kernel
theorem dX12_test_20 : decode cX12_test 20 = .ok (.aload_n 0, 1) := by decide +kernel
theorem dX12_test_21 : decode cX12_test 21 = .ok (.invokevirtual 247, 3) := by decide +kernel
theorem dX12_test_24 : decode cX12_test 24 = .ok (.goto (-22), 3) := by decide +kernel
theorem dX12_test_27 : decode cX12_test 27 = .ok (.aload_n 0, 1) := by decide +kernel
theorem dX12_test_28 : decode cX12_test 28 = .ok (.getfield 230, 3) := by decide +kernel
theorem dX12_test_31 : decode cX12_test 31 = .ok (.iconst 1, 1) := by decide +kernel
theorem dX12_test_32 : decode cX12_test 32 = .ok (.if_icmp .ne 34, 3) := by decide +kernel
theorem dX12_test_35 : decode cX12_test 35 = .ok (.aload_n 0, 1) := by decide +kernel
theorem dX12_test_36 : decode cX12_test 36 = .ok (.getfield 233, 3) := by decide +kernel
theorem dX12_test_39 : decode cX12_test 39 = .ok (.iconst 4, 1) := by decide +kernel
theorem dX12_test_40 : decode cX12_test 40 = .ok (.if_icmp .eq 31, 3) := by decide +kernel
theorem dX12_test_43 : decode cX12_test 43 = .ok (.aload_n 0, 1) := by decide +kernel
theorem dX12_test_44 : decode cX12_test 44 = .ok (.getfield 233, 3) := by decide +kernel
theorem dX12_test_47 : decode cX12_test 47 = .ok (.bipush 6, 2) := by decide +kernel
theorem dX12_test_49 : decode cX12_test 49 = .ok (.if_icmp .eq 22, 3) := by decide +kernel
theorem dX12_test_52 : decode cX12_test 52 = .ok (.aload_n 0, 1) := by decide +kernel
theorem dX12_test_53 : decode cX12_test 53 = .ok (.getfield 233, 3) := by decide +kernel
theorem dX12_test_56 : decode cX12_test 56 = .ok (.bipush 8, 2) := by decide +kernel
theorem dX12_test_58 : decode cX12_test 58 = .ok (.bipush 15, 2) := by decide +kernel
theorem dX12_test_60 : decode cX12_test 60 = .ok (.invokestatic 18, 3) := by decide +kernel
theorem dX12_test_63 : decode cX12_test 63 = .ok (.ifCond .ne 8, 3) := by decide +kernel
theorem dX12_test_66 : decode cX12_test 66 = .ok (.aload_n 0, 1) := by decide +kernel
theorem dX12_test_67 : decode cX12_test 67 = .ok (.iconst 2, 1) := by decide +kernel
theorem dX12_test_68 : decode cX12_test 68 = .ok (.invokevirtual 240, 3) := by decide +kernel
theorem dX12_test_71 : decode cX12_test 71 = .ok (.aload_n 0, 1) := by decide +kernel
theorem dX12_test_72 : decode cX12_test 72 = .ok (.getfield 215, 3) := by decide +kernel
theorem dX12_test_75 : decode cX12_test 75 = .ok (.ifCond .eq 4, 3) := by decide +kernel
theorem dX12_test_78 : decode cX12_test 78 = .ok (.return_, 1) := by decide +kernel
theorem dX12_test_79 : decode cX12_test 79 = .ok (.sipush 300, 3) := by decide +kernel
theorem dX12_test_82 : decode cX12_test 82 = .ok (.aload_n 0, 1) := by decide +kernel
theorem dX12_test_83 : decode cX12_test 83 = .ok (.getfield 278, 3) := by decide +kernel
theorem dX12_test_86 : decode cX12_test 86 = .ok (.imul, 1) := by decide +kernel
theorem dX12_test_87 : decode cX12_test 87 = .ok (.aload_n 0, 1) := by decide +kernel
theorem dX12_test_88 : decode cX12_test 88 = .ok (.getfield 320, 3) := by decide +kernel
theorem dX12_test_91 : decode cX12_test 91 = .ok (.aload_n 0, 1) := by decide +kernel
theorem dX12_test_92 : decode cX12_test 92 = .ok (.getfield 278, 3) := by decide +kernel
theorem dX12_test_95 : decode cX12_test 95 = .ok (.iaload, 1) := by decide +kernel
theorem dX12_test_96 : decode cX12_test 96 = .ok (.iadd, 1) := by decide +kernel
theorem dX12_test_97 : decode cX12_test 97 = .ok (.istore_n 2, 1) := by decide +kernel
theorem dX12_test_98 : decode cX12_test 98 = .ok (.aload_n 0, 1) := by decide +kernel
theorem dX12_test_99 : decode cX12_test 99 = .ok (.getfield 320, 3) := by decide +kernel
theorem dX12_test_102 : decode cX12_test 102 = .ok (.aload_n 0, 1) := by decide +kernel
theorem dX12_test_103 : decode cX12_test 103 = .ok (.getfield 278, 3) := by decide +kernel
theorem dX12_test_106 : decode cX12_test 106 = .ok (.dup2, 1) := by decide +kernel
theorem dX12_test_107 : decode cX12_test 107 = .ok (.iaload, 1) := by decide +kernel
theorem dX12_test_108 : decode cX12_test 108 = .ok (.iconst 1, 1) := by decide +kernel
theorem dX12_test_109 : decode cX12_test 109 = .ok (.iadd, 1) := by decide +kernel
theorem dX12_test_110 : decode cX12_test 110 = .ok (.iastore, 1) := by decide +kernel
theorem dX12_test_111 : decode cX12_test 111 = .ok (.aload_n 0, 1) := by decide +kernel
theorem dX12_test_112 : decode cX12_test 112 = .ok (.getfield 233, 3) := by decide +kernel
theorem dX12_test_115 : decode cX12_test 115 = .ok (.istore_n 3, 1) := by decide +kernel
theorem dX12_test_116 : decode cX12_test 116 = .ok (.aload_n 0, 1) := by decide +kernel
theorem dX12_test_117 : decode cX12_test 117 = .ok (.getfield 323, 3) := by decide +kernel
theorem dX12_test_120 : decode cX12_test 120 = .ok (.iload_n 2, 1) := by decide +kernel
theorem dX12_test_121 : decode cX12_test 121 = .ok (.iload_n 3, 1) := by decide +kernel
theorem dX12_test_122 : decode cX12_test 122 = .ok (.iastore, 1) := by decide +kernel
theorem dX12_test_123 : decode cX12_test 123 = .ok (.aload_n 0, 1) := by decide +kernel
theorem dX12_test_124 : decode cX12_test 124 = .ok (.getfield 326, 3) := by decide +kernel
theorem dX12_test_127 : decode cX12_test 127 = .ok (.iload_n 2, 1) := by decide +kernel
theorem dX12_test_128 : decode cX12_test 128 = .ok (.iload_n 1, 1) := by decide +kernel
theorem dX12_test_129 : decode cX12_test 129 = .ok (.bastore, 1) := by decide +kernel
theorem dX12_test_130 : decode cX12_test 130 = .ok (.aload_n 0, 1) := by decide +kernel
theorem dX12_test_131 : decode cX12_test 131 = .ok (.invokevirtual 247, 3) := by decide +kernel
theorem dX12_test_134 : decode cX12_test 134 = .ok (.iload_n 3, 1) := by decide +kernel
theorem dX12_test_135 : decode cX12_test 135 = .ok (.iconst 4, 1) := by decide +kernel
theorem dX12_test_136 : decode cX12_test 136 = .ok (.if_icmp .ne 125, 3) := by decide +kernel
theorem dX12_test_139 : decode cX12_test 139 = .ok (.aload_n 0, 1) := by decide +kernel
theorem dX12_test_140 : decode cX12_test 140 = .ok (.getfield 329, 3) := by decide +kernel
theorem dX12_test_143 : decode cX12_test 143 = .ok (.iload_n 2, 1) := by decide +kernel
theorem dX12_test_144 : decode cX12_test 144 = .ok (.aload_n 0, 1) := by decide +kernel
theorem dX12_test_145 : decode cX12_test 145 = .ok (.invokevirtual 332, 3) := by decide +kernel
theorem dX12_test_148 : decode cX12_test 148 = .ok (.iastore, 1) := by decide +kernel
theorem dX12_test_149 : decode cX12_test 149 = .ok (.aload_n 0, 1) := by decide +kernel
theorem dX12_test_150 : decode cX12_test 150 = .ok (.bipush 47, 2) := by decide +kernel
theorem dX12_test_152 : decode cX12_test 152 = .ok (.invokevirtual 317, 3) := by decide +kernel
theorem dX12_test_155 : decode cX12_test 155 = .ok (.aload_n 0, 1) := by decide +kernel
theorem dX12_test_156 : decode cX12_test 156 = .ok (.getfield 215, 3) := by decide +kernel
theorem dX12_test_159 : decode cX12_test 159 = .ok (.ifCond .ne 48, 3) := by decide +kernel
theorem dX12_test_162 : decode cX12_test 162 = .ok (.aload_n 0, 1) := by decide +kernel
theorem dX12_test_163 : decode cX12_test 163 = .ok (.getfield 230, 3) := by decide +kernel
theorem dX12_test_166 : decode cX12_test 166 = .ok (.iconst 2, 1) := by decide +kernel
theorem dX12_test_167 : decode cX12_test 167 = .ok (.if_icmp .ne 40, 3) := by decide +kernel
theorem dX12_test_170 : decode cX12_test 170 = .ok (.aload_n 0, 1) := by decide +kernel
theorem dX12_test_171 : decode cX12_test 171 = .ok (.getfield 233, 3) := by decide +kernel
theorem dX12_test_174 : decode cX12_test 174 = .ok (.iconst 0, 1) := by decide +kernel
theorem dX12_test_175 : decode cX12_test 175 = .ok (.bipush 32, 2) := by decide +kernel
theorem dX12_test_177 : decode cX12_test 177 = .ok (.invokestatic 18, 3) := by decide +kernel
theorem dX12_test_180 : decode cX12_test 180 = .ok (.ifCond .eq 27, 3) := by decide +kernel
theorem dX12_test_183 : decode cX12_test 183 = .ok (.aload_n 0, 1) := by decide +kernel
theorem dX12_test_184 : decode cX12_test 184 = .ok (.getfield 329, 3) := by decide +kernel
theorem dX12_test_187 : decode cX12_test 187 = .ok (.iload_n 2, 1) := by decide +kernel
theorem dX12_test_188 : decode cX12_test 188 = .ok (.iaload, 1) := by decide +kernel
theorem dX12_test_189 : decode cX12_test 189 = .ok (.aload_n 0, 1) := by decide +kernel
theorem dX12_test_190 : decode cX12_test 190 = .ok (.getfield 233, 3) := by decide +kernel
theorem dX12_test_193 : decode cX12_test 193 = .ok (.invokestatic 11, 3) := by decide +kernel
theorem dX12_test_196 : decode cX12_test 196 = .ok (.iconst (-1), 1) := by decide +kernel
theorem dX12_test_197 : decode cX12_test 197 = .ok (.ixor, 1) := by decide +kernel
theorem dX12_test_198 : decode cX12_test 198 = .ok (.iand, 1) := by decide +kernel
theorem dX12_test_199 : decode cX12_test 199 = .ok (.ifCond .eq 8, 3) := by decide +kernel
theorem dX12_test_202 : decode cX12_test 202 = .ok (.aload_n 0, 1) := by decide +kernel
theorem dX12_test_203 : decode cX12_test 203 = .ok (.iconst 3, 1) := by decide +kernel
theorem dX12_test_204 : decode cX12_test 204 = .ok (.invokevirtual 240, 3) := by decide +kernel
theorem dX12_test_207 : decode cX12_test 207 = .ok (.aload_n 0, 1) := by decide +kernel
theorem dX12_test_208 : decode cX12_test 208 = .ok (.getfield 336, 3) := by decide +kernel
theorem dX12_test_211 : decode cX12_test 211 = .ok (.iload_n 2, 1) := by decide +kernel
theorem dX12_test_212 : decode cX12_test 212 = .ok (.aload_n 0, 1) := by decide +kernel
theorem dX12_test_213 : decode cX12_test 213 = .ok (.iconst 0, 1) := by decide +kernel
theorem dX12_test_214 : decode cX12_test 214 = .ok (.bipush 32, 2) := by decide +kernel
theorem dX12_test_216 : decode cX12_test 216 = .ok (.invokevirtual 314, 3) := by decide +kernel
theorem dX12_test_219 : decode cX12_test 219 = .ok (.iastore, 1) := by decide +kernel
theorem dX12_test_220 : decode cX12_test 220 = .ok (.aload_n 0, 1) := by decide +kernel
theorem dX12_test_221 : decode cX12_test 221 = .ok (.getfield 339, 3) := by decide +kernel
theorem dX12_test_224 : decode cX12_test 224 = .ok (.iload_n 2, 1) := by decide +kernel
theorem dX12_test_225 : decode cX12_test 225 = .ok (.bipush 32, 2) := by decide +kernel
theorem dX12_test_227 : decode cX12_test 227 = .ok (.iastore, 1) := by decide +kernel
theorem dX12_test_228 : decode cX12_test 228 = .ok (.aload_n 0, 1) := by decide +kernel
theorem dX12_test_229 : decode cX12_test 229 = .ok (.iconst 5, 1) := by decide +kernel
theorem dX12_test_230 : decode cX12_test 230 = .ok (.invokevirtual 288, 3) := by decide +kernel
theorem dX12_test_233 : decode cX12_test 233 = .ok (.ifCond .eq 280, 3) := by decide +kernel
theorem dX12_test_236 : decode cX12_test 236 = .ok (.aload_n 0, 1) := by decide +kernel
theorem dX12_test_237 : decode cX12_test 237 = .ok (.invokevirtual 247, 3) := by decide +kernel
theorem dX12_test_240 : decode cX12_test 240 = .ok (.aload_n 0, 1) := by decide +kernel
theorem dX12_test_241 : decode cX12_test 241 = .ok (.getfield 339, 3) := by decide +kernel
theorem dX12_test_244 : decode cX12_test 244 = .ok (.iload_n 2, 1) := by decide +kernel
theorem dX12_test_245 : decode cX12_test 245 = .ok (.aload_n 0, 1) := by decide +kernel
theorem dX12_test_246 : decode cX12_test 246 = .ok (.aload_n 0, 1) := by decide +kernel
theorem dX12_test_247 : decode cX12_test 247 = .ok (.getfield 336, 3) := by decide +kernel
theorem dX12_test_250 : decode cX12_test 250 = .ok (.iload_n 2, 1) := by decide +kernel
theorem dX12_test_251 : decode cX12_test 251 = .ok (.iaload, 1) := by decide +kernel
theorem dX12_test_252 : decode cX12_test 252 = .ok (.bipush 32, 2) := by decide +kernel
theorem dX12_test_254 : decode cX12_test 254 = .ok (.invokevirtual 314, 3) := by decide +kernel
theorem dX12_test_257 : decode cX12_test 257 = .ok (.iastore, 1) := by decide +kernel
theorem dX12_test_258 : decode cX12_test 258 = .ok (.goto 255, 3) := by decide +kernel
theorem dX12_test_261 : decode cX12_test 261 = .ok (.iload_n 3, 1) := by decide +kernel
theorem dX12_test_262 : decode cX12_test 262 = .ok (.bipush 6, 2) := by decide +kernel
theorem dX12_test_264 : decode cX12_test 264 = .ok (.if_icmp .ne 11, 3) := by decide +kernel
theorem dX12_test_267 : decode cX12_test 267 = .ok (.aload_n 0, 1) := by decide +kernel
theorem dX12_test_268 : decode cX12_test 268 = .ok (.iload_n 2, 1) := by decide +kernel
theorem dX12_test_269 : decode cX12_test 269 = .ok (.invokevirtual 342, 3) := by decide +kernel
theorem dX12_test_272 : decode cX12_test 272 = .ok (.goto 241, 3) := by decide +kernel
theorem dX12_test_275 : decode cX12_test 275 = .ok (.iload_n 3, 1) := by decide +kernel
theorem dX12_test_276 : decode cX12_test 276 = .ok (.bipush 8, 2) := by decide +kernel
theorem dX12_test_278 : decode cX12_test 278 = .ok (.if_icmp .ne 20, 3) := by decide +kernel
theorem dX12_test_281 : decode cX12_test 281 = .ok (.aload_n 0, 1) := by decide +kernel
theorem dX12_test_282 : decode cX12_test 282 = .ok (.getfield 329, 3) := by decide +kernel
theorem dX12_test_285 : decode cX12_test 285 = .ok (.iload_n 2, 1) := by decide +kernel
theorem dX12_test_286 : decode cX12_test 286 = .ok (.aload_n 0, 1) := by decide +kernel
theorem dX12_test_287 : decode cX12_test 287 = .ok (.iconst 0, 1) := by decide +kernel
theorem dX12_test_288 : decode cX12_test 288 = .ok (.ldc_w 345, 3) := by decide +kernel
theorem dX12_test_291 : decode cX12_test 291 = .ok (.invokevirtual 314, 3) := by decide +kernel
theorem dX12_test_294 : decode cX12_test 294 = .ok (.iastore, 1) := by decide +kernel
theorem dX12_test_295 : decode cX12_test 295 = .ok (.goto 218, 3) := by decide +kernel
theorem dX12_test_298 : decode cX12_test 298 = .ok (.iload_n 3, 1) := by decide +kernel
theorem dX12_test_299 : decode cX12_test 299 = .ok (.bipush 9, 2) := by decide +kernel
theorem dX12_test_301 : decode cX12_test 301 = .ok (.if_icmp .ne 19, 3) := by decide +kernel
theorem dX12_test_304 : decode cX12_test 304 = .ok (.aload_n 0, 1) := by decide +kernel
theorem dX12_test_305 : decode cX12_test 305 = .ok (.getfield 329, 3) := by decide +kernel
theorem dX12_test_308 : decode cX12_test 308 = .ok (.iload_n 2, 1) := by decide +kernel
theorem dX12_test_309 : decode cX12_test 309 = .ok (.aload_n 0, 1) := by decide +kernel
theorem dX12_test_310 : decode cX12_test 310 = .ok (.iconst 0, 1) := by decide +kernel
theorem dX12_test_311 : decode cX12_test 311 = .ok (.bipush 9, 2) := by decide +kernel
theorem dX12_test_313 : decode cX12_test 313 = .ok (.invokevirtual 314, 3) := by decide +kernel
theorem dX12_test_316 : decode cX12_test 316 = .ok (.iastore, 1) := by decide +kernel
theorem dX12_test_317 : decode cX12_test 317 = .ok (.goto 196, 3) := by decide +kernel
theorem dX12_test_320 : decode cX12_test 320 = .ok (.iload_n 3, 1) := by decide +kernel
theorem dX12_test_321 : decode cX12_test 321 = .ok (.bipush 10, 2) := by decide +kernel
theorem dX12_test_323 : decode cX12_test 323 = .ok (.if_icmp .ne 47, 3) := by decide +kernel
theorem dX12_test_326 : decode cX12_test 326 = .ok (.aload_n 0, 1) := by decide +kernel
theorem dX12_test_327 : decode cX12_test 327 = .ok (.getfield 230, 3) := by decide +kernel
theorem dX12_test_330 : decode cX12_test 330 = .ok (.iconst 1, 1) := by decide +kernel
theorem dX12_test_331 : decode cX12_test 331 = .ok (.if_icmp .ne 17, 3) := by decide +kernel
theorem dX12_test_334 : decode cX12_test 334 = .ok (.aload_n 0, 1) := by decide +kernel
theorem dX12_test_335 : decode cX12_test 335 = .ok (.getfield 233, 3) := by decide +kernel
theorem dX12_test_338 : decode cX12_test 338 = .ok (.bipush 16, 2) := by decide +kernel
theorem dX12_test_340 : decode cX12_test 340 = .ok (.bipush 19, 2) := by decide +kernel
theorem dX12_test_342 : decode cX12_test 342 = .ok (.invokestatic 18, 3) := by decide +kernel
theorem dX12_test_345 : decode cX12_test 345 = .ok (.ifCond .ne 8, 3) := by decide +kernel
theorem dX12_test_348 : decode cX12_test 348 = .ok (.aload_n 0, 1) := by decide +kernel
theorem dX12_test_349 : decode cX12_test 349 = .ok (.iconst 2, 1) := by decide +kernel
theorem dX12_test_350 : decode cX12_test 350 = .ok (.invokevirtual 240, 3) := by decide +kernel
theorem dX12_test_353 : decode cX12_test 353 = .ok (.aload_n 0, 1) := by decide +kernel
theorem dX12_test_354 : decode cX12_test 354 = .ok (.getfield 329, 3) := by decide +kernel
theorem dX12_test_357 : decode cX12_test 357 = .ok (.iload_n 2, 1) := by decide +kernel
theorem dX12_test_358 : decode cX12_test 358 = .ok (.aload_n 0, 1) := by decide +kernel
theorem dX12_test_359 : decode cX12_test 359 = .ok (.getfield 233, 3) := by decide +kernel
theorem dX12_test_362 : decode cX12_test 362 = .ok (.iastore, 1) := by decide +kernel
theorem dX12_test_363 : decode cX12_test 363 = .ok (.aload_n 0, 1) := by decide +kernel
theorem dX12_test_364 : decode cX12_test 364 = .ok (.invokevirtual 247, 3) := by decide +kernel
theorem dX12_test_367 : decode cX12_test 367 = .ok (.goto 146, 3) := by decide +kernel
theorem dX12_test_370 : decode cX12_test 370 = .ok (.iload_n 3, 1) := by decide +kernel
theorem dX12_test_371 : decode cX12_test 371 = .ok (.bipush 15, 2) := by decide +kernel
theorem dX12_test_373 : decode cX12_test 373 = .ok (.if_icmp .ne 47, 3) := by decide +kernel
theorem dX12_test_376 : decode cX12_test 376 = .ok (.aload_n 0, 1) := by decide +kernel
theorem dX12_test_377 : decode cX12_test 377 = .ok (.getfield 230, 3) := by decide +kernel
theorem dX12_test_380 : decode cX12_test 380 = .ok (.iconst 1, 1) := by decide +kernel
theorem dX12_test_381 : decode cX12_test 381 = .ok (.if_icmp .ne 17, 3) := by decide +kernel
theorem dX12_test_384 : decode cX12_test 384 = .ok (.aload_n 0, 1) := by decide +kernel
theorem dX12_test_385 : decode cX12_test 385 = .ok (.getfield 233, 3) := by decide +kernel
theorem dX12_test_388 : decode cX12_test 388 = .ok (.bipush 20, 2) := by decide +kernel
theorem dX12_test_390 : decode cX12_test 390 = .ok (.bipush 22, 2) := by decide +kernel
theorem dX12_test_392 : decode cX12_test 392 = .ok (.invokestatic 18, 3) := by decide +kernel
theorem dX12_test_395 : decode cX12_test 395 = .ok (.ifCond .ne 8, 3) := by decide +kernel
theorem dX12_test_398 : decode cX12_test 398 = .ok (.aload_n 0, 1) := by decide +kernel
theorem dX12_test_399 : decode cX12_test 399 = .ok (.iconst 2, 1) := by decide +kernel
theorem dX12_test_400 : decode cX12_test 400 = .ok (.invokevirtual 240, 3) := by decide +kernel
theorem dX12_test_403 : decode cX12_test 403 = .ok (.aload_n 0, 1) := by decide +kernel
theorem dX12_test_404 : decode cX12_test 404 = .ok (.getfield 329, 3) := by decide +kernel
theorem dX12_test_407 : decode cX12_test 407 = .ok (.iload_n 2, 1) := by decide +kernel
theorem dX12_test_408 : decode cX12_test 408 = .ok (.aload_n 0, 1) := by decide +kernel
theorem dX12_test_409 : decode cX12_test 409 = .ok (.getfield 233, 3) := by decide +kernel
theorem dX12_test_412 : decode cX12_test 412 = .ok (.iastore, 1) := by decide +kernel
theorem dX12_test_413 : decode cX12_test 413 = .ok (.aload_n 0, 1) := by decide +kernel
theorem dX12_test_414 : decode cX12_test 414 = .ok (.invokevirtual 247, 3) := by decide +kernel
theorem dX12_test_417 : decode cX12_test 417 = .ok (.goto 96, 3) := by decide +kernel
theorem dX12_test_420 : decode cX12_test 420 = .ok (.iload_n 3, 1) := by decide +kernel
theorem dX12_test_421 : decode cX12_test 421 = .ok (.bipush 14, 2) := by decide +kernel
theorem dX12_test_423 : decode cX12_test 423 = .ok (.if_icmp .ne 18, 3) := by decide +kernel
theorem dX12_test_426 : decode cX12_test 426 = .ok (.aload_n 0, 1) := by decide +kernel
theorem dX12_test_427 : decode cX12_test 427 = .ok (.getfield 329, 3) := by decide +kernel
theorem dX12_test_430 : decode cX12_test 430 = .ok (.iload_n 2, 1) := by decide +kernel
theorem dX12_test_431 : decode cX12_test 431 = .ok (.aload_n 0, 1) := by decide +kernel
theorem dX12_test_432 : decode cX12_test 432 = .ok (.iconst 0, 1) := by decide +kernel
theorem dX12_test_433 : decode cX12_test 433 = .ok (.iconst 2, 1) := by decide +kernel
theorem dX12_test_434 : decode cX12_test 434 = .ok (.invokevirtual 314, 3) := by decide +kernel
theorem dX12_test_437 : decode cX12_test 437 = .ok (.iastore, 1) := by decide +kernel
theorem dX12_test_438 : decode cX12_test 438 = .ok (.goto 75, 3) := by decide +kernel
theorem dX12_test_441 : decode cX12_test 441 = .ok (.aload_n 0, 1) := by decide +kernel
theorem dX12_test_442 : decode cX12_test 442 = .ok (.bipush 60, 2) := by decide +kernel
theorem dX12_test_444 : decode cX12_test 444 = .ok (.invokevirtual 244, 3) := by decide +kernel
theorem dX12_test_447 : decode cX12_test 447 = .ok (.ifCond .ne 26, 3) := by decide +kernel
theorem dX12_test_450 : decode cX12_test 450 = .ok (.aload_n 0, 1) := by decide +kernel
theorem dX12_test_451 : decode cX12_test 451 = .ok (.bipush 61, 2) := by decide +kernel
theorem dX12_test_453 : decode cX12_test 453 = .ok (.invokevirtual 244, 3) := by decide +kernel
theorem dX12_test_456 : decode cX12_test 456 = .ok (.ifCond .ne 17, 3) := by decide +kernel
theorem dX12_test_459 : decode cX12_test 459 = .ok (.aload_n 0, 1) := by decide +kernel
theorem dX12_test_460 : decode cX12_test 460 = .ok (.bipush 62, 2) := by decide +kernel
theorem dX12_test_462 : decode cX12_test 462 = .ok (.invokevirtual 244, 3) := by decide +kernel
theorem dX12_test_465 : decode cX12_test 465 = .ok (.ifCond .ne 8, 3) := by decide +kernel
theorem dX12_test_468 : decode cX12_test 468 = .ok (.aload_n 0, 1) := by decide +kernel
theorem dX12_test_469 : decode cX12_test 469 = .ok (.iconst 2, 1) := by decide +kernel
theorem dX12_test_470 : decode cX12_test 470 = .ok (.invokevirtual 240, 3) := by decide +kernel
theorem dX12_test_473 : decode cX12_test 473 = .ok (.aload_n 0, 1) := by decide +kernel
theorem dX12_test_474 : decode cX12_test 474 = .ok (.getfield 336, 3) := by decide +kernel
theorem dX12_test_477 : decode cX12_test 477 = .ok (.iload_n 2, 1) := by decide +kernel
theorem dX12_test_478 : decode cX12_test 478 = .ok (.aload_n 0, 1) := by decide +kernel
theorem dX12_test_479 : decode cX12_test 479 = .ok (.getfield 233, 3) := by decide +kernel
theorem dX12_test_482 : decode cX12_test 482 = .ok (.iastore, 1) := by decide +kernel
theorem dX12_test_483 : decode cX12_test 483 = .ok (.aload_n 0, 1) := by decide +kernel
theorem dX12_test_484 : decode cX12_test 484 = .ok (.invokevirtual 247, 3) := by decide +kernel
theorem dX12_test_487 : decode cX12_test 487 = .ok (.aload_n 0, 1) := by decide +kernel
theorem dX12_test_488 : decode cX12_test 488 = .ok (.getfield 329, 3) := by decide +kernel
theorem dX12_test_491 : decode cX12_test 491 = .ok (.iload_n 2, 1) := by decide +kernel
theorem dX12_test_492 : decode cX12_test 492 = .ok (.aload_n 0, 1) := by decide +kernel
theorem dX12_test_493 : decode cX12_test 493 = .ok (.iconst 0, 1) := by decide +kernel
theorem dX12_test_494 : decode cX12_test 494 = .ok (.iload_n 3, 1) := by decide +kernel
theorem dX12_test_495 : decode cX12_test 495 = .ok (.bipush 12, 2) := by decide +kernel
theorem dX12_test_497 : decode cX12_test 497 = .ok (.if_icmp .ne 9, 3) := by decide +kernel
theorem dX12_test_500 : decode cX12_test 500 = .ok (.sipush 1000, 3) := by decide +kernel
theorem dX12_test_503 : decode cX12_test 503 = .ok (.goto 6, 3) := by decide +kernel
theorem dX12_test_506 : decode cX12_test 506 = .ok (.ldc_w 291, 3) := by decide +kernel
theorem dX12_test_509 : decode cX12_test 509 = .ok (.invokevirtual 314, 3) := by decide +kernel
theorem dX12_test_512 : decode cX12_test 512 = .ok (.iastore, 1) := by decide +kernel
theorem dX12_test_513 : decode cX12_test 513 = .ok (.return_, 1) := by decide +kernel
theorem dX12_wayTest_0 : decode cX12_wayTest 0 = .ok (.aload_n 0, 1) := by decide +kernel
theorem dX12_wayTest_1 : decode cX12_wayTest 1 = .ok (.bipush 40, 2) := by decide +kernel
theorem dX12_wayTest_3 : decode cX12_wayTest 3 = .ok (.invokevirtual 244, 3) := by decide +kernel
theorem dX12_wayTest_6 : decode cX12_wayTest 6 = .ok (.ifCond .ne 9, 3) := by decide +kernel
theorem dX12_wayTest_9 : decode cX12_wayTest 9 = .ok (.aload_n 0, 1) := by decide +kernel
theorem dX12_wayTest_10 : decode cX12_wayTest 10 = .ok (.iconst 2, 1) := by decide +kernel
theorem dX12_wayTest_11 : decode cX12_wayTest 11 = .ok (.invokevirtual 240, 3) := by decide +kernel
theorem dX12_wayTest_14 : decode cX12_wayTest 14 = .ok (.return_, 1) := by decide +kernel
theorem dX12_wayTest_15 : decode cX12_wayTest 15 = .ok (.aload_n 0, 1) := by decide +kernel
theorem dX12_wayTest_16 : decode cX12_wayTest 16 = .ok (.invokevirtual 247, 3) := by decide +kernel
theorem dX12_wayTest_19 : decode cX12_wayTest 19 = .ok (.aload_n 0, 1) := by decide +kernel
theorem dX12_wayTest_20 : decode cX12_wayTest 20 = .ok (.iconst 0, 1) := by decide +kernel
theorem dX12_wayTest_21 : decode cX12_wayTest 21 = .ok (.putfield 254, 3) := by decide +kernel
theorem dX12_wayTest_24 : decode cX12_wayTest 24 = .ok (.aload_n 0, 1) := by decide +kernel
theorem dX12_wayTest_25 : decode cX12_wayTest 25 = .ok (.invokevirtual 285, 3) := by decide +kernel
theorem dX12_wayTest_28 : decode cX12_wayTest 28 = .ok (.aload_n 0, 1) := by decide +kernel
theorem dX12_wayTest_29 : decode cX12_wayTest 29 = .ok (.getfield 215, 3) := by decide +kernel
theorem dX12_wayTest_32 : decode cX12_wayTest 32 = .ok (.ifCond .ne 368, 3) := by decide +kernel
theorem dX12_wayTest_35 : decode cX12_wayTest 35 = .ok (.aload_n 0, 1) := by decide +kernel
theorem dX12_wayTest_36 : decode cX12_wayTest 36 = .ok (.getfield 254, 3) := by decide +kernel
theorem dX12_wayTest_39 : decode cX12_wayTest 39 = .ok (.ifCond .le 361, 3) := by decide +kernel
theorem dX12_wayTest_42 : decode cX12_wayTest 42 = .ok (.aload_n 0, 1) := by decide +kernel
theorem dX12_wayTest_43 : decode cX12_wayTest 43 = .ok (.getfield 230, 3) := by decide +kernel
theorem dX12_wayTest_46 : decode cX12_wayTest 46 = .ok (.iconst 2, 1) := by decide +kernel
theorem dX12_wayTest_47 : decode cX12_wayTest 47 = .ok (.if_icmp .eq 12, 3) := by decide +kernel
theorem dX12_wayTest_50 : decode cX12_wayTest 50 = .ok (.aload_n 0, 1) := by decide +kernel
theorem dX12_wayTest_51 : decode cX12_wayTest 51 = .ok (.bipush 7, 2) := by decide +kernel
theorem dX12_wayTest_53 : decode cX12_wayTest 53 = .ok (.invokevirtual 288, 3) := by decide +kernel
theorem dX12_wayTest_56 : decode cX12_wayTest 56 = .ok (.ifCond .eq 143, 3) := by decide +kernel
theorem dX12_wayTest_59 : decode cX12_wayTest 59 = .ok (.aload_n 0, 1) := by decide +kernel
theorem dX12_wayTest_60 : decode cX12_wayTest 60 = .ok (.getfield 230, 3) := by decide +kernel
theorem dX12_wayTest_63 : decode cX12_wayTest 63 = .ok (.iconst 2, 1) := by decide +kernel
theorem dX12_wayTest_64 : decode cX12_wayTest 64 = .ok (.if_icmp .ne 22, 3) := by decide +kernel
theorem dX12_wayTest_67 : decode cX12_wayTest 67 = .ok (.aload_n 0, 1) := by decide +kernel
theorem dX12_wayTest_68 : decode cX12_wayTest 68 = .ok (.getfield 233, 3) := by decide +kernel
theorem dX12_wayTest_71 : decode cX12_wayTest 71 = .ok (.iconst 0, 1) := by decide +kernel
theorem dX12_wayTest_72 : decode cX12_wayTest 72 = .ok (.ldc_w 291, 3) := by decide +kernel
theorem dX12_wayTest_75 : decode cX12_wayTest 75 = .ok (.invokestatic 18, 3) := by decide +kernel
theorem dX12_wayTest_78 : decode cX12_wayTest 78 = .ok (.ifCond .ne 8, 3) := by decide +kernel
theorem dX12_wayTest_81 : decode cX12_wayTest 81 = .ok (.aload_n 0, 1) := by decide +kernel
theorem dX12_wayTest_82 : decode cX12_wayTest 82 = .ok (.iconst 3, 1) := by decide +kernel
theorem dX12_wayTest_83 : decode cX12_wayTest 83 = .ok (.invokevirtual 240, 3) := by decide +kernel
theorem dX12_wayTest_86 : decode cX12_wayTest 86 = .ok (.aload_n 0, 1) := by decide +kernel
theorem dX12_wayTest_87 : decode cX12_wayTest 87 = .ok (.getfield 292, 3) := by decide +kernel
theorem dX12_wayTest_90 : decode cX12_wayTest 90 = .ok (.aload_n 0, 1) := by decide +kernel
theorem dX12_wayTest_91 : decode cX12_wayTest 91 = .ok (.getfield 278, 3) := by decide +kernel
theorem dX12_wayTest_94 : decode cX12_wayTest 94 = .ok (.iaload, 1) := by decide +kernel
theorem dX12_wayTest_95 : decode cX12_wayTest 95 = .ok (.bipush 40, 2) := by decide +kernel
theorem dX12_wayTest_97 : decode cX12_wayTest 97 = .ok (.if_icmp .ne 8, 3) := by decide +kernel
theorem dX12_wayTest_100 : decode cX12_wayTest 100 = .ok (.aload_n 0, 1) := by decide +kernel
theorem dX12_wayTest_101 : decode cX12_wayTest 101 = .ok (.iconst 4, 1) := by decide +kernel
theorem dX12_wayTest_102 : decode cX12_wayTest 102 = .ok (.invokevirtual 240, 3) := by decide +kernel
theorem dX12_wayTest_105 : decode cX12_wayTest 105 = .ok (.aload_n 0, 1) := by decide +kernel
theorem dX12_wayTest_106 : decode cX12_wayTest 106 = .ok (.getfield 215, 3) := by decide +kernel
theorem dX12_wayTest_109 : decode cX12_wayTest 109 = .ok (.ifCond .eq 4, 3) := by decide +kernel
theorem dX12_wayTest_112 : decode cX12_wayTest 112 = .ok (.return_, 1) := by decide +kernel
theorem dX12_wayTest_113 : decode cX12_wayTest 113 = .ok (.aload_n 0, 1) := by decide +kernel
theorem dX12_wayTest_114 : decode cX12_wayTest 114 = .ok (.getfield 292, 3) := by decide +kernel
theorem dX12_wayTest_117 : decode cX12_wayTest 117 = .ok (.aload_n 0, 1) := by decide +kernel
theorem dX12_wayTest_118 : decode cX12_wayTest 118 = .ok (.getfield 278, 3) := by decide +kernel
theorem dX12_wayTest_121 : decode cX12_wayTest 121 = .ok (.iaload, 1) := by decide +kernel
theorem dX12_wayTest_122 : decode cX12_wayTest 122 = .ok (.istore_n 2, 1) := by decide +kernel
theorem dX12_wayTest_123 : decode cX12_wayTest 123 = .ok (.aload_n 0, 1) := by decide +kernel
theorem dX12_wayTest_124 : decode cX12_wayTest 124 = .ok (.getfield 295, 3) := by decide +kernel
theorem dX12_wayTest_127 : decode cX12_wayTest 127 = .ok (.bipush 41, 2) := by decide +kernel
theorem dX12_wayTest_129 : decode cX12_wayTest 129 = .ok (.aload_n 0, 1) := by decide +kernel
theorem dX12_wayTest_130 : decode cX12_wayTest 130 = .ok (.getfield 278, 3) := by decide +kernel
theorem dX12_wayTest_133 : decode cX12_wayTest 133 = .ok (.imul, 1) := by decide +kernel
theorem dX12_wayTest_134 : decode cX12_wayTest 134 = .ok (.iload_n 2, 1) := by decide +kernel
theorem dX12_wayTest_135 : decode cX12_wayTest 135 = .ok (.iadd, 1) := by decide +kernel
theorem dX12_wayTest_136 : decode cX12_wayTest 136 = .ok (.aload_n 0, 1) := by decide +kernel
theorem dX12_wayTest_137 : decode cX12_wayTest 137 = .ok (.getfield 230, 3) := by decide +kernel
theorem dX12_wayTest_140 : decode cX12_wayTest 140 = .ok (.iconst 2, 1) := by decide +kernel
theorem dX12_wayTest_141 : decode cX12_wayTest 141 = .ok (.if_icmp .ne 10, 3) := by decide +kernel
theorem dX12_wayTest_144 : decode cX12_wayTest 144 = .ok (.aload_n 0, 1) := by decide +kernel
theorem dX12_wayTest_145 : decode cX12_wayTest 145 = .ok (.getfield 233, 3) := by decide +kernel
theorem dX12_wayTest_148 : decode cX12_wayTest 148 = .ok (.goto 4, 3) := by decide +kernel
theorem dX12_wayTest_151 : decode cX12_wayTest 151 = .ok (.iconst (-1), 1) := by decide +kernel
theorem dX12_wayTest_152 : decode cX12_wayTest 152 = .ok (.iastore, 1) := by decide +kernel
theorem dX12_wayTest_153 : decode cX12_wayTest 153 = .ok (.aload_n 0, 1) := by decide +kernel
theorem dX12_wayTest_154 : decode cX12_wayTest 154 = .ok (.getfield 275, 3) := by decide +kernel
theorem dX12_wayTest_157 : decode cX12_wayTest 157 = .ok (.bipush 41, 2) := by decide +kernel
theorem dX12_wayTest_159 : decode cX12_wayTest 159 = .ok (.aload_n 0, 1) := by decide +kernel
theorem dX12_wayTest_160 : decode cX12_wayTest 160 = .ok (.getfield 278, 3) := by decide +kernel
theorem dX12_wayTest_163 : decode cX12_wayTest 163 = .ok (.imul, 1) := by decide +kernel
theorem dX12_wayTest_164 : decode cX12_wayTest 164 = .ok (.iload_n 2, 1) := by decide +kernel
theorem dX12_wayTest_165 : decode cX12_wayTest 165 = .ok (.iadd, 1) := by decide +kernel
theorem dX12_wayTest_166 : decode cX12_wayTest 166 = .ok (.lconst 0, 1) := by decide +kernel
theorem dX12_wayTest_167 : decode cX12_wayTest 167 = .ok (.lastore, 1) := by decide +kernel
theorem dX12_wayTest_168 : decode cX12_wayTest 168 = .ok (.aload_n 0, 1) := by decide +kernel
theorem dX12_wayTest_169 : decode cX12_wayTest 169 = .ok (.getfield 292, 3) := by decide +kernel
theorem dX12_wayTest_172 : decode cX12_wayTest 172 = .ok (.aload_n 0, 1) := by decide +kernel
theorem dX12_wayTest_173 : decode cX12_wayTest 173 = .ok (.getfield 278, 3) := by decide +kernel
theorem dX12_wayTest_176 : decode cX12_wayTest 176 = .ok (.dup2, 1) := by decide +kernel
theorem dX12_wayTest_177 : decode cX12_wayTest 177 = .ok (.iaload, 1) := by decide +kernel
theorem dX12_wayTest_178 : decode cX12_wayTest 178 = .ok (.iconst 1, 1) := by decide +kernel
theorem dX12_wayTest_179 : decode cX12_wayTest 179 = .ok (.iadd, 1) := by decide +kernel
theorem dX12_wayTest_180 : decode cX12_wayTest 180 = .ok (.iastore, 1) := by decide +kernel
theorem dX12_wayTest_181 : decode cX12_wayTest 181 = .ok (.aload_n 0, 1) := by decide +kernel
theorem dX12_wayTest_182 : decode cX12_wayTest 182 = .ok (.invokevirtual 247, 3) := by decide +kernel
theorem dX12_wayTest_185 : decode cX12_wayTest 185 = .ok (.aload_n 0, 1) := by decide +kernel
theorem dX12_wayTest_186 : decode cX12_wayTest 186 = .ok (.lconst 1, 1) := by decide +kernel
theorem dX12_wayTest_187 : decode cX12_wayTest 187 = .ok (.iload_n 2, 1) := by decide +kernel
theorem dX12_wayTest_188 : decode cX12_wayTest 188 = .ok (.lshl, 1) := by decide +kernel
theorem dX12_wayTest_189 : decode cX12_wayTest 189 = .ok (.lconst 1, 1) := by decide +kernel
theorem dX12_wayTest_190 : decode cX12_wayTest 190 = .ok (.iload_n 2, 1) := by decide +kernel
theorem dX12_wayTest_191 : decode cX12_wayTest 191 = .ok (.lshl, 1) := by decide +kernel
theorem dX12_wayTest_192 : decode cX12_wayTest 192 = .ok (.iconst 0, 1) := by decide +kernel
theorem dX12_wayTest_193 : decode cX12_wayTest 193 = .ok (.invokevirtual 298, 3) := by decide +kernel
theorem dX12_wayTest_196 : decode cX12_wayTest 196 = .ok (.goto (-168), 3) := by decide +kernel
theorem dX12_wayTest_199 : decode cX12_wayTest 199 = .ok (.aload_n 0, 1) := by decide +kernel
theorem dX12_wayTest_200 : decode cX12_wayTest 200 = .ok (.bipush 40, 2) := by decide +kernel
theorem dX12_wayTest_202 : decode cX12_wayTest 202 = .ok (.invokevirtual 244, 3) := by decide +kernel
theorem dX12_wayTest_205 : decode cX12_wayTest 205 = .ok (.ifCond .eq 36, 3) := by decide +kernel
theorem dX12_wayTest_208 : decode cX12_wayTest 208 = .ok (.aload_n 0, 1) := by decide +kernel
theorem dX12_wayTest_209 : decode cX12_wayTest 209 = .ok (.getfield 254, 3) := by decide +kernel
theorem dX12_wayTest_212 : decode cX12_wayTest 212 = .ok (.bipush 6, 2) := by decide +kernel
theorem dX12_wayTest_214 : decode cX12_wayTest 214 = .ok (.if_icmp .lt 8, 3) := by decide +kernel
theorem dX12_wayTest_217 : decode cX12_wayTest 217 = .ok (.aload_n 0, 1) := by decide +kernel
theorem dX12_wayTest_218 : decode cX12_wayTest 218 = .ok (.iconst 4, 1) := by decide +kernel
theorem dX12_wayTest_219 : decode cX12_wayTest 219 = .ok (.invokevirtual 240, 3) := by decide +kernel
theorem dX12_wayTest_222 : decode cX12_wayTest 222 = .ok (.aload_n 0, 1) := by decide +kernel
theorem dX12_wayTest_223 : decode cX12_wayTest 223 = .ok (.getfield 215, 3) := by decide +kernel
theorem dX12_wayTest_226 : decode cX12_wayTest 226 = .ok (.ifCond .eq 4, 3) := by decide +kernel
theorem dX12_wayTest_229 : decode cX12_wayTest 229 = .ok (.return_, 1) := by decide +kernel
theorem dX12_wayTest_230 : decode cX12_wayTest 230 = .ok (.aload_n 0, 1) := by decide +kernel
theorem dX12_wayTest_231 : decode cX12_wayTest 231 = .ok (.invokevirtual 285, 3) := by decide +kernel
theorem dX12_wayTest_234 : decode cX12_wayTest 234 = .ok (.aload_n 0, 1) := by decide +kernel
theorem dX12_wayTest_235 : decode cX12_wayTest 235 = .ok (.invokevirtual 247, 3) := by decide +kernel
theorem dX12_wayTest_238 : decode cX12_wayTest 238 = .ok (.goto (-210), 3) := by decide +kernel
theorem dX12_wayTest_241 : decode cX12_wayTest 241 = .ok (.aload_n 0, 1) := by decide +kernel
theorem dX12_wayTest_242 : decode cX12_wayTest 242 = .ok (.bipush 124, 2) := by decide +kernel
theorem dX12_wayTest_244 : decode cX12_wayTest 244 = .ok (.invokevirtual 244, 3) := by decide +kernel
theorem dX12_wayTest_247 : decode cX12_wayTest 247 = .ok (.ifCond .eq 38, 3) := by decide +kernel
theorem dX12_wayTest_250 : decode cX12_wayTest 250 = .ok (.aload_n 0, 1) := by decide +kernel
theorem dX12_wayTest_251 : decode cX12_wayTest 251 = .ok (.invokevirtual 302, 3) := by decide +kernel
theorem dX12_wayTest_254 : decode cX12_wayTest 254 = .ok (.aload_n 0, 1) := by decide +kernel
theorem dX12_wayTest_255 : decode cX12_wayTest 255 = .ok (.dup, 1) := by decide +kernel
theorem dX12_wayTest_256 : decode cX12_wayTest 256 = .ok (.getfield 254, 3) := by decide +kernel
theorem dX12_wayTest_259 : decode cX12_wayTest 259 = .ok (.iconst 1, 1) := by decide +kernel
theorem dX12_wayTest_260 : decode cX12_wayTest 260 = .ok (.isub, 1) := by decide +kernel
theorem dX12_wayTest_261 : decode cX12_wayTest 261 = .ok (.putfield 254, 3) := by decide +kernel
theorem dX12_wayTest_264 : decode cX12_wayTest 264 = .ok (.aload_n 0, 1) := by decide +kernel
theorem dX12_wayTest_265 : decode cX12_wayTest 265 = .ok (.invokevirtual 263, 3) := by decide +kernel
theorem dX12_wayTest_268 : decode cX12_wayTest 268 = .ok (.aload_n 0, 1) := by decide +kernel
theorem dX12_wayTest_269 : decode cX12_wayTest 269 = .ok (.dup, 1) := by decide +kernel
theorem dX12_wayTest_270 : decode cX12_wayTest 270 = .ok (.getfield 254, 3) := by decide +kernel
theorem dX12_wayTest_273 : decode cX12_wayTest 273 = .ok (.iconst 1, 1) := by decide +kernel
theorem dX12_wayTest_274 : decode cX12_wayTest 274 = .ok (.iadd, 1) := by decide +kernel
theorem dX12_wayTest_275 : decode cX12_wayTest 275 = .ok (.putfield 254, 3) := by decide +kernel
theorem dX12_wayTest_278 : decode cX12_wayTest 278 = .ok (.aload_n 0, 1) := by decide +kernel
theorem dX12_wayTest_279 : decode cX12_wayTest 279 = .ok (.invokevirtual 247, 3) := by decide +kernel
theorem dX12_wayTest_282 : decode cX12_wayTest 282 = .ok (.goto (-254), 3) := by decide +kernel
theorem dX12_wayTest_285 : decode cX12_wayTest 285 = .ok (.aload_n 0, 1) := by decide +kernel
theorem dX12_wayTest_286 : decode cX12_wayTest 286 = .ok (.bipush 41, 2) := by decide +kernel
theorem dX12_wayTest_288 : decode cX12_wayTest 288 = .ok (.invokevirtual 244, 3) := by decide +kernel
theorem dX12_wayTest_291 : decode cX12_wayTest 291 = .ok (.ifCond .eq 101, 3) := by decide +kernel
theorem dX12_wayTest_294 : decode cX12_wayTest 294 = .ok (.aload_n 0, 1) := by decide +kernel
theorem dX12_wayTest_295 : decode cX12_wayTest 295 = .ok (.invokevirtual 302, 3) := by decide +kernel
theorem dX12_wayTest_298 : decode cX12_wayTest 298 = .ok (.aload_n 0, 1) := by decide +kernel
theorem dX12_wayTest_299 : decode cX12_wayTest 299 = .ok (.dup, 1) := by decide +kernel
theorem dX12_wayTest_300 : decode cX12_wayTest 300 = .ok (.getfield 254, 3) := by decide +kernel
theorem dX12_wayTest_303 : decode cX12_wayTest 303 = .ok (.iconst 1, 1) := by decide +kernel
theorem dX12_wayTest_304 : decode cX12_wayTest 304 = .ok (.isub, 1) := by decide +kernel
theorem dX12_wayTest_305 : decode cX12_wayTest 305 = .ok (.putfield 254, 3) := by decide +kernel
theorem dX12_wayTest_308 : decode cX12_wayTest 308 = .ok (.aload_n 0, 1) := by decide +kernel
theorem dX12_wayTest_309 : decode cX12_wayTest 309 = .ok (.invokevirtual 247, 3) := by decide +kernel
theorem dX12_wayTest_312 : decode cX12_wayTest 312 = .ok (.aload_n 0, 1) := by decide +kernel
theorem dX12_wayTest_313 : decode cX12_wayTest 313 = .ok (.getfield 254, 3) := by decide +kernel
theorem dX12_wayTest_316 : decode cX12_wayTest 316 = .ok (.ifCond .le 37, 3) := by decide +kernel
theorem dX12_wayTest_319 : decode cX12_wayTest 319 = .ok (.aload_n 0, 1) := by decide +kernel
theorem dX12_wayTest_320 : decode cX12_wayTest 320 = .ok (.aload_n 0, 1) := by decide +kernel
theorem dX12_wayTest_321 : decode cX12_wayTest 321 = .ok (.getfield 250, 3) := by decide +kernel
theorem dX12_wayTest_324 : decode cX12_wayTest 324 = .ok (.aload_n 0, 1) := by decide +kernel
theorem dX12_wayTest_325 : decode cX12_wayTest 325 = .ok (.getfield 254, 3) := by decide +kernel
theorem dX12_wayTest_328 : decode cX12_wayTest 328 = .ok (.laload, 1) := by decide +kernel
theorem dX12_wayTest_329 : decode cX12_wayTest 329 = .ok (.aload_n 0, 1) := by decide +kernel
theorem dX12_wayTest_330 : decode cX12_wayTest 330 = .ok (.getfield 257, 3) := by decide +kernel
theorem dX12_wayTest_333 : decode cX12_wayTest 333 = .ok (.aload_n 0, 1) := by decide +kernel
theorem dX12_wayTest_334 : decode cX12_wayTest 334 = .ok (.getfield 254, 3) := by decide +kernel
theorem dX12_wayTest_337 : decode cX12_wayTest 337 = .ok (.laload, 1) := by decide +kernel
theorem dX12_wayTest_338 : decode cX12_wayTest 338 = .ok (.aload_n 0, 1) := by decide +kernel
theorem dX12_wayTest_339 : decode cX12_wayTest 339 = .ok (.getfield 260, 3) := by decide +kernel
theorem dX12_wayTest_342 : decode cX12_wayTest 342 = .ok (.aload_n 0, 1) := by decide +kernel
theorem dX12_wayTest_343 : decode cX12_wayTest 343 = .ok (.getfield 254, 3) := by decide +kernel
theorem dX12_wayTest_346 : decode cX12_wayTest 346 = .ok (.baload, 1) := by decide +kernel
theorem dX12_wayTest_347 : decode cX12_wayTest 347 = .ok (.invokevirtual 298, 3) := by decide +kernel
theorem dX12_wayTest_350 : decode cX12_wayTest 350 = .ok (.goto (-322), 3) := by decide +kernel
theorem dX12_wayTest_353 : decode cX12_wayTest 353 = .ok (.aload_n 0, 1) := by decide +kernel
theorem dX12_wayTest_354 : decode cX12_wayTest 354 = .ok (.getfield 305, 3) := by decide +kernel
theorem dX12_wayTest_357 : decode cX12_wayTest 357 = .ok (.iload_n 1, 1) := by decide +kernel
theorem dX12_wayTest_358 : decode cX12_wayTest 358 = .ok (.aload_n 0, 1) := by decide +kernel
theorem dX12_wayTest_359 : decode cX12_wayTest 359 = .ok (.getfield 250, 3) := by decide +kernel
theorem dX12_wayTest_362 : decode cX12_wayTest 362 = .ok (.iconst 0, 1) := by decide +kernel
theorem dX12_wayTest_363 : decode cX12_wayTest 363 = .ok (.laload, 1) := by decide +kernel
theorem dX12_wayTest_364 : decode cX12_wayTest 364 = .ok (.lastore, 1) := by decide +kernel
theorem dX12_wayTest_365 : decode cX12_wayTest 365 = .ok (.aload_n 0, 1) := by decide +kernel
theorem dX12_wayTest_366 : decode cX12_wayTest 366 = .ok (.getfield 308, 3) := by decide +kernel
theorem dX12_wayTest_369 : decode cX12_wayTest 369 = .ok (.iload_n 1, 1) := by decide +kernel
theorem dX12_wayTest_370 : decode cX12_wayTest 370 = .ok (.aload_n 0, 1) := by decide +kernel
theorem dX12_wayTest_371 : decode cX12_wayTest 371 = .ok (.getfield 257, 3) := by decide +kernel
theorem dX12_wayTest_374 : decode cX12_wayTest 374 = .ok (.iconst 0, 1) := by decide +kernel
theorem dX12_wayTest_375 : decode cX12_wayTest 375 = .ok (.laload, 1) := by decide +kernel
theorem dX12_wayTest_376 : decode cX12_wayTest 376 = .ok (.lastore, 1) := by decide +kernel
theorem dX12_wayTest_377 : decode cX12_wayTest 377 = .ok (.aload_n 0, 1) := by decide +kernel
theorem dX12_wayTest_378 : decode cX12_wayTest 378 = .ok (.getfield 311, 3) := by decide +kernel
theorem dX12_wayTest_381 : decode cX12_wayTest 381 = .ok (.iload_n 1, 1) := by decide +kernel
theorem dX12_wayTest_382 : decode cX12_wayTest 382 = .ok (.aload_n 0, 1) := by decide +kernel
theorem dX12_wayTest_383 : decode cX12_wayTest 383 = .ok (.getfield 260, 3) := by decide +kernel
theorem dX12_wayTest_386 : decode cX12_wayTest 386 = .ok (.iconst 0, 1) := by decide +kernel
theorem dX12_wayTest_387 : decode cX12_wayTest 387 = .ok (.baload, 1) := by decide +kernel
theorem dX12_wayTest_388 : decode cX12_wayTest 388 = .ok (.bastore, 1) := by decide +kernel
theorem dX12_wayTest_389 : decode cX12_wayTest 389 = .ok (.goto (-361), 3) := by decide +kernel
theorem dX12_wayTest_392 : decode cX12_wayTest 392 = .ok (.aload_n 0, 1) := by decide +kernel
theorem dX12_wayTest_393 : decode cX12_wayTest 393 = .ok (.iconst 2, 1) := by decide +kernel
theorem dX12_wayTest_394 : decode cX12_wayTest 394 = .ok (.invokevirtual 240, 3) := by decide +kernel
theorem dX12_wayTest_397 : decode cX12_wayTest 397 = .ok (.goto (-369), 3) := by decide +kernel
theorem dX12_wayTest_400 : decode cX12_wayTest 400 = .ok (.return_, 1) := by decide +kernel
theorem dX12_within_0 : decode cX12_within 0 = .ok (.aload_n 0, 1) := by decide +kernel
theorem dX12_within_1 : decode cX12_within 1 = .ok (.getfield 230, 3) := by decide +kernel
theorem dX12_within_4 : decode cX12_within 4 = .ok (.iconst 2, 1) := by decide +kernel
theorem dX12_within_5 : decode cX12_within 5 = .ok (.if_icmp .eq 11, 3) := by decide +kernel
theorem dX12_within_8 : decode cX12_within 8 = .ok (.aload_n 0, 1) := by decide +kernel
theorem dX12_within_9 : decode cX12_within 9 = .ok (.iconst 2, 1) := by decide +kernel
theorem dX12_within_10 : decode cX12_within 10 = .ok (.invokevirtual 240, 3) := by decide +kernel
theorem dX12_within_13 : decode cX12_within 13 = .ok (.goto 20, 3) := by decide +kernel
theorem dX12_within_16 : decode cX12_within 16 = .ok (.aload_n 0, 1) := by decide +kernel
theorem dX12_within_17 : decode cX12_within 17 = .ok (.getfield 233, 3) := by decide +kernel
theorem dX12_within_20 : decode cX12_within 20 = .ok (.iload_n 1, 1) := by decide +kernel
theorem dX12_within_21 : decode cX12_within 21 = .ok (.iload_n 2, 1) := by decide +kernel
theorem dX12_within_22 : decode cX12_within 22 = .ok (.invokestatic 18, 3) := by decide +kernel
theorem dX12_within_25 : decode cX12_within 25 = .ok (.ifCond .ne 8, 3) := by decide +kernel
theorem dX12_within_28 : decode cX12_within 28 = .ok (.aload_n 0, 1) := by decide +kernel
theorem dX12_within_29 : decode cX12_within 29 = .ok (.iconst 3, 1) := by decide +kernel
theorem dX12_within_30 : decode cX12_within 30 = .ok (.invokevirtual 240, 3) := by decide +kernel
theorem dX12_within_33 : decode cX12_within 33 = .ok (.aload_n 0, 1) := by decide +kernel
theorem dX12_within_34 : decode cX12_within 34 = .ok (.getfield 233, 3) := by decide +kernel
theorem dX12_within_37 : decode cX12_within 37 = .ok (.istore_n 3, 1) := by decide +kernel
theorem dX12_within_38 : decode cX12_within 38 = .ok (.aload_n 0, 1) := by decide +kernel
theorem dX12_within_39 : decode cX12_within 39 = .ok (.invokevirtual 247, 3) := by decide +kernel
theorem dX12_within_42 : decode cX12_within 42 = .ok (.iload_n 3, 1) := by decide +kernel
theorem dX12_within_43 : decode cX12_within 43 = .ok (.ireturn, 1) := by decide +kernel
