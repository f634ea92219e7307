section
theorem dX12_why_0 : decode cX12_why 0 = .ok (.aload_n 0, 1) := dc0 dO_42 (by decide +kernel)
theorem dX12_why_1 : decode cX12_why 1 = .ok (.iload_n 1, 1) := dc0 dO_27 (by decide +kernel)
theorem dX12_why_2 : decode cX12_why 2 = .ok (.invokevirtual 66, 3) := dcU2 dO_182 (by decide +kernel)
theorem dX12_why_5 : decode cX12_why 5 = .ok (.ifCond .eq 20, 3) := dcS2 dO_153 (by decide +kernel)
theorem dX12_why_8 : decode cX12_why 8 = .ok (.iload_n 2, 1) := dc0 dO_28 (by decide +kernel)
theorem dX12_why_9 : decode cX12_why 9 = .ok (.iconst 0, 1) := dc0 dO_3 (by decide +kernel)
theorem dX12_why_10 : decode cX12_why 10 = .ok (.iconst 1, 1) := dc0 dO_4 (by decide +kernel)
theorem dX12_why_11 : decode cX12_why 11 = .ok (.invokestatic 18, 3) := dcU2 dO_184 (by decide +kernel)
theorem dX12_why_14 : decode cX12_why 14 = .ok (.ifCond .eq 11, 3) := dcS2 dO_153 (by decide +kernel)
theorem dX12_why_17 : decode cX12_why 17 = .ok (.aload_n 0, 1) := dc0 dO_42 (by decide +kernel)
theorem dX12_why_18 : decode cX12_why 18 = .ok (.iload_n 3, 1) := dc0 dO_29 (by decide +kernel)
theorem dX12_why_19 : decode cX12_why 19 = .ok (.invokevirtual 92, 3) := dcU2 dO_182 (by decide +kernel)
theorem dX12_why_22 : decode cX12_why 22 = .ok (.ifCond .ne 5, 3) := dcS2 dO_154 (by decide +kernel)
theorem dX12_why_25 : decode cX12_why 25 = .ok (.iconst (-1), 1) := dc0 dO_2 (by decide +kernel)
theorem dX12_why_26 : decode cX12_why 26 = .ok (.ireturn, 1) := dc0 dO_172 (by decide +kernel)
theorem dX12_why_27 : decode cX12_why 27 = .ok (.aload_n 0, 1) := dc0 dO_42 (by decide +kernel)
theorem dX12_why_28 : decode cX12_why 28 = .ok (.getfield 40, 3) := dcU2 dO_180 (by decide +kernel)
theorem dX12_why_31 : decode cX12_why 31 = .ok (.iconst 2, 1) := dc0 dO_5 (by decide +kernel)
theorem dX12_why_32 : decode cX12_why 32 = .ok (.iload_n 1, 1) := dc0 dO_27 (by decide +kernel)
theorem dX12_why_33 : decode cX12_why 33 = .ok (.imul, 1) := dc0 dO_104 (by decide +kernel)
theorem dX12_why_34 : decode cX12_why 34 = .ok (.iload_n 2, 1) := dc0 dO_28 (by decide +kernel)
theorem dX12_why_35 : decode cX12_why 35 = .ok (.iadd, 1) := dc0 dO_96 (by decide +kernel)
theorem dX12_why_36 : decode cX12_why 36 = .ok (.iaload, 1) := dc0 dO_46 (by decide +kernel)
theorem dX12_why_37 : decode cX12_why 37 = .ok (.istore 4, 2) := dcU1 dO_54 (by decide +kernel)
theorem dX12_why_39 : decode cX12_why 39 = .ok (.aload_n 0, 1) := dc0 dO_42 (by decide +kernel)
theorem dX12_why_40 : decode cX12_why 40 = .ok (.sipush 130, 3) := dcS2 dO_17 (by decide +kernel)
theorem dX12_why_43 : decode cX12_why 43 = .ok (.iload_n 1, 1) := dc0 dO_27 (by decide +kernel)
theorem dX12_why_44 : decode cX12_why 44 = .ok (.iload_n 2, 1) := dc0 dO_28 (by decide +kernel)
theorem dX12_why_45 : decode cX12_why 45 = .ok (.iload_n 3, 1) := dc0 dO_29 (by decide +kernel)
theorem dX12_why_46 : decode cX12_why 46 = .ok (.invokestatic 545, 3) := dcU2 dO_184 (by decide +kernel)
theorem dX12_why_49 : decode cX12_why 49 = .ok (.iadd, 1) := dc0 dO_96 (by decide +kernel)
theorem dX12_why_50 : decode cX12_why 50 = .ok (.invokevirtual 151, 3) := dcU2 dO_182 (by decide +kernel)
theorem dX12_why_53 : decode cX12_why 53 = .ok (.ifCond .ne 6, 3) := dcS2 dO_154 (by decide +kernel)
theorem dX12_why_56 : decode cX12_why 56 = .ok (.ldc 29, 2) := dcU1 dO_18 (by decide +kernel)
theorem dX12_why_58 : decode cX12_why 58 = .ok (.ireturn, 1) := dc0 dO_172 (by decide +kernel)
theorem dX12_why_59 : decode cX12_why 59 = .ok (.bipush 10, 2) := dcS1 dO_16 (by decide +kernel)
theorem dX12_why_61 : decode cX12_why 61 = .ok (.iload 4, 2) := dcU1 dO_21 (by decide +kernel)
theorem dX12_why_63 : decode cX12_why 63 = .ok (.imul, 1) := dc0 dO_104 (by decide +kernel)
theorem dX12_why_64 : decode cX12_why 64 = .ok (.iload_n 3, 1) := dc0 dO_29 (by decide +kernel)
theorem dX12_why_65 : decode cX12_why 65 = .ok (.iadd, 1) := dc0 dO_96 (by decide +kernel)
theorem dX12_why_66 : decode cX12_why 66 = .ok (.istore 5, 2) := dcU1 dO_54 (by decide +kernel)
theorem dX12_why_68 : decode cX12_why 68 = .ok (.aload_n 0, 1) := dc0 dO_42 (by decide +kernel)
theorem dX12_why_69 : decode cX12_why 69 = .ok (.getfield 445, 3) := dcU2 dO_180 (by decide +kernel)
theorem dX12_why_72 : decode cX12_why 72 = .ok (.iload 5, 2) := dcU1 dO_21 (by decide +kernel)
theorem dX12_why_74 : decode cX12_why 74 = .ok (.iaload, 1) := dc0 dO_46 (by decide +kernel)
theorem dX12_why_75 : decode cX12_why 75 = .ok (.iload_n 1, 1) := dc0 dO_27 (by decide +kernel)
theorem dX12_why_76 : decode cX12_why 76 = .ok (.if_icmp .ne 5, 3) := dcS2 dO_160 (by decide +kernel)
theorem dX12_why_79 : decode cX12_why 79 = .ok (.iconst 0, 1) := dc0 dO_3 (by decide +kernel)
theorem dX12_why_80 : decode cX12_why 80 = .ok (.ireturn, 1) := dc0 dO_172 (by decide +kernel)
theorem dX12_why_81 : decode cX12_why 81 = .ok (.aload_n 0, 1) := dc0 dO_42 (by decide +kernel)
theorem dX12_why_82 : decode cX12_why 82 = .ok (.getfield 445, 3) := dcU2 dO_180 (by decide +kernel)
theorem dX12_why_85 : decode cX12_why 85 = .ok (.iload 5, 2) := dcU1 dO_21 (by decide +kernel)
theorem dX12_why_87 : decode cX12_why 87 = .ok (.iaload, 1) := dc0 dO_46 (by decide +kernel)
theorem dX12_why_88 : decode cX12_why 88 = .ok (.bipush (-4), 2) := dcS1 dO_16 (by decide +kernel)
theorem dX12_why_90 : decode cX12_why 90 = .ok (.if_icmp .ne 6, 3) := dcS2 dO_160 (by decide +kernel)
theorem dX12_why_93 : decode cX12_why 93 = .ok (.bipush 8, 2) := dcS1 dO_16 (by decide +kernel)
theorem dX12_why_95 : decode cX12_why 95 = .ok (.ireturn, 1) := dc0 dO_172 (by decide +kernel)
theorem dX12_why_96 : decode cX12_why 96 = .ok (.aload_n 0, 1) := dc0 dO_42 (by decide +kernel)
theorem dX12_why_97 : decode cX12_why 97 = .ok (.iload 4, 2) := dcU1 dO_21 (by decide +kernel)
theorem dX12_why_99 : decode cX12_why 99 = .ok (.iload_n 1, 1) := dc0 dO_27 (by decide +kernel)
theorem dX12_why_100 : decode cX12_why 100 = .ok (.iload_n 3, 1) := dc0 dO_29 (by decide +kernel)
theorem dX12_why_101 : decode cX12_why 101 = .ok (.invokevirtual 565, 3) := dcU2 dO_182 (by decide +kernel)
theorem dX12_why_104 : decode cX12_why 104 = .ok (.istore 6, 2) := dcU1 dO_54 (by decide +kernel)
theorem dX12_why_106 : decode cX12_why 106 = .ok (.iload 6, 2) := dcU1 dO_21 (by decide +kernel)
theorem dX12_why_108 : decode cX12_why 108 = .ok (.ifCond .eq 6, 3) := dcS2 dO_153 (by decide +kernel)
theorem dX12_why_111 : decode cX12_why 111 = .ok (.iload 6, 2) := dcU1 dO_21 (by decide +kernel)
theorem dX12_why_113 : decode cX12_why 113 = .ok (.ireturn, 1) := dc0 dO_172 (by decide +kernel)
theorem dX12_why_114 : decode cX12_why 114 = .ok (.aload_n 0, 1) := dc0 dO_42 (by decide +kernel)
theorem dX12_why_115 : decode cX12_why 115 = .ok (.getfield 445, 3) := dcU2 dO_180 (by decide +kernel)
theorem dX12_why_118 : decode cX12_why 118 = .ok (.iload 5, 2) := dcU1 dO_21 (by decide +kernel)
theorem dX12_why_120 : decode cX12_why 120 = .ok (.iaload, 1) := dc0 dO_46 (by decide +kernel)
theorem dX12_why_121 : decode cX12_why 121 = .ok (.istore 7, 2) := dcU1 dO_54 (by decide +kernel)
theorem dX12_why_123 : decode cX12_why 123 = .ok (.aload_n 0, 1) := dc0 dO_42 (by decide +kernel)
theorem dX12_why_124 : decode cX12_why 124 = .ok (.iload 4, 2) := dcU1 dO_21 (by decide +kernel)
theorem dX12_why_126 : decode cX12_why 126 = .ok (.iconst 4, 1) := dc0 dO_7 (by decide +kernel)
theorem dX12_why_127 : decode cX12_why 127 = .ok (.iload_n 1, 1) := dc0 dO_27 (by decide +kernel)
theorem sfx_cX12_why_128 : (cX12_why.data.toList.drop 128).take 67 = [96, 27, 16, 30, 21, 5, 96, 21, 7, 29, 182, 2, 37, 54, 8, 21, 8, 154, 0, 8, 16, 7, 167, 0, 16, 21, 8, 156, 0, 9, 21, 8, 116, 167, 0, 5, 21, 8, 172] := by decide +kernel
theorem dX12_why_128 : decode cX12_why 128 = .ok (.iadd, 1) := dc0 dO_96 (rdB.ch sfx_cX12_why_128 0 rfl (by decide +kernel))
theorem dX12_why_129 : decode cX12_why 129 = .ok (.iload_n 1, 1) := dc0 dO_27 (rdB.ch sfx_cX12_why_128 1 rfl (by decide +kernel))
theorem dX12_why_130 : decode cX12_why 130 = .ok (.bipush 30, 2) := dcS1 dO_16 (rdS1.ch sfx_cX12_why_128 2 rfl (by decide +kernel))
theorem dX12_why_132 : decode cX12_why 132 = .ok (.iload 5, 2) := dcU1 dO_21 (rdU1.ch sfx_cX12_why_128 4 rfl (by decide +kernel))
theorem dX12_why_134 : decode cX12_why 134 = .ok (.iadd, 1) := dc0 dO_96 (rdB.ch sfx_cX12_why_128 6 rfl (by decide +kernel))
theorem dX12_why_135 : decode cX12_why 135 = .ok (.iload 7, 2) := dcU1 dO_21 (rdU1.ch sfx_cX12_why_128 7 rfl (by decide +kernel))
theorem dX12_why_137 : decode cX12_why 137 = .ok (.iload_n 3, 1) := dc0 dO_29 (rdB.ch sfx_cX12_why_128 9 rfl (by decide +kernel))
theorem dX12_why_138 : decode cX12_why 138 = .ok (.invokevirtual 549, 3) := dcU2 dO_182 (rdU2.ch sfx_cX12_why_128 10 rfl (by decide +kernel))
theorem dX12_why_141 : decode cX12_why 141 = .ok (.istore 8, 2) := dcU1 dO_54 (rdU1.ch sfx_cX12_why_128 13 rfl (by decide +kernel))
theorem dX12_why_143 : decode cX12_why 143 = .ok (.iload 8, 2) := dcU1 dO_21 (rdU1.ch sfx_cX12_why_128 15 rfl (by decide +kernel))
theorem dX12_why_145 : decode cX12_why 145 = .ok (.ifCond .ne 8, 3) := dcS2 dO_154 (rdS2.ch sfx_cX12_why_128 17 rfl (by decide +kernel))
theorem dX12_why_148 : decode cX12_why 148 = .ok (.bipush 7, 2) := dcS1 dO_16 (rdS1.ch sfx_cX12_why_128 20 rfl (by decide +kernel))
theorem dX12_why_150 : decode cX12_why 150 = .ok (.goto 16, 3) := dcS2 dO_167 (rdS2.ch sfx_cX12_why_128 22 rfl (by decide +kernel))
theorem dX12_why_153 : decode cX12_why 153 = .ok (.iload 8, 2) := dcU1 dO_21 (rdU1.ch sfx_cX12_why_128 25 rfl (by decide +kernel))
theorem dX12_why_155 : decode cX12_why 155 = .ok (.ifCond .ge 9, 3) := dcS2 dO_156 (rdS2.ch sfx_cX12_why_128 27 rfl (by decide +kernel))
theorem dX12_why_158 : decode cX12_why 158 = .ok (.iload 8, 2) := dcU1 dO_21 (rdU1.ch sfx_cX12_why_128 30 rfl (by decide +kernel))
theorem dX12_why_160 : decode cX12_why 160 = .ok (.ineg, 1) := dc0 dO_116 (rdB.ch sfx_cX12_why_128 32 rfl (by decide +kernel))
theorem dX12_why_161 : decode cX12_why 161 = .ok (.goto 5, 3) := dcS2 dO_167 (rdS2.ch sfx_cX12_why_128 33 rfl (by decide +kernel))
theorem dX12_why_164 : decode cX12_why 164 = .ok (.iload 8, 2) := dcU1 dO_21 (rdU1.ch sfx_cX12_why_128 36 rfl (by decide +kernel))
theorem dX12_why_166 : decode cX12_why 166 = .ok (.ireturn, 1) := dc0 dO_172 (rdB.ch sfx_cX12_why_128 38 rfl (by decide +kernel))
end
section
/-! no rows -/
end
section
/-! no rows -/
end
section
/-! no rows -/
end
section
/-! no rows -/
end
section
/-! no rows -/
end
section
/-! no rows -/
end
section
/-! no rows -/
end
section
/-! no rows -/
end
