section
theorem dX12_doEvent_0 : decode cX12_doEvent 0 = .ok (.aload_n 0, 1) := dc0 dO_42 (by decide +kernel)
theorem dX12_doEvent_1 : decode cX12_doEvent 1 = .ok (.aload_n 0, 1) := dc0 dO_42 (by decide +kernel)
theorem dX12_doEvent_2 : decode cX12_doEvent 2 = .ok (.iload_n 1, 1) := dc0 dO_27 (by decide +kernel)
theorem dX12_doEvent_3 : decode cX12_doEvent 3 = .ok (.invokevirtual 607, 3) := dcU2 dO_182 (by decide +kernel)
theorem dX12_doEvent_6 : decode cX12_doEvent 6 = .ok (.putfield 591, 3) := dcU2 dO_181 (by decide +kernel)
theorem dX12_doEvent_9 : decode cX12_doEvent 9 = .ok (.aload_n 0, 1) := dc0 dO_42 (by decide +kernel)
theorem dX12_doEvent_10 : decode cX12_doEvent 10 = .ok (.dup, 1) := dc0 dO_89 (by decide +kernel)
theorem dX12_doEvent_11 : decode cX12_doEvent 11 = .ok (.getfield 610, 3) := dcU2 dO_180 (by decide +kernel)
theorem dX12_doEvent_14 : decode cX12_doEvent 14 = .ok (.iconst 1, 1) := dc0 dO_4 (by decide +kernel)
theorem dX12_doEvent_15 : decode cX12_doEvent 15 = .ok (.iadd, 1) := dc0 dO_96 (by decide +kernel)
theorem dX12_doEvent_16 : decode cX12_doEvent 16 = .ok (.putfield 610, 3) := dcU2 dO_181 (by decide +kernel)
theorem dX12_doEvent_19 : decode cX12_doEvent 19 = .ok (.iload_n 1, 1) := dc0 dO_27 (by decide +kernel)
theorem dX12_doEvent_20 : decode cX12_doEvent 20 = .ok (.sipush 400, 3) := dcS2 dO_17 (by decide +kernel)
theorem dX12_doEvent_23 : decode cX12_doEvent 23 = .ok (.irem, 1) := dc0 dO_112 (by decide +kernel)
theorem dX12_doEvent_24 : decode cX12_doEvent 24 = .ok (.istore_n 2, 1) := dc0 dO_61 (by decide +kernel)
theorem dX12_doEvent_25 : decode cX12_doEvent 25 = .ok (.iload_n 2, 1) := dc0 dO_28 (by decide +kernel)
theorem dX12_doEvent_26 : decode cX12_doEvent 26 = .ok (.bipush 20, 2) := dcS1 dO_16 (by decide +kernel)
theorem dX12_doEvent_28 : decode cX12_doEvent 28 = .ok (.idiv, 1) := dc0 dO_108 (by decide +kernel)
theorem dX12_doEvent_29 : decode cX12_doEvent 29 = .ok (.istore_n 3, 1) := dc0 dO_62 (by decide +kernel)
theorem dX12_doEvent_30 : decode cX12_doEvent 30 = .ok (.iload_n 2, 1) := dc0 dO_28 (by decide +kernel)
theorem dX12_doEvent_31 : decode cX12_doEvent 31 = .ok (.bipush 10, 2) := dcS1 dO_16 (by decide +kernel)
theorem dX12_doEvent_33 : decode cX12_doEvent 33 = .ok (.idiv, 1) := dc0 dO_108 (by decide +kernel)
theorem dX12_doEvent_34 : decode cX12_doEvent 34 = .ok (.iconst 2, 1) := dc0 dO_5 (by decide +kernel)
theorem dX12_doEvent_35 : decode cX12_doEvent 35 = .ok (.irem, 1) := dc0 dO_112 (by decide +kernel)
theorem dX12_doEvent_36 : decode cX12_doEvent 36 = .ok (.istore 4, 2) := dcU1 dO_54 (by decide +kernel)
theorem dX12_doEvent_38 : decode cX12_doEvent 38 = .ok (.iload_n 2, 1) := dc0 dO_28 (by decide +kernel)
theorem dX12_doEvent_39 : decode cX12_doEvent 39 = .ok (.bipush 10, 2) := dcS1 dO_16 (by decide +kernel)
theorem dX12_doEvent_41 : decode cX12_doEvent 41 = .ok (.irem, 1) := dc0 dO_112 (by decide +kernel)
theorem dX12_doEvent_42 : decode cX12_doEvent 42 = .ok (.istore 5, 2) := dcU1 dO_54 (by decide +kernel)
theorem dX12_doEvent_44 : decode cX12_doEvent 44 = .ok (.iload_n 1, 1) := dc0 dO_27 (by decide +kernel)
theorem dX12_doEvent_45 : decode cX12_doEvent 45 = .ok (.sipush 400, 3) := dcS2 dO_17 (by decide +kernel)
theorem dX12_doEvent_48 : decode cX12_doEvent 48 = .ok (.if_icmp .lt 29, 3) := dcS2 dO_161 (by decide +kernel)
theorem dX12_doEvent_51 : decode cX12_doEvent 51 = .ok (.aload_n 0, 1) := dc0 dO_42 (by decide +kernel)
theorem dX12_doEvent_52 : decode cX12_doEvent 52 = .ok (.getfield 439, 3) := dcU2 dO_180 (by decide +kernel)
theorem dX12_doEvent_55 : decode cX12_doEvent 55 = .ok (.iload_n 2, 1) := dc0 dO_28 (by decide +kernel)
theorem dX12_doEvent_56 : decode cX12_doEvent 56 = .ok (.iconst (-1), 1) := dc0 dO_2 (by decide +kernel)
theorem dX12_doEvent_57 : decode cX12_doEvent 57 = .ok (.iastore, 1) := dc0 dO_79 (by decide +kernel)
theorem dX12_doEvent_58 : decode cX12_doEvent 58 = .ok (.aload_n 0, 1) := dc0 dO_42 (by decide +kernel)
theorem dX12_doEvent_59 : decode cX12_doEvent 59 = .ok (.aload_n 0, 1) := dc0 dO_42 (by decide +kernel)
theorem dX12_doEvent_60 : decode cX12_doEvent 60 = .ok (.getfield 40, 3) := dcU2 dO_180 (by decide +kernel)
theorem dX12_doEvent_63 : decode cX12_doEvent 63 = .ok (.iconst 2, 1) := dc0 dO_5 (by decide +kernel)
theorem dX12_doEvent_64 : decode cX12_doEvent 64 = .ok (.iload_n 3, 1) := dc0 dO_29 (by decide +kernel)
theorem dX12_doEvent_65 : decode cX12_doEvent 65 = .ok (.imul, 1) := dc0 dO_104 (by decide +kernel)
theorem dX12_doEvent_66 : decode cX12_doEvent 66 = .ok (.iload 4, 2) := dcU1 dO_21 (by decide +kernel)
theorem dX12_doEvent_68 : decode cX12_doEvent 68 = .ok (.iadd, 1) := dc0 dO_96 (by decide +kernel)
theorem dX12_doEvent_69 : decode cX12_doEvent 69 = .ok (.iaload, 1) := dc0 dO_46 (by decide +kernel)
theorem dX12_doEvent_70 : decode cX12_doEvent 70 = .ok (.iload_n 3, 1) := dc0 dO_29 (by decide +kernel)
theorem dX12_doEvent_71 : decode cX12_doEvent 71 = .ok (.iload 5, 2) := dcU1 dO_21 (by decide +kernel)
theorem dX12_doEvent_73 : decode cX12_doEvent 73 = .ok (.invokevirtual 587, 3) := dcU2 dO_182 (by decide +kernel)
theorem dX12_doEvent_76 : decode cX12_doEvent 76 = .ok (.return_, 1) := dc0 dO_177 (by decide +kernel)
theorem dX12_doEvent_77 : decode cX12_doEvent 77 = .ok (.aload_n 0, 1) := dc0 dO_42 (by decide +kernel)
theorem dX12_doEvent_78 : decode cX12_doEvent 78 = .ok (.getfield 433, 3) := dcU2 dO_180 (by decide +kernel)
theorem dX12_doEvent_81 : decode cX12_doEvent 81 = .ok (.iload_n 2, 1) := dc0 dO_28 (by decide +kernel)
theorem dX12_doEvent_82 : decode cX12_doEvent 82 = .ok (.iconst (-1), 1) := dc0 dO_2 (by decide +kernel)
theorem dX12_doEvent_83 : decode cX12_doEvent 83 = .ok (.iastore, 1) := dc0 dO_79 (by decide +kernel)
theorem dX12_doEvent_84 : decode cX12_doEvent 84 = .ok (.iload_n 3, 1) := dc0 dO_29 (by decide +kernel)
theorem dX12_doEvent_85 : decode cX12_doEvent 85 = .ok (.iconst 1, 1) := dc0 dO_4 (by decide +kernel)
theorem dX12_doEvent_86 : decode cX12_doEvent 86 = .ok (.iload 4, 2) := dcU1 dO_21 (by decide +kernel)
theorem dX12_doEvent_88 : decode cX12_doEvent 88 = .ok (.isub, 1) := dc0 dO_100 (by decide +kernel)
theorem dX12_doEvent_89 : decode cX12_doEvent 89 = .ok (.iload 5, 2) := dcU1 dO_21 (by decide +kernel)
theorem dX12_doEvent_91 : decode cX12_doEvent 91 = .ok (.invokestatic 545, 3) := dcU2 dO_184 (by decide +kernel)
theorem dX12_doEvent_94 : decode cX12_doEvent 94 = .ok (.istore 6, 2) := dcU1 dO_54 (by decide +kernel)
theorem dX12_doEvent_96 : decode cX12_doEvent 96 = .ok (.aload_n 0, 1) := dc0 dO_42 (by decide +kernel)
theorem dX12_doEvent_97 : decode cX12_doEvent 97 = .ok (.sipush 930, 3) := dcS2 dO_17 (by decide +kernel)
theorem dX12_doEvent_100 : decode cX12_doEvent 100 = .ok (.iload_n 2, 1) := dc0 dO_28 (by decide +kernel)
theorem dX12_doEvent_101 : decode cX12_doEvent 101 = .ok (.iadd, 1) := dc0 dO_96 (by decide +kernel)
theorem dX12_doEvent_102 : decode cX12_doEvent 102 = .ok (.sipush 130, 3) := dcS2 dO_17 (by decide +kernel)
theorem dX12_doEvent_105 : decode cX12_doEvent 105 = .ok (.iload 6, 2) := dcU1 dO_21 (by decide +kernel)
theorem dX12_doEvent_107 : decode cX12_doEvent 107 = .ok (.iadd, 1) := dc0 dO_96 (by decide +kernel)
theorem dX12_doEvent_108 : decode cX12_doEvent 108 = .ok (.invokevirtual 559, 3) := dcU2 dO_182 (by decide +kernel)
theorem dX12_doEvent_111 : decode cX12_doEvent 111 = .ok (.aload_n 0, 1) := dc0 dO_42 (by decide +kernel)
theorem dX12_doEvent_112 : decode cX12_doEvent 112 = .ok (.getfield 424, 3) := dcU2 dO_180 (by decide +kernel)
theorem dX12_doEvent_115 : decode cX12_doEvent 115 = .ok (.iload 6, 2) := dcU1 dO_21 (by decide +kernel)
theorem dX12_doEvent_117 : decode cX12_doEvent 117 = .ok (.aload_n 0, 1) := dc0 dO_42 (by decide +kernel)
theorem dX12_doEvent_118 : decode cX12_doEvent 118 = .ok (.getfield 591, 3) := dcU2 dO_180 (by decide +kernel)
theorem dX12_doEvent_121 : decode cX12_doEvent 121 = .ok (.iastore, 1) := dc0 dO_79 (by decide +kernel)
theorem dX12_doEvent_122 : decode cX12_doEvent 122 = .ok (.aload_n 0, 1) := dc0 dO_42 (by decide +kernel)
theorem dX12_doEvent_123 : decode cX12_doEvent 123 = .ok (.aload_n 0, 1) := dc0 dO_42 (by decide +kernel)
theorem dX12_doEvent_124 : decode cX12_doEvent 124 = .ok (.getfield 40, 3) := dcU2 dO_180 (by decide +kernel)
theorem dX12_doEvent_127 : decode cX12_doEvent 127 = .ok (.iconst 2, 1) := dc0 dO_5 (by decide +kernel)
theorem sfx_cX12_doEvent_128 : (cX12_doEvent.data.toList.drop 128).take 67 = [29, 104, 4, 96, 21, 4, 100, 46, 21, 5, 182, 2, 85, 177] := by decide +kernel
theorem dX12_doEvent_128 : decode cX12_doEvent 128 = .ok (.iload_n 3, 1) := dc0 dO_29 (rdB.ch sfx_cX12_doEvent_128 0 rfl (by decide +kernel))
theorem dX12_doEvent_129 : decode cX12_doEvent 129 = .ok (.imul, 1) := dc0 dO_104 (rdB.ch sfx_cX12_doEvent_128 1 rfl (by decide +kernel))
theorem dX12_doEvent_130 : decode cX12_doEvent 130 = .ok (.iconst 1, 1) := dc0 dO_4 (rdB.ch sfx_cX12_doEvent_128 2 rfl (by decide +kernel))
theorem dX12_doEvent_131 : decode cX12_doEvent 131 = .ok (.iadd, 1) := dc0 dO_96 (rdB.ch sfx_cX12_doEvent_128 3 rfl (by decide +kernel))
theorem dX12_doEvent_132 : decode cX12_doEvent 132 = .ok (.iload 4, 2) := dcU1 dO_21 (rdU1.ch sfx_cX12_doEvent_128 4 rfl (by decide +kernel))
theorem dX12_doEvent_134 : decode cX12_doEvent 134 = .ok (.isub, 1) := dc0 dO_100 (rdB.ch sfx_cX12_doEvent_128 6 rfl (by decide +kernel))
theorem dX12_doEvent_135 : decode cX12_doEvent 135 = .ok (.iaload, 1) := dc0 dO_46 (rdB.ch sfx_cX12_doEvent_128 7 rfl (by decide +kernel))
theorem dX12_doEvent_136 : decode cX12_doEvent 136 = .ok (.iload 5, 2) := dcU1 dO_21 (rdU1.ch sfx_cX12_doEvent_128 8 rfl (by decide +kernel))
theorem dX12_doEvent_138 : decode cX12_doEvent 138 = .ok (.invokevirtual 597, 3) := dcU2 dO_182 (rdU2.ch sfx_cX12_doEvent_128 10 rfl (by decide +kernel))
theorem dX12_doEvent_141 : decode cX12_doEvent 141 = .ok (.return_, 1) := dc0 dO_177 (rdB.ch sfx_cX12_doEvent_128 13 rfl (by decide +kernel))
theorem dX12_go_0 : decode cX12_go 0 = .ok (.iload_n 1, 1) := dc0 dO_27 (by decide +kernel)
theorem dX12_go_1 : decode cX12_go 1 = .ok (.iconst 1, 1) := dc0 dO_4 (by decide +kernel)
theorem dX12_go_2 : decode cX12_go 2 = .ok (.sipush 500, 3) := dcS2 dO_17 (by decide +kernel)
theorem dX12_go_5 : decode cX12_go 5 = .ok (.invokestatic 18, 3) := dcU2 dO_184 (by decide +kernel)
theorem dX12_go_8 : decode cX12_go 8 = .ok (.ifCond .ne 5, 3) := dcS2 dO_154 (by decide +kernel)
theorem dX12_go_11 : decode cX12_go 11 = .ok (.iconst (-1), 1) := dc0 dO_2 (by decide +kernel)
theorem dX12_go_12 : decode cX12_go 12 = .ok (.ireturn, 1) := dc0 dO_172 (by decide +kernel)
theorem dX12_go_13 : decode cX12_go 13 = .ok (.iconst 0, 1) := dc0 dO_3 (by decide +kernel)
theorem dX12_go_14 : decode cX12_go 14 = .ok (.istore_n 2, 1) := dc0 dO_61 (by decide +kernel)
theorem dX12_go_15 : decode cX12_go 15 = .ok (.iload_n 2, 1) := dc0 dO_28 (by decide +kernel)
theorem dX12_go_16 : decode cX12_go 16 = .ok (.iload_n 1, 1) := dc0 dO_27 (by decide +kernel)
theorem dX12_go_17 : decode cX12_go 17 = .ok (.if_icmp .ge 26, 3) := dcS2 dO_162 (by decide +kernel)
theorem dX12_go_20 : decode cX12_go 20 = .ok (.aload_n 0, 1) := dc0 dO_42 (by decide +kernel)
theorem dX12_go_21 : decode cX12_go 21 = .ok (.invokevirtual 613, 3) := dcU2 dO_182 (by decide +kernel)
theorem dX12_go_24 : decode cX12_go 24 = .ok (.ldc 29, 2) := dcU1 dO_18 (by decide +kernel)
theorem dX12_go_26 : decode cX12_go 26 = .ok (.if_icmp .eq 17, 3) := dcS2 dO_159 (by decide +kernel)
theorem dX12_go_29 : decode cX12_go 29 = .ok (.aload_n 0, 1) := dc0 dO_42 (by decide +kernel)
theorem dX12_go_30 : decode cX12_go 30 = .ok (.aload_n 0, 1) := dc0 dO_42 (by decide +kernel)
theorem dX12_go_31 : decode cX12_go 31 = .ok (.invokevirtual 613, 3) := dcU2 dO_182 (by decide +kernel)
theorem dX12_go_34 : decode cX12_go 34 = .ok (.invokevirtual 616, 3) := dcU2 dO_182 (by decide +kernel)
theorem dX12_go_37 : decode cX12_go 37 = .ok (.iinc 2 1, 3) := dcI dO_132 (by decide +kernel)
theorem dX12_go_40 : decode cX12_go 40 = .ok (.goto (-25), 3) := dcS2 dO_167 (by decide +kernel)
theorem dX12_go_43 : decode cX12_go 43 = .ok (.iload_n 2, 1) := dc0 dO_28 (by decide +kernel)
theorem dX12_go_44 : decode cX12_go 44 = .ok (.ireturn, 1) := dc0 dO_172 (by decide +kernel)
theorem dX12_goes_0 : decode cX12_goes 0 = .ok (.aload_n 0, 1) := dc0 dO_42 (by decide +kernel)
theorem dX12_goes_1 : decode cX12_goes 1 = .ok (.iconst 0, 1) := dc0 dO_3 (by decide +kernel)
theorem dX12_goes_2 : decode cX12_goes 2 = .ok (.putfield 683, 3) := dcU2 dO_181 (by decide +kernel)
theorem dX12_goes_5 : decode cX12_goes 5 = .ok (.iload_n 1, 1) := dc0 dO_27 (by decide +kernel)
theorem dX12_goes_6 : decode cX12_goes 6 = .ok (.istore_n 3, 1) := dc0 dO_62 (by decide +kernel)
theorem dX12_goes_7 : decode cX12_goes 7 = .ok (.iconst 0, 1) := dc0 dO_3 (by decide +kernel)
theorem dX12_goes_8 : decode cX12_goes 8 = .ok (.istore 4, 2) := dcU1 dO_54 (by decide +kernel)
theorem dX12_goes_10 : decode cX12_goes 10 = .ok (.iconst 0, 1) := dc0 dO_3 (by decide +kernel)
theorem dX12_goes_11 : decode cX12_goes 11 = .ok (.istore 5, 2) := dcU1 dO_54 (by decide +kernel)
theorem dX12_goes_13 : decode cX12_goes 13 = .ok (.iload 5, 2) := dcU1 dO_21 (by decide +kernel)
theorem dX12_goes_15 : decode cX12_goes 15 = .ok (.aload_n 0, 1) := dc0 dO_42 (by decide +kernel)
theorem dX12_goes_16 : decode cX12_goes 16 = .ok (.getfield 683, 3) := dcU2 dO_180 (by decide +kernel)
theorem dX12_goes_19 : decode cX12_goes 19 = .ok (.if_icmp .ge 32, 3) := dcS2 dO_162 (by decide +kernel)
theorem dX12_goes_22 : decode cX12_goes 22 = .ok (.iload 4, 2) := dcU1 dO_21 (by decide +kernel)
theorem dX12_goes_24 : decode cX12_goes 24 = .ok (.ifCond .ne 14, 3) := dcS2 dO_154 (by decide +kernel)
theorem dX12_goes_27 : decode cX12_goes 27 = .ok (.aload_n 0, 1) := dc0 dO_42 (by decide +kernel)
theorem dX12_goes_28 : decode cX12_goes 28 = .ok (.getfield 487, 3) := dcU2 dO_180 (by decide +kernel)
theorem dX12_goes_31 : decode cX12_goes 31 = .ok (.iload 5, 2) := dcU1 dO_21 (by decide +kernel)
theorem dX12_goes_33 : decode cX12_goes 33 = .ok (.iaload, 1) := dc0 dO_46 (by decide +kernel)
theorem dX12_goes_34 : decode cX12_goes 34 = .ok (.iload_n 3, 1) := dc0 dO_29 (by decide +kernel)
theorem dX12_goes_35 : decode cX12_goes 35 = .ok (.if_icmp .ne 7, 3) := dcS2 dO_160 (by decide +kernel)
theorem dX12_goes_38 : decode cX12_goes 38 = .ok (.iconst 1, 1) := dc0 dO_4 (by decide +kernel)
theorem dX12_goes_39 : decode cX12_goes 39 = .ok (.goto 4, 3) := dcS2 dO_167 (by decide +kernel)
theorem dX12_goes_42 : decode cX12_goes 42 = .ok (.iconst 0, 1) := dc0 dO_3 (by decide +kernel)
theorem dX12_goes_43 : decode cX12_goes 43 = .ok (.istore 4, 2) := dcU1 dO_54 (by decide +kernel)
theorem dX12_goes_45 : decode cX12_goes 45 = .ok (.iinc 5 1, 3) := dcI dO_132 (by decide +kernel)
theorem dX12_goes_48 : decode cX12_goes 48 = .ok (.goto (-35), 3) := dcS2 dO_167 (by decide +kernel)
theorem dX12_goes_51 : decode cX12_goes 51 = .ok (.aload_n 0, 1) := dc0 dO_42 (by decide +kernel)
theorem dX12_goes_52 : decode cX12_goes 52 = .ok (.getfield 487, 3) := dcU2 dO_180 (by decide +kernel)
theorem dX12_goes_55 : decode cX12_goes 55 = .ok (.aload_n 0, 1) := dc0 dO_42 (by decide +kernel)
theorem dX12_goes_56 : decode cX12_goes 56 = .ok (.getfield 683, 3) := dcU2 dO_180 (by decide +kernel)
theorem dX12_goes_59 : decode cX12_goes 59 = .ok (.iload_n 3, 1) := dc0 dO_29 (by decide +kernel)
theorem dX12_goes_60 : decode cX12_goes 60 = .ok (.iastore, 1) := dc0 dO_79 (by decide +kernel)
theorem dX12_goes_61 : decode cX12_goes 61 = .ok (.aload_n 0, 1) := dc0 dO_42 (by decide +kernel)
theorem dX12_goes_62 : decode cX12_goes 62 = .ok (.dup, 1) := dc0 dO_89 (by decide +kernel)
theorem dX12_goes_63 : decode cX12_goes 63 = .ok (.getfield 683, 3) := dcU2 dO_180 (by decide +kernel)
theorem dX12_goes_66 : decode cX12_goes 66 = .ok (.iconst 1, 1) := dc0 dO_4 (by decide +kernel)
theorem dX12_goes_67 : decode cX12_goes 67 = .ok (.iadd, 1) := dc0 dO_96 (by decide +kernel)
theorem dX12_goes_68 : decode cX12_goes 68 = .ok (.putfield 683, 3) := dcU2 dO_181 (by decide +kernel)
theorem dX12_goes_71 : decode cX12_goes 71 = .ok (.iload 4, 2) := dcU1 dO_21 (by decide +kernel)
theorem dX12_goes_73 : decode cX12_goes 73 = .ok (.ifCond .eq 5, 3) := dcS2 dO_153 (by decide +kernel)
theorem dX12_goes_76 : decode cX12_goes 76 = .ok (.iconst 2, 1) := dc0 dO_5 (by decide +kernel)
theorem dX12_goes_77 : decode cX12_goes 77 = .ok (.ireturn, 1) := dc0 dO_172 (by decide +kernel)
theorem dX12_goes_78 : decode cX12_goes 78 = .ok (.aload_n 0, 1) := dc0 dO_42 (by decide +kernel)
theorem dX12_goes_79 : decode cX12_goes 79 = .ok (.iload_n 3, 1) := dc0 dO_29 (by decide +kernel)
theorem dX12_goes_80 : decode cX12_goes 80 = .ok (.iload_n 2, 1) := dc0 dO_28 (by decide +kernel)
theorem dX12_goes_81 : decode cX12_goes 81 = .ok (.invokevirtual 686, 3) := dcU2 dO_182 (by decide +kernel)
theorem dX12_goes_84 : decode cX12_goes 84 = .ok (.istore 5, 2) := dcU1 dO_54 (by decide +kernel)
theorem dX12_goes_86 : decode cX12_goes 86 = .ok (.iload 5, 2) := dcU1 dO_21 (by decide +kernel)
theorem dX12_goes_88 : decode cX12_goes 88 = .ok (.bipush (-4), 2) := dcS1 dO_16 (by decide +kernel)
theorem dX12_goes_90 : decode cX12_goes 90 = .ok (.if_icmp .ne 5, 3) := dcS2 dO_160 (by decide +kernel)
theorem dX12_goes_93 : decode cX12_goes 93 = .ok (.iconst 0, 1) := dc0 dO_3 (by decide +kernel)
theorem dX12_goes_94 : decode cX12_goes 94 = .ok (.ireturn, 1) := dc0 dO_172 (by decide +kernel)
theorem dX12_goes_95 : decode cX12_goes 95 = .ok (.iload 5, 2) := dcU1 dO_21 (by decide +kernel)
theorem dX12_goes_97 : decode cX12_goes 97 = .ok (.ldc 29, 2) := dcU1 dO_18 (by decide +kernel)
theorem dX12_goes_99 : decode cX12_goes 99 = .ok (.if_icmp .ne 5, 3) := dcS2 dO_160 (by decide +kernel)
theorem dX12_goes_102 : decode cX12_goes 102 = .ok (.iconst 1, 1) := dc0 dO_4 (by decide +kernel)
theorem dX12_goes_103 : decode cX12_goes 103 = .ok (.ireturn, 1) := dc0 dO_172 (by decide +kernel)
theorem dX12_goes_104 : decode cX12_goes 104 = .ok (.aload_n 0, 1) := dc0 dO_42 (by decide +kernel)
theorem dX12_goes_105 : decode cX12_goes 105 = .ok (.iload 5, 2) := dcU1 dO_21 (by decide +kernel)
theorem dX12_goes_107 : decode cX12_goes 107 = .ok (.iload_n 3, 1) := dc0 dO_29 (by decide +kernel)
theorem dX12_goes_108 : decode cX12_goes 108 = .ok (.invokevirtual 553, 3) := dcU2 dO_182 (by decide +kernel)
theorem dX12_goes_111 : decode cX12_goes 111 = .ok (.istore_n 3, 1) := dc0 dO_62 (by decide +kernel)
theorem dX12_goes_112 : decode cX12_goes 112 = .ok (.goto (-105), 3) := dcS2 dO_167 (by decide +kernel)
theorem dX12_hear_0 : decode cX12_hear 0 = .ok (.aload_n 0, 1) := dc0 dO_42 (by decide +kernel)
theorem dX12_hear_1 : decode cX12_hear 1 = .ok (.iload_n 1, 1) := dc0 dO_27 (by decide +kernel)
theorem dX12_hear_2 : decode cX12_hear 2 = .ok (.invokevirtual 66, 3) := dcU2 dO_182 (by decide +kernel)
theorem dX12_hear_5 : decode cX12_hear 5 = .ok (.ifCond .eq 12, 3) := dcS2 dO_153 (by decide +kernel)
theorem dX12_hear_8 : decode cX12_hear 8 = .ok (.iload_n 2, 1) := dc0 dO_28 (by decide +kernel)
theorem dX12_hear_9 : decode cX12_hear 9 = .ok (.iconst 0, 1) := dc0 dO_3 (by decide +kernel)
theorem dX12_hear_10 : decode cX12_hear 10 = .ok (.iconst 1, 1) := dc0 dO_4 (by decide +kernel)
theorem dX12_hear_11 : decode cX12_hear 11 = .ok (.invokestatic 18, 3) := dcU2 dO_184 (by decide +kernel)
theorem dX12_hear_14 : decode cX12_hear 14 = .ok (.ifCond .ne 5, 3) := dcS2 dO_154 (by decide +kernel)
theorem dX12_hear_17 : decode cX12_hear 17 = .ok (.iconst (-1), 1) := dc0 dO_2 (by decide +kernel)
theorem dX12_hear_18 : decode cX12_hear 18 = .ok (.ireturn, 1) := dc0 dO_172 (by decide +kernel)
theorem dX12_hear_19 : decode cX12_hear 19 = .ok (.aload_n 0, 1) := dc0 dO_42 (by decide +kernel)
theorem dX12_hear_20 : decode cX12_hear 20 = .ok (.getfield 655, 3) := dcU2 dO_180 (by decide +kernel)
theorem dX12_hear_23 : decode cX12_hear 23 = .ok (.ifCond .eq 19, 3) := dcS2 dO_153 (by decide +kernel)
theorem dX12_hear_26 : decode cX12_hear 26 = .ok (.aload_n 0, 1) := dc0 dO_42 (by decide +kernel)
theorem dX12_hear_27 : decode cX12_hear 27 = .ok (.getfield 665, 3) := dcU2 dO_180 (by decide +kernel)
theorem dX12_hear_30 : decode cX12_hear 30 = .ok (.ifCond .ne 12, 3) := dcS2 dO_154 (by decide +kernel)
theorem dX12_hear_33 : decode cX12_hear 33 = .ok (.aload_n 0, 1) := dc0 dO_42 (by decide +kernel)
theorem dX12_hear_34 : decode cX12_hear 34 = .ok (.getfield 53, 3) := dcU2 dO_180 (by decide +kernel)
theorem dX12_hear_37 : decode cX12_hear 37 = .ok (.iload_n 1, 1) := dc0 dO_27 (by decide +kernel)
theorem dX12_hear_38 : decode cX12_hear 38 = .ok (.baload, 1) := dc0 dO_51 (by decide +kernel)
theorem dX12_hear_39 : decode cX12_hear 39 = .ok (.ifCond .ne 6, 3) := dcS2 dO_154 (by decide +kernel)
theorem dX12_hear_42 : decode cX12_hear 42 = .ok (.bipush (-2), 2) := dcS1 dO_16 (by decide +kernel)
theorem dX12_hear_44 : decode cX12_hear 44 = .ok (.ireturn, 1) := dc0 dO_172 (by decide +kernel)
theorem dX12_hear_45 : decode cX12_hear 45 = .ok (.iconst 0, 1) := dc0 dO_3 (by decide +kernel)
theorem dX12_hear_46 : decode cX12_hear 46 = .ok (.istore_n 3, 1) := dc0 dO_62 (by decide +kernel)
theorem dX12_hear_47 : decode cX12_hear 47 = .ok (.iconst 0, 1) := dc0 dO_3 (by decide +kernel)
theorem dX12_hear_48 : decode cX12_hear 48 = .ok (.istore 4, 2) := dcU1 dO_54 (by decide +kernel)
theorem dX12_hear_50 : decode cX12_hear 50 = .ok (.iload 4, 2) := dcU1 dO_21 (by decide +kernel)
theorem dX12_hear_52 : decode cX12_hear 52 = .ok (.aload_n 0, 1) := dc0 dO_42 (by decide +kernel)
theorem dX12_hear_53 : decode cX12_hear 53 = .ok (.getfield 625, 3) := dcU2 dO_180 (by decide +kernel)
theorem dX12_hear_56 : decode cX12_hear 56 = .ok (.aload_n 0, 1) := dc0 dO_42 (by decide +kernel)
theorem dX12_hear_57 : decode cX12_hear 57 = .ok (.getfield 628, 3) := dcU2 dO_180 (by decide +kernel)
theorem dX12_hear_60 : decode cX12_hear 60 = .ok (.iadd, 1) := dc0 dO_96 (by decide +kernel)
theorem dX12_hear_61 : decode cX12_hear 61 = .ok (.if_icmp .ge 168, 3) := dcS2 dO_162 (by decide +kernel)
theorem dX12_hear_64 : decode cX12_hear 64 = .ok (.iload 4, 2) := dcU1 dO_21 (by decide +kernel)
theorem dX12_hear_66 : decode cX12_hear 66 = .ok (.aload_n 0, 1) := dc0 dO_42 (by decide +kernel)
theorem dX12_hear_67 : decode cX12_hear 67 = .ok (.getfield 625, 3) := dcU2 dO_180 (by decide +kernel)
theorem dX12_hear_70 : decode cX12_hear 70 = .ok (.if_icmp .ge 24, 3) := dcS2 dO_162 (by decide +kernel)
theorem dX12_hear_73 : decode cX12_hear 73 = .ok (.aload_n 0, 1) := dc0 dO_42 (by decide +kernel)
theorem dX12_hear_74 : decode cX12_hear 74 = .ok (.aload_n 0, 1) := dc0 dO_42 (by decide +kernel)
theorem dX12_hear_75 : decode cX12_hear 75 = .ok (.getfield 460, 3) := dcU2 dO_180 (by decide +kernel)
theorem dX12_hear_78 : decode cX12_hear 78 = .ok (.iload 4, 2) := dcU1 dO_21 (by decide +kernel)
theorem dX12_hear_80 : decode cX12_hear 80 = .ok (.iaload, 1) := dc0 dO_46 (by decide +kernel)
theorem dX12_hear_81 : decode cX12_hear 81 = .ok (.aload_n 0, 1) := dc0 dO_42 (by decide +kernel)
theorem dX12_hear_82 : decode cX12_hear 82 = .ok (.getfield 463, 3) := dcU2 dO_180 (by decide +kernel)
theorem dX12_hear_85 : decode cX12_hear 85 = .ok (.iload 4, 2) := dcU1 dO_21 (by decide +kernel)
theorem dX12_hear_87 : decode cX12_hear 87 = .ok (.iaload, 1) := dc0 dO_46 (by decide +kernel)
theorem dX12_hear_88 : decode cX12_hear 88 = .ok (.invokevirtual 30, 3) := dcU2 dO_182 (by decide +kernel)
theorem dX12_hear_91 : decode cX12_hear 91 = .ok (.goto 31, 3) := dcS2 dO_167 (by decide +kernel)
theorem dX12_hear_94 : decode cX12_hear 94 = .ok (.aload_n 0, 1) := dc0 dO_42 (by decide +kernel)
theorem dX12_hear_95 : decode cX12_hear 95 = .ok (.aload_n 0, 1) := dc0 dO_42 (by decide +kernel)
theorem dX12_hear_96 : decode cX12_hear 96 = .ok (.getfield 466, 3) := dcU2 dO_180 (by decide +kernel)
theorem dX12_hear_99 : decode cX12_hear 99 = .ok (.iload 4, 2) := dcU1 dO_21 (by decide +kernel)
theorem dX12_hear_101 : decode cX12_hear 101 = .ok (.aload_n 0, 1) := dc0 dO_42 (by decide +kernel)
theorem dX12_hear_102 : decode cX12_hear 102 = .ok (.getfield 625, 3) := dcU2 dO_180 (by decide +kernel)
theorem dX12_hear_105 : decode cX12_hear 105 = .ok (.isub, 1) := dc0 dO_100 (by decide +kernel)
theorem dX12_hear_106 : decode cX12_hear 106 = .ok (.iaload, 1) := dc0 dO_46 (by decide +kernel)
theorem dX12_hear_107 : decode cX12_hear 107 = .ok (.aload_n 0, 1) := dc0 dO_42 (by decide +kernel)
theorem dX12_hear_108 : decode cX12_hear 108 = .ok (.getfield 469, 3) := dcU2 dO_180 (by decide +kernel)
theorem dX12_hear_111 : decode cX12_hear 111 = .ok (.iload 4, 2) := dcU1 dO_21 (by decide +kernel)
theorem dX12_hear_113 : decode cX12_hear 113 = .ok (.aload_n 0, 1) := dc0 dO_42 (by decide +kernel)
theorem dX12_hear_114 : decode cX12_hear 114 = .ok (.getfield 625, 3) := dcU2 dO_180 (by decide +kernel)
theorem dX12_hear_117 : decode cX12_hear 117 = .ok (.isub, 1) := dc0 dO_100 (by decide +kernel)
theorem dX12_hear_118 : decode cX12_hear 118 = .ok (.iaload, 1) := dc0 dO_46 (by decide +kernel)
theorem dX12_hear_119 : decode cX12_hear 119 = .ok (.invokevirtual 30, 3) := dcU2 dO_182 (by decide +kernel)
theorem dX12_hear_122 : decode cX12_hear 122 = .ok (.istore 5, 2) := dcU1 dO_54 (by decide +kernel)
theorem dX12_hear_124 : decode cX12_hear 124 = .ok (.iload 5, 2) := dcU1 dO_21 (by decide +kernel)
theorem dX12_hear_126 : decode cX12_hear 126 = .ok (.ldc 29, 2) := dcU1 dO_18 (by decide +kernel)
theorem sfx_cX12_hear_128 : (cX12_hear.data.toList.drop 128).take 67 = [160, 0, 6, 167, 0, 92, 27, 28, 21, 5, 184, 2, 33, 54, 6, 21, 4, 42, 180, 2, 113, 162, 0, 16, 42, 17, 0, 130, 21, 6, 96, 182, 2, 27, 167, 0, 31, 42, 16, 24, 17, 0, 130, 21, 6, 96, 182, 2, 47, 42, 180, 0, 148, 16, 40, 17, 0, 130, 21, 6, 96, 104, 21, 5, 79, 42, 180] := by decide +kernel
theorem dX12_hear_128 : decode cX12_hear 128 = .ok (.if_icmp .ne 6, 3) := dcS2 dO_160 (rdS2.ch sfx_cX12_hear_128 0 rfl (by decide +kernel))
theorem dX12_hear_131 : decode cX12_hear 131 = .ok (.goto 92, 3) := dcS2 dO_167 (rdS2.ch sfx_cX12_hear_128 3 rfl (by decide +kernel))
theorem dX12_hear_134 : decode cX12_hear 134 = .ok (.iload_n 1, 1) := dc0 dO_27 (rdB.ch sfx_cX12_hear_128 6 rfl (by decide +kernel))
theorem dX12_hear_135 : decode cX12_hear 135 = .ok (.iload_n 2, 1) := dc0 dO_28 (rdB.ch sfx_cX12_hear_128 7 rfl (by decide +kernel))
theorem dX12_hear_136 : decode cX12_hear 136 = .ok (.iload 5, 2) := dcU1 dO_21 (rdU1.ch sfx_cX12_hear_128 8 rfl (by decide +kernel))
theorem dX12_hear_138 : decode cX12_hear 138 = .ok (.invokestatic 545, 3) := dcU2 dO_184 (rdU2.ch sfx_cX12_hear_128 10 rfl (by decide +kernel))
theorem dX12_hear_141 : decode cX12_hear 141 = .ok (.istore 6, 2) := dcU1 dO_54 (rdU1.ch sfx_cX12_hear_128 13 rfl (by decide +kernel))
theorem dX12_hear_143 : decode cX12_hear 143 = .ok (.iload 4, 2) := dcU1 dO_21 (rdU1.ch sfx_cX12_hear_128 15 rfl (by decide +kernel))
theorem dX12_hear_145 : decode cX12_hear 145 = .ok (.aload_n 0, 1) := dc0 dO_42 (rdB.ch sfx_cX12_hear_128 17 rfl (by decide +kernel))
theorem dX12_hear_146 : decode cX12_hear 146 = .ok (.getfield 625, 3) := dcU2 dO_180 (rdU2.ch sfx_cX12_hear_128 18 rfl (by decide +kernel))
theorem dX12_hear_149 : decode cX12_hear 149 = .ok (.if_icmp .ge 16, 3) := dcS2 dO_162 (rdS2.ch sfx_cX12_hear_128 21 rfl (by decide +kernel))
theorem dX12_hear_152 : decode cX12_hear 152 = .ok (.aload_n 0, 1) := dc0 dO_42 (rdB.ch sfx_cX12_hear_128 24 rfl (by decide +kernel))
theorem dX12_hear_153 : decode cX12_hear 153 = .ok (.sipush 130, 3) := dcS2 dO_17 (rdS2.ch sfx_cX12_hear_128 25 rfl (by decide +kernel))
theorem dX12_hear_156 : decode cX12_hear 156 = .ok (.iload 6, 2) := dcU1 dO_21 (rdU1.ch sfx_cX12_hear_128 28 rfl (by decide +kernel))
theorem dX12_hear_158 : decode cX12_hear 158 = .ok (.iadd, 1) := dc0 dO_96 (rdB.ch sfx_cX12_hear_128 30 rfl (by decide +kernel))
theorem dX12_hear_159 : decode cX12_hear 159 = .ok (.invokevirtual 539, 3) := dcU2 dO_182 (rdU2.ch sfx_cX12_hear_128 31 rfl (by decide +kernel))
theorem dX12_hear_162 : decode cX12_hear 162 = .ok (.goto 31, 3) := dcS2 dO_167 (rdS2.ch sfx_cX12_hear_128 34 rfl (by decide +kernel))
theorem dX12_hear_165 : decode cX12_hear 165 = .ok (.aload_n 0, 1) := dc0 dO_42 (rdB.ch sfx_cX12_hear_128 37 rfl (by decide +kernel))
theorem dX12_hear_166 : decode cX12_hear 166 = .ok (.bipush 24, 2) := dcS1 dO_16 (rdS1.ch sfx_cX12_hear_128 38 rfl (by decide +kernel))
theorem dX12_hear_168 : decode cX12_hear 168 = .ok (.sipush 130, 3) := dcS2 dO_17 (rdS2.ch sfx_cX12_hear_128 40 rfl (by decide +kernel))
theorem dX12_hear_171 : decode cX12_hear 171 = .ok (.iload 6, 2) := dcU1 dO_21 (rdU1.ch sfx_cX12_hear_128 43 rfl (by decide +kernel))
theorem dX12_hear_173 : decode cX12_hear 173 = .ok (.iadd, 1) := dc0 dO_96 (rdB.ch sfx_cX12_hear_128 45 rfl (by decide +kernel))
theorem dX12_hear_174 : decode cX12_hear 174 = .ok (.invokevirtual 559, 3) := dcU2 dO_182 (rdU2.ch sfx_cX12_hear_128 46 rfl (by decide +kernel))
theorem dX12_hear_177 : decode cX12_hear 177 = .ok (.aload_n 0, 1) := dc0 dO_42 (rdB.ch sfx_cX12_hear_128 49 rfl (by decide +kernel))
theorem dX12_hear_178 : decode cX12_hear 178 = .ok (.getfield 148, 3) := dcU2 dO_180 (rdU2.ch sfx_cX12_hear_128 50 rfl (by decide +kernel))
theorem dX12_hear_181 : decode cX12_hear 181 = .ok (.bipush 40, 2) := dcS1 dO_16 (rdS1.ch sfx_cX12_hear_128 53 rfl (by decide +kernel))
theorem dX12_hear_183 : decode cX12_hear 183 = .ok (.sipush 130, 3) := dcS2 dO_17 (rdS2.ch sfx_cX12_hear_128 55 rfl (by decide +kernel))
theorem dX12_hear_186 : decode cX12_hear 186 = .ok (.iload 6, 2) := dcU1 dO_21 (rdU1.ch sfx_cX12_hear_128 58 rfl (by decide +kernel))
theorem dX12_hear_188 : decode cX12_hear 188 = .ok (.iadd, 1) := dc0 dO_96 (rdB.ch sfx_cX12_hear_128 60 rfl (by decide +kernel))
theorem dX12_hear_189 : decode cX12_hear 189 = .ok (.imul, 1) := dc0 dO_104 (rdB.ch sfx_cX12_hear_128 61 rfl (by decide +kernel))
theorem dX12_hear_190 : decode cX12_hear 190 = .ok (.iload 5, 2) := dcU1 dO_21 (rdU1.ch sfx_cX12_hear_128 62 rfl (by decide +kernel))
theorem sfx_cX12_hear_192 : (cX12_hear.data.toList.drop 192).take 67 = [79, 42, 180, 1, 168, 21, 6, 42, 180, 2, 79, 79, 132, 3, 1, 42, 42, 180, 0, 40, 5, 27, 104, 28, 96, 46, 21, 5, 182, 2, 85, 132, 4, 1, 167, 255, 80, 29, 172] := by decide +kernel
theorem dX12_hear_192 : decode cX12_hear 192 = .ok (.iastore, 1) := dc0 dO_79 (rdB.ch sfx_cX12_hear_192 0 rfl (by decide +kernel))
theorem dX12_hear_193 : decode cX12_hear 193 = .ok (.aload_n 0, 1) := dc0 dO_42 (rdB.ch sfx_cX12_hear_192 1 rfl (by decide +kernel))
theorem dX12_hear_194 : decode cX12_hear 194 = .ok (.getfield 424, 3) := dcU2 dO_180 (rdU2.ch sfx_cX12_hear_192 2 rfl (by decide +kernel))
theorem dX12_hear_197 : decode cX12_hear 197 = .ok (.iload 6, 2) := dcU1 dO_21 (rdU1.ch sfx_cX12_hear_192 5 rfl (by decide +kernel))
theorem dX12_hear_199 : decode cX12_hear 199 = .ok (.aload_n 0, 1) := dc0 dO_42 (rdB.ch sfx_cX12_hear_192 7 rfl (by decide +kernel))
theorem dX12_hear_200 : decode cX12_hear 200 = .ok (.getfield 591, 3) := dcU2 dO_180 (rdU2.ch sfx_cX12_hear_192 8 rfl (by decide +kernel))
theorem dX12_hear_203 : decode cX12_hear 203 = .ok (.iastore, 1) := dc0 dO_79 (rdB.ch sfx_cX12_hear_192 11 rfl (by decide +kernel))
theorem dX12_hear_204 : decode cX12_hear 204 = .ok (.iinc 3 1, 3) := dcI dO_132 (rdI.ch sfx_cX12_hear_192 12 rfl (by decide +kernel))
theorem dX12_hear_207 : decode cX12_hear 207 = .ok (.aload_n 0, 1) := dc0 dO_42 (rdB.ch sfx_cX12_hear_192 15 rfl (by decide +kernel))
theorem dX12_hear_208 : decode cX12_hear 208 = .ok (.aload_n 0, 1) := dc0 dO_42 (rdB.ch sfx_cX12_hear_192 16 rfl (by decide +kernel))
theorem dX12_hear_209 : decode cX12_hear 209 = .ok (.getfield 40, 3) := dcU2 dO_180 (rdU2.ch sfx_cX12_hear_192 17 rfl (by decide +kernel))
theorem dX12_hear_212 : decode cX12_hear 212 = .ok (.iconst 2, 1) := dc0 dO_5 (rdB.ch sfx_cX12_hear_192 20 rfl (by decide +kernel))
theorem dX12_hear_213 : decode cX12_hear 213 = .ok (.iload_n 1, 1) := dc0 dO_27 (rdB.ch sfx_cX12_hear_192 21 rfl (by decide +kernel))
theorem dX12_hear_214 : decode cX12_hear 214 = .ok (.imul, 1) := dc0 dO_104 (rdB.ch sfx_cX12_hear_192 22 rfl (by decide +kernel))
theorem dX12_hear_215 : decode cX12_hear 215 = .ok (.iload_n 2, 1) := dc0 dO_28 (rdB.ch sfx_cX12_hear_192 23 rfl (by decide +kernel))
theorem dX12_hear_216 : decode cX12_hear 216 = .ok (.iadd, 1) := dc0 dO_96 (rdB.ch sfx_cX12_hear_192 24 rfl (by decide +kernel))
theorem dX12_hear_217 : decode cX12_hear 217 = .ok (.iaload, 1) := dc0 dO_46 (rdB.ch sfx_cX12_hear_192 25 rfl (by decide +kernel))
theorem dX12_hear_218 : decode cX12_hear 218 = .ok (.iload 5, 2) := dcU1 dO_21 (rdU1.ch sfx_cX12_hear_192 26 rfl (by decide +kernel))
theorem dX12_hear_220 : decode cX12_hear 220 = .ok (.invokevirtual 597, 3) := dcU2 dO_182 (rdU2.ch sfx_cX12_hear_192 28 rfl (by decide +kernel))
theorem dX12_hear_223 : decode cX12_hear 223 = .ok (.iinc 4 1, 3) := dcI dO_132 (rdI.ch sfx_cX12_hear_192 31 rfl (by decide +kernel))
theorem dX12_hear_226 : decode cX12_hear 226 = .ok (.goto (-176), 3) := dcS2 dO_167 (rdS2.ch sfx_cX12_hear_192 34 rfl (by decide +kernel))
theorem dX12_hear_229 : decode cX12_hear 229 = .ok (.iload_n 3, 1) := dc0 dO_29 (rdB.ch sfx_cX12_hear_192 37 rfl (by decide +kernel))
theorem dX12_hear_230 : decode cX12_hear 230 = .ok (.ireturn, 1) := dc0 dO_172 (rdB.ch sfx_cX12_hear_192 38 rfl (by decide +kernel))
theorem dX12_judge_0 : decode cX12_judge 0 = .ok (.iload_n 1, 1) := dc0 dO_27 (by decide +kernel)
theorem dX12_judge_1 : decode cX12_judge 1 = .ok (.iconst 0, 1) := dc0 dO_3 (by decide +kernel)
theorem dX12_judge_2 : decode cX12_judge 2 = .ok (.aload_n 0, 1) := dc0 dO_42 (by decide +kernel)
theorem dX12_judge_3 : decode cX12_judge 3 = .ok (.getfield 355, 3) := dcU2 dO_180 (by decide +kernel)
theorem dX12_judge_6 : decode cX12_judge 6 = .ok (.iconst 1, 1) := dc0 dO_4 (by decide +kernel)
theorem dX12_judge_7 : decode cX12_judge 7 = .ok (.isub, 1) := dc0 dO_100 (by decide +kernel)
theorem dX12_judge_8 : decode cX12_judge 8 = .ok (.invokestatic 18, 3) := dcU2 dO_184 (by decide +kernel)
theorem dX12_judge_11 : decode cX12_judge 11 = .ok (.ifCond .eq 30, 3) := dcS2 dO_153 (by decide +kernel)
theorem dX12_judge_14 : decode cX12_judge 14 = .ok (.aload_n 0, 1) := dc0 dO_42 (by decide +kernel)
theorem dX12_judge_15 : decode cX12_judge 15 = .ok (.iload_n 2, 1) := dc0 dO_28 (by decide +kernel)
theorem dX12_judge_16 : decode cX12_judge 16 = .ok (.invokevirtual 49, 3) := dcU2 dO_182 (by decide +kernel)
theorem dX12_judge_19 : decode cX12_judge 19 = .ok (.ifCond .eq 22, 3) := dcS2 dO_153 (by decide +kernel)
theorem dX12_judge_22 : decode cX12_judge 22 = .ok (.aload_n 0, 1) := dc0 dO_42 (by decide +kernel)
theorem dX12_judge_23 : decode cX12_judge 23 = .ok (.iload_n 3, 1) := dc0 dO_29 (by decide +kernel)
theorem dX12_judge_24 : decode cX12_judge 24 = .ok (.invokevirtual 49, 3) := dcU2 dO_182 (by decide +kernel)
theorem dX12_judge_27 : decode cX12_judge 27 = .ok (.ifCond .eq 14, 3) := dcS2 dO_153 (by decide +kernel)
theorem dX12_judge_30 : decode cX12_judge 30 = .ok (.aload_n 0, 1) := dc0 dO_42 (by decide +kernel)
theorem dX12_judge_31 : decode cX12_judge 31 = .ok (.iload_n 2, 1) := dc0 dO_28 (by decide +kernel)
theorem dX12_judge_32 : decode cX12_judge 32 = .ok (.iload_n 3, 1) := dc0 dO_29 (by decide +kernel)
theorem dX12_judge_33 : decode cX12_judge 33 = .ok (.invokevirtual 43, 3) := dcU2 dO_182 (by decide +kernel)
theorem dX12_judge_36 : decode cX12_judge 36 = .ok (.ldc 29, 2) := dcU1 dO_18 (by decide +kernel)
theorem dX12_judge_38 : decode cX12_judge 38 = .ok (.if_icmp .ne 5, 3) := dcS2 dO_160 (by decide +kernel)
theorem dX12_judge_41 : decode cX12_judge 41 = .ok (.iconst (-1), 1) := dc0 dO_2 (by decide +kernel)
theorem dX12_judge_42 : decode cX12_judge 42 = .ok (.ireturn, 1) := dc0 dO_172 (by decide +kernel)
theorem dX12_judge_43 : decode cX12_judge 43 = .ok (.aload_n 0, 1) := dc0 dO_42 (by decide +kernel)
theorem dX12_judge_44 : decode cX12_judge 44 = .ok (.getfield 411, 3) := dcU2 dO_180 (by decide +kernel)
theorem dX12_judge_47 : decode cX12_judge 47 = .ok (.ifCond .ne 6, 3) := dcS2 dO_154 (by decide +kernel)
theorem dX12_judge_50 : decode cX12_judge 50 = .ok (.bipush (-2), 2) := dcS1 dO_16 (by decide +kernel)
theorem dX12_judge_52 : decode cX12_judge 52 = .ok (.ireturn, 1) := dc0 dO_172 (by decide +kernel)
theorem dX12_judge_53 : decode cX12_judge 53 = .ok (.aload_n 0, 1) := dc0 dO_42 (by decide +kernel)
theorem dX12_judge_54 : decode cX12_judge 54 = .ok (.iload_n 1, 1) := dc0 dO_27 (by decide +kernel)
theorem dX12_judge_55 : decode cX12_judge 55 = .ok (.iconst 0, 1) := dc0 dO_3 (by decide +kernel)
theorem dX12_judge_56 : decode cX12_judge 56 = .ok (.iload_n 2, 1) := dc0 dO_28 (by decide +kernel)
theorem dX12_judge_57 : decode cX12_judge 57 = .ok (.iload_n 3, 1) := dc0 dO_29 (by decide +kernel)
theorem dX12_judge_58 : decode cX12_judge 58 = .ok (.invokevirtual 414, 3) := dcU2 dO_182 (by decide +kernel)
theorem dX12_judge_61 : decode cX12_judge 61 = .ok (.ifCond .eq 7, 3) := dcS2 dO_153 (by decide +kernel)
theorem dX12_judge_64 : decode cX12_judge 64 = .ok (.iconst 1, 1) := dc0 dO_4 (by decide +kernel)
theorem dX12_judge_65 : decode cX12_judge 65 = .ok (.goto 4, 3) := dcS2 dO_167 (by decide +kernel)
theorem dX12_judge_68 : decode cX12_judge 68 = .ok (.iconst 0, 1) := dc0 dO_3 (by decide +kernel)
theorem dX12_judge_69 : decode cX12_judge 69 = .ok (.ireturn, 1) := dc0 dO_172 (by decide +kernel)
theorem dX12_letter_0 : decode cX12_letter 0 = .ok (.aload_n 0, 1) := dc0 dO_42 (by decide +kernel)
theorem dX12_letter_1 : decode cX12_letter 1 = .ok (.iload_n 1, 1) := dc0 dO_27 (by decide +kernel)
theorem dX12_letter_2 : decode cX12_letter 2 = .ok (.invokevirtual 49, 3) := dcU2 dO_182 (by decide +kernel)
theorem dX12_letter_5 : decode cX12_letter 5 = .ok (.ifCond .ne 5, 3) := dcS2 dO_154 (by decide +kernel)
theorem dX12_letter_8 : decode cX12_letter 8 = .ok (.iconst (-1), 1) := dc0 dO_2 (by decide +kernel)
theorem dX12_letter_9 : decode cX12_letter 9 = .ok (.ireturn, 1) := dc0 dO_172 (by decide +kernel)
theorem dX12_letter_10 : decode cX12_letter 10 = .ok (.aload_n 0, 1) := dc0 dO_42 (by decide +kernel)
theorem dX12_letter_11 : decode cX12_letter 11 = .ok (.iload_n 1, 1) := dc0 dO_27 (by decide +kernel)
theorem dX12_letter_12 : decode cX12_letter 12 = .ok (.iload_n 2, 1) := dc0 dO_28 (by decide +kernel)
theorem dX12_letter_13 : decode cX12_letter 13 = .ok (.invokevirtual 689, 3) := dcU2 dO_182 (by decide +kernel)
theorem dX12_letter_16 : decode cX12_letter 16 = .ok (.istore_n 3, 1) := dc0 dO_62 (by decide +kernel)
theorem dX12_letter_17 : decode cX12_letter 17 = .ok (.aload_n 0, 1) := dc0 dO_42 (by decide +kernel)
theorem dX12_letter_18 : decode cX12_letter 18 = .ok (.aload_n 0, 1) := dc0 dO_42 (by decide +kernel)
theorem dX12_letter_19 : decode cX12_letter 19 = .ok (.getfield 683, 3) := dcU2 dO_180 (by decide +kernel)
theorem dX12_letter_22 : decode cX12_letter 22 = .ok (.putfield 692, 3) := dcU2 dO_181 (by decide +kernel)
theorem dX12_letter_25 : decode cX12_letter 25 = .ok (.iconst 0, 1) := dc0 dO_3 (by decide +kernel)
theorem dX12_letter_26 : decode cX12_letter 26 = .ok (.istore 4, 2) := dcU1 dO_54 (by decide +kernel)
theorem dX12_letter_28 : decode cX12_letter 28 = .ok (.iload 4, 2) := dcU1 dO_21 (by decide +kernel)
theorem dX12_letter_30 : decode cX12_letter 30 = .ok (.aload_n 0, 1) := dc0 dO_42 (by decide +kernel)
theorem dX12_letter_31 : decode cX12_letter 31 = .ok (.getfield 683, 3) := dcU2 dO_180 (by decide +kernel)
theorem dX12_letter_34 : decode cX12_letter 34 = .ok (.if_icmp .ge 23, 3) := dcS2 dO_162 (by decide +kernel)
theorem dX12_letter_37 : decode cX12_letter 37 = .ok (.aload_n 0, 1) := dc0 dO_42 (by decide +kernel)
theorem dX12_letter_38 : decode cX12_letter 38 = .ok (.getfield 490, 3) := dcU2 dO_180 (by decide +kernel)
theorem dX12_letter_41 : decode cX12_letter 41 = .ok (.iload 4, 2) := dcU1 dO_21 (by decide +kernel)
theorem dX12_letter_43 : decode cX12_letter 43 = .ok (.aload_n 0, 1) := dc0 dO_42 (by decide +kernel)
theorem dX12_letter_44 : decode cX12_letter 44 = .ok (.getfield 487, 3) := dcU2 dO_180 (by decide +kernel)
theorem dX12_letter_47 : decode cX12_letter 47 = .ok (.iload 4, 2) := dcU1 dO_21 (by decide +kernel)
theorem dX12_letter_49 : decode cX12_letter 49 = .ok (.iaload, 1) := dc0 dO_46 (by decide +kernel)
theorem dX12_letter_50 : decode cX12_letter 50 = .ok (.iastore, 1) := dc0 dO_79 (by decide +kernel)
theorem dX12_letter_51 : decode cX12_letter 51 = .ok (.iinc 4 1, 3) := dcI dO_132 (by decide +kernel)
theorem dX12_letter_54 : decode cX12_letter 54 = .ok (.goto (-26), 3) := dcS2 dO_167 (by decide +kernel)
theorem dX12_letter_57 : decode cX12_letter 57 = .ok (.iload_n 3, 1) := dc0 dO_29 (by decide +kernel)
theorem dX12_letter_58 : decode cX12_letter 58 = .ok (.ireturn, 1) := dc0 dO_172 (by decide +kernel)
theorem dX12_load_0 : decode cX12_load 0 = .ok (.aload_n 0, 1) := dc0 dO_42 (by decide +kernel)
theorem dX12_load_1 : decode cX12_load 1 = .ok (.iload_n 1, 1) := dc0 dO_27 (by decide +kernel)
theorem dX12_load_2 : decode cX12_load 2 = .ok (.invokevirtual 66, 3) := dcU2 dO_182 (by decide +kernel)
theorem dX12_load_5 : decode cX12_load 5 = .ok (.ifCond .eq 12, 3) := dcS2 dO_153 (by decide +kernel)
theorem dX12_load_8 : decode cX12_load 8 = .ok (.iload_n 2, 1) := dc0 dO_28 (by decide +kernel)
theorem dX12_load_9 : decode cX12_load 9 = .ok (.iconst 0, 1) := dc0 dO_3 (by decide +kernel)
theorem dX12_load_10 : decode cX12_load 10 = .ok (.iconst 1, 1) := dc0 dO_4 (by decide +kernel)
theorem dX12_load_11 : decode cX12_load 11 = .ok (.invokestatic 18, 3) := dcU2 dO_184 (by decide +kernel)
theorem dX12_load_14 : decode cX12_load 14 = .ok (.ifCond .ne 5, 3) := dcS2 dO_154 (by decide +kernel)
theorem dX12_load_17 : decode cX12_load 17 = .ok (.iconst (-1), 1) := dc0 dO_2 (by decide +kernel)
theorem dX12_load_18 : decode cX12_load 18 = .ok (.ireturn, 1) := dc0 dO_172 (by decide +kernel)
theorem dX12_load_19 : decode cX12_load 19 = .ok (.iconst 0, 1) := dc0 dO_3 (by decide +kernel)
theorem dX12_load_20 : decode cX12_load 20 = .ok (.istore_n 3, 1) := dc0 dO_62 (by decide +kernel)
theorem dX12_load_21 : decode cX12_load 21 = .ok (.iconst 0, 1) := dc0 dO_3 (by decide +kernel)
theorem dX12_load_22 : decode cX12_load 22 = .ok (.istore 4, 2) := dcU1 dO_54 (by decide +kernel)
theorem dX12_load_24 : decode cX12_load 24 = .ok (.iload 4, 2) := dcU1 dO_21 (by decide +kernel)
theorem dX12_load_26 : decode cX12_load 26 = .ok (.aload_n 0, 1) := dc0 dO_42 (by decide +kernel)
theorem dX12_load_27 : decode cX12_load 27 = .ok (.getfield 695, 3) := dcU2 dO_180 (by decide +kernel)
theorem dX12_load_30 : decode cX12_load 30 = .ok (.if_icmp .ge 102, 3) := dcS2 dO_162 (by decide +kernel)
theorem dX12_load_33 : decode cX12_load 33 = .ok (.aload_n 0, 1) := dc0 dO_42 (by decide +kernel)
theorem dX12_load_34 : decode cX12_load 34 = .ok (.aload_n 0, 1) := dc0 dO_42 (by decide +kernel)
theorem dX12_load_35 : decode cX12_load 35 = .ok (.getfield 493, 3) := dcU2 dO_180 (by decide +kernel)
theorem dX12_load_38 : decode cX12_load 38 = .ok (.iload 4, 2) := dcU1 dO_21 (by decide +kernel)
theorem dX12_load_40 : decode cX12_load 40 = .ok (.iaload, 1) := dc0 dO_46 (by decide +kernel)
theorem dX12_load_41 : decode cX12_load 41 = .ok (.aload_n 0, 1) := dc0 dO_42 (by decide +kernel)
theorem dX12_load_42 : decode cX12_load 42 = .ok (.getfield 496, 3) := dcU2 dO_180 (by decide +kernel)
theorem dX12_load_45 : decode cX12_load 45 = .ok (.iload 4, 2) := dcU1 dO_21 (by decide +kernel)
theorem dX12_load_47 : decode cX12_load 47 = .ok (.iaload, 1) := dc0 dO_46 (by decide +kernel)
theorem dX12_load_48 : decode cX12_load 48 = .ok (.invokevirtual 689, 3) := dcU2 dO_182 (by decide +kernel)
theorem dX12_load_51 : decode cX12_load 51 = .ok (.pop, 1) := dc0 dO_87 (by decide +kernel)
theorem dX12_load_52 : decode cX12_load 52 = .ok (.iconst 0, 1) := dc0 dO_3 (by decide +kernel)
theorem dX12_load_53 : decode cX12_load 53 = .ok (.istore 5, 2) := dcU1 dO_54 (by decide +kernel)
theorem dX12_load_55 : decode cX12_load 55 = .ok (.iload 5, 2) := dcU1 dO_21 (by decide +kernel)
theorem dX12_load_57 : decode cX12_load 57 = .ok (.iconst 1, 1) := dc0 dO_4 (by decide +kernel)
theorem dX12_load_58 : decode cX12_load 58 = .ok (.iadd, 1) := dc0 dO_96 (by decide +kernel)
theorem dX12_load_59 : decode cX12_load 59 = .ok (.aload_n 0, 1) := dc0 dO_42 (by decide +kernel)
theorem dX12_load_60 : decode cX12_load 60 = .ok (.getfield 683, 3) := dcU2 dO_180 (by decide +kernel)
theorem dX12_load_63 : decode cX12_load 63 = .ok (.if_icmp .ge 63, 3) := dcS2 dO_162 (by decide +kernel)
theorem dX12_load_66 : decode cX12_load 66 = .ok (.aload_n 0, 1) := dc0 dO_42 (by decide +kernel)
theorem dX12_load_67 : decode cX12_load 67 = .ok (.getfield 487, 3) := dcU2 dO_180 (by decide +kernel)
theorem dX12_load_70 : decode cX12_load 70 = .ok (.iload 5, 2) := dcU1 dO_21 (by decide +kernel)
theorem dX12_load_72 : decode cX12_load 72 = .ok (.iaload, 1) := dc0 dO_46 (by decide +kernel)
theorem dX12_load_73 : decode cX12_load 73 = .ok (.aload_n 0, 1) := dc0 dO_42 (by decide +kernel)
theorem dX12_load_74 : decode cX12_load 74 = .ok (.getfield 40, 3) := dcU2 dO_180 (by decide +kernel)
theorem dX12_load_77 : decode cX12_load 77 = .ok (.iconst 2, 1) := dc0 dO_5 (by decide +kernel)
theorem dX12_load_78 : decode cX12_load 78 = .ok (.iload_n 1, 1) := dc0 dO_27 (by decide +kernel)
theorem dX12_load_79 : decode cX12_load 79 = .ok (.imul, 1) := dc0 dO_104 (by decide +kernel)
theorem dX12_load_80 : decode cX12_load 80 = .ok (.iload_n 2, 1) := dc0 dO_28 (by decide +kernel)
theorem dX12_load_81 : decode cX12_load 81 = .ok (.iadd, 1) := dc0 dO_96 (by decide +kernel)
theorem dX12_load_82 : decode cX12_load 82 = .ok (.iaload, 1) := dc0 dO_46 (by decide +kernel)
theorem dX12_load_83 : decode cX12_load 83 = .ok (.if_icmp .ne 37, 3) := dcS2 dO_160 (by decide +kernel)
theorem dX12_load_86 : decode cX12_load 86 = .ok (.aload_n 0, 1) := dc0 dO_42 (by decide +kernel)
theorem dX12_load_87 : decode cX12_load 87 = .ok (.getfield 487, 3) := dcU2 dO_180 (by decide +kernel)
theorem dX12_load_90 : decode cX12_load 90 = .ok (.iload 5, 2) := dcU1 dO_21 (by decide +kernel)
theorem dX12_load_92 : decode cX12_load 92 = .ok (.iconst 1, 1) := dc0 dO_4 (by decide +kernel)
theorem dX12_load_93 : decode cX12_load 93 = .ok (.iadd, 1) := dc0 dO_96 (by decide +kernel)
theorem dX12_load_94 : decode cX12_load 94 = .ok (.iaload, 1) := dc0 dO_46 (by decide +kernel)
theorem dX12_load_95 : decode cX12_load 95 = .ok (.aload_n 0, 1) := dc0 dO_42 (by decide +kernel)
theorem dX12_load_96 : decode cX12_load 96 = .ok (.getfield 40, 3) := dcU2 dO_180 (by decide +kernel)
theorem dX12_load_99 : decode cX12_load 99 = .ok (.iconst 2, 1) := dc0 dO_5 (by decide +kernel)
theorem dX12_load_100 : decode cX12_load 100 = .ok (.iload_n 1, 1) := dc0 dO_27 (by decide +kernel)
theorem dX12_load_101 : decode cX12_load 101 = .ok (.imul, 1) := dc0 dO_104 (by decide +kernel)
theorem dX12_load_102 : decode cX12_load 102 = .ok (.iconst 1, 1) := dc0 dO_4 (by decide +kernel)
theorem dX12_load_103 : decode cX12_load 103 = .ok (.iadd, 1) := dc0 dO_96 (by decide +kernel)
theorem dX12_load_104 : decode cX12_load 104 = .ok (.iload_n 2, 1) := dc0 dO_28 (by decide +kernel)
theorem dX12_load_105 : decode cX12_load 105 = .ok (.isub, 1) := dc0 dO_100 (by decide +kernel)
theorem dX12_load_106 : decode cX12_load 106 = .ok (.iaload, 1) := dc0 dO_46 (by decide +kernel)
theorem dX12_load_107 : decode cX12_load 107 = .ok (.if_icmp .ne 13, 3) := dcS2 dO_160 (by decide +kernel)
theorem dX12_load_110 : decode cX12_load 110 = .ok (.iload_n 3, 1) := dc0 dO_29 (by decide +kernel)
theorem dX12_load_111 : decode cX12_load 111 = .ok (.aload_n 0, 1) := dc0 dO_42 (by decide +kernel)
theorem dX12_load_112 : decode cX12_load 112 = .ok (.getfield 499, 3) := dcU2 dO_180 (by decide +kernel)
theorem dX12_load_115 : decode cX12_load 115 = .ok (.iload 4, 2) := dcU1 dO_21 (by decide +kernel)
theorem dX12_load_117 : decode cX12_load 117 = .ok (.iaload, 1) := dc0 dO_46 (by decide +kernel)
theorem dX12_load_118 : decode cX12_load 118 = .ok (.iadd, 1) := dc0 dO_96 (by decide +kernel)
theorem dX12_load_119 : decode cX12_load 119 = .ok (.istore_n 3, 1) := dc0 dO_62 (by decide +kernel)
theorem dX12_load_120 : decode cX12_load 120 = .ok (.iinc 5 1, 3) := dcI dO_132 (by decide +kernel)
theorem dX12_load_123 : decode cX12_load 123 = .ok (.goto (-68), 3) := dcS2 dO_167 (by decide +kernel)
theorem dX12_load_126 : decode cX12_load 126 = .ok (.iinc 4 1, 3) := dcI dO_132 (by decide +kernel)
theorem sfx_cX12_load_128 : (cX12_load.data.toList.drop 128).take 67 = [1, 167, 255, 151, 29, 172] := by decide +kernel
theorem dX12_load_129 : decode cX12_load 129 = .ok (.goto (-105), 3) := dcS2 dO_167 (rdS2.ch sfx_cX12_load_128 1 rfl (by decide +kernel))
theorem dX12_load_132 : decode cX12_load 132 = .ok (.iload_n 3, 1) := dc0 dO_29 (rdB.ch sfx_cX12_load_128 4 rfl (by decide +kernel))
theorem dX12_load_133 : decode cX12_load 133 = .ok (.ireturn, 1) := dc0 dO_172 (rdB.ch sfx_cX12_load_128 5 rfl (by decide +kernel))
theorem dX12_rule_0 : decode cX12_rule 0 = .ok (.aload_n 0, 1) := dc0 dO_42 (by decide +kernel)
theorem dX12_rule_1 : decode cX12_rule 1 = .ok (.iload_n 1, 1) := dc0 dO_27 (by decide +kernel)
theorem dX12_rule_2 : decode cX12_rule 2 = .ok (.invokevirtual 49, 3) := dcU2 dO_182 (by decide +kernel)
theorem dX12_rule_5 : decode cX12_rule 5 = .ok (.ifCond .eq 7, 3) := dcS2 dO_153 (by decide +kernel)
theorem dX12_rule_8 : decode cX12_rule 8 = .ok (.iload_n 2, 1) := dc0 dO_28 (by decide +kernel)
theorem dX12_rule_9 : decode cX12_rule 9 = .ok (.ifCond .ge 5, 3) := dcS2 dO_156 (by decide +kernel)
theorem dX12_rule_12 : decode cX12_rule 12 = .ok (.iconst (-1), 1) := dc0 dO_2 (by decide +kernel)
theorem dX12_rule_13 : decode cX12_rule 13 = .ok (.ireturn, 1) := dc0 dO_172 (by decide +kernel)
theorem dX12_rule_14 : decode cX12_rule 14 = .ok (.iconst 0, 1) := dc0 dO_3 (by decide +kernel)
theorem dX12_rule_15 : decode cX12_rule 15 = .ok (.istore 4, 2) := dcU1 dO_54 (by decide +kernel)
theorem dX12_rule_17 : decode cX12_rule 17 = .ok (.iconst 0, 1) := dc0 dO_3 (by decide +kernel)
theorem dX12_rule_18 : decode cX12_rule 18 = .ok (.istore 5, 2) := dcU1 dO_54 (by decide +kernel)
theorem dX12_rule_20 : decode cX12_rule 20 = .ok (.iload_n 2, 1) := dc0 dO_28 (by decide +kernel)
theorem dX12_rule_21 : decode cX12_rule 21 = .ok (.istore 6, 2) := dcU1 dO_54 (by decide +kernel)
theorem dX12_rule_23 : decode cX12_rule 23 = .ok (.iload 6, 2) := dcU1 dO_21 (by decide +kernel)
theorem dX12_rule_25 : decode cX12_rule 25 = .ok (.ifCond .le 56, 3) := dcS2 dO_158 (by decide +kernel)
theorem dX12_rule_28 : decode cX12_rule 28 = .ok (.iload 6, 2) := dcU1 dO_21 (by decide +kernel)
theorem dX12_rule_30 : decode cX12_rule 30 = .ok (.bipush 10, 2) := dcS1 dO_16 (by decide +kernel)
theorem dX12_rule_32 : decode cX12_rule 32 = .ok (.irem, 1) := dc0 dO_112 (by decide +kernel)
theorem dX12_rule_33 : decode cX12_rule 33 = .ok (.istore 7, 2) := dcU1 dO_54 (by decide +kernel)
theorem dX12_rule_35 : decode cX12_rule 35 = .ok (.iload 7, 2) := dcU1 dO_21 (by decide +kernel)
theorem dX12_rule_37 : decode cX12_rule 37 = .ok (.iconst 1, 1) := dc0 dO_4 (by decide +kernel)
theorem dX12_rule_38 : decode cX12_rule 38 = .ok (.bipush 6, 2) := dcS1 dO_16 (by decide +kernel)
theorem dX12_rule_40 : decode cX12_rule 40 = .ok (.invokestatic 18, 3) := dcU2 dO_184 (by decide +kernel)
theorem dX12_rule_43 : decode cX12_rule 43 = .ok (.ifCond .eq 14, 3) := dcS2 dO_153 (by decide +kernel)
theorem dX12_rule_46 : decode cX12_rule 46 = .ok (.iload 4, 2) := dcU1 dO_21 (by decide +kernel)
theorem dX12_rule_48 : decode cX12_rule 48 = .ok (.iload 7, 2) := dcU1 dO_21 (by decide +kernel)
theorem dX12_rule_50 : decode cX12_rule 50 = .ok (.ishr, 1) := dc0 dO_122 (by decide +kernel)
theorem dX12_rule_51 : decode cX12_rule 51 = .ok (.iconst 1, 1) := dc0 dO_4 (by decide +kernel)
theorem dX12_rule_52 : decode cX12_rule 52 = .ok (.iand, 1) := dc0 dO_126 (by decide +kernel)
theorem dX12_rule_53 : decode cX12_rule 53 = .ok (.iconst 1, 1) := dc0 dO_4 (by decide +kernel)
theorem dX12_rule_54 : decode cX12_rule 54 = .ok (.if_icmp .ne 5, 3) := dcS2 dO_160 (by decide +kernel)
theorem dX12_rule_57 : decode cX12_rule 57 = .ok (.iconst (-1), 1) := dc0 dO_2 (by decide +kernel)
theorem dX12_rule_58 : decode cX12_rule 58 = .ok (.ireturn, 1) := dc0 dO_172 (by decide +kernel)
theorem dX12_rule_59 : decode cX12_rule 59 = .ok (.iload 4, 2) := dcU1 dO_21 (by decide +kernel)
theorem dX12_rule_61 : decode cX12_rule 61 = .ok (.iconst 1, 1) := dc0 dO_4 (by decide +kernel)
theorem dX12_rule_62 : decode cX12_rule 62 = .ok (.iload 7, 2) := dcU1 dO_21 (by decide +kernel)
theorem dX12_rule_64 : decode cX12_rule 64 = .ok (.ishl, 1) := dc0 dO_120 (by decide +kernel)
theorem dX12_rule_65 : decode cX12_rule 65 = .ok (.ior, 1) := dc0 dO_128 (by decide +kernel)
theorem dX12_rule_66 : decode cX12_rule 66 = .ok (.istore 4, 2) := dcU1 dO_54 (by decide +kernel)
theorem dX12_rule_68 : decode cX12_rule 68 = .ok (.iinc 5 1, 3) := dcI dO_132 (by decide +kernel)
theorem dX12_rule_71 : decode cX12_rule 71 = .ok (.iload 6, 2) := dcU1 dO_21 (by decide +kernel)
theorem dX12_rule_73 : decode cX12_rule 73 = .ok (.bipush 10, 2) := dcS1 dO_16 (by decide +kernel)
theorem dX12_rule_75 : decode cX12_rule 75 = .ok (.idiv, 1) := dc0 dO_108 (by decide +kernel)
theorem dX12_rule_76 : decode cX12_rule 76 = .ok (.istore 6, 2) := dcU1 dO_54 (by decide +kernel)
theorem dX12_rule_78 : decode cX12_rule 78 = .ok (.goto (-55), 3) := dcS2 dO_167 (by decide +kernel)
theorem dX12_rule_81 : decode cX12_rule 81 = .ok (.iconst 0, 1) := dc0 dO_3 (by decide +kernel)
theorem dX12_rule_82 : decode cX12_rule 82 = .ok (.istore 6, 2) := dcU1 dO_54 (by decide +kernel)
theorem dX12_rule_84 : decode cX12_rule 84 = .ok (.iload 6, 2) := dcU1 dO_21 (by decide +kernel)
theorem dX12_rule_86 : decode cX12_rule 86 = .ok (.bipush 6, 2) := dcS1 dO_16 (by decide +kernel)
theorem dX12_rule_88 : decode cX12_rule 88 = .ok (.if_icmp .ge 22, 3) := dcS2 dO_162 (by decide +kernel)
theorem dX12_rule_91 : decode cX12_rule 91 = .ok (.aload_n 0, 1) := dc0 dO_42 (by decide +kernel)
theorem dX12_rule_92 : decode cX12_rule 92 = .ok (.getfield 451, 3) := dcU2 dO_180 (by decide +kernel)
theorem dX12_rule_95 : decode cX12_rule 95 = .ok (.bipush 6, 2) := dcS1 dO_16 (by decide +kernel)
theorem dX12_rule_97 : decode cX12_rule 97 = .ok (.iload_n 1, 1) := dc0 dO_27 (by decide +kernel)
theorem dX12_rule_98 : decode cX12_rule 98 = .ok (.imul, 1) := dc0 dO_104 (by decide +kernel)
theorem dX12_rule_99 : decode cX12_rule 99 = .ok (.iload 6, 2) := dcU1 dO_21 (by decide +kernel)
theorem dX12_rule_101 : decode cX12_rule 101 = .ok (.iadd, 1) := dc0 dO_96 (by decide +kernel)
theorem dX12_rule_102 : decode cX12_rule 102 = .ok (.iconst 0, 1) := dc0 dO_3 (by decide +kernel)
theorem dX12_rule_103 : decode cX12_rule 103 = .ok (.iastore, 1) := dc0 dO_79 (by decide +kernel)
theorem dX12_rule_104 : decode cX12_rule 104 = .ok (.iinc 6 1, 3) := dcI dO_132 (by decide +kernel)
theorem dX12_rule_107 : decode cX12_rule 107 = .ok (.goto (-23), 3) := dcS2 dO_167 (by decide +kernel)
theorem dX12_rule_110 : decode cX12_rule 110 = .ok (.iload_n 2, 1) := dc0 dO_28 (by decide +kernel)
theorem dX12_rule_111 : decode cX12_rule 111 = .ok (.istore 6, 2) := dcU1 dO_54 (by decide +kernel)
theorem dX12_rule_113 : decode cX12_rule 113 = .ok (.iload 5, 2) := dcU1 dO_21 (by decide +kernel)
theorem dX12_rule_115 : decode cX12_rule 115 = .ok (.iconst 1, 1) := dc0 dO_4 (by decide +kernel)
theorem dX12_rule_116 : decode cX12_rule 116 = .ok (.isub, 1) := dc0 dO_100 (by decide +kernel)
theorem dX12_rule_117 : decode cX12_rule 117 = .ok (.istore 7, 2) := dcU1 dO_54 (by decide +kernel)
theorem dX12_rule_119 : decode cX12_rule 119 = .ok (.iload 7, 2) := dcU1 dO_21 (by decide +kernel)
theorem dX12_rule_121 : decode cX12_rule 121 = .ok (.ifCond .lt 33, 3) := dcS2 dO_155 (by decide +kernel)
theorem dX12_rule_124 : decode cX12_rule 124 = .ok (.aload_n 0, 1) := dc0 dO_42 (by decide +kernel)
theorem dX12_rule_125 : decode cX12_rule 125 = .ok (.getfield 451, 3) := dcU2 dO_180 (by decide +kernel)
theorem sfx_cX12_rule_128 : (cX12_rule.data.toList.drop 128).take 67 = [16, 6, 27, 104, 21, 7, 96, 21, 6, 16, 10, 112, 79, 21, 6, 16, 10, 108, 54, 6, 132, 7, 255, 167, 255, 224, 42, 180, 1, 198, 27, 29, 84, 42, 27, 182, 2, 88, 3, 172] := by decide +kernel
theorem dX12_rule_128 : decode cX12_rule 128 = .ok (.bipush 6, 2) := dcS1 dO_16 (rdS1.ch sfx_cX12_rule_128 0 rfl (by decide +kernel))
theorem dX12_rule_130 : decode cX12_rule 130 = .ok (.iload_n 1, 1) := dc0 dO_27 (rdB.ch sfx_cX12_rule_128 2 rfl (by decide +kernel))
theorem dX12_rule_131 : decode cX12_rule 131 = .ok (.imul, 1) := dc0 dO_104 (rdB.ch sfx_cX12_rule_128 3 rfl (by decide +kernel))
theorem dX12_rule_132 : decode cX12_rule 132 = .ok (.iload 7, 2) := dcU1 dO_21 (rdU1.ch sfx_cX12_rule_128 4 rfl (by decide +kernel))
theorem dX12_rule_134 : decode cX12_rule 134 = .ok (.iadd, 1) := dc0 dO_96 (rdB.ch sfx_cX12_rule_128 6 rfl (by decide +kernel))
theorem dX12_rule_135 : decode cX12_rule 135 = .ok (.iload 6, 2) := dcU1 dO_21 (rdU1.ch sfx_cX12_rule_128 7 rfl (by decide +kernel))
theorem dX12_rule_137 : decode cX12_rule 137 = .ok (.bipush 10, 2) := dcS1 dO_16 (rdS1.ch sfx_cX12_rule_128 9 rfl (by decide +kernel))
theorem dX12_rule_139 : decode cX12_rule 139 = .ok (.irem, 1) := dc0 dO_112 (rdB.ch sfx_cX12_rule_128 11 rfl (by decide +kernel))
theorem dX12_rule_140 : decode cX12_rule 140 = .ok (.iastore, 1) := dc0 dO_79 (rdB.ch sfx_cX12_rule_128 12 rfl (by decide +kernel))
theorem dX12_rule_141 : decode cX12_rule 141 = .ok (.iload 6, 2) := dcU1 dO_21 (rdU1.ch sfx_cX12_rule_128 13 rfl (by decide +kernel))
theorem dX12_rule_143 : decode cX12_rule 143 = .ok (.bipush 10, 2) := dcS1 dO_16 (rdS1.ch sfx_cX12_rule_128 15 rfl (by decide +kernel))
theorem dX12_rule_145 : decode cX12_rule 145 = .ok (.idiv, 1) := dc0 dO_108 (rdB.ch sfx_cX12_rule_128 17 rfl (by decide +kernel))
theorem dX12_rule_146 : decode cX12_rule 146 = .ok (.istore 6, 2) := dcU1 dO_54 (rdU1.ch sfx_cX12_rule_128 18 rfl (by decide +kernel))
theorem dX12_rule_148 : decode cX12_rule 148 = .ok (.iinc 7 (-1), 3) := dcI dO_132 (rdI.ch sfx_cX12_rule_128 20 rfl (by decide +kernel))
theorem dX12_rule_151 : decode cX12_rule 151 = .ok (.goto (-32), 3) := dcS2 dO_167 (rdS2.ch sfx_cX12_rule_128 23 rfl (by decide +kernel))
theorem dX12_rule_154 : decode cX12_rule 154 = .ok (.aload_n 0, 1) := dc0 dO_42 (rdB.ch sfx_cX12_rule_128 26 rfl (by decide +kernel))
theorem dX12_rule_155 : decode cX12_rule 155 = .ok (.getfield 454, 3) := dcU2 dO_180 (rdU2.ch sfx_cX12_rule_128 27 rfl (by decide +kernel))
theorem dX12_rule_158 : decode cX12_rule 158 = .ok (.iload_n 1, 1) := dc0 dO_27 (rdB.ch sfx_cX12_rule_128 30 rfl (by decide +kernel))
theorem dX12_rule_159 : decode cX12_rule 159 = .ok (.iload_n 3, 1) := dc0 dO_29 (rdB.ch sfx_cX12_rule_128 31 rfl (by decide +kernel))
theorem dX12_rule_160 : decode cX12_rule 160 = .ok (.bastore, 1) := dc0 dO_84 (rdB.ch sfx_cX12_rule_128 32 rfl (by decide +kernel))
theorem dX12_rule_161 : decode cX12_rule 161 = .ok (.aload_n 0, 1) := dc0 dO_42 (rdB.ch sfx_cX12_rule_128 33 rfl (by decide +kernel))
theorem dX12_rule_162 : decode cX12_rule 162 = .ok (.iload_n 1, 1) := dc0 dO_27 (rdB.ch sfx_cX12_rule_128 34 rfl (by decide +kernel))
theorem dX12_rule_163 : decode cX12_rule 163 = .ok (.invokevirtual 600, 3) := dcU2 dO_182 (rdU2.ch sfx_cX12_rule_128 35 rfl (by decide +kernel))
theorem dX12_rule_166 : decode cX12_rule 166 = .ok (.iconst 0, 1) := dc0 dO_3 (rdB.ch sfx_cX12_rule_128 38 rfl (by decide +kernel))
theorem dX12_rule_167 : decode cX12_rule 167 = .ok (.ireturn, 1) := dc0 dO_172 (rdB.ch sfx_cX12_rule_128 39 rfl (by decide +kernel))
theorem dX12_three_0 : decode cX12_three 0 = .ok (.aload_n 0, 1) := dc0 dO_42 (by decide +kernel)
theorem dX12_three_1 : decode cX12_three 1 = .ok (.iload_n 1, 1) := dc0 dO_27 (by decide +kernel)
theorem dX12_three_2 : decode cX12_three 2 = .ok (.invokevirtual 49, 3) := dcU2 dO_182 (by decide +kernel)
theorem dX12_three_5 : decode cX12_three 5 = .ok (.ifCond .eq 11, 3) := dcS2 dO_153 (by decide +kernel)
theorem dX12_three_8 : decode cX12_three 8 = .ok (.aload_n 0, 1) := dc0 dO_42 (by decide +kernel)
theorem dX12_three_9 : decode cX12_three 9 = .ok (.iload_n 2, 1) := dc0 dO_28 (by decide +kernel)
theorem dX12_three_10 : decode cX12_three 10 = .ok (.invokevirtual 92, 3) := dcU2 dO_182 (by decide +kernel)
theorem dX12_three_13 : decode cX12_three 13 = .ok (.ifCond .ne 5, 3) := dcS2 dO_154 (by decide +kernel)
theorem dX12_three_16 : decode cX12_three 16 = .ok (.iconst (-1), 1) := dc0 dO_2 (by decide +kernel)
theorem dX12_three_17 : decode cX12_three 17 = .ok (.ireturn, 1) := dc0 dO_172 (by decide +kernel)
theorem dX12_three_18 : decode cX12_three 18 = .ok (.aload_n 0, 1) := dc0 dO_42 (by decide +kernel)
theorem dX12_three_19 : decode cX12_three 19 = .ok (.getfield 448, 3) := dcU2 dO_180 (by decide +kernel)
theorem dX12_three_22 : decode cX12_three 22 = .ok (.bipush 10, 2) := dcS1 dO_16 (by decide +kernel)
theorem dX12_three_24 : decode cX12_three 24 = .ok (.iload_n 1, 1) := dc0 dO_27 (by decide +kernel)
theorem dX12_three_25 : decode cX12_three 25 = .ok (.imul, 1) := dc0 dO_104 (by decide +kernel)
theorem dX12_three_26 : decode cX12_three 26 = .ok (.iload_n 2, 1) := dc0 dO_28 (by decide +kernel)
theorem dX12_three_27 : decode cX12_three 27 = .ok (.iadd, 1) := dc0 dO_96 (by decide +kernel)
theorem dX12_three_28 : decode cX12_three 28 = .ok (.iaload, 1) := dc0 dO_46 (by decide +kernel)
theorem dX12_three_29 : decode cX12_three 29 = .ok (.ifCond .ge 12, 3) := dcS2 dO_156 (by decide +kernel)
theorem dX12_three_32 : decode cX12_three 32 = .ok (.iload_n 3, 1) := dc0 dO_29 (by decide +kernel)
theorem dX12_three_33 : decode cX12_three 33 = .ok (.iconst 0, 1) := dc0 dO_3 (by decide +kernel)
theorem dX12_three_34 : decode cX12_three 34 = .ok (.iconst 2, 1) := dc0 dO_5 (by decide +kernel)
theorem dX12_three_35 : decode cX12_three 35 = .ok (.invokestatic 18, 3) := dcU2 dO_184 (by decide +kernel)
theorem dX12_three_38 : decode cX12_three 38 = .ok (.ifCond .ne 6, 3) := dcS2 dO_154 (by decide +kernel)
theorem dX12_three_41 : decode cX12_three 41 = .ok (.ldc 29, 2) := dcU1 dO_18 (by decide +kernel)
theorem dX12_three_43 : decode cX12_three 43 = .ok (.ireturn, 1) := dc0 dO_172 (by decide +kernel)
theorem dX12_three_44 : decode cX12_three 44 = .ok (.aload_n 0, 1) := dc0 dO_42 (by decide +kernel)
theorem dX12_three_45 : decode cX12_three 45 = .ok (.iload_n 1, 1) := dc0 dO_27 (by decide +kernel)
theorem dX12_three_46 : decode cX12_three 46 = .ok (.iload_n 2, 1) := dc0 dO_28 (by decide +kernel)
theorem dX12_three_47 : decode cX12_three 47 = .ok (.invokevirtual 572, 3) := dcU2 dO_182 (by decide +kernel)
theorem dX12_three_50 : decode cX12_three 50 = .ok (.iconst 0, 1) := dc0 dO_3 (by decide +kernel)
theorem dX12_three_51 : decode cX12_three 51 = .ok (.istore 4, 2) := dcU1 dO_54 (by decide +kernel)
theorem dX12_three_53 : decode cX12_three 53 = .ok (.iload 4, 2) := dcU1 dO_21 (by decide +kernel)
theorem dX12_three_55 : decode cX12_three 55 = .ok (.aload_n 0, 1) := dc0 dO_42 (by decide +kernel)
theorem dX12_three_56 : decode cX12_three 56 = .ok (.getfield 37, 3) := dcU2 dO_180 (by decide +kernel)
theorem dX12_three_59 : decode cX12_three 59 = .ok (.if_icmp .ge 166, 3) := dcS2 dO_162 (by decide +kernel)
theorem dX12_three_62 : decode cX12_three 62 = .ok (.iconst 0, 1) := dc0 dO_3 (by decide +kernel)
theorem dX12_three_63 : decode cX12_three 63 = .ok (.istore 5, 2) := dcU1 dO_54 (by decide +kernel)
theorem dX12_three_65 : decode cX12_three 65 = .ok (.iload 5, 2) := dcU1 dO_21 (by decide +kernel)
theorem dX12_three_67 : decode cX12_three 67 = .ok (.aload_n 0, 1) := dc0 dO_42 (by decide +kernel)
theorem dX12_three_68 : decode cX12_three 68 = .ok (.getfield 37, 3) := dcU2 dO_180 (by decide +kernel)
theorem dX12_three_71 : decode cX12_three 71 = .ok (.if_icmp .ge 148, 3) := dcS2 dO_162 (by decide +kernel)
theorem dX12_three_74 : decode cX12_three 74 = .ok (.aload_n 0, 1) := dc0 dO_42 (by decide +kernel)
theorem dX12_three_75 : decode cX12_three 75 = .ok (.iconst 4, 1) := dc0 dO_7 (by decide +kernel)
theorem dX12_three_76 : decode cX12_three 76 = .ok (.iload 4, 2) := dcU1 dO_21 (by decide +kernel)
theorem dX12_three_78 : decode cX12_three 78 = .ok (.iadd, 1) := dc0 dO_96 (by decide +kernel)
theorem dX12_three_79 : decode cX12_three 79 = .ok (.invokevirtual 151, 3) := dcU2 dO_182 (by decide +kernel)
theorem dX12_three_82 : decode cX12_three 82 = .ok (.ifCond .eq 137, 3) := dcS2 dO_153 (by decide +kernel)
theorem dX12_three_85 : decode cX12_three 85 = .ok (.iload 5, 2) := dcU1 dO_21 (by decide +kernel)
theorem dX12_three_87 : decode cX12_three 87 = .ok (.iload 4, 2) := dcU1 dO_21 (by decide +kernel)
theorem dX12_three_89 : decode cX12_three 89 = .ok (.if_icmp .eq 124, 3) := dcS2 dO_159 (by decide +kernel)
theorem dX12_three_92 : decode cX12_three 92 = .ok (.aload_n 0, 1) := dc0 dO_42 (by decide +kernel)
theorem dX12_three_93 : decode cX12_three 93 = .ok (.iconst 4, 1) := dc0 dO_7 (by decide +kernel)
theorem dX12_three_94 : decode cX12_three 94 = .ok (.iload 5, 2) := dcU1 dO_21 (by decide +kernel)
theorem dX12_three_96 : decode cX12_three 96 = .ok (.iadd, 1) := dc0 dO_96 (by decide +kernel)
theorem dX12_three_97 : decode cX12_three 97 = .ok (.invokevirtual 151, 3) := dcU2 dO_182 (by decide +kernel)
theorem dX12_three_100 : decode cX12_three 100 = .ok (.ifCond .eq 113, 3) := dcS2 dO_153 (by decide +kernel)
theorem dX12_three_103 : decode cX12_three 103 = .ok (.aload_n 0, 1) := dc0 dO_42 (by decide +kernel)
theorem dX12_three_104 : decode cX12_three 104 = .ok (.iload_n 1, 1) := dc0 dO_27 (by decide +kernel)
theorem dX12_three_105 : decode cX12_three 105 = .ok (.iload 4, 2) := dcU1 dO_21 (by decide +kernel)
theorem dX12_three_107 : decode cX12_three 107 = .ok (.iload 5, 2) := dcU1 dO_21 (by decide +kernel)
theorem dX12_three_109 : decode cX12_three 109 = .ok (.iload_n 2, 1) := dc0 dO_28 (by decide +kernel)
theorem dX12_three_110 : decode cX12_three 110 = .ok (.invokevirtual 568, 3) := dcU2 dO_182 (by decide +kernel)
theorem dX12_three_113 : decode cX12_three 113 = .ok (.ifCond .ne 6, 3) := dcS2 dO_154 (by decide +kernel)
theorem dX12_three_116 : decode cX12_three 116 = .ok (.goto 97, 3) := dcS2 dO_167 (by decide +kernel)
theorem dX12_three_119 : decode cX12_three 119 = .ok (.iconst 0, 1) := dc0 dO_3 (by decide +kernel)
theorem dX12_three_120 : decode cX12_three 120 = .ok (.istore 6, 2) := dcU1 dO_54 (by decide +kernel)
theorem dX12_three_122 : decode cX12_three 122 = .ok (.iload 6, 2) := dcU1 dO_21 (by decide +kernel)
theorem dX12_three_124 : decode cX12_three 124 = .ok (.aload_n 0, 1) := dc0 dO_42 (by decide +kernel)
theorem dX12_three_125 : decode cX12_three 125 = .ok (.getfield 37, 3) := dcU2 dO_180 (by decide +kernel)
theorem sfx_cX12_three_128 : (cX12_three.data.toList.drop 128).take 67 = [162, 0, 85, 21, 6, 21, 4, 159, 0, 72, 21, 6, 21, 5, 159, 0, 65, 42, 7, 21, 6, 96, 182, 0, 151, 154, 0, 6, 167, 0, 51, 42, 27, 21, 5, 21, 6, 28, 182, 2, 56, 153, 0, 38, 42, 27, 21, 6, 21, 4, 28, 182, 2, 56, 153, 0, 25, 29, 154, 0, 8, 21, 4, 167, 0, 15, 29] := by decide +kernel
theorem dX12_three_128 : decode cX12_three 128 = .ok (.if_icmp .ge 85, 3) := dcS2 dO_162 (rdS2.ch sfx_cX12_three_128 0 rfl (by decide +kernel))
theorem dX12_three_131 : decode cX12_three 131 = .ok (.iload 6, 2) := dcU1 dO_21 (rdU1.ch sfx_cX12_three_128 3 rfl (by decide +kernel))
theorem dX12_three_133 : decode cX12_three 133 = .ok (.iload 4, 2) := dcU1 dO_21 (rdU1.ch sfx_cX12_three_128 5 rfl (by decide +kernel))
theorem dX12_three_135 : decode cX12_three 135 = .ok (.if_icmp .eq 72, 3) := dcS2 dO_159 (rdS2.ch sfx_cX12_three_128 7 rfl (by decide +kernel))
theorem dX12_three_138 : decode cX12_three 138 = .ok (.iload 6, 2) := dcU1 dO_21 (rdU1.ch sfx_cX12_three_128 10 rfl (by decide +kernel))
theorem dX12_three_140 : decode cX12_three 140 = .ok (.iload 5, 2) := dcU1 dO_21 (rdU1.ch sfx_cX12_three_128 12 rfl (by decide +kernel))
theorem dX12_three_142 : decode cX12_three 142 = .ok (.if_icmp .eq 65, 3) := dcS2 dO_159 (rdS2.ch sfx_cX12_three_128 14 rfl (by decide +kernel))
theorem dX12_three_145 : decode cX12_three 145 = .ok (.aload_n 0, 1) := dc0 dO_42 (rdB.ch sfx_cX12_three_128 17 rfl (by decide +kernel))
theorem dX12_three_146 : decode cX12_three 146 = .ok (.iconst 4, 1) := dc0 dO_7 (rdB.ch sfx_cX12_three_128 18 rfl (by decide +kernel))
theorem dX12_three_147 : decode cX12_three 147 = .ok (.iload 6, 2) := dcU1 dO_21 (rdU1.ch sfx_cX12_three_128 19 rfl (by decide +kernel))
theorem dX12_three_149 : decode cX12_three 149 = .ok (.iadd, 1) := dc0 dO_96 (rdB.ch sfx_cX12_three_128 21 rfl (by decide +kernel))
theorem dX12_three_150 : decode cX12_three 150 = .ok (.invokevirtual 151, 3) := dcU2 dO_182 (rdU2.ch sfx_cX12_three_128 22 rfl (by decide +kernel))
theorem dX12_three_153 : decode cX12_three 153 = .ok (.ifCond .ne 6, 3) := dcS2 dO_154 (rdS2.ch sfx_cX12_three_128 25 rfl (by decide +kernel))
theorem dX12_three_156 : decode cX12_three 156 = .ok (.goto 51, 3) := dcS2 dO_167 (rdS2.ch sfx_cX12_three_128 28 rfl (by decide +kernel))
theorem dX12_three_159 : decode cX12_three 159 = .ok (.aload_n 0, 1) := dc0 dO_42 (rdB.ch sfx_cX12_three_128 31 rfl (by decide +kernel))
theorem dX12_three_160 : decode cX12_three 160 = .ok (.iload_n 1, 1) := dc0 dO_27 (rdB.ch sfx_cX12_three_128 32 rfl (by decide +kernel))
theorem dX12_three_161 : decode cX12_three 161 = .ok (.iload 5, 2) := dcU1 dO_21 (rdU1.ch sfx_cX12_three_128 33 rfl (by decide +kernel))
theorem dX12_three_163 : decode cX12_three 163 = .ok (.iload 6, 2) := dcU1 dO_21 (rdU1.ch sfx_cX12_three_128 35 rfl (by decide +kernel))
theorem dX12_three_165 : decode cX12_three 165 = .ok (.iload_n 2, 1) := dc0 dO_28 (rdB.ch sfx_cX12_three_128 37 rfl (by decide +kernel))
theorem dX12_three_166 : decode cX12_three 166 = .ok (.invokevirtual 568, 3) := dcU2 dO_182 (rdU2.ch sfx_cX12_three_128 38 rfl (by decide +kernel))
theorem dX12_three_169 : decode cX12_three 169 = .ok (.ifCond .eq 38, 3) := dcS2 dO_153 (rdS2.ch sfx_cX12_three_128 41 rfl (by decide +kernel))
theorem dX12_three_172 : decode cX12_three 172 = .ok (.aload_n 0, 1) := dc0 dO_42 (rdB.ch sfx_cX12_three_128 44 rfl (by decide +kernel))
theorem dX12_three_173 : decode cX12_three 173 = .ok (.iload_n 1, 1) := dc0 dO_27 (rdB.ch sfx_cX12_three_128 45 rfl (by decide +kernel))
theorem dX12_three_174 : decode cX12_three 174 = .ok (.iload 6, 2) := dcU1 dO_21 (rdU1.ch sfx_cX12_three_128 46 rfl (by decide +kernel))
theorem dX12_three_176 : decode cX12_three 176 = .ok (.iload 4, 2) := dcU1 dO_21 (rdU1.ch sfx_cX12_three_128 48 rfl (by decide +kernel))
theorem dX12_three_178 : decode cX12_three 178 = .ok (.iload_n 2, 1) := dc0 dO_28 (rdB.ch sfx_cX12_three_128 50 rfl (by decide +kernel))
theorem dX12_three_179 : decode cX12_three 179 = .ok (.invokevirtual 568, 3) := dcU2 dO_182 (rdU2.ch sfx_cX12_three_128 51 rfl (by decide +kernel))
theorem dX12_three_182 : decode cX12_three 182 = .ok (.ifCond .eq 25, 3) := dcS2 dO_153 (rdS2.ch sfx_cX12_three_128 54 rfl (by decide +kernel))
theorem dX12_three_185 : decode cX12_three 185 = .ok (.iload_n 3, 1) := dc0 dO_29 (rdB.ch sfx_cX12_three_128 57 rfl (by decide +kernel))
theorem dX12_three_186 : decode cX12_three 186 = .ok (.ifCond .ne 8, 3) := dcS2 dO_154 (rdS2.ch sfx_cX12_three_128 58 rfl (by decide +kernel))
theorem dX12_three_189 : decode cX12_three 189 = .ok (.iload 4, 2) := dcU1 dO_21 (rdU1.ch sfx_cX12_three_128 61 rfl (by decide +kernel))
theorem dX12_three_191 : decode cX12_three 191 = .ok (.goto 15, 3) := dcS2 dO_167 (rdS2.ch sfx_cX12_three_128 63 rfl (by decide +kernel))
theorem sfx_cX12_three_192 : (cX12_three.data.toList.drop 192).take 67 = [0, 15, 29, 4, 160, 0, 8, 21, 5, 167, 0, 5, 21, 6, 172, 132, 6, 1, 167, 255, 168, 132, 5, 1, 167, 255, 105, 132, 4, 1, 167, 255, 87, 18, 29, 172] := by decide +kernel
theorem dX12_three_194 : decode cX12_three 194 = .ok (.iload_n 3, 1) := dc0 dO_29 (rdB.ch sfx_cX12_three_192 2 rfl (by decide +kernel))
theorem dX12_three_195 : decode cX12_three 195 = .ok (.iconst 1, 1) := dc0 dO_4 (rdB.ch sfx_cX12_three_192 3 rfl (by decide +kernel))
theorem dX12_three_196 : decode cX12_three 196 = .ok (.if_icmp .ne 8, 3) := dcS2 dO_160 (rdS2.ch sfx_cX12_three_192 4 rfl (by decide +kernel))
theorem dX12_three_199 : decode cX12_three 199 = .ok (.iload 5, 2) := dcU1 dO_21 (rdU1.ch sfx_cX12_three_192 7 rfl (by decide +kernel))
theorem dX12_three_201 : decode cX12_three 201 = .ok (.goto 5, 3) := dcS2 dO_167 (rdS2.ch sfx_cX12_three_192 9 rfl (by decide +kernel))
theorem dX12_three_204 : decode cX12_three 204 = .ok (.iload 6, 2) := dcU1 dO_21 (rdU1.ch sfx_cX12_three_192 12 rfl (by decide +kernel))
theorem dX12_three_206 : decode cX12_three 206 = .ok (.ireturn, 1) := dc0 dO_172 (rdB.ch sfx_cX12_three_192 14 rfl (by decide +kernel))
theorem dX12_three_207 : decode cX12_three 207 = .ok (.iinc 6 1, 3) := dcI dO_132 (rdI.ch sfx_cX12_three_192 15 rfl (by decide +kernel))
theorem dX12_three_210 : decode cX12_three 210 = .ok (.goto (-88), 3) := dcS2 dO_167 (rdS2.ch sfx_cX12_three_192 18 rfl (by decide +kernel))
theorem dX12_three_213 : decode cX12_three 213 = .ok (.iinc 5 1, 3) := dcI dO_132 (rdI.ch sfx_cX12_three_192 21 rfl (by decide +kernel))
theorem dX12_three_216 : decode cX12_three 216 = .ok (.goto (-151), 3) := dcS2 dO_167 (rdS2.ch sfx_cX12_three_192 24 rfl (by decide +kernel))
theorem dX12_three_219 : decode cX12_three 219 = .ok (.iinc 4 1, 3) := dcI dO_132 (rdI.ch sfx_cX12_three_192 27 rfl (by decide +kernel))
theorem dX12_three_222 : decode cX12_three 222 = .ok (.goto (-169), 3) := dcS2 dO_167 (rdS2.ch sfx_cX12_three_192 30 rfl (by decide +kernel))
theorem dX12_three_225 : decode cX12_three 225 = .ok (.ldc 29, 2) := dcU1 dO_18 (rdU1.ch sfx_cX12_three_192 33 rfl (by decide +kernel))
theorem dX12_three_227 : decode cX12_three 227 = .ok (.ireturn, 1) := dc0 dO_172 (rdB.ch sfx_cX12_three_192 35 rfl (by decide +kernel))
theorem dX12_units_0 : decode cX12_units 0 = .ok (.iload_n 1, 1) := dc0 dO_27 (by decide +kernel)
theorem dX12_units_1 : decode cX12_units 1 = .ok (.iconst 0, 1) := dc0 dO_3 (by decide +kernel)
theorem dX12_units_2 : decode cX12_units 2 = .ok (.iconst 2, 1) := dc0 dO_5 (by decide +kernel)
theorem dX12_units_3 : decode cX12_units 3 = .ok (.invokestatic 18, 3) := dcU2 dO_184 (by decide +kernel)
theorem dX12_units_6 : decode cX12_units 6 = .ok (.ifCond .ne 5, 3) := dcS2 dO_154 (by decide +kernel)
theorem dX12_units_9 : decode cX12_units 9 = .ok (.iconst (-1), 1) := dc0 dO_2 (by decide +kernel)
theorem dX12_units_10 : decode cX12_units 10 = .ok (.ireturn, 1) := dc0 dO_172 (by decide +kernel)
theorem dX12_units_11 : decode cX12_units 11 = .ok (.iconst 0, 1) := dc0 dO_3 (by decide +kernel)
theorem dX12_units_12 : decode cX12_units 12 = .ok (.istore_n 2, 1) := dc0 dO_61 (by decide +kernel)
theorem dX12_units_13 : decode cX12_units 13 = .ok (.iconst 0, 1) := dc0 dO_3 (by decide +kernel)
theorem dX12_units_14 : decode cX12_units 14 = .ok (.istore_n 3, 1) := dc0 dO_62 (by decide +kernel)
theorem dX12_units_15 : decode cX12_units 15 = .ok (.iload_n 3, 1) := dc0 dO_29 (by decide +kernel)
theorem dX12_units_16 : decode cX12_units 16 = .ok (.aload_n 0, 1) := dc0 dO_42 (by decide +kernel)
theorem dX12_units_17 : decode cX12_units 17 = .ok (.getfield 695, 3) := dcU2 dO_180 (by decide +kernel)
theorem dX12_units_20 : decode cX12_units 20 = .ok (.if_icmp .ge 42, 3) := dcS2 dO_162 (by decide +kernel)
theorem dX12_units_23 : decode cX12_units 23 = .ok (.iload_n 2, 1) := dc0 dO_28 (by decide +kernel)
theorem dX12_units_24 : decode cX12_units 24 = .ok (.aload_n 0, 1) := dc0 dO_42 (by decide +kernel)
theorem dX12_units_25 : decode cX12_units 25 = .ok (.aload_n 0, 1) := dc0 dO_42 (by decide +kernel)
theorem dX12_units_26 : decode cX12_units 26 = .ok (.getfield 493, 3) := dcU2 dO_180 (by decide +kernel)
theorem dX12_units_29 : decode cX12_units 29 = .ok (.iload_n 3, 1) := dc0 dO_29 (by decide +kernel)
theorem dX12_units_30 : decode cX12_units 30 = .ok (.iaload, 1) := dc0 dO_46 (by decide +kernel)
theorem dX12_units_31 : decode cX12_units 31 = .ok (.aload_n 0, 1) := dc0 dO_42 (by decide +kernel)
theorem dX12_units_32 : decode cX12_units 32 = .ok (.getfield 496, 3) := dcU2 dO_180 (by decide +kernel)
theorem dX12_units_35 : decode cX12_units 35 = .ok (.iload_n 3, 1) := dc0 dO_29 (by decide +kernel)
theorem dX12_units_36 : decode cX12_units 36 = .ok (.iaload, 1) := dc0 dO_46 (by decide +kernel)
theorem dX12_units_37 : decode cX12_units 37 = .ok (.invokevirtual 689, 3) := dcU2 dO_182 (by decide +kernel)
theorem dX12_units_40 : decode cX12_units 40 = .ok (.iload_n 1, 1) := dc0 dO_27 (by decide +kernel)
theorem dX12_units_41 : decode cX12_units 41 = .ok (.if_icmp .ne 12, 3) := dcS2 dO_160 (by decide +kernel)
theorem dX12_units_44 : decode cX12_units 44 = .ok (.aload_n 0, 1) := dc0 dO_42 (by decide +kernel)
theorem dX12_units_45 : decode cX12_units 45 = .ok (.getfield 499, 3) := dcU2 dO_180 (by decide +kernel)
theorem dX12_units_48 : decode cX12_units 48 = .ok (.iload_n 3, 1) := dc0 dO_29 (by decide +kernel)
theorem dX12_units_49 : decode cX12_units 49 = .ok (.iaload, 1) := dc0 dO_46 (by decide +kernel)
theorem dX12_units_50 : decode cX12_units 50 = .ok (.goto 4, 3) := dcS2 dO_167 (by decide +kernel)
theorem dX12_units_53 : decode cX12_units 53 = .ok (.iconst 0, 1) := dc0 dO_3 (by decide +kernel)
theorem dX12_units_54 : decode cX12_units 54 = .ok (.iadd, 1) := dc0 dO_96 (by decide +kernel)
theorem dX12_units_55 : decode cX12_units 55 = .ok (.istore_n 2, 1) := dc0 dO_61 (by decide +kernel)
theorem dX12_units_56 : decode cX12_units 56 = .ok (.iinc 3 1, 3) := dcI dO_132 (by decide +kernel)
theorem dX12_units_59 : decode cX12_units 59 = .ok (.goto (-44), 3) := dcS2 dO_167 (by decide +kernel)
theorem dX12_units_62 : decode cX12_units 62 = .ok (.iload_n 2, 1) := dc0 dO_28 (by decide +kernel)
theorem dX12_units_63 : decode cX12_units 63 = .ok (.ireturn, 1) := dc0 dO_172 (by decide +kernel)
theorem dX12_until_0 : decode cX12_until 0 = .ok (.iload_n 1, 1) := dc0 dO_27 (by decide +kernel)
theorem dX12_until_1 : decode cX12_until 1 = .ok (.aload_n 0, 1) := dc0 dO_42 (by decide +kernel)
theorem dX12_until_2 : decode cX12_until 2 = .ok (.getfield 591, 3) := dcU2 dO_180 (by decide +kernel)
theorem dX12_until_5 : decode cX12_until 5 = .ok (.if_icmp .lt 10, 3) := dcS2 dO_161 (by decide +kernel)
theorem dX12_until_8 : decode cX12_until 8 = .ok (.iload_n 1, 1) := dc0 dO_27 (by decide +kernel)
theorem dX12_until_9 : decode cX12_until 9 = .ok (.ldc_w 619, 3) := dcU2 dO_19 (by decide +kernel)
theorem dX12_until_12 : decode cX12_until 12 = .ok (.if_icmp .le 5, 3) := dcS2 dO_164 (by decide +kernel)
theorem dX12_until_15 : decode cX12_until 15 = .ok (.iconst (-1), 1) := dc0 dO_2 (by decide +kernel)
theorem dX12_until_16 : decode cX12_until 16 = .ok (.ireturn, 1) := dc0 dO_172 (by decide +kernel)
theorem dX12_until_17 : decode cX12_until 17 = .ok (.iconst 0, 1) := dc0 dO_3 (by decide +kernel)
theorem dX12_until_18 : decode cX12_until 18 = .ok (.istore_n 2, 1) := dc0 dO_61 (by decide +kernel)
theorem dX12_until_19 : decode cX12_until 19 = .ok (.aload_n 0, 1) := dc0 dO_42 (by decide +kernel)
theorem dX12_until_20 : decode cX12_until 20 = .ok (.invokevirtual 613, 3) := dcU2 dO_182 (by decide +kernel)
theorem dX12_until_23 : decode cX12_until 23 = .ok (.istore_n 3, 1) := dc0 dO_62 (by decide +kernel)
theorem dX12_until_24 : decode cX12_until 24 = .ok (.iload_n 2, 1) := dc0 dO_28 (by decide +kernel)
theorem dX12_until_25 : decode cX12_until 25 = .ok (.sipush 500, 3) := dcS2 dO_17 (by decide +kernel)
theorem dX12_until_28 : decode cX12_until 28 = .ok (.if_icmp .ge 34, 3) := dcS2 dO_162 (by decide +kernel)
theorem dX12_until_31 : decode cX12_until 31 = .ok (.iload_n 3, 1) := dc0 dO_29 (by decide +kernel)
theorem dX12_until_32 : decode cX12_until 32 = .ok (.ldc 29, 2) := dcU1 dO_18 (by decide +kernel)
theorem dX12_until_34 : decode cX12_until 34 = .ok (.if_icmp .eq 28, 3) := dcS2 dO_159 (by decide +kernel)
theorem dX12_until_37 : decode cX12_until 37 = .ok (.aload_n 0, 1) := dc0 dO_42 (by decide +kernel)
theorem dX12_until_38 : decode cX12_until 38 = .ok (.iload_n 3, 1) := dc0 dO_29 (by decide +kernel)
theorem dX12_until_39 : decode cX12_until 39 = .ok (.invokevirtual 607, 3) := dcU2 dO_182 (by decide +kernel)
theorem dX12_until_42 : decode cX12_until 42 = .ok (.iload_n 1, 1) := dc0 dO_27 (by decide +kernel)
theorem dX12_until_43 : decode cX12_until 43 = .ok (.if_icmp .gt 19, 3) := dcS2 dO_163 (by decide +kernel)
theorem dX12_until_46 : decode cX12_until 46 = .ok (.aload_n 0, 1) := dc0 dO_42 (by decide +kernel)
theorem dX12_until_47 : decode cX12_until 47 = .ok (.iload_n 3, 1) := dc0 dO_29 (by decide +kernel)
theorem dX12_until_48 : decode cX12_until 48 = .ok (.invokevirtual 616, 3) := dcU2 dO_182 (by decide +kernel)
theorem dX12_until_51 : decode cX12_until 51 = .ok (.iinc 2 1, 3) := dcI dO_132 (by decide +kernel)
theorem dX12_until_54 : decode cX12_until 54 = .ok (.aload_n 0, 1) := dc0 dO_42 (by decide +kernel)
theorem dX12_until_55 : decode cX12_until 55 = .ok (.invokevirtual 613, 3) := dcU2 dO_182 (by decide +kernel)
theorem dX12_until_58 : decode cX12_until 58 = .ok (.istore_n 3, 1) := dc0 dO_62 (by decide +kernel)
theorem dX12_until_59 : decode cX12_until 59 = .ok (.goto (-35), 3) := dcS2 dO_167 (by decide +kernel)
theorem dX12_until_62 : decode cX12_until 62 = .ok (.iload_n 3, 1) := dc0 dO_29 (by decide +kernel)
theorem dX12_until_63 : decode cX12_until 63 = .ok (.ldc 29, 2) := dcU1 dO_18 (by decide +kernel)
theorem dX12_until_65 : decode cX12_until 65 = .ok (.if_icmp .eq 12, 3) := dcS2 dO_159 (by decide +kernel)
theorem dX12_until_68 : decode cX12_until 68 = .ok (.aload_n 0, 1) := dc0 dO_42 (by decide +kernel)
theorem dX12_until_69 : decode cX12_until 69 = .ok (.iload_n 3, 1) := dc0 dO_29 (by decide +kernel)
theorem dX12_until_70 : decode cX12_until 70 = .ok (.invokevirtual 607, 3) := dcU2 dO_182 (by decide +kernel)
theorem dX12_until_73 : decode cX12_until 73 = .ok (.iload_n 1, 1) := dc0 dO_27 (by decide +kernel)
theorem dX12_until_74 : decode cX12_until 74 = .ok (.if_icmp .le 8, 3) := dcS2 dO_164 (by decide +kernel)
theorem dX12_until_77 : decode cX12_until 77 = .ok (.aload_n 0, 1) := dc0 dO_42 (by decide +kernel)
theorem dX12_until_78 : decode cX12_until 78 = .ok (.iload_n 1, 1) := dc0 dO_27 (by decide +kernel)
theorem dX12_until_79 : decode cX12_until 79 = .ok (.putfield 591, 3) := dcU2 dO_181 (by decide +kernel)
theorem dX12_until_82 : decode cX12_until 82 = .ok (.iload_n 2, 1) := dc0 dO_28 (by decide +kernel)
theorem dX12_until_83 : decode cX12_until 83 = .ok (.ireturn, 1) := dc0 dO_172 (by decide +kernel)
theorem dX12_wish_0 : decode cX12_wish 0 = .ok (.aload_n 0, 1) := dc0 dO_42 (by decide +kernel)
theorem dX12_wish_1 : decode cX12_wish 1 = .ok (.getfield 79, 3) := dcU2 dO_180 (by decide +kernel)
theorem dX12_wish_4 : decode cX12_wish 4 = .ok (.iconst 2, 1) := dc0 dO_5 (by decide +kernel)
theorem dX12_wish_5 : decode cX12_wish 5 = .ok (.if_icmp .lt 39, 3) := dcS2 dO_161 (by decide +kernel)
theorem dX12_wish_8 : decode cX12_wish 8 = .ok (.aload_n 0, 1) := dc0 dO_42 (by decide +kernel)
theorem dX12_wish_9 : decode cX12_wish 9 = .ok (.getfield 79, 3) := dcU2 dO_180 (by decide +kernel)
theorem dX12_wish_12 : decode cX12_wish 12 = .ok (.bipush 7, 2) := dcS1 dO_16 (by decide +kernel)
theorem dX12_wish_14 : decode cX12_wish 14 = .ok (.if_icmp .gt 30, 3) := dcS2 dO_163 (by decide +kernel)
theorem dX12_wish_17 : decode cX12_wish 17 = .ok (.aload_n 0, 1) := dc0 dO_42 (by decide +kernel)
theorem dX12_wish_18 : decode cX12_wish 18 = .ok (.getfield 82, 3) := dcU2 dO_180 (by decide +kernel)
theorem dX12_wish_21 : decode cX12_wish 21 = .ok (.iconst 0, 1) := dc0 dO_3 (by decide +kernel)
theorem dX12_wish_22 : decode cX12_wish 22 = .ok (.iaload, 1) := dc0 dO_46 (by decide +kernel)
theorem dX12_wish_23 : decode cX12_wish 23 = .ok (.ifCond .eq 21, 3) := dcS2 dO_153 (by decide +kernel)
theorem dX12_wish_26 : decode cX12_wish 26 = .ok (.aload_n 0, 1) := dc0 dO_42 (by decide +kernel)
theorem dX12_wish_27 : decode cX12_wish 27 = .ok (.getfield 82, 3) := dcU2 dO_180 (by decide +kernel)
theorem dX12_wish_30 : decode cX12_wish 30 = .ok (.aload_n 0, 1) := dc0 dO_42 (by decide +kernel)
theorem dX12_wish_31 : decode cX12_wish 31 = .ok (.getfield 79, 3) := dcU2 dO_180 (by decide +kernel)
theorem dX12_wish_34 : decode cX12_wish 34 = .ok (.iconst 1, 1) := dc0 dO_4 (by decide +kernel)
theorem dX12_wish_35 : decode cX12_wish 35 = .ok (.isub, 1) := dc0 dO_100 (by decide +kernel)
theorem dX12_wish_36 : decode cX12_wish 36 = .ok (.iaload, 1) := dc0 dO_46 (by decide +kernel)
theorem dX12_wish_37 : decode cX12_wish 37 = .ok (.ifCond .ne 7, 3) := dcS2 dO_154 (by decide +kernel)
theorem dX12_wish_40 : decode cX12_wish 40 = .ok (.iconst 1, 1) := dc0 dO_4 (by decide +kernel)
theorem dX12_wish_41 : decode cX12_wish 41 = .ok (.goto 4, 3) := dcS2 dO_167 (by decide +kernel)
theorem dX12_wish_44 : decode cX12_wish 44 = .ok (.iconst 0, 1) := dc0 dO_3 (by decide +kernel)
theorem dX12_wish_45 : decode cX12_wish 45 = .ok (.istore_n 1, 1) := dc0 dO_60 (by decide +kernel)
theorem dX12_wish_46 : decode cX12_wish 46 = .ok (.iconst 0, 1) := dc0 dO_3 (by decide +kernel)
theorem dX12_wish_47 : decode cX12_wish 47 = .ok (.istore_n 2, 1) := dc0 dO_61 (by decide +kernel)
theorem dX12_wish_48 : decode cX12_wish 48 = .ok (.iload_n 2, 1) := dc0 dO_28 (by decide +kernel)
theorem dX12_wish_49 : decode cX12_wish 49 = .ok (.aload_n 0, 1) := dc0 dO_42 (by decide +kernel)
theorem dX12_wish_50 : decode cX12_wish 50 = .ok (.getfield 79, 3) := dcU2 dO_180 (by decide +kernel)
theorem dX12_wish_53 : decode cX12_wish 53 = .ok (.if_icmp .ge 68, 3) := dcS2 dO_162 (by decide +kernel)
theorem dX12_wish_56 : decode cX12_wish 56 = .ok (.iload_n 1, 1) := dc0 dO_27 (by decide +kernel)
theorem dX12_wish_57 : decode cX12_wish 57 = .ok (.ifCond .eq 64, 3) := dcS2 dO_153 (by decide +kernel)
theorem dX12_wish_60 : decode cX12_wish 60 = .ok (.aload_n 0, 1) := dc0 dO_42 (by decide +kernel)
theorem dX12_wish_61 : decode cX12_wish 61 = .ok (.getfield 82, 3) := dcU2 dO_180 (by decide +kernel)
theorem dX12_wish_64 : decode cX12_wish 64 = .ok (.iload_n 2, 1) := dc0 dO_28 (by decide +kernel)
theorem dX12_wish_65 : decode cX12_wish 65 = .ok (.iaload, 1) := dc0 dO_46 (by decide +kernel)
theorem dX12_wish_66 : decode cX12_wish 66 = .ok (.bipush 6, 2) := dcS1 dO_16 (by decide +kernel)
theorem dX12_wish_68 : decode cX12_wish 68 = .ok (.if_icmp .gt 7, 3) := dcS2 dO_163 (by decide +kernel)
theorem dX12_wish_71 : decode cX12_wish 71 = .ok (.iconst 1, 1) := dc0 dO_4 (by decide +kernel)
theorem dX12_wish_72 : decode cX12_wish 72 = .ok (.goto 4, 3) := dcS2 dO_167 (by decide +kernel)
theorem dX12_wish_75 : decode cX12_wish 75 = .ok (.iconst 0, 1) := dc0 dO_3 (by decide +kernel)
theorem dX12_wish_76 : decode cX12_wish 76 = .ok (.istore_n 1, 1) := dc0 dO_60 (by decide +kernel)
theorem dX12_wish_77 : decode cX12_wish 77 = .ok (.iconst 0, 1) := dc0 dO_3 (by decide +kernel)
theorem dX12_wish_78 : decode cX12_wish 78 = .ok (.istore_n 3, 1) := dc0 dO_62 (by decide +kernel)
theorem dX12_wish_79 : decode cX12_wish 79 = .ok (.iload_n 3, 1) := dc0 dO_29 (by decide +kernel)
theorem dX12_wish_80 : decode cX12_wish 80 = .ok (.iload_n 2, 1) := dc0 dO_28 (by decide +kernel)
theorem dX12_wish_81 : decode cX12_wish 81 = .ok (.if_icmp .ge 34, 3) := dcS2 dO_162 (by decide +kernel)
theorem dX12_wish_84 : decode cX12_wish 84 = .ok (.iload_n 1, 1) := dc0 dO_27 (by decide +kernel)
theorem dX12_wish_85 : decode cX12_wish 85 = .ok (.ifCond .eq 22, 3) := dcS2 dO_153 (by decide +kernel)
theorem dX12_wish_88 : decode cX12_wish 88 = .ok (.aload_n 0, 1) := dc0 dO_42 (by decide +kernel)
theorem dX12_wish_89 : decode cX12_wish 89 = .ok (.getfield 82, 3) := dcU2 dO_180 (by decide +kernel)
theorem dX12_wish_92 : decode cX12_wish 92 = .ok (.iload_n 2, 1) := dc0 dO_28 (by decide +kernel)
theorem dX12_wish_93 : decode cX12_wish 93 = .ok (.iaload, 1) := dc0 dO_46 (by decide +kernel)
theorem dX12_wish_94 : decode cX12_wish 94 = .ok (.aload_n 0, 1) := dc0 dO_42 (by decide +kernel)
theorem dX12_wish_95 : decode cX12_wish 95 = .ok (.getfield 82, 3) := dcU2 dO_180 (by decide +kernel)
theorem dX12_wish_98 : decode cX12_wish 98 = .ok (.iload_n 3, 1) := dc0 dO_29 (by decide +kernel)
theorem dX12_wish_99 : decode cX12_wish 99 = .ok (.iaload, 1) := dc0 dO_46 (by decide +kernel)
theorem dX12_wish_100 : decode cX12_wish 100 = .ok (.if_icmp .eq 7, 3) := dcS2 dO_159 (by decide +kernel)
theorem dX12_wish_103 : decode cX12_wish 103 = .ok (.iconst 1, 1) := dc0 dO_4 (by decide +kernel)
theorem dX12_wish_104 : decode cX12_wish 104 = .ok (.goto 4, 3) := dcS2 dO_167 (by decide +kernel)
theorem dX12_wish_107 : decode cX12_wish 107 = .ok (.iconst 0, 1) := dc0 dO_3 (by decide +kernel)
theorem dX12_wish_108 : decode cX12_wish 108 = .ok (.istore_n 1, 1) := dc0 dO_60 (by decide +kernel)
theorem dX12_wish_109 : decode cX12_wish 109 = .ok (.iinc 3 1, 3) := dcI dO_132 (by decide +kernel)
theorem dX12_wish_112 : decode cX12_wish 112 = .ok (.goto (-33), 3) := dcS2 dO_167 (by decide +kernel)
theorem dX12_wish_115 : decode cX12_wish 115 = .ok (.iinc 2 1, 3) := dcI dO_132 (by decide +kernel)
theorem dX12_wish_118 : decode cX12_wish 118 = .ok (.goto (-70), 3) := dcS2 dO_167 (by decide +kernel)
theorem dX12_wish_121 : decode cX12_wish 121 = .ok (.iload_n 1, 1) := dc0 dO_27 (by decide +kernel)
theorem dX12_wish_122 : decode cX12_wish 122 = .ok (.ifCond .ne 5, 3) := dcS2 dO_154 (by decide +kernel)
theorem dX12_wish_125 : decode cX12_wish 125 = .ok (.iconst (-1), 1) := dc0 dO_2 (by decide +kernel)
theorem dX12_wish_126 : decode cX12_wish 126 = .ok (.ireturn, 1) := dc0 dO_172 (by decide +kernel)
theorem dX12_wish_127 : decode cX12_wish 127 = .ok (.aload_n 0, 1) := dc0 dO_42 (by decide +kernel)
theorem sfx_cX12_wish_128 : (cX12_wish.data.toList.drop 128).take 67 = [180, 0, 82, 3, 46, 61, 3, 62, 29, 42, 180, 2, 2, 28, 46, 162, 0, 21, 42, 28, 29, 182, 2, 204, 153, 0, 6, 16, 254, 172, 132, 3, 1, 167, 255, 231, 42, 180, 2, 2, 28, 46, 8, 160, 0, 6, 16, 253, 172, 8, 28, 104, 42, 180, 2, 2, 28, 46, 96, 62, 42, 180, 2, 5, 29, 42, 180] := by decide +kernel
theorem dX12_wish_128 : decode cX12_wish 128 = .ok (.getfield 82, 3) := dcU2 dO_180 (rdU2.ch sfx_cX12_wish_128 0 rfl (by decide +kernel))
theorem dX12_wish_131 : decode cX12_wish 131 = .ok (.iconst 0, 1) := dc0 dO_3 (rdB.ch sfx_cX12_wish_128 3 rfl (by decide +kernel))
theorem dX12_wish_132 : decode cX12_wish 132 = .ok (.iaload, 1) := dc0 dO_46 (rdB.ch sfx_cX12_wish_128 4 rfl (by decide +kernel))
theorem dX12_wish_133 : decode cX12_wish 133 = .ok (.istore_n 2, 1) := dc0 dO_61 (rdB.ch sfx_cX12_wish_128 5 rfl (by decide +kernel))
theorem dX12_wish_134 : decode cX12_wish 134 = .ok (.iconst 0, 1) := dc0 dO_3 (rdB.ch sfx_cX12_wish_128 6 rfl (by decide +kernel))
theorem dX12_wish_135 : decode cX12_wish 135 = .ok (.istore_n 3, 1) := dc0 dO_62 (rdB.ch sfx_cX12_wish_128 7 rfl (by decide +kernel))
theorem dX12_wish_136 : decode cX12_wish 136 = .ok (.iload_n 3, 1) := dc0 dO_29 (rdB.ch sfx_cX12_wish_128 8 rfl (by decide +kernel))
theorem dX12_wish_137 : decode cX12_wish 137 = .ok (.aload_n 0, 1) := dc0 dO_42 (rdB.ch sfx_cX12_wish_128 9 rfl (by decide +kernel))
theorem dX12_wish_138 : decode cX12_wish 138 = .ok (.getfield 514, 3) := dcU2 dO_180 (rdU2.ch sfx_cX12_wish_128 10 rfl (by decide +kernel))
theorem dX12_wish_141 : decode cX12_wish 141 = .ok (.iload_n 2, 1) := dc0 dO_28 (rdB.ch sfx_cX12_wish_128 13 rfl (by decide +kernel))
theorem dX12_wish_142 : decode cX12_wish 142 = .ok (.iaload, 1) := dc0 dO_46 (rdB.ch sfx_cX12_wish_128 14 rfl (by decide +kernel))
theorem dX12_wish_143 : decode cX12_wish 143 = .ok (.if_icmp .ge 21, 3) := dcS2 dO_162 (rdS2.ch sfx_cX12_wish_128 15 rfl (by decide +kernel))
theorem dX12_wish_146 : decode cX12_wish 146 = .ok (.aload_n 0, 1) := dc0 dO_42 (rdB.ch sfx_cX12_wish_128 18 rfl (by decide +kernel))
theorem dX12_wish_147 : decode cX12_wish 147 = .ok (.iload_n 2, 1) := dc0 dO_28 (rdB.ch sfx_cX12_wish_128 19 rfl (by decide +kernel))
theorem dX12_wish_148 : decode cX12_wish 148 = .ok (.iload_n 3, 1) := dc0 dO_29 (rdB.ch sfx_cX12_wish_128 20 rfl (by decide +kernel))
theorem dX12_wish_149 : decode cX12_wish 149 = .ok (.invokevirtual 716, 3) := dcU2 dO_182 (rdU2.ch sfx_cX12_wish_128 21 rfl (by decide +kernel))
theorem dX12_wish_152 : decode cX12_wish 152 = .ok (.ifCond .eq 6, 3) := dcS2 dO_153 (rdS2.ch sfx_cX12_wish_128 24 rfl (by decide +kernel))
theorem dX12_wish_155 : decode cX12_wish 155 = .ok (.bipush (-2), 2) := dcS1 dO_16 (rdS1.ch sfx_cX12_wish_128 27 rfl (by decide +kernel))
theorem dX12_wish_157 : decode cX12_wish 157 = .ok (.ireturn, 1) := dc0 dO_172 (rdB.ch sfx_cX12_wish_128 29 rfl (by decide +kernel))
theorem dX12_wish_158 : decode cX12_wish 158 = .ok (.iinc 3 1, 3) := dcI dO_132 (rdI.ch sfx_cX12_wish_128 30 rfl (by decide +kernel))
theorem dX12_wish_161 : decode cX12_wish 161 = .ok (.goto (-25), 3) := dcS2 dO_167 (rdS2.ch sfx_cX12_wish_128 33 rfl (by decide +kernel))
theorem dX12_wish_164 : decode cX12_wish 164 = .ok (.aload_n 0, 1) := dc0 dO_42 (rdB.ch sfx_cX12_wish_128 36 rfl (by decide +kernel))
theorem dX12_wish_165 : decode cX12_wish 165 = .ok (.getfield 514, 3) := dcU2 dO_180 (rdU2.ch sfx_cX12_wish_128 37 rfl (by decide +kernel))
theorem dX12_wish_168 : decode cX12_wish 168 = .ok (.iload_n 2, 1) := dc0 dO_28 (rdB.ch sfx_cX12_wish_128 40 rfl (by decide +kernel))
theorem dX12_wish_169 : decode cX12_wish 169 = .ok (.iaload, 1) := dc0 dO_46 (rdB.ch sfx_cX12_wish_128 41 rfl (by decide +kernel))
theorem dX12_wish_170 : decode cX12_wish 170 = .ok (.iconst 5, 1) := dc0 dO_8 (rdB.ch sfx_cX12_wish_128 42 rfl (by decide +kernel))
theorem dX12_wish_171 : decode cX12_wish 171 = .ok (.if_icmp .ne 6, 3) := dcS2 dO_160 (rdS2.ch sfx_cX12_wish_128 43 rfl (by decide +kernel))
theorem dX12_wish_174 : decode cX12_wish 174 = .ok (.bipush (-3), 2) := dcS1 dO_16 (rdS1.ch sfx_cX12_wish_128 46 rfl (by decide +kernel))
theorem dX12_wish_176 : decode cX12_wish 176 = .ok (.ireturn, 1) := dc0 dO_172 (rdB.ch sfx_cX12_wish_128 48 rfl (by decide +kernel))
theorem dX12_wish_177 : decode cX12_wish 177 = .ok (.iconst 5, 1) := dc0 dO_8 (rdB.ch sfx_cX12_wish_128 49 rfl (by decide +kernel))
theorem dX12_wish_178 : decode cX12_wish 178 = .ok (.iload_n 2, 1) := dc0 dO_28 (rdB.ch sfx_cX12_wish_128 50 rfl (by decide +kernel))
theorem dX12_wish_179 : decode cX12_wish 179 = .ok (.imul, 1) := dc0 dO_104 (rdB.ch sfx_cX12_wish_128 51 rfl (by decide +kernel))
theorem dX12_wish_180 : decode cX12_wish 180 = .ok (.aload_n 0, 1) := dc0 dO_42 (rdB.ch sfx_cX12_wish_128 52 rfl (by decide +kernel))
theorem dX12_wish_181 : decode cX12_wish 181 = .ok (.getfield 514, 3) := dcU2 dO_180 (rdU2.ch sfx_cX12_wish_128 53 rfl (by decide +kernel))
theorem dX12_wish_184 : decode cX12_wish 184 = .ok (.iload_n 2, 1) := dc0 dO_28 (rdB.ch sfx_cX12_wish_128 56 rfl (by decide +kernel))
theorem dX12_wish_185 : decode cX12_wish 185 = .ok (.iaload, 1) := dc0 dO_46 (rdB.ch sfx_cX12_wish_128 57 rfl (by decide +kernel))
theorem dX12_wish_186 : decode cX12_wish 186 = .ok (.iadd, 1) := dc0 dO_96 (rdB.ch sfx_cX12_wish_128 58 rfl (by decide +kernel))
theorem dX12_wish_187 : decode cX12_wish 187 = .ok (.istore_n 3, 1) := dc0 dO_62 (rdB.ch sfx_cX12_wish_128 59 rfl (by decide +kernel))
theorem dX12_wish_188 : decode cX12_wish 188 = .ok (.aload_n 0, 1) := dc0 dO_42 (rdB.ch sfx_cX12_wish_128 60 rfl (by decide +kernel))
theorem dX12_wish_189 : decode cX12_wish 189 = .ok (.getfield 517, 3) := dcU2 dO_180 (rdU2.ch sfx_cX12_wish_128 61 rfl (by decide +kernel))
theorem sfx_cX12_wish_192 : (cX12_wish.data.toList.drop 192).take 67 = [29, 42, 180, 0, 79, 79, 3, 54, 4, 21, 4, 42, 180, 0, 79, 162, 0, 28, 42, 180, 2, 8, 16, 8, 29, 104, 21, 4, 96, 42, 180, 0, 82, 21, 4, 46, 79, 132, 4, 1, 167, 255, 225, 42, 180, 2, 2, 28, 92, 46, 4, 96, 79, 42, 180, 2, 2, 28, 46, 172] := by decide +kernel
theorem dX12_wish_192 : decode cX12_wish 192 = .ok (.iload_n 3, 1) := dc0 dO_29 (rdB.ch sfx_cX12_wish_192 0 rfl (by decide +kernel))
theorem dX12_wish_193 : decode cX12_wish 193 = .ok (.aload_n 0, 1) := dc0 dO_42 (rdB.ch sfx_cX12_wish_192 1 rfl (by decide +kernel))
theorem dX12_wish_194 : decode cX12_wish 194 = .ok (.getfield 79, 3) := dcU2 dO_180 (rdU2.ch sfx_cX12_wish_192 2 rfl (by decide +kernel))
theorem dX12_wish_197 : decode cX12_wish 197 = .ok (.iastore, 1) := dc0 dO_79 (rdB.ch sfx_cX12_wish_192 5 rfl (by decide +kernel))
theorem dX12_wish_198 : decode cX12_wish 198 = .ok (.iconst 0, 1) := dc0 dO_3 (rdB.ch sfx_cX12_wish_192 6 rfl (by decide +kernel))
theorem dX12_wish_199 : decode cX12_wish 199 = .ok (.istore 4, 2) := dcU1 dO_54 (rdU1.ch sfx_cX12_wish_192 7 rfl (by decide +kernel))
theorem dX12_wish_201 : decode cX12_wish 201 = .ok (.iload 4, 2) := dcU1 dO_21 (rdU1.ch sfx_cX12_wish_192 9 rfl (by decide +kernel))
theorem dX12_wish_203 : decode cX12_wish 203 = .ok (.aload_n 0, 1) := dc0 dO_42 (rdB.ch sfx_cX12_wish_192 11 rfl (by decide +kernel))
theorem dX12_wish_204 : decode cX12_wish 204 = .ok (.getfield 79, 3) := dcU2 dO_180 (rdU2.ch sfx_cX12_wish_192 12 rfl (by decide +kernel))
theorem dX12_wish_207 : decode cX12_wish 207 = .ok (.if_icmp .ge 28, 3) := dcS2 dO_162 (rdS2.ch sfx_cX12_wish_192 15 rfl (by decide +kernel))
theorem dX12_wish_210 : decode cX12_wish 210 = .ok (.aload_n 0, 1) := dc0 dO_42 (rdB.ch sfx_cX12_wish_192 18 rfl (by decide +kernel))
theorem dX12_wish_211 : decode cX12_wish 211 = .ok (.getfield 520, 3) := dcU2 dO_180 (rdU2.ch sfx_cX12_wish_192 19 rfl (by decide +kernel))
theorem dX12_wish_214 : decode cX12_wish 214 = .ok (.bipush 8, 2) := dcS1 dO_16 (rdS1.ch sfx_cX12_wish_192 22 rfl (by decide +kernel))
theorem dX12_wish_216 : decode cX12_wish 216 = .ok (.iload_n 3, 1) := dc0 dO_29 (rdB.ch sfx_cX12_wish_192 24 rfl (by decide +kernel))
theorem dX12_wish_217 : decode cX12_wish 217 = .ok (.imul, 1) := dc0 dO_104 (rdB.ch sfx_cX12_wish_192 25 rfl (by decide +kernel))
theorem dX12_wish_218 : decode cX12_wish 218 = .ok (.iload 4, 2) := dcU1 dO_21 (rdU1.ch sfx_cX12_wish_192 26 rfl (by decide +kernel))
theorem dX12_wish_220 : decode cX12_wish 220 = .ok (.iadd, 1) := dc0 dO_96 (rdB.ch sfx_cX12_wish_192 28 rfl (by decide +kernel))
theorem dX12_wish_221 : decode cX12_wish 221 = .ok (.aload_n 0, 1) := dc0 dO_42 (rdB.ch sfx_cX12_wish_192 29 rfl (by decide +kernel))
theorem dX12_wish_222 : decode cX12_wish 222 = .ok (.getfield 82, 3) := dcU2 dO_180 (rdU2.ch sfx_cX12_wish_192 30 rfl (by decide +kernel))
theorem dX12_wish_225 : decode cX12_wish 225 = .ok (.iload 4, 2) := dcU1 dO_21 (rdU1.ch sfx_cX12_wish_192 33 rfl (by decide +kernel))
theorem dX12_wish_227 : decode cX12_wish 227 = .ok (.iaload, 1) := dc0 dO_46 (rdB.ch sfx_cX12_wish_192 35 rfl (by decide +kernel))
theorem dX12_wish_228 : decode cX12_wish 228 = .ok (.iastore, 1) := dc0 dO_79 (rdB.ch sfx_cX12_wish_192 36 rfl (by decide +kernel))
theorem dX12_wish_229 : decode cX12_wish 229 = .ok (.iinc 4 1, 3) := dcI dO_132 (rdI.ch sfx_cX12_wish_192 37 rfl (by decide +kernel))
theorem dX12_wish_232 : decode cX12_wish 232 = .ok (.goto (-31), 3) := dcS2 dO_167 (rdS2.ch sfx_cX12_wish_192 40 rfl (by decide +kernel))
theorem dX12_wish_235 : decode cX12_wish 235 = .ok (.aload_n 0, 1) := dc0 dO_42 (rdB.ch sfx_cX12_wish_192 43 rfl (by decide +kernel))
theorem dX12_wish_236 : decode cX12_wish 236 = .ok (.getfield 514, 3) := dcU2 dO_180 (rdU2.ch sfx_cX12_wish_192 44 rfl (by decide +kernel))
theorem dX12_wish_239 : decode cX12_wish 239 = .ok (.iload_n 2, 1) := dc0 dO_28 (rdB.ch sfx_cX12_wish_192 47 rfl (by decide +kernel))
theorem dX12_wish_240 : decode cX12_wish 240 = .ok (.dup2, 1) := dc0 dO_92 (rdB.ch sfx_cX12_wish_192 48 rfl (by decide +kernel))
theorem dX12_wish_241 : decode cX12_wish 241 = .ok (.iaload, 1) := dc0 dO_46 (rdB.ch sfx_cX12_wish_192 49 rfl (by decide +kernel))
theorem dX12_wish_242 : decode cX12_wish 242 = .ok (.iconst 1, 1) := dc0 dO_4 (rdB.ch sfx_cX12_wish_192 50 rfl (by decide +kernel))
theorem dX12_wish_243 : decode cX12_wish 243 = .ok (.iadd, 1) := dc0 dO_96 (rdB.ch sfx_cX12_wish_192 51 rfl (by decide +kernel))
theorem dX12_wish_244 : decode cX12_wish 244 = .ok (.iastore, 1) := dc0 dO_79 (rdB.ch sfx_cX12_wish_192 52 rfl (by decide +kernel))
theorem dX12_wish_245 : decode cX12_wish 245 = .ok (.aload_n 0, 1) := dc0 dO_42 (rdB.ch sfx_cX12_wish_192 53 rfl (by decide +kernel))
theorem dX12_wish_246 : decode cX12_wish 246 = .ok (.getfield 514, 3) := dcU2 dO_180 (rdU2.ch sfx_cX12_wish_192 54 rfl (by decide +kernel))
theorem dX12_wish_249 : decode cX12_wish 249 = .ok (.iload_n 2, 1) := dc0 dO_28 (rdB.ch sfx_cX12_wish_192 57 rfl (by decide +kernel))
theorem dX12_wish_250 : decode cX12_wish 250 = .ok (.iaload, 1) := dc0 dO_46 (rdB.ch sfx_cX12_wish_192 58 rfl (by decide +kernel))
theorem dX12_wish_251 : decode cX12_wish 251 = .ok (.ireturn, 1) := dc0 dO_172 (rdB.ch sfx_cX12_wish_192 59 rfl (by decide +kernel))
end
section
theorem vc_X12_wish_1 {f_hands : Int} (h0 : f_hands < 2) (h1 : 0 ≤ f_hands ∧ f_hands ≤ 20) : 0 ≤ f_hands ∧ f_hands ≤ 1 := by omega
theorem vc_X12_wish_2 (h0 : 1 < ((0 : Nat) : Int)) : False := by omega
theorem vc_X12_wish_3 {f_hands z6509 : Int} (h0 : f_hands ≤ z6509) (h1 : f_hands < 2) (h2 : 0 ≤ f_hands ∧ f_hands ≤ 1) (h3 : 0 ≤ z6509 ∧ z6509 ≤ 0) : 0 ≤ f_hands ∧ f_hands ≤ 0 := by omega
theorem vc_X12_wish_5 {f_hands z6509 : Int} (h0 : z6509 < f_hands) (h1 : f_hands < 2) (h2 : 0 ≤ f_hands ∧ f_hands ≤ 1) (h3 : 0 ≤ z6509 ∧ z6509 ≤ 0) : 1 ≤ f_hands ∧ f_hands ≤ 1 := by omega
theorem vc_X12_wish_6  : 1 < ((2 : Nat) : Int) := by omega
theorem vc_X12_wish_7 {f_hands : Int} (h0 : 2 ≤ f_hands) (h1 : 0 ≤ f_hands ∧ f_hands ≤ 20) : 2 ≤ f_hands ∧ f_hands ≤ 20 := by omega
theorem vc_X12_wish_8 {f_hands : Int} (h0 : 7 < f_hands) (h1 : 2 ≤ f_hands) (h2 : 2 ≤ f_hands ∧ f_hands ≤ 20) : 8 ≤ f_hands ∧ f_hands ≤ 20 := by omega
theorem vc_X12_wish_9 {f_hands z6530 : Int} (h0 : f_hands ≤ z6530) (h1 : 8 ≤ f_hands ∧ f_hands ≤ 20) (h2 : 0 ≤ z6530 ∧ z6530 ≤ 0) : False := by omega
theorem vc_X12_wish_11 {f_hands : Int} (h0 : f_hands ≤ 7) (h1 : 2 ≤ f_hands) (h2 : 2 ≤ f_hands ∧ f_hands ≤ 20) : 2 ≤ f_hands ∧ f_hands ≤ 7 := by omega
theorem vc_X12_wish_12 {z6542 : Int} (h0 : z6542 = 0) (h1 : 0 ≤ z6542 ∧ z6542 ≤ 9) : 0 ≤ z6542 ∧ z6542 ≤ 0 := by omega
theorem vc_X12_wish_13 {f_hands z6551 : Int} (h0 : f_hands ≤ z6551) (h1 : 2 ≤ f_hands ∧ f_hands ≤ 7) (h2 : 0 ≤ z6551 ∧ z6551 ≤ 0) : False := by omega
theorem vc_X12_wish_15 {z6542 : Int} (h0 : ¬ z6542 = 0) (h1 : 0 ≤ z6542 ∧ z6542 ≤ 9) : 1 ≤ z6542 ∧ z6542 ≤ 9 := by omega
theorem vc_X12_wish_21 {f_hands z7760 : Int} (h0 : f_hands ≤ z7760) (h1 : 2 ≤ f_hands) (h2 : f_hands ≤ 7) (h3 : 2 ≤ f_hands ∧ f_hands ≤ 7) (h4 : 0 ≤ z7760 ∧ z7760 ≤ 7) : 2 ≤ z7760 ∧ z7760 ≤ 7 := by omega
theorem vc_X12_wish_23 {z7761 : Int} (h0 : ¬ z7761 = 0) (h1 : 1 ≤ z7761 ∧ z7761 ≤ 1) : z7761 = 1 := by omega
theorem vc_X12_wish_25 {f_hands z7760 : Int} (h0 : 2 ≤ f_hands) (h1 : f_hands ≤ 7) (h2 : f_hands ≤ z7760) (h3 : 2 ≤ f_hands ∧ f_hands ≤ 7) (h4 : 2 ≤ z7760 ∧ z7760 ≤ 7) : (0 : Int) < z7760 := by omega
theorem vc_X12_wish_26 {z6542 : Int} (h0 : z6542 ≤ 6) (h1 : ¬ z6542 = 0) (h2 : 1 ≤ z6542 ∧ z6542 ≤ 9) : 1 ≤ z6542 ∧ z6542 ≤ 6 := by omega
theorem vc_X12_wish_28 {z8075 z8083 : Int} (h0 : ¬ z8083 = 5) (h1 : z8083 ≤ z8075) (h2 : 0 ≤ z8075 ∧ z8075 ≤ 5) (h3 : 0 ≤ z8083 ∧ z8083 ≤ 5) : 0 ≤ z8083 ∧ z8083 ≤ 4 := by omega
theorem vc_X12_wish_30 {f_hands z7760 z8199 : Int} (h0 : f_hands ≤ z8199) (h1 : 2 ≤ f_hands) (h2 : f_hands ≤ 7) (h3 : f_hands ≤ z7760) (h4 : 2 ≤ f_hands ∧ f_hands ≤ 7) (h5 : 2 ≤ z7760 ∧ z7760 ≤ 7) (h6 : 0 ≤ z8199 ∧ z8199 ≤ 7) : 2 ≤ z8199 ∧ z8199 ≤ 7 := by omega
theorem vc_X12_wish_31 {f_hands z7760 z8199 : Int} (h0 : z8199 < f_hands) (h1 : 2 ≤ f_hands) (h2 : f_hands ≤ 7) (h3 : f_hands ≤ z7760) (h4 : 2 ≤ f_hands ∧ f_hands ≤ 7) (h5 : 2 ≤ z7760 ∧ z7760 ≤ 7) (h6 : 0 ≤ z8199 ∧ z8199 ≤ 7) : 0 ≤ z8199 ∧ z8199 ≤ 6 := by omega
theorem vc_X12_wish_32 {f_hands z7760 z8199 : Int} (h0 : z8199 < f_hands) (h1 : 2 ≤ f_hands) (h2 : f_hands ≤ 7) (h3 : f_hands ≤ z7760) (h4 : 2 ≤ f_hands ∧ f_hands ≤ 7) (h5 : 2 ≤ z7760 ∧ z7760 ≤ 7) (h6 : 0 ≤ z8199 ∧ z8199 ≤ 6) : 0 ≤ z8199 := by omega
theorem vc_X12_wish_33 {f_hands z7760 z8199 : Int} (h0 : 2 ≤ f_hands) (h1 : f_hands ≤ 7) (h2 : f_hands ≤ z7760) (h3 : z8199 < f_hands) (h4 : 2 ≤ f_hands ∧ f_hands ≤ 7) (h5 : 2 ≤ z7760 ∧ z7760 ≤ 7) (h6 : 0 ≤ z8199 ∧ z8199 ≤ 6) : z8199 < z7760 := by omega
theorem vc_X12_wish_34 {z8222 : Int} (h0 : z8222 ≤ 6) (h1 : 0 ≤ z8222 ∧ z8222 ≤ 9) : 0 ≤ z8222 ∧ z8222 ≤ 6 := by omega
theorem vc_X12_wish_35 {N f_hands z7760 z8199 : Int} (h0 : (8 - z8199) < N + 1) (h1 : z8199 < f_hands) (h2 : 2 ≤ f_hands) (h3 : f_hands ≤ 7) (h4 : f_hands ≤ z7760) (h5 : 2 ≤ f_hands ∧ f_hands ≤ 7) (h6 : 2 ≤ z7760 ∧ z7760 ≤ 7) (h7 : 0 ≤ z8199 ∧ z8199 ≤ 6) : (8 - (z8199 + 1)) < N := by omega
theorem vc_X12_wish_37 {z8075 z8083 : Int} (h0 : z8083 = 5) (h1 : z8083 ≤ z8075) (h2 : 0 ≤ z8075 ∧ z8075 ≤ 5) (h3 : 0 ≤ z8083 ∧ z8083 ≤ 5) : 5 ≤ z8083 ∧ z8083 ≤ 5 := by omega
theorem vc_X12_wish_40 {f_hands z7760 : Int} (h0 : 2 ≤ f_hands) (h1 : f_hands ≤ 7) (h2 : f_hands ≤ z7760) (h3 : 2 ≤ f_hands ∧ f_hands ≤ 7) (h4 : 2 ≤ z7760 ∧ z7760 ≤ 7) : f_hands ≤ 7 := by omega
theorem vc_X12_wish_46 {f_hands z7760 : Int} (h0 : z7760 < f_hands) (h1 : 2 ≤ f_hands) (h2 : f_hands ≤ 7) (h3 : 2 ≤ f_hands ∧ f_hands ≤ 7) (h4 : 0 ≤ z7760 ∧ z7760 ≤ 7) : 0 ≤ z7760 ∧ z7760 ≤ 6 := by omega
theorem vc_X12_wish_48 {z8246 : Int} (h0 : 6 < z8246) (h1 : 0 ≤ z8246 ∧ z8246 ≤ 9) : 7 ≤ z8246 ∧ z8246 ≤ 9 := by omega
theorem vc_X12_wish_49 {z8283 : Int} (h0 : (7 - z8283) < ((0 : Nat) : Int)) (h1 : 0 ≤ z8283 ∧ z8283 ≤ 6) : False := by omega
theorem vc_X12_wish_50 {N f_hands z7760 z8283 : Int} (h0 : (8 - z7760) < N + 1) (h1 : z7760 < f_hands) (h2 : z7760 ≤ z8283) (h3 : 2 ≤ f_hands) (h4 : f_hands ≤ 7) (h5 : 2 ≤ f_hands ∧ f_hands ≤ 7) (h6 : 0 ≤ z7760 ∧ z7760 ≤ 6) (h7 : 0 ≤ z8283 ∧ z8283 ≤ 6) : (8 - (z7760 + 1)) < N := by omega
theorem vc_X12_wish_51 {z8284 : Int} (h0 : 0 ≤ z8284 ∧ z8284 ≤ 0) : ¬ z8284 = 1 := by omega
theorem vc_X12_wish_52 {f_hands z7760 z8283 : Int} (h0 : z8283 < z7760) (h1 : z7760 < f_hands) (h2 : 2 ≤ f_hands ∧ f_hands ≤ 7) (h3 : 0 ≤ z7760 ∧ z7760 ≤ 6) (h4 : 0 ≤ z8283 ∧ z8283 ≤ 6) : 0 ≤ z8283 ∧ z8283 ≤ 5 := by omega
theorem vc_X12_wish_53 {f_hands z7760 z8283 : Int} (h0 : z8283 < z7760) (h1 : z7760 < f_hands) (h2 : 2 ≤ f_hands ∧ f_hands ≤ 7) (h3 : 0 ≤ z7760 ∧ z7760 ≤ 6) (h4 : 0 ≤ z8283 ∧ z8283 ≤ 5) : 1 ≤ z7760 ∧ z7760 ≤ 6 := by omega
theorem vc_X12_wish_55 {N f_hands z7760 z8283 : Int} (h0 : (7 - z8283) < N + 1) (h1 : z8283 < z7760) (h2 : z7760 < f_hands) (h3 : 2 ≤ f_hands ∧ f_hands ≤ 7) (h4 : 1 ≤ z7760 ∧ z7760 ≤ 6) (h5 : 0 ≤ z8283 ∧ z8283 ≤ 5) : (7 - (z8283 + 1)) < N := by omega
theorem vc_X12_wish_56  : (7 - 0) < ((8 : Nat) : Int) := by omega
theorem vc_X12_wish_60 {z8246 : Int} (h0 : z8246 ≤ 6) (h1 : 0 ≤ z8246 ∧ z8246 ≤ 6) : z8246 ≤ 6 := by omega
theorem vc_X12_wish_66 {z8246 z8407 : Int} (h0 : z8246 = z8407) (h1 : z8246 ≤ 6) (h2 : 0 ≤ z8246 ∧ z8246 ≤ 6) (h3 : 0 ≤ z8407 ∧ z8407 ≤ 9) : 0 ≤ z8407 ∧ z8407 ≤ 6 := by omega
set_option maxRecDepth 4000 in
set_option maxHeartbeats 4000000 in
theorem c_X12_wish {l : Launch} {D : va_G} {c : Nat → ClassId} {H0 : Heap} {sa : Nat × Nat × (Nat → Int32)} {w : mW} {μ : mM} (hw : mWF w) (hT : mT w μ) {f_hands : Int} (q_f_hands : μ 106 15 = f_hands) : sC (gG l D c H0 sa) mX12_wish 2 0 0 [.ref 106] (mk w μ) (qI w [184999, 185999, 186999] μ (fun z μ1 => ((-2147483648) ≤ z ∧ z ≤ 2147483647) ∧ True)) := by
  refine sC.of rfl (by decide) (le_t rfl) ?_
  have ht_f_hands : (0 ≤ f_hands ∧ f_hands ≤ 20) := by rw [← q_f_hands]; exact hT 106 106 (A_106 hw) 15
  refine mr_lvE (lv' := [(0, .ref 106)]) rfl ?_
  refine sv_aload_n (pc := 0) dX12_wish_0 rfl rfl ?_
  refine gk_X12_15 (pc := 1) dX12_wish_1 wF_X12_79 (A_106 hw) q_f_hands ?_
  refine mr_iconst (pc := 4) (z := 2) dX12_wish_4 ?_
  refine mr_icmp_lt (pc := 5) (tgt := 44) dX12_wish_5 (by decide) (r32 ht_f_hands rfl) (r32 (rR (x := 2)) rfl) (fun h6499 => ?_) (fun h6499 => ?_)
  · have h6500 : 0 ≤ f_hands ∧ f_hands ≤ 1 := (vc_X12_wish_1 h6499 ht_f_hands)
    refine mr_iconst (pc := 44) (z := 0) dX12_wish_44 ?_
    refine mr_istore_n (pc := 45) (lv' := [(1, iv 0), (0, .ref 106)]) dX12_wish_45 rfl (by decide) rfl ?_
    refine mr_iconst (pc := 46) (z := 0) dX12_wish_46 ?_
    refine mr_istore_n (pc := 47) (lv' := [(2, iv 0), (1, iv 0), (0, .ref 106)]) dX12_wish_47 rfl (by decide) rfl ?_
    have L6511 : ∀ (nL6511 : Nat) (z6510 z6509 : Int), True → (0 ≤ z6510 ∧ z6510 ≤ 0) → (0 ≤ z6509 ∧ z6509 ≤ 0) → (z6510 = 1 → allLe μ 118 z6509 6) → 1 < (nL6511 : Int) → sV (gG l D c H0 sa) mX12_wish (sRm 2 0 0) (sZ (gG l D c H0 sa) 0 0 (qI w [184999, 185999, 186999] μ (fun z μ1 => ((-2147483648) ≤ z ∧ z ≤ 2147483647) ∧ True))) 48 [(0, .ref 106), (1, iv z6510), (2, iv z6509)] [] (mk w μ) 0 0 := by
      intro nL6511
      induction nL6511 with
      | zero => intro z6510 z6509 _ h6512 h6513 R6517 h6518; exact ((vc_X12_wish_2 h6518)).elim
      | succ nL6511 ih6519 =>
        intro z6510 z6509 _ h6512 h6513 R6517 h6518
        refine mr_iload_n (pc := 48) (z := z6509) dX12_wish_48 rfl rfl ?_
        refine sv_aload_n (pc := 49) dX12_wish_49 rfl rfl ?_
        refine gk_X12_15 (pc := 50) dX12_wish_50 wF_X12_79 (A_106 hw) q_f_hands ?_
        refine mr_icmp_ge (pc := 53) (tgt := 121) dX12_wish_53 (by decide) (r32 h6513 rfl) (r32 h6500 rfl) (fun h6520 => ?_) (fun h6520 => ?_)
        · have h6521 : 0 ≤ f_hands ∧ f_hands ≤ 0 := (vc_X12_wish_3 h6520 h6499 h6500 h6513)
          refine mr_iload_n (pc := 121) (z := z6510) dX12_wish_121 rfl rfl ?_
          refine mr_if_ne (pc := 122) (tgt := 127) dX12_wish_122 (by decide) (r32 h6512 rfl) (fun h => ((vc_X10_firstWrongStep_7 h h6512)).elim) (fun _ => ?_)
          refine mr_iconst (pc := 125) (z := (-1)) dX12_wish_125 ?_
          exact mr_iret dX12_wish_126 rfl (le_t rfl) (le_t rfl) hT mF.refl ⟨(rW (c := (-2147483648)) (d := 2147483647) (rR (x := (-1))) rfl), trivial⟩
        have h6522 : 1 ≤ f_hands ∧ f_hands ≤ 1 := (vc_X12_wish_5 h6520 h6499 h6500 h6513)
        refine mr_iload_n (pc := 56) (z := z6510) dX12_wish_56 rfl rfl ?_
        refine mr_if_eq (pc := 57) (tgt := 121) dX12_wish_57 (by decide) (r32 h6512 rfl) (fun _ => ?_) (fun h => ((vc_X10_firstWrongStep_7 h h6512)).elim)
        refine mr_iload_n (pc := 121) (z := z6510) dX12_wish_121 rfl rfl ?_
        refine mr_if_ne (pc := 122) (tgt := 127) dX12_wish_122 (by decide) (r32 h6512 rfl) (fun h => ((vc_X10_firstWrongStep_7 h h6512)).elim) (fun _ => ?_)
        refine mr_iconst (pc := 125) (z := (-1)) dX12_wish_125 ?_
        exact mr_iret dX12_wish_126 rfl (le_t rfl) (le_t rfl) hT mF.refl ⟨(rW (c := (-2147483648)) (d := 2147483647) (rR (x := (-1))) rfl), trivial⟩
    refine mr_lvS (lv' := [(0, .ref 106), (1, iv 0), (2, iv 0)]) (List.forall_mem_cons.mpr ⟨rfl, List.forall_mem_cons.mpr ⟨rfl, List.forall_mem_cons.mpr ⟨rfl, fun _ h => absurd h List.not_mem_nil⟩⟩⟩) ?_
    exact L6511 2 0 0 trivial (rR (x := 0)) (rR (x := 0)) (fun _ => allLe.zero (Int.le_refl 0)) vc_X12_wish_6
  have h6523 : 2 ≤ f_hands ∧ f_hands ≤ 20 := (vc_X12_wish_7 h6499 ht_f_hands)
  refine sv_aload_n (pc := 8) dX12_wish_8 rfl rfl ?_
  refine gk_X12_15 (pc := 9) dX12_wish_9 wF_X12_79 (A_106 hw) q_f_hands ?_
  refine mr_bipush (pc := 12) (z := 7) dX12_wish_12 (by decide) ?_
  refine mr_icmp_gt (pc := 14) (tgt := 44) dX12_wish_14 (by decide) (r32 h6523 rfl) (r32 (rR (x := 7)) rfl) (fun h6524 => ?_) (fun h6524 => ?_)
  · have h6525 : 8 ≤ f_hands ∧ f_hands ≤ 20 := (vc_X12_wish_8 h6524 h6499 h6523)
    refine mr_iconst (pc := 44) (z := 0) dX12_wish_44 ?_
    refine mr_istore_n (pc := 45) (lv' := [(1, iv 0), (0, .ref 106)]) dX12_wish_45 rfl (by decide) rfl ?_
    refine mr_iconst (pc := 46) (z := 0) dX12_wish_46 ?_
    refine mr_istore_n (pc := 47) (lv' := [(2, iv 0), (1, iv 0), (0, .ref 106)]) dX12_wish_47 rfl (by decide) rfl ?_
    have L6532 : ∀ (nL6532 : Nat) (z6531 z6530 : Int), True → (0 ≤ z6531 ∧ z6531 ≤ 0) → (0 ≤ z6530 ∧ z6530 ≤ 0) → (z6531 = 1 → allLe μ 118 z6530 6) → 1 < (nL6532 : Int) → sV (gG l D c H0 sa) mX12_wish (sRm 2 0 0) (sZ (gG l D c H0 sa) 0 0 (qI w [184999, 185999, 186999] μ (fun z μ1 => ((-2147483648) ≤ z ∧ z ≤ 2147483647) ∧ True))) 48 [(0, .ref 106), (1, iv z6531), (2, iv z6530)] [] (mk w μ) 0 0 := by
      intro nL6532
      induction nL6532 with
      | zero => intro z6531 z6530 _ h6533 h6534 R6538 h6539; exact ((vc_X12_wish_2 h6539)).elim
      | succ nL6532 ih6540 =>
        intro z6531 z6530 _ h6533 h6534 R6538 h6539
        refine mr_iload_n (pc := 48) (z := z6530) dX12_wish_48 rfl rfl ?_
        refine sv_aload_n (pc := 49) dX12_wish_49 rfl rfl ?_
        refine gk_X12_15 (pc := 50) dX12_wish_50 wF_X12_79 (A_106 hw) q_f_hands ?_
        refine mr_icmp_ge (pc := 53) (tgt := 121) dX12_wish_53 (by decide) (r32 h6534 rfl) (r32 h6525 rfl) (fun h => ((vc_X12_wish_9 h h6525 h6534)).elim) (fun _ => ?_)
        refine mr_iload_n (pc := 56) (z := z6531) dX12_wish_56 rfl rfl ?_
        refine mr_if_eq (pc := 57) (tgt := 121) dX12_wish_57 (by decide) (r32 h6533 rfl) (fun _ => ?_) (fun h => ((vc_X10_firstWrongStep_7 h h6533)).elim)
        refine mr_iload_n (pc := 121) (z := z6531) dX12_wish_121 rfl rfl ?_
        refine mr_if_ne (pc := 122) (tgt := 127) dX12_wish_122 (by decide) (r32 h6533 rfl) (fun h => ((vc_X10_firstWrongStep_7 h h6533)).elim) (fun _ => ?_)
        refine mr_iconst (pc := 125) (z := (-1)) dX12_wish_125 ?_
        exact mr_iret dX12_wish_126 rfl (le_t rfl) (le_t rfl) hT mF.refl ⟨(rW (c := (-2147483648)) (d := 2147483647) (rR (x := (-1))) rfl), trivial⟩
    refine mr_lvS (lv' := [(0, .ref 106), (1, iv 0), (2, iv 0)]) (List.forall_mem_cons.mpr ⟨rfl, List.forall_mem_cons.mpr ⟨rfl, List.forall_mem_cons.mpr ⟨rfl, fun _ h => absurd h List.not_mem_nil⟩⟩⟩) ?_
    exact L6532 2 0 0 trivial (rR (x := 0)) (rR (x := 0)) (fun _ => allLe.zero (Int.le_refl 0)) vc_X12_wish_6
  have h6541 : 2 ≤ f_hands ∧ f_hands ≤ 7 := (vc_X12_wish_11 h6524 h6499 h6523)
  refine sv_aload_n (pc := 17) dX12_wish_17 rfl rfl ?_
  refine gf_X12_16 (pc := 18) dX12_wish_18 wF_X12_82 (A_106 hw) hT ?_
  refine mr_iconst (pc := 21) (z := 0) dX12_wish_21 ?_
  refine la_118 (pc := 22) dX12_wish_22 (A_118 hw) hT (rIx (n := 20) (rR (x := 0)) rfl) fun z6542 q6543 h6544 => ?_
  refine mr_if_eq (pc := 23) (tgt := 44) dX12_wish_23 (by decide) (r32 h6544 rfl) (fun h6545 => ?_) (fun h6545 => ?_)
  · have h6546 : 0 ≤ z6542 ∧ z6542 ≤ 0 := (vc_X12_wish_12 h6545 h6544)
    refine mr_iconst (pc := 44) (z := 0) dX12_wish_44 ?_
    refine mr_istore_n (pc := 45) (lv' := [(1, iv 0), (0, .ref 106)]) dX12_wish_45 rfl (by decide) rfl ?_
    refine mr_iconst (pc := 46) (z := 0) dX12_wish_46 ?_
    refine mr_istore_n (pc := 47) (lv' := [(2, iv 0), (1, iv 0), (0, .ref 106)]) dX12_wish_47 rfl (by decide) rfl ?_
    have L6553 : ∀ (nL6553 : Nat) (z6552 z6551 : Int), True → (0 ≤ z6552 ∧ z6552 ≤ 0) → (0 ≤ z6551 ∧ z6551 ≤ 0) → (z6552 = 1 → allLe μ 118 z6551 6) → 1 < (nL6553 : Int) → sV (gG l D c H0 sa) mX12_wish (sRm 2 0 0) (sZ (gG l D c H0 sa) 0 0 (qI w [184999, 185999, 186999] μ (fun z μ1 => ((-2147483648) ≤ z ∧ z ≤ 2147483647) ∧ True))) 48 [(0, .ref 106), (1, iv z6552), (2, iv z6551)] [] (mk w μ) 0 0 := by
      intro nL6553
      induction nL6553 with
      | zero => intro z6552 z6551 _ h6554 h6555 R6559 h6560; exact ((vc_X12_wish_2 h6560)).elim
      | succ nL6553 ih6561 =>
        intro z6552 z6551 _ h6554 h6555 R6559 h6560
        refine mr_iload_n (pc := 48) (z := z6551) dX12_wish_48 rfl rfl ?_
        refine sv_aload_n (pc := 49) dX12_wish_49 rfl rfl ?_
        refine gk_X12_15 (pc := 50) dX12_wish_50 wF_X12_79 (A_106 hw) q_f_hands ?_
        refine mr_icmp_ge (pc := 53) (tgt := 121) dX12_wish_53 (by decide) (r32 h6555 rfl) (r32 h6541 rfl) (fun h => ((vc_X12_wish_13 h h6541 h6555)).elim) (fun _ => ?_)
        refine mr_iload_n (pc := 56) (z := z6552) dX12_wish_56 rfl rfl ?_
        refine mr_if_eq (pc := 57) (tgt := 121) dX12_wish_57 (by decide) (r32 h6554 rfl) (fun _ => ?_) (fun h => ((vc_X10_firstWrongStep_7 h h6554)).elim)
        refine mr_iload_n (pc := 121) (z := z6552) dX12_wish_121 rfl rfl ?_
        refine mr_if_ne (pc := 122) (tgt := 127) dX12_wish_122 (by decide) (r32 h6554 rfl) (fun h => ((vc_X10_firstWrongStep_7 h h6554)).elim) (fun _ => ?_)
        refine mr_iconst (pc := 125) (z := (-1)) dX12_wish_125 ?_
        exact mr_iret dX12_wish_126 rfl (le_t rfl) (le_t rfl) hT mF.refl ⟨(rW (c := (-2147483648)) (d := 2147483647) (rR (x := (-1))) rfl), trivial⟩
    refine mr_lvS (lv' := [(0, .ref 106), (1, iv 0), (2, iv 0)]) (List.forall_mem_cons.mpr ⟨rfl, List.forall_mem_cons.mpr ⟨rfl, List.forall_mem_cons.mpr ⟨rfl, fun _ h => absurd h List.not_mem_nil⟩⟩⟩) ?_
    exact L6553 2 0 0 trivial (rR (x := 0)) (rR (x := 0)) (fun _ => allLe.zero (Int.le_refl 0)) vc_X12_wish_6
  have h6562 : 1 ≤ z6542 ∧ z6542 ≤ 9 := (vc_X12_wish_15 h6545 h6544)
  refine sv_aload_n (pc := 26) dX12_wish_26 rfl rfl ?_
  refine gf_X12_16 (pc := 27) dX12_wish_27 wF_X12_82 (A_106 hw) hT ?_
  refine sv_aload_n (pc := 30) dX12_wish_30 rfl rfl ?_
  refine gk_X12_15 (pc := 31) dX12_wish_31 wF_X12_79 (A_106 hw) q_f_hands ?_
  refine mr_iconst (pc := 34) (z := 1) dX12_wish_34 ?_
  refine mr_isub (pc := 35) (x := f_hands) (y := 1) dX12_wish_35 ?_
  refine la_118 (pc := 36) dX12_wish_36 (A_118 hw) hT (rIx (n := 20) (rSub (e := 1) (f := 6) h6541 (rR (x := 1)) rfl) rfl) fun z6563 q6564 h6565 => ?_
  refine mr_if_ne (pc := 37) (tgt := 44) dX12_wish_37 (by decide) (r32 h6565 rfl) (fun h6566 => ?_) (fun h6566 => ?_)
  · have h6567 : 1 ≤ z6563 ∧ z6563 ≤ 9 := (vc_X12_wish_15 h6566 h6565)
    refine mr_iconst (pc := 44) (z := 0) dX12_wish_44 ?_
    refine mr_istore_n (pc := 45) (lv' := [(1, iv 0), (0, .ref 106)]) dX12_wish_45 rfl (by decide) rfl ?_
    refine mr_iconst (pc := 46) (z := 0) dX12_wish_46 ?_
    refine mr_istore_n (pc := 47) (lv' := [(2, iv 0), (1, iv 0), (0, .ref 106)]) dX12_wish_47 rfl (by decide) rfl ?_
    have L6574 : ∀ (nL6574 : Nat) (z6573 z6572 : Int), True → (0 ≤ z6573 ∧ z6573 ≤ 0) → (0 ≤ z6572 ∧ z6572 ≤ 0) → (z6573 = 1 → allLe μ 118 z6572 6) → 1 < (nL6574 : Int) → sV (gG l D c H0 sa) mX12_wish (sRm 2 0 0) (sZ (gG l D c H0 sa) 0 0 (qI w [184999, 185999, 186999] μ (fun z μ1 => ((-2147483648) ≤ z ∧ z ≤ 2147483647) ∧ True))) 48 [(0, .ref 106), (1, iv z6573), (2, iv z6572)] [] (mk w μ) 0 0 := by
      intro nL6574
      induction nL6574 with
      | zero => intro z6573 z6572 _ h6575 h6576 R6580 h6581; exact ((vc_X12_wish_2 h6581)).elim
      | succ nL6574 ih6582 =>
        intro z6573 z6572 _ h6575 h6576 R6580 h6581
        refine mr_iload_n (pc := 48) (z := z6572) dX12_wish_48 rfl rfl ?_
        refine sv_aload_n (pc := 49) dX12_wish_49 rfl rfl ?_
        refine gk_X12_15 (pc := 50) dX12_wish_50 wF_X12_79 (A_106 hw) q_f_hands ?_
        refine mr_icmp_ge (pc := 53) (tgt := 121) dX12_wish_53 (by decide) (r32 h6576 rfl) (r32 h6541 rfl) (fun h => ((vc_X12_wish_13 h h6541 h6576)).elim) (fun _ => ?_)
        refine mr_iload_n (pc := 56) (z := z6573) dX12_wish_56 rfl rfl ?_
        refine mr_if_eq (pc := 57) (tgt := 121) dX12_wish_57 (by decide) (r32 h6575 rfl) (fun _ => ?_) (fun h => ((vc_X10_firstWrongStep_7 h h6575)).elim)
        refine mr_iload_n (pc := 121) (z := z6573) dX12_wish_121 rfl rfl ?_
        refine mr_if_ne (pc := 122) (tgt := 127) dX12_wish_122 (by decide) (r32 h6575 rfl) (fun h => ((vc_X10_firstWrongStep_7 h h6575)).elim) (fun _ => ?_)
        refine mr_iconst (pc := 125) (z := (-1)) dX12_wish_125 ?_
        exact mr_iret dX12_wish_126 rfl (le_t rfl) (le_t rfl) hT mF.refl ⟨(rW (c := (-2147483648)) (d := 2147483647) (rR (x := (-1))) rfl), trivial⟩
    refine mr_lvS (lv' := [(0, .ref 106), (1, iv 0), (2, iv 0)]) (List.forall_mem_cons.mpr ⟨rfl, List.forall_mem_cons.mpr ⟨rfl, List.forall_mem_cons.mpr ⟨rfl, fun _ h => absurd h List.not_mem_nil⟩⟩⟩) ?_
    exact L6574 2 0 0 trivial (rR (x := 0)) (rR (x := 0)) (fun _ => allLe.zero (Int.le_refl 0)) vc_X12_wish_6
  have h6583 : 0 ≤ z6563 ∧ z6563 ≤ 0 := (vc_X12_wish_12 h6566 h6565)
  refine mr_iconst (pc := 40) (z := 1) dX12_wish_40 ?_
  refine sv_goto (pc := 41) (tgt := 45) dX12_wish_41 (by decide) ?_
  refine mr_istore_n (pc := 45) (lv' := [(1, iv 1), (0, .ref 106)]) dX12_wish_45 rfl (by decide) rfl ?_
  refine mr_iconst (pc := 46) (z := 0) dX12_wish_46 ?_
  refine mr_istore_n (pc := 47) (lv' := [(2, iv 0), (1, iv 1), (0, .ref 106)]) dX12_wish_47 rfl (by decide) rfl ?_
  have L7762 : ∀ (nL7762 : Nat) (z7761 z7760 : Int), True → (0 ≤ z7761 ∧ z7761 ≤ 1) → (0 ≤ z7760 ∧ z7760 ≤ 7) → (z7761 = 1 → allLe μ 118 z7760 6) → (8 - z7760) < (nL7762 : Int) → sV (gG l D c H0 sa) mX12_wish (sRm 2 0 0) (sZ (gG l D c H0 sa) 0 0 (qI w [184999, 185999, 186999] μ (fun z μ1 => ((-2147483648) ≤ z ∧ z ≤ 2147483647) ∧ True))) 48 [(0, .ref 106), (1, iv z7761), (2, iv z7760)] [] (mk w μ) 0 0 := by
    intro nL7762
    induction nL7762 with
    | zero => intro z7761 z7760 _ h7763 h7764 R7768 h7769; exact ((vc_X12_isWished_2 h7769 h7764)).elim
    | succ nL7762 ih7770 =>
      intro z7761 z7760 _ h7763 h7764 R7768 h7769
      refine mr_iload_n (pc := 48) (z := z7760) dX12_wish_48 rfl rfl ?_
      refine sv_aload_n (pc := 49) dX12_wish_49 rfl rfl ?_
      refine gk_X12_15 (pc := 50) dX12_wish_50 wF_X12_79 (A_106 hw) q_f_hands ?_
      refine mr_icmp_ge (pc := 53) (tgt := 121) dX12_wish_53 (by decide) (r32 h7764 rfl) (r32 h6541 rfl) (fun h7771 => ?_) (fun h7771 => ?_)
      · have h7772 : 2 ≤ z7760 ∧ z7760 ≤ 7 := (vc_X12_wish_21 h7771 h6499 h6524 h6541 h7764)
        refine mr_iload_n (pc := 121) (z := z7761) dX12_wish_121 rfl rfl ?_
        refine mr_if_ne (pc := 122) (tgt := 127) dX12_wish_122 (by decide) (r32 h7763 rfl) (fun h7773 => ?_) (fun h7773 => ?_)
        · have h7774 : 1 ≤ z7761 ∧ z7761 ≤ 1 := (vc_X12_ring_24 h7773 h7763)
          refine sv_aload_n (pc := 127) dX12_wish_127 rfl rfl ?_
          refine gf_X12_16 (pc := 128) dX12_wish_128 wF_X12_82 (A_106 hw) hT ?_
          refine mr_iconst (pc := 131) (z := 0) dX12_wish_131 ?_
          refine lk_118 (pc := 132) dX12_wish_132 (A_118 hw) (rIx (n := 20) (rR (x := 0)) rfl) q6543 ?_
          have h7775 : z6542 ≤ 6 := allLe.at (R7768 (vc_X12_wish_23 h7773 h7774)) vc_X12_through_6 (vc_X12_wish_25 h6499 h6524 h7771 h6541 h7772) q6543
          have h7776 : 1 ≤ z6542 ∧ z6542 ≤ 6 := (vc_X12_wish_26 h7775 h6545 h6562)
          refine mr_istore_n (pc := 133) (lv' := [(2, iv z6542), (0, .ref 106), (1, iv z7761)]) dX12_wish_133 rfl (by decide) rfl ?_
          refine mr_iconst (pc := 134) (z := 0) dX12_wish_134 ?_
          refine mr_istore_n (pc := 135) (lv' := [(3, iv 0), (2, iv z6542), (0, .ref 106), (1, iv z7761)]) dX12_wish_135 rfl (by decide) rfl ?_
          have L8076 : ∀ (nL8076 : Nat) (z8075 : Int), True → (0 ≤ z8075 ∧ z8075 ≤ 5) → (6 - z8075) < (nL8076 : Int) → sV (gG l D c H0 sa) mX12_wish (sRm 2 0 0) (sZ (gG l D c H0 sa) 0 0 (qI w [184999, 185999, 186999] μ (fun z μ1 => ((-2147483648) ≤ z ∧ z ≤ 2147483647) ∧ True))) 136 [(0, .ref 106), (2, iv z6542), (3, iv z8075)] [] (mk w μ) 0 0 := by
            intro nL8076
            induction nL8076 with
            | zero => intro z8075 _ h8077 h8081; exact ((vc_X12_acted_1 h8081 h8077)).elim
            | succ nL8076 ih8082 =>
              intro z8075 _ h8077 h8081
              refine mr_iload_n (pc := 136) (z := z8075) dX12_wish_136 rfl rfl ?_
              refine sv_aload_n (pc := 137) dX12_wish_137 rfl rfl ?_
              refine gf_X12_118 (pc := 138) dX12_wish_138 wF_X12_514 (A_106 hw) hT ?_
              refine mr_iload_n (pc := 141) (z := z6542) dX12_wish_141 rfl rfl ?_
              refine la_184 (pc := 142) dX12_wish_142 (A_184 hw) hT (rIx (n := 7) h7776 rfl) fun z8083 q8084 h8085 => ?_
              refine mr_icmp_ge (pc := 143) (tgt := 164) dX12_wish_143 (by decide) (r32 h8077 rfl) (r32 h8085 rfl) (fun h8086 => ?_) (fun h8086 => ?_)
              · refine sv_aload_n (pc := 164) dX12_wish_164 rfl rfl ?_
                refine gf_X12_118 (pc := 165) dX12_wish_165 wF_X12_514 (A_106 hw) hT ?_
                refine mr_iload_n (pc := 168) (z := z6542) dX12_wish_168 rfl rfl ?_
                refine lk_184 (pc := 169) dX12_wish_169 (A_184 hw) (rIx (n := 7) h7776 rfl) q8084 ?_
                refine mr_iconst (pc := 170) (z := 5) dX12_wish_170 ?_
                refine mr_icmp_ne (pc := 171) (tgt := 177) dX12_wish_171 (by decide) (r32 h8085 rfl) (r32 (rR (x := 5)) rfl) (fun h8087 => ?_) (fun h8087 => ?_)
                · have h8088 : 0 ≤ z8083 ∧ z8083 ≤ 4 := (vc_X12_wish_28 h8087 h8086 h8077 h8085)
                  refine mr_iconst (pc := 177) (z := 5) dX12_wish_177 ?_
                  refine mr_iload_n (pc := 178) (z := z6542) dX12_wish_178 rfl rfl ?_
                  refine mr_imul (pc := 179) (x := 5) (y := z6542) dX12_wish_179 ?_
                  refine sv_aload_n (pc := 180) dX12_wish_180 rfl rfl ?_
                  refine gf_X12_118 (pc := 181) dX12_wish_181 wF_X12_514 (A_106 hw) hT ?_
                  refine mr_iload_n (pc := 184) (z := z6542) dX12_wish_184 rfl rfl ?_
                  refine lk_184 (pc := 185) dX12_wish_185 (A_184 hw) (rIx (n := 7) h7776 rfl) q8084 ?_
                  refine mr_iadd (pc := 186) (x := (5 * z6542)) (y := z8083) dX12_wish_186 ?_
                  refine mr_istore_n (pc := 187) (lv' := [(3, iv ((5 * z6542) + z8083)), (0, .ref 106), (2, iv z6542)]) dX12_wish_187 rfl (by decide) rfl ?_
                  refine sv_aload_n (pc := 188) dX12_wish_188 rfl rfl ?_
                  refine gf_X12_119 (pc := 189) dX12_wish_189 wF_X12_517 (A_106 hw) hT ?_
                  refine mr_iload_n (pc := 192) (z := ((5 * z6542) + z8083)) dX12_wish_192 rfl rfl ?_
                  refine sv_aload_n (pc := 193) dX12_wish_193 rfl rfl ?_
                  refine gk_X12_15 (pc := 194) dX12_wish_194 wF_X12_79 (A_106 hw) q_f_hands ?_
                  refine ss_185 (pc := 197) dX12_wish_197 (A_185 hw) hT (rIx (n := 35) (rAdd (e := 5) (f := 34) (rMulL (n := 5) (e := 5) (f := 30) h7776 rfl) h8088 rfl) rfl) (rW (c := 0) (d := 7) h6541 rfl) fun μ8089 u8090 T8091 => ?_
                  refine mr_iconst (pc := 198) (z := 0) dX12_wish_198 ?_
                  refine mr_istore (pc := 199) (lv' := [(4, iv 0), (3, iv ((5 * z6542) + z8083)), (0, .ref 106), (2, iv z6542)]) dX12_wish_199 (by decide) rfl ?_
                  have L8201 : ∀ (nL8201 : Nat) (z8199 : Int) (μ8200 : mM), mT w μ8200 → mF [186999] w μ8089 μ8200 → (0 ≤ z8199 ∧ z8199 ≤ 7) → (8 - z8199) < (nL8201 : Int) → sV (gG l D c H0 sa) mX12_wish (sRm 2 0 0) (sZ (gG l D c H0 sa) 0 0 (qI w [184999, 185999, 186999] μ (fun z μ1 => ((-2147483648) ≤ z ∧ z ≤ 2147483647) ∧ True))) 201 [(0, .ref 106), (2, iv z6542), (3, iv ((5 * z6542) + z8083)), (4, iv z8199)] [] (mk w μ8200) 0 0 := by
                    intro nL8201
                    induction nL8201 with
                    | zero => intro z8199 μ8200 T8203 F8204 h8202 h8206; exact ((vc_X12_isWished_2 h8206 h8202)).elim
                    | succ nL8201 ih8207 =>
                      intro z8199 μ8200 T8203 F8204 h8202 h8206
                      refine mr_iload (pc := 201) (z := z8199) dX12_wish_201 rfl ?_
                      refine sv_aload_n (pc := 203) dX12_wish_203 rfl rfl ?_
                      refine gk_X12_15 (pc := 204) dX12_wish_204 wF_X12_79 (A_106 hw) (F8204.f (A_106 hw) rfl (u8090.f (Or.inl (mAt.ne (A_185 hw) (A_106 hw) rfl)) q_f_hands)) ?_
                      refine mr_icmp_ge (pc := 207) (tgt := 235) dX12_wish_207 (by decide) (r32 h8202 rfl) (r32 h6541 rfl) (fun h8216 => ?_) (fun h8216 => ?_)
                      · have h8217 : 2 ≤ z8199 ∧ z8199 ≤ 7 := (vc_X12_wish_30 h8216 h6499 h6524 h7771 h6541 h7772 h8202)
                        refine sv_aload_n (pc := 235) dX12_wish_235 rfl rfl ?_
                        refine gf_X12_118 (pc := 236) dX12_wish_236 wF_X12_514 (A_106 hw) T8203 ?_
                        refine mr_iload_n (pc := 239) (z := z6542) dX12_wish_239 rfl rfl ?_
                        refine sv_dup2 (pc := 240) dX12_wish_240 rfl rfl ?_
                        refine lk_184 (pc := 241) dX12_wish_241 (A_184 hw) (rIx (n := 7) h7776 rfl) (F8204.f (A_184 hw) rfl (u8090.f (Or.inl (mAt.ne (A_185 hw) (A_184 hw) rfl)) q8084)) ?_
                        refine mr_iconst (pc := 242) (z := 1) dX12_wish_242 ?_
                        refine mr_iadd (pc := 243) (x := z8083) (y := 1) dX12_wish_243 ?_
                        refine ss_184 (pc := 244) dX12_wish_244 (A_184 hw) T8203 (rIx (n := 7) h7776 rfl) (rW (c := 0) (d := 5) (rAdd (e := 1) (f := 5) h8088 (rR (x := 1)) rfl) rfl) fun μ8218 u8219 T8220 => ?_
                        refine sv_aload_n (pc := 245) dX12_wish_245 rfl rfl ?_
                        refine gf_X12_118 (pc := 246) dX12_wish_246 wF_X12_514 (A_106 hw) T8220 ?_
                        refine mr_iload_n (pc := 249) (z := z6542) dX12_wish_249 rfl rfl ?_
                        refine lk_184 (pc := 250) dX12_wish_250 (A_184 hw) (rIx (n := 7) h7776 rfl) u8219.1 ?_
                        exact mr_iret dX12_wish_251 rfl (le_t rfl) (le_t rfl) T8220 (mF.up (mF.call (mF.up mF.refl (A_185 hw) u8090 rfl) F8204 rfl) (A_184 hw) u8219 rfl) ⟨(rW (c := (-2147483648)) (d := 2147483647) (rAdd (e := 1) (f := 5) h8088 (rR (x := 1)) rfl) rfl), trivial⟩
                      have h8221 : 0 ≤ z8199 ∧ z8199 ≤ 6 := (vc_X12_wish_31 h8216 h6499 h6524 h7771 h6541 h7772 h8202)
                      refine sv_aload_n (pc := 210) dX12_wish_210 rfl rfl ?_
                      refine gf_X12_120 (pc := 211) dX12_wish_211 wF_X12_520 (A_106 hw) T8203 ?_
                      refine mr_bipush (pc := 214) (z := 8) dX12_wish_214 (by decide) ?_
                      refine mr_iload_n (pc := 216) (z := ((5 * z6542) + z8083)) dX12_wish_216 rfl rfl ?_
                      refine mr_imul (pc := 217) (x := 8) (y := ((5 * z6542) + z8083)) dX12_wish_217 ?_
                      refine mr_iload (pc := 218) (z := z8199) dX12_wish_218 rfl ?_
                      refine mr_iadd (pc := 220) (x := (8 * ((5 * z6542) + z8083))) (y := z8199) dX12_wish_220 ?_
                      refine sv_aload_n (pc := 221) dX12_wish_221 rfl rfl ?_
                      refine gf_X12_16 (pc := 222) dX12_wish_222 wF_X12_82 (A_106 hw) T8203 ?_
                      refine mr_iload (pc := 225) (z := z8199) dX12_wish_225 rfl ?_
                      refine la_118 (pc := 227) dX12_wish_227 (A_118 hw) T8203 (rIx (n := 20) h8221 rfl) fun z8222 q8223 h8224 => ?_
                      have h8225 : z8222 ≤ 6 := allLe.at (R7768 (vc_X12_wish_23 h7773 h7774)) (vc_X12_wish_32 h8216 h6499 h6524 h7771 h6541 h7772 h8221) (vc_X12_wish_33 h6499 h6524 h7771 h8216 h6541 h7772 h8221) ((((mF.call (mF.up mF.refl (A_185 hw) u8090 rfl) F8204 rfl) : mF [185999, 186999] w μ μ8200).f (A_118 hw) rfl rfl).symm.trans q8223)
                      have h8226 : 0 ≤ z8222 ∧ z8222 ≤ 6 := (vc_X12_wish_34 h8225 h8224)
                      refine ss_186 (pc := 228) dX12_wish_228 (A_186 hw) T8203 (rIx (n := 280) (rAdd (e := 40) (f := 278) (rMulL (n := 8) (e := 40) (f := 272) (rAdd (e := 5) (f := 34) (rMulL (n := 5) (e := 5) (f := 30) h7776 rfl) h8088 rfl) rfl) h8221 rfl) rfl) h8226 fun μ8227 u8228 T8229 => ?_
                      refine mr_iinc (pc := 229) (lv' := [(4, iv (z8199 + 1)), (0, .ref 106), (2, iv z6542), (3, iv ((5 * z6542) + z8083))]) dX12_wish_229 rfl (by decide) rfl ?_
                      refine sv_goto (pc := 232) (tgt := 201) dX12_wish_232 (by decide) ?_
                      refine mr_lvS (lv' := [(0, .ref 106), (2, iv z6542), (3, iv ((5 * z6542) + z8083)), (4, iv (z8199 + 1))]) (List.forall_mem_cons.mpr ⟨rfl, List.forall_mem_cons.mpr ⟨rfl, List.forall_mem_cons.mpr ⟨rfl, List.forall_mem_cons.mpr ⟨rfl, fun _ h => absurd h List.not_mem_nil⟩⟩⟩⟩) ?_
                      exact ih8207 (z8199 + 1) μ8227 T8229 (mF.up (mF.call mF.refl F8204 rfl) (A_186 hw) u8228 rfl) (rW (c := 0) (d := 7) (rAdd (e := 1) (f := 7) h8221 (rR (x := 1)) rfl) rfl) (vc_X12_wish_35 (nS h8206) h8216 h6499 h6524 h7771 h6541 h7772 h8221)
                  refine mr_lvS (lv' := [(0, .ref 106), (2, iv z6542), (3, iv ((5 * z6542) + z8083)), (4, iv 0)]) (List.forall_mem_cons.mpr ⟨rfl, List.forall_mem_cons.mpr ⟨rfl, List.forall_mem_cons.mpr ⟨rfl, List.forall_mem_cons.mpr ⟨rfl, fun _ h => absurd h List.not_mem_nil⟩⟩⟩⟩) ?_
                  exact L8201 9 0 μ8089 T8091 mF.refl (rW (c := 0) (d := 7) (rR (x := 0)) rfl) vc_X12_isWished_9
                have h8230 : 5 ≤ z8083 ∧ z8083 ≤ 5 := (vc_X12_wish_37 h8087 h8086 h8077 h8085)
                refine mr_bipush (pc := 174) (z := (-3)) dX12_wish_174 (by decide) ?_
                exact mr_iret dX12_wish_176 rfl (le_t rfl) (le_t rfl) hT mF.refl ⟨(rW (c := (-2147483648)) (d := 2147483647) (rR (x := (-3))) rfl), trivial⟩
              have h8231 : 0 ≤ z8075 ∧ z8075 ≤ 4 := (vc_X12_acted_2 h8086 h8077 h8085)
              have h8232 : 1 ≤ z8083 ∧ z8083 ≤ 5 := (vc_X12_acted_3 h8086 h8231 h8085)
              refine sv_aload_n (pc := 146) dX12_wish_146 rfl rfl ?_
              refine mr_iload_n (pc := 147) (z := z6542) dX12_wish_147 rfl rfl ?_
              refine mr_iload_n (pc := 148) (z := z8075) dX12_wish_148 rfl rfl ?_
              refine mr_cVP (pc := 149) (c_X12_isWished hw hT (rW (c := 0) (d := 6) h7776 rfl) h8231 q_f_hands (vc_X12_wish_40 h6499 h6524 h7771 h6541 h7772)) (gOk _ _ _ _ _) dX12_wish_149 (tX12_isWished _ _ _ _ _) ⟨wV_X12_isWished, wL_X12_isWished⟩ wM_X12_716 (gCX12 _ _ _ _ _) rfl (A_106 hw) rfl ⟨le_t rfl, le_t rfl⟩ ⟨le_t rfl, le_t rfl⟩ rfl (le_t rfl) fun z8237 h8236 => ?_
              refine mr_if_eq (pc := 152) (tgt := 158) dX12_wish_152 (by decide) (r32 h8236.1 rfl) (fun h8238 => ?_) (fun h8238 => ?_)
              · have h8239 : 0 ≤ z8237 ∧ z8237 ≤ 0 := (vc_X12_ring_22 h8238 h8236.1)
                refine mr_iinc (pc := 158) (lv' := [(3, iv (z8075 + 1)), (0, .ref 106), (2, iv z6542)]) dX12_wish_158 rfl (by decide) rfl ?_
                refine sv_goto (pc := 161) (tgt := 136) dX12_wish_161 (by decide) ?_
                refine mr_lvS (lv' := [(0, .ref 106), (2, iv z6542), (3, iv (z8075 + 1))]) (List.forall_mem_cons.mpr ⟨rfl, List.forall_mem_cons.mpr ⟨rfl, List.forall_mem_cons.mpr ⟨rfl, fun _ h => absurd h List.not_mem_nil⟩⟩⟩) ?_
                exact ih8082 (z8075 + 1) trivial (rW (c := 0) (d := 5) (rAdd (e := 1) (f := 5) h8231 (rR (x := 1)) rfl) rfl) (vc_X12_acted_11 (nS h8081) h8086 h8231 h8232)
              have h8240 : 1 ≤ z8237 ∧ z8237 ≤ 1 := (vc_X12_ring_24 h8238 h8236.1)
              refine mr_bipush (pc := 155) (z := (-2)) dX12_wish_155 (by decide) ?_
              exact mr_iret dX12_wish_157 rfl (le_t rfl) (le_t rfl) hT mF.refl ⟨(rW (c := (-2147483648)) (d := 2147483647) (rR (x := (-2))) rfl), trivial⟩
          refine mr_lvS (lv' := [(0, .ref 106), (2, iv z6542), (3, iv 0)]) (List.forall_mem_cons.mpr ⟨rfl, List.forall_mem_cons.mpr ⟨rfl, List.forall_mem_cons.mpr ⟨rfl, fun _ h => absurd h List.not_mem_nil⟩⟩⟩) ?_
          exact L8076 7 0 trivial (rW (c := 0) (d := 5) (rR (x := 0)) rfl) vc_X12_acted_13
        have h8241 : 0 ≤ z7761 ∧ z7761 ≤ 0 := (vc_X12_ring_22 h7773 h7763)
        refine mr_iconst (pc := 125) (z := (-1)) dX12_wish_125 ?_
        exact mr_iret dX12_wish_126 rfl (le_t rfl) (le_t rfl) hT mF.refl ⟨(rW (c := (-2147483648)) (d := 2147483647) (rR (x := (-1))) rfl), trivial⟩
      have h8242 : 0 ≤ z7760 ∧ z7760 ≤ 6 := (vc_X12_wish_46 h7771 h6499 h6524 h6541 h7764)
      refine mr_iload_n (pc := 56) (z := z7761) dX12_wish_56 rfl rfl ?_
      refine mr_if_eq (pc := 57) (tgt := 121) dX12_wish_57 (by decide) (r32 h7763 rfl) (fun h8243 => ?_) (fun h8243 => ?_)
      · have h8244 : 0 ≤ z7761 ∧ z7761 ≤ 0 := (vc_X12_ring_22 h8243 h7763)
        refine mr_iload_n (pc := 121) (z := z7761) dX12_wish_121 rfl rfl ?_
        refine mr_if_ne (pc := 122) (tgt := 127) dX12_wish_122 (by decide) (r32 h8244 rfl) (fun h => ((vc_X10_firstWrongStep_7 h h8244)).elim) (fun _ => ?_)
        refine mr_iconst (pc := 125) (z := (-1)) dX12_wish_125 ?_
        exact mr_iret dX12_wish_126 rfl (le_t rfl) (le_t rfl) hT mF.refl ⟨(rW (c := (-2147483648)) (d := 2147483647) (rR (x := (-1))) rfl), trivial⟩
      have h8245 : 1 ≤ z7761 ∧ z7761 ≤ 1 := (vc_X12_ring_24 h8243 h7763)
      refine sv_aload_n (pc := 60) dX12_wish_60 rfl rfl ?_
      refine gf_X12_16 (pc := 61) dX12_wish_61 wF_X12_82 (A_106 hw) hT ?_
      refine mr_iload_n (pc := 64) (z := z7760) dX12_wish_64 rfl rfl ?_
      refine la_118 (pc := 65) dX12_wish_65 (A_118 hw) hT (rIx (n := 20) h8242 rfl) fun z8246 q8247 h8248 => ?_
      refine mr_bipush (pc := 66) (z := 6) dX12_wish_66 (by decide) ?_
      refine mr_icmp_gt (pc := 68) (tgt := 75) dX12_wish_68 (by decide) (r32 h8248 rfl) (r32 (rR (x := 6)) rfl) (fun h8249 => ?_) (fun h8249 => ?_)
      · have h8250 : 7 ≤ z8246 ∧ z8246 ≤ 9 := (vc_X12_wish_48 h8249 h8248)
        refine mr_iconst (pc := 75) (z := 0) dX12_wish_75 ?_
        refine mr_istore_n (pc := 76) (lv' := [(1, iv 0), (0, .ref 106), (2, iv z7760)]) dX12_wish_76 rfl (by decide) rfl ?_
        refine mr_iconst (pc := 77) (z := 0) dX12_wish_77 ?_
        refine mr_istore_n (pc := 78) (lv' := [(3, iv 0), (1, iv 0), (0, .ref 106), (2, iv z7760)]) dX12_wish_78 rfl (by decide) rfl ?_
        have L8285 : ∀ (nL8285 : Nat) (z8284 z8283 : Int), True → (0 ≤ z8284 ∧ z8284 ≤ 0) → (0 ≤ z8283 ∧ z8283 ≤ 6) → (7 - z8283) < (nL8285 : Int) → sV (gG l D c H0 sa) mX12_wish (sRm 2 0 0) (sZ (gG l D c H0 sa) 0 0 (qI w [184999, 185999, 186999] μ (fun z μ1 => ((-2147483648) ≤ z ∧ z ≤ 2147483647) ∧ True))) 79 [(0, .ref 106), (1, iv z8284), (2, iv z7760), (3, iv z8283)] [] (mk w μ) 0 0 := by
          intro nL8285
          induction nL8285 with
          | zero => intro z8284 z8283 _ h8286 h8287 h8291; exact ((vc_X12_wish_49 h8291 h8287)).elim
          | succ nL8285 ih8292 =>
            intro z8284 z8283 _ h8286 h8287 h8291
            refine mr_iload_n (pc := 79) (z := z8283) dX12_wish_79 rfl rfl ?_
            refine mr_iload_n (pc := 80) (z := z7760) dX12_wish_80 rfl rfl ?_
            refine mr_icmp_ge (pc := 81) (tgt := 115) dX12_wish_81 (by decide) (r32 h8287 rfl) (r32 h8242 rfl) (fun h8295 => ?_) (fun h8295 => ?_)
            · refine mr_iinc (pc := 115) (lv' := [(2, iv (z7760 + 1)), (0, .ref 106), (1, iv z8284), (3, iv z8283)]) dX12_wish_115 rfl (by decide) rfl ?_
              refine sv_goto (pc := 118) (tgt := 48) dX12_wish_118 (by decide) ?_
              refine mr_lvS (lv' := [(0, .ref 106), (1, iv z8284), (2, iv (z7760 + 1))]) (List.forall_mem_cons.mpr ⟨rfl, List.forall_mem_cons.mpr ⟨rfl, List.forall_mem_cons.mpr ⟨rfl, fun _ h => absurd h List.not_mem_nil⟩⟩⟩) ?_
              exact ih7770 z8284 (z7760 + 1) trivial (rW (c := 0) (d := 1) h8286 rfl) (rW (c := 0) (d := 7) (rAdd (e := 1) (f := 7) h8242 (rR (x := 1)) rfl) rfl) (fun h => absurd h (vc_X12_wish_51 h8286)) (vc_X12_wish_50 (nS h7769) h7771 h8295 h6499 h6524 h6541 h8242 h8287)
            have h8296 : 0 ≤ z8283 ∧ z8283 ≤ 5 := (vc_X12_wish_52 h8295 h7771 h6541 h8242 h8287)
            have h8297 : 1 ≤ z7760 ∧ z7760 ≤ 6 := (vc_X12_wish_53 h8295 h7771 h6541 h8242 h8296)
            refine mr_iload_n (pc := 84) (z := z8284) dX12_wish_84 rfl rfl ?_
            refine mr_if_eq (pc := 85) (tgt := 107) dX12_wish_85 (by decide) (r32 h8286 rfl) (fun _ => ?_) (fun h => ((vc_X10_firstWrongStep_7 h h8286)).elim)
            refine mr_iconst (pc := 107) (z := 0) dX12_wish_107 ?_
            refine mr_istore_n (pc := 108) (lv' := [(1, iv 0), (0, .ref 106), (2, iv z7760), (3, iv z8283)]) dX12_wish_108 rfl (by decide) rfl ?_
            refine mr_iinc (pc := 109) (lv' := [(3, iv (z8283 + 1)), (1, iv 0), (0, .ref 106), (2, iv z7760)]) dX12_wish_109 rfl (by decide) rfl ?_
            refine sv_goto (pc := 112) (tgt := 79) dX12_wish_112 (by decide) ?_
            refine mr_lvS (lv' := [(0, .ref 106), (1, iv 0), (2, iv z7760), (3, iv (z8283 + 1))]) (List.forall_mem_cons.mpr ⟨rfl, List.forall_mem_cons.mpr ⟨rfl, List.forall_mem_cons.mpr ⟨rfl, List.forall_mem_cons.mpr ⟨rfl, fun _ h => absurd h List.not_mem_nil⟩⟩⟩⟩) ?_
            exact ih8292 0 (z8283 + 1) trivial (rR (x := 0)) (rW (c := 0) (d := 6) (rAdd (e := 1) (f := 6) h8296 (rR (x := 1)) rfl) rfl) (vc_X12_wish_55 (nS h8291) h8295 h7771 h6541 h8297 h8296)
        refine mr_lvS (lv' := [(0, .ref 106), (1, iv 0), (2, iv z7760), (3, iv 0)]) (List.forall_mem_cons.mpr ⟨rfl, List.forall_mem_cons.mpr ⟨rfl, List.forall_mem_cons.mpr ⟨rfl, List.forall_mem_cons.mpr ⟨rfl, fun _ h => absurd h List.not_mem_nil⟩⟩⟩⟩) ?_
        exact L8285 8 0 0 trivial (rR (x := 0)) (rW (c := 0) (d := 6) (rR (x := 0)) rfl) vc_X12_wish_56
      have h8298 : 0 ≤ z8246 ∧ z8246 ≤ 6 := (vc_X12_wish_34 h8249 h8248)
      refine mr_iconst (pc := 71) (z := 1) dX12_wish_71 ?_
      refine sv_goto (pc := 72) (tgt := 76) dX12_wish_72 (by decide) ?_
      refine mr_istore_n (pc := 76) (lv' := [(1, iv 1), (0, .ref 106), (2, iv z7760)]) dX12_wish_76 rfl (by decide) rfl ?_
      refine mr_iconst (pc := 77) (z := 0) dX12_wish_77 ?_
      refine mr_istore_n (pc := 78) (lv' := [(3, iv 0), (1, iv 1), (0, .ref 106), (2, iv z7760)]) dX12_wish_78 rfl (by decide) rfl ?_
      have L8379 : ∀ (nL8379 : Nat) (z8378 z8377 : Int), True → (0 ≤ z8378 ∧ z8378 ≤ 1) → (0 ≤ z8377 ∧ z8377 ≤ 6) → (7 - z8377) < (nL8379 : Int) → sV (gG l D c H0 sa) mX12_wish (sRm 2 0 0) (sZ (gG l D c H0 sa) 0 0 (qI w [184999, 185999, 186999] μ (fun z μ1 => ((-2147483648) ≤ z ∧ z ≤ 2147483647) ∧ True))) 79 [(0, .ref 106), (1, iv z8378), (2, iv z7760), (3, iv z8377)] [] (mk w μ) 0 0 := by
        intro nL8379
        induction nL8379 with
        | zero => intro z8378 z8377 _ h8380 h8381 h8385; exact ((vc_X12_wish_49 h8385 h8381)).elim
        | succ nL8379 ih8386 =>
          intro z8378 z8377 _ h8380 h8381 h8385
          refine mr_iload_n (pc := 79) (z := z8377) dX12_wish_79 rfl rfl ?_
          refine mr_iload_n (pc := 80) (z := z7760) dX12_wish_80 rfl rfl ?_
          refine mr_icmp_ge (pc := 81) (tgt := 115) dX12_wish_81 (by decide) (r32 h8381 rfl) (r32 h8242 rfl) (fun h8395 => ?_) (fun h8395 => ?_)
          · refine mr_iinc (pc := 115) (lv' := [(2, iv (z7760 + 1)), (0, .ref 106), (1, iv z8378), (3, iv z8377)]) dX12_wish_115 rfl (by decide) rfl ?_
            refine sv_goto (pc := 118) (tgt := 48) dX12_wish_118 (by decide) ?_
            refine mr_lvS (lv' := [(0, .ref 106), (1, iv z8378), (2, iv (z7760 + 1))]) (List.forall_mem_cons.mpr ⟨rfl, List.forall_mem_cons.mpr ⟨rfl, List.forall_mem_cons.mpr ⟨rfl, fun _ h => absurd h List.not_mem_nil⟩⟩⟩) ?_
            exact ih7770 z8378 (z7760 + 1) trivial h8380 (rW (c := 0) (d := 7) (rAdd (e := 1) (f := 7) h8242 (rR (x := 1)) rfl) rfl) (fun _ => allLe.succ (R7768 (vc_X12_wish_23 h8243 h8245)) q8247 (vc_X12_wish_60 h8249 h8298)) (vc_X12_wish_50 (nS h7769) h7771 h8395 h6499 h6524 h6541 h8242 h8381)
          have h8396 : 0 ≤ z8377 ∧ z8377 ≤ 5 := (vc_X12_wish_52 h8395 h7771 h6541 h8242 h8381)
          have h8397 : 1 ≤ z7760 ∧ z7760 ≤ 6 := (vc_X12_wish_53 h8395 h7771 h6541 h8242 h8396)
          refine mr_iload_n (pc := 84) (z := z8378) dX12_wish_84 rfl rfl ?_
          refine mr_if_eq (pc := 85) (tgt := 107) dX12_wish_85 (by decide) (r32 h8380 rfl) (fun h8404 => ?_) (fun h8404 => ?_)
          · have h8405 : 0 ≤ z8378 ∧ z8378 ≤ 0 := (vc_X12_ring_22 h8404 h8380)
            refine mr_iconst (pc := 107) (z := 0) dX12_wish_107 ?_
            refine mr_istore_n (pc := 108) (lv' := [(1, iv 0), (0, .ref 106), (2, iv z7760), (3, iv z8377)]) dX12_wish_108 rfl (by decide) rfl ?_
            refine mr_iinc (pc := 109) (lv' := [(3, iv (z8377 + 1)), (1, iv 0), (0, .ref 106), (2, iv z7760)]) dX12_wish_109 rfl (by decide) rfl ?_
            refine sv_goto (pc := 112) (tgt := 79) dX12_wish_112 (by decide) ?_
            refine mr_lvS (lv' := [(0, .ref 106), (1, iv 0), (2, iv z7760), (3, iv (z8377 + 1))]) (List.forall_mem_cons.mpr ⟨rfl, List.forall_mem_cons.mpr ⟨rfl, List.forall_mem_cons.mpr ⟨rfl, List.forall_mem_cons.mpr ⟨rfl, fun _ h => absurd h List.not_mem_nil⟩⟩⟩⟩) ?_
            exact ih8386 0 (z8377 + 1) trivial (rW (c := 0) (d := 1) (rR (x := 0)) rfl) (rW (c := 0) (d := 6) (rAdd (e := 1) (f := 6) h8396 (rR (x := 1)) rfl) rfl) (vc_X12_wish_55 (nS h8385) h8395 h7771 h6541 h8397 h8396)
          have h8406 : 1 ≤ z8378 ∧ z8378 ≤ 1 := (vc_X12_ring_24 h8404 h8380)
          refine sv_aload_n (pc := 88) dX12_wish_88 rfl rfl ?_
          refine gf_X12_16 (pc := 89) dX12_wish_89 wF_X12_82 (A_106 hw) hT ?_
          refine mr_iload_n (pc := 92) (z := z7760) dX12_wish_92 rfl rfl ?_
          refine lk_118 (pc := 93) dX12_wish_93 (A_118 hw) (rIx (n := 20) h8397 rfl) q8247 ?_
          refine sv_aload_n (pc := 94) dX12_wish_94 rfl rfl ?_
          refine gf_X12_16 (pc := 95) dX12_wish_95 wF_X12_82 (A_106 hw) hT ?_
          refine mr_iload_n (pc := 98) (z := z8377) dX12_wish_98 rfl rfl ?_
          refine la_118 (pc := 99) dX12_wish_99 (A_118 hw) hT (rIx (n := 20) h8396 rfl) fun z8407 q8408 h8409 => ?_
          refine mr_icmp_eq (pc := 100) (tgt := 107) dX12_wish_100 (by decide) (r32 h8298 rfl) (r32 h8409 rfl) (fun h8411 => ?_) (fun h8411 => ?_)
          · have h8412 : 0 ≤ z8407 ∧ z8407 ≤ 6 := (vc_X12_wish_66 h8411 h8249 h8298 h8409)
            refine mr_iconst (pc := 107) (z := 0) dX12_wish_107 ?_
            refine mr_istore_n (pc := 108) (lv' := [(1, iv 0), (0, .ref 106), (2, iv z7760), (3, iv z8377)]) dX12_wish_108 rfl (by decide) rfl ?_
            refine mr_iinc (pc := 109) (lv' := [(3, iv (z8377 + 1)), (1, iv 0), (0, .ref 106), (2, iv z7760)]) dX12_wish_109 rfl (by decide) rfl ?_
            refine sv_goto (pc := 112) (tgt := 79) dX12_wish_112 (by decide) ?_
            refine mr_lvS (lv' := [(0, .ref 106), (1, iv 0), (2, iv z7760), (3, iv (z8377 + 1))]) (List.forall_mem_cons.mpr ⟨rfl, List.forall_mem_cons.mpr ⟨rfl, List.forall_mem_cons.mpr ⟨rfl, List.forall_mem_cons.mpr ⟨rfl, fun _ h => absurd h List.not_mem_nil⟩⟩⟩⟩) ?_
            exact ih8386 0 (z8377 + 1) trivial (rW (c := 0) (d := 1) (rR (x := 0)) rfl) (rW (c := 0) (d := 6) (rAdd (e := 1) (f := 6) h8396 (rR (x := 1)) rfl) rfl) (vc_X12_wish_55 (nS h8385) h8395 h7771 h6541 h8397 h8396)
          refine mr_iconst (pc := 103) (z := 1) dX12_wish_103 ?_
          refine sv_goto (pc := 104) (tgt := 108) dX12_wish_104 (by decide) ?_
          refine mr_istore_n (pc := 108) (lv' := [(1, iv 1), (0, .ref 106), (2, iv z7760), (3, iv z8377)]) dX12_wish_108 rfl (by decide) rfl ?_
          refine mr_iinc (pc := 109) (lv' := [(3, iv (z8377 + 1)), (1, iv 1), (0, .ref 106), (2, iv z7760)]) dX12_wish_109 rfl (by decide) rfl ?_
          refine sv_goto (pc := 112) (tgt := 79) dX12_wish_112 (by decide) ?_
          refine mr_lvS (lv' := [(0, .ref 106), (1, iv 1), (2, iv z7760), (3, iv (z8377 + 1))]) (List.forall_mem_cons.mpr ⟨rfl, List.forall_mem_cons.mpr ⟨rfl, List.forall_mem_cons.mpr ⟨rfl, List.forall_mem_cons.mpr ⟨rfl, fun _ h => absurd h List.not_mem_nil⟩⟩⟩⟩) ?_
          exact ih8386 1 (z8377 + 1) trivial (rW (c := 0) (d := 1) (rR (x := 1)) rfl) (rW (c := 0) (d := 6) (rAdd (e := 1) (f := 6) h8396 (rR (x := 1)) rfl) rfl) (vc_X12_wish_55 (nS h8385) h8395 h7771 h6541 h8397 h8396)
      refine mr_lvS (lv' := [(0, .ref 106), (1, iv 1), (2, iv z7760), (3, iv 0)]) (List.forall_mem_cons.mpr ⟨rfl, List.forall_mem_cons.mpr ⟨rfl, List.forall_mem_cons.mpr ⟨rfl, List.forall_mem_cons.mpr ⟨rfl, fun _ h => absurd h List.not_mem_nil⟩⟩⟩⟩) ?_
      exact L8379 8 1 0 trivial (rW (c := 0) (d := 1) (rR (x := 1)) rfl) (rW (c := 0) (d := 6) (rR (x := 0)) rfl) vc_X12_wish_56
  refine mr_lvS (lv' := [(0, .ref 106), (1, iv 1), (2, iv 0)]) (List.forall_mem_cons.mpr ⟨rfl, List.forall_mem_cons.mpr ⟨rfl, List.forall_mem_cons.mpr ⟨rfl, fun _ h => absurd h List.not_mem_nil⟩⟩⟩) ?_
  exact L7762 9 1 0 trivial (rW (c := 0) (d := 1) (rR (x := 1)) rfl) (rW (c := 0) (d := 7) (rR (x := 0)) rfl) (fun _ => allLe.zero (Int.le_refl 0)) vc_X12_isWished_9
theorem vc_X12_goes_1 {f_m : Int} (h0 : (12 - f_m) < ((0 : Nat) : Int)) (h1 : 0 ≤ f_m ∧ f_m ≤ 12) : False := by omega
theorem vc_X12_goes_2 {f_m : Int} (h0 : f_m ≤ 10) (h1 : 0 ≤ f_m ∧ f_m ≤ 12) : 0 ≤ f_m ∧ f_m ≤ 10 := by omega
theorem vc_X12_goes_3 {f_m z394 : Int} (h0 : (11 - z394) < ((0 : Nat) : Int)) (h1 : z394 ≤ f_m) (h2 : f_m ≤ 10) (h3 : 0 ≤ f_m ∧ f_m ≤ 10) (h4 : 0 ≤ z394 ∧ z394 ≤ 10) : False := by omega
theorem vc_X12_goes_5 {z426 : Int} (h0 : ¬ z426 = (-99999999)) (h1 : z426 = -99999999 ∨ z426 = -4 ∨ (0 ≤ z426 ∧ z426 ≤ 19)) (h2 : ¬ z426 = (-4)) (h3 : (-99999999) ≤ z426 ∧ z426 ≤ 19) : 0 ≤ z426 ∧ z426 ≤ 19 := by omega
theorem vc_X12_goes_6 {N f_m z394 : Int} (h0 : (12 - f_m) < N + 1) (h1 : f_m ≤ 10) (h2 : z394 ≤ f_m) (h3 : f_m ≤ z394) (h4 : 0 ≤ f_m ∧ f_m ≤ 10) (h5 : 0 ≤ z394 ∧ z394 ≤ 10) : (12 - (f_m + 1)) < N := by omega
theorem vc_X12_goes_7 {z395 : Int} (h0 : z395 = 0) (h1 : 0 ≤ z395 ∧ z395 ≤ 0) : z395 = 0 := by omega
theorem vc_X12_goes_8 {f_m z394 : Int} (h0 : f_m ≤ 10) (h1 : z394 ≤ f_m) (h2 : f_m ≤ z394) (h3 : 0 ≤ f_m ∧ f_m ≤ 10) (h4 : 0 ≤ z394 ∧ z394 ≤ 10) : z394 = f_m := by omega
theorem vc_X12_goes_9 {f_m z394 : Int} (h0 : f_m ≤ 10) (h1 : z394 ≤ f_m) (h2 : f_m ≤ z394) (h3 : 0 ≤ f_m ∧ f_m ≤ 10) (h4 : 0 ≤ z394 ∧ z394 ≤ 10) : 0 ≤ f_m := by omega
theorem vc_X12_goes_10 {z426 : Int} (h0 : z426 = (-99999999)) (h1 : z426 = -99999999 ∨ z426 = -4 ∨ (0 ≤ z426 ∧ z426 ≤ 19)) (h2 : ¬ z426 = (-4)) (h3 : (-99999999) ≤ z426 ∧ z426 ≤ 19) : (-99999999) ≤ z426 ∧ z426 ≤ (-99999999) := by omega
theorem vc_X12_goes_11 {z426 : Int} (h0 : z426 = (-4)) (h1 : z426 = -99999999 ∨ z426 = -4 ∨ (0 ≤ z426 ∧ z426 ≤ 19)) (h2 : (-99999999) ≤ z426 ∧ z426 ≤ 19) : (-4) ≤ z426 ∧ z426 ≤ (-4) := by omega
theorem vc_X12_goes_13 {f_m z394 : Int} (h0 : z394 < f_m) (h1 : f_m ≤ 10) (h2 : z394 ≤ f_m) (h3 : 0 ≤ f_m ∧ f_m ≤ 10) (h4 : 0 ≤ z394 ∧ z394 ≤ 10) : 0 ≤ z394 ∧ z394 ≤ 9 := by omega
theorem vc_X12_goes_14 {f_m z394 : Int} (h0 : z394 < f_m) (h1 : f_m ≤ 10) (h2 : z394 ≤ f_m) (h3 : 0 ≤ f_m ∧ f_m ≤ 10) (h4 : 0 ≤ z394 ∧ z394 ≤ 9) : 1 ≤ f_m ∧ f_m ≤ 10 := by omega
theorem vc_X12_goes_15 {f_m z394 : Int} (h0 : f_m ≤ 10) (h1 : z394 ≤ f_m) (h2 : z394 < f_m) (h3 : 1 ≤ f_m ∧ f_m ≤ 10) (h4 : 0 ≤ z394 ∧ z394 ≤ 9) : (z394 + 1) ≤ f_m := by omega
theorem vc_X12_goes_16 {N f_m z394 : Int} (h0 : (11 - z394) < N + 1) (h1 : z394 ≤ f_m) (h2 : z394 < f_m) (h3 : f_m ≤ 10) (h4 : 1 ≤ f_m ∧ f_m ≤ 10) (h5 : 0 ≤ z394 ∧ z394 ≤ 9) : (11 - (z394 + 1)) < N := by omega
theorem vc_X12_goes_17  : ¬ ((1 : Int) : Int) = (0 : Int) := by omega
theorem vc_X12_goes_18 {z136 z443 : Int} (h0 : ¬ z443 = z136) (h1 : 0 ≤ z136 ∧ z136 ≤ 9) (h2 : 0 ≤ z443 ∧ z443 ≤ 9) : ¬ z443 = z136 := by omega
theorem vc_X12_goes_19 {f_m : Int} (h0 : f_m ≤ 10) (h1 : 0 ≤ f_m ∧ f_m ≤ 10) : (0 : Int) ≤ f_m := by omega
theorem vc_X12_goes_21  : (12 - 0) < ((13 : Nat) : Int) := by omega
set_option maxRecDepth 4000 in
set_option maxHeartbeats 4000000 in
theorem c_X12_goes {l : Launch} {D : va_G} {c : Nat → ClassId} {H0 : Heap} {sa : Nat × Nat × (Nat → Int32)} {w : mW} {μ : mM} (hw : mWF w) (hT : mT w μ) {p1 : Int} (hp1 : 0 ≤ p1 ∧ p1 ≤ 9) {p2 : Int} (hp2 : (-2147483648) ≤ p2 ∧ p2 ≤ 2147483647) : sC (gG l D c H0 sa) mX12_goes 4 0 0 [.ref 106, iv p1, iv p2] (mk w μ) (qI w [106106, 175999] μ (fun z μ1 => (0 ≤ z ∧ z ≤ 2) ∧ True)) := by
  refine sC.of rfl (by decide) (le_t rfl) ?_
  refine mr_lvE (lv' := [(0, .ref 106), (1, iv p1), (2, iv p2)]) rfl ?_
  refine sv_aload_n (pc := 0) dX12_goes_0 rfl rfl ?_
  refine mr_iconst (pc := 1) (z := 0) dX12_goes_1 ?_
  refine pf_X12_106 (pc := 2) dX12_goes_2 wF_X12_683 (A_106 hw) hT (rW (c := 0) (d := 12) (rR (x := 0)) rfl) fun μ1 u2 T3 => ?_
  refine mr_iload_n (pc := 5) (z := p1) dX12_goes_5 rfl rfl ?_
  refine mr_istore_n (pc := 6) (lv' := [(3, iv p1), (0, .ref 106), (1, iv p1), (2, iv p2)]) dX12_goes_6 rfl (by decide) rfl ?_
  have L138 : ∀ (nL138 : Nat) (z136 : Int) (μ137 : mM) (f_m : Int), mT w μ137 → mF [106106, 175999] w μ1 μ137 → μ137 106 (106) = f_m → (0 ≤ z136 ∧ z136 ≤ 9) → dist μ137 175 f_m → (12 - f_m) < (nL138 : Int) → sV (gG l D c H0 sa) mX12_goes (sRm 4 0 0) (sZ (gG l D c H0 sa) 0 0 (qI w [106106, 175999] μ (fun z μ1 => (0 ≤ z ∧ z ≤ 2) ∧ True))) 7 [(0, .ref 106), (2, iv p2), (3, iv z136)] [] (mk w μ137) 0 0 := by
    intro nL138
    induction nL138 with
    | zero => intro z136 μ137 f_m T140 F141 q145 h139 R143 h144; exact ((vc_X12_goes_1 h144 (by rw [← q145]; exact T140 106 106 (A_106 hw) (106)))).elim
    | succ nL138 ih146 =>
      intro z136 μ137 f_m T140 F141 q145 h139 R143 h144
      have h147 : (0 ≤ f_m ∧ f_m ≤ 12) := by rw [← q145]; exact T140 106 106 (A_106 hw) (106)
      have h148 : f_m ≤ 10 := dist.pig R143 (fun i => by have h : 0 ≤ μ137 175 i ∧ μ137 175 i ≤ 9 := T140 175 175 (A_175 hw) i; omega)
      have h149 : 0 ≤ f_m ∧ f_m ≤ 10 := (vc_X12_goes_2 h148 h147)
      refine mr_iconst (pc := 7) (z := 0) dX12_goes_7 ?_
      refine mr_istore (pc := 8) (lv' := [(4, iv 0), (0, .ref 106), (2, iv p2), (3, iv z136)]) dX12_goes_8 (by decide) rfl ?_
      refine mr_iconst (pc := 10) (z := 0) dX12_goes_10 ?_
      refine mr_istore (pc := 11) (lv' := [(5, iv 0), (4, iv 0), (0, .ref 106), (2, iv p2), (3, iv z136)]) dX12_goes_11 (by decide) rfl ?_
      have L396 : ∀ (nL396 : Nat) (z395 z394 : Int), True → (0 ≤ z395 ∧ z395 ≤ 1) → (0 ≤ z394 ∧ z394 ≤ 10) → (z394 ≤ f_m) → (z395 = 0 → noneEq μ137 175 z394 z136) → (11 - z394) < (nL396 : Int) → sV (gG l D c H0 sa) mX12_goes (sRm 4 0 0) (sZ (gG l D c H0 sa) 0 0 (qI w [106106, 175999] μ (fun z μ1 => (0 ≤ z ∧ z ≤ 2) ∧ True))) 13 [(0, .ref 106), (2, iv p2), (3, iv z136), (4, iv z395), (5, iv z394)] [] (mk w μ137) 0 0 := by
        intro nL396
        induction nL396 with
        | zero => intro z395 z394 _ h397 h398 h402 R403 h404; exact ((vc_X12_goes_3 h404 h402 h148 h149 h398)).elim
        | succ nL396 ih405 =>
          intro z395 z394 _ h397 h398 h402 R403 h404
          refine mr_iload (pc := 13) (z := z394) dX12_goes_13 rfl ?_
          refine sv_aload_n (pc := 15) dX12_goes_15 rfl rfl ?_
          refine gk_X12_106 (pc := 16) dX12_goes_16 wF_X12_683 (A_106 hw) q145 ?_
          refine mr_icmp_ge (pc := 19) (tgt := 51) dX12_goes_19 (by decide) (r32 h398 rfl) (r32 h149 rfl) (fun h413 => ?_) (fun h413 => ?_)
          · refine sv_aload_n (pc := 51) dX12_goes_51 rfl rfl ?_
            refine gf_X12_105 (pc := 52) dX12_goes_52 wF_X12_487 (A_106 hw) T140 ?_
            refine sv_aload_n (pc := 55) dX12_goes_55 rfl rfl ?_
            refine gk_X12_106 (pc := 56) dX12_goes_56 wF_X12_683 (A_106 hw) q145 ?_
            refine mr_iload_n (pc := 59) (z := z136) dX12_goes_59 rfl rfl ?_
            refine ss_175 (pc := 60) dX12_goes_60 (A_175 hw) T140 (rIx (n := 12) h149 rfl) h139 fun μ414 u415 T416 => ?_
            refine sv_aload_n (pc := 61) dX12_goes_61 rfl rfl ?_
            refine sv_dup (pc := 62) dX12_goes_62 rfl ?_
            refine gk_X12_106 (pc := 63) dX12_goes_63 wF_X12_683 (A_106 hw) (u415.f (Or.inl (mAt.ne (A_175 hw) (A_106 hw) rfl)) q145) ?_
            refine mr_iconst (pc := 66) (z := 1) dX12_goes_66 ?_
            refine mr_iadd (pc := 67) (x := f_m) (y := 1) dX12_goes_67 ?_
            refine pf_X12_106 (pc := 68) dX12_goes_68 wF_X12_683 (A_106 hw) T416 (rW (c := 0) (d := 12) (rAdd (e := 1) (f := 11) h149 (rR (x := 1)) rfl) rfl) fun μ417 u418 T419 => ?_
            refine mr_iload (pc := 71) (z := z395) dX12_goes_71 rfl ?_
            refine mr_if_eq (pc := 73) (tgt := 78) dX12_goes_73 (by decide) (r32 h397 rfl) (fun h420 => ?_) (fun h420 => ?_)
            · have h421 : 0 ≤ z395 ∧ z395 ≤ 0 := (vc_X12_ring_22 h420 h397)
              refine sv_aload_n (pc := 78) dX12_goes_78 rfl rfl ?_
              refine mr_iload_n (pc := 79) (z := z136) dX12_goes_79 rfl rfl ?_
              refine mr_iload_n (pc := 80) (z := p2) dX12_goes_80 rfl rfl ?_
              refine mr_cVP (pc := 81) (c_X12_sends hw T419 h139 hp2) (gOk _ _ _ _ _) dX12_goes_81 (tX12_sends _ _ _ _ _) ⟨wV_X12_sends, wL_X12_sends⟩ wM_X12_686 (gCX12 _ _ _ _ _) rfl (A_106 hw) rfl ⟨le_t rfl, le_t rfl⟩ ⟨le_t rfl, le_t rfl⟩ rfl (le_t rfl) fun z426 h425 => ?_
              refine mr_istore (pc := 84) (lv' := [(5, iv z426), (0, .ref 106), (2, iv p2), (3, iv z136), (4, iv z395)]) dX12_goes_84 (by decide) rfl ?_
              refine mr_iload (pc := 86) (z := z426) dX12_goes_86 rfl ?_
              refine mr_bipush (pc := 88) (z := (-4)) dX12_goes_88 (by decide) ?_
              refine mr_icmp_ne (pc := 90) (tgt := 95) dX12_goes_90 (by decide) (r32 h425.1 rfl) (r32 (rR (x := (-4))) rfl) (fun h427 => ?_) (fun h427 => ?_)
              · refine mr_iload (pc := 95) (z := z426) dX12_goes_95 rfl ?_
                refine mr_ldc (pc := 97) (z := (-99999999)) dX12_goes_97 wG_X12_29 (by decide) ?_
                refine mr_icmp_ne (pc := 99) (tgt := 104) dX12_goes_99 (by decide) (r32 h425.1 rfl) (r32 (rR (x := (-99999999))) rfl) (fun h428 => ?_) (fun h428 => ?_)
                · have h429 : 0 ≤ z426 ∧ z426 ≤ 19 := (vc_X12_goes_5 h428 h425.2.1 h427 h425.1)
                  refine sv_aload_n (pc := 104) dX12_goes_104 rfl rfl ?_
                  refine mr_iload (pc := 105) (z := z426) dX12_goes_105 rfl ?_
                  refine mr_iload_n (pc := 107) (z := z136) dX12_goes_107 rfl rfl ?_
                  refine mr_cVP (pc := 108) (c_X12_partnerOf hw T419 h429 (rW (c := (-2147483648)) (d := 2147483647) h139 rfl)) (gOk _ _ _ _ _) dX12_goes_108 (tX12_partnerOf _ _ _ _ _) ⟨wV_X12_partnerOf, wL_X12_partnerOf⟩ wM_X12_553 (gCX12 _ _ _ _ _) rfl (A_106 hw) rfl ⟨le_t rfl, le_t rfl⟩ ⟨le_t rfl, le_t rfl⟩ rfl (le_t rfl) fun z434 h433 => ?_
                  refine mr_istore_n (pc := 111) (lv' := [(3, iv z434), (5, iv z426), (0, .ref 106), (2, iv p2), (4, iv z395)]) dX12_goes_111 rfl (by decide) rfl ?_
                  refine sv_goto (pc := 112) (tgt := 7) dX12_goes_112 (by decide) ?_
                  refine mr_lvS (lv' := [(0, .ref 106), (2, iv p2), (3, iv z434)]) (List.forall_mem_cons.mpr ⟨rfl, List.forall_mem_cons.mpr ⟨rfl, List.forall_mem_cons.mpr ⟨rfl, fun _ h => absurd h List.not_mem_nil⟩⟩⟩) ?_
                  exact ih146 z434 μ417 (f_m + 1) T419 (mF.up (mF.up (mF.call mF.refl F141 rfl) (A_175 hw) u415 rfl) (A_106 hw) u418 rfl) u418.1 h433.1 (dist.keep (dist.succ R143 (by have h := R403 (vc_X12_goes_7 h420 h421); rw [show z394 = f_m from (vc_X12_goes_8 h148 h402 h413 h149 h398)] at h; exact h) (vc_X12_goes_9 h148 h402 h413 h149 h398) u415) ((mF.up mF.refl (A_106 hw) u418 rfl) : mF [106106] w μ414 μ417) (A_175 hw) (fun _ => rfl)) (vc_X12_goes_6 (nS h144) h148 h402 h413 h149 h398)
                have h435 : (-99999999) ≤ z426 ∧ z426 ≤ (-99999999) := (vc_X12_goes_10 h428 h425.2.1 h427 h425.1)
                refine mr_iconst (pc := 102) (z := 1) dX12_goes_102 ?_
                exact mr_iret dX12_goes_103 rfl (le_t rfl) (le_t rfl) T419 (mF.up (mF.up (mF.call (mF.up mF.refl (A_106 hw) u2 rfl) F141 rfl) (A_175 hw) u415 rfl) (A_106 hw) u418 rfl) ⟨(rW (c := 0) (d := 2) (rR (x := 1)) rfl), trivial⟩
              have h436 : (-4) ≤ z426 ∧ z426 ≤ (-4) := (vc_X12_goes_11 h427 h425.2.1 h425.1)
              refine mr_iconst (pc := 93) (z := 0) dX12_goes_93 ?_
              exact mr_iret dX12_goes_94 rfl (le_t rfl) (le_t rfl) T419 (mF.up (mF.up (mF.call (mF.up mF.refl (A_106 hw) u2 rfl) F141 rfl) (A_175 hw) u415 rfl) (A_106 hw) u418 rfl) ⟨(rW (c := 0) (d := 2) (rR (x := 0)) rfl), trivial⟩
            have h437 : 1 ≤ z395 ∧ z395 ≤ 1 := (vc_X12_ring_24 h420 h397)
            refine mr_iconst (pc := 76) (z := 2) dX12_goes_76 ?_
            exact mr_iret dX12_goes_77 rfl (le_t rfl) (le_t rfl) T419 (mF.up (mF.up (mF.call (mF.up mF.refl (A_106 hw) u2 rfl) F141 rfl) (A_175 hw) u415 rfl) (A_106 hw) u418 rfl) ⟨(rW (c := 0) (d := 2) (rR (x := 2)) rfl), trivial⟩
          have h438 : 0 ≤ z394 ∧ z394 ≤ 9 := (vc_X12_goes_13 h413 h148 h402 h149 h398)
          have h439 : 1 ≤ f_m ∧ f_m ≤ 10 := (vc_X12_goes_14 h413 h148 h402 h149 h438)
          refine mr_iload (pc := 22) (z := z395) dX12_goes_22 rfl ?_
          refine mr_if_ne (pc := 24) (tgt := 38) dX12_goes_24 (by decide) (r32 h397 rfl) (fun h440 => ?_) (fun h440 => ?_)
          · have h441 : 1 ≤ z395 ∧ z395 ≤ 1 := (vc_X12_ring_24 h440 h397)
            refine mr_iconst (pc := 38) (z := 1) dX12_goes_38 ?_
            refine sv_goto (pc := 39) (tgt := 43) dX12_goes_39 (by decide) ?_
            refine mr_istore (pc := 43) (lv' := [(4, iv 1), (0, .ref 106), (2, iv p2), (3, iv z136), (5, iv z394)]) dX12_goes_43 (by decide) rfl ?_
            refine mr_iinc (pc := 45) (lv' := [(5, iv (z394 + 1)), (4, iv 1), (0, .ref 106), (2, iv p2), (3, iv z136)]) dX12_goes_45 rfl (by decide) rfl ?_
            refine sv_goto (pc := 48) (tgt := 13) dX12_goes_48 (by decide) ?_
            refine mr_lvS (lv' := [(0, .ref 106), (2, iv p2), (3, iv z136), (4, iv 1), (5, iv (z394 + 1))]) (List.forall_mem_cons.mpr ⟨rfl, List.forall_mem_cons.mpr ⟨rfl, List.forall_mem_cons.mpr ⟨rfl, List.forall_mem_cons.mpr ⟨rfl, List.forall_mem_cons.mpr ⟨rfl, fun _ h => absurd h List.not_mem_nil⟩⟩⟩⟩⟩) ?_
            exact ih405 1 (z394 + 1) trivial (rW (c := 0) (d := 1) (rR (x := 1)) rfl) (rW (c := 0) (d := 10) (rAdd (e := 1) (f := 10) h438 (rR (x := 1)) rfl) rfl) (vc_X12_goes_15 h148 h402 h413 h439 h438) (fun h => absurd h vc_X12_goes_17) (vc_X12_goes_16 (nS h404) h402 h413 h148 h439 h438)
          have h442 : 0 ≤ z395 ∧ z395 ≤ 0 := (vc_X12_ring_22 h440 h397)
          refine sv_aload_n (pc := 27) dX12_goes_27 rfl rfl ?_
          refine gf_X12_105 (pc := 28) dX12_goes_28 wF_X12_487 (A_106 hw) T140 ?_
          refine mr_iload (pc := 31) (z := z394) dX12_goes_31 rfl ?_
          refine la_175 (pc := 33) dX12_goes_33 (A_175 hw) T140 (rIx (n := 12) h438 rfl) fun z443 q444 h445 => ?_
          refine mr_iload_n (pc := 34) (z := z136) dX12_goes_34 rfl rfl ?_
          refine mr_icmp_ne (pc := 35) (tgt := 42) dX12_goes_35 (by decide) (r32 h445 rfl) (r32 h139 rfl) (fun h446 => ?_) (fun h446 => ?_)
          · refine mr_iconst (pc := 42) (z := 0) dX12_goes_42 ?_
            refine mr_istore (pc := 43) (lv' := [(4, iv 0), (0, .ref 106), (2, iv p2), (3, iv z136), (5, iv z394)]) dX12_goes_43 (by decide) rfl ?_
            refine mr_iinc (pc := 45) (lv' := [(5, iv (z394 + 1)), (4, iv 0), (0, .ref 106), (2, iv p2), (3, iv z136)]) dX12_goes_45 rfl (by decide) rfl ?_
            refine sv_goto (pc := 48) (tgt := 13) dX12_goes_48 (by decide) ?_
            refine mr_lvS (lv' := [(0, .ref 106), (2, iv p2), (3, iv z136), (4, iv 0), (5, iv (z394 + 1))]) (List.forall_mem_cons.mpr ⟨rfl, List.forall_mem_cons.mpr ⟨rfl, List.forall_mem_cons.mpr ⟨rfl, List.forall_mem_cons.mpr ⟨rfl, List.forall_mem_cons.mpr ⟨rfl, fun _ h => absurd h List.not_mem_nil⟩⟩⟩⟩⟩) ?_
            exact ih405 0 (z394 + 1) trivial (rW (c := 0) (d := 1) (rR (x := 0)) rfl) (rW (c := 0) (d := 10) (rAdd (e := 1) (f := 10) h438 (rR (x := 1)) rfl) rfl) (vc_X12_goes_15 h148 h402 h413 h439 h438) (fun _ => noneEq.succ (R403 (vc_X12_goes_7 h440 h442)) q444 (vc_X12_goes_18 h446 h139 h445)) (vc_X12_goes_16 (nS h404) h402 h413 h148 h439 h438)
          refine mr_iconst (pc := 38) (z := 1) dX12_goes_38 ?_
          refine sv_goto (pc := 39) (tgt := 43) dX12_goes_39 (by decide) ?_
          refine mr_istore (pc := 43) (lv' := [(4, iv 1), (0, .ref 106), (2, iv p2), (3, iv z136), (5, iv z394)]) dX12_goes_43 (by decide) rfl ?_
          refine mr_iinc (pc := 45) (lv' := [(5, iv (z394 + 1)), (4, iv 1), (0, .ref 106), (2, iv p2), (3, iv z136)]) dX12_goes_45 rfl (by decide) rfl ?_
          refine sv_goto (pc := 48) (tgt := 13) dX12_goes_48 (by decide) ?_
          refine mr_lvS (lv' := [(0, .ref 106), (2, iv p2), (3, iv z136), (4, iv 1), (5, iv (z394 + 1))]) (List.forall_mem_cons.mpr ⟨rfl, List.forall_mem_cons.mpr ⟨rfl, List.forall_mem_cons.mpr ⟨rfl, List.forall_mem_cons.mpr ⟨rfl, List.forall_mem_cons.mpr ⟨rfl, fun _ h => absurd h List.not_mem_nil⟩⟩⟩⟩⟩) ?_
          exact ih405 1 (z394 + 1) trivial (rW (c := 0) (d := 1) (rR (x := 1)) rfl) (rW (c := 0) (d := 10) (rAdd (e := 1) (f := 10) h438 (rR (x := 1)) rfl) rfl) (vc_X12_goes_15 h148 h402 h413 h439 h438) (fun h => absurd h vc_X12_goes_17) (vc_X12_goes_16 (nS h404) h402 h413 h148 h439 h438)
      refine mr_lvS (lv' := [(0, .ref 106), (2, iv p2), (3, iv z136), (4, iv 0), (5, iv 0)]) (List.forall_mem_cons.mpr ⟨rfl, List.forall_mem_cons.mpr ⟨rfl, List.forall_mem_cons.mpr ⟨rfl, List.forall_mem_cons.mpr ⟨rfl, List.forall_mem_cons.mpr ⟨rfl, fun _ h => absurd h List.not_mem_nil⟩⟩⟩⟩⟩) ?_
      exact L396 12 0 0 trivial (rW (c := 0) (d := 1) (rR (x := 0)) rfl) (rW (c := 0) (d := 10) (rR (x := 0)) rfl) (vc_X12_goes_19 h148 h149) (fun _ => noneEq.zero) vc_X12_ring_27
  refine mr_lvS (lv' := [(0, .ref 106), (2, iv p2), (3, iv p1)]) (List.forall_mem_cons.mpr ⟨rfl, List.forall_mem_cons.mpr ⟨rfl, List.forall_mem_cons.mpr ⟨rfl, fun _ h => absurd h List.not_mem_nil⟩⟩⟩) ?_
  exact L138 13 p1 μ1 0 T3 mF.refl u2.1 hp1 (dist.zero (Int.le_refl 0)) vc_X12_goes_21
theorem vc_X12_letter_5 {z95 : Int} (h0 : (13 - z95) < ((0 : Nat) : Int)) (h1 : 0 ≤ z95 ∧ z95 ≤ 12) : False := by omega
theorem vc_X12_letter_6 {z19 z95 : Int} (h0 : z95 < z19) (h1 : 0 ≤ z19 ∧ z19 ≤ 12) (h2 : 0 ≤ z95 ∧ z95 ≤ 12) : 0 ≤ z95 ∧ z95 ≤ 11 := by omega
theorem vc_X12_letter_7 {z19 z95 : Int} (h0 : z95 < z19) (h1 : 0 ≤ z19 ∧ z19 ≤ 12) (h2 : 0 ≤ z95 ∧ z95 ≤ 11) : 1 ≤ z19 ∧ z19 ≤ 12 := by omega
theorem vc_X12_letter_8 {N z19 z95 : Int} (h0 : (13 - z95) < N + 1) (h1 : z95 < z19) (h2 : 1 ≤ z19 ∧ z19 ≤ 12) (h3 : 0 ≤ z95 ∧ z95 ≤ 11) : (13 - (z95 + 1)) < N := by omega
theorem vc_X12_letter_9  : (13 - 0) < ((14 : Nat) : Int) := by omega
set_option maxRecDepth 4000 in
set_option maxHeartbeats 4000000 in
theorem c_X12_letter {l : Launch} {D : va_G} {c : Nat → ClassId} {H0 : Heap} {sa : Nat × Nat × (Nat → Int32)} {w : mW} {μ : mM} (hw : mWF w) (hT : mT w μ) {p1 : Int} (hp1 : (-2147483648) ≤ p1 ∧ p1 ≤ 2147483647) {p2 : Int} (hp2 : (-2147483648) ≤ p2 ∧ p2 ≤ 2147483647) : sC (gG l D c H0 sa) mX12_letter 5 0 0 [.ref 106, iv p1, iv p2] (mk w μ) (qI w [106106, 106108, 175999, 176999] μ (fun z μ1 => ((-2147483648) ≤ z ∧ z ≤ 2147483647) ∧ True)) := by
  refine sC.of rfl (by decide) (le_t rfl) ?_
  refine mr_lvE (lv' := [(0, .ref 106), (1, iv p1), (2, iv p2)]) rfl ?_
  refine sv_aload_n (pc := 0) dX12_letter_0 rfl rfl ?_
  refine mr_iload_n (pc := 1) (z := p1) dX12_letter_1 rfl rfl ?_
  obtain ⟨z1, q2⟩ : ∃ z, μ 106 5 = z := ⟨_, rfl⟩
  have h3 : (0 ≤ z1 ∧ z1 ≤ 10) := by rw [← q2]; exact hT 106 106 (A_106 hw) 5
  refine mr_cVP (pc := 2) (c_X12_isDomain hw hT hp1 q2) (gOk _ _ _ _ _) dX12_letter_2 (tX12_isDomain _ _ _ _ _) ⟨wV_X12_isDomain, wL_X12_isDomain⟩ wM_X12_49 (gCX12 _ _ _ _ _) rfl (A_106 hw) rfl ⟨le_t rfl, le_t rfl⟩ ⟨le_t rfl, le_t rfl⟩ rfl (le_t rfl) fun z8 h7 => ?_
  refine mr_if_ne (pc := 5) (tgt := 10) dX12_letter_5 (by decide) (r32 h7.1 rfl) (fun h9 => ?_) (fun h9 => ?_)
  · have h10 : 1 ≤ z8 ∧ z8 ≤ 1 := (vc_X12_write_12 h9 h7.2.1 h7.2.2.1 hp1 h3 h7.1)
    have h11 : 0 ≤ p1 ∧ p1 < z1 := (h7.2.1 (vc_X12_write_13 h7.2.1 h7.2.2.1 h9 hp1 h3 h10))
    have h12 : 0 ≤ p1 ∧ p1 ≤ 9 := (vc_X12_write_14 h11 h7.2.1 h7.2.2.1 hp1 h3 h10)
    have h13 : 1 ≤ z1 ∧ z1 ≤ 10 := (vc_X12_write_15 h11 h7.2.1 h7.2.2.1 h12 h3 h10)
    refine sv_aload_n (pc := 10) dX12_letter_10 rfl rfl ?_
    refine mr_iload_n (pc := 11) (z := p1) dX12_letter_11 rfl rfl ?_
    refine mr_iload_n (pc := 12) (z := p2) dX12_letter_12 rfl rfl ?_
    refine mr_cVI (pc := 13) (c_X12_goes hw hT h12 hp2) (gOk _ _ _ _ _) dX12_letter_13 (tX12_goes _ _ _ _ _) ⟨wV_X12_goes, wL_X12_goes⟩ wM_X12_689 (gCX12 _ _ _ _ _) rfl (A_106 hw) rfl ⟨le_t rfl, le_t rfl⟩ ⟨le_t rfl, le_t rfl⟩ rfl (le_t rfl) fun z18 μ14 T15 F16 h17 => ?_
    refine mr_istore_n (pc := 16) (lv' := [(3, iv z18), (0, .ref 106), (1, iv p1), (2, iv p2)]) dX12_letter_16 rfl (by decide) rfl ?_
    refine sv_aload_n (pc := 17) dX12_letter_17 rfl rfl ?_
    refine sv_aload_n (pc := 18) dX12_letter_18 rfl rfl ?_
    refine gf_X12_106 (pc := 19) dX12_letter_19 wF_X12_683 (A_106 hw) T15 fun z19 q20 h21 => ?_
    refine pf_X12_108 (pc := 22) dX12_letter_22 wF_X12_692 (A_106 hw) T15 h21 fun μ22 u23 T24 => ?_
    refine mr_iconst (pc := 25) (z := 0) dX12_letter_25 ?_
    refine mr_istore (pc := 26) (lv' := [(4, iv 0), (3, iv z18), (0, .ref 106), (1, iv p1), (2, iv p2)]) dX12_letter_26 (by decide) rfl ?_
    have L97 : ∀ (nL97 : Nat) (z95 : Int) (μ96 : mM), mT w μ96 → mF [176999] w μ22 μ96 → (0 ≤ z95 ∧ z95 ≤ 12) → (13 - z95) < (nL97 : Int) → sV (gG l D c H0 sa) mX12_letter (sRm 5 0 0) (sZ (gG l D c H0 sa) 0 0 (qI w [106106, 106108, 175999, 176999] μ (fun z μ1 => ((-2147483648) ≤ z ∧ z ≤ 2147483647) ∧ True))) 28 [(0, .ref 106), (3, iv z18), (4, iv z95)] [] (mk w μ96) 0 0 := by
      intro nL97
      induction nL97 with
      | zero => intro z95 μ96 T99 F100 h98 h102; exact ((vc_X12_letter_5 h102 h98)).elim
      | succ nL97 ih103 =>
        intro z95 μ96 T99 F100 h98 h102
        refine mr_iload (pc := 28) (z := z95) dX12_letter_28 rfl ?_
        refine sv_aload_n (pc := 30) dX12_letter_30 rfl rfl ?_
        refine gk_X12_106 (pc := 31) dX12_letter_31 wF_X12_683 (A_106 hw) (F100.f (A_106 hw) rfl (u23.f (Or.inr (by decide)) q20)) ?_
        refine mr_icmp_ge (pc := 34) (tgt := 57) dX12_letter_34 (by decide) (r32 h98 rfl) (r32 h21 rfl) (fun h112 => ?_) (fun h112 => ?_)
        · refine mr_iload_n (pc := 57) (z := z18) dX12_letter_57 rfl rfl ?_
          exact mr_iret dX12_letter_58 rfl (le_t rfl) (le_t rfl) T99 (mF.call (mF.up (mF.call mF.refl F16 rfl) (A_106 hw) u23 rfl) F100 rfl) ⟨(rW (c := (-2147483648)) (d := 2147483647) h17.1 rfl), trivial⟩
        have h113 : 0 ≤ z95 ∧ z95 ≤ 11 := (vc_X12_letter_6 h112 h21 h98)
        have h114 : 1 ≤ z19 ∧ z19 ≤ 12 := (vc_X12_letter_7 h112 h21 h113)
        refine sv_aload_n (pc := 37) dX12_letter_37 rfl rfl ?_
        refine gf_X12_107 (pc := 38) dX12_letter_38 wF_X12_490 (A_106 hw) T99 ?_
        refine mr_iload (pc := 41) (z := z95) dX12_letter_41 rfl ?_
        refine sv_aload_n (pc := 43) dX12_letter_43 rfl rfl ?_
        refine gf_X12_105 (pc := 44) dX12_letter_44 wF_X12_487 (A_106 hw) T99 ?_
        refine mr_iload (pc := 47) (z := z95) dX12_letter_47 rfl ?_
        refine la_175 (pc := 49) dX12_letter_49 (A_175 hw) T99 (rIx (n := 12) h113 rfl) fun z115 q116 h117 => ?_
        refine ss_176 (pc := 50) dX12_letter_50 (A_176 hw) T99 (rIx (n := 12) h113 rfl) (rW (c := (-2147483648)) (d := 2147483647) h117 rfl) fun μ118 u119 T120 => ?_
        refine mr_iinc (pc := 51) (lv' := [(4, iv (z95 + 1)), (0, .ref 106), (3, iv z18)]) dX12_letter_51 rfl (by decide) rfl ?_
        refine sv_goto (pc := 54) (tgt := 28) dX12_letter_54 (by decide) ?_
        refine mr_lvS (lv' := [(0, .ref 106), (3, iv z18), (4, iv (z95 + 1))]) (List.forall_mem_cons.mpr ⟨rfl, List.forall_mem_cons.mpr ⟨rfl, List.forall_mem_cons.mpr ⟨rfl, fun _ h => absurd h List.not_mem_nil⟩⟩⟩) ?_
        exact ih103 (z95 + 1) μ118 T120 (mF.up (mF.call mF.refl F100 rfl) (A_176 hw) u119 rfl) (rW (c := 0) (d := 12) (rAdd (e := 1) (f := 12) h113 (rR (x := 1)) rfl) rfl) (vc_X12_letter_8 (nS h102) h112 h114 h113)
    refine mr_lvS (lv' := [(0, .ref 106), (3, iv z18), (4, iv 0)]) (List.forall_mem_cons.mpr ⟨rfl, List.forall_mem_cons.mpr ⟨rfl, List.forall_mem_cons.mpr ⟨rfl, fun _ h => absurd h List.not_mem_nil⟩⟩⟩) ?_
    exact L97 14 0 μ22 T24 mF.refl (rW (c := 0) (d := 12) (rR (x := 0)) rfl) vc_X12_letter_9
  have h121 : 0 ≤ z8 ∧ z8 ≤ 0 := (vc_X12_write_78 h9 h7.2.1 h7.2.2.1 hp1 h3 h7.1)
  have h122 : p1 < 0 ∨ z1 ≤ p1 := (h7.2.2.1 (vc_X12_write_79 h7.2.1 h7.2.2.1 h9 hp1 h3 h121))
  refine mr_iconst (pc := 8) (z := (-1)) dX12_letter_8 ?_
  exact mr_iret dX12_letter_9 rfl (le_t rfl) (le_t rfl) hT mF.refl ⟨(rW (c := (-2147483648)) (d := 2147483647) (rR (x := (-1))) rfl), trivial⟩
theorem vc_X12_load_11 {z695 z706 : Int} (h0 : z695 < z706) (h1 : 0 ≤ z695 ∧ z695 ≤ 16) (h2 : 0 ≤ z706 ∧ z706 ≤ 16) : 0 ≤ z695 ∧ z695 ≤ 15 := by omega
theorem vc_X12_load_12 {z695 z706 : Int} (h0 : z695 < z706) (h1 : 0 ≤ z695 ∧ z695 ≤ 15) (h2 : 0 ≤ z706 ∧ z706 ≤ 16) : 1 ≤ z706 ∧ z706 ≤ 16 := by omega
theorem vc_X12_load_13 {z1024 : Int} (h0 : (12 - z1024) < ((0 : Nat) : Int)) (h1 : 0 ≤ z1024 ∧ z1024 ≤ 11) : False := by omega
theorem vc_X12_load_14 {N z695 z706 : Int} (h0 : (17 - z695) < N + 1) (h1 : z695 < z706) (h2 : 0 ≤ z695 ∧ z695 ≤ 15) (h3 : 1 ≤ z706 ∧ z706 ≤ 16) : (17 - (z695 + 1)) < N := by omega
theorem vc_X12_load_15 {z1024 z1034 : Int} (h0 : (z1024 + 1) < z1034) (h1 : 0 ≤ z1024 ∧ z1024 ≤ 11) (h2 : 0 ≤ z1034 ∧ z1034 ≤ 12) : 0 ≤ z1024 ∧ z1024 ≤ 10 := by omega
theorem vc_X12_load_16 {z1024 z1034 : Int} (h0 : (z1024 + 1) < z1034) (h1 : 0 ≤ z1024 ∧ z1024 ≤ 10) (h2 : 0 ≤ z1034 ∧ z1034 ≤ 12) : 2 ≤ z1034 ∧ z1034 ≤ 12 := by omega
theorem vc_X12_load_17 {N z1024 z1034 : Int} (h0 : (12 - z1024) < N + 1) (h1 : (z1024 + 1) < z1034) (h2 : 0 ≤ z1024 ∧ z1024 ≤ 10) (h3 : 2 ≤ z1034 ∧ z1034 ≤ 12) : (12 - (z1024 + 1)) < N := by omega
set_option maxRecDepth 4000 in
set_option maxHeartbeats 4000000 in
theorem c_X12_load {l : Launch} {D : va_G} {c : Nat → ClassId} {H0 : Heap} {sa : Nat × Nat × (Nat → Int32)} {w : mW} {μ : mM} (hw : mWF w) (hT : mT w μ) {p1 : Int} (hp1 : (-2147483648) ≤ p1 ∧ p1 ≤ 2147483647) {p2 : Int} (hp2 : (-2147483648) ≤ p2 ∧ p2 ≤ 2147483647) : sC (gG l D c H0 sa) mX12_load 5 0 0 [.ref 106, iv p1, iv p2] (mk w μ) (qI w [106106, 175999] μ (fun z μ1 => ((-2147483648) ≤ z ∧ z ≤ 2147483647) ∧ True)) := by
  refine sC.of rfl (by decide) (le_t rfl) ?_
  refine mr_lvE (lv' := [(0, .ref 106), (1, iv p1), (2, iv p2)]) rfl ?_
  refine sv_aload_n (pc := 0) dX12_load_0 rfl rfl ?_
  refine mr_iload_n (pc := 1) (z := p1) dX12_load_1 rfl rfl ?_
  obtain ⟨z1, q2⟩ : ∃ z, μ 106 6 = z := ⟨_, rfl⟩
  have h3 : (0 ≤ z1 ∧ z1 ≤ 20) := by rw [← q2]; exact hT 106 106 (A_106 hw) 6
  refine mr_cVP (pc := 2) (c_X12_isTie hw hT hp1 q2) (gOk _ _ _ _ _) dX12_load_2 (tX12_isTie _ _ _ _ _) ⟨wV_X12_isTie, wL_X12_isTie⟩ wM_X12_66 (gCX12 _ _ _ _ _) rfl (A_106 hw) rfl ⟨le_t rfl, le_t rfl⟩ ⟨le_t rfl, le_t rfl⟩ rfl (le_t rfl) fun z8 h7 => ?_
  refine mr_if_eq (pc := 5) (tgt := 17) dX12_load_5 (by decide) (r32 h7.1 rfl) (fun h9 => ?_) (fun h9 => ?_)
  · have h10 : 0 ≤ z8 ∧ z8 ≤ 0 := (vc_X12_write_1 h9 h7.2.1 h7.2.2.1 hp1 h3 h7.1)
    have h11 : p1 < 0 ∨ z1 ≤ p1 := (h7.2.2.1 (vc_X12_write_2 h7.2.1 h7.2.2.1 h9 hp1 h3 h10))
    refine mr_iconst (pc := 17) (z := (-1)) dX12_load_17 ?_
    exact mr_iret dX12_load_18 rfl (le_t rfl) (le_t rfl) hT mF.refl ⟨(rW (c := (-2147483648)) (d := 2147483647) (rR (x := (-1))) rfl), trivial⟩
  have h12 : 1 ≤ z8 ∧ z8 ≤ 1 := (vc_X12_write_3 h9 h7.2.1 h7.2.2.1 hp1 h3 h7.1)
  have h13 : 0 ≤ p1 ∧ p1 < z1 := (h7.2.1 (vc_X12_write_4 h7.2.1 h7.2.2.1 h9 hp1 h3 h12))
  have h14 : 0 ≤ p1 ∧ p1 ≤ 19 := (vc_X12_write_5 h13 h7.2.1 h7.2.2.1 hp1 h3 h12)
  have h15 : 1 ≤ z1 ∧ z1 ≤ 20 := (vc_X12_write_6 h13 h7.2.1 h7.2.2.1 h14 h3 h12)
  refine mr_iload_n (pc := 8) (z := p2) dX12_load_8 rfl rfl ?_
  refine mr_iconst (pc := 9) (z := 0) dX12_load_9 ?_
  refine mr_iconst (pc := 10) (z := 1) dX12_load_10 ?_
  refine mr_cSP (pc := 11) (c_X12_in hw hT hp2 (rW (c := (-2147483648)) (d := 2147483647) (rR (x := 0)) rfl) (rW (c := (-2147483648)) (d := 2147483647) (rR (x := 1)) rfl)) (gOk _ _ _ _ _) dX12_load_11 (tX12_in _ _ _ _ _) wS_X12_in wM_X12_18 ⟨le_t rfl, le_t rfl⟩ ⟨le_t rfl, le_t rfl⟩ rfl (le_t rfl) fun z20 h19 => ?_
  refine mr_if_ne (pc := 14) (tgt := 19) dX12_load_14 (by decide) (r32 h19.1 rfl) (fun h21 => ?_) (fun h21 => ?_)
  · have h22 : 1 ≤ z20 ∧ z20 ≤ 1 := (vc_X12_write_9 h21 h19.2.1 h19.2.2.1 hp2 h19.1)
    have h23 : (0 : Int) ≤ p2 ∧ p2 ≤ (1 : Int) := (h19.2.1 (vc_X12_write_10 h19.2.1 h19.2.2.1 h21 hp2 h22))
    have h24 : 0 ≤ p2 ∧ p2 ≤ 1 := (vc_X12_write_11 h23 h19.2.1 h19.2.2.1 hp2 h22)
    refine mr_iconst (pc := 19) (z := 0) dX12_load_19 ?_
    refine mr_istore_n (pc := 20) (lv' := [(3, iv 0), (0, .ref 106), (1, iv p1), (2, iv p2)]) dX12_load_20 rfl (by decide) rfl ?_
    refine mr_iconst (pc := 21) (z := 0) dX12_load_21 ?_
    refine mr_istore (pc := 22) (lv' := [(4, iv 0), (3, iv 0), (0, .ref 106), (1, iv p1), (2, iv p2)]) dX12_load_22 (by decide) rfl ?_
    have L698 : ∀ (nL698 : Nat) (z696 z695 : Int) (μ697 : mM), mT w μ697 → mF [106106, 175999] w μ μ697 → ((-2147483648) ≤ z696 ∧ z696 ≤ 2147483647) → (0 ≤ z695 ∧ z695 ≤ 16) → (17 - z695) < (nL698 : Int) → sV (gG l D c H0 sa) mX12_load (sRm 5 0 0) (sZ (gG l D c H0 sa) 0 0 (qI w [106106, 175999] μ (fun z μ1 => ((-2147483648) ≤ z ∧ z ≤ 2147483647) ∧ True))) 24 [(0, .ref 106), (1, iv p1), (2, iv p2), (3, iv z696), (4, iv z695)] [] (mk w μ697) 0 0 := by
      intro nL698
      induction nL698 with
      | zero => intro z696 z695 μ697 T701 F702 h699 h700 h704; exact ((vc_X2_unitsOver_1 h704 h700)).elim
      | succ nL698 ih705 =>
        intro z696 z695 μ697 T701 F702 h699 h700 h704
        refine mr_iload (pc := 24) (z := z695) dX12_load_24 rfl ?_
        refine sv_aload_n (pc := 26) dX12_load_26 rfl rfl ?_
        refine gf_X12_109 (pc := 27) dX12_load_27 wF_X12_695 (A_106 hw) T701 fun z706 q707 h708 => ?_
        refine mr_icmp_ge (pc := 30) (tgt := 132) dX12_load_30 (by decide) (r32 h700 rfl) (r32 h708 rfl) (fun h770 => ?_) (fun h770 => ?_)
        · refine mr_iload_n (pc := 132) (z := z696) dX12_load_132 rfl rfl ?_
          exact mr_iret dX12_load_133 rfl (le_t rfl) (le_t rfl) T701 (mF.call mF.refl F702 rfl) ⟨h699, trivial⟩
        have h771 : 0 ≤ z695 ∧ z695 ≤ 15 := (vc_X12_load_11 h770 h700 h708)
        have h772 : 1 ≤ z706 ∧ z706 ≤ 16 := (vc_X12_load_12 h770 h771 h708)
        refine sv_aload_n (pc := 33) dX12_load_33 rfl rfl ?_
        refine sv_aload_n (pc := 34) dX12_load_34 rfl rfl ?_
        refine gf_X12_110 (pc := 35) dX12_load_35 wF_X12_493 (A_106 hw) T701 ?_
        refine mr_iload (pc := 38) (z := z695) dX12_load_38 rfl ?_
        refine la_177 (pc := 40) dX12_load_40 (A_177 hw) T701 (rIx (n := 16) h771 rfl) fun z773 q774 h775 => ?_
        refine sv_aload_n (pc := 41) dX12_load_41 rfl rfl ?_
        refine gf_X12_111 (pc := 42) dX12_load_42 wF_X12_496 (A_106 hw) T701 ?_
        refine mr_iload (pc := 45) (z := z695) dX12_load_45 rfl ?_
        refine la_178 (pc := 47) dX12_load_47 (A_178 hw) T701 (rIx (n := 16) h771 rfl) fun z776 q777 h778 => ?_
        refine mr_cVI (pc := 48) (c_X12_goes hw T701 h775 h778) (gOk _ _ _ _ _) dX12_load_48 (tX12_goes _ _ _ _ _) ⟨wV_X12_goes, wL_X12_goes⟩ wM_X12_689 (gCX12 _ _ _ _ _) rfl (A_106 hw) rfl ⟨le_t rfl, le_t rfl⟩ ⟨le_t rfl, le_t rfl⟩ rfl (le_t rfl) fun z783 μ779 T780 F781 h782 => ?_
        refine sv_pop (pc := 51) dX12_load_51 rfl ?_
        refine mr_iconst (pc := 52) (z := 0) dX12_load_52 ?_
        refine mr_istore (pc := 53) (lv' := [(5, iv 0), (0, .ref 106), (1, iv p1), (2, iv p2), (3, iv z696), (4, iv z695)]) dX12_load_53 (by decide) rfl ?_
        have L1026 : ∀ (nL1026 : Nat) (z1025 z1024 : Int), True → ((-2147483648) ≤ z1025 ∧ z1025 ≤ 2147483647) → (0 ≤ z1024 ∧ z1024 ≤ 11) → (12 - z1024) < (nL1026 : Int) → sV (gG l D c H0 sa) mX12_load (sRm 5 0 0) (sZ (gG l D c H0 sa) 0 0 (qI w [106106, 175999] μ (fun z μ1 => ((-2147483648) ≤ z ∧ z ≤ 2147483647) ∧ True))) 55 [(0, .ref 106), (1, iv p1), (2, iv p2), (3, iv z1025), (4, iv z695), (5, iv z1024)] [] (mk w μ779) 0 0 := by
          intro nL1026
          induction nL1026 with
          | zero => intro z1025 z1024 _ h1027 h1028 h1032; exact ((vc_X12_load_13 h1032 h1028)).elim
          | succ nL1026 ih1033 =>
            intro z1025 z1024 _ h1027 h1028 h1032
            refine mr_iload (pc := 55) (z := z1024) dX12_load_55 rfl ?_
            refine mr_iconst (pc := 57) (z := 1) dX12_load_57 ?_
            refine mr_iadd (pc := 58) (x := z1024) (y := 1) dX12_load_58 ?_
            refine sv_aload_n (pc := 59) dX12_load_59 rfl rfl ?_
            refine gf_X12_106 (pc := 60) dX12_load_60 wF_X12_683 (A_106 hw) T780 fun z1034 q1035 h1036 => ?_
            refine mr_icmp_ge (pc := 63) (tgt := 126) dX12_load_63 (by decide) (r32 (rAdd (e := 1) (f := 12) h1028 (rR (x := 1)) rfl) rfl) (r32 h1036 rfl) (fun h1056 => ?_) (fun h1056 => ?_)
            · refine mr_iinc (pc := 126) (lv' := [(4, iv (z695 + 1)), (0, .ref 106), (1, iv p1), (2, iv p2), (3, iv z1025), (5, iv z1024)]) dX12_load_126 rfl (by decide) rfl ?_
              refine sv_goto (pc := 129) (tgt := 24) dX12_load_129 (by decide) ?_
              refine mr_lvS (lv' := [(0, .ref 106), (1, iv p1), (2, iv p2), (3, iv z1025), (4, iv (z695 + 1))]) (List.forall_mem_cons.mpr ⟨rfl, List.forall_mem_cons.mpr ⟨rfl, List.forall_mem_cons.mpr ⟨rfl, List.forall_mem_cons.mpr ⟨rfl, List.forall_mem_cons.mpr ⟨rfl, fun _ h => absurd h List.not_mem_nil⟩⟩⟩⟩⟩) ?_
              exact ih705 z1025 (z695 + 1) μ779 T780 (mF.call (mF.call mF.refl F702 rfl) F781 rfl) h1027 (rW (c := 0) (d := 16) (rAdd (e := 1) (f := 16) h771 (rR (x := 1)) rfl) rfl) (vc_X12_load_14 (nS h704) h770 h771 h772)
            have h1057 : 0 ≤ z1024 ∧ z1024 ≤ 10 := (vc_X12_load_15 h1056 h1028 h1036)
            have h1058 : 2 ≤ z1034 ∧ z1034 ≤ 12 := (vc_X12_load_16 h1056 h1057 h1036)
            refine sv_aload_n (pc := 66) dX12_load_66 rfl rfl ?_
            refine gf_X12_105 (pc := 67) dX12_load_67 wF_X12_487 (A_106 hw) T780 ?_
            refine mr_iload (pc := 70) (z := z1024) dX12_load_70 rfl ?_
            refine la_175 (pc := 72) dX12_load_72 (A_175 hw) T780 (rIx (n := 12) h1057 rfl) fun z1059 q1060 h1061 => ?_
            refine sv_aload_n (pc := 73) dX12_load_73 rfl rfl ?_
            refine gf_X12_7 (pc := 74) dX12_load_74 wF_X12_40 (A_106 hw) T780 ?_
            refine mr_iconst (pc := 77) (z := 2) dX12_load_77 ?_
            refine mr_iload_n (pc := 78) (z := p1) dX12_load_78 rfl rfl ?_
            refine mr_imul (pc := 79) (x := 2) (y := p1) dX12_load_79 ?_
            refine mr_iload_n (pc := 80) (z := p2) dX12_load_80 rfl rfl ?_
            refine mr_iadd (pc := 81) (x := (2 * p1)) (y := p2) dX12_load_81 ?_
            refine la_110 (pc := 82) dX12_load_82 (A_110 hw) T780 (rIx (n := 40) (rAdd (e := 0) (f := 39) (rMulL (n := 2) (e := 0) (f := 38) h14 rfl) h24 rfl) rfl) fun z1062 q1063 h1064 => ?_
            refine mr_icmp_ne (pc := 83) (tgt := 120) dX12_load_83 (by decide) (r32 h1061 rfl) (r32 h1064 rfl) (fun h1076 => ?_) (fun h1076 => ?_)
            · refine mr_iinc (pc := 120) (lv' := [(5, iv (z1024 + 1)), (0, .ref 106), (1, iv p1), (2, iv p2), (3, iv z1025), (4, iv z695)]) dX12_load_120 rfl (by decide) rfl ?_
              refine sv_goto (pc := 123) (tgt := 55) dX12_load_123 (by decide) ?_
              refine mr_lvS (lv' := [(0, .ref 106), (1, iv p1), (2, iv p2), (3, iv z1025), (4, iv z695), (5, iv (z1024 + 1))]) (List.forall_mem_cons.mpr ⟨rfl, List.forall_mem_cons.mpr ⟨rfl, List.forall_mem_cons.mpr ⟨rfl, List.forall_mem_cons.mpr ⟨rfl, List.forall_mem_cons.mpr ⟨rfl, List.forall_mem_cons.mpr ⟨rfl, fun _ h => absurd h List.not_mem_nil⟩⟩⟩⟩⟩⟩) ?_
              exact ih1033 z1025 (z1024 + 1) trivial h1027 (rW (c := 0) (d := 11) (rAdd (e := 1) (f := 11) h1057 (rR (x := 1)) rfl) rfl) (vc_X12_load_17 (nS h1032) h1056 h1057 h1058)
            refine sv_aload_n (pc := 86) dX12_load_86 rfl rfl ?_
            refine gf_X12_105 (pc := 87) dX12_load_87 wF_X12_487 (A_106 hw) T780 ?_
            refine mr_iload (pc := 90) (z := z1024) dX12_load_90 rfl ?_
            refine mr_iconst (pc := 92) (z := 1) dX12_load_92 ?_
            refine mr_iadd (pc := 93) (x := z1024) (y := 1) dX12_load_93 ?_
            refine la_175 (pc := 94) dX12_load_94 (A_175 hw) T780 (rIx (n := 12) (rAdd (e := 1) (f := 11) h1057 (rR (x := 1)) rfl) rfl) fun z1077 q1078 h1079 => ?_
            refine sv_aload_n (pc := 95) dX12_load_95 rfl rfl ?_
            refine gf_X12_7 (pc := 96) dX12_load_96 wF_X12_40 (A_106 hw) T780 ?_
            refine mr_iconst (pc := 99) (z := 2) dX12_load_99 ?_
            refine mr_iload_n (pc := 100) (z := p1) dX12_load_100 rfl rfl ?_
            refine mr_imul (pc := 101) (x := 2) (y := p1) dX12_load_101 ?_
            refine mr_iconst (pc := 102) (z := 1) dX12_load_102 ?_
            refine mr_iadd (pc := 103) (x := (2 * p1)) (y := 1) dX12_load_103 ?_
            refine mr_iload_n (pc := 104) (z := p2) dX12_load_104 rfl rfl ?_
            refine mr_isub (pc := 105) (x := ((2 * p1) + 1)) (y := p2) dX12_load_105 ?_
            refine la_110 (pc := 106) dX12_load_106 (A_110 hw) T780 (rIx (n := 40) (rSub (e := 0) (f := 39) (rAdd (e := 1) (f := 39) (rMulL (n := 2) (e := 0) (f := 38) h14 rfl) (rR (x := 1)) rfl) h24 rfl) rfl) fun z1080 q1081 h1082 => ?_
            refine mr_icmp_ne (pc := 107) (tgt := 120) dX12_load_107 (by decide) (r32 h1079 rfl) (r32 h1082 rfl) (fun h1088 => ?_) (fun h1088 => ?_)
            · refine mr_iinc (pc := 120) (lv' := [(5, iv (z1024 + 1)), (0, .ref 106), (1, iv p1), (2, iv p2), (3, iv z1025), (4, iv z695)]) dX12_load_120 rfl (by decide) rfl ?_
              refine sv_goto (pc := 123) (tgt := 55) dX12_load_123 (by decide) ?_
              refine mr_lvS (lv' := [(0, .ref 106), (1, iv p1), (2, iv p2), (3, iv z1025), (4, iv z695), (5, iv (z1024 + 1))]) (List.forall_mem_cons.mpr ⟨rfl, List.forall_mem_cons.mpr ⟨rfl, List.forall_mem_cons.mpr ⟨rfl, List.forall_mem_cons.mpr ⟨rfl, List.forall_mem_cons.mpr ⟨rfl, List.forall_mem_cons.mpr ⟨rfl, fun _ h => absurd h List.not_mem_nil⟩⟩⟩⟩⟩⟩) ?_
              exact ih1033 z1025 (z1024 + 1) trivial h1027 (rW (c := 0) (d := 11) (rAdd (e := 1) (f := 11) h1057 (rR (x := 1)) rfl) rfl) (vc_X12_load_17 (nS h1032) h1056 h1057 h1058)
            refine mr_iload_n (pc := 110) (z := z1025) dX12_load_110 rfl rfl ?_
            refine sv_aload_n (pc := 111) dX12_load_111 rfl rfl ?_
            refine gf_X12_112 (pc := 112) dX12_load_112 wF_X12_499 (A_106 hw) T780 ?_
            refine mr_iload (pc := 115) (z := z695) dX12_load_115 rfl ?_
            refine la_179 (pc := 117) dX12_load_117 (A_179 hw) T780 (rIx (n := 16) h771 rfl) fun z1089 q1090 h1091 => ?_
            refine mr_iadd (pc := 118) (x := z1025) (y := z1089) dX12_load_118 ?_
            refine mr_wrap fun z1092 h1093 => ?_
            refine mr_istore_n (pc := 119) (lv' := [(3, iv z1092), (0, .ref 106), (1, iv p1), (2, iv p2), (4, iv z695), (5, iv z1024)]) dX12_load_119 rfl (by decide) rfl ?_
            refine mr_iinc (pc := 120) (lv' := [(5, iv (z1024 + 1)), (3, iv z1092), (0, .ref 106), (1, iv p1), (2, iv p2), (4, iv z695)]) dX12_load_120 rfl (by decide) rfl ?_
            refine sv_goto (pc := 123) (tgt := 55) dX12_load_123 (by decide) ?_
            refine mr_lvS (lv' := [(0, .ref 106), (1, iv p1), (2, iv p2), (3, iv z1092), (4, iv z695), (5, iv (z1024 + 1))]) (List.forall_mem_cons.mpr ⟨rfl, List.forall_mem_cons.mpr ⟨rfl, List.forall_mem_cons.mpr ⟨rfl, List.forall_mem_cons.mpr ⟨rfl, List.forall_mem_cons.mpr ⟨rfl, List.forall_mem_cons.mpr ⟨rfl, fun _ h => absurd h List.not_mem_nil⟩⟩⟩⟩⟩⟩) ?_
            exact ih1033 z1092 (z1024 + 1) trivial h1093 (rW (c := 0) (d := 11) (rAdd (e := 1) (f := 11) h1057 (rR (x := 1)) rfl) rfl) (vc_X12_load_17 (nS h1032) h1056 h1057 h1058)
        refine mr_lvS (lv' := [(0, .ref 106), (1, iv p1), (2, iv p2), (3, iv z696), (4, iv z695), (5, iv 0)]) (List.forall_mem_cons.mpr ⟨rfl, List.forall_mem_cons.mpr ⟨rfl, List.forall_mem_cons.mpr ⟨rfl, List.forall_mem_cons.mpr ⟨rfl, List.forall_mem_cons.mpr ⟨rfl, List.forall_mem_cons.mpr ⟨rfl, fun _ h => absurd h List.not_mem_nil⟩⟩⟩⟩⟩⟩) ?_
        exact L1026 13 z696 0 trivial h699 (rW (c := 0) (d := 11) (rR (x := 0)) rfl) vc_X12_goes_21
    refine mr_lvS (lv' := [(0, .ref 106), (1, iv p1), (2, iv p2), (3, iv 0), (4, iv 0)]) (List.forall_mem_cons.mpr ⟨rfl, List.forall_mem_cons.mpr ⟨rfl, List.forall_mem_cons.mpr ⟨rfl, List.forall_mem_cons.mpr ⟨rfl, List.forall_mem_cons.mpr ⟨rfl, fun _ h => absurd h List.not_mem_nil⟩⟩⟩⟩⟩) ?_
    exact L698 18 0 0 μ hT mF.refl (rW (c := (-2147483648)) (d := 2147483647) (rR (x := 0)) rfl) (rW (c := 0) (d := 16) (rR (x := 0)) rfl) vc_X2_unitsOver_13
  have h1094 : 0 ≤ z20 ∧ z20 ≤ 0 := (vc_X12_write_7 h21 h19.2.1 h19.2.2.1 hp2 h19.1)
  have h1095 : p2 < (0 : Int) ∨ (1 : Int) < p2 := (h19.2.2.1 (vc_X12_write_8 h19.2.1 h19.2.2.1 h21 hp2 h1094))
  refine mr_iconst (pc := 17) (z := (-1)) dX12_load_17 ?_
  exact mr_iret dX12_load_18 rfl (le_t rfl) (le_t rfl) hT mF.refl ⟨(rW (c := (-2147483648)) (d := 2147483647) (rR (x := (-1))) rfl), trivial⟩
theorem vc_X12_units_1 {p1 z5 : Int} (h0 : ¬ z5 = 0) (h1 : (z5 = 1 → (0 : Int) ≤ p1 ∧ p1 ≤ (2 : Int))) (h2 : (z5 = 0 → p1 < (0 : Int) ∨ (2 : Int) < p1)) (h3 : (-2147483648) ≤ p1 ∧ p1 ≤ 2147483647) (h4 : 0 ≤ z5 ∧ z5 ≤ 1) : 1 ≤ z5 ∧ z5 ≤ 1 := by omega
theorem vc_X12_units_2 {p1 z5 : Int} (h0 : (z5 = 1 → (0 : Int) ≤ p1 ∧ p1 ≤ (2 : Int))) (h1 : (z5 = 0 → p1 < (0 : Int) ∨ (2 : Int) < p1)) (h2 : ¬ z5 = 0) (h3 : (-2147483648) ≤ p1 ∧ p1 ≤ 2147483647) (h4 : 1 ≤ z5 ∧ z5 ≤ 1) : z5 = 1 := by omega
theorem vc_X12_units_3 {p1 z5 : Int} (h0 : (0 : Int) ≤ p1 ∧ p1 ≤ (2 : Int)) (h1 : (z5 = 1 → (0 : Int) ≤ p1 ∧ p1 ≤ (2 : Int))) (h2 : (z5 = 0 → p1 < (0 : Int) ∨ (2 : Int) < p1)) (h3 : (-2147483648) ≤ p1 ∧ p1 ≤ 2147483647) (h4 : 1 ≤ z5 ∧ z5 ≤ 1) : 0 ≤ p1 ∧ p1 ≤ 2 := by omega
theorem vc_X12_units_9 {p1 z5 : Int} (h0 : z5 = 0) (h1 : (z5 = 1 → (0 : Int) ≤ p1 ∧ p1 ≤ (2 : Int))) (h2 : (z5 = 0 → p1 < (0 : Int) ∨ (2 : Int) < p1)) (h3 : (-2147483648) ≤ p1 ∧ p1 ≤ 2147483647) (h4 : 0 ≤ z5 ∧ z5 ≤ 1) : 0 ≤ z5 ∧ z5 ≤ 0 := by omega
theorem vc_X12_units_10 {p1 z5 : Int} (h0 : (z5 = 1 → (0 : Int) ≤ p1 ∧ p1 ≤ (2 : Int))) (h1 : (z5 = 0 → p1 < (0 : Int) ∨ (2 : Int) < p1)) (h2 : z5 = 0) (h3 : (-2147483648) ≤ p1 ∧ p1 ≤ 2147483647) (h4 : 0 ≤ z5 ∧ z5 ≤ 0) : z5 = 0 := by omega
set_option maxRecDepth 4000 in
set_option maxHeartbeats 4000000 in
theorem c_X12_units {l : Launch} {D : va_G} {c : Nat → ClassId} {H0 : Heap} {sa : Nat × Nat × (Nat → Int32)} {w : mW} {μ : mM} (hw : mWF w) (hT : mT w μ) {p1 : Int} (hp1 : (-2147483648) ≤ p1 ∧ p1 ≤ 2147483647) : sC (gG l D c H0 sa) mX12_units 5 0 0 [.ref 106, iv p1] (mk w μ) (qI w [106106, 175999] μ (fun z μ1 => ((-2147483648) ≤ z ∧ z ≤ 2147483647) ∧ True)) := by
  refine sC.of rfl (by decide) (le_t rfl) ?_
  refine mr_lvE (lv' := [(0, .ref 106), (1, iv p1)]) rfl ?_
  refine mr_iload_n (pc := 0) (z := p1) dX12_units_0 rfl rfl ?_
  refine mr_iconst (pc := 1) (z := 0) dX12_units_1 ?_
  refine mr_iconst (pc := 2) (z := 2) dX12_units_2 ?_
  refine mr_cSP (pc := 3) (c_X12_in hw hT hp1 (rW (c := (-2147483648)) (d := 2147483647) (rR (x := 0)) rfl) (rW (c := (-2147483648)) (d := 2147483647) (rR (x := 2)) rfl)) (gOk _ _ _ _ _) dX12_units_3 (tX12_in _ _ _ _ _) wS_X12_in wM_X12_18 ⟨le_t rfl, le_t rfl⟩ ⟨le_t rfl, le_t rfl⟩ rfl (le_t rfl) fun z5 h4 => ?_
  refine mr_if_ne (pc := 6) (tgt := 11) dX12_units_6 (by decide) (r32 h4.1 rfl) (fun h6 => ?_) (fun h6 => ?_)
  · have h7 : 1 ≤ z5 ∧ z5 ≤ 1 := (vc_X12_units_1 h6 h4.2.1 h4.2.2.1 hp1 h4.1)
    have h8 : (0 : Int) ≤ p1 ∧ p1 ≤ (2 : Int) := (h4.2.1 (vc_X12_units_2 h4.2.1 h4.2.2.1 h6 hp1 h7))
    have h9 : 0 ≤ p1 ∧ p1 ≤ 2 := (vc_X12_units_3 h8 h4.2.1 h4.2.2.1 hp1 h7)
    refine mr_iconst (pc := 11) (z := 0) dX12_units_11 ?_
    refine mr_istore_n (pc := 12) (lv' := [(2, iv 0), (0, .ref 106), (1, iv p1)]) dX12_units_12 rfl (by decide) rfl ?_
    refine mr_iconst (pc := 13) (z := 0) dX12_units_13 ?_
    refine mr_istore_n (pc := 14) (lv' := [(3, iv 0), (2, iv 0), (0, .ref 106), (1, iv p1)]) dX12_units_14 rfl (by decide) rfl ?_
    have L227 : ∀ (nL227 : Nat) (z225 z224 : Int) (μ226 : mM), mT w μ226 → mF [106106, 175999] w μ μ226 → ((-2147483648) ≤ z225 ∧ z225 ≤ 2147483647) → (0 ≤ z224 ∧ z224 ≤ 16) → (17 - z224) < (nL227 : Int) → sV (gG l D c H0 sa) mX12_units (sRm 5 0 0) (sZ (gG l D c H0 sa) 0 0 (qI w [106106, 175999] μ (fun z μ1 => ((-2147483648) ≤ z ∧ z ≤ 2147483647) ∧ True))) 15 [(0, .ref 106), (1, iv p1), (2, iv z225), (3, iv z224)] [] (mk w μ226) 0 0 := by
      intro nL227
      induction nL227 with
      | zero => intro z225 z224 μ226 T230 F231 h228 h229 h233; exact ((vc_X2_unitsOver_1 h233 h229)).elim
      | succ nL227 ih234 =>
        intro z225 z224 μ226 T230 F231 h228 h229 h233
        refine mr_iload_n (pc := 15) (z := z224) dX12_units_15 rfl rfl ?_
        refine sv_aload_n (pc := 16) dX12_units_16 rfl rfl ?_
        refine gf_X12_109 (pc := 17) dX12_units_17 wF_X12_695 (A_106 hw) T230 fun z235 q236 h237 => ?_
        refine mr_icmp_ge (pc := 20) (tgt := 62) dX12_units_20 (by decide) (r32 h229 rfl) (r32 h237 rfl) (fun h256 => ?_) (fun h256 => ?_)
        · refine mr_iload_n (pc := 62) (z := z225) dX12_units_62 rfl rfl ?_
          exact mr_iret dX12_units_63 rfl (le_t rfl) (le_t rfl) T230 (mF.call mF.refl F231 rfl) ⟨h228, trivial⟩
        have h257 : 0 ≤ z224 ∧ z224 ≤ 15 := (vc_X12_load_11 h256 h229 h237)
        have h258 : 1 ≤ z235 ∧ z235 ≤ 16 := (vc_X12_load_12 h256 h257 h237)
        refine mr_iload_n (pc := 23) (z := z225) dX12_units_23 rfl rfl ?_
        refine sv_aload_n (pc := 24) dX12_units_24 rfl rfl ?_
        refine sv_aload_n (pc := 25) dX12_units_25 rfl rfl ?_
        refine gf_X12_110 (pc := 26) dX12_units_26 wF_X12_493 (A_106 hw) T230 ?_
        refine mr_iload_n (pc := 29) (z := z224) dX12_units_29 rfl rfl ?_
        refine la_177 (pc := 30) dX12_units_30 (A_177 hw) T230 (rIx (n := 16) h257 rfl) fun z259 q260 h261 => ?_
        refine sv_aload_n (pc := 31) dX12_units_31 rfl rfl ?_
        refine gf_X12_111 (pc := 32) dX12_units_32 wF_X12_496 (A_106 hw) T230 ?_
        refine mr_iload_n (pc := 35) (z := z224) dX12_units_35 rfl rfl ?_
        refine la_178 (pc := 36) dX12_units_36 (A_178 hw) T230 (rIx (n := 16) h257 rfl) fun z262 q263 h264 => ?_
        refine mr_cVI (pc := 37) (c_X12_goes hw T230 h261 h264) (gOk _ _ _ _ _) dX12_units_37 (tX12_goes _ _ _ _ _) ⟨wV_X12_goes, wL_X12_goes⟩ wM_X12_689 (gCX12 _ _ _ _ _) rfl (A_106 hw) rfl ⟨le_t rfl, le_t rfl⟩ ⟨le_t rfl, le_t rfl⟩ rfl (le_t rfl) fun z269 μ265 T266 F267 h268 => ?_
        refine mr_iload_n (pc := 40) (z := p1) dX12_units_40 rfl rfl ?_
        refine mr_icmp_ne (pc := 41) (tgt := 53) dX12_units_41 (by decide) (r32 h268.1 rfl) (r32 h9 rfl) (fun h273 => ?_) (fun h273 => ?_)
        · refine mr_iconst (pc := 53) (z := 0) dX12_units_53 ?_
          refine mr_iadd (pc := 54) (x := z225) (y := 0) dX12_units_54 ?_
          refine mr_istore_n (pc := 55) (lv' := [(2, iv (z225 + 0)), (0, .ref 106), (1, iv p1), (3, iv z224)]) dX12_units_55 rfl (by decide) rfl ?_
          refine mr_iinc (pc := 56) (lv' := [(3, iv (z224 + 1)), (2, iv (z225 + 0)), (0, .ref 106), (1, iv p1)]) dX12_units_56 rfl (by decide) rfl ?_
          refine sv_goto (pc := 59) (tgt := 15) dX12_units_59 (by decide) ?_
          refine mr_lvS (lv' := [(0, .ref 106), (1, iv p1), (2, iv (z225 + 0)), (3, iv (z224 + 1))]) (List.forall_mem_cons.mpr ⟨rfl, List.forall_mem_cons.mpr ⟨rfl, List.forall_mem_cons.mpr ⟨rfl, List.forall_mem_cons.mpr ⟨rfl, fun _ h => absurd h List.not_mem_nil⟩⟩⟩⟩) ?_
          exact ih234 (z225 + 0) (z224 + 1) μ265 T266 (mF.call (mF.call mF.refl F231 rfl) F267 rfl) (rAdd (e := (-2147483648)) (f := 2147483647) h228 (rR (x := 0)) rfl) (rW (c := 0) (d := 16) (rAdd (e := 1) (f := 16) h257 (rR (x := 1)) rfl) rfl) (vc_X12_load_14 (nS h233) h256 h257 h258)
        refine sv_aload_n (pc := 44) dX12_units_44 rfl rfl ?_
        refine gf_X12_112 (pc := 45) dX12_units_45 wF_X12_499 (A_106 hw) T266 ?_
        refine mr_iload_n (pc := 48) (z := z224) dX12_units_48 rfl rfl ?_
        refine la_179 (pc := 49) dX12_units_49 (A_179 hw) T266 (rIx (n := 16) h257 rfl) fun z274 q275 h276 => ?_
        refine sv_goto (pc := 50) (tgt := 54) dX12_units_50 (by decide) ?_
        refine mr_iadd (pc := 54) (x := z225) (y := z274) dX12_units_54 ?_
        refine mr_wrap fun z277 h278 => ?_
        refine mr_istore_n (pc := 55) (lv' := [(2, iv z277), (0, .ref 106), (1, iv p1), (3, iv z224)]) dX12_units_55 rfl (by decide) rfl ?_
        refine mr_iinc (pc := 56) (lv' := [(3, iv (z224 + 1)), (2, iv z277), (0, .ref 106), (1, iv p1)]) dX12_units_56 rfl (by decide) rfl ?_
        refine sv_goto (pc := 59) (tgt := 15) dX12_units_59 (by decide) ?_
        refine mr_lvS (lv' := [(0, .ref 106), (1, iv p1), (2, iv z277), (3, iv (z224 + 1))]) (List.forall_mem_cons.mpr ⟨rfl, List.forall_mem_cons.mpr ⟨rfl, List.forall_mem_cons.mpr ⟨rfl, List.forall_mem_cons.mpr ⟨rfl, fun _ h => absurd h List.not_mem_nil⟩⟩⟩⟩) ?_
        exact ih234 z277 (z224 + 1) μ265 T266 (mF.call (mF.call mF.refl F231 rfl) F267 rfl) h278 (rW (c := 0) (d := 16) (rAdd (e := 1) (f := 16) h257 (rR (x := 1)) rfl) rfl) (vc_X12_load_14 (nS h233) h256 h257 h258)
    refine mr_lvS (lv' := [(0, .ref 106), (1, iv p1), (2, iv 0), (3, iv 0)]) (List.forall_mem_cons.mpr ⟨rfl, List.forall_mem_cons.mpr ⟨rfl, List.forall_mem_cons.mpr ⟨rfl, List.forall_mem_cons.mpr ⟨rfl, fun _ h => absurd h List.not_mem_nil⟩⟩⟩⟩) ?_
    exact L227 18 0 0 μ hT mF.refl (rW (c := (-2147483648)) (d := 2147483647) (rR (x := 0)) rfl) (rW (c := 0) (d := 16) (rR (x := 0)) rfl) vc_X2_unitsOver_13
  have h279 : 0 ≤ z5 ∧ z5 ≤ 0 := (vc_X12_units_9 h6 h4.2.1 h4.2.2.1 hp1 h4.1)
  have h280 : p1 < (0 : Int) ∨ (2 : Int) < p1 := (h4.2.2.1 (vc_X12_units_10 h4.2.1 h4.2.2.1 h6 hp1 h279))
  refine mr_iconst (pc := 9) (z := (-1)) dX12_units_9 ?_
  exact mr_iret dX12_units_10 rfl (le_t rfl) (le_t rfl) hT mF.refl ⟨(rW (c := (-2147483648)) (d := 2147483647) (rR (x := (-1))) rfl), trivial⟩
end
section
/-! no rows -/
end
section
/-! A draft of a policy: its acts and rows, while nothing is wrong. -/
def offL (μ : mM) (a : Nat) (L : List Nat) (μ1 : mM) : Prop := ∀ k, k ∉ L → μ1 a k = μ a k
theorem offL.refl {μ : mM} {a : Nat} {L : List Nat} : offL μ a L μ := fun _ _ => rfl
theorem offL.up {μ μ1 μ2 : mM} {a k : Nat} {L : List Nat} {z : Int} (h : offL μ a L μ1) (hU : mU μ1 a k z μ2) (hk : k ∈ L) : offL μ a L μ2 := fun j hj => (hU.2 a j (Or.inr (fun e => hj (e ▸ hk)))).trans (h j hj)
theorem offL.upO {μ μ1 μ2 : mM} {a b k : Nat} {L : List Nat} {z : Int} (h : offL μ a L μ1) (hU : mU μ1 b k z μ2) (hb : a ≠ b) : offL μ a L μ2 := fun j hj => (hU.2 a j (Or.inl hb)).trans (h j hj)
theorem offL.fr {l : List Nat} {w : mW} {μ μ1 μ2 : mM} {a s : Nat} {L : List Nat} (h : offL μ a L μ1) (hF : mF l w μ1 μ2) (hA : mAt w a s) (hl : ∀ j, l.elem (1000 * s + (if mArr s then 999 else j)) = false) : offL μ a L μ2 := fun j hj => (hF.f (z := μ1 a j) hA (hl j) rfl).trans (h j hj)
def AC (μ : mM) : Prop := μ 106 37 = 0 → ∀ c : Nat, (c : Int) < μ 131 (μ 106 58).toNat → μ 140 (300 * (μ 106 58).toNat + c) = 28 → 0 ≤ μ 141 (300 * (μ 106 58).toNat + c) ∧ μ 141 (300 * (μ 106 58).toNat + c) < μ 106 39
theorem AC.bad {μ : mM} {c : Int} (q : μ 106 37 = c) (h : ¬ c = 0) : AC μ := fun e => absurd (q ▸ e) h
def acFree (l : List Nat) : Bool := !(l.elem 131999) && (!(l.elem 140999) && (!(l.elem 141999) && (!(l.elem 106058) && !(l.elem 106039))))
theorem AC.keep {l : List Nat} {w : mW} {μ μ1 : mM} {c : Int} (h : AC μ) (hw : mWF w) (hF : mF l w μ μ1) (hl : acFree l = true) (q : μ 106 37 = c) (hc : c = 0) : AC μ1 := by
  simp only [acFree, Bool.and_eq_true, Bool.not_eq_true'] at hl
  obtain ⟨l1, l2, l3, l4, l5⟩ := hl
  have e1 : μ1 131 = μ 131 := funext fun i => hF.f (A_131 hw) l1 rfl
  have e2 : μ1 140 = μ 140 := funext fun i => hF.f (A_140 hw) l2 rfl
  have e3 : μ1 141 = μ 141 := funext fun i => hF.f (A_141 hw) l3 rfl
  have e4 : μ1 106 58 = μ 106 58 := hF.f (A_106 hw) l4 rfl
  have e5 : μ1 106 39 = μ 106 39 := hF.f (A_106 hw) l5 rfl
  have := h (q.trans hc)
  intro _
  rw [e1, e2, e3, e4, e5]; exact this
theorem AC.init {μ : mM} {d z : Int} (q : μ 106 58 = d) (qa : μ 131 d.toNat = z) (hz : z = 0) : AC μ := by
  intro _ c hc
  rw [q, qa] at hc; omega
theorem AC.act {μ μ1 : mM} {k d a b c v x n : Int} (h : AC μ) (q : μ 106 37 = k) (hk : k = 0) (qd : μ 106 58 = d) (qd1 : μ1 106 58 = d) (hd : 0 ≤ d) (qn : μ 106 39 = n) (qn1 : μ1 106 39 = n) (qa : μ 131 d.toNat = a) (ha : 0 ≤ a) (qa1 : μ1 131 d.toNat = b) (hb : b = a + 1) (hc : c = 300 * d + a) (o0 : offL μ 140 [c.toNat] μ1) (o1 : offL μ 141 [c.toNat] μ1) (qw : μ1 140 c.toNat = v) (qx : μ1 141 c.toNat = x) (hv : ¬ v = 28 ∨ (0 ≤ x ∧ x < n)) : AC μ1 := by
  intro _ j hj hw
  rw [qd1] at hj hw ⊢
  rw [qn1]
  rw [qa1] at hj
  have h1 := h (q.trans hk) j
  rw [qd, qn, qa] at h1
  by_cases he : (j : Int) = a
  · have e : 300 * d.toNat + j = c.toNat := by omega
    rw [e, qw] at hw
    rw [e, qx]
    exact hv.resolve_left (fun g => g hw)
  · have e : 300 * d.toNat + j ∉ [c.toNat] := by
      intro g
      rcases List.mem_cons.mp g with g | g
      · omega
      · cases g
    rw [o0 _ e] at hw
    rw [o1 _ e]
    exact h1 (by omega) hw
def RW (μ : mM) : Prop := μ 106 37 = 0 → ∀ r : Nat, (r : Int) < μ 127 (μ 106 58).toNat → μ 129 (31 * (μ 106 58).toNat + r) ≤ μ 129 (31 * (μ 106 58).toNat + r + 1) ∧ μ 129 (31 * (μ 106 58).toNat + r + 1) ≤ μ 131 (μ 106 58).toNat
theorem RW.bad {μ : mM} {c : Int} (q : μ 106 37 = c) (h : ¬ c = 0) : RW μ := fun e => absurd (q ▸ e) h
def rwFree (l : List Nat) : Bool := !(l.elem 127999) && (!(l.elem 129999) && (!(l.elem 131999) && !(l.elem 106058)))
theorem RW.keep {l : List Nat} {w : mW} {μ μ1 : mM} {c : Int} (h : RW μ) (hw : mWF w) (hF : mF l w μ μ1) (hl : rwFree l = true) (q : μ 106 37 = c) (hc : c = 0) : RW μ1 := by
  simp only [rwFree, Bool.and_eq_true, Bool.not_eq_true'] at hl
  obtain ⟨l1, l2, l3, l4⟩ := hl
  have e1 : μ1 127 = μ 127 := funext fun i => hF.f (A_127 hw) l1 rfl
  have e2 : μ1 129 = μ 129 := funext fun i => hF.f (A_129 hw) l2 rfl
  have e3 : μ1 131 = μ 131 := funext fun i => hF.f (A_131 hw) l3 rfl
  have e4 : μ1 106 58 = μ 106 58 := hF.f (A_106 hw) l4 rfl
  have := h (q.trans hc)
  intro _
  rw [e1, e2, e3, e4]; exact this
theorem RW.init {μ : mM} {d z : Int} (q : μ 106 58 = d) (qa : μ 127 d.toNat = z) (hz : z = 0) : RW μ := by
  intro _ c hc
  rw [q, qa] at hc; omega
theorem RW.row {μ μ1 : mM} {k d n m a b x y r e : Int} (h : RW μ) (q : μ 106 37 = k) (hk : k = 0) (qd : μ 106 58 = d) (qd1 : μ1 106 58 = d) (hd : 0 ≤ d) (qr : μ 127 d.toNat = n) (hn : 0 ≤ n) (qr1 : μ1 127 d.toNat = m) (hm : m = n + 1) (qa : μ 131 d.toNat = a) (qa1 : μ1 131 d.toNat = b) (hab : a ≤ b) (hr : r = 31 * d + n) (he : e = r + 1) (q1 : μ1 129 r.toNat = x) (hx : x = a) (q2 : μ1 129 e.toNat = y) (hy : y = b) (o : offL μ 129 [r.toNat, e.toNat] μ1) : RW μ1 := by
  intro _ j hj
  rw [qd1] at hj ⊢
  rw [qr1] at hj
  rw [qa1]
  have h1 := h (q.trans hk)
  rw [qd] at h1
  have hoff : ∀ i : Nat, (i : Int) < r → μ1 129 i = μ 129 i := fun i hi => o i (by
    intro g
    rcases List.mem_cons.mp g with g | g
    · omega
    · rcases List.mem_cons.mp g with g | g
      · omega
      · cases g)
  by_cases hjn : (j : Int) = n
  · have e1 : 31 * d.toNat + j = r.toNat := by omega
    have e2 : r.toNat + 1 = e.toNat := by omega
    rw [e1, e2, q1, q2, hx, hy]
    exact ⟨hab, Int.le_refl b⟩
  · have h2 := h1 j (by rw [qr]; omega)
    rw [qa] at h2
    rw [hoff (31 * d.toNat + j) (by omega)]
    by_cases hj1 : (j : Int) + 1 = n
    · have e1 : 31 * d.toNat + j + 1 = r.toNat := by omega
      rw [e1, q1, hx]
      omega
    · rw [hoff (31 * d.toNat + j + 1) (by omega)]
      omega
theorem PK.up127 {μ μ1 : mM} {e z n : Int} (h : PK μ) (hU : mU μ 127 e.toNat z μ1) (q : μ1 106 39 = n) (he : 0 ≤ e ∧ n ≤ e) : PK μ1 := by
  have e0 : μ 106 39 = n := (hU.2 106 39 (Or.inl (by decide))).symm.trans q
  refine ⟨fun i hi ht => ?_, fun p hp => ?_⟩
  · rw [hU.2 115 i (Or.inl (by decide)), hU.2 106 39 (Or.inl (by decide))]; exact h.1 i hi (by rw [← hU.2 106 6 (Or.inl (by decide))]; exact ht)
  · rw [q] at hp
    have := h.2 p (by rw [e0]; exact hp)
    unfold polT at this ⊢
    rw [hU.2 127 p (Or.inr (by omega)), hU.2 131 p (Or.inl (by decide))]
    have f1 : μ1 129 = μ 129 := funext fun i => hU.2 129 i (Or.inl (by decide))
    have f2 : μ1 140 = μ 140 := funext fun i => hU.2 140 i (Or.inl (by decide))
    have f3 : μ1 141 = μ 141 := funext fun i => hU.2 141 i (Or.inl (by decide))
    rw [f1, f2, f3]; exact this
theorem PK.up131 {μ μ1 : mM} {e z n : Int} (h : PK μ) (hU : mU μ 131 e.toNat z μ1) (q : μ1 106 39 = n) (he : 0 ≤ e ∧ n ≤ e) : PK μ1 := by
  have e0 : μ 106 39 = n := (hU.2 106 39 (Or.inl (by decide))).symm.trans q
  refine ⟨fun i hi ht => ?_, fun p hp => ?_⟩
  · rw [hU.2 115 i (Or.inl (by decide)), hU.2 106 39 (Or.inl (by decide))]; exact h.1 i hi (by rw [← hU.2 106 6 (Or.inl (by decide))]; exact ht)
  · rw [q] at hp
    have := h.2 p (by rw [e0]; exact hp)
    unfold polT at this ⊢
    rw [hU.2 131 p (Or.inr (by omega)), hU.2 127 p (Or.inl (by decide))]
    have f1 : μ1 129 = μ 129 := funext fun i => hU.2 129 i (Or.inl (by decide))
    have f2 : μ1 140 = μ 140 := funext fun i => hU.2 140 i (Or.inl (by decide))
    have f3 : μ1 141 = μ 141 := funext fun i => hU.2 141 i (Or.inl (by decide))
    rw [f1, f2, f3]; exact this
theorem PK.up129 {w : mW} {μ μ1 : mM} {e z n : Int} (h : PK μ) (hw : mWF w) (hT : mT w μ1) (hU : mU μ 129 e.toNat z μ1) (q : μ1 106 39 = n) (he : 0 ≤ e ∧ 31 * n ≤ e) : PK μ1 := by
  have e0 : μ 106 39 = n := (hU.2 106 39 (Or.inl (by decide))).symm.trans q
  refine ⟨fun i hi ht => ?_, fun p hp => ?_⟩
  · rw [hU.2 115 i (Or.inl (by decide)), hU.2 106 39 (Or.inl (by decide))]; exact h.1 i hi (by rw [← hU.2 106 6 (Or.inl (by decide))]; exact ht)
  · rw [q] at hp
    have := h.2 p (by rw [e0]; exact hp)
    have t : 0 ≤ μ1 127 p ∧ μ1 127 p ≤ 30 := hT 127 127 (A_127 hw) p
    refine ⟨fun r hr => ?_, fun c hc hw => ?_⟩
    · have g := this.1 r (by rw [← hU.2 127 p (Or.inl (by decide))]; exact hr)
      rw [hU.2 129 (31 * p + r) (Or.inr (by omega)), hU.2 129 (31 * p + r + 1) (Or.inr (by omega)), hU.2 131 p (Or.inl (by decide))]
      exact g
    · rw [hU.2 131 p (Or.inl (by decide))] at hc
      rw [hU.2 140 _ (Or.inl (by decide))] at hw
      rw [hU.2 141 _ (Or.inl (by decide))]
      exact this.2 c hc hw
theorem PK.up140 {w : mW} {μ μ1 : mM} {e z n : Int} (h : PK μ) (hw : mWF w) (hT : mT w μ1) (hU : mU μ 140 e.toNat z μ1) (q : μ1 106 39 = n) (he : 0 ≤ e ∧ 300 * n ≤ e) : PK μ1 := by
  have e0 : μ 106 39 = n := (hU.2 106 39 (Or.inl (by decide))).symm.trans q
  refine ⟨fun i hi ht => ?_, fun p hp => ?_⟩
  · rw [hU.2 115 i (Or.inl (by decide)), hU.2 106 39 (Or.inl (by decide))]; exact h.1 i hi (by rw [← hU.2 106 6 (Or.inl (by decide))]; exact ht)
  · rw [q] at hp
    have := h.2 p (by rw [e0]; exact hp)
    have t : 0 ≤ μ1 131 p ∧ μ1 131 p ≤ 300 := hT 131 131 (A_131 hw) p
    refine ⟨fun r hr => ?_, fun c hc hw => ?_⟩
    · rw [hU.2 129 _ (Or.inl (by decide)), hU.2 129 _ (Or.inl (by decide)), hU.2 131 p (Or.inl (by decide))]
      exact this.1 r (by rw [← hU.2 127 p (Or.inl (by decide))]; exact hr)
    · rw [hU.2 140 _ (Or.inr (by omega))] at hw
      rw [hU.2 141 _ (Or.inl (by decide))]
      exact this.2 c (by rw [← hU.2 131 p (Or.inl (by decide))]; exact hc) hw
theorem PK.up141 {w : mW} {μ μ1 : mM} {e z n : Int} (h : PK μ) (hw : mWF w) (hT : mT w μ1) (hU : mU μ 141 e.toNat z μ1) (q : μ1 106 39 = n) (he : 0 ≤ e ∧ 300 * n ≤ e) : PK μ1 := by
  have e0 : μ 106 39 = n := (hU.2 106 39 (Or.inl (by decide))).symm.trans q
  refine ⟨fun i hi ht => ?_, fun p hp => ?_⟩
  · rw [hU.2 115 i (Or.inl (by decide)), hU.2 106 39 (Or.inl (by decide))]; exact h.1 i hi (by rw [← hU.2 106 6 (Or.inl (by decide))]; exact ht)
  · rw [q] at hp
    have := h.2 p (by rw [e0]; exact hp)
    have t : 0 ≤ μ1 131 p ∧ μ1 131 p ≤ 300 := hT 131 131 (A_131 hw) p
    refine ⟨fun r hr => ?_, fun c hc hw => ?_⟩
    · rw [hU.2 129 _ (Or.inl (by decide)), hU.2 129 _ (Or.inl (by decide)), hU.2 131 p (Or.inl (by decide))]
      exact this.1 r (by rw [← hU.2 127 p (Or.inl (by decide))]; exact hr)
    · rw [hU.2 140 _ (Or.inl (by decide))] at hw
      rw [hU.2 141 _ (Or.inr (by omega))]
      exact this.2 c (by rw [← hU.2 131 p (Or.inl (by decide))]; exact hc) hw
/-- a draft without a fault becomes a policy -/
theorem PK.new {μ μ1 : mM} {k d n z : Int} (h : PK μ) (hA : AC μ) (hR : RW μ) (q : μ 106 37 = k) (hk : k = 0) (qd : μ 106 58 = d) (qn : μ 106 39 = n) (hd : d = n) (hn : 0 ≤ n) (hU : mU μ 106 39 z μ1) (hz : z = n + 1) : PK μ1 := by
  have f : ∀ a j, a ≠ 106 → μ1 a j = μ a j := fun a j ha => hU.2 a j (Or.inl ha)
  refine ⟨fun i hi ht => ?_, fun p hp => ?_⟩
  · rw [f 115 i (by decide), hU.1]
    have := h.1 i hi (by rw [← hU.2 106 6 (Or.inr (by decide))]; exact ht)
    rw [qn] at this
    rcases this with g | g
    · exact Or.inl g
    · exact Or.inr ⟨g.1, by omega⟩
  · rw [hU.1] at hp
    unfold polT
    have f1 : μ1 127 = μ 127 := funext fun i => f 127 i (by decide)
    have f2 : μ1 129 = μ 129 := funext fun i => f 129 i (by decide)
    have f3 : μ1 131 = μ 131 := funext fun i => f 131 i (by decide)
    have f4 : μ1 140 = μ 140 := funext fun i => f 140 i (by decide)
    have f5 : μ1 141 = μ 141 := funext fun i => f 141 i (by decide)
    rw [f1, f2, f3, f4, f5]
    by_cases hpn : (p : Int) = n
    · have e : (μ 106 58).toNat = p := by rw [qd]; omega
      have a1 := hA (q.trans hk)
      have r1 := hR (q.trans hk)
      rw [e] at a1 r1
      refine ⟨r1, fun c hc hw => ?_⟩
      have := a1 c hc hw
      rw [qn] at this
      omega
    · exact h.2 p (by rw [qn]; omega)
end
section
theorem dX12_actRead_0 : decode cX12_actRead 0 = .ok (.aload_n 0, 1) := dc0 dO_42 (by decide +kernel)
theorem dX12_actRead_1 : decode cX12_actRead 1 = .ok (.getfield 230, 3) := dcU2 dO_180 (by decide +kernel)
theorem dX12_actRead_4 : decode cX12_actRead 4 = .ok (.iconst 1, 1) := dc0 dO_4 (by decide +kernel)
theorem dX12_actRead_5 : decode cX12_actRead 5 = .ok (.if_icmp .ne 39, 3) := dcS2 dO_160 (by decide +kernel)
theorem dX12_actRead_8 : decode cX12_actRead 8 = .ok (.aload_n 0, 1) := dc0 dO_42 (by decide +kernel)
theorem dX12_actRead_9 : decode cX12_actRead 9 = .ok (.getfield 233, 3) := dcU2 dO_180 (by decide +kernel)
theorem dX12_actRead_12 : decode cX12_actRead 12 = .ok (.bipush 23, 2) := dcS1 dO_16 (by decide +kernel)
theorem dX12_actRead_14 : decode cX12_actRead 14 = .ok (.bipush 28, 2) := dcS1 dO_16 (by decide +kernel)
theorem dX12_actRead_16 : decode cX12_actRead 16 = .ok (.invokestatic 18, 3) := dcU2 dO_184 (by decide +kernel)
theorem dX12_actRead_19 : decode cX12_actRead 19 = .ok (.ifCond .ne 21, 3) := dcS2 dO_154 (by decide +kernel)
theorem dX12_actRead_22 : decode cX12_actRead 22 = .ok (.aload_n 0, 1) := dc0 dO_42 (by decide +kernel)
theorem dX12_actRead_23 : decode cX12_actRead 23 = .ok (.getfield 233, 3) := dcU2 dO_180 (by decide +kernel)
theorem dX12_actRead_26 : decode cX12_actRead 26 = .ok (.bipush 12, 2) := dcS1 dO_16 (by decide +kernel)
theorem dX12_actRead_28 : decode cX12_actRead 28 = .ok (.if_icmp .eq 12, 3) := dcS2 dO_159 (by decide +kernel)
theorem dX12_actRead_31 : decode cX12_actRead 31 = .ok (.aload_n 0, 1) := dc0 dO_42 (by decide +kernel)
theorem dX12_actRead_32 : decode cX12_actRead 32 = .ok (.getfield 233, 3) := dcU2 dO_180 (by decide +kernel)
theorem dX12_actRead_35 : decode cX12_actRead 35 = .ok (.bipush 13, 2) := dcS1 dO_16 (by decide +kernel)
theorem dX12_actRead_37 : decode cX12_actRead 37 = .ok (.if_icmp .ne 7, 3) := dcS2 dO_160 (by decide +kernel)
theorem dX12_actRead_40 : decode cX12_actRead 40 = .ok (.iconst 1, 1) := dc0 dO_4 (by decide +kernel)
theorem dX12_actRead_41 : decode cX12_actRead 41 = .ok (.goto 4, 3) := dcS2 dO_167 (by decide +kernel)
theorem dX12_actRead_44 : decode cX12_actRead 44 = .ok (.iconst 0, 1) := dc0 dO_3 (by decide +kernel)
theorem dX12_actRead_45 : decode cX12_actRead 45 = .ok (.istore_n 1, 1) := dc0 dO_60 (by decide +kernel)
theorem dX12_actRead_46 : decode cX12_actRead 46 = .ok (.iload_n 1, 1) := dc0 dO_27 (by decide +kernel)
theorem dX12_actRead_47 : decode cX12_actRead 47 = .ok (.ifCond .ne 8, 3) := dcS2 dO_154 (by decide +kernel)
theorem dX12_actRead_50 : decode cX12_actRead 50 = .ok (.aload_n 0, 1) := dc0 dO_42 (by decide +kernel)
theorem dX12_actRead_51 : decode cX12_actRead 51 = .ok (.iconst 2, 1) := dc0 dO_5 (by decide +kernel)
theorem dX12_actRead_52 : decode cX12_actRead 52 = .ok (.invokevirtual 240, 3) := dcU2 dO_182 (by decide +kernel)
theorem dX12_actRead_55 : decode cX12_actRead 55 = .ok (.aload_n 0, 1) := dc0 dO_42 (by decide +kernel)
theorem dX12_actRead_56 : decode cX12_actRead 56 = .ok (.getfield 215, 3) := dcU2 dO_180 (by decide +kernel)
theorem dX12_actRead_59 : decode cX12_actRead 59 = .ok (.ifCond .eq 4, 3) := dcS2 dO_153 (by decide +kernel)
theorem dX12_actRead_62 : decode cX12_actRead 62 = .ok (.return_, 1) := dc0 dO_177 (by decide +kernel)
theorem dX12_actRead_63 : decode cX12_actRead 63 = .ok (.sipush 300, 3) := dcS2 dO_17 (by decide +kernel)
theorem dX12_actRead_66 : decode cX12_actRead 66 = .ok (.aload_n 0, 1) := dc0 dO_42 (by decide +kernel)
theorem dX12_actRead_67 : decode cX12_actRead 67 = .ok (.getfield 278, 3) := dcU2 dO_180 (by decide +kernel)
theorem dX12_actRead_70 : decode cX12_actRead 70 = .ok (.imul, 1) := dc0 dO_104 (by decide +kernel)
theorem dX12_actRead_71 : decode cX12_actRead 71 = .ok (.aload_n 0, 1) := dc0 dO_42 (by decide +kernel)
theorem dX12_actRead_72 : decode cX12_actRead 72 = .ok (.getfield 346, 3) := dcU2 dO_180 (by decide +kernel)
theorem dX12_actRead_75 : decode cX12_actRead 75 = .ok (.aload_n 0, 1) := dc0 dO_42 (by decide +kernel)
theorem dX12_actRead_76 : decode cX12_actRead 76 = .ok (.getfield 278, 3) := dcU2 dO_180 (by decide +kernel)
theorem dX12_actRead_79 : decode cX12_actRead 79 = .ok (.iaload, 1) := dc0 dO_46 (by decide +kernel)
theorem dX12_actRead_80 : decode cX12_actRead 80 = .ok (.iadd, 1) := dc0 dO_96 (by decide +kernel)
theorem dX12_actRead_81 : decode cX12_actRead 81 = .ok (.istore_n 2, 1) := dc0 dO_61 (by decide +kernel)
theorem dX12_actRead_82 : decode cX12_actRead 82 = .ok (.aload_n 0, 1) := dc0 dO_42 (by decide +kernel)
theorem dX12_actRead_83 : decode cX12_actRead 83 = .ok (.getfield 346, 3) := dcU2 dO_180 (by decide +kernel)
theorem dX12_actRead_86 : decode cX12_actRead 86 = .ok (.aload_n 0, 1) := dc0 dO_42 (by decide +kernel)
theorem dX12_actRead_87 : decode cX12_actRead 87 = .ok (.getfield 278, 3) := dcU2 dO_180 (by decide +kernel)
theorem dX12_actRead_90 : decode cX12_actRead 90 = .ok (.dup2, 1) := dc0 dO_92 (by decide +kernel)
theorem dX12_actRead_91 : decode cX12_actRead 91 = .ok (.iaload, 1) := dc0 dO_46 (by decide +kernel)
theorem dX12_actRead_92 : decode cX12_actRead 92 = .ok (.iconst 1, 1) := dc0 dO_4 (by decide +kernel)
theorem dX12_actRead_93 : decode cX12_actRead 93 = .ok (.iadd, 1) := dc0 dO_96 (by decide +kernel)
theorem dX12_actRead_94 : decode cX12_actRead 94 = .ok (.iastore, 1) := dc0 dO_79 (by decide +kernel)
theorem dX12_actRead_95 : decode cX12_actRead 95 = .ok (.aload_n 0, 1) := dc0 dO_42 (by decide +kernel)
theorem dX12_actRead_96 : decode cX12_actRead 96 = .ok (.getfield 233, 3) := dcU2 dO_180 (by decide +kernel)
theorem dX12_actRead_99 : decode cX12_actRead 99 = .ok (.istore_n 3, 1) := dc0 dO_62 (by decide +kernel)
theorem dX12_actRead_100 : decode cX12_actRead 100 = .ok (.aload_n 0, 1) := dc0 dO_42 (by decide +kernel)
theorem dX12_actRead_101 : decode cX12_actRead 101 = .ok (.getfield 349, 3) := dcU2 dO_180 (by decide +kernel)
theorem dX12_actRead_104 : decode cX12_actRead 104 = .ok (.iload_n 2, 1) := dc0 dO_28 (by decide +kernel)
theorem dX12_actRead_105 : decode cX12_actRead 105 = .ok (.iload_n 3, 1) := dc0 dO_29 (by decide +kernel)
theorem dX12_actRead_106 : decode cX12_actRead 106 = .ok (.iastore, 1) := dc0 dO_79 (by decide +kernel)
theorem dX12_actRead_107 : decode cX12_actRead 107 = .ok (.aload_n 0, 1) := dc0 dO_42 (by decide +kernel)
theorem dX12_actRead_108 : decode cX12_actRead 108 = .ok (.invokevirtual 247, 3) := dcU2 dO_182 (by decide +kernel)
theorem dX12_actRead_111 : decode cX12_actRead 111 = .ok (.iload_n 3, 1) := dc0 dO_29 (by decide +kernel)
theorem dX12_actRead_112 : decode cX12_actRead 112 = .ok (.bipush 25, 2) := dcS1 dO_16 (by decide +kernel)
theorem dX12_actRead_114 : decode cX12_actRead 114 = .ok (.if_icmp .eq 9, 3) := dcS2 dO_159 (by decide +kernel)
theorem dX12_actRead_117 : decode cX12_actRead 117 = .ok (.iload_n 3, 1) := dc0 dO_29 (by decide +kernel)
theorem dX12_actRead_118 : decode cX12_actRead 118 = .ok (.bipush 26, 2) := dcS1 dO_16 (by decide +kernel)
theorem dX12_actRead_120 : decode cX12_actRead 120 = .ok (.if_icmp .ne 20, 3) := dcS2 dO_160 (by decide +kernel)
theorem dX12_actRead_123 : decode cX12_actRead 123 = .ok (.aload_n 0, 1) := dc0 dO_42 (by decide +kernel)
theorem dX12_actRead_124 : decode cX12_actRead 124 = .ok (.getfield 352, 3) := dcU2 dO_180 (by decide +kernel)
theorem dX12_actRead_127 : decode cX12_actRead 127 = .ok (.iload_n 2, 1) := dc0 dO_28 (by decide +kernel)
theorem sfx_cX12_actRead_128 : (cX12_actRead.data.toList.drop 128).take 67 = [42, 3, 19, 1, 89, 182, 1, 58, 79, 167, 0, 94, 29, 16, 12, 160, 0, 20, 42, 180, 1, 96, 28, 42, 3, 17, 3, 232, 182, 1, 58, 79, 167, 0, 71, 29, 16, 13, 160, 0, 20, 42, 180, 1, 96, 28, 42, 3, 19, 1, 35, 182, 1, 58, 79, 167, 0, 48, 29, 16, 27, 160, 0, 19, 42, 180, 1] := by decide +kernel
theorem dX12_actRead_128 : decode cX12_actRead 128 = .ok (.aload_n 0, 1) := dc0 dO_42 (rdB.ch sfx_cX12_actRead_128 0 rfl (by decide +kernel))
theorem dX12_actRead_129 : decode cX12_actRead 129 = .ok (.iconst 0, 1) := dc0 dO_3 (rdB.ch sfx_cX12_actRead_128 1 rfl (by decide +kernel))
theorem dX12_actRead_130 : decode cX12_actRead 130 = .ok (.ldc_w 345, 3) := dcU2 dO_19 (rdU2.ch sfx_cX12_actRead_128 2 rfl (by decide +kernel))
theorem dX12_actRead_133 : decode cX12_actRead 133 = .ok (.invokevirtual 314, 3) := dcU2 dO_182 (rdU2.ch sfx_cX12_actRead_128 5 rfl (by decide +kernel))
theorem dX12_actRead_136 : decode cX12_actRead 136 = .ok (.iastore, 1) := dc0 dO_79 (rdB.ch sfx_cX12_actRead_128 8 rfl (by decide +kernel))
theorem dX12_actRead_137 : decode cX12_actRead 137 = .ok (.goto 94, 3) := dcS2 dO_167 (rdS2.ch sfx_cX12_actRead_128 9 rfl (by decide +kernel))
theorem dX12_actRead_140 : decode cX12_actRead 140 = .ok (.iload_n 3, 1) := dc0 dO_29 (rdB.ch sfx_cX12_actRead_128 12 rfl (by decide +kernel))
theorem dX12_actRead_141 : decode cX12_actRead 141 = .ok (.bipush 12, 2) := dcS1 dO_16 (rdS1.ch sfx_cX12_actRead_128 13 rfl (by decide +kernel))
theorem dX12_actRead_143 : decode cX12_actRead 143 = .ok (.if_icmp .ne 20, 3) := dcS2 dO_160 (rdS2.ch sfx_cX12_actRead_128 15 rfl (by decide +kernel))
theorem dX12_actRead_146 : decode cX12_actRead 146 = .ok (.aload_n 0, 1) := dc0 dO_42 (rdB.ch sfx_cX12_actRead_128 18 rfl (by decide +kernel))
theorem dX12_actRead_147 : decode cX12_actRead 147 = .ok (.getfield 352, 3) := dcU2 dO_180 (rdU2.ch sfx_cX12_actRead_128 19 rfl (by decide +kernel))
theorem dX12_actRead_150 : decode cX12_actRead 150 = .ok (.iload_n 2, 1) := dc0 dO_28 (rdB.ch sfx_cX12_actRead_128 22 rfl (by decide +kernel))
theorem dX12_actRead_151 : decode cX12_actRead 151 = .ok (.aload_n 0, 1) := dc0 dO_42 (rdB.ch sfx_cX12_actRead_128 23 rfl (by decide +kernel))
theorem dX12_actRead_152 : decode cX12_actRead 152 = .ok (.iconst 0, 1) := dc0 dO_3 (rdB.ch sfx_cX12_actRead_128 24 rfl (by decide +kernel))
theorem dX12_actRead_153 : decode cX12_actRead 153 = .ok (.sipush 1000, 3) := dcS2 dO_17 (rdS2.ch sfx_cX12_actRead_128 25 rfl (by decide +kernel))
theorem dX12_actRead_156 : decode cX12_actRead 156 = .ok (.invokevirtual 314, 3) := dcU2 dO_182 (rdU2.ch sfx_cX12_actRead_128 28 rfl (by decide +kernel))
theorem dX12_actRead_159 : decode cX12_actRead 159 = .ok (.iastore, 1) := dc0 dO_79 (rdB.ch sfx_cX12_actRead_128 31 rfl (by decide +kernel))
theorem dX12_actRead_160 : decode cX12_actRead 160 = .ok (.goto 71, 3) := dcS2 dO_167 (rdS2.ch sfx_cX12_actRead_128 32 rfl (by decide +kernel))
theorem dX12_actRead_163 : decode cX12_actRead 163 = .ok (.iload_n 3, 1) := dc0 dO_29 (rdB.ch sfx_cX12_actRead_128 35 rfl (by decide +kernel))
theorem dX12_actRead_164 : decode cX12_actRead 164 = .ok (.bipush 13, 2) := dcS1 dO_16 (rdS1.ch sfx_cX12_actRead_128 36 rfl (by decide +kernel))
theorem dX12_actRead_166 : decode cX12_actRead 166 = .ok (.if_icmp .ne 20, 3) := dcS2 dO_160 (rdS2.ch sfx_cX12_actRead_128 38 rfl (by decide +kernel))
theorem dX12_actRead_169 : decode cX12_actRead 169 = .ok (.aload_n 0, 1) := dc0 dO_42 (rdB.ch sfx_cX12_actRead_128 41 rfl (by decide +kernel))
theorem dX12_actRead_170 : decode cX12_actRead 170 = .ok (.getfield 352, 3) := dcU2 dO_180 (rdU2.ch sfx_cX12_actRead_128 42 rfl (by decide +kernel))
theorem dX12_actRead_173 : decode cX12_actRead 173 = .ok (.iload_n 2, 1) := dc0 dO_28 (rdB.ch sfx_cX12_actRead_128 45 rfl (by decide +kernel))
theorem dX12_actRead_174 : decode cX12_actRead 174 = .ok (.aload_n 0, 1) := dc0 dO_42 (rdB.ch sfx_cX12_actRead_128 46 rfl (by decide +kernel))
theorem dX12_actRead_175 : decode cX12_actRead 175 = .ok (.iconst 0, 1) := dc0 dO_3 (rdB.ch sfx_cX12_actRead_128 47 rfl (by decide +kernel))
theorem dX12_actRead_176 : decode cX12_actRead 176 = .ok (.ldc_w 291, 3) := dcU2 dO_19 (rdU2.ch sfx_cX12_actRead_128 48 rfl (by decide +kernel))
theorem dX12_actRead_179 : decode cX12_actRead 179 = .ok (.invokevirtual 314, 3) := dcU2 dO_182 (rdU2.ch sfx_cX12_actRead_128 51 rfl (by decide +kernel))
theorem dX12_actRead_182 : decode cX12_actRead 182 = .ok (.iastore, 1) := dc0 dO_79 (rdB.ch sfx_cX12_actRead_128 54 rfl (by decide +kernel))
theorem dX12_actRead_183 : decode cX12_actRead 183 = .ok (.goto 48, 3) := dcS2 dO_167 (rdS2.ch sfx_cX12_actRead_128 55 rfl (by decide +kernel))
theorem dX12_actRead_186 : decode cX12_actRead 186 = .ok (.iload_n 3, 1) := dc0 dO_29 (rdB.ch sfx_cX12_actRead_128 58 rfl (by decide +kernel))
theorem dX12_actRead_187 : decode cX12_actRead 187 = .ok (.bipush 27, 2) := dcS1 dO_16 (rdS1.ch sfx_cX12_actRead_128 59 rfl (by decide +kernel))
theorem dX12_actRead_189 : decode cX12_actRead 189 = .ok (.if_icmp .ne 19, 3) := dcS2 dO_160 (rdS2.ch sfx_cX12_actRead_128 61 rfl (by decide +kernel))
theorem sfx_cX12_actRead_192 : (cX12_actRead.data.toList.drop 192).take 67 = [42, 180, 1, 96, 28, 42, 4, 16, 9, 182, 1, 58, 79, 167, 0, 26, 29, 16, 28, 160, 0, 20, 42, 180, 1, 96, 28, 42, 3, 42, 180, 1, 99, 4, 100, 182, 1, 58, 79, 177] := by decide +kernel
theorem dX12_actRead_192 : decode cX12_actRead 192 = .ok (.aload_n 0, 1) := dc0 dO_42 (rdB.ch sfx_cX12_actRead_192 0 rfl (by decide +kernel))
theorem dX12_actRead_193 : decode cX12_actRead 193 = .ok (.getfield 352, 3) := dcU2 dO_180 (rdU2.ch sfx_cX12_actRead_192 1 rfl (by decide +kernel))
theorem dX12_actRead_196 : decode cX12_actRead 196 = .ok (.iload_n 2, 1) := dc0 dO_28 (rdB.ch sfx_cX12_actRead_192 4 rfl (by decide +kernel))
theorem dX12_actRead_197 : decode cX12_actRead 197 = .ok (.aload_n 0, 1) := dc0 dO_42 (rdB.ch sfx_cX12_actRead_192 5 rfl (by decide +kernel))
theorem dX12_actRead_198 : decode cX12_actRead 198 = .ok (.iconst 1, 1) := dc0 dO_4 (rdB.ch sfx_cX12_actRead_192 6 rfl (by decide +kernel))
theorem dX12_actRead_199 : decode cX12_actRead 199 = .ok (.bipush 9, 2) := dcS1 dO_16 (rdS1.ch sfx_cX12_actRead_192 7 rfl (by decide +kernel))
theorem dX12_actRead_201 : decode cX12_actRead 201 = .ok (.invokevirtual 314, 3) := dcU2 dO_182 (rdU2.ch sfx_cX12_actRead_192 9 rfl (by decide +kernel))
theorem dX12_actRead_204 : decode cX12_actRead 204 = .ok (.iastore, 1) := dc0 dO_79 (rdB.ch sfx_cX12_actRead_192 12 rfl (by decide +kernel))
theorem dX12_actRead_205 : decode cX12_actRead 205 = .ok (.goto 26, 3) := dcS2 dO_167 (rdS2.ch sfx_cX12_actRead_192 13 rfl (by decide +kernel))
theorem dX12_actRead_208 : decode cX12_actRead 208 = .ok (.iload_n 3, 1) := dc0 dO_29 (rdB.ch sfx_cX12_actRead_192 16 rfl (by decide +kernel))
theorem dX12_actRead_209 : decode cX12_actRead 209 = .ok (.bipush 28, 2) := dcS1 dO_16 (rdS1.ch sfx_cX12_actRead_192 17 rfl (by decide +kernel))
theorem dX12_actRead_211 : decode cX12_actRead 211 = .ok (.if_icmp .ne 20, 3) := dcS2 dO_160 (rdS2.ch sfx_cX12_actRead_192 19 rfl (by decide +kernel))
theorem dX12_actRead_214 : decode cX12_actRead 214 = .ok (.aload_n 0, 1) := dc0 dO_42 (rdB.ch sfx_cX12_actRead_192 22 rfl (by decide +kernel))
theorem dX12_actRead_215 : decode cX12_actRead 215 = .ok (.getfield 352, 3) := dcU2 dO_180 (rdU2.ch sfx_cX12_actRead_192 23 rfl (by decide +kernel))
theorem dX12_actRead_218 : decode cX12_actRead 218 = .ok (.iload_n 2, 1) := dc0 dO_28 (rdB.ch sfx_cX12_actRead_192 26 rfl (by decide +kernel))
theorem dX12_actRead_219 : decode cX12_actRead 219 = .ok (.aload_n 0, 1) := dc0 dO_42 (rdB.ch sfx_cX12_actRead_192 27 rfl (by decide +kernel))
theorem dX12_actRead_220 : decode cX12_actRead 220 = .ok (.iconst 0, 1) := dc0 dO_3 (rdB.ch sfx_cX12_actRead_192 28 rfl (by decide +kernel))
theorem dX12_actRead_221 : decode cX12_actRead 221 = .ok (.aload_n 0, 1) := dc0 dO_42 (rdB.ch sfx_cX12_actRead_192 29 rfl (by decide +kernel))
theorem dX12_actRead_222 : decode cX12_actRead 222 = .ok (.getfield 355, 3) := dcU2 dO_180 (rdU2.ch sfx_cX12_actRead_192 30 rfl (by decide +kernel))
theorem dX12_actRead_225 : decode cX12_actRead 225 = .ok (.iconst 1, 1) := dc0 dO_4 (rdB.ch sfx_cX12_actRead_192 33 rfl (by decide +kernel))
theorem dX12_actRead_226 : decode cX12_actRead 226 = .ok (.isub, 1) := dc0 dO_100 (rdB.ch sfx_cX12_actRead_192 34 rfl (by decide +kernel))
theorem dX12_actRead_227 : decode cX12_actRead 227 = .ok (.invokevirtual 314, 3) := dcU2 dO_182 (rdU2.ch sfx_cX12_actRead_192 35 rfl (by decide +kernel))
theorem dX12_actRead_230 : decode cX12_actRead 230 = .ok (.iastore, 1) := dc0 dO_79 (rdB.ch sfx_cX12_actRead_192 38 rfl (by decide +kernel))
theorem dX12_actRead_231 : decode cX12_actRead 231 = .ok (.return_, 1) := dc0 dO_177 (rdB.ch sfx_cX12_actRead_192 39 rfl (by decide +kernel))
theorem dX12_addressRead_0 : decode cX12_addressRead 0 = .ok (.iconst 0, 1) := dc0 dO_3 (by decide +kernel)
theorem dX12_addressRead_1 : decode cX12_addressRead 1 = .ok (.istore_n 1, 1) := dc0 dO_60 (by decide +kernel)
theorem dX12_addressRead_2 : decode cX12_addressRead 2 = .ok (.iconst 0, 1) := dc0 dO_3 (by decide +kernel)
theorem dX12_addressRead_3 : decode cX12_addressRead 3 = .ok (.istore_n 2, 1) := dc0 dO_61 (by decide +kernel)
theorem dX12_addressRead_4 : decode cX12_addressRead 4 = .ok (.iload_n 2, 1) := dc0 dO_28 (by decide +kernel)
theorem dX12_addressRead_5 : decode cX12_addressRead 5 = .ok (.iconst 4, 1) := dc0 dO_7 (by decide +kernel)
theorem dX12_addressRead_6 : decode cX12_addressRead 6 = .ok (.if_icmp .ge 34, 3) := dcS2 dO_162 (by decide +kernel)
theorem dX12_addressRead_9 : decode cX12_addressRead 9 = .ok (.iload_n 1, 1) := dc0 dO_27 (by decide +kernel)
theorem dX12_addressRead_10 : decode cX12_addressRead 10 = .ok (.bipush 8, 2) := dcS1 dO_16 (by decide +kernel)
theorem dX12_addressRead_12 : decode cX12_addressRead 12 = .ok (.ishl, 1) := dc0 dO_120 (by decide +kernel)
theorem dX12_addressRead_13 : decode cX12_addressRead 13 = .ok (.aload_n 0, 1) := dc0 dO_42 (by decide +kernel)
theorem dX12_addressRead_14 : decode cX12_addressRead 14 = .ok (.iconst 0, 1) := dc0 dO_3 (by decide +kernel)
theorem dX12_addressRead_15 : decode cX12_addressRead 15 = .ok (.sipush 255, 3) := dcS2 dO_17 (by decide +kernel)
theorem dX12_addressRead_18 : decode cX12_addressRead 18 = .ok (.invokevirtual 314, 3) := dcU2 dO_182 (by decide +kernel)
theorem dX12_addressRead_21 : decode cX12_addressRead 21 = .ok (.ior, 1) := dc0 dO_128 (by decide +kernel)
theorem dX12_addressRead_22 : decode cX12_addressRead 22 = .ok (.istore_n 1, 1) := dc0 dO_60 (by decide +kernel)
theorem dX12_addressRead_23 : decode cX12_addressRead 23 = .ok (.iload_n 2, 1) := dc0 dO_28 (by decide +kernel)
theorem dX12_addressRead_24 : decode cX12_addressRead 24 = .ok (.iconst 3, 1) := dc0 dO_6 (by decide +kernel)
theorem dX12_addressRead_25 : decode cX12_addressRead 25 = .ok (.if_icmp .ge 9, 3) := dcS2 dO_162 (by decide +kernel)
theorem dX12_addressRead_28 : decode cX12_addressRead 28 = .ok (.aload_n 0, 1) := dc0 dO_42 (by decide +kernel)
theorem dX12_addressRead_29 : decode cX12_addressRead 29 = .ok (.bipush 46, 2) := dcS1 dO_16 (by decide +kernel)
theorem dX12_addressRead_31 : decode cX12_addressRead 31 = .ok (.invokevirtual 317, 3) := dcU2 dO_182 (by decide +kernel)
theorem dX12_addressRead_34 : decode cX12_addressRead 34 = .ok (.iinc 2 1, 3) := dcI dO_132 (by decide +kernel)
theorem dX12_addressRead_37 : decode cX12_addressRead 37 = .ok (.goto (-33), 3) := dcS2 dO_167 (by decide +kernel)
theorem dX12_addressRead_40 : decode cX12_addressRead 40 = .ok (.iload_n 1, 1) := dc0 dO_27 (by decide +kernel)
theorem dX12_addressRead_41 : decode cX12_addressRead 41 = .ok (.ireturn, 1) := dc0 dO_172 (by decide +kernel)
theorem dX12_next_0 : decode cX12_next 0 = .ok (.aload_n 0, 1) := dc0 dO_42 (by decide +kernel)
theorem dX12_next_1 : decode cX12_next 1 = .ok (.getfield 215, 3) := dcU2 dO_180 (by decide +kernel)
theorem dX12_next_4 : decode cX12_next 4 = .ok (.ifCond .eq 4, 3) := dcS2 dO_153 (by decide +kernel)
theorem dX12_next_7 : decode cX12_next 7 = .ok (.return_, 1) := dc0 dO_177 (by decide +kernel)
theorem dX12_next_8 : decode cX12_next 8 = .ok (.aload_n 0, 1) := dc0 dO_42 (by decide +kernel)
theorem dX12_next_9 : decode cX12_next 9 = .ok (.aload_n 0, 1) := dc0 dO_42 (by decide +kernel)
theorem dX12_next_10 : decode cX12_next 10 = .ok (.getfield 224, 3) := dcU2 dO_180 (by decide +kernel)
theorem dX12_next_13 : decode cX12_next 13 = .ok (.invokevirtual 227, 3) := dcU2 dO_182 (by decide +kernel)
theorem dX12_next_16 : decode cX12_next 16 = .ok (.bipush 32, 2) := dcS1 dO_16 (by decide +kernel)
theorem dX12_next_18 : decode cX12_next 18 = .ok (.if_icmp .eq 16, 3) := dcS2 dO_159 (by decide +kernel)
theorem dX12_next_21 : decode cX12_next 21 = .ok (.aload_n 0, 1) := dc0 dO_42 (by decide +kernel)
theorem dX12_next_22 : decode cX12_next 22 = .ok (.aload_n 0, 1) := dc0 dO_42 (by decide +kernel)
theorem dX12_next_23 : decode cX12_next 23 = .ok (.getfield 224, 3) := dcU2 dO_180 (by decide +kernel)
theorem dX12_next_26 : decode cX12_next 26 = .ok (.invokevirtual 227, 3) := dcU2 dO_182 (by decide +kernel)
theorem dX12_next_29 : decode cX12_next 29 = .ok (.bipush 10, 2) := dcS1 dO_16 (by decide +kernel)
theorem dX12_next_31 : decode cX12_next 31 = .ok (.if_icmp .ne 16, 3) := dcS2 dO_160 (by decide +kernel)
theorem dX12_next_34 : decode cX12_next 34 = .ok (.aload_n 0, 1) := dc0 dO_42 (by decide +kernel)
theorem dX12_next_35 : decode cX12_next 35 = .ok (.dup, 1) := dc0 dO_89 (by decide +kernel)
theorem dX12_next_36 : decode cX12_next 36 = .ok (.getfield 224, 3) := dcU2 dO_180 (by decide +kernel)
theorem dX12_next_39 : decode cX12_next 39 = .ok (.iconst 1, 1) := dc0 dO_4 (by decide +kernel)
theorem dX12_next_40 : decode cX12_next 40 = .ok (.iadd, 1) := dc0 dO_96 (by decide +kernel)
theorem dX12_next_41 : decode cX12_next 41 = .ok (.putfield 224, 3) := dcU2 dO_181 (by decide +kernel)
theorem dX12_next_44 : decode cX12_next 44 = .ok (.goto (-36), 3) := dcS2 dO_167 (by decide +kernel)
theorem dX12_next_47 : decode cX12_next 47 = .ok (.aload_n 0, 1) := dc0 dO_42 (by decide +kernel)
theorem dX12_next_48 : decode cX12_next 48 = .ok (.aload_n 0, 1) := dc0 dO_42 (by decide +kernel)
theorem dX12_next_49 : decode cX12_next 49 = .ok (.getfield 224, 3) := dcU2 dO_180 (by decide +kernel)
theorem dX12_next_52 : decode cX12_next 52 = .ok (.putfield 218, 3) := dcU2 dO_181 (by decide +kernel)
theorem dX12_next_55 : decode cX12_next 55 = .ok (.aload_n 0, 1) := dc0 dO_42 (by decide +kernel)
theorem dX12_next_56 : decode cX12_next 56 = .ok (.aload_n 0, 1) := dc0 dO_42 (by decide +kernel)
theorem dX12_next_57 : decode cX12_next 57 = .ok (.getfield 224, 3) := dcU2 dO_180 (by decide +kernel)
theorem dX12_next_60 : decode cX12_next 60 = .ok (.invokevirtual 227, 3) := dcU2 dO_182 (by decide +kernel)
theorem dX12_next_63 : decode cX12_next 63 = .ok (.istore_n 1, 1) := dc0 dO_60 (by decide +kernel)
theorem dX12_next_64 : decode cX12_next 64 = .ok (.aload_n 0, 1) := dc0 dO_42 (by decide +kernel)
theorem dX12_next_65 : decode cX12_next 65 = .ok (.iload_n 1, 1) := dc0 dO_27 (by decide +kernel)
theorem dX12_next_66 : decode cX12_next 66 = .ok (.ifCond .ge 7, 3) := dcS2 dO_156 (by decide +kernel)
theorem dX12_next_69 : decode cX12_next 69 = .ok (.iconst 0, 1) := dc0 dO_3 (by decide +kernel)
theorem dX12_next_70 : decode cX12_next 70 = .ok (.goto 36, 3) := dcS2 dO_167 (by decide +kernel)
theorem dX12_next_73 : decode cX12_next 73 = .ok (.iload_n 1, 1) := dc0 dO_27 (by decide +kernel)
theorem dX12_next_74 : decode cX12_next 74 = .ok (.bipush 97, 2) := dcS1 dO_16 (by decide +kernel)
theorem dX12_next_76 : decode cX12_next 76 = .ok (.if_icmp .lt 13, 3) := dcS2 dO_161 (by decide +kernel)
theorem dX12_next_79 : decode cX12_next 79 = .ok (.iload_n 1, 1) := dc0 dO_27 (by decide +kernel)
theorem dX12_next_80 : decode cX12_next 80 = .ok (.bipush 122, 2) := dcS1 dO_16 (by decide +kernel)
theorem dX12_next_82 : decode cX12_next 82 = .ok (.if_icmp .gt 7, 3) := dcS2 dO_163 (by decide +kernel)
theorem dX12_next_85 : decode cX12_next 85 = .ok (.iconst 1, 1) := dc0 dO_4 (by decide +kernel)
theorem dX12_next_86 : decode cX12_next 86 = .ok (.goto 20, 3) := dcS2 dO_167 (by decide +kernel)
theorem dX12_next_89 : decode cX12_next 89 = .ok (.iload_n 1, 1) := dc0 dO_27 (by decide +kernel)
theorem dX12_next_90 : decode cX12_next 90 = .ok (.bipush 48, 2) := dcS1 dO_16 (by decide +kernel)
theorem dX12_next_92 : decode cX12_next 92 = .ok (.if_icmp .lt 13, 3) := dcS2 dO_161 (by decide +kernel)
theorem dX12_next_95 : decode cX12_next 95 = .ok (.iload_n 1, 1) := dc0 dO_27 (by decide +kernel)
theorem dX12_next_96 : decode cX12_next 96 = .ok (.bipush 57, 2) := dcS1 dO_16 (by decide +kernel)
theorem dX12_next_98 : decode cX12_next 98 = .ok (.if_icmp .gt 7, 3) := dcS2 dO_163 (by decide +kernel)
theorem dX12_next_101 : decode cX12_next 101 = .ok (.iconst 2, 1) := dc0 dO_5 (by decide +kernel)
theorem dX12_next_102 : decode cX12_next 102 = .ok (.goto 4, 3) := dcS2 dO_167 (by decide +kernel)
theorem dX12_next_105 : decode cX12_next 105 = .ok (.iconst 3, 1) := dc0 dO_6 (by decide +kernel)
theorem dX12_next_106 : decode cX12_next 106 = .ok (.putfield 230, 3) := dcU2 dO_181 (by decide +kernel)
theorem dX12_next_109 : decode cX12_next 109 = .ok (.aload_n 0, 1) := dc0 dO_42 (by decide +kernel)
theorem dX12_next_110 : decode cX12_next 110 = .ok (.iload_n 1, 1) := dc0 dO_27 (by decide +kernel)
theorem dX12_next_111 : decode cX12_next 111 = .ok (.putfield 233, 3) := dcU2 dO_181 (by decide +kernel)
theorem dX12_next_114 : decode cX12_next 114 = .ok (.aload_n 0, 1) := dc0 dO_42 (by decide +kernel)
theorem dX12_next_115 : decode cX12_next 115 = .ok (.getfield 230, 3) := dcU2 dO_180 (by decide +kernel)
theorem dX12_next_118 : decode cX12_next 118 = .ok (.ifCond .ne 4, 3) := dcS2 dO_154 (by decide +kernel)
theorem dX12_next_121 : decode cX12_next 121 = .ok (.return_, 1) := dc0 dO_177 (by decide +kernel)
theorem dX12_next_122 : decode cX12_next 122 = .ok (.aload_n 0, 1) := dc0 dO_42 (by decide +kernel)
theorem dX12_next_123 : decode cX12_next 123 = .ok (.getfield 230, 3) := dcU2 dO_180 (by decide +kernel)
theorem dX12_next_126 : decode cX12_next 126 = .ok (.iconst 3, 1) := dc0 dO_6 (by decide +kernel)
theorem dX12_next_127 : decode cX12_next 127 = .ok (.if_icmp .ne 14, 3) := dcS2 dO_160 (by decide +kernel)
theorem sfx_cX12_next_128 : (cX12_next.data.toList.drop 128).take 67 = [0, 14, 42, 89, 180, 0, 224, 4, 96, 181, 0, 224, 177, 9, 65, 3, 54, 4, 3, 54, 5, 42, 42, 180, 0, 224, 182, 0, 227, 155, 0, 133, 42, 180, 0, 230, 4, 160, 0, 32, 42, 42, 180, 0, 224, 182, 0, 227, 16, 97, 161, 0, 112, 42, 42, 180, 0, 224, 182, 0, 227, 16, 122, 163, 0, 99, 167] := by decide +kernel
theorem dX12_next_130 : decode cX12_next 130 = .ok (.aload_n 0, 1) := dc0 dO_42 (rdB.ch sfx_cX12_next_128 2 rfl (by decide +kernel))
theorem dX12_next_131 : decode cX12_next 131 = .ok (.dup, 1) := dc0 dO_89 (rdB.ch sfx_cX12_next_128 3 rfl (by decide +kernel))
theorem dX12_next_132 : decode cX12_next 132 = .ok (.getfield 224, 3) := dcU2 dO_180 (rdU2.ch sfx_cX12_next_128 4 rfl (by decide +kernel))
theorem dX12_next_135 : decode cX12_next 135 = .ok (.iconst 1, 1) := dc0 dO_4 (rdB.ch sfx_cX12_next_128 7 rfl (by decide +kernel))
theorem dX12_next_136 : decode cX12_next 136 = .ok (.iadd, 1) := dc0 dO_96 (rdB.ch sfx_cX12_next_128 8 rfl (by decide +kernel))
theorem dX12_next_137 : decode cX12_next 137 = .ok (.putfield 224, 3) := dcU2 dO_181 (rdU2.ch sfx_cX12_next_128 9 rfl (by decide +kernel))
theorem dX12_next_140 : decode cX12_next 140 = .ok (.return_, 1) := dc0 dO_177 (rdB.ch sfx_cX12_next_128 12 rfl (by decide +kernel))
theorem dX12_next_141 : decode cX12_next 141 = .ok (.lconst 0, 1) := dc0 dO_9 (rdB.ch sfx_cX12_next_128 13 rfl (by decide +kernel))
theorem dX12_next_142 : decode cX12_next 142 = .ok (.lstore_n 2, 1) := dc0 dO_65 (rdB.ch sfx_cX12_next_128 14 rfl (by decide +kernel))
theorem dX12_next_143 : decode cX12_next 143 = .ok (.iconst 0, 1) := dc0 dO_3 (rdB.ch sfx_cX12_next_128 15 rfl (by decide +kernel))
theorem dX12_next_144 : decode cX12_next 144 = .ok (.istore 4, 2) := dcU1 dO_54 (rdU1.ch sfx_cX12_next_128 16 rfl (by decide +kernel))
theorem dX12_next_146 : decode cX12_next 146 = .ok (.iconst 0, 1) := dc0 dO_3 (rdB.ch sfx_cX12_next_128 18 rfl (by decide +kernel))
theorem dX12_next_147 : decode cX12_next 147 = .ok (.istore 5, 2) := dcU1 dO_54 (rdU1.ch sfx_cX12_next_128 19 rfl (by decide +kernel))
theorem dX12_next_149 : decode cX12_next 149 = .ok (.aload_n 0, 1) := dc0 dO_42 (rdB.ch sfx_cX12_next_128 21 rfl (by decide +kernel))
theorem dX12_next_150 : decode cX12_next 150 = .ok (.aload_n 0, 1) := dc0 dO_42 (rdB.ch sfx_cX12_next_128 22 rfl (by decide +kernel))
theorem dX12_next_151 : decode cX12_next 151 = .ok (.getfield 224, 3) := dcU2 dO_180 (rdU2.ch sfx_cX12_next_128 23 rfl (by decide +kernel))
theorem dX12_next_154 : decode cX12_next 154 = .ok (.invokevirtual 227, 3) := dcU2 dO_182 (rdU2.ch sfx_cX12_next_128 26 rfl (by decide +kernel))
theorem dX12_next_157 : decode cX12_next 157 = .ok (.ifCond .lt 133, 3) := dcS2 dO_155 (rdS2.ch sfx_cX12_next_128 29 rfl (by decide +kernel))
theorem dX12_next_160 : decode cX12_next 160 = .ok (.aload_n 0, 1) := dc0 dO_42 (rdB.ch sfx_cX12_next_128 32 rfl (by decide +kernel))
theorem dX12_next_161 : decode cX12_next 161 = .ok (.getfield 230, 3) := dcU2 dO_180 (rdU2.ch sfx_cX12_next_128 33 rfl (by decide +kernel))
theorem dX12_next_164 : decode cX12_next 164 = .ok (.iconst 1, 1) := dc0 dO_4 (rdB.ch sfx_cX12_next_128 36 rfl (by decide +kernel))
theorem dX12_next_165 : decode cX12_next 165 = .ok (.if_icmp .ne 32, 3) := dcS2 dO_160 (rdS2.ch sfx_cX12_next_128 37 rfl (by decide +kernel))
theorem dX12_next_168 : decode cX12_next 168 = .ok (.aload_n 0, 1) := dc0 dO_42 (rdB.ch sfx_cX12_next_128 40 rfl (by decide +kernel))
theorem dX12_next_169 : decode cX12_next 169 = .ok (.aload_n 0, 1) := dc0 dO_42 (rdB.ch sfx_cX12_next_128 41 rfl (by decide +kernel))
theorem dX12_next_170 : decode cX12_next 170 = .ok (.getfield 224, 3) := dcU2 dO_180 (rdU2.ch sfx_cX12_next_128 42 rfl (by decide +kernel))
theorem dX12_next_173 : decode cX12_next 173 = .ok (.invokevirtual 227, 3) := dcU2 dO_182 (rdU2.ch sfx_cX12_next_128 45 rfl (by decide +kernel))
theorem dX12_next_176 : decode cX12_next 176 = .ok (.bipush 97, 2) := dcS1 dO_16 (rdS1.ch sfx_cX12_next_128 48 rfl (by decide +kernel))
theorem dX12_next_178 : decode cX12_next 178 = .ok (.if_icmp .lt 112, 3) := dcS2 dO_161 (rdS2.ch sfx_cX12_next_128 50 rfl (by decide +kernel))
theorem dX12_next_181 : decode cX12_next 181 = .ok (.aload_n 0, 1) := dc0 dO_42 (rdB.ch sfx_cX12_next_128 53 rfl (by decide +kernel))
theorem dX12_next_182 : decode cX12_next 182 = .ok (.aload_n 0, 1) := dc0 dO_42 (rdB.ch sfx_cX12_next_128 54 rfl (by decide +kernel))
theorem dX12_next_183 : decode cX12_next 183 = .ok (.getfield 224, 3) := dcU2 dO_180 (rdU2.ch sfx_cX12_next_128 55 rfl (by decide +kernel))
theorem dX12_next_186 : decode cX12_next 186 = .ok (.invokevirtual 227, 3) := dcU2 dO_182 (rdU2.ch sfx_cX12_next_128 58 rfl (by decide +kernel))
theorem dX12_next_189 : decode cX12_next 189 = .ok (.bipush 122, 2) := dcS1 dO_16 (rdS1.ch sfx_cX12_next_128 61 rfl (by decide +kernel))
theorem dX12_next_191 : decode cX12_next 191 = .ok (.if_icmp .gt 99, 3) := dcS2 dO_163 (rdS2.ch sfx_cX12_next_128 63 rfl (by decide +kernel))
theorem sfx_cX12_next_192 : (cX12_next.data.toList.drop 192).take 67 = [0, 99, 167, 0, 29, 42, 42, 180, 0, 224, 182, 0, 227, 16, 48, 161, 0, 83, 42, 42, 180, 0, 224, 182, 0, 227, 16, 57, 163, 0, 70, 21, 5, 16, 8, 162, 0, 21, 32, 42, 42, 180, 0, 224, 182, 0, 227, 133, 16, 8, 21, 5, 104, 121, 129, 65, 21, 5, 16, 9, 162, 0, 22, 16, 10, 21, 4] := by decide +kernel
theorem dX12_next_194 : decode cX12_next 194 = .ok (.goto 29, 3) := dcS2 dO_167 (rdS2.ch sfx_cX12_next_192 2 rfl (by decide +kernel))
theorem dX12_next_197 : decode cX12_next 197 = .ok (.aload_n 0, 1) := dc0 dO_42 (rdB.ch sfx_cX12_next_192 5 rfl (by decide +kernel))
theorem dX12_next_198 : decode cX12_next 198 = .ok (.aload_n 0, 1) := dc0 dO_42 (rdB.ch sfx_cX12_next_192 6 rfl (by decide +kernel))
theorem dX12_next_199 : decode cX12_next 199 = .ok (.getfield 224, 3) := dcU2 dO_180 (rdU2.ch sfx_cX12_next_192 7 rfl (by decide +kernel))
theorem dX12_next_202 : decode cX12_next 202 = .ok (.invokevirtual 227, 3) := dcU2 dO_182 (rdU2.ch sfx_cX12_next_192 10 rfl (by decide +kernel))
theorem dX12_next_205 : decode cX12_next 205 = .ok (.bipush 48, 2) := dcS1 dO_16 (rdS1.ch sfx_cX12_next_192 13 rfl (by decide +kernel))
theorem dX12_next_207 : decode cX12_next 207 = .ok (.if_icmp .lt 83, 3) := dcS2 dO_161 (rdS2.ch sfx_cX12_next_192 15 rfl (by decide +kernel))
theorem dX12_next_210 : decode cX12_next 210 = .ok (.aload_n 0, 1) := dc0 dO_42 (rdB.ch sfx_cX12_next_192 18 rfl (by decide +kernel))
theorem dX12_next_211 : decode cX12_next 211 = .ok (.aload_n 0, 1) := dc0 dO_42 (rdB.ch sfx_cX12_next_192 19 rfl (by decide +kernel))
theorem dX12_next_212 : decode cX12_next 212 = .ok (.getfield 224, 3) := dcU2 dO_180 (rdU2.ch sfx_cX12_next_192 20 rfl (by decide +kernel))
theorem dX12_next_215 : decode cX12_next 215 = .ok (.invokevirtual 227, 3) := dcU2 dO_182 (rdU2.ch sfx_cX12_next_192 23 rfl (by decide +kernel))
theorem dX12_next_218 : decode cX12_next 218 = .ok (.bipush 57, 2) := dcS1 dO_16 (rdS1.ch sfx_cX12_next_192 26 rfl (by decide +kernel))
theorem dX12_next_220 : decode cX12_next 220 = .ok (.if_icmp .gt 70, 3) := dcS2 dO_163 (rdS2.ch sfx_cX12_next_192 28 rfl (by decide +kernel))
theorem dX12_next_223 : decode cX12_next 223 = .ok (.iload 5, 2) := dcU1 dO_21 (rdU1.ch sfx_cX12_next_192 31 rfl (by decide +kernel))
theorem dX12_next_225 : decode cX12_next 225 = .ok (.bipush 8, 2) := dcS1 dO_16 (rdS1.ch sfx_cX12_next_192 33 rfl (by decide +kernel))
theorem dX12_next_227 : decode cX12_next 227 = .ok (.if_icmp .ge 21, 3) := dcS2 dO_162 (rdS2.ch sfx_cX12_next_192 35 rfl (by decide +kernel))
theorem dX12_next_230 : decode cX12_next 230 = .ok (.lload_n 2, 1) := dc0 dO_32 (rdB.ch sfx_cX12_next_192 38 rfl (by decide +kernel))
theorem dX12_next_231 : decode cX12_next 231 = .ok (.aload_n 0, 1) := dc0 dO_42 (rdB.ch sfx_cX12_next_192 39 rfl (by decide +kernel))
theorem dX12_next_232 : decode cX12_next 232 = .ok (.aload_n 0, 1) := dc0 dO_42 (rdB.ch sfx_cX12_next_192 40 rfl (by decide +kernel))
theorem dX12_next_233 : decode cX12_next 233 = .ok (.getfield 224, 3) := dcU2 dO_180 (rdU2.ch sfx_cX12_next_192 41 rfl (by decide +kernel))
theorem dX12_next_236 : decode cX12_next 236 = .ok (.invokevirtual 227, 3) := dcU2 dO_182 (rdU2.ch sfx_cX12_next_192 44 rfl (by decide +kernel))
theorem dX12_next_239 : decode cX12_next 239 = .ok (.i2l, 1) := dc0 dO_133 (rdB.ch sfx_cX12_next_192 47 rfl (by decide +kernel))
theorem dX12_next_240 : decode cX12_next 240 = .ok (.bipush 8, 2) := dcS1 dO_16 (rdS1.ch sfx_cX12_next_192 48 rfl (by decide +kernel))
theorem dX12_next_242 : decode cX12_next 242 = .ok (.iload 5, 2) := dcU1 dO_21 (rdU1.ch sfx_cX12_next_192 50 rfl (by decide +kernel))
theorem dX12_next_244 : decode cX12_next 244 = .ok (.imul, 1) := dc0 dO_104 (rdB.ch sfx_cX12_next_192 52 rfl (by decide +kernel))
theorem dX12_next_245 : decode cX12_next 245 = .ok (.lshl, 1) := dc0 dO_121 (rdB.ch sfx_cX12_next_192 53 rfl (by decide +kernel))
theorem dX12_next_246 : decode cX12_next 246 = .ok (.lor, 1) := dc0 dO_129 (rdB.ch sfx_cX12_next_192 54 rfl (by decide +kernel))
theorem dX12_next_247 : decode cX12_next 247 = .ok (.lstore_n 2, 1) := dc0 dO_65 (rdB.ch sfx_cX12_next_192 55 rfl (by decide +kernel))
theorem dX12_next_248 : decode cX12_next 248 = .ok (.iload 5, 2) := dcU1 dO_21 (rdU1.ch sfx_cX12_next_192 56 rfl (by decide +kernel))
theorem dX12_next_250 : decode cX12_next 250 = .ok (.bipush 9, 2) := dcS1 dO_16 (rdS1.ch sfx_cX12_next_192 58 rfl (by decide +kernel))
theorem dX12_next_252 : decode cX12_next 252 = .ok (.if_icmp .ge 22, 3) := dcS2 dO_162 (rdS2.ch sfx_cX12_next_192 60 rfl (by decide +kernel))
theorem dX12_next_255 : decode cX12_next 255 = .ok (.bipush 10, 2) := dcS1 dO_16 (rdS1.ch sfx_cX12_next_192 63 rfl (by decide +kernel))
theorem sfx_cX12_next_256 : (cX12_next.data.toList.drop 256).take 67 = [10, 21, 4, 104, 42, 42, 180, 0, 224, 182, 0, 227, 96, 16, 48, 100, 54, 4, 132, 5, 1, 42, 89, 180, 0, 224, 4, 96, 181, 0, 224, 167, 255, 118, 42, 42, 180, 0, 230, 4, 160, 0, 10, 32, 184, 0, 236, 167, 0, 5, 21, 4, 181, 0, 233, 42, 180, 0, 230, 4, 160, 0, 17, 21, 5, 16, 8] := by decide +kernel
theorem dX12_next_257 : decode cX12_next 257 = .ok (.iload 4, 2) := dcU1 dO_21 (rdU1.ch sfx_cX12_next_256 1 rfl (by decide +kernel))
theorem dX12_next_259 : decode cX12_next 259 = .ok (.imul, 1) := dc0 dO_104 (rdB.ch sfx_cX12_next_256 3 rfl (by decide +kernel))
theorem dX12_next_260 : decode cX12_next 260 = .ok (.aload_n 0, 1) := dc0 dO_42 (rdB.ch sfx_cX12_next_256 4 rfl (by decide +kernel))
theorem dX12_next_261 : decode cX12_next 261 = .ok (.aload_n 0, 1) := dc0 dO_42 (rdB.ch sfx_cX12_next_256 5 rfl (by decide +kernel))
theorem dX12_next_262 : decode cX12_next 262 = .ok (.getfield 224, 3) := dcU2 dO_180 (rdU2.ch sfx_cX12_next_256 6 rfl (by decide +kernel))
theorem dX12_next_265 : decode cX12_next 265 = .ok (.invokevirtual 227, 3) := dcU2 dO_182 (rdU2.ch sfx_cX12_next_256 9 rfl (by decide +kernel))
theorem dX12_next_268 : decode cX12_next 268 = .ok (.iadd, 1) := dc0 dO_96 (rdB.ch sfx_cX12_next_256 12 rfl (by decide +kernel))
theorem dX12_next_269 : decode cX12_next 269 = .ok (.bipush 48, 2) := dcS1 dO_16 (rdS1.ch sfx_cX12_next_256 13 rfl (by decide +kernel))
theorem dX12_next_271 : decode cX12_next 271 = .ok (.isub, 1) := dc0 dO_100 (rdB.ch sfx_cX12_next_256 15 rfl (by decide +kernel))
theorem dX12_next_272 : decode cX12_next 272 = .ok (.istore 4, 2) := dcU1 dO_54 (rdU1.ch sfx_cX12_next_256 16 rfl (by decide +kernel))
theorem dX12_next_274 : decode cX12_next 274 = .ok (.iinc 5 1, 3) := dcI dO_132 (rdI.ch sfx_cX12_next_256 18 rfl (by decide +kernel))
theorem dX12_next_277 : decode cX12_next 277 = .ok (.aload_n 0, 1) := dc0 dO_42 (rdB.ch sfx_cX12_next_256 21 rfl (by decide +kernel))
theorem dX12_next_278 : decode cX12_next 278 = .ok (.dup, 1) := dc0 dO_89 (rdB.ch sfx_cX12_next_256 22 rfl (by decide +kernel))
theorem dX12_next_279 : decode cX12_next 279 = .ok (.getfield 224, 3) := dcU2 dO_180 (rdU2.ch sfx_cX12_next_256 23 rfl (by decide +kernel))
theorem dX12_next_282 : decode cX12_next 282 = .ok (.iconst 1, 1) := dc0 dO_4 (rdB.ch sfx_cX12_next_256 26 rfl (by decide +kernel))
theorem dX12_next_283 : decode cX12_next 283 = .ok (.iadd, 1) := dc0 dO_96 (rdB.ch sfx_cX12_next_256 27 rfl (by decide +kernel))
theorem dX12_next_284 : decode cX12_next 284 = .ok (.putfield 224, 3) := dcU2 dO_181 (rdU2.ch sfx_cX12_next_256 28 rfl (by decide +kernel))
theorem dX12_next_287 : decode cX12_next 287 = .ok (.goto (-138), 3) := dcS2 dO_167 (rdS2.ch sfx_cX12_next_256 31 rfl (by decide +kernel))
theorem dX12_next_290 : decode cX12_next 290 = .ok (.aload_n 0, 1) := dc0 dO_42 (rdB.ch sfx_cX12_next_256 34 rfl (by decide +kernel))
theorem dX12_next_291 : decode cX12_next 291 = .ok (.aload_n 0, 1) := dc0 dO_42 (rdB.ch sfx_cX12_next_256 35 rfl (by decide +kernel))
theorem dX12_next_292 : decode cX12_next 292 = .ok (.getfield 230, 3) := dcU2 dO_180 (rdU2.ch sfx_cX12_next_256 36 rfl (by decide +kernel))
theorem dX12_next_295 : decode cX12_next 295 = .ok (.iconst 1, 1) := dc0 dO_4 (rdB.ch sfx_cX12_next_256 39 rfl (by decide +kernel))
theorem dX12_next_296 : decode cX12_next 296 = .ok (.if_icmp .ne 10, 3) := dcS2 dO_160 (rdS2.ch sfx_cX12_next_256 40 rfl (by decide +kernel))
theorem dX12_next_299 : decode cX12_next 299 = .ok (.lload_n 2, 1) := dc0 dO_32 (rdB.ch sfx_cX12_next_256 43 rfl (by decide +kernel))
theorem dX12_next_300 : decode cX12_next 300 = .ok (.invokestatic 236, 3) := dcU2 dO_184 (rdU2.ch sfx_cX12_next_256 44 rfl (by decide +kernel))
theorem dX12_next_303 : decode cX12_next 303 = .ok (.goto 5, 3) := dcS2 dO_167 (rdS2.ch sfx_cX12_next_256 47 rfl (by decide +kernel))
theorem dX12_next_306 : decode cX12_next 306 = .ok (.iload 4, 2) := dcU1 dO_21 (rdU1.ch sfx_cX12_next_256 50 rfl (by decide +kernel))
theorem dX12_next_308 : decode cX12_next 308 = .ok (.putfield 233, 3) := dcU2 dO_181 (rdU2.ch sfx_cX12_next_256 52 rfl (by decide +kernel))
theorem dX12_next_311 : decode cX12_next 311 = .ok (.aload_n 0, 1) := dc0 dO_42 (rdB.ch sfx_cX12_next_256 55 rfl (by decide +kernel))
theorem dX12_next_312 : decode cX12_next 312 = .ok (.getfield 230, 3) := dcU2 dO_180 (rdU2.ch sfx_cX12_next_256 56 rfl (by decide +kernel))
theorem dX12_next_315 : decode cX12_next 315 = .ok (.iconst 1, 1) := dc0 dO_4 (rdB.ch sfx_cX12_next_256 59 rfl (by decide +kernel))
theorem dX12_next_316 : decode cX12_next 316 = .ok (.if_icmp .ne 17, 3) := dcS2 dO_160 (rdS2.ch sfx_cX12_next_256 60 rfl (by decide +kernel))
theorem dX12_next_319 : decode cX12_next 319 = .ok (.iload 5, 2) := dcU1 dO_21 (rdU1.ch sfx_cX12_next_256 63 rfl (by decide +kernel))
theorem sfx_cX12_next_320 : (cX12_next.data.toList.drop 320).take 67 = [5, 16, 8, 163, 0, 25, 42, 180, 0, 233, 155, 0, 18, 42, 180, 0, 230, 5, 160, 0, 15, 21, 5, 16, 9, 164, 0, 8, 42, 4, 182, 0, 240, 177] := by decide +kernel
theorem dX12_next_321 : decode cX12_next 321 = .ok (.bipush 8, 2) := dcS1 dO_16 (rdS1.ch sfx_cX12_next_320 1 rfl (by decide +kernel))
theorem dX12_next_323 : decode cX12_next 323 = .ok (.if_icmp .gt 25, 3) := dcS2 dO_163 (rdS2.ch sfx_cX12_next_320 3 rfl (by decide +kernel))
theorem dX12_next_326 : decode cX12_next 326 = .ok (.aload_n 0, 1) := dc0 dO_42 (rdB.ch sfx_cX12_next_320 6 rfl (by decide +kernel))
theorem dX12_next_327 : decode cX12_next 327 = .ok (.getfield 233, 3) := dcU2 dO_180 (rdU2.ch sfx_cX12_next_320 7 rfl (by decide +kernel))
theorem dX12_next_330 : decode cX12_next 330 = .ok (.ifCond .lt 18, 3) := dcS2 dO_155 (rdS2.ch sfx_cX12_next_320 10 rfl (by decide +kernel))
theorem dX12_next_333 : decode cX12_next 333 = .ok (.aload_n 0, 1) := dc0 dO_42 (rdB.ch sfx_cX12_next_320 13 rfl (by decide +kernel))
theorem dX12_next_334 : decode cX12_next 334 = .ok (.getfield 230, 3) := dcU2 dO_180 (rdU2.ch sfx_cX12_next_320 14 rfl (by decide +kernel))
theorem dX12_next_337 : decode cX12_next 337 = .ok (.iconst 2, 1) := dc0 dO_5 (rdB.ch sfx_cX12_next_320 17 rfl (by decide +kernel))
theorem dX12_next_338 : decode cX12_next 338 = .ok (.if_icmp .ne 15, 3) := dcS2 dO_160 (rdS2.ch sfx_cX12_next_320 18 rfl (by decide +kernel))
theorem dX12_next_341 : decode cX12_next 341 = .ok (.iload 5, 2) := dcU1 dO_21 (rdU1.ch sfx_cX12_next_320 21 rfl (by decide +kernel))
theorem dX12_next_343 : decode cX12_next 343 = .ok (.bipush 9, 2) := dcS1 dO_16 (rdS1.ch sfx_cX12_next_320 23 rfl (by decide +kernel))
theorem dX12_next_345 : decode cX12_next 345 = .ok (.if_icmp .le 8, 3) := dcS2 dO_164 (rdS2.ch sfx_cX12_next_320 25 rfl (by decide +kernel))
theorem dX12_next_348 : decode cX12_next 348 = .ok (.aload_n 0, 1) := dc0 dO_42 (rdB.ch sfx_cX12_next_320 28 rfl (by decide +kernel))
theorem dX12_next_349 : decode cX12_next 349 = .ok (.iconst 1, 1) := dc0 dO_4 (rdB.ch sfx_cX12_next_320 29 rfl (by decide +kernel))
theorem dX12_next_350 : decode cX12_next 350 = .ok (.invokevirtual 240, 3) := dcU2 dO_182 (rdU2.ch sfx_cX12_next_320 30 rfl (by decide +kernel))
theorem dX12_next_353 : decode cX12_next 353 = .ok (.return_, 1) := dc0 dO_177 (rdB.ch sfx_cX12_next_320 33 rfl (by decide +kernel))
theorem dX12_piece_0 : decode cX12_piece 0 = .ok (.iload 5, 2) := dcU1 dO_21 (by decide +kernel)
theorem dX12_piece_2 : decode cX12_piece 2 = .ok (.istore 6, 2) := dcU1 dO_54 (by decide +kernel)
theorem dX12_piece_4 : decode cX12_piece 4 = .ok (.aload_n 0, 1) := dc0 dO_42 (by decide +kernel)
theorem dX12_piece_5 : decode cX12_piece 5 = .ok (.bipush 42, 2) := dcS1 dO_16 (by decide +kernel)
theorem dX12_piece_7 : decode cX12_piece 7 = .ok (.invokevirtual 244, 3) := dcU2 dO_182 (by decide +kernel)
theorem dX12_piece_10 : decode cX12_piece 10 = .ok (.ifCond .ne 12, 3) := dcS2 dO_154 (by decide +kernel)
theorem dX12_piece_13 : decode cX12_piece 13 = .ok (.aload_n 0, 1) := dc0 dO_42 (by decide +kernel)
theorem dX12_piece_14 : decode cX12_piece 14 = .ok (.bipush 43, 2) := dcS1 dO_16 (by decide +kernel)
theorem dX12_piece_16 : decode cX12_piece 16 = .ok (.invokevirtual 244, 3) := dcU2 dO_182 (by decide +kernel)
theorem dX12_piece_19 : decode cX12_piece 19 = .ok (.ifCond .eq 9, 3) := dcS2 dO_153 (by decide +kernel)
theorem dX12_piece_22 : decode cX12_piece 22 = .ok (.aload_n 0, 1) := dc0 dO_42 (by decide +kernel)
theorem dX12_piece_23 : decode cX12_piece 23 = .ok (.lload_n 3, 1) := dc0 dO_33 (by decide +kernel)
theorem dX12_piece_24 : decode cX12_piece 24 = .ok (.lload_n 1, 1) := dc0 dO_31 (by decide +kernel)
theorem dX12_piece_25 : decode cX12_piece 25 = .ok (.invokevirtual 281, 3) := dcU2 dO_182 (by decide +kernel)
theorem dX12_piece_28 : decode cX12_piece 28 = .ok (.aload_n 0, 1) := dc0 dO_42 (by decide +kernel)
theorem dX12_piece_29 : decode cX12_piece 29 = .ok (.bipush 42, 2) := dcS1 dO_16 (by decide +kernel)
theorem dX12_piece_31 : decode cX12_piece 31 = .ok (.invokevirtual 244, 3) := dcU2 dO_182 (by decide +kernel)
theorem dX12_piece_34 : decode cX12_piece 34 = .ok (.ifCond .ne 12, 3) := dcS2 dO_154 (by decide +kernel)
theorem dX12_piece_37 : decode cX12_piece 37 = .ok (.aload_n 0, 1) := dc0 dO_42 (by decide +kernel)
theorem dX12_piece_38 : decode cX12_piece 38 = .ok (.bipush 63, 2) := dcS1 dO_16 (by decide +kernel)
theorem dX12_piece_40 : decode cX12_piece 40 = .ok (.invokevirtual 244, 3) := dcU2 dO_182 (by decide +kernel)
theorem dX12_piece_43 : decode cX12_piece 43 = .ok (.ifCond .eq 6, 3) := dcS2 dO_153 (by decide +kernel)
theorem dX12_piece_46 : decode cX12_piece 46 = .ok (.iconst 1, 1) := dc0 dO_4 (by decide +kernel)
theorem dX12_piece_47 : decode cX12_piece 47 = .ok (.istore 6, 2) := dcU1 dO_54 (by decide +kernel)
theorem dX12_piece_49 : decode cX12_piece 49 = .ok (.aload_n 0, 1) := dc0 dO_42 (by decide +kernel)
theorem dX12_piece_50 : decode cX12_piece 50 = .ok (.bipush 42, 2) := dcS1 dO_16 (by decide +kernel)
theorem dX12_piece_52 : decode cX12_piece 52 = .ok (.invokevirtual 244, 3) := dcU2 dO_182 (by decide +kernel)
theorem dX12_piece_55 : decode cX12_piece 55 = .ok (.ifCond .ne 21, 3) := dcS2 dO_154 (by decide +kernel)
theorem dX12_piece_58 : decode cX12_piece 58 = .ok (.aload_n 0, 1) := dc0 dO_42 (by decide +kernel)
theorem dX12_piece_59 : decode cX12_piece 59 = .ok (.bipush 43, 2) := dcS1 dO_16 (by decide +kernel)
theorem dX12_piece_61 : decode cX12_piece 61 = .ok (.invokevirtual 244, 3) := dcU2 dO_182 (by decide +kernel)
theorem dX12_piece_64 : decode cX12_piece 64 = .ok (.ifCond .ne 12, 3) := dcS2 dO_154 (by decide +kernel)
theorem dX12_piece_67 : decode cX12_piece 67 = .ok (.aload_n 0, 1) := dc0 dO_42 (by decide +kernel)
theorem dX12_piece_68 : decode cX12_piece 68 = .ok (.bipush 63, 2) := dcS1 dO_16 (by decide +kernel)
theorem dX12_piece_70 : decode cX12_piece 70 = .ok (.invokevirtual 244, 3) := dcU2 dO_182 (by decide +kernel)
theorem dX12_piece_73 : decode cX12_piece 73 = .ok (.ifCond .eq 7, 3) := dcS2 dO_153 (by decide +kernel)
theorem dX12_piece_76 : decode cX12_piece 76 = .ok (.aload_n 0, 1) := dc0 dO_42 (by decide +kernel)
theorem dX12_piece_77 : decode cX12_piece 77 = .ok (.invokevirtual 247, 3) := dcU2 dO_182 (by decide +kernel)
theorem dX12_piece_80 : decode cX12_piece 80 = .ok (.aload_n 0, 1) := dc0 dO_42 (by decide +kernel)
theorem dX12_piece_81 : decode cX12_piece 81 = .ok (.getfield 254, 3) := dcU2 dO_180 (by decide +kernel)
theorem dX12_piece_84 : decode cX12_piece 84 = .ok (.iconst 1, 1) := dc0 dO_4 (by decide +kernel)
theorem dX12_piece_85 : decode cX12_piece 85 = .ok (.isub, 1) := dc0 dO_100 (by decide +kernel)
theorem dX12_piece_86 : decode cX12_piece 86 = .ok (.istore 7, 2) := dcU1 dO_54 (by decide +kernel)
theorem dX12_piece_88 : decode cX12_piece 88 = .ok (.aload_n 0, 1) := dc0 dO_42 (by decide +kernel)
theorem dX12_piece_89 : decode cX12_piece 89 = .ok (.aload_n 0, 1) := dc0 dO_42 (by decide +kernel)
theorem dX12_piece_90 : decode cX12_piece 90 = .ok (.getfield 269, 3) := dcU2 dO_180 (by decide +kernel)
theorem dX12_piece_93 : decode cX12_piece 93 = .ok (.iload 7, 2) := dcU1 dO_21 (by decide +kernel)
theorem dX12_piece_95 : decode cX12_piece 95 = .ok (.laload, 1) := dc0 dO_47 (by decide +kernel)
theorem dX12_piece_96 : decode cX12_piece 96 = .ok (.lload_n 1, 1) := dc0 dO_31 (by decide +kernel)
theorem dX12_piece_97 : decode cX12_piece 97 = .ok (.invokevirtual 281, 3) := dcU2 dO_182 (by decide +kernel)
theorem dX12_piece_100 : decode cX12_piece 100 = .ok (.aload_n 0, 1) := dc0 dO_42 (by decide +kernel)
theorem dX12_piece_101 : decode cX12_piece 101 = .ok (.getfield 272, 3) := dcU2 dO_180 (by decide +kernel)
theorem dX12_piece_104 : decode cX12_piece 104 = .ok (.iload 7, 2) := dcU1 dO_21 (by decide +kernel)
theorem dX12_piece_106 : decode cX12_piece 106 = .ok (.baload, 1) := dc0 dO_51 (by decide +kernel)
theorem dX12_piece_107 : decode cX12_piece 107 = .ok (.ifCond .eq 14, 3) := dcS2 dO_153 (by decide +kernel)
theorem dX12_piece_110 : decode cX12_piece 110 = .ok (.aload_n 0, 1) := dc0 dO_42 (by decide +kernel)
theorem dX12_piece_111 : decode cX12_piece 111 = .ok (.getfield 266, 3) := dcU2 dO_180 (by decide +kernel)
theorem dX12_piece_114 : decode cX12_piece 114 = .ok (.iload 7, 2) := dcU1 dO_21 (by decide +kernel)
theorem dX12_piece_116 : decode cX12_piece 116 = .ok (.dup2, 1) := dc0 dO_92 (by decide +kernel)
theorem dX12_piece_117 : decode cX12_piece 117 = .ok (.laload, 1) := dc0 dO_47 (by decide +kernel)
theorem dX12_piece_118 : decode cX12_piece 118 = .ok (.lload_n 1, 1) := dc0 dO_31 (by decide +kernel)
theorem dX12_piece_119 : decode cX12_piece 119 = .ok (.lor, 1) := dc0 dO_129 (by decide +kernel)
theorem dX12_piece_120 : decode cX12_piece 120 = .ok (.lastore, 1) := dc0 dO_80 (by decide +kernel)
theorem dX12_piece_121 : decode cX12_piece 121 = .ok (.aload_n 0, 1) := dc0 dO_42 (by decide +kernel)
theorem dX12_piece_122 : decode cX12_piece 122 = .ok (.getfield 269, 3) := dcU2 dO_180 (by decide +kernel)
theorem dX12_piece_125 : decode cX12_piece 125 = .ok (.iload 7, 2) := dcU1 dO_21 (by decide +kernel)
theorem dX12_piece_127 : decode cX12_piece 127 = .ok (.iload 6, 2) := dcU1 dO_21 (by decide +kernel)
theorem sfx_cX12_piece_128 : (cX12_piece.data.toList.drop 128).take 67 = [6, 153, 0, 15, 42, 180, 1, 13, 21, 7, 47, 33, 129, 167, 0, 4, 33, 80, 42, 180, 1, 16, 21, 7, 42, 180, 1, 16, 21, 7, 51, 153, 0, 12, 21, 6, 153, 0, 7, 4, 167, 0, 4, 3, 84, 177] := by decide +kernel
theorem dX12_piece_129 : decode cX12_piece 129 = .ok (.ifCond .eq 15, 3) := dcS2 dO_153 (rdS2.ch sfx_cX12_piece_128 1 rfl (by decide +kernel))
theorem dX12_piece_132 : decode cX12_piece 132 = .ok (.aload_n 0, 1) := dc0 dO_42 (rdB.ch sfx_cX12_piece_128 4 rfl (by decide +kernel))
theorem dX12_piece_133 : decode cX12_piece 133 = .ok (.getfield 269, 3) := dcU2 dO_180 (rdU2.ch sfx_cX12_piece_128 5 rfl (by decide +kernel))
theorem dX12_piece_136 : decode cX12_piece 136 = .ok (.iload 7, 2) := dcU1 dO_21 (rdU1.ch sfx_cX12_piece_128 8 rfl (by decide +kernel))
theorem dX12_piece_138 : decode cX12_piece 138 = .ok (.laload, 1) := dc0 dO_47 (rdB.ch sfx_cX12_piece_128 10 rfl (by decide +kernel))
theorem dX12_piece_139 : decode cX12_piece 139 = .ok (.lload_n 3, 1) := dc0 dO_33 (rdB.ch sfx_cX12_piece_128 11 rfl (by decide +kernel))
theorem dX12_piece_140 : decode cX12_piece 140 = .ok (.lor, 1) := dc0 dO_129 (rdB.ch sfx_cX12_piece_128 12 rfl (by decide +kernel))
theorem dX12_piece_141 : decode cX12_piece 141 = .ok (.goto 4, 3) := dcS2 dO_167 (rdS2.ch sfx_cX12_piece_128 13 rfl (by decide +kernel))
theorem dX12_piece_144 : decode cX12_piece 144 = .ok (.lload_n 3, 1) := dc0 dO_33 (rdB.ch sfx_cX12_piece_128 16 rfl (by decide +kernel))
theorem dX12_piece_145 : decode cX12_piece 145 = .ok (.lastore, 1) := dc0 dO_80 (rdB.ch sfx_cX12_piece_128 17 rfl (by decide +kernel))
theorem dX12_piece_146 : decode cX12_piece 146 = .ok (.aload_n 0, 1) := dc0 dO_42 (rdB.ch sfx_cX12_piece_128 18 rfl (by decide +kernel))
theorem dX12_piece_147 : decode cX12_piece 147 = .ok (.getfield 272, 3) := dcU2 dO_180 (rdU2.ch sfx_cX12_piece_128 19 rfl (by decide +kernel))
theorem dX12_piece_150 : decode cX12_piece 150 = .ok (.iload 7, 2) := dcU1 dO_21 (rdU1.ch sfx_cX12_piece_128 22 rfl (by decide +kernel))
theorem dX12_piece_152 : decode cX12_piece 152 = .ok (.aload_n 0, 1) := dc0 dO_42 (rdB.ch sfx_cX12_piece_128 24 rfl (by decide +kernel))
theorem dX12_piece_153 : decode cX12_piece 153 = .ok (.getfield 272, 3) := dcU2 dO_180 (rdU2.ch sfx_cX12_piece_128 25 rfl (by decide +kernel))
theorem dX12_piece_156 : decode cX12_piece 156 = .ok (.iload 7, 2) := dcU1 dO_21 (rdU1.ch sfx_cX12_piece_128 28 rfl (by decide +kernel))
theorem dX12_piece_158 : decode cX12_piece 158 = .ok (.baload, 1) := dc0 dO_51 (rdB.ch sfx_cX12_piece_128 30 rfl (by decide +kernel))
theorem dX12_piece_159 : decode cX12_piece 159 = .ok (.ifCond .eq 12, 3) := dcS2 dO_153 (rdS2.ch sfx_cX12_piece_128 31 rfl (by decide +kernel))
theorem dX12_piece_162 : decode cX12_piece 162 = .ok (.iload 6, 2) := dcU1 dO_21 (rdU1.ch sfx_cX12_piece_128 34 rfl (by decide +kernel))
theorem dX12_piece_164 : decode cX12_piece 164 = .ok (.ifCond .eq 7, 3) := dcS2 dO_153 (rdS2.ch sfx_cX12_piece_128 36 rfl (by decide +kernel))
theorem dX12_piece_167 : decode cX12_piece 167 = .ok (.iconst 1, 1) := dc0 dO_4 (rdB.ch sfx_cX12_piece_128 39 rfl (by decide +kernel))
theorem dX12_piece_168 : decode cX12_piece 168 = .ok (.goto 4, 3) := dcS2 dO_167 (rdS2.ch sfx_cX12_piece_128 40 rfl (by decide +kernel))
theorem dX12_piece_171 : decode cX12_piece 171 = .ok (.iconst 0, 1) := dc0 dO_3 (rdB.ch sfx_cX12_piece_128 43 rfl (by decide +kernel))
theorem dX12_piece_172 : decode cX12_piece 172 = .ok (.bastore, 1) := dc0 dO_84 (rdB.ch sfx_cX12_piece_128 44 rfl (by decide +kernel))
theorem dX12_piece_173 : decode cX12_piece 173 = .ok (.return_, 1) := dc0 dO_177 (rdB.ch sfx_cX12_piece_128 45 rfl (by decide +kernel))
theorem dX12_policy_0 : decode cX12_policy 0 = .ok (.aload_n 0, 1) := dc0 dO_42 (by decide +kernel)
theorem dX12_policy_1 : decode cX12_policy 1 = .ok (.aload_n 0, 1) := dc0 dO_42 (by decide +kernel)
theorem dX12_policy_2 : decode cX12_policy 2 = .ok (.getfield 355, 3) := dcU2 dO_180 (by decide +kernel)
theorem dX12_policy_5 : decode cX12_policy 5 = .ok (.bipush 12, 2) := dcS1 dO_16 (by decide +kernel)
theorem dX12_policy_7 : decode cX12_policy 7 = .ok (.if_icmp .ge 10, 3) := dcS2 dO_162 (by decide +kernel)
theorem dX12_policy_10 : decode cX12_policy 10 = .ok (.aload_n 0, 1) := dc0 dO_42 (by decide +kernel)
theorem dX12_policy_11 : decode cX12_policy 11 = .ok (.getfield 355, 3) := dcU2 dO_180 (by decide +kernel)
theorem dX12_policy_14 : decode cX12_policy 14 = .ok (.goto 5, 3) := dcS2 dO_167 (by decide +kernel)
theorem dX12_policy_17 : decode cX12_policy 17 = .ok (.bipush 12, 2) := dcS1 dO_16 (by decide +kernel)
theorem dX12_policy_19 : decode cX12_policy 19 = .ok (.putfield 278, 3) := dcU2 dO_181 (by decide +kernel)
theorem dX12_policy_22 : decode cX12_policy 22 = .ok (.aload_n 0, 1) := dc0 dO_42 (by decide +kernel)
theorem dX12_policy_23 : decode cX12_policy 23 = .ok (.getfield 358, 3) := dcU2 dO_180 (by decide +kernel)
theorem dX12_policy_26 : decode cX12_policy 26 = .ok (.aload_n 0, 1) := dc0 dO_42 (by decide +kernel)
theorem dX12_policy_27 : decode cX12_policy 27 = .ok (.getfield 278, 3) := dcU2 dO_180 (by decide +kernel)
theorem dX12_policy_30 : decode cX12_policy 30 = .ok (.iconst 0, 1) := dc0 dO_3 (by decide +kernel)
theorem dX12_policy_31 : decode cX12_policy 31 = .ok (.iastore, 1) := dc0 dO_79 (by decide +kernel)
theorem dX12_policy_32 : decode cX12_policy 32 = .ok (.aload_n 0, 1) := dc0 dO_42 (by decide +kernel)
theorem dX12_policy_33 : decode cX12_policy 33 = .ok (.getfield 320, 3) := dcU2 dO_180 (by decide +kernel)
theorem dX12_policy_36 : decode cX12_policy 36 = .ok (.aload_n 0, 1) := dc0 dO_42 (by decide +kernel)
theorem dX12_policy_37 : decode cX12_policy 37 = .ok (.getfield 278, 3) := dcU2 dO_180 (by decide +kernel)
theorem dX12_policy_40 : decode cX12_policy 40 = .ok (.iconst 0, 1) := dc0 dO_3 (by decide +kernel)
theorem dX12_policy_41 : decode cX12_policy 41 = .ok (.iastore, 1) := dc0 dO_79 (by decide +kernel)
theorem dX12_policy_42 : decode cX12_policy 42 = .ok (.aload_n 0, 1) := dc0 dO_42 (by decide +kernel)
theorem dX12_policy_43 : decode cX12_policy 43 = .ok (.getfield 346, 3) := dcU2 dO_180 (by decide +kernel)
theorem dX12_policy_46 : decode cX12_policy 46 = .ok (.aload_n 0, 1) := dc0 dO_42 (by decide +kernel)
theorem dX12_policy_47 : decode cX12_policy 47 = .ok (.getfield 278, 3) := dcU2 dO_180 (by decide +kernel)
theorem dX12_policy_50 : decode cX12_policy 50 = .ok (.iconst 0, 1) := dc0 dO_3 (by decide +kernel)
theorem dX12_policy_51 : decode cX12_policy 51 = .ok (.iastore, 1) := dc0 dO_79 (by decide +kernel)
theorem dX12_policy_52 : decode cX12_policy 52 = .ok (.aload_n 0, 1) := dc0 dO_42 (by decide +kernel)
theorem dX12_policy_53 : decode cX12_policy 53 = .ok (.getfield 292, 3) := dcU2 dO_180 (by decide +kernel)
theorem dX12_policy_56 : decode cX12_policy 56 = .ok (.aload_n 0, 1) := dc0 dO_42 (by decide +kernel)
theorem dX12_policy_57 : decode cX12_policy 57 = .ok (.getfield 278, 3) := dcU2 dO_180 (by decide +kernel)
theorem dX12_policy_60 : decode cX12_policy 60 = .ok (.iconst 0, 1) := dc0 dO_3 (by decide +kernel)
theorem dX12_policy_61 : decode cX12_policy 61 = .ok (.iastore, 1) := dc0 dO_79 (by decide +kernel)
theorem dX12_policy_62 : decode cX12_policy 62 = .ok (.aload_n 0, 1) := dc0 dO_42 (by decide +kernel)
theorem dX12_policy_63 : decode cX12_policy 63 = .ok (.iconst 0, 1) := dc0 dO_3 (by decide +kernel)
theorem dX12_policy_64 : decode cX12_policy 64 = .ok (.putfield 224, 3) := dcU2 dO_181 (by decide +kernel)
theorem dX12_policy_67 : decode cX12_policy 67 = .ok (.aload_n 0, 1) := dc0 dO_42 (by decide +kernel)
theorem dX12_policy_68 : decode cX12_policy 68 = .ok (.iconst 0, 1) := dc0 dO_3 (by decide +kernel)
theorem dX12_policy_69 : decode cX12_policy 69 = .ok (.putfield 215, 3) := dcU2 dO_181 (by decide +kernel)
theorem dX12_policy_72 : decode cX12_policy 72 = .ok (.aload_n 0, 1) := dc0 dO_42 (by decide +kernel)
theorem dX12_policy_73 : decode cX12_policy 73 = .ok (.invokevirtual 247, 3) := dcU2 dO_182 (by decide +kernel)
theorem dX12_policy_76 : decode cX12_policy 76 = .ok (.aload_n 0, 1) := dc0 dO_42 (by decide +kernel)
theorem dX12_policy_77 : decode cX12_policy 77 = .ok (.getfield 215, 3) := dcU2 dO_180 (by decide +kernel)
theorem dX12_policy_80 : decode cX12_policy 80 = .ok (.ifCond .ne 17, 3) := dcS2 dO_154 (by decide +kernel)
theorem dX12_policy_83 : decode cX12_policy 83 = .ok (.aload_n 0, 1) := dc0 dO_42 (by decide +kernel)
theorem dX12_policy_84 : decode cX12_policy 84 = .ok (.getfield 230, 3) := dcU2 dO_180 (by decide +kernel)
theorem dX12_policy_87 : decode cX12_policy 87 = .ok (.ifCond .eq 10, 3) := dcS2 dO_153 (by decide +kernel)
theorem dX12_policy_90 : decode cX12_policy 90 = .ok (.aload_n 0, 1) := dc0 dO_42 (by decide +kernel)
theorem dX12_policy_91 : decode cX12_policy 91 = .ok (.invokevirtual 373, 3) := dcU2 dO_182 (by decide +kernel)
theorem dX12_policy_94 : decode cX12_policy 94 = .ok (.goto (-18), 3) := dcS2 dO_167 (by decide +kernel)
theorem dX12_policy_97 : decode cX12_policy 97 = .ok (.aload_n 0, 1) := dc0 dO_42 (by decide +kernel)
theorem dX12_policy_98 : decode cX12_policy 98 = .ok (.aload_n 0, 1) := dc0 dO_42 (by decide +kernel)
theorem dX12_policy_99 : decode cX12_policy 99 = .ok (.getfield 215, 3) := dcU2 dO_180 (by decide +kernel)
theorem dX12_policy_102 : decode cX12_policy 102 = .ok (.putfield 376, 3) := dcU2 dO_181 (by decide +kernel)
theorem dX12_policy_105 : decode cX12_policy 105 = .ok (.aload_n 0, 1) := dc0 dO_42 (by decide +kernel)
theorem dX12_policy_106 : decode cX12_policy 106 = .ok (.iconst 0, 1) := dc0 dO_3 (by decide +kernel)
theorem dX12_policy_107 : decode cX12_policy 107 = .ok (.putfield 1, 3) := dcU2 dO_181 (by decide +kernel)
theorem dX12_policy_110 : decode cX12_policy 110 = .ok (.aload_n 0, 1) := dc0 dO_42 (by decide +kernel)
theorem dX12_policy_111 : decode cX12_policy 111 = .ok (.getfield 215, 3) := dcU2 dO_180 (by decide +kernel)
theorem dX12_policy_114 : decode cX12_policy 114 = .ok (.ifCond .eq 11, 3) := dcS2 dO_153 (by decide +kernel)
theorem dX12_policy_117 : decode cX12_policy 117 = .ok (.bipush (-10), 2) := dcS1 dO_16 (by decide +kernel)
theorem dX12_policy_119 : decode cX12_policy 119 = .ok (.aload_n 0, 1) := dc0 dO_42 (by decide +kernel)
theorem dX12_policy_120 : decode cX12_policy 120 = .ok (.getfield 221, 3) := dcU2 dO_180 (by decide +kernel)
theorem dX12_policy_123 : decode cX12_policy 123 = .ok (.isub, 1) := dc0 dO_100 (by decide +kernel)
theorem dX12_policy_124 : decode cX12_policy 124 = .ok (.ireturn, 1) := dc0 dO_172 (by decide +kernel)
theorem dX12_policy_125 : decode cX12_policy 125 = .ok (.aload_n 0, 1) := dc0 dO_42 (by decide +kernel)
theorem dX12_policy_126 : decode cX12_policy 126 = .ok (.getfield 355, 3) := dcU2 dO_180 (by decide +kernel)
theorem sfx_cX12_policy_128 : (cX12_policy.data.toList.drop 128).take 67 = [99, 16, 12, 160, 0, 6, 16, 253, 172, 42, 89, 180, 1, 99, 4, 96, 181, 1, 99, 42, 180, 1, 99, 4, 100, 172] := by decide +kernel
theorem dX12_policy_129 : decode cX12_policy 129 = .ok (.bipush 12, 2) := dcS1 dO_16 (rdS1.ch sfx_cX12_policy_128 1 rfl (by decide +kernel))
theorem dX12_policy_131 : decode cX12_policy 131 = .ok (.if_icmp .ne 6, 3) := dcS2 dO_160 (rdS2.ch sfx_cX12_policy_128 3 rfl (by decide +kernel))
theorem dX12_policy_134 : decode cX12_policy 134 = .ok (.bipush (-3), 2) := dcS1 dO_16 (rdS1.ch sfx_cX12_policy_128 6 rfl (by decide +kernel))
theorem dX12_policy_136 : decode cX12_policy 136 = .ok (.ireturn, 1) := dc0 dO_172 (rdB.ch sfx_cX12_policy_128 8 rfl (by decide +kernel))
theorem dX12_policy_137 : decode cX12_policy 137 = .ok (.aload_n 0, 1) := dc0 dO_42 (rdB.ch sfx_cX12_policy_128 9 rfl (by decide +kernel))
theorem dX12_policy_138 : decode cX12_policy 138 = .ok (.dup, 1) := dc0 dO_89 (rdB.ch sfx_cX12_policy_128 10 rfl (by decide +kernel))
theorem dX12_policy_139 : decode cX12_policy 139 = .ok (.getfield 355, 3) := dcU2 dO_180 (rdU2.ch sfx_cX12_policy_128 11 rfl (by decide +kernel))
theorem dX12_policy_142 : decode cX12_policy 142 = .ok (.iconst 1, 1) := dc0 dO_4 (rdB.ch sfx_cX12_policy_128 14 rfl (by decide +kernel))
theorem dX12_policy_143 : decode cX12_policy 143 = .ok (.iadd, 1) := dc0 dO_96 (rdB.ch sfx_cX12_policy_128 15 rfl (by decide +kernel))
theorem dX12_policy_144 : decode cX12_policy 144 = .ok (.putfield 355, 3) := dcU2 dO_181 (rdU2.ch sfx_cX12_policy_128 16 rfl (by decide +kernel))
theorem dX12_policy_147 : decode cX12_policy 147 = .ok (.aload_n 0, 1) := dc0 dO_42 (rdB.ch sfx_cX12_policy_128 19 rfl (by decide +kernel))
theorem dX12_policy_148 : decode cX12_policy 148 = .ok (.getfield 355, 3) := dcU2 dO_180 (rdU2.ch sfx_cX12_policy_128 20 rfl (by decide +kernel))
theorem dX12_policy_151 : decode cX12_policy 151 = .ok (.iconst 1, 1) := dc0 dO_4 (rdB.ch sfx_cX12_policy_128 23 rfl (by decide +kernel))
theorem dX12_policy_152 : decode cX12_policy 152 = .ok (.isub, 1) := dc0 dO_100 (rdB.ch sfx_cX12_policy_128 24 rfl (by decide +kernel))
theorem dX12_policy_153 : decode cX12_policy 153 = .ok (.ireturn, 1) := dc0 dO_172 (rdB.ch sfx_cX12_policy_128 25 rfl (by decide +kernel))
theorem dX12_rowRead_0 : decode cX12_rowRead 0 = .ok (.aload_n 0, 1) := dc0 dO_42 (by decide +kernel)
theorem dX12_rowRead_1 : decode cX12_rowRead 1 = .ok (.getfield 230, 3) := dcU2 dO_180 (by decide +kernel)
theorem dX12_rowRead_4 : decode cX12_rowRead 4 = .ok (.iconst 1, 1) := dc0 dO_4 (by decide +kernel)
theorem dX12_rowRead_5 : decode cX12_rowRead 5 = .ok (.if_icmp .ne 46, 3) := dcS2 dO_160 (by decide +kernel)
theorem dX12_rowRead_8 : decode cX12_rowRead 8 = .ok (.aload_n 0, 1) := dc0 dO_42 (by decide +kernel)
theorem dX12_rowRead_9 : decode cX12_rowRead 9 = .ok (.getfield 233, 3) := dcU2 dO_180 (by decide +kernel)
theorem dX12_rowRead_12 : decode cX12_rowRead 12 = .ok (.ifCond .eq 35, 3) := dcS2 dO_153 (by decide +kernel)
theorem dX12_rowRead_15 : decode cX12_rowRead 15 = .ok (.aload_n 0, 1) := dc0 dO_42 (by decide +kernel)
theorem dX12_rowRead_16 : decode cX12_rowRead 16 = .ok (.getfield 233, 3) := dcU2 dO_180 (by decide +kernel)
theorem dX12_rowRead_19 : decode cX12_rowRead 19 = .ok (.bipush 23, 2) := dcS1 dO_16 (by decide +kernel)
theorem dX12_rowRead_21 : decode cX12_rowRead 21 = .ok (.bipush 28, 2) := dcS1 dO_16 (by decide +kernel)
theorem dX12_rowRead_23 : decode cX12_rowRead 23 = .ok (.invokestatic 18, 3) := dcU2 dO_184 (by decide +kernel)
theorem dX12_rowRead_26 : decode cX12_rowRead 26 = .ok (.ifCond .ne 21, 3) := dcS2 dO_154 (by decide +kernel)
theorem dX12_rowRead_29 : decode cX12_rowRead 29 = .ok (.aload_n 0, 1) := dc0 dO_42 (by decide +kernel)
theorem dX12_rowRead_30 : decode cX12_rowRead 30 = .ok (.getfield 233, 3) := dcU2 dO_180 (by decide +kernel)
theorem dX12_rowRead_33 : decode cX12_rowRead 33 = .ok (.bipush 12, 2) := dcS1 dO_16 (by decide +kernel)
theorem dX12_rowRead_35 : decode cX12_rowRead 35 = .ok (.if_icmp .eq 12, 3) := dcS2 dO_159 (by decide +kernel)
theorem dX12_rowRead_38 : decode cX12_rowRead 38 = .ok (.aload_n 0, 1) := dc0 dO_42 (by decide +kernel)
theorem dX12_rowRead_39 : decode cX12_rowRead 39 = .ok (.getfield 233, 3) := dcU2 dO_180 (by decide +kernel)
theorem dX12_rowRead_42 : decode cX12_rowRead 42 = .ok (.bipush 13, 2) := dcS1 dO_16 (by decide +kernel)
theorem dX12_rowRead_44 : decode cX12_rowRead 44 = .ok (.if_icmp .ne 7, 3) := dcS2 dO_160 (by decide +kernel)
theorem dX12_rowRead_47 : decode cX12_rowRead 47 = .ok (.iconst 1, 1) := dc0 dO_4 (by decide +kernel)
theorem dX12_rowRead_48 : decode cX12_rowRead 48 = .ok (.goto 4, 3) := dcS2 dO_167 (by decide +kernel)
theorem dX12_rowRead_51 : decode cX12_rowRead 51 = .ok (.iconst 0, 1) := dc0 dO_3 (by decide +kernel)
theorem dX12_rowRead_52 : decode cX12_rowRead 52 = .ok (.istore_n 1, 1) := dc0 dO_60 (by decide +kernel)
theorem dX12_rowRead_53 : decode cX12_rowRead 53 = .ok (.iload_n 1, 1) := dc0 dO_27 (by decide +kernel)
theorem dX12_rowRead_54 : decode cX12_rowRead 54 = .ok (.ifCond .ne 8, 3) := dcS2 dO_154 (by decide +kernel)
theorem dX12_rowRead_57 : decode cX12_rowRead 57 = .ok (.aload_n 0, 1) := dc0 dO_42 (by decide +kernel)
theorem dX12_rowRead_58 : decode cX12_rowRead 58 = .ok (.iconst 2, 1) := dc0 dO_5 (by decide +kernel)
theorem dX12_rowRead_59 : decode cX12_rowRead 59 = .ok (.invokevirtual 240, 3) := dcU2 dO_182 (by decide +kernel)
theorem dX12_rowRead_62 : decode cX12_rowRead 62 = .ok (.aload_n 0, 1) := dc0 dO_42 (by decide +kernel)
theorem dX12_rowRead_63 : decode cX12_rowRead 63 = .ok (.getfield 358, 3) := dcU2 dO_180 (by decide +kernel)
theorem dX12_rowRead_66 : decode cX12_rowRead 66 = .ok (.aload_n 0, 1) := dc0 dO_42 (by decide +kernel)
theorem dX12_rowRead_67 : decode cX12_rowRead 67 = .ok (.getfield 278, 3) := dcU2 dO_180 (by decide +kernel)
theorem dX12_rowRead_70 : decode cX12_rowRead 70 = .ok (.iaload, 1) := dc0 dO_46 (by decide +kernel)
theorem dX12_rowRead_71 : decode cX12_rowRead 71 = .ok (.bipush 30, 2) := dcS1 dO_16 (by decide +kernel)
theorem dX12_rowRead_73 : decode cX12_rowRead 73 = .ok (.if_icmp .ne 8, 3) := dcS2 dO_160 (by decide +kernel)
theorem dX12_rowRead_76 : decode cX12_rowRead 76 = .ok (.aload_n 0, 1) := dc0 dO_42 (by decide +kernel)
theorem dX12_rowRead_77 : decode cX12_rowRead 77 = .ok (.iconst 4, 1) := dc0 dO_7 (by decide +kernel)
theorem dX12_rowRead_78 : decode cX12_rowRead 78 = .ok (.invokevirtual 240, 3) := dcU2 dO_182 (by decide +kernel)
theorem dX12_rowRead_81 : decode cX12_rowRead 81 = .ok (.aload_n 0, 1) := dc0 dO_42 (by decide +kernel)
theorem dX12_rowRead_82 : decode cX12_rowRead 82 = .ok (.getfield 215, 3) := dcU2 dO_180 (by decide +kernel)
theorem dX12_rowRead_85 : decode cX12_rowRead 85 = .ok (.ifCond .eq 4, 3) := dcS2 dO_153 (by decide +kernel)
theorem dX12_rowRead_88 : decode cX12_rowRead 88 = .ok (.return_, 1) := dc0 dO_177 (by decide +kernel)
theorem dX12_rowRead_89 : decode cX12_rowRead 89 = .ok (.bipush 31, 2) := dcS1 dO_16 (by decide +kernel)
theorem dX12_rowRead_91 : decode cX12_rowRead 91 = .ok (.aload_n 0, 1) := dc0 dO_42 (by decide +kernel)
theorem dX12_rowRead_92 : decode cX12_rowRead 92 = .ok (.getfield 278, 3) := dcU2 dO_180 (by decide +kernel)
theorem dX12_rowRead_95 : decode cX12_rowRead 95 = .ok (.imul, 1) := dc0 dO_104 (by decide +kernel)
theorem dX12_rowRead_96 : decode cX12_rowRead 96 = .ok (.aload_n 0, 1) := dc0 dO_42 (by decide +kernel)
theorem dX12_rowRead_97 : decode cX12_rowRead 97 = .ok (.getfield 358, 3) := dcU2 dO_180 (by decide +kernel)
theorem dX12_rowRead_100 : decode cX12_rowRead 100 = .ok (.aload_n 0, 1) := dc0 dO_42 (by decide +kernel)
theorem dX12_rowRead_101 : decode cX12_rowRead 101 = .ok (.getfield 278, 3) := dcU2 dO_180 (by decide +kernel)
theorem dX12_rowRead_104 : decode cX12_rowRead 104 = .ok (.iaload, 1) := dc0 dO_46 (by decide +kernel)
theorem dX12_rowRead_105 : decode cX12_rowRead 105 = .ok (.iadd, 1) := dc0 dO_96 (by decide +kernel)
theorem dX12_rowRead_106 : decode cX12_rowRead 106 = .ok (.istore_n 2, 1) := dc0 dO_61 (by decide +kernel)
theorem dX12_rowRead_107 : decode cX12_rowRead 107 = .ok (.aload_n 0, 1) := dc0 dO_42 (by decide +kernel)
theorem dX12_rowRead_108 : decode cX12_rowRead 108 = .ok (.getfield 358, 3) := dcU2 dO_180 (by decide +kernel)
theorem dX12_rowRead_111 : decode cX12_rowRead 111 = .ok (.aload_n 0, 1) := dc0 dO_42 (by decide +kernel)
theorem dX12_rowRead_112 : decode cX12_rowRead 112 = .ok (.getfield 278, 3) := dcU2 dO_180 (by decide +kernel)
theorem dX12_rowRead_115 : decode cX12_rowRead 115 = .ok (.dup2, 1) := dc0 dO_92 (by decide +kernel)
theorem dX12_rowRead_116 : decode cX12_rowRead 116 = .ok (.iaload, 1) := dc0 dO_46 (by decide +kernel)
theorem dX12_rowRead_117 : decode cX12_rowRead 117 = .ok (.iconst 1, 1) := dc0 dO_4 (by decide +kernel)
theorem dX12_rowRead_118 : decode cX12_rowRead 118 = .ok (.iadd, 1) := dc0 dO_96 (by decide +kernel)
theorem dX12_rowRead_119 : decode cX12_rowRead 119 = .ok (.iastore, 1) := dc0 dO_79 (by decide +kernel)
theorem dX12_rowRead_120 : decode cX12_rowRead 120 = .ok (.aload_n 0, 1) := dc0 dO_42 (by decide +kernel)
theorem dX12_rowRead_121 : decode cX12_rowRead 121 = .ok (.getfield 361, 3) := dcU2 dO_180 (by decide +kernel)
theorem dX12_rowRead_124 : decode cX12_rowRead 124 = .ok (.iload_n 2, 1) := dc0 dO_28 (by decide +kernel)
theorem dX12_rowRead_125 : decode cX12_rowRead 125 = .ok (.aload_n 0, 1) := dc0 dO_42 (by decide +kernel)
theorem dX12_rowRead_126 : decode cX12_rowRead 126 = .ok (.getfield 320, 3) := dcU2 dO_180 (by decide +kernel)
theorem sfx_cX12_rowRead_128 : (cX12_rowRead.data.toList.drop 128).take 67 = [64, 42, 180, 1, 22, 46, 79, 42, 180, 1, 108, 28, 42, 180, 1, 90, 42, 180, 1, 22, 46, 79, 42, 3, 182, 1, 32, 153, 0, 47, 42, 182, 0, 247, 42, 182, 1, 111, 42, 4, 182, 1, 32, 153, 0, 14, 42, 182, 0, 247, 42, 182, 1, 111, 167, 255, 240, 42, 5, 182, 1, 32, 154, 0, 8, 42, 5] := by decide +kernel
theorem dX12_rowRead_129 : decode cX12_rowRead 129 = .ok (.aload_n 0, 1) := dc0 dO_42 (rdB.ch sfx_cX12_rowRead_128 1 rfl (by decide +kernel))
theorem dX12_rowRead_130 : decode cX12_rowRead 130 = .ok (.getfield 278, 3) := dcU2 dO_180 (rdU2.ch sfx_cX12_rowRead_128 2 rfl (by decide +kernel))
theorem dX12_rowRead_133 : decode cX12_rowRead 133 = .ok (.iaload, 1) := dc0 dO_46 (rdB.ch sfx_cX12_rowRead_128 5 rfl (by decide +kernel))
theorem dX12_rowRead_134 : decode cX12_rowRead 134 = .ok (.iastore, 1) := dc0 dO_79 (rdB.ch sfx_cX12_rowRead_128 6 rfl (by decide +kernel))
theorem dX12_rowRead_135 : decode cX12_rowRead 135 = .ok (.aload_n 0, 1) := dc0 dO_42 (rdB.ch sfx_cX12_rowRead_128 7 rfl (by decide +kernel))
theorem dX12_rowRead_136 : decode cX12_rowRead 136 = .ok (.getfield 364, 3) := dcU2 dO_180 (rdU2.ch sfx_cX12_rowRead_128 8 rfl (by decide +kernel))
theorem dX12_rowRead_139 : decode cX12_rowRead 139 = .ok (.iload_n 2, 1) := dc0 dO_28 (rdB.ch sfx_cX12_rowRead_128 11 rfl (by decide +kernel))
theorem dX12_rowRead_140 : decode cX12_rowRead 140 = .ok (.aload_n 0, 1) := dc0 dO_42 (rdB.ch sfx_cX12_rowRead_128 12 rfl (by decide +kernel))
theorem dX12_rowRead_141 : decode cX12_rowRead 141 = .ok (.getfield 346, 3) := dcU2 dO_180 (rdU2.ch sfx_cX12_rowRead_128 13 rfl (by decide +kernel))
theorem dX12_rowRead_144 : decode cX12_rowRead 144 = .ok (.aload_n 0, 1) := dc0 dO_42 (rdB.ch sfx_cX12_rowRead_128 16 rfl (by decide +kernel))
theorem dX12_rowRead_145 : decode cX12_rowRead 145 = .ok (.getfield 278, 3) := dcU2 dO_180 (rdU2.ch sfx_cX12_rowRead_128 17 rfl (by decide +kernel))
theorem dX12_rowRead_148 : decode cX12_rowRead 148 = .ok (.iaload, 1) := dc0 dO_46 (rdB.ch sfx_cX12_rowRead_128 20 rfl (by decide +kernel))
theorem dX12_rowRead_149 : decode cX12_rowRead 149 = .ok (.iastore, 1) := dc0 dO_79 (rdB.ch sfx_cX12_rowRead_128 21 rfl (by decide +kernel))
theorem dX12_rowRead_150 : decode cX12_rowRead 150 = .ok (.aload_n 0, 1) := dc0 dO_42 (rdB.ch sfx_cX12_rowRead_128 22 rfl (by decide +kernel))
theorem dX12_rowRead_151 : decode cX12_rowRead 151 = .ok (.iconst 0, 1) := dc0 dO_3 (rdB.ch sfx_cX12_rowRead_128 23 rfl (by decide +kernel))
theorem dX12_rowRead_152 : decode cX12_rowRead 152 = .ok (.invokevirtual 288, 3) := dcU2 dO_182 (rdU2.ch sfx_cX12_rowRead_128 24 rfl (by decide +kernel))
theorem dX12_rowRead_155 : decode cX12_rowRead 155 = .ok (.ifCond .eq 47, 3) := dcS2 dO_153 (rdS2.ch sfx_cX12_rowRead_128 27 rfl (by decide +kernel))
theorem dX12_rowRead_158 : decode cX12_rowRead 158 = .ok (.aload_n 0, 1) := dc0 dO_42 (rdB.ch sfx_cX12_rowRead_128 30 rfl (by decide +kernel))
theorem dX12_rowRead_159 : decode cX12_rowRead 159 = .ok (.invokevirtual 247, 3) := dcU2 dO_182 (rdU2.ch sfx_cX12_rowRead_128 31 rfl (by decide +kernel))
theorem dX12_rowRead_162 : decode cX12_rowRead 162 = .ok (.aload_n 0, 1) := dc0 dO_42 (rdB.ch sfx_cX12_rowRead_128 34 rfl (by decide +kernel))
theorem dX12_rowRead_163 : decode cX12_rowRead 163 = .ok (.invokevirtual 367, 3) := dcU2 dO_182 (rdU2.ch sfx_cX12_rowRead_128 35 rfl (by decide +kernel))
theorem dX12_rowRead_166 : decode cX12_rowRead 166 = .ok (.aload_n 0, 1) := dc0 dO_42 (rdB.ch sfx_cX12_rowRead_128 38 rfl (by decide +kernel))
theorem dX12_rowRead_167 : decode cX12_rowRead 167 = .ok (.iconst 1, 1) := dc0 dO_4 (rdB.ch sfx_cX12_rowRead_128 39 rfl (by decide +kernel))
theorem dX12_rowRead_168 : decode cX12_rowRead 168 = .ok (.invokevirtual 288, 3) := dcU2 dO_182 (rdU2.ch sfx_cX12_rowRead_128 40 rfl (by decide +kernel))
theorem dX12_rowRead_171 : decode cX12_rowRead 171 = .ok (.ifCond .eq 14, 3) := dcS2 dO_153 (rdS2.ch sfx_cX12_rowRead_128 43 rfl (by decide +kernel))
theorem dX12_rowRead_174 : decode cX12_rowRead 174 = .ok (.aload_n 0, 1) := dc0 dO_42 (rdB.ch sfx_cX12_rowRead_128 46 rfl (by decide +kernel))
theorem dX12_rowRead_175 : decode cX12_rowRead 175 = .ok (.invokevirtual 247, 3) := dcU2 dO_182 (rdU2.ch sfx_cX12_rowRead_128 47 rfl (by decide +kernel))
theorem dX12_rowRead_178 : decode cX12_rowRead 178 = .ok (.aload_n 0, 1) := dc0 dO_42 (rdB.ch sfx_cX12_rowRead_128 50 rfl (by decide +kernel))
theorem dX12_rowRead_179 : decode cX12_rowRead 179 = .ok (.invokevirtual 367, 3) := dcU2 dO_182 (rdU2.ch sfx_cX12_rowRead_128 51 rfl (by decide +kernel))
theorem dX12_rowRead_182 : decode cX12_rowRead 182 = .ok (.goto (-16), 3) := dcS2 dO_167 (rdS2.ch sfx_cX12_rowRead_128 54 rfl (by decide +kernel))
theorem dX12_rowRead_185 : decode cX12_rowRead 185 = .ok (.aload_n 0, 1) := dc0 dO_42 (rdB.ch sfx_cX12_rowRead_128 57 rfl (by decide +kernel))
theorem dX12_rowRead_186 : decode cX12_rowRead 186 = .ok (.iconst 2, 1) := dc0 dO_5 (rdB.ch sfx_cX12_rowRead_128 58 rfl (by decide +kernel))
theorem dX12_rowRead_187 : decode cX12_rowRead 187 = .ok (.invokevirtual 288, 3) := dcU2 dO_182 (rdU2.ch sfx_cX12_rowRead_128 59 rfl (by decide +kernel))
theorem dX12_rowRead_190 : decode cX12_rowRead 190 = .ok (.ifCond .ne 8, 3) := dcS2 dO_154 (rdS2.ch sfx_cX12_rowRead_128 62 rfl (by decide +kernel))
theorem sfx_cX12_rowRead_192 : (cX12_rowRead.data.toList.drop 192).take 67 = [8, 42, 5, 182, 0, 240, 42, 182, 0, 247, 42, 182, 1, 114, 42, 16, 44, 182, 0, 244, 153, 0, 14, 42, 182, 0, 247, 42, 182, 1, 114, 167, 255, 239, 42, 16, 59, 182, 1, 61, 42, 180, 1, 105, 28, 4, 96, 42, 180, 1, 64, 42, 180, 1, 22, 46, 79, 42, 180, 1, 108, 28, 4, 96, 42, 180, 1] := by decide +kernel
theorem dX12_rowRead_193 : decode cX12_rowRead 193 = .ok (.aload_n 0, 1) := dc0 dO_42 (rdB.ch sfx_cX12_rowRead_192 1 rfl (by decide +kernel))
theorem dX12_rowRead_194 : decode cX12_rowRead 194 = .ok (.iconst 2, 1) := dc0 dO_5 (rdB.ch sfx_cX12_rowRead_192 2 rfl (by decide +kernel))
theorem dX12_rowRead_195 : decode cX12_rowRead 195 = .ok (.invokevirtual 240, 3) := dcU2 dO_182 (rdU2.ch sfx_cX12_rowRead_192 3 rfl (by decide +kernel))
theorem dX12_rowRead_198 : decode cX12_rowRead 198 = .ok (.aload_n 0, 1) := dc0 dO_42 (rdB.ch sfx_cX12_rowRead_192 6 rfl (by decide +kernel))
theorem dX12_rowRead_199 : decode cX12_rowRead 199 = .ok (.invokevirtual 247, 3) := dcU2 dO_182 (rdU2.ch sfx_cX12_rowRead_192 7 rfl (by decide +kernel))
theorem dX12_rowRead_202 : decode cX12_rowRead 202 = .ok (.aload_n 0, 1) := dc0 dO_42 (rdB.ch sfx_cX12_rowRead_192 10 rfl (by decide +kernel))
theorem dX12_rowRead_203 : decode cX12_rowRead 203 = .ok (.invokevirtual 370, 3) := dcU2 dO_182 (rdU2.ch sfx_cX12_rowRead_192 11 rfl (by decide +kernel))
theorem dX12_rowRead_206 : decode cX12_rowRead 206 = .ok (.aload_n 0, 1) := dc0 dO_42 (rdB.ch sfx_cX12_rowRead_192 14 rfl (by decide +kernel))
theorem dX12_rowRead_207 : decode cX12_rowRead 207 = .ok (.bipush 44, 2) := dcS1 dO_16 (rdS1.ch sfx_cX12_rowRead_192 15 rfl (by decide +kernel))
theorem dX12_rowRead_209 : decode cX12_rowRead 209 = .ok (.invokevirtual 244, 3) := dcU2 dO_182 (rdU2.ch sfx_cX12_rowRead_192 17 rfl (by decide +kernel))
theorem dX12_rowRead_212 : decode cX12_rowRead 212 = .ok (.ifCond .eq 14, 3) := dcS2 dO_153 (rdS2.ch sfx_cX12_rowRead_192 20 rfl (by decide +kernel))
theorem dX12_rowRead_215 : decode cX12_rowRead 215 = .ok (.aload_n 0, 1) := dc0 dO_42 (rdB.ch sfx_cX12_rowRead_192 23 rfl (by decide +kernel))
theorem dX12_rowRead_216 : decode cX12_rowRead 216 = .ok (.invokevirtual 247, 3) := dcU2 dO_182 (rdU2.ch sfx_cX12_rowRead_192 24 rfl (by decide +kernel))
theorem dX12_rowRead_219 : decode cX12_rowRead 219 = .ok (.aload_n 0, 1) := dc0 dO_42 (rdB.ch sfx_cX12_rowRead_192 27 rfl (by decide +kernel))
theorem dX12_rowRead_220 : decode cX12_rowRead 220 = .ok (.invokevirtual 370, 3) := dcU2 dO_182 (rdU2.ch sfx_cX12_rowRead_192 28 rfl (by decide +kernel))
theorem dX12_rowRead_223 : decode cX12_rowRead 223 = .ok (.goto (-17), 3) := dcS2 dO_167 (rdS2.ch sfx_cX12_rowRead_192 31 rfl (by decide +kernel))
theorem dX12_rowRead_226 : decode cX12_rowRead 226 = .ok (.aload_n 0, 1) := dc0 dO_42 (rdB.ch sfx_cX12_rowRead_192 34 rfl (by decide +kernel))
theorem dX12_rowRead_227 : decode cX12_rowRead 227 = .ok (.bipush 59, 2) := dcS1 dO_16 (rdS1.ch sfx_cX12_rowRead_192 35 rfl (by decide +kernel))
theorem dX12_rowRead_229 : decode cX12_rowRead 229 = .ok (.invokevirtual 317, 3) := dcU2 dO_182 (rdU2.ch sfx_cX12_rowRead_192 37 rfl (by decide +kernel))
theorem dX12_rowRead_232 : decode cX12_rowRead 232 = .ok (.aload_n 0, 1) := dc0 dO_42 (rdB.ch sfx_cX12_rowRead_192 40 rfl (by decide +kernel))
theorem dX12_rowRead_233 : decode cX12_rowRead 233 = .ok (.getfield 361, 3) := dcU2 dO_180 (rdU2.ch sfx_cX12_rowRead_192 41 rfl (by decide +kernel))
theorem dX12_rowRead_236 : decode cX12_rowRead 236 = .ok (.iload_n 2, 1) := dc0 dO_28 (rdB.ch sfx_cX12_rowRead_192 44 rfl (by decide +kernel))
theorem dX12_rowRead_237 : decode cX12_rowRead 237 = .ok (.iconst 1, 1) := dc0 dO_4 (rdB.ch sfx_cX12_rowRead_192 45 rfl (by decide +kernel))
theorem dX12_rowRead_238 : decode cX12_rowRead 238 = .ok (.iadd, 1) := dc0 dO_96 (rdB.ch sfx_cX12_rowRead_192 46 rfl (by decide +kernel))
theorem dX12_rowRead_239 : decode cX12_rowRead 239 = .ok (.aload_n 0, 1) := dc0 dO_42 (rdB.ch sfx_cX12_rowRead_192 47 rfl (by decide +kernel))
theorem dX12_rowRead_240 : decode cX12_rowRead 240 = .ok (.getfield 320, 3) := dcU2 dO_180 (rdU2.ch sfx_cX12_rowRead_192 48 rfl (by decide +kernel))
theorem dX12_rowRead_243 : decode cX12_rowRead 243 = .ok (.aload_n 0, 1) := dc0 dO_42 (rdB.ch sfx_cX12_rowRead_192 51 rfl (by decide +kernel))
theorem dX12_rowRead_244 : decode cX12_rowRead 244 = .ok (.getfield 278, 3) := dcU2 dO_180 (rdU2.ch sfx_cX12_rowRead_192 52 rfl (by decide +kernel))
theorem dX12_rowRead_247 : decode cX12_rowRead 247 = .ok (.iaload, 1) := dc0 dO_46 (rdB.ch sfx_cX12_rowRead_192 55 rfl (by decide +kernel))
theorem dX12_rowRead_248 : decode cX12_rowRead 248 = .ok (.iastore, 1) := dc0 dO_79 (rdB.ch sfx_cX12_rowRead_192 56 rfl (by decide +kernel))
theorem dX12_rowRead_249 : decode cX12_rowRead 249 = .ok (.aload_n 0, 1) := dc0 dO_42 (rdB.ch sfx_cX12_rowRead_192 57 rfl (by decide +kernel))
theorem dX12_rowRead_250 : decode cX12_rowRead 250 = .ok (.getfield 364, 3) := dcU2 dO_180 (rdU2.ch sfx_cX12_rowRead_192 58 rfl (by decide +kernel))
theorem dX12_rowRead_253 : decode cX12_rowRead 253 = .ok (.iload_n 2, 1) := dc0 dO_28 (rdB.ch sfx_cX12_rowRead_192 61 rfl (by decide +kernel))
theorem dX12_rowRead_254 : decode cX12_rowRead 254 = .ok (.iconst 1, 1) := dc0 dO_4 (rdB.ch sfx_cX12_rowRead_192 62 rfl (by decide +kernel))
theorem dX12_rowRead_255 : decode cX12_rowRead 255 = .ok (.iadd, 1) := dc0 dO_96 (rdB.ch sfx_cX12_rowRead_192 63 rfl (by decide +kernel))
theorem sfx_cX12_rowRead_256 : (cX12_rowRead.data.toList.drop 256).take 67 = [42, 180, 1, 90, 42, 180, 1, 22, 46, 79, 177] := by decide +kernel
theorem dX12_rowRead_256 : decode cX12_rowRead 256 = .ok (.aload_n 0, 1) := dc0 dO_42 (rdB.ch sfx_cX12_rowRead_256 0 rfl (by decide +kernel))
theorem dX12_rowRead_257 : decode cX12_rowRead 257 = .ok (.getfield 346, 3) := dcU2 dO_180 (rdU2.ch sfx_cX12_rowRead_256 1 rfl (by decide +kernel))
theorem dX12_rowRead_260 : decode cX12_rowRead 260 = .ok (.aload_n 0, 1) := dc0 dO_42 (rdB.ch sfx_cX12_rowRead_256 4 rfl (by decide +kernel))
theorem dX12_rowRead_261 : decode cX12_rowRead 261 = .ok (.getfield 278, 3) := dcU2 dO_180 (rdU2.ch sfx_cX12_rowRead_256 5 rfl (by decide +kernel))
theorem dX12_rowRead_264 : decode cX12_rowRead 264 = .ok (.iaload, 1) := dc0 dO_46 (rdB.ch sfx_cX12_rowRead_256 8 rfl (by decide +kernel))
theorem dX12_rowRead_265 : decode cX12_rowRead 265 = .ok (.iastore, 1) := dc0 dO_79 (rdB.ch sfx_cX12_rowRead_256 9 rfl (by decide +kernel))
theorem dX12_rowRead_266 : decode cX12_rowRead 266 = .ok (.return_, 1) := dc0 dO_177 (rdB.ch sfx_cX12_rowRead_256 10 rfl (by decide +kernel))
theorem dX12_sign_0 : decode cX12_sign 0 = .ok (.aload_n 0, 1) := dc0 dO_42 (by decide +kernel)
theorem dX12_sign_1 : decode cX12_sign 1 = .ok (.iload_n 1, 1) := dc0 dO_27 (by decide +kernel)
theorem dX12_sign_2 : decode cX12_sign 2 = .ok (.invokevirtual 244, 3) := dcU2 dO_182 (by decide +kernel)
theorem dX12_sign_5 : decode cX12_sign 5 = .ok (.ifCond .ne 8, 3) := dcS2 dO_154 (by decide +kernel)
theorem dX12_sign_8 : decode cX12_sign 8 = .ok (.aload_n 0, 1) := dc0 dO_42 (by decide +kernel)
theorem dX12_sign_9 : decode cX12_sign 9 = .ok (.iconst 2, 1) := dc0 dO_5 (by decide +kernel)
theorem dX12_sign_10 : decode cX12_sign 10 = .ok (.invokevirtual 240, 3) := dcU2 dO_182 (by decide +kernel)
theorem dX12_sign_13 : decode cX12_sign 13 = .ok (.aload_n 0, 1) := dc0 dO_42 (by decide +kernel)
theorem dX12_sign_14 : decode cX12_sign 14 = .ok (.invokevirtual 247, 3) := dcU2 dO_182 (by decide +kernel)
theorem dX12_sign_17 : decode cX12_sign 17 = .ok (.return_, 1) := dc0 dO_177 (by decide +kernel)
theorem dX12_test_0 : decode cX12_test 0 = .ok (.iconst 0, 1) := dc0 dO_3 (by decide +kernel)
theorem dX12_test_1 : decode cX12_test 1 = .ok (.istore_n 1, 1) := dc0 dO_60 (by decide +kernel)
theorem dX12_test_2 : decode cX12_test 2 = .ok (.aload_n 0, 1) := dc0 dO_42 (by decide +kernel)
theorem dX12_test_3 : decode cX12_test 3 = .ok (.iconst 3, 1) := dc0 dO_6 (by decide +kernel)
theorem dX12_test_4 : decode cX12_test 4 = .ok (.invokevirtual 288, 3) := dcU2 dO_182 (by decide +kernel)
theorem dX12_test_7 : decode cX12_test 7 = .ok (.ifCond .eq 20, 3) := dcS2 dO_153 (by decide +kernel)
theorem dX12_test_10 : decode cX12_test 10 = .ok (.iload_n 1, 1) := dc0 dO_27 (by decide +kernel)
theorem dX12_test_11 : decode cX12_test 11 = .ok (.ifCond .ne 7, 3) := dcS2 dO_154 (by decide +kernel)
theorem dX12_test_14 : decode cX12_test 14 = .ok (.iconst 1, 1) := dc0 dO_4 (by decide +kernel)
theorem dX12_test_15 : decode cX12_test 15 = .ok (.goto 4, 3) := dcS2 dO_167 (by decide +kernel)
theorem dX12_test_18 : decode cX12_test 18 = .ok (.iconst 0, 1) := dc0 dO_3 (by decide +kernel)
theorem dX12_test_19 : decode cX12_test 19 = .ok (.istore_n 1, 1) := dc0 dO_60 (by decide +kernel)
theorem dX12_test_20 : decode cX12_test 20 = .ok (.aload_n 0, 1) := dc0 dO_42 (by decide +kernel)
theorem dX12_test_21 : decode cX12_test 21 = .ok (.invokevirtual 247, 3) := dcU2 dO_182 (by decide +kernel)
theorem dX12_test_24 : decode cX12_test 24 = .ok (.goto (-22), 3) := dcS2 dO_167 (by decide +kernel)
theorem dX12_test_27 : decode cX12_test 27 = .ok (.aload_n 0, 1) := dc0 dO_42 (by decide +kernel)
theorem dX12_test_28 : decode cX12_test 28 = .ok (.getfield 230, 3) := dcU2 dO_180 (by decide +kernel)
theorem dX12_test_31 : decode cX12_test 31 = .ok (.iconst 1, 1) := dc0 dO_4 (by decide +kernel)
theorem dX12_test_32 : decode cX12_test 32 = .ok (.if_icmp .ne 34, 3) := dcS2 dO_160 (by decide +kernel)
theorem dX12_test_35 : decode cX12_test 35 = .ok (.aload_n 0, 1) := dc0 dO_42 (by decide +kernel)
theorem dX12_test_36 : decode cX12_test 36 = .ok (.getfield 233, 3) := dcU2 dO_180 (by decide +kernel)
theorem dX12_test_39 : decode cX12_test 39 = .ok (.iconst 4, 1) := dc0 dO_7 (by decide +kernel)
theorem dX12_test_40 : decode cX12_test 40 = .ok (.if_icmp .eq 31, 3) := dcS2 dO_159 (by decide +kernel)
theorem dX12_test_43 : decode cX12_test 43 = .ok (.aload_n 0, 1) := dc0 dO_42 (by decide +kernel)
theorem dX12_test_44 : decode cX12_test 44 = .ok (.getfield 233, 3) := dcU2 dO_180 (by decide +kernel)
theorem dX12_test_47 : decode cX12_test 47 = .ok (.bipush 6, 2) := dcS1 dO_16 (by decide +kernel)
theorem dX12_test_49 : decode cX12_test 49 = .ok (.if_icmp .eq 22, 3) := dcS2 dO_159 (by decide +kernel)
theorem dX12_test_52 : decode cX12_test 52 = .ok (.aload_n 0, 1) := dc0 dO_42 (by decide +kernel)
theorem dX12_test_53 : decode cX12_test 53 = .ok (.getfield 233, 3) := dcU2 dO_180 (by decide +kernel)
theorem dX12_test_56 : decode cX12_test 56 = .ok (.bipush 8, 2) := dcS1 dO_16 (by decide +kernel)
theorem dX12_test_58 : decode cX12_test 58 = .ok (.bipush 15, 2) := dcS1 dO_16 (by decide +kernel)
theorem dX12_test_60 : decode cX12_test 60 = .ok (.invokestatic 18, 3) := dcU2 dO_184 (by decide +kernel)
theorem dX12_test_63 : decode cX12_test 63 = .ok (.ifCond .ne 8, 3) := dcS2 dO_154 (by decide +kernel)
theorem dX12_test_66 : decode cX12_test 66 = .ok (.aload_n 0, 1) := dc0 dO_42 (by decide +kernel)
theorem dX12_test_67 : decode cX12_test 67 = .ok (.iconst 2, 1) := dc0 dO_5 (by decide +kernel)
theorem dX12_test_68 : decode cX12_test 68 = .ok (.invokevirtual 240, 3) := dcU2 dO_182 (by decide +kernel)
theorem dX12_test_71 : decode cX12_test 71 = .ok (.aload_n 0, 1) := dc0 dO_42 (by decide +kernel)
theorem dX12_test_72 : decode cX12_test 72 = .ok (.getfield 215, 3) := dcU2 dO_180 (by decide +kernel)
theorem dX12_test_75 : decode cX12_test 75 = .ok (.ifCond .eq 4, 3) := dcS2 dO_153 (by decide +kernel)
theorem dX12_test_78 : decode cX12_test 78 = .ok (.return_, 1) := dc0 dO_177 (by decide +kernel)
theorem dX12_test_79 : decode cX12_test 79 = .ok (.sipush 300, 3) := dcS2 dO_17 (by decide +kernel)
theorem dX12_test_82 : decode cX12_test 82 = .ok (.aload_n 0, 1) := dc0 dO_42 (by decide +kernel)
theorem dX12_test_83 : decode cX12_test 83 = .ok (.getfield 278, 3) := dcU2 dO_180 (by decide +kernel)
theorem dX12_test_86 : decode cX12_test 86 = .ok (.imul, 1) := dc0 dO_104 (by decide +kernel)
theorem dX12_test_87 : decode cX12_test 87 = .ok (.aload_n 0, 1) := dc0 dO_42 (by decide +kernel)
theorem dX12_test_88 : decode cX12_test 88 = .ok (.getfield 320, 3) := dcU2 dO_180 (by decide +kernel)
theorem dX12_test_91 : decode cX12_test 91 = .ok (.aload_n 0, 1) := dc0 dO_42 (by decide +kernel)
theorem dX12_test_92 : decode cX12_test 92 = .ok (.getfield 278, 3) := dcU2 dO_180 (by decide +kernel)
theorem dX12_test_95 : decode cX12_test 95 = .ok (.iaload, 1) := dc0 dO_46 (by decide +kernel)
theorem dX12_test_96 : decode cX12_test 96 = .ok (.iadd, 1) := dc0 dO_96 (by decide +kernel)
theorem dX12_test_97 : decode cX12_test 97 = .ok (.istore_n 2, 1) := dc0 dO_61 (by decide +kernel)
theorem dX12_test_98 : decode cX12_test 98 = .ok (.aload_n 0, 1) := dc0 dO_42 (by decide +kernel)
theorem dX12_test_99 : decode cX12_test 99 = .ok (.getfield 320, 3) := dcU2 dO_180 (by decide +kernel)
theorem dX12_test_102 : decode cX12_test 102 = .ok (.aload_n 0, 1) := dc0 dO_42 (by decide +kernel)
theorem dX12_test_103 : decode cX12_test 103 = .ok (.getfield 278, 3) := dcU2 dO_180 (by decide +kernel)
theorem dX12_test_106 : decode cX12_test 106 = .ok (.dup2, 1) := dc0 dO_92 (by decide +kernel)
theorem dX12_test_107 : decode cX12_test 107 = .ok (.iaload, 1) := dc0 dO_46 (by decide +kernel)
theorem dX12_test_108 : decode cX12_test 108 = .ok (.iconst 1, 1) := dc0 dO_4 (by decide +kernel)
theorem dX12_test_109 : decode cX12_test 109 = .ok (.iadd, 1) := dc0 dO_96 (by decide +kernel)
theorem dX12_test_110 : decode cX12_test 110 = .ok (.iastore, 1) := dc0 dO_79 (by decide +kernel)
theorem dX12_test_111 : decode cX12_test 111 = .ok (.aload_n 0, 1) := dc0 dO_42 (by decide +kernel)
theorem dX12_test_112 : decode cX12_test 112 = .ok (.getfield 233, 3) := dcU2 dO_180 (by decide +kernel)
theorem dX12_test_115 : decode cX12_test 115 = .ok (.istore_n 3, 1) := dc0 dO_62 (by decide +kernel)
theorem dX12_test_116 : decode cX12_test 116 = .ok (.aload_n 0, 1) := dc0 dO_42 (by decide +kernel)
theorem dX12_test_117 : decode cX12_test 117 = .ok (.getfield 323, 3) := dcU2 dO_180 (by decide +kernel)
theorem dX12_test_120 : decode cX12_test 120 = .ok (.iload_n 2, 1) := dc0 dO_28 (by decide +kernel)
theorem dX12_test_121 : decode cX12_test 121 = .ok (.iload_n 3, 1) := dc0 dO_29 (by decide +kernel)
theorem dX12_test_122 : decode cX12_test 122 = .ok (.iastore, 1) := dc0 dO_79 (by decide +kernel)
theorem dX12_test_123 : decode cX12_test 123 = .ok (.aload_n 0, 1) := dc0 dO_42 (by decide +kernel)
theorem dX12_test_124 : decode cX12_test 124 = .ok (.getfield 326, 3) := dcU2 dO_180 (by decide +kernel)
theorem dX12_test_127 : decode cX12_test 127 = .ok (.iload_n 2, 1) := dc0 dO_28 (by decide +kernel)
theorem sfx_cX12_test_128 : (cX12_test.data.toList.drop 128).take 67 = [27, 84, 42, 182, 0, 247, 29, 7, 160, 0, 125, 42, 180, 1, 73, 28, 42, 182, 1, 76, 79, 42, 16, 47, 182, 1, 61, 42, 180, 0, 215, 154, 0, 48, 42, 180, 0, 230, 5, 160, 0, 40, 42, 180, 0, 233, 3, 16, 32, 184, 0, 18, 153, 0, 27, 42, 180, 1, 73, 28, 46, 42, 180, 0, 233, 184, 0] := by decide +kernel
theorem dX12_test_128 : decode cX12_test 128 = .ok (.iload_n 1, 1) := dc0 dO_27 (rdB.ch sfx_cX12_test_128 0 rfl (by decide +kernel))
theorem dX12_test_129 : decode cX12_test 129 = .ok (.bastore, 1) := dc0 dO_84 (rdB.ch sfx_cX12_test_128 1 rfl (by decide +kernel))
theorem dX12_test_130 : decode cX12_test 130 = .ok (.aload_n 0, 1) := dc0 dO_42 (rdB.ch sfx_cX12_test_128 2 rfl (by decide +kernel))
theorem dX12_test_131 : decode cX12_test 131 = .ok (.invokevirtual 247, 3) := dcU2 dO_182 (rdU2.ch sfx_cX12_test_128 3 rfl (by decide +kernel))
theorem dX12_test_134 : decode cX12_test 134 = .ok (.iload_n 3, 1) := dc0 dO_29 (rdB.ch sfx_cX12_test_128 6 rfl (by decide +kernel))
theorem dX12_test_135 : decode cX12_test 135 = .ok (.iconst 4, 1) := dc0 dO_7 (rdB.ch sfx_cX12_test_128 7 rfl (by decide +kernel))
theorem dX12_test_136 : decode cX12_test 136 = .ok (.if_icmp .ne 125, 3) := dcS2 dO_160 (rdS2.ch sfx_cX12_test_128 8 rfl (by decide +kernel))
theorem dX12_test_139 : decode cX12_test 139 = .ok (.aload_n 0, 1) := dc0 dO_42 (rdB.ch sfx_cX12_test_128 11 rfl (by decide +kernel))
theorem dX12_test_140 : decode cX12_test 140 = .ok (.getfield 329, 3) := dcU2 dO_180 (rdU2.ch sfx_cX12_test_128 12 rfl (by decide +kernel))
theorem dX12_test_143 : decode cX12_test 143 = .ok (.iload_n 2, 1) := dc0 dO_28 (rdB.ch sfx_cX12_test_128 15 rfl (by decide +kernel))
theorem dX12_test_144 : decode cX12_test 144 = .ok (.aload_n 0, 1) := dc0 dO_42 (rdB.ch sfx_cX12_test_128 16 rfl (by decide +kernel))
theorem dX12_test_145 : decode cX12_test 145 = .ok (.invokevirtual 332, 3) := dcU2 dO_182 (rdU2.ch sfx_cX12_test_128 17 rfl (by decide +kernel))
theorem dX12_test_148 : decode cX12_test 148 = .ok (.iastore, 1) := dc0 dO_79 (rdB.ch sfx_cX12_test_128 20 rfl (by decide +kernel))
theorem dX12_test_149 : decode cX12_test 149 = .ok (.aload_n 0, 1) := dc0 dO_42 (rdB.ch sfx_cX12_test_128 21 rfl (by decide +kernel))
theorem dX12_test_150 : decode cX12_test 150 = .ok (.bipush 47, 2) := dcS1 dO_16 (rdS1.ch sfx_cX12_test_128 22 rfl (by decide +kernel))
theorem dX12_test_152 : decode cX12_test 152 = .ok (.invokevirtual 317, 3) := dcU2 dO_182 (rdU2.ch sfx_cX12_test_128 24 rfl (by decide +kernel))
theorem dX12_test_155 : decode cX12_test 155 = .ok (.aload_n 0, 1) := dc0 dO_42 (rdB.ch sfx_cX12_test_128 27 rfl (by decide +kernel))
theorem dX12_test_156 : decode cX12_test 156 = .ok (.getfield 215, 3) := dcU2 dO_180 (rdU2.ch sfx_cX12_test_128 28 rfl (by decide +kernel))
theorem dX12_test_159 : decode cX12_test 159 = .ok (.ifCond .ne 48, 3) := dcS2 dO_154 (rdS2.ch sfx_cX12_test_128 31 rfl (by decide +kernel))
theorem dX12_test_162 : decode cX12_test 162 = .ok (.aload_n 0, 1) := dc0 dO_42 (rdB.ch sfx_cX12_test_128 34 rfl (by decide +kernel))
theorem dX12_test_163 : decode cX12_test 163 = .ok (.getfield 230, 3) := dcU2 dO_180 (rdU2.ch sfx_cX12_test_128 35 rfl (by decide +kernel))
theorem dX12_test_166 : decode cX12_test 166 = .ok (.iconst 2, 1) := dc0 dO_5 (rdB.ch sfx_cX12_test_128 38 rfl (by decide +kernel))
theorem dX12_test_167 : decode cX12_test 167 = .ok (.if_icmp .ne 40, 3) := dcS2 dO_160 (rdS2.ch sfx_cX12_test_128 39 rfl (by decide +kernel))
theorem dX12_test_170 : decode cX12_test 170 = .ok (.aload_n 0, 1) := dc0 dO_42 (rdB.ch sfx_cX12_test_128 42 rfl (by decide +kernel))
theorem dX12_test_171 : decode cX12_test 171 = .ok (.getfield 233, 3) := dcU2 dO_180 (rdU2.ch sfx_cX12_test_128 43 rfl (by decide +kernel))
theorem dX12_test_174 : decode cX12_test 174 = .ok (.iconst 0, 1) := dc0 dO_3 (rdB.ch sfx_cX12_test_128 46 rfl (by decide +kernel))
theorem dX12_test_175 : decode cX12_test 175 = .ok (.bipush 32, 2) := dcS1 dO_16 (rdS1.ch sfx_cX12_test_128 47 rfl (by decide +kernel))
theorem dX12_test_177 : decode cX12_test 177 = .ok (.invokestatic 18, 3) := dcU2 dO_184 (rdU2.ch sfx_cX12_test_128 49 rfl (by decide +kernel))
theorem dX12_test_180 : decode cX12_test 180 = .ok (.ifCond .eq 27, 3) := dcS2 dO_153 (rdS2.ch sfx_cX12_test_128 52 rfl (by decide +kernel))
theorem dX12_test_183 : decode cX12_test 183 = .ok (.aload_n 0, 1) := dc0 dO_42 (rdB.ch sfx_cX12_test_128 55 rfl (by decide +kernel))
theorem dX12_test_184 : decode cX12_test 184 = .ok (.getfield 329, 3) := dcU2 dO_180 (rdU2.ch sfx_cX12_test_128 56 rfl (by decide +kernel))
theorem dX12_test_187 : decode cX12_test 187 = .ok (.iload_n 2, 1) := dc0 dO_28 (rdB.ch sfx_cX12_test_128 59 rfl (by decide +kernel))
theorem dX12_test_188 : decode cX12_test 188 = .ok (.iaload, 1) := dc0 dO_46 (rdB.ch sfx_cX12_test_128 60 rfl (by decide +kernel))
theorem dX12_test_189 : decode cX12_test 189 = .ok (.aload_n 0, 1) := dc0 dO_42 (rdB.ch sfx_cX12_test_128 61 rfl (by decide +kernel))
theorem dX12_test_190 : decode cX12_test 190 = .ok (.getfield 233, 3) := dcU2 dO_180 (rdU2.ch sfx_cX12_test_128 62 rfl (by decide +kernel))
theorem sfx_cX12_test_192 : (cX12_test.data.toList.drop 192).take 67 = [233, 184, 0, 11, 2, 130, 126, 153, 0, 8, 42, 6, 182, 0, 240, 42, 180, 1, 80, 28, 42, 3, 16, 32, 182, 1, 58, 79, 42, 180, 1, 83, 28, 16, 32, 79, 42, 8, 182, 1, 32, 153, 1, 24, 42, 182, 0, 247, 42, 180, 1, 83, 28, 42, 42, 180, 1, 80, 28, 46, 16, 32, 182, 1, 58, 79, 167] := by decide +kernel
theorem dX12_test_193 : decode cX12_test 193 = .ok (.invokestatic 11, 3) := dcU2 dO_184 (rdU2.ch sfx_cX12_test_192 1 rfl (by decide +kernel))
theorem dX12_test_196 : decode cX12_test 196 = .ok (.iconst (-1), 1) := dc0 dO_2 (rdB.ch sfx_cX12_test_192 4 rfl (by decide +kernel))
theorem dX12_test_197 : decode cX12_test 197 = .ok (.ixor, 1) := dc0 dO_130 (rdB.ch sfx_cX12_test_192 5 rfl (by decide +kernel))
theorem dX12_test_198 : decode cX12_test 198 = .ok (.iand, 1) := dc0 dO_126 (rdB.ch sfx_cX12_test_192 6 rfl (by decide +kernel))
theorem dX12_test_199 : decode cX12_test 199 = .ok (.ifCond .eq 8, 3) := dcS2 dO_153 (rdS2.ch sfx_cX12_test_192 7 rfl (by decide +kernel))
theorem dX12_test_202 : decode cX12_test 202 = .ok (.aload_n 0, 1) := dc0 dO_42 (rdB.ch sfx_cX12_test_192 10 rfl (by decide +kernel))
theorem dX12_test_203 : decode cX12_test 203 = .ok (.iconst 3, 1) := dc0 dO_6 (rdB.ch sfx_cX12_test_192 11 rfl (by decide +kernel))
theorem dX12_test_204 : decode cX12_test 204 = .ok (.invokevirtual 240, 3) := dcU2 dO_182 (rdU2.ch sfx_cX12_test_192 12 rfl (by decide +kernel))
theorem dX12_test_207 : decode cX12_test 207 = .ok (.aload_n 0, 1) := dc0 dO_42 (rdB.ch sfx_cX12_test_192 15 rfl (by decide +kernel))
theorem dX12_test_208 : decode cX12_test 208 = .ok (.getfield 336, 3) := dcU2 dO_180 (rdU2.ch sfx_cX12_test_192 16 rfl (by decide +kernel))
theorem dX12_test_211 : decode cX12_test 211 = .ok (.iload_n 2, 1) := dc0 dO_28 (rdB.ch sfx_cX12_test_192 19 rfl (by decide +kernel))
theorem dX12_test_212 : decode cX12_test 212 = .ok (.aload_n 0, 1) := dc0 dO_42 (rdB.ch sfx_cX12_test_192 20 rfl (by decide +kernel))
theorem dX12_test_213 : decode cX12_test 213 = .ok (.iconst 0, 1) := dc0 dO_3 (rdB.ch sfx_cX12_test_192 21 rfl (by decide +kernel))
theorem dX12_test_214 : decode cX12_test 214 = .ok (.bipush 32, 2) := dcS1 dO_16 (rdS1.ch sfx_cX12_test_192 22 rfl (by decide +kernel))
theorem dX12_test_216 : decode cX12_test 216 = .ok (.invokevirtual 314, 3) := dcU2 dO_182 (rdU2.ch sfx_cX12_test_192 24 rfl (by decide +kernel))
theorem dX12_test_219 : decode cX12_test 219 = .ok (.iastore, 1) := dc0 dO_79 (rdB.ch sfx_cX12_test_192 27 rfl (by decide +kernel))
theorem dX12_test_220 : decode cX12_test 220 = .ok (.aload_n 0, 1) := dc0 dO_42 (rdB.ch sfx_cX12_test_192 28 rfl (by decide +kernel))
theorem dX12_test_221 : decode cX12_test 221 = .ok (.getfield 339, 3) := dcU2 dO_180 (rdU2.ch sfx_cX12_test_192 29 rfl (by decide +kernel))
theorem dX12_test_224 : decode cX12_test 224 = .ok (.iload_n 2, 1) := dc0 dO_28 (rdB.ch sfx_cX12_test_192 32 rfl (by decide +kernel))
theorem dX12_test_225 : decode cX12_test 225 = .ok (.bipush 32, 2) := dcS1 dO_16 (rdS1.ch sfx_cX12_test_192 33 rfl (by decide +kernel))
theorem dX12_test_227 : decode cX12_test 227 = .ok (.iastore, 1) := dc0 dO_79 (rdB.ch sfx_cX12_test_192 35 rfl (by decide +kernel))
theorem dX12_test_228 : decode cX12_test 228 = .ok (.aload_n 0, 1) := dc0 dO_42 (rdB.ch sfx_cX12_test_192 36 rfl (by decide +kernel))
theorem dX12_test_229 : decode cX12_test 229 = .ok (.iconst 5, 1) := dc0 dO_8 (rdB.ch sfx_cX12_test_192 37 rfl (by decide +kernel))
theorem dX12_test_230 : decode cX12_test 230 = .ok (.invokevirtual 288, 3) := dcU2 dO_182 (rdU2.ch sfx_cX12_test_192 38 rfl (by decide +kernel))
theorem dX12_test_233 : decode cX12_test 233 = .ok (.ifCond .eq 280, 3) := dcS2 dO_153 (rdS2.ch sfx_cX12_test_192 41 rfl (by decide +kernel))
theorem dX12_test_236 : decode cX12_test 236 = .ok (.aload_n 0, 1) := dc0 dO_42 (rdB.ch sfx_cX12_test_192 44 rfl (by decide +kernel))
theorem dX12_test_237 : decode cX12_test 237 = .ok (.invokevirtual 247, 3) := dcU2 dO_182 (rdU2.ch sfx_cX12_test_192 45 rfl (by decide +kernel))
theorem dX12_test_240 : decode cX12_test 240 = .ok (.aload_n 0, 1) := dc0 dO_42 (rdB.ch sfx_cX12_test_192 48 rfl (by decide +kernel))
theorem dX12_test_241 : decode cX12_test 241 = .ok (.getfield 339, 3) := dcU2 dO_180 (rdU2.ch sfx_cX12_test_192 49 rfl (by decide +kernel))
theorem dX12_test_244 : decode cX12_test 244 = .ok (.iload_n 2, 1) := dc0 dO_28 (rdB.ch sfx_cX12_test_192 52 rfl (by decide +kernel))
theorem dX12_test_245 : decode cX12_test 245 = .ok (.aload_n 0, 1) := dc0 dO_42 (rdB.ch sfx_cX12_test_192 53 rfl (by decide +kernel))
theorem dX12_test_246 : decode cX12_test 246 = .ok (.aload_n 0, 1) := dc0 dO_42 (rdB.ch sfx_cX12_test_192 54 rfl (by decide +kernel))
theorem dX12_test_247 : decode cX12_test 247 = .ok (.getfield 336, 3) := dcU2 dO_180 (rdU2.ch sfx_cX12_test_192 55 rfl (by decide +kernel))
theorem dX12_test_250 : decode cX12_test 250 = .ok (.iload_n 2, 1) := dc0 dO_28 (rdB.ch sfx_cX12_test_192 58 rfl (by decide +kernel))
theorem dX12_test_251 : decode cX12_test 251 = .ok (.iaload, 1) := dc0 dO_46 (rdB.ch sfx_cX12_test_192 59 rfl (by decide +kernel))
theorem dX12_test_252 : decode cX12_test 252 = .ok (.bipush 32, 2) := dcS1 dO_16 (rdS1.ch sfx_cX12_test_192 60 rfl (by decide +kernel))
theorem dX12_test_254 : decode cX12_test 254 = .ok (.invokevirtual 314, 3) := dcU2 dO_182 (rdU2.ch sfx_cX12_test_192 62 rfl (by decide +kernel))
theorem sfx_cX12_test_256 : (cX12_test.data.toList.drop 256).take 67 = [58, 79, 167, 0, 255, 29, 16, 6, 160, 0, 11, 42, 28, 182, 1, 86, 167, 0, 241, 29, 16, 8, 160, 0, 20, 42, 180, 1, 73, 28, 42, 3, 19, 1, 89, 182, 1, 58, 79, 167, 0, 218, 29, 16, 9, 160, 0, 19, 42, 180, 1, 73, 28, 42, 3, 16, 9, 182, 1, 58, 79, 167, 0, 196, 29, 16, 10] := by decide +kernel
theorem dX12_test_257 : decode cX12_test 257 = .ok (.iastore, 1) := dc0 dO_79 (rdB.ch sfx_cX12_test_256 1 rfl (by decide +kernel))
theorem dX12_test_258 : decode cX12_test 258 = .ok (.goto 255, 3) := dcS2 dO_167 (rdS2.ch sfx_cX12_test_256 2 rfl (by decide +kernel))
theorem dX12_test_261 : decode cX12_test 261 = .ok (.iload_n 3, 1) := dc0 dO_29 (rdB.ch sfx_cX12_test_256 5 rfl (by decide +kernel))
theorem dX12_test_262 : decode cX12_test 262 = .ok (.bipush 6, 2) := dcS1 dO_16 (rdS1.ch sfx_cX12_test_256 6 rfl (by decide +kernel))
theorem dX12_test_264 : decode cX12_test 264 = .ok (.if_icmp .ne 11, 3) := dcS2 dO_160 (rdS2.ch sfx_cX12_test_256 8 rfl (by decide +kernel))
theorem dX12_test_267 : decode cX12_test 267 = .ok (.aload_n 0, 1) := dc0 dO_42 (rdB.ch sfx_cX12_test_256 11 rfl (by decide +kernel))
theorem dX12_test_268 : decode cX12_test 268 = .ok (.iload_n 2, 1) := dc0 dO_28 (rdB.ch sfx_cX12_test_256 12 rfl (by decide +kernel))
theorem dX12_test_269 : decode cX12_test 269 = .ok (.invokevirtual 342, 3) := dcU2 dO_182 (rdU2.ch sfx_cX12_test_256 13 rfl (by decide +kernel))
theorem dX12_test_272 : decode cX12_test 272 = .ok (.goto 241, 3) := dcS2 dO_167 (rdS2.ch sfx_cX12_test_256 16 rfl (by decide +kernel))
theorem dX12_test_275 : decode cX12_test 275 = .ok (.iload_n 3, 1) := dc0 dO_29 (rdB.ch sfx_cX12_test_256 19 rfl (by decide +kernel))
theorem dX12_test_276 : decode cX12_test 276 = .ok (.bipush 8, 2) := dcS1 dO_16 (rdS1.ch sfx_cX12_test_256 20 rfl (by decide +kernel))
theorem dX12_test_278 : decode cX12_test 278 = .ok (.if_icmp .ne 20, 3) := dcS2 dO_160 (rdS2.ch sfx_cX12_test_256 22 rfl (by decide +kernel))
theorem dX12_test_281 : decode cX12_test 281 = .ok (.aload_n 0, 1) := dc0 dO_42 (rdB.ch sfx_cX12_test_256 25 rfl (by decide +kernel))
theorem dX12_test_282 : decode cX12_test 282 = .ok (.getfield 329, 3) := dcU2 dO_180 (rdU2.ch sfx_cX12_test_256 26 rfl (by decide +kernel))
theorem dX12_test_285 : decode cX12_test 285 = .ok (.iload_n 2, 1) := dc0 dO_28 (rdB.ch sfx_cX12_test_256 29 rfl (by decide +kernel))
theorem dX12_test_286 : decode cX12_test 286 = .ok (.aload_n 0, 1) := dc0 dO_42 (rdB.ch sfx_cX12_test_256 30 rfl (by decide +kernel))
theorem dX12_test_287 : decode cX12_test 287 = .ok (.iconst 0, 1) := dc0 dO_3 (rdB.ch sfx_cX12_test_256 31 rfl (by decide +kernel))
theorem dX12_test_288 : decode cX12_test 288 = .ok (.ldc_w 345, 3) := dcU2 dO_19 (rdU2.ch sfx_cX12_test_256 32 rfl (by decide +kernel))
theorem dX12_test_291 : decode cX12_test 291 = .ok (.invokevirtual 314, 3) := dcU2 dO_182 (rdU2.ch sfx_cX12_test_256 35 rfl (by decide +kernel))
theorem dX12_test_294 : decode cX12_test 294 = .ok (.iastore, 1) := dc0 dO_79 (rdB.ch sfx_cX12_test_256 38 rfl (by decide +kernel))
theorem dX12_test_295 : decode cX12_test 295 = .ok (.goto 218, 3) := dcS2 dO_167 (rdS2.ch sfx_cX12_test_256 39 rfl (by decide +kernel))
theorem dX12_test_298 : decode cX12_test 298 = .ok (.iload_n 3, 1) := dc0 dO_29 (rdB.ch sfx_cX12_test_256 42 rfl (by decide +kernel))
theorem dX12_test_299 : decode cX12_test 299 = .ok (.bipush 9, 2) := dcS1 dO_16 (rdS1.ch sfx_cX12_test_256 43 rfl (by decide +kernel))
theorem dX12_test_301 : decode cX12_test 301 = .ok (.if_icmp .ne 19, 3) := dcS2 dO_160 (rdS2.ch sfx_cX12_test_256 45 rfl (by decide +kernel))
theorem dX12_test_304 : decode cX12_test 304 = .ok (.aload_n 0, 1) := dc0 dO_42 (rdB.ch sfx_cX12_test_256 48 rfl (by decide +kernel))
theorem dX12_test_305 : decode cX12_test 305 = .ok (.getfield 329, 3) := dcU2 dO_180 (rdU2.ch sfx_cX12_test_256 49 rfl (by decide +kernel))
theorem dX12_test_308 : decode cX12_test 308 = .ok (.iload_n 2, 1) := dc0 dO_28 (rdB.ch sfx_cX12_test_256 52 rfl (by decide +kernel))
theorem dX12_test_309 : decode cX12_test 309 = .ok (.aload_n 0, 1) := dc0 dO_42 (rdB.ch sfx_cX12_test_256 53 rfl (by decide +kernel))
theorem dX12_test_310 : decode cX12_test 310 = .ok (.iconst 0, 1) := dc0 dO_3 (rdB.ch sfx_cX12_test_256 54 rfl (by decide +kernel))
theorem dX12_test_311 : decode cX12_test 311 = .ok (.bipush 9, 2) := dcS1 dO_16 (rdS1.ch sfx_cX12_test_256 55 rfl (by decide +kernel))
theorem dX12_test_313 : decode cX12_test 313 = .ok (.invokevirtual 314, 3) := dcU2 dO_182 (rdU2.ch sfx_cX12_test_256 57 rfl (by decide +kernel))
theorem dX12_test_316 : decode cX12_test 316 = .ok (.iastore, 1) := dc0 dO_79 (rdB.ch sfx_cX12_test_256 60 rfl (by decide +kernel))
theorem dX12_test_317 : decode cX12_test 317 = .ok (.goto 196, 3) := dcS2 dO_167 (rdS2.ch sfx_cX12_test_256 61 rfl (by decide +kernel))
theorem sfx_cX12_test_320 : (cX12_test.data.toList.drop 320).take 67 = [29, 16, 10, 160, 0, 47, 42, 180, 0, 230, 4, 160, 0, 17, 42, 180, 0, 233, 16, 16, 16, 19, 184, 0, 18, 154, 0, 8, 42, 5, 182, 0, 240, 42, 180, 1, 73, 28, 42, 180, 0, 233, 79, 42, 182, 0, 247, 167, 0, 146, 29, 16, 15, 160, 0, 47, 42, 180, 0, 230, 4, 160, 0, 17, 42, 180, 0] := by decide +kernel
theorem dX12_test_320 : decode cX12_test 320 = .ok (.iload_n 3, 1) := dc0 dO_29 (rdB.ch sfx_cX12_test_320 0 rfl (by decide +kernel))
theorem dX12_test_321 : decode cX12_test 321 = .ok (.bipush 10, 2) := dcS1 dO_16 (rdS1.ch sfx_cX12_test_320 1 rfl (by decide +kernel))
theorem dX12_test_323 : decode cX12_test 323 = .ok (.if_icmp .ne 47, 3) := dcS2 dO_160 (rdS2.ch sfx_cX12_test_320 3 rfl (by decide +kernel))
theorem dX12_test_326 : decode cX12_test 326 = .ok (.aload_n 0, 1) := dc0 dO_42 (rdB.ch sfx_cX12_test_320 6 rfl (by decide +kernel))
theorem dX12_test_327 : decode cX12_test 327 = .ok (.getfield 230, 3) := dcU2 dO_180 (rdU2.ch sfx_cX12_test_320 7 rfl (by decide +kernel))
theorem dX12_test_330 : decode cX12_test 330 = .ok (.iconst 1, 1) := dc0 dO_4 (rdB.ch sfx_cX12_test_320 10 rfl (by decide +kernel))
theorem dX12_test_331 : decode cX12_test 331 = .ok (.if_icmp .ne 17, 3) := dcS2 dO_160 (rdS2.ch sfx_cX12_test_320 11 rfl (by decide +kernel))
theorem dX12_test_334 : decode cX12_test 334 = .ok (.aload_n 0, 1) := dc0 dO_42 (rdB.ch sfx_cX12_test_320 14 rfl (by decide +kernel))
theorem dX12_test_335 : decode cX12_test 335 = .ok (.getfield 233, 3) := dcU2 dO_180 (rdU2.ch sfx_cX12_test_320 15 rfl (by decide +kernel))
theorem dX12_test_338 : decode cX12_test 338 = .ok (.bipush 16, 2) := dcS1 dO_16 (rdS1.ch sfx_cX12_test_320 18 rfl (by decide +kernel))
theorem dX12_test_340 : decode cX12_test 340 = .ok (.bipush 19, 2) := dcS1 dO_16 (rdS1.ch sfx_cX12_test_320 20 rfl (by decide +kernel))
theorem dX12_test_342 : decode cX12_test 342 = .ok (.invokestatic 18, 3) := dcU2 dO_184 (rdU2.ch sfx_cX12_test_320 22 rfl (by decide +kernel))
theorem dX12_test_345 : decode cX12_test 345 = .ok (.ifCond .ne 8, 3) := dcS2 dO_154 (rdS2.ch sfx_cX12_test_320 25 rfl (by decide +kernel))
theorem dX12_test_348 : decode cX12_test 348 = .ok (.aload_n 0, 1) := dc0 dO_42 (rdB.ch sfx_cX12_test_320 28 rfl (by decide +kernel))
theorem dX12_test_349 : decode cX12_test 349 = .ok (.iconst 2, 1) := dc0 dO_5 (rdB.ch sfx_cX12_test_320 29 rfl (by decide +kernel))
theorem dX12_test_350 : decode cX12_test 350 = .ok (.invokevirtual 240, 3) := dcU2 dO_182 (rdU2.ch sfx_cX12_test_320 30 rfl (by decide +kernel))
theorem dX12_test_353 : decode cX12_test 353 = .ok (.aload_n 0, 1) := dc0 dO_42 (rdB.ch sfx_cX12_test_320 33 rfl (by decide +kernel))
theorem dX12_test_354 : decode cX12_test 354 = .ok (.getfield 329, 3) := dcU2 dO_180 (rdU2.ch sfx_cX12_test_320 34 rfl (by decide +kernel))
theorem dX12_test_357 : decode cX12_test 357 = .ok (.iload_n 2, 1) := dc0 dO_28 (rdB.ch sfx_cX12_test_320 37 rfl (by decide +kernel))
theorem dX12_test_358 : decode cX12_test 358 = .ok (.aload_n 0, 1) := dc0 dO_42 (rdB.ch sfx_cX12_test_320 38 rfl (by decide +kernel))
theorem dX12_test_359 : decode cX12_test 359 = .ok (.getfield 233, 3) := dcU2 dO_180 (rdU2.ch sfx_cX12_test_320 39 rfl (by decide +kernel))
theorem dX12_test_362 : decode cX12_test 362 = .ok (.iastore, 1) := dc0 dO_79 (rdB.ch sfx_cX12_test_320 42 rfl (by decide +kernel))
theorem dX12_test_363 : decode cX12_test 363 = .ok (.aload_n 0, 1) := dc0 dO_42 (rdB.ch sfx_cX12_test_320 43 rfl (by decide +kernel))
theorem dX12_test_364 : decode cX12_test 364 = .ok (.invokevirtual 247, 3) := dcU2 dO_182 (rdU2.ch sfx_cX12_test_320 44 rfl (by decide +kernel))
theorem dX12_test_367 : decode cX12_test 367 = .ok (.goto 146, 3) := dcS2 dO_167 (rdS2.ch sfx_cX12_test_320 47 rfl (by decide +kernel))
theorem dX12_test_370 : decode cX12_test 370 = .ok (.iload_n 3, 1) := dc0 dO_29 (rdB.ch sfx_cX12_test_320 50 rfl (by decide +kernel))
theorem dX12_test_371 : decode cX12_test 371 = .ok (.bipush 15, 2) := dcS1 dO_16 (rdS1.ch sfx_cX12_test_320 51 rfl (by decide +kernel))
theorem dX12_test_373 : decode cX12_test 373 = .ok (.if_icmp .ne 47, 3) := dcS2 dO_160 (rdS2.ch sfx_cX12_test_320 53 rfl (by decide +kernel))
theorem dX12_test_376 : decode cX12_test 376 = .ok (.aload_n 0, 1) := dc0 dO_42 (rdB.ch sfx_cX12_test_320 56 rfl (by decide +kernel))
theorem dX12_test_377 : decode cX12_test 377 = .ok (.getfield 230, 3) := dcU2 dO_180 (rdU2.ch sfx_cX12_test_320 57 rfl (by decide +kernel))
theorem dX12_test_380 : decode cX12_test 380 = .ok (.iconst 1, 1) := dc0 dO_4 (rdB.ch sfx_cX12_test_320 60 rfl (by decide +kernel))
theorem dX12_test_381 : decode cX12_test 381 = .ok (.if_icmp .ne 17, 3) := dcS2 dO_160 (rdS2.ch sfx_cX12_test_320 61 rfl (by decide +kernel))
theorem sfx_cX12_test_384 : (cX12_test.data.toList.drop 384).take 67 = [42, 180, 0, 233, 16, 20, 16, 22, 184, 0, 18, 154, 0, 8, 42, 5, 182, 0, 240, 42, 180, 1, 73, 28, 42, 180, 0, 233, 79, 42, 182, 0, 247, 167, 0, 96, 29, 16, 14, 160, 0, 18, 42, 180, 1, 73, 28, 42, 3, 5, 182, 1, 58, 79, 167, 0, 75, 42, 16, 60, 182, 0, 244, 154, 0, 26, 42] := by decide +kernel
theorem dX12_test_384 : decode cX12_test 384 = .ok (.aload_n 0, 1) := dc0 dO_42 (rdB.ch sfx_cX12_test_384 0 rfl (by decide +kernel))
theorem dX12_test_385 : decode cX12_test 385 = .ok (.getfield 233, 3) := dcU2 dO_180 (rdU2.ch sfx_cX12_test_384 1 rfl (by decide +kernel))
theorem dX12_test_388 : decode cX12_test 388 = .ok (.bipush 20, 2) := dcS1 dO_16 (rdS1.ch sfx_cX12_test_384 4 rfl (by decide +kernel))
theorem dX12_test_390 : decode cX12_test 390 = .ok (.bipush 22, 2) := dcS1 dO_16 (rdS1.ch sfx_cX12_test_384 6 rfl (by decide +kernel))
theorem dX12_test_392 : decode cX12_test 392 = .ok (.invokestatic 18, 3) := dcU2 dO_184 (rdU2.ch sfx_cX12_test_384 8 rfl (by decide +kernel))
theorem dX12_test_395 : decode cX12_test 395 = .ok (.ifCond .ne 8, 3) := dcS2 dO_154 (rdS2.ch sfx_cX12_test_384 11 rfl (by decide +kernel))
theorem dX12_test_398 : decode cX12_test 398 = .ok (.aload_n 0, 1) := dc0 dO_42 (rdB.ch sfx_cX12_test_384 14 rfl (by decide +kernel))
theorem dX12_test_399 : decode cX12_test 399 = .ok (.iconst 2, 1) := dc0 dO_5 (rdB.ch sfx_cX12_test_384 15 rfl (by decide +kernel))
theorem dX12_test_400 : decode cX12_test 400 = .ok (.invokevirtual 240, 3) := dcU2 dO_182 (rdU2.ch sfx_cX12_test_384 16 rfl (by decide +kernel))
theorem dX12_test_403 : decode cX12_test 403 = .ok (.aload_n 0, 1) := dc0 dO_42 (rdB.ch sfx_cX12_test_384 19 rfl (by decide +kernel))
theorem dX12_test_404 : decode cX12_test 404 = .ok (.getfield 329, 3) := dcU2 dO_180 (rdU2.ch sfx_cX12_test_384 20 rfl (by decide +kernel))
theorem dX12_test_407 : decode cX12_test 407 = .ok (.iload_n 2, 1) := dc0 dO_28 (rdB.ch sfx_cX12_test_384 23 rfl (by decide +kernel))
theorem dX12_test_408 : decode cX12_test 408 = .ok (.aload_n 0, 1) := dc0 dO_42 (rdB.ch sfx_cX12_test_384 24 rfl (by decide +kernel))
theorem dX12_test_409 : decode cX12_test 409 = .ok (.getfield 233, 3) := dcU2 dO_180 (rdU2.ch sfx_cX12_test_384 25 rfl (by decide +kernel))
theorem dX12_test_412 : decode cX12_test 412 = .ok (.iastore, 1) := dc0 dO_79 (rdB.ch sfx_cX12_test_384 28 rfl (by decide +kernel))
theorem dX12_test_413 : decode cX12_test 413 = .ok (.aload_n 0, 1) := dc0 dO_42 (rdB.ch sfx_cX12_test_384 29 rfl (by decide +kernel))
theorem dX12_test_414 : decode cX12_test 414 = .ok (.invokevirtual 247, 3) := dcU2 dO_182 (rdU2.ch sfx_cX12_test_384 30 rfl (by decide +kernel))
theorem dX12_test_417 : decode cX12_test 417 = .ok (.goto 96, 3) := dcS2 dO_167 (rdS2.ch sfx_cX12_test_384 33 rfl (by decide +kernel))
theorem dX12_test_420 : decode cX12_test 420 = .ok (.iload_n 3, 1) := dc0 dO_29 (rdB.ch sfx_cX12_test_384 36 rfl (by decide +kernel))
theorem dX12_test_421 : decode cX12_test 421 = .ok (.bipush 14, 2) := dcS1 dO_16 (rdS1.ch sfx_cX12_test_384 37 rfl (by decide +kernel))
theorem dX12_test_423 : decode cX12_test 423 = .ok (.if_icmp .ne 18, 3) := dcS2 dO_160 (rdS2.ch sfx_cX12_test_384 39 rfl (by decide +kernel))
theorem dX12_test_426 : decode cX12_test 426 = .ok (.aload_n 0, 1) := dc0 dO_42 (rdB.ch sfx_cX12_test_384 42 rfl (by decide +kernel))
theorem dX12_test_427 : decode cX12_test 427 = .ok (.getfield 329, 3) := dcU2 dO_180 (rdU2.ch sfx_cX12_test_384 43 rfl (by decide +kernel))
theorem dX12_test_430 : decode cX12_test 430 = .ok (.iload_n 2, 1) := dc0 dO_28 (rdB.ch sfx_cX12_test_384 46 rfl (by decide +kernel))
theorem dX12_test_431 : decode cX12_test 431 = .ok (.aload_n 0, 1) := dc0 dO_42 (rdB.ch sfx_cX12_test_384 47 rfl (by decide +kernel))
theorem dX12_test_432 : decode cX12_test 432 = .ok (.iconst 0, 1) := dc0 dO_3 (rdB.ch sfx_cX12_test_384 48 rfl (by decide +kernel))
theorem dX12_test_433 : decode cX12_test 433 = .ok (.iconst 2, 1) := dc0 dO_5 (rdB.ch sfx_cX12_test_384 49 rfl (by decide +kernel))
theorem dX12_test_434 : decode cX12_test 434 = .ok (.invokevirtual 314, 3) := dcU2 dO_182 (rdU2.ch sfx_cX12_test_384 50 rfl (by decide +kernel))
theorem dX12_test_437 : decode cX12_test 437 = .ok (.iastore, 1) := dc0 dO_79 (rdB.ch sfx_cX12_test_384 53 rfl (by decide +kernel))
theorem dX12_test_438 : decode cX12_test 438 = .ok (.goto 75, 3) := dcS2 dO_167 (rdS2.ch sfx_cX12_test_384 54 rfl (by decide +kernel))
theorem dX12_test_441 : decode cX12_test 441 = .ok (.aload_n 0, 1) := dc0 dO_42 (rdB.ch sfx_cX12_test_384 57 rfl (by decide +kernel))
theorem dX12_test_442 : decode cX12_test 442 = .ok (.bipush 60, 2) := dcS1 dO_16 (rdS1.ch sfx_cX12_test_384 58 rfl (by decide +kernel))
theorem dX12_test_444 : decode cX12_test 444 = .ok (.invokevirtual 244, 3) := dcU2 dO_182 (rdU2.ch sfx_cX12_test_384 60 rfl (by decide +kernel))
theorem dX12_test_447 : decode cX12_test 447 = .ok (.ifCond .ne 26, 3) := dcS2 dO_154 (rdS2.ch sfx_cX12_test_384 63 rfl (by decide +kernel))
theorem sfx_cX12_test_448 : (cX12_test.data.toList.drop 448).take 67 = [0, 26, 42, 16, 61, 182, 0, 244, 154, 0, 17, 42, 16, 62, 182, 0, 244, 154, 0, 8, 42, 5, 182, 0, 240, 42, 180, 1, 80, 28, 42, 180, 0, 233, 79, 42, 182, 0, 247, 42, 180, 1, 73, 28, 42, 3, 29, 16, 12, 160, 0, 9, 17, 3, 232, 167, 0, 6, 19, 1, 35, 182, 1, 58, 79, 177] := by decide +kernel
theorem dX12_test_450 : decode cX12_test 450 = .ok (.aload_n 0, 1) := dc0 dO_42 (rdB.ch sfx_cX12_test_448 2 rfl (by decide +kernel))
theorem dX12_test_451 : decode cX12_test 451 = .ok (.bipush 61, 2) := dcS1 dO_16 (rdS1.ch sfx_cX12_test_448 3 rfl (by decide +kernel))
theorem dX12_test_453 : decode cX12_test 453 = .ok (.invokevirtual 244, 3) := dcU2 dO_182 (rdU2.ch sfx_cX12_test_448 5 rfl (by decide +kernel))
theorem dX12_test_456 : decode cX12_test 456 = .ok (.ifCond .ne 17, 3) := dcS2 dO_154 (rdS2.ch sfx_cX12_test_448 8 rfl (by decide +kernel))
theorem dX12_test_459 : decode cX12_test 459 = .ok (.aload_n 0, 1) := dc0 dO_42 (rdB.ch sfx_cX12_test_448 11 rfl (by decide +kernel))
theorem dX12_test_460 : decode cX12_test 460 = .ok (.bipush 62, 2) := dcS1 dO_16 (rdS1.ch sfx_cX12_test_448 12 rfl (by decide +kernel))
theorem dX12_test_462 : decode cX12_test 462 = .ok (.invokevirtual 244, 3) := dcU2 dO_182 (rdU2.ch sfx_cX12_test_448 14 rfl (by decide +kernel))
theorem dX12_test_465 : decode cX12_test 465 = .ok (.ifCond .ne 8, 3) := dcS2 dO_154 (rdS2.ch sfx_cX12_test_448 17 rfl (by decide +kernel))
theorem dX12_test_468 : decode cX12_test 468 = .ok (.aload_n 0, 1) := dc0 dO_42 (rdB.ch sfx_cX12_test_448 20 rfl (by decide +kernel))
theorem dX12_test_469 : decode cX12_test 469 = .ok (.iconst 2, 1) := dc0 dO_5 (rdB.ch sfx_cX12_test_448 21 rfl (by decide +kernel))
theorem dX12_test_470 : decode cX12_test 470 = .ok (.invokevirtual 240, 3) := dcU2 dO_182 (rdU2.ch sfx_cX12_test_448 22 rfl (by decide +kernel))
theorem dX12_test_473 : decode cX12_test 473 = .ok (.aload_n 0, 1) := dc0 dO_42 (rdB.ch sfx_cX12_test_448 25 rfl (by decide +kernel))
theorem dX12_test_474 : decode cX12_test 474 = .ok (.getfield 336, 3) := dcU2 dO_180 (rdU2.ch sfx_cX12_test_448 26 rfl (by decide +kernel))
theorem dX12_test_477 : decode cX12_test 477 = .ok (.iload_n 2, 1) := dc0 dO_28 (rdB.ch sfx_cX12_test_448 29 rfl (by decide +kernel))
theorem dX12_test_478 : decode cX12_test 478 = .ok (.aload_n 0, 1) := dc0 dO_42 (rdB.ch sfx_cX12_test_448 30 rfl (by decide +kernel))
theorem dX12_test_479 : decode cX12_test 479 = .ok (.getfield 233, 3) := dcU2 dO_180 (rdU2.ch sfx_cX12_test_448 31 rfl (by decide +kernel))
theorem dX12_test_482 : decode cX12_test 482 = .ok (.iastore, 1) := dc0 dO_79 (rdB.ch sfx_cX12_test_448 34 rfl (by decide +kernel))
theorem dX12_test_483 : decode cX12_test 483 = .ok (.aload_n 0, 1) := dc0 dO_42 (rdB.ch sfx_cX12_test_448 35 rfl (by decide +kernel))
theorem dX12_test_484 : decode cX12_test 484 = .ok (.invokevirtual 247, 3) := dcU2 dO_182 (rdU2.ch sfx_cX12_test_448 36 rfl (by decide +kernel))
theorem dX12_test_487 : decode cX12_test 487 = .ok (.aload_n 0, 1) := dc0 dO_42 (rdB.ch sfx_cX12_test_448 39 rfl (by decide +kernel))
theorem dX12_test_488 : decode cX12_test 488 = .ok (.getfield 329, 3) := dcU2 dO_180 (rdU2.ch sfx_cX12_test_448 40 rfl (by decide +kernel))
theorem dX12_test_491 : decode cX12_test 491 = .ok (.iload_n 2, 1) := dc0 dO_28 (rdB.ch sfx_cX12_test_448 43 rfl (by decide +kernel))
theorem dX12_test_492 : decode cX12_test 492 = .ok (.aload_n 0, 1) := dc0 dO_42 (rdB.ch sfx_cX12_test_448 44 rfl (by decide +kernel))
theorem dX12_test_493 : decode cX12_test 493 = .ok (.iconst 0, 1) := dc0 dO_3 (rdB.ch sfx_cX12_test_448 45 rfl (by decide +kernel))
theorem dX12_test_494 : decode cX12_test 494 = .ok (.iload_n 3, 1) := dc0 dO_29 (rdB.ch sfx_cX12_test_448 46 rfl (by decide +kernel))
theorem dX12_test_495 : decode cX12_test 495 = .ok (.bipush 12, 2) := dcS1 dO_16 (rdS1.ch sfx_cX12_test_448 47 rfl (by decide +kernel))
theorem dX12_test_497 : decode cX12_test 497 = .ok (.if_icmp .ne 9, 3) := dcS2 dO_160 (rdS2.ch sfx_cX12_test_448 49 rfl (by decide +kernel))
theorem dX12_test_500 : decode cX12_test 500 = .ok (.sipush 1000, 3) := dcS2 dO_17 (rdS2.ch sfx_cX12_test_448 52 rfl (by decide +kernel))
theorem dX12_test_503 : decode cX12_test 503 = .ok (.goto 6, 3) := dcS2 dO_167 (rdS2.ch sfx_cX12_test_448 55 rfl (by decide +kernel))
theorem dX12_test_506 : decode cX12_test 506 = .ok (.ldc_w 291, 3) := dcU2 dO_19 (rdU2.ch sfx_cX12_test_448 58 rfl (by decide +kernel))
theorem dX12_test_509 : decode cX12_test 509 = .ok (.invokevirtual 314, 3) := dcU2 dO_182 (rdU2.ch sfx_cX12_test_448 61 rfl (by decide +kernel))
theorem sfx_cX12_test_512 : (cX12_test.data.toList.drop 512).take 67 = [79, 177] := by decide +kernel
theorem dX12_test_512 : decode cX12_test 512 = .ok (.iastore, 1) := dc0 dO_79 (rdB.ch sfx_cX12_test_512 0 rfl (by decide +kernel))
theorem dX12_test_513 : decode cX12_test 513 = .ok (.return_, 1) := dc0 dO_177 (rdB.ch sfx_cX12_test_512 1 rfl (by decide +kernel))
theorem dX12_wayTest_0 : decode cX12_wayTest 0 = .ok (.aload_n 0, 1) := dc0 dO_42 (by decide +kernel)
theorem dX12_wayTest_1 : decode cX12_wayTest 1 = .ok (.bipush 40, 2) := dcS1 dO_16 (by decide +kernel)
theorem dX12_wayTest_3 : decode cX12_wayTest 3 = .ok (.invokevirtual 244, 3) := dcU2 dO_182 (by decide +kernel)
theorem dX12_wayTest_6 : decode cX12_wayTest 6 = .ok (.ifCond .ne 9, 3) := dcS2 dO_154 (by decide +kernel)
theorem dX12_wayTest_9 : decode cX12_wayTest 9 = .ok (.aload_n 0, 1) := dc0 dO_42 (by decide +kernel)
theorem dX12_wayTest_10 : decode cX12_wayTest 10 = .ok (.iconst 2, 1) := dc0 dO_5 (by decide +kernel)
theorem dX12_wayTest_11 : decode cX12_wayTest 11 = .ok (.invokevirtual 240, 3) := dcU2 dO_182 (by decide +kernel)
theorem dX12_wayTest_14 : decode cX12_wayTest 14 = .ok (.return_, 1) := dc0 dO_177 (by decide +kernel)
theorem dX12_wayTest_15 : decode cX12_wayTest 15 = .ok (.aload_n 0, 1) := dc0 dO_42 (by decide +kernel)
theorem dX12_wayTest_16 : decode cX12_wayTest 16 = .ok (.invokevirtual 247, 3) := dcU2 dO_182 (by decide +kernel)
theorem dX12_wayTest_19 : decode cX12_wayTest 19 = .ok (.aload_n 0, 1) := dc0 dO_42 (by decide +kernel)
theorem dX12_wayTest_20 : decode cX12_wayTest 20 = .ok (.iconst 0, 1) := dc0 dO_3 (by decide +kernel)
theorem dX12_wayTest_21 : decode cX12_wayTest 21 = .ok (.putfield 254, 3) := dcU2 dO_181 (by decide +kernel)
theorem dX12_wayTest_24 : decode cX12_wayTest 24 = .ok (.aload_n 0, 1) := dc0 dO_42 (by decide +kernel)
theorem dX12_wayTest_25 : decode cX12_wayTest 25 = .ok (.invokevirtual 285, 3) := dcU2 dO_182 (by decide +kernel)
theorem dX12_wayTest_28 : decode cX12_wayTest 28 = .ok (.aload_n 0, 1) := dc0 dO_42 (by decide +kernel)
theorem dX12_wayTest_29 : decode cX12_wayTest 29 = .ok (.getfield 215, 3) := dcU2 dO_180 (by decide +kernel)
theorem dX12_wayTest_32 : decode cX12_wayTest 32 = .ok (.ifCond .ne 368, 3) := dcS2 dO_154 (by decide +kernel)
theorem dX12_wayTest_35 : decode cX12_wayTest 35 = .ok (.aload_n 0, 1) := dc0 dO_42 (by decide +kernel)
theorem dX12_wayTest_36 : decode cX12_wayTest 36 = .ok (.getfield 254, 3) := dcU2 dO_180 (by decide +kernel)
theorem dX12_wayTest_39 : decode cX12_wayTest 39 = .ok (.ifCond .le 361, 3) := dcS2 dO_158 (by decide +kernel)
theorem dX12_wayTest_42 : decode cX12_wayTest 42 = .ok (.aload_n 0, 1) := dc0 dO_42 (by decide +kernel)
theorem dX12_wayTest_43 : decode cX12_wayTest 43 = .ok (.getfield 230, 3) := dcU2 dO_180 (by decide +kernel)
theorem dX12_wayTest_46 : decode cX12_wayTest 46 = .ok (.iconst 2, 1) := dc0 dO_5 (by decide +kernel)
theorem dX12_wayTest_47 : decode cX12_wayTest 47 = .ok (.if_icmp .eq 12, 3) := dcS2 dO_159 (by decide +kernel)
theorem dX12_wayTest_50 : decode cX12_wayTest 50 = .ok (.aload_n 0, 1) := dc0 dO_42 (by decide +kernel)
theorem dX12_wayTest_51 : decode cX12_wayTest 51 = .ok (.bipush 7, 2) := dcS1 dO_16 (by decide +kernel)
theorem dX12_wayTest_53 : decode cX12_wayTest 53 = .ok (.invokevirtual 288, 3) := dcU2 dO_182 (by decide +kernel)
theorem dX12_wayTest_56 : decode cX12_wayTest 56 = .ok (.ifCond .eq 143, 3) := dcS2 dO_153 (by decide +kernel)
theorem dX12_wayTest_59 : decode cX12_wayTest 59 = .ok (.aload_n 0, 1) := dc0 dO_42 (by decide +kernel)
theorem dX12_wayTest_60 : decode cX12_wayTest 60 = .ok (.getfield 230, 3) := dcU2 dO_180 (by decide +kernel)
theorem dX12_wayTest_63 : decode cX12_wayTest 63 = .ok (.iconst 2, 1) := dc0 dO_5 (by decide +kernel)
theorem dX12_wayTest_64 : decode cX12_wayTest 64 = .ok (.if_icmp .ne 22, 3) := dcS2 dO_160 (by decide +kernel)
theorem dX12_wayTest_67 : decode cX12_wayTest 67 = .ok (.aload_n 0, 1) := dc0 dO_42 (by decide +kernel)
theorem dX12_wayTest_68 : decode cX12_wayTest 68 = .ok (.getfield 233, 3) := dcU2 dO_180 (by decide +kernel)
theorem dX12_wayTest_71 : decode cX12_wayTest 71 = .ok (.iconst 0, 1) := dc0 dO_3 (by decide +kernel)
theorem dX12_wayTest_72 : decode cX12_wayTest 72 = .ok (.ldc_w 291, 3) := dcU2 dO_19 (by decide +kernel)
theorem dX12_wayTest_75 : decode cX12_wayTest 75 = .ok (.invokestatic 18, 3) := dcU2 dO_184 (by decide +kernel)
theorem dX12_wayTest_78 : decode cX12_wayTest 78 = .ok (.ifCond .ne 8, 3) := dcS2 dO_154 (by decide +kernel)
theorem dX12_wayTest_81 : decode cX12_wayTest 81 = .ok (.aload_n 0, 1) := dc0 dO_42 (by decide +kernel)
theorem dX12_wayTest_82 : decode cX12_wayTest 82 = .ok (.iconst 3, 1) := dc0 dO_6 (by decide +kernel)
theorem dX12_wayTest_83 : decode cX12_wayTest 83 = .ok (.invokevirtual 240, 3) := dcU2 dO_182 (by decide +kernel)
theorem dX12_wayTest_86 : decode cX12_wayTest 86 = .ok (.aload_n 0, 1) := dc0 dO_42 (by decide +kernel)
theorem dX12_wayTest_87 : decode cX12_wayTest 87 = .ok (.getfield 292, 3) := dcU2 dO_180 (by decide +kernel)
theorem dX12_wayTest_90 : decode cX12_wayTest 90 = .ok (.aload_n 0, 1) := dc0 dO_42 (by decide +kernel)
theorem dX12_wayTest_91 : decode cX12_wayTest 91 = .ok (.getfield 278, 3) := dcU2 dO_180 (by decide +kernel)
theorem dX12_wayTest_94 : decode cX12_wayTest 94 = .ok (.iaload, 1) := dc0 dO_46 (by decide +kernel)
theorem dX12_wayTest_95 : decode cX12_wayTest 95 = .ok (.bipush 40, 2) := dcS1 dO_16 (by decide +kernel)
theorem dX12_wayTest_97 : decode cX12_wayTest 97 = .ok (.if_icmp .ne 8, 3) := dcS2 dO_160 (by decide +kernel)
theorem dX12_wayTest_100 : decode cX12_wayTest 100 = .ok (.aload_n 0, 1) := dc0 dO_42 (by decide +kernel)
theorem dX12_wayTest_101 : decode cX12_wayTest 101 = .ok (.iconst 4, 1) := dc0 dO_7 (by decide +kernel)
theorem dX12_wayTest_102 : decode cX12_wayTest 102 = .ok (.invokevirtual 240, 3) := dcU2 dO_182 (by decide +kernel)
theorem dX12_wayTest_105 : decode cX12_wayTest 105 = .ok (.aload_n 0, 1) := dc0 dO_42 (by decide +kernel)
theorem dX12_wayTest_106 : decode cX12_wayTest 106 = .ok (.getfield 215, 3) := dcU2 dO_180 (by decide +kernel)
theorem dX12_wayTest_109 : decode cX12_wayTest 109 = .ok (.ifCond .eq 4, 3) := dcS2 dO_153 (by decide +kernel)
theorem dX12_wayTest_112 : decode cX12_wayTest 112 = .ok (.return_, 1) := dc0 dO_177 (by decide +kernel)
theorem dX12_wayTest_113 : decode cX12_wayTest 113 = .ok (.aload_n 0, 1) := dc0 dO_42 (by decide +kernel)
theorem dX12_wayTest_114 : decode cX12_wayTest 114 = .ok (.getfield 292, 3) := dcU2 dO_180 (by decide +kernel)
theorem dX12_wayTest_117 : decode cX12_wayTest 117 = .ok (.aload_n 0, 1) := dc0 dO_42 (by decide +kernel)
theorem dX12_wayTest_118 : decode cX12_wayTest 118 = .ok (.getfield 278, 3) := dcU2 dO_180 (by decide +kernel)
theorem dX12_wayTest_121 : decode cX12_wayTest 121 = .ok (.iaload, 1) := dc0 dO_46 (by decide +kernel)
theorem dX12_wayTest_122 : decode cX12_wayTest 122 = .ok (.istore_n 2, 1) := dc0 dO_61 (by decide +kernel)
theorem dX12_wayTest_123 : decode cX12_wayTest 123 = .ok (.aload_n 0, 1) := dc0 dO_42 (by decide +kernel)
theorem dX12_wayTest_124 : decode cX12_wayTest 124 = .ok (.getfield 295, 3) := dcU2 dO_180 (by decide +kernel)
theorem dX12_wayTest_127 : decode cX12_wayTest 127 = .ok (.bipush 41, 2) := dcS1 dO_16 (by decide +kernel)
theorem sfx_cX12_wayTest_128 : (cX12_wayTest.data.toList.drop 128).take 67 = [41, 42, 180, 1, 22, 104, 28, 96, 42, 180, 0, 230, 5, 160, 0, 10, 42, 180, 0, 233, 167, 0, 4, 2, 79, 42, 180, 1, 19, 16, 41, 42, 180, 1, 22, 104, 28, 96, 9, 80, 42, 180, 1, 36, 42, 180, 1, 22, 92, 46, 4, 96, 79, 42, 182, 0, 247, 42, 10, 28, 121, 10, 28, 121, 3, 182, 1] := by decide +kernel
theorem dX12_wayTest_129 : decode cX12_wayTest 129 = .ok (.aload_n 0, 1) := dc0 dO_42 (rdB.ch sfx_cX12_wayTest_128 1 rfl (by decide +kernel))
theorem dX12_wayTest_130 : decode cX12_wayTest 130 = .ok (.getfield 278, 3) := dcU2 dO_180 (rdU2.ch sfx_cX12_wayTest_128 2 rfl (by decide +kernel))
theorem dX12_wayTest_133 : decode cX12_wayTest 133 = .ok (.imul, 1) := dc0 dO_104 (rdB.ch sfx_cX12_wayTest_128 5 rfl (by decide +kernel))
theorem dX12_wayTest_134 : decode cX12_wayTest 134 = .ok (.iload_n 2, 1) := dc0 dO_28 (rdB.ch sfx_cX12_wayTest_128 6 rfl (by decide +kernel))
theorem dX12_wayTest_135 : decode cX12_wayTest 135 = .ok (.iadd, 1) := dc0 dO_96 (rdB.ch sfx_cX12_wayTest_128 7 rfl (by decide +kernel))
theorem dX12_wayTest_136 : decode cX12_wayTest 136 = .ok (.aload_n 0, 1) := dc0 dO_42 (rdB.ch sfx_cX12_wayTest_128 8 rfl (by decide +kernel))
theorem dX12_wayTest_137 : decode cX12_wayTest 137 = .ok (.getfield 230, 3) := dcU2 dO_180 (rdU2.ch sfx_cX12_wayTest_128 9 rfl (by decide +kernel))
theorem dX12_wayTest_140 : decode cX12_wayTest 140 = .ok (.iconst 2, 1) := dc0 dO_5 (rdB.ch sfx_cX12_wayTest_128 12 rfl (by decide +kernel))
theorem dX12_wayTest_141 : decode cX12_wayTest 141 = .ok (.if_icmp .ne 10, 3) := dcS2 dO_160 (rdS2.ch sfx_cX12_wayTest_128 13 rfl (by decide +kernel))
theorem dX12_wayTest_144 : decode cX12_wayTest 144 = .ok (.aload_n 0, 1) := dc0 dO_42 (rdB.ch sfx_cX12_wayTest_128 16 rfl (by decide +kernel))
theorem dX12_wayTest_145 : decode cX12_wayTest 145 = .ok (.getfield 233, 3) := dcU2 dO_180 (rdU2.ch sfx_cX12_wayTest_128 17 rfl (by decide +kernel))
theorem dX12_wayTest_148 : decode cX12_wayTest 148 = .ok (.goto 4, 3) := dcS2 dO_167 (rdS2.ch sfx_cX12_wayTest_128 20 rfl (by decide +kernel))
theorem dX12_wayTest_151 : decode cX12_wayTest 151 = .ok (.iconst (-1), 1) := dc0 dO_2 (rdB.ch sfx_cX12_wayTest_128 23 rfl (by decide +kernel))
theorem dX12_wayTest_152 : decode cX12_wayTest 152 = .ok (.iastore, 1) := dc0 dO_79 (rdB.ch sfx_cX12_wayTest_128 24 rfl (by decide +kernel))
theorem dX12_wayTest_153 : decode cX12_wayTest 153 = .ok (.aload_n 0, 1) := dc0 dO_42 (rdB.ch sfx_cX12_wayTest_128 25 rfl (by decide +kernel))
theorem dX12_wayTest_154 : decode cX12_wayTest 154 = .ok (.getfield 275, 3) := dcU2 dO_180 (rdU2.ch sfx_cX12_wayTest_128 26 rfl (by decide +kernel))
theorem dX12_wayTest_157 : decode cX12_wayTest 157 = .ok (.bipush 41, 2) := dcS1 dO_16 (rdS1.ch sfx_cX12_wayTest_128 29 rfl (by decide +kernel))
theorem dX12_wayTest_159 : decode cX12_wayTest 159 = .ok (.aload_n 0, 1) := dc0 dO_42 (rdB.ch sfx_cX12_wayTest_128 31 rfl (by decide +kernel))
theorem dX12_wayTest_160 : decode cX12_wayTest 160 = .ok (.getfield 278, 3) := dcU2 dO_180 (rdU2.ch sfx_cX12_wayTest_128 32 rfl (by decide +kernel))
theorem dX12_wayTest_163 : decode cX12_wayTest 163 = .ok (.imul, 1) := dc0 dO_104 (rdB.ch sfx_cX12_wayTest_128 35 rfl (by decide +kernel))
theorem dX12_wayTest_164 : decode cX12_wayTest 164 = .ok (.iload_n 2, 1) := dc0 dO_28 (rdB.ch sfx_cX12_wayTest_128 36 rfl (by decide +kernel))
theorem dX12_wayTest_165 : decode cX12_wayTest 165 = .ok (.iadd, 1) := dc0 dO_96 (rdB.ch sfx_cX12_wayTest_128 37 rfl (by decide +kernel))
theorem dX12_wayTest_166 : decode cX12_wayTest 166 = .ok (.lconst 0, 1) := dc0 dO_9 (rdB.ch sfx_cX12_wayTest_128 38 rfl (by decide +kernel))
theorem dX12_wayTest_167 : decode cX12_wayTest 167 = .ok (.lastore, 1) := dc0 dO_80 (rdB.ch sfx_cX12_wayTest_128 39 rfl (by decide +kernel))
theorem dX12_wayTest_168 : decode cX12_wayTest 168 = .ok (.aload_n 0, 1) := dc0 dO_42 (rdB.ch sfx_cX12_wayTest_128 40 rfl (by decide +kernel))
theorem dX12_wayTest_169 : decode cX12_wayTest 169 = .ok (.getfield 292, 3) := dcU2 dO_180 (rdU2.ch sfx_cX12_wayTest_128 41 rfl (by decide +kernel))
theorem dX12_wayTest_172 : decode cX12_wayTest 172 = .ok (.aload_n 0, 1) := dc0 dO_42 (rdB.ch sfx_cX12_wayTest_128 44 rfl (by decide +kernel))
theorem dX12_wayTest_173 : decode cX12_wayTest 173 = .ok (.getfield 278, 3) := dcU2 dO_180 (rdU2.ch sfx_cX12_wayTest_128 45 rfl (by decide +kernel))
theorem dX12_wayTest_176 : decode cX12_wayTest 176 = .ok (.dup2, 1) := dc0 dO_92 (rdB.ch sfx_cX12_wayTest_128 48 rfl (by decide +kernel))
theorem dX12_wayTest_177 : decode cX12_wayTest 177 = .ok (.iaload, 1) := dc0 dO_46 (rdB.ch sfx_cX12_wayTest_128 49 rfl (by decide +kernel))
theorem dX12_wayTest_178 : decode cX12_wayTest 178 = .ok (.iconst 1, 1) := dc0 dO_4 (rdB.ch sfx_cX12_wayTest_128 50 rfl (by decide +kernel))
theorem dX12_wayTest_179 : decode cX12_wayTest 179 = .ok (.iadd, 1) := dc0 dO_96 (rdB.ch sfx_cX12_wayTest_128 51 rfl (by decide +kernel))
theorem dX12_wayTest_180 : decode cX12_wayTest 180 = .ok (.iastore, 1) := dc0 dO_79 (rdB.ch sfx_cX12_wayTest_128 52 rfl (by decide +kernel))
theorem dX12_wayTest_181 : decode cX12_wayTest 181 = .ok (.aload_n 0, 1) := dc0 dO_42 (rdB.ch sfx_cX12_wayTest_128 53 rfl (by decide +kernel))
theorem dX12_wayTest_182 : decode cX12_wayTest 182 = .ok (.invokevirtual 247, 3) := dcU2 dO_182 (rdU2.ch sfx_cX12_wayTest_128 54 rfl (by decide +kernel))
theorem dX12_wayTest_185 : decode cX12_wayTest 185 = .ok (.aload_n 0, 1) := dc0 dO_42 (rdB.ch sfx_cX12_wayTest_128 57 rfl (by decide +kernel))
theorem dX12_wayTest_186 : decode cX12_wayTest 186 = .ok (.lconst 1, 1) := dc0 dO_10 (rdB.ch sfx_cX12_wayTest_128 58 rfl (by decide +kernel))
theorem dX12_wayTest_187 : decode cX12_wayTest 187 = .ok (.iload_n 2, 1) := dc0 dO_28 (rdB.ch sfx_cX12_wayTest_128 59 rfl (by decide +kernel))
theorem dX12_wayTest_188 : decode cX12_wayTest 188 = .ok (.lshl, 1) := dc0 dO_121 (rdB.ch sfx_cX12_wayTest_128 60 rfl (by decide +kernel))
theorem dX12_wayTest_189 : decode cX12_wayTest 189 = .ok (.lconst 1, 1) := dc0 dO_10 (rdB.ch sfx_cX12_wayTest_128 61 rfl (by decide +kernel))
theorem dX12_wayTest_190 : decode cX12_wayTest 190 = .ok (.iload_n 2, 1) := dc0 dO_28 (rdB.ch sfx_cX12_wayTest_128 62 rfl (by decide +kernel))
theorem dX12_wayTest_191 : decode cX12_wayTest 191 = .ok (.lshl, 1) := dc0 dO_121 (rdB.ch sfx_cX12_wayTest_128 63 rfl (by decide +kernel))
theorem sfx_cX12_wayTest_192 : (cX12_wayTest.data.toList.drop 192).take 67 = [3, 182, 1, 42, 167, 255, 88, 42, 16, 40, 182, 0, 244, 153, 0, 36, 42, 180, 0, 254, 16, 6, 161, 0, 8, 42, 7, 182, 0, 240, 42, 180, 0, 215, 153, 0, 4, 177, 42, 182, 1, 29, 42, 182, 0, 247, 167, 255, 46, 42, 16, 124, 182, 0, 244, 153, 0, 38, 42, 182, 1, 46, 42, 89, 180, 0, 254] := by decide +kernel
theorem dX12_wayTest_192 : decode cX12_wayTest 192 = .ok (.iconst 0, 1) := dc0 dO_3 (rdB.ch sfx_cX12_wayTest_192 0 rfl (by decide +kernel))
theorem dX12_wayTest_193 : decode cX12_wayTest 193 = .ok (.invokevirtual 298, 3) := dcU2 dO_182 (rdU2.ch sfx_cX12_wayTest_192 1 rfl (by decide +kernel))
theorem dX12_wayTest_196 : decode cX12_wayTest 196 = .ok (.goto (-168), 3) := dcS2 dO_167 (rdS2.ch sfx_cX12_wayTest_192 4 rfl (by decide +kernel))
theorem dX12_wayTest_199 : decode cX12_wayTest 199 = .ok (.aload_n 0, 1) := dc0 dO_42 (rdB.ch sfx_cX12_wayTest_192 7 rfl (by decide +kernel))
theorem dX12_wayTest_200 : decode cX12_wayTest 200 = .ok (.bipush 40, 2) := dcS1 dO_16 (rdS1.ch sfx_cX12_wayTest_192 8 rfl (by decide +kernel))
theorem dX12_wayTest_202 : decode cX12_wayTest 202 = .ok (.invokevirtual 244, 3) := dcU2 dO_182 (rdU2.ch sfx_cX12_wayTest_192 10 rfl (by decide +kernel))
theorem dX12_wayTest_205 : decode cX12_wayTest 205 = .ok (.ifCond .eq 36, 3) := dcS2 dO_153 (rdS2.ch sfx_cX12_wayTest_192 13 rfl (by decide +kernel))
theorem dX12_wayTest_208 : decode cX12_wayTest 208 = .ok (.aload_n 0, 1) := dc0 dO_42 (rdB.ch sfx_cX12_wayTest_192 16 rfl (by decide +kernel))
theorem dX12_wayTest_209 : decode cX12_wayTest 209 = .ok (.getfield 254, 3) := dcU2 dO_180 (rdU2.ch sfx_cX12_wayTest_192 17 rfl (by decide +kernel))
theorem dX12_wayTest_212 : decode cX12_wayTest 212 = .ok (.bipush 6, 2) := dcS1 dO_16 (rdS1.ch sfx_cX12_wayTest_192 20 rfl (by decide +kernel))
theorem dX12_wayTest_214 : decode cX12_wayTest 214 = .ok (.if_icmp .lt 8, 3) := dcS2 dO_161 (rdS2.ch sfx_cX12_wayTest_192 22 rfl (by decide +kernel))
theorem dX12_wayTest_217 : decode cX12_wayTest 217 = .ok (.aload_n 0, 1) := dc0 dO_42 (rdB.ch sfx_cX12_wayTest_192 25 rfl (by decide +kernel))
theorem dX12_wayTest_218 : decode cX12_wayTest 218 = .ok (.iconst 4, 1) := dc0 dO_7 (rdB.ch sfx_cX12_wayTest_192 26 rfl (by decide +kernel))
theorem dX12_wayTest_219 : decode cX12_wayTest 219 = .ok (.invokevirtual 240, 3) := dcU2 dO_182 (rdU2.ch sfx_cX12_wayTest_192 27 rfl (by decide +kernel))
theorem dX12_wayTest_222 : decode cX12_wayTest 222 = .ok (.aload_n 0, 1) := dc0 dO_42 (rdB.ch sfx_cX12_wayTest_192 30 rfl (by decide +kernel))
theorem dX12_wayTest_223 : decode cX12_wayTest 223 = .ok (.getfield 215, 3) := dcU2 dO_180 (rdU2.ch sfx_cX12_wayTest_192 31 rfl (by decide +kernel))
theorem dX12_wayTest_226 : decode cX12_wayTest 226 = .ok (.ifCond .eq 4, 3) := dcS2 dO_153 (rdS2.ch sfx_cX12_wayTest_192 34 rfl (by decide +kernel))
theorem dX12_wayTest_229 : decode cX12_wayTest 229 = .ok (.return_, 1) := dc0 dO_177 (rdB.ch sfx_cX12_wayTest_192 37 rfl (by decide +kernel))
theorem dX12_wayTest_230 : decode cX12_wayTest 230 = .ok (.aload_n 0, 1) := dc0 dO_42 (rdB.ch sfx_cX12_wayTest_192 38 rfl (by decide +kernel))
theorem dX12_wayTest_231 : decode cX12_wayTest 231 = .ok (.invokevirtual 285, 3) := dcU2 dO_182 (rdU2.ch sfx_cX12_wayTest_192 39 rfl (by decide +kernel))
theorem dX12_wayTest_234 : decode cX12_wayTest 234 = .ok (.aload_n 0, 1) := dc0 dO_42 (rdB.ch sfx_cX12_wayTest_192 42 rfl (by decide +kernel))
theorem dX12_wayTest_235 : decode cX12_wayTest 235 = .ok (.invokevirtual 247, 3) := dcU2 dO_182 (rdU2.ch sfx_cX12_wayTest_192 43 rfl (by decide +kernel))
theorem dX12_wayTest_238 : decode cX12_wayTest 238 = .ok (.goto (-210), 3) := dcS2 dO_167 (rdS2.ch sfx_cX12_wayTest_192 46 rfl (by decide +kernel))
theorem dX12_wayTest_241 : decode cX12_wayTest 241 = .ok (.aload_n 0, 1) := dc0 dO_42 (rdB.ch sfx_cX12_wayTest_192 49 rfl (by decide +kernel))
theorem dX12_wayTest_242 : decode cX12_wayTest 242 = .ok (.bipush 124, 2) := dcS1 dO_16 (rdS1.ch sfx_cX12_wayTest_192 50 rfl (by decide +kernel))
theorem dX12_wayTest_244 : decode cX12_wayTest 244 = .ok (.invokevirtual 244, 3) := dcU2 dO_182 (rdU2.ch sfx_cX12_wayTest_192 52 rfl (by decide +kernel))
theorem dX12_wayTest_247 : decode cX12_wayTest 247 = .ok (.ifCond .eq 38, 3) := dcS2 dO_153 (rdS2.ch sfx_cX12_wayTest_192 55 rfl (by decide +kernel))
theorem dX12_wayTest_250 : decode cX12_wayTest 250 = .ok (.aload_n 0, 1) := dc0 dO_42 (rdB.ch sfx_cX12_wayTest_192 58 rfl (by decide +kernel))
theorem dX12_wayTest_251 : decode cX12_wayTest 251 = .ok (.invokevirtual 302, 3) := dcU2 dO_182 (rdU2.ch sfx_cX12_wayTest_192 59 rfl (by decide +kernel))
theorem dX12_wayTest_254 : decode cX12_wayTest 254 = .ok (.aload_n 0, 1) := dc0 dO_42 (rdB.ch sfx_cX12_wayTest_192 62 rfl (by decide +kernel))
theorem dX12_wayTest_255 : decode cX12_wayTest 255 = .ok (.dup, 1) := dc0 dO_89 (rdB.ch sfx_cX12_wayTest_192 63 rfl (by decide +kernel))
theorem sfx_cX12_wayTest_256 : (cX12_wayTest.data.toList.drop 256).take 67 = [180, 0, 254, 4, 100, 181, 0, 254, 42, 182, 1, 7, 42, 89, 180, 0, 254, 4, 96, 181, 0, 254, 42, 182, 0, 247, 167, 255, 2, 42, 16, 41, 182, 0, 244, 153, 0, 101, 42, 182, 1, 46, 42, 89, 180, 0, 254, 4, 100, 181, 0, 254, 42, 182, 0, 247, 42, 180, 0, 254, 158, 0, 37, 42, 42, 180, 0] := by decide +kernel
theorem dX12_wayTest_256 : decode cX12_wayTest 256 = .ok (.getfield 254, 3) := dcU2 dO_180 (rdU2.ch sfx_cX12_wayTest_256 0 rfl (by decide +kernel))
theorem dX12_wayTest_259 : decode cX12_wayTest 259 = .ok (.iconst 1, 1) := dc0 dO_4 (rdB.ch sfx_cX12_wayTest_256 3 rfl (by decide +kernel))
theorem dX12_wayTest_260 : decode cX12_wayTest 260 = .ok (.isub, 1) := dc0 dO_100 (rdB.ch sfx_cX12_wayTest_256 4 rfl (by decide +kernel))
theorem dX12_wayTest_261 : decode cX12_wayTest 261 = .ok (.putfield 254, 3) := dcU2 dO_181 (rdU2.ch sfx_cX12_wayTest_256 5 rfl (by decide +kernel))
theorem dX12_wayTest_264 : decode cX12_wayTest 264 = .ok (.aload_n 0, 1) := dc0 dO_42 (rdB.ch sfx_cX12_wayTest_256 8 rfl (by decide +kernel))
theorem dX12_wayTest_265 : decode cX12_wayTest 265 = .ok (.invokevirtual 263, 3) := dcU2 dO_182 (rdU2.ch sfx_cX12_wayTest_256 9 rfl (by decide +kernel))
theorem dX12_wayTest_268 : decode cX12_wayTest 268 = .ok (.aload_n 0, 1) := dc0 dO_42 (rdB.ch sfx_cX12_wayTest_256 12 rfl (by decide +kernel))
theorem dX12_wayTest_269 : decode cX12_wayTest 269 = .ok (.dup, 1) := dc0 dO_89 (rdB.ch sfx_cX12_wayTest_256 13 rfl (by decide +kernel))
theorem dX12_wayTest_270 : decode cX12_wayTest 270 = .ok (.getfield 254, 3) := dcU2 dO_180 (rdU2.ch sfx_cX12_wayTest_256 14 rfl (by decide +kernel))
theorem dX12_wayTest_273 : decode cX12_wayTest 273 = .ok (.iconst 1, 1) := dc0 dO_4 (rdB.ch sfx_cX12_wayTest_256 17 rfl (by decide +kernel))
theorem dX12_wayTest_274 : decode cX12_wayTest 274 = .ok (.iadd, 1) := dc0 dO_96 (rdB.ch sfx_cX12_wayTest_256 18 rfl (by decide +kernel))
theorem dX12_wayTest_275 : decode cX12_wayTest 275 = .ok (.putfield 254, 3) := dcU2 dO_181 (rdU2.ch sfx_cX12_wayTest_256 19 rfl (by decide +kernel))
theorem dX12_wayTest_278 : decode cX12_wayTest 278 = .ok (.aload_n 0, 1) := dc0 dO_42 (rdB.ch sfx_cX12_wayTest_256 22 rfl (by decide +kernel))
theorem dX12_wayTest_279 : decode cX12_wayTest 279 = .ok (.invokevirtual 247, 3) := dcU2 dO_182 (rdU2.ch sfx_cX12_wayTest_256 23 rfl (by decide +kernel))
theorem dX12_wayTest_282 : decode cX12_wayTest 282 = .ok (.goto (-254), 3) := dcS2 dO_167 (rdS2.ch sfx_cX12_wayTest_256 26 rfl (by decide +kernel))
theorem dX12_wayTest_285 : decode cX12_wayTest 285 = .ok (.aload_n 0, 1) := dc0 dO_42 (rdB.ch sfx_cX12_wayTest_256 29 rfl (by decide +kernel))
theorem dX12_wayTest_286 : decode cX12_wayTest 286 = .ok (.bipush 41, 2) := dcS1 dO_16 (rdS1.ch sfx_cX12_wayTest_256 30 rfl (by decide +kernel))
theorem dX12_wayTest_288 : decode cX12_wayTest 288 = .ok (.invokevirtual 244, 3) := dcU2 dO_182 (rdU2.ch sfx_cX12_wayTest_256 32 rfl (by decide +kernel))
theorem dX12_wayTest_291 : decode cX12_wayTest 291 = .ok (.ifCond .eq 101, 3) := dcS2 dO_153 (rdS2.ch sfx_cX12_wayTest_256 35 rfl (by decide +kernel))
theorem dX12_wayTest_294 : decode cX12_wayTest 294 = .ok (.aload_n 0, 1) := dc0 dO_42 (rdB.ch sfx_cX12_wayTest_256 38 rfl (by decide +kernel))
theorem dX12_wayTest_295 : decode cX12_wayTest 295 = .ok (.invokevirtual 302, 3) := dcU2 dO_182 (rdU2.ch sfx_cX12_wayTest_256 39 rfl (by decide +kernel))
theorem dX12_wayTest_298 : decode cX12_wayTest 298 = .ok (.aload_n 0, 1) := dc0 dO_42 (rdB.ch sfx_cX12_wayTest_256 42 rfl (by decide +kernel))
theorem dX12_wayTest_299 : decode cX12_wayTest 299 = .ok (.dup, 1) := dc0 dO_89 (rdB.ch sfx_cX12_wayTest_256 43 rfl (by decide +kernel))
theorem dX12_wayTest_300 : decode cX12_wayTest 300 = .ok (.getfield 254, 3) := dcU2 dO_180 (rdU2.ch sfx_cX12_wayTest_256 44 rfl (by decide +kernel))
theorem dX12_wayTest_303 : decode cX12_wayTest 303 = .ok (.iconst 1, 1) := dc0 dO_4 (rdB.ch sfx_cX12_wayTest_256 47 rfl (by decide +kernel))
theorem dX12_wayTest_304 : decode cX12_wayTest 304 = .ok (.isub, 1) := dc0 dO_100 (rdB.ch sfx_cX12_wayTest_256 48 rfl (by decide +kernel))
theorem dX12_wayTest_305 : decode cX12_wayTest 305 = .ok (.putfield 254, 3) := dcU2 dO_181 (rdU2.ch sfx_cX12_wayTest_256 49 rfl (by decide +kernel))
theorem dX12_wayTest_308 : decode cX12_wayTest 308 = .ok (.aload_n 0, 1) := dc0 dO_42 (rdB.ch sfx_cX12_wayTest_256 52 rfl (by decide +kernel))
theorem dX12_wayTest_309 : decode cX12_wayTest 309 = .ok (.invokevirtual 247, 3) := dcU2 dO_182 (rdU2.ch sfx_cX12_wayTest_256 53 rfl (by decide +kernel))
theorem dX12_wayTest_312 : decode cX12_wayTest 312 = .ok (.aload_n 0, 1) := dc0 dO_42 (rdB.ch sfx_cX12_wayTest_256 56 rfl (by decide +kernel))
theorem dX12_wayTest_313 : decode cX12_wayTest 313 = .ok (.getfield 254, 3) := dcU2 dO_180 (rdU2.ch sfx_cX12_wayTest_256 57 rfl (by decide +kernel))
theorem dX12_wayTest_316 : decode cX12_wayTest 316 = .ok (.ifCond .le 37, 3) := dcS2 dO_158 (rdS2.ch sfx_cX12_wayTest_256 60 rfl (by decide +kernel))
theorem dX12_wayTest_319 : decode cX12_wayTest 319 = .ok (.aload_n 0, 1) := dc0 dO_42 (rdB.ch sfx_cX12_wayTest_256 63 rfl (by decide +kernel))
theorem sfx_cX12_wayTest_320 : (cX12_wayTest.data.toList.drop 320).take 67 = [42, 180, 0, 250, 42, 180, 0, 254, 47, 42, 180, 1, 1, 42, 180, 0, 254, 47, 42, 180, 1, 4, 42, 180, 0, 254, 51, 182, 1, 42, 167, 254, 190, 42, 180, 1, 49, 27, 42, 180, 0, 250, 3, 47, 80, 42, 180, 1, 52, 27, 42, 180, 1, 1, 3, 47, 80, 42, 180, 1, 55, 27, 42, 180, 1, 4, 3] := by decide +kernel
theorem dX12_wayTest_320 : decode cX12_wayTest 320 = .ok (.aload_n 0, 1) := dc0 dO_42 (rdB.ch sfx_cX12_wayTest_320 0 rfl (by decide +kernel))
theorem dX12_wayTest_321 : decode cX12_wayTest 321 = .ok (.getfield 250, 3) := dcU2 dO_180 (rdU2.ch sfx_cX12_wayTest_320 1 rfl (by decide +kernel))
theorem dX12_wayTest_324 : decode cX12_wayTest 324 = .ok (.aload_n 0, 1) := dc0 dO_42 (rdB.ch sfx_cX12_wayTest_320 4 rfl (by decide +kernel))
theorem dX12_wayTest_325 : decode cX12_wayTest 325 = .ok (.getfield 254, 3) := dcU2 dO_180 (rdU2.ch sfx_cX12_wayTest_320 5 rfl (by decide +kernel))
theorem dX12_wayTest_328 : decode cX12_wayTest 328 = .ok (.laload, 1) := dc0 dO_47 (rdB.ch sfx_cX12_wayTest_320 8 rfl (by decide +kernel))
theorem dX12_wayTest_329 : decode cX12_wayTest 329 = .ok (.aload_n 0, 1) := dc0 dO_42 (rdB.ch sfx_cX12_wayTest_320 9 rfl (by decide +kernel))
theorem dX12_wayTest_330 : decode cX12_wayTest 330 = .ok (.getfield 257, 3) := dcU2 dO_180 (rdU2.ch sfx_cX12_wayTest_320 10 rfl (by decide +kernel))
theorem dX12_wayTest_333 : decode cX12_wayTest 333 = .ok (.aload_n 0, 1) := dc0 dO_42 (rdB.ch sfx_cX12_wayTest_320 13 rfl (by decide +kernel))
theorem dX12_wayTest_334 : decode cX12_wayTest 334 = .ok (.getfield 254, 3) := dcU2 dO_180 (rdU2.ch sfx_cX12_wayTest_320 14 rfl (by decide +kernel))
theorem dX12_wayTest_337 : decode cX12_wayTest 337 = .ok (.laload, 1) := dc0 dO_47 (rdB.ch sfx_cX12_wayTest_320 17 rfl (by decide +kernel))
theorem dX12_wayTest_338 : decode cX12_wayTest 338 = .ok (.aload_n 0, 1) := dc0 dO_42 (rdB.ch sfx_cX12_wayTest_320 18 rfl (by decide +kernel))
theorem dX12_wayTest_339 : decode cX12_wayTest 339 = .ok (.getfield 260, 3) := dcU2 dO_180 (rdU2.ch sfx_cX12_wayTest_320 19 rfl (by decide +kernel))
theorem dX12_wayTest_342 : decode cX12_wayTest 342 = .ok (.aload_n 0, 1) := dc0 dO_42 (rdB.ch sfx_cX12_wayTest_320 22 rfl (by decide +kernel))
theorem dX12_wayTest_343 : decode cX12_wayTest 343 = .ok (.getfield 254, 3) := dcU2 dO_180 (rdU2.ch sfx_cX12_wayTest_320 23 rfl (by decide +kernel))
theorem dX12_wayTest_346 : decode cX12_wayTest 346 = .ok (.baload, 1) := dc0 dO_51 (rdB.ch sfx_cX12_wayTest_320 26 rfl (by decide +kernel))
theorem dX12_wayTest_347 : decode cX12_wayTest 347 = .ok (.invokevirtual 298, 3) := dcU2 dO_182 (rdU2.ch sfx_cX12_wayTest_320 27 rfl (by decide +kernel))
theorem dX12_wayTest_350 : decode cX12_wayTest 350 = .ok (.goto (-322), 3) := dcS2 dO_167 (rdS2.ch sfx_cX12_wayTest_320 30 rfl (by decide +kernel))
theorem dX12_wayTest_353 : decode cX12_wayTest 353 = .ok (.aload_n 0, 1) := dc0 dO_42 (rdB.ch sfx_cX12_wayTest_320 33 rfl (by decide +kernel))
theorem dX12_wayTest_354 : decode cX12_wayTest 354 = .ok (.getfield 305, 3) := dcU2 dO_180 (rdU2.ch sfx_cX12_wayTest_320 34 rfl (by decide +kernel))
theorem dX12_wayTest_357 : decode cX12_wayTest 357 = .ok (.iload_n 1, 1) := dc0 dO_27 (rdB.ch sfx_cX12_wayTest_320 37 rfl (by decide +kernel))
theorem dX12_wayTest_358 : decode cX12_wayTest 358 = .ok (.aload_n 0, 1) := dc0 dO_42 (rdB.ch sfx_cX12_wayTest_320 38 rfl (by decide +kernel))
theorem dX12_wayTest_359 : decode cX12_wayTest 359 = .ok (.getfield 250, 3) := dcU2 dO_180 (rdU2.ch sfx_cX12_wayTest_320 39 rfl (by decide +kernel))
theorem dX12_wayTest_362 : decode cX12_wayTest 362 = .ok (.iconst 0, 1) := dc0 dO_3 (rdB.ch sfx_cX12_wayTest_320 42 rfl (by decide +kernel))
theorem dX12_wayTest_363 : decode cX12_wayTest 363 = .ok (.laload, 1) := dc0 dO_47 (rdB.ch sfx_cX12_wayTest_320 43 rfl (by decide +kernel))
theorem dX12_wayTest_364 : decode cX12_wayTest 364 = .ok (.lastore, 1) := dc0 dO_80 (rdB.ch sfx_cX12_wayTest_320 44 rfl (by decide +kernel))
theorem dX12_wayTest_365 : decode cX12_wayTest 365 = .ok (.aload_n 0, 1) := dc0 dO_42 (rdB.ch sfx_cX12_wayTest_320 45 rfl (by decide +kernel))
theorem dX12_wayTest_366 : decode cX12_wayTest 366 = .ok (.getfield 308, 3) := dcU2 dO_180 (rdU2.ch sfx_cX12_wayTest_320 46 rfl (by decide +kernel))
theorem dX12_wayTest_369 : decode cX12_wayTest 369 = .ok (.iload_n 1, 1) := dc0 dO_27 (rdB.ch sfx_cX12_wayTest_320 49 rfl (by decide +kernel))
theorem dX12_wayTest_370 : decode cX12_wayTest 370 = .ok (.aload_n 0, 1) := dc0 dO_42 (rdB.ch sfx_cX12_wayTest_320 50 rfl (by decide +kernel))
theorem dX12_wayTest_371 : decode cX12_wayTest 371 = .ok (.getfield 257, 3) := dcU2 dO_180 (rdU2.ch sfx_cX12_wayTest_320 51 rfl (by decide +kernel))
theorem dX12_wayTest_374 : decode cX12_wayTest 374 = .ok (.iconst 0, 1) := dc0 dO_3 (rdB.ch sfx_cX12_wayTest_320 54 rfl (by decide +kernel))
theorem dX12_wayTest_375 : decode cX12_wayTest 375 = .ok (.laload, 1) := dc0 dO_47 (rdB.ch sfx_cX12_wayTest_320 55 rfl (by decide +kernel))
theorem dX12_wayTest_376 : decode cX12_wayTest 376 = .ok (.lastore, 1) := dc0 dO_80 (rdB.ch sfx_cX12_wayTest_320 56 rfl (by decide +kernel))
theorem dX12_wayTest_377 : decode cX12_wayTest 377 = .ok (.aload_n 0, 1) := dc0 dO_42 (rdB.ch sfx_cX12_wayTest_320 57 rfl (by decide +kernel))
theorem dX12_wayTest_378 : decode cX12_wayTest 378 = .ok (.getfield 311, 3) := dcU2 dO_180 (rdU2.ch sfx_cX12_wayTest_320 58 rfl (by decide +kernel))
theorem dX12_wayTest_381 : decode cX12_wayTest 381 = .ok (.iload_n 1, 1) := dc0 dO_27 (rdB.ch sfx_cX12_wayTest_320 61 rfl (by decide +kernel))
theorem dX12_wayTest_382 : decode cX12_wayTest 382 = .ok (.aload_n 0, 1) := dc0 dO_42 (rdB.ch sfx_cX12_wayTest_320 62 rfl (by decide +kernel))
theorem dX12_wayTest_383 : decode cX12_wayTest 383 = .ok (.getfield 260, 3) := dcU2 dO_180 (rdU2.ch sfx_cX12_wayTest_320 63 rfl (by decide +kernel))
theorem sfx_cX12_wayTest_384 : (cX12_wayTest.data.toList.drop 384).take 67 = [1, 4, 3, 51, 84, 167, 254, 151, 42, 5, 182, 0, 240, 167, 254, 143, 177] := by decide +kernel
theorem dX12_wayTest_386 : decode cX12_wayTest 386 = .ok (.iconst 0, 1) := dc0 dO_3 (rdB.ch sfx_cX12_wayTest_384 2 rfl (by decide +kernel))
theorem dX12_wayTest_387 : decode cX12_wayTest 387 = .ok (.baload, 1) := dc0 dO_51 (rdB.ch sfx_cX12_wayTest_384 3 rfl (by decide +kernel))
theorem dX12_wayTest_388 : decode cX12_wayTest 388 = .ok (.bastore, 1) := dc0 dO_84 (rdB.ch sfx_cX12_wayTest_384 4 rfl (by decide +kernel))
theorem dX12_wayTest_389 : decode cX12_wayTest 389 = .ok (.goto (-361), 3) := dcS2 dO_167 (rdS2.ch sfx_cX12_wayTest_384 5 rfl (by decide +kernel))
theorem dX12_wayTest_392 : decode cX12_wayTest 392 = .ok (.aload_n 0, 1) := dc0 dO_42 (rdB.ch sfx_cX12_wayTest_384 8 rfl (by decide +kernel))
theorem dX12_wayTest_393 : decode cX12_wayTest 393 = .ok (.iconst 2, 1) := dc0 dO_5 (rdB.ch sfx_cX12_wayTest_384 9 rfl (by decide +kernel))
theorem dX12_wayTest_394 : decode cX12_wayTest 394 = .ok (.invokevirtual 240, 3) := dcU2 dO_182 (rdU2.ch sfx_cX12_wayTest_384 10 rfl (by decide +kernel))
theorem dX12_wayTest_397 : decode cX12_wayTest 397 = .ok (.goto (-369), 3) := dcS2 dO_167 (rdS2.ch sfx_cX12_wayTest_384 13 rfl (by decide +kernel))
theorem dX12_wayTest_400 : decode cX12_wayTest 400 = .ok (.return_, 1) := dc0 dO_177 (rdB.ch sfx_cX12_wayTest_384 16 rfl (by decide +kernel))
theorem dX12_within_0 : decode cX12_within 0 = .ok (.aload_n 0, 1) := dc0 dO_42 (by decide +kernel)
theorem dX12_within_1 : decode cX12_within 1 = .ok (.getfield 230, 3) := dcU2 dO_180 (by decide +kernel)
theorem dX12_within_4 : decode cX12_within 4 = .ok (.iconst 2, 1) := dc0 dO_5 (by decide +kernel)
theorem dX12_within_5 : decode cX12_within 5 = .ok (.if_icmp .eq 11, 3) := dcS2 dO_159 (by decide +kernel)
theorem dX12_within_8 : decode cX12_within 8 = .ok (.aload_n 0, 1) := dc0 dO_42 (by decide +kernel)
theorem dX12_within_9 : decode cX12_within 9 = .ok (.iconst 2, 1) := dc0 dO_5 (by decide +kernel)
theorem dX12_within_10 : decode cX12_within 10 = .ok (.invokevirtual 240, 3) := dcU2 dO_182 (by decide +kernel)
theorem dX12_within_13 : decode cX12_within 13 = .ok (.goto 20, 3) := dcS2 dO_167 (by decide +kernel)
theorem dX12_within_16 : decode cX12_within 16 = .ok (.aload_n 0, 1) := dc0 dO_42 (by decide +kernel)
theorem dX12_within_17 : decode cX12_within 17 = .ok (.getfield 233, 3) := dcU2 dO_180 (by decide +kernel)
theorem dX12_within_20 : decode cX12_within 20 = .ok (.iload_n 1, 1) := dc0 dO_27 (by decide +kernel)
theorem dX12_within_21 : decode cX12_within 21 = .ok (.iload_n 2, 1) := dc0 dO_28 (by decide +kernel)
theorem dX12_within_22 : decode cX12_within 22 = .ok (.invokestatic 18, 3) := dcU2 dO_184 (by decide +kernel)
theorem dX12_within_25 : decode cX12_within 25 = .ok (.ifCond .ne 8, 3) := dcS2 dO_154 (by decide +kernel)
theorem dX12_within_28 : decode cX12_within 28 = .ok (.aload_n 0, 1) := dc0 dO_42 (by decide +kernel)
theorem dX12_within_29 : decode cX12_within 29 = .ok (.iconst 3, 1) := dc0 dO_6 (by decide +kernel)
theorem dX12_within_30 : decode cX12_within 30 = .ok (.invokevirtual 240, 3) := dcU2 dO_182 (by decide +kernel)
theorem dX12_within_33 : decode cX12_within 33 = .ok (.aload_n 0, 1) := dc0 dO_42 (by decide +kernel)
theorem dX12_within_34 : decode cX12_within 34 = .ok (.getfield 233, 3) := dcU2 dO_180 (by decide +kernel)
theorem dX12_within_37 : decode cX12_within 37 = .ok (.istore_n 3, 1) := dc0 dO_62 (by decide +kernel)
theorem dX12_within_38 : decode cX12_within 38 = .ok (.aload_n 0, 1) := dc0 dO_42 (by decide +kernel)
theorem dX12_within_39 : decode cX12_within 39 = .ok (.invokevirtual 247, 3) := dcU2 dO_182 (by decide +kernel)
theorem dX12_within_42 : decode cX12_within 42 = .ok (.iload_n 3, 1) := dc0 dO_29 (by decide +kernel)
theorem dX12_within_43 : decode cX12_within 43 = .ok (.ireturn, 1) := dc0 dO_172 (by decide +kernel)
end
section
theorem vc_X12_byteAt_g_1 {f_size p1 : Int} (h0 : f_size ≤ p1) (h1 : 0 ≤ f_size ∧ f_size ≤ 1000) (h2 : 0 ≤ p1 ∧ p1 ≤ 2147483647) : f_size ≤ p1 := by omega
theorem vc_X12_byteAt_g_2 {f_size p1 : Int} (h0 : f_size ≤ p1) (h1 : 0 ≤ f_size ∧ f_size ≤ 1000) (h2 : 0 ≤ p1 ∧ p1 ≤ 2147483647) : 0 ≤ (-1 : Int) → p1 < f_size := by omega
theorem vc_X12_byteAt_g_3 {f_size p1 : Int} (h0 : f_size ≤ p1) (h1 : 0 ≤ f_size ∧ f_size ≤ 1000) (h2 : 0 ≤ p1 ∧ p1 ≤ 2147483647) : p1 < f_size → 0 ≤ (-1 : Int) := by omega
theorem vc_X12_byteAt_g_4 {f_size p1 : Int} (h0 : p1 < f_size) (h1 : 0 ≤ f_size ∧ f_size ≤ 1000) (h2 : 0 ≤ p1 ∧ p1 ≤ 2147483647) : 0 ≤ p1 ∧ p1 ≤ 999 := by omega
theorem vc_X12_byteAt_g_5 {f_size p1 : Int} (h0 : p1 < f_size) (h1 : 0 ≤ f_size ∧ f_size ≤ 1000) (h2 : 0 ≤ p1 ∧ p1 ≤ 999) : 1 ≤ f_size ∧ f_size ≤ 1000 := by omega
theorem vc_X12_byteAt_g_6 {f_size p1 : Int} (h0 : p1 < f_size) (h1 : 1 ≤ f_size ∧ f_size ≤ 1000) (h2 : 0 ≤ p1 ∧ p1 ≤ 999) : p1 < f_size := by omega
theorem vc_X12_byteAt_g_7 {f_size p1 z39 : Int} (h0 : p1 < f_size) (h1 : 1 ≤ f_size ∧ f_size ≤ 1000) (h2 : 0 ≤ p1 ∧ p1 ≤ 999) (h3 : 0 ≤ z39 ∧ z39 ≤ 255) : 0 ≤ z39 → p1 < f_size := by omega
theorem vc_X12_byteAt_g_8 {f_size p1 z39 : Int} (h0 : p1 < f_size) (h1 : 1 ≤ f_size ∧ f_size ≤ 1000) (h2 : 0 ≤ p1 ∧ p1 ≤ 999) (h3 : 0 ≤ z39 ∧ z39 ≤ 255) : p1 < f_size → 0 ≤ z39 := by omega
set_option maxRecDepth 4000 in
set_option maxHeartbeats 4000000 in
theorem c_X12_byteAt_g {l : Launch} {D : va_G} {c : Nat → ClassId} {H0 : Heap} {sa : Nat × Nat × (Nat → Int32)} {w : mW} {μ : mM} (hw : mWF w) (hT : mT w μ) {p1 : Int} (hp1 : 0 ≤ p1 ∧ p1 ≤ 2147483647) {f_size : Int} (q_f_size : μ 106 1 = f_size) : sC (gG l D c H0 sa) mX12_byteAt 1 0 0 [.ref 106, iv p1] (mk w μ) (qP w μ (fun z => ((-1) ≤ z ∧ z ≤ 255) ∧ z = byteF μ p1 ∧ (0 ≤ z → p1 < f_size) ∧ (p1 < f_size → 0 ≤ z) ∧ True)) := by
  refine sC.of rfl (by decide) (le_t rfl) ?_
  have ht_f_size : (0 ≤ f_size ∧ f_size ≤ 1000) := by rw [← q_f_size]; exact hT 106 106 (A_106 hw) 1
  refine mr_lvE (lv' := [(0, .ref 106), (1, iv p1)]) rfl ?_
  refine mr_iload_n (pc := 0) (z := p1) dX12_byteAt_0 rfl rfl ?_
  refine sv_aload_n (pc := 1) dX12_byteAt_1 rfl rfl ?_
  refine gk_X12_1 (pc := 2) dX12_byteAt_2 wF_X12_1 (A_106 hw) q_f_size ?_
  refine mr_icmp_ge (pc := 5) (tgt := 21) dX12_byteAt_5 (by decide) (r32 hp1 rfl) (r32 ht_f_size rfl) (fun h33 => ?_) (fun h33 => ?_)
  · refine mr_iconst (pc := 21) (z := (-1)) dX12_byteAt_21 ?_
    exact mr_iretP dX12_byteAt_22 rfl (le_t rfl) (le_t rfl) ⟨(rW (c := (-1)) (d := 255) (rR (x := (-1))) rfl), (byteF.out q_f_size (vc_X12_byteAt_g_1 h33 ht_f_size hp1)), (vc_X12_byteAt_g_2 h33 ht_f_size hp1), (vc_X12_byteAt_g_3 h33 ht_f_size hp1), trivial⟩
  have h34 : 0 ≤ p1 ∧ p1 ≤ 999 := (vc_X12_byteAt_g_4 h33 ht_f_size hp1)
  have h35 : 1 ≤ f_size ∧ f_size ≤ 1000 := (vc_X12_byteAt_g_5 h33 ht_f_size h34)
  refine sv_aload_n (pc := 8) dX12_byteAt_8 rfl rfl ?_
  refine gf_X12_0 (pc := 9) dX12_byteAt_9 wF_X12_7 (A_106 hw) hT ?_
  refine mr_iload_n (pc := 12) (z := p1) dX12_byteAt_12 rfl rfl ?_
  refine la_107 (pc := 13) dX12_byteAt_13 (A_107 hw) hT (rIx (n := 1000) h34 rfl) fun z36 q37 h38 => ?_
  refine mr_sipush (pc := 14) (z := 255) dX12_byteAt_14 (by decide) ?_
  refine mr_iand (pc := 17) (x := z36) (y := 255) dX12_byteAt_17 ?_
  refine mr_gen (P := fun z => 0 ≤ z ∧ z ≤ 255) (rAndR (rR (x := 255)) rfl) fun z39 q40 h41 => ?_
  refine sv_goto (pc := 18) (tgt := 22) dX12_byteAt_18 (by decide) ?_
  exact mr_iretP dX12_byteAt_22 rfl (le_t rfl) (le_t rfl) ⟨(rW (c := (-1)) (d := 255) h41 rfl), (byteF.in q_f_size (vc_X12_byteAt_g_6 h33 h35 h34) q37 q40), (vc_X12_byteAt_g_7 h33 h35 h34 h41), (vc_X12_byteAt_g_8 h33 h35 h34 h41), trivial⟩
end
section
/-! no rows -/
end
section
/-! no rows -/
end
section
/-! no rows -/
end
section
/-! no rows -/
end
section
/-! no rows -/
end
section
/-! Small facts for the class. -/
theorem wG_XI_265 : Cond.constant "java/lang/Integer" 265 1431655765 ∈ lw_ok := lw_i4 185 rfl rfl
theorem wG_XI_266 : Cond.constant "java/lang/Integer" 266 858993459 ∈ lw_ok := lw_i4 186 rfl rfl
theorem wG_XI_267 : Cond.constant "java/lang/Integer" 267 252645135 ∈ lw_ok := lw_i4 187 rfl rfl
theorem tieEnd {μ : mM} {z p : Int} {c : Nat} (h : z < 0 ∨ ∃ b : Nat, μ 11 z.toNat = (b : Int) ∧ (μ b 0 = p ∨ μ b 1 = p)) (hz : ¬ z < 0) (q : μ 11 z.toNat = (c : Int)) : μ c 0 = p ∨ μ c 1 = p := by
  obtain ⟨b, h1, h2⟩ := h.resolve_left hz
  have e : b = c := by rw [h1] at q; omega
  rw [← e]; exact h2
end
section
theorem dJ_bits_0 : decode cJ_bits 0 = .ok (.iload_n 0, 1) := dc0 dO_26 (by decide +kernel)
theorem dJ_bits_1 : decode cJ_bits 1 = .ok (.iload_n 0, 1) := dc0 dO_26 (by decide +kernel)
theorem dJ_bits_2 : decode cJ_bits 2 = .ok (.iconst 1, 1) := dc0 dO_4 (by decide +kernel)
theorem dJ_bits_3 : decode cJ_bits 3 = .ok (.iushr, 1) := dc0 dO_124 (by decide +kernel)
theorem dJ_bits_4 : decode cJ_bits 4 = .ok (.ldc_w 265, 3) := dcU2 dO_19 (by decide +kernel)
theorem dJ_bits_7 : decode cJ_bits 7 = .ok (.iand, 1) := dc0 dO_126 (by decide +kernel)
theorem dJ_bits_8 : decode cJ_bits 8 = .ok (.isub, 1) := dc0 dO_100 (by decide +kernel)
theorem dJ_bits_9 : decode cJ_bits 9 = .ok (.istore_n 0, 1) := dc0 dO_59 (by decide +kernel)
theorem dJ_bits_10 : decode cJ_bits 10 = .ok (.iload_n 0, 1) := dc0 dO_26 (by decide +kernel)
theorem dJ_bits_11 : decode cJ_bits 11 = .ok (.ldc_w 266, 3) := dcU2 dO_19 (by decide +kernel)
theorem dJ_bits_14 : decode cJ_bits 14 = .ok (.iand, 1) := dc0 dO_126 (by decide +kernel)
theorem dJ_bits_15 : decode cJ_bits 15 = .ok (.iload_n 0, 1) := dc0 dO_26 (by decide +kernel)
theorem dJ_bits_16 : decode cJ_bits 16 = .ok (.iconst 2, 1) := dc0 dO_5 (by decide +kernel)
theorem dJ_bits_17 : decode cJ_bits 17 = .ok (.iushr, 1) := dc0 dO_124 (by decide +kernel)
theorem dJ_bits_18 : decode cJ_bits 18 = .ok (.ldc_w 266, 3) := dcU2 dO_19 (by decide +kernel)
theorem dJ_bits_21 : decode cJ_bits 21 = .ok (.iand, 1) := dc0 dO_126 (by decide +kernel)
theorem dJ_bits_22 : decode cJ_bits 22 = .ok (.iadd, 1) := dc0 dO_96 (by decide +kernel)
theorem dJ_bits_23 : decode cJ_bits 23 = .ok (.istore_n 0, 1) := dc0 dO_59 (by decide +kernel)
theorem dJ_bits_24 : decode cJ_bits 24 = .ok (.iload_n 0, 1) := dc0 dO_26 (by decide +kernel)
theorem dJ_bits_25 : decode cJ_bits 25 = .ok (.iload_n 0, 1) := dc0 dO_26 (by decide +kernel)
theorem dJ_bits_26 : decode cJ_bits 26 = .ok (.iconst 4, 1) := dc0 dO_7 (by decide +kernel)
theorem dJ_bits_27 : decode cJ_bits 27 = .ok (.iushr, 1) := dc0 dO_124 (by decide +kernel)
theorem dJ_bits_28 : decode cJ_bits 28 = .ok (.iadd, 1) := dc0 dO_96 (by decide +kernel)
theorem dJ_bits_29 : decode cJ_bits 29 = .ok (.ldc_w 267, 3) := dcU2 dO_19 (by decide +kernel)
theorem dJ_bits_32 : decode cJ_bits 32 = .ok (.iand, 1) := dc0 dO_126 (by decide +kernel)
theorem dJ_bits_33 : decode cJ_bits 33 = .ok (.istore_n 0, 1) := dc0 dO_59 (by decide +kernel)
theorem dJ_bits_34 : decode cJ_bits 34 = .ok (.iload_n 0, 1) := dc0 dO_26 (by decide +kernel)
theorem dJ_bits_35 : decode cJ_bits 35 = .ok (.iload_n 0, 1) := dc0 dO_26 (by decide +kernel)
theorem dJ_bits_36 : decode cJ_bits 36 = .ok (.bipush 8, 2) := dcS1 dO_16 (by decide +kernel)
theorem dJ_bits_38 : decode cJ_bits 38 = .ok (.iushr, 1) := dc0 dO_124 (by decide +kernel)
theorem dJ_bits_39 : decode cJ_bits 39 = .ok (.iadd, 1) := dc0 dO_96 (by decide +kernel)
theorem dJ_bits_40 : decode cJ_bits 40 = .ok (.istore_n 0, 1) := dc0 dO_59 (by decide +kernel)
theorem dJ_bits_41 : decode cJ_bits 41 = .ok (.iload_n 0, 1) := dc0 dO_26 (by decide +kernel)
theorem dJ_bits_42 : decode cJ_bits 42 = .ok (.iload_n 0, 1) := dc0 dO_26 (by decide +kernel)
theorem dJ_bits_43 : decode cJ_bits 43 = .ok (.bipush 16, 2) := dcS1 dO_16 (by decide +kernel)
theorem dJ_bits_45 : decode cJ_bits 45 = .ok (.iushr, 1) := dc0 dO_124 (by decide +kernel)
theorem dJ_bits_46 : decode cJ_bits 46 = .ok (.iadd, 1) := dc0 dO_96 (by decide +kernel)
theorem dJ_bits_47 : decode cJ_bits 47 = .ok (.istore_n 0, 1) := dc0 dO_59 (by decide +kernel)
theorem dJ_bits_48 : decode cJ_bits 48 = .ok (.iload_n 0, 1) := dc0 dO_26 (by decide +kernel)
theorem dJ_bits_49 : decode cJ_bits 49 = .ok (.bipush 63, 2) := dcS1 dO_16 (by decide +kernel)
theorem dJ_bits_51 : decode cJ_bits 51 = .ok (.iand, 1) := dc0 dO_126 (by decide +kernel)
theorem dJ_bits_52 : decode cJ_bits 52 = .ok (.ireturn, 1) := dc0 dO_172 (by decide +kernel)
theorem dX11_cone_0 : decode cX11_cone 0 = .ok (.aload_n 0, 1) := dc0 dO_42 (by decide +kernel)
theorem dX11_cone_1 : decode cX11_cone 1 = .ok (.iload_n 1, 1) := dc0 dO_27 (by decide +kernel)
theorem dX11_cone_2 : decode cX11_cone 2 = .ok (.invokevirtual 105, 3) := dcU2 dO_182 (by decide +kernel)
theorem dX11_cone_5 : decode cX11_cone 5 = .ok (.ifCond .eq 16, 3) := dcS2 dO_153 (by decide +kernel)
theorem dX11_cone_8 : decode cX11_cone 8 = .ok (.iload_n 2, 1) := dc0 dO_28 (by decide +kernel)
theorem dX11_cone_9 : decode cX11_cone 9 = .ok (.iconst (-1), 1) := dc0 dO_2 (by decide +kernel)
theorem dX11_cone_10 : decode cX11_cone 10 = .ok (.if_icmp .eq 13, 3) := dcS2 dO_159 (by decide +kernel)
theorem dX11_cone_13 : decode cX11_cone 13 = .ok (.aload_n 0, 1) := dc0 dO_42 (by decide +kernel)
theorem dX11_cone_14 : decode cX11_cone 14 = .ok (.iload_n 2, 1) := dc0 dO_28 (by decide +kernel)
theorem dX11_cone_15 : decode cX11_cone 15 = .ok (.invokevirtual 105, 3) := dcU2 dO_182 (by decide +kernel)
theorem dX11_cone_18 : decode cX11_cone 18 = .ok (.ifCond .ne 5, 3) := dcS2 dO_154 (by decide +kernel)
theorem dX11_cone_21 : decode cX11_cone 21 = .ok (.iconst (-1), 1) := dc0 dO_2 (by decide +kernel)
theorem dX11_cone_22 : decode cX11_cone 22 = .ok (.ireturn, 1) := dc0 dO_172 (by decide +kernel)
theorem dX11_cone_23 : decode cX11_cone 23 = .ok (.aload_n 0, 1) := dc0 dO_42 (by decide +kernel)
theorem dX11_cone_24 : decode cX11_cone 24 = .ok (.getfield 26, 3) := dcU2 dO_180 (by decide +kernel)
theorem dX11_cone_27 : decode cX11_cone 27 = .ok (.iload_n 1, 1) := dc0 dO_27 (by decide +kernel)
theorem dX11_cone_28 : decode cX11_cone 28 = .ok (.invokevirtual 154, 3) := dcU2 dO_182 (by decide +kernel)
theorem dX11_cone_31 : decode cX11_cone 31 = .ok (.istore_n 3, 1) := dc0 dO_62 (by decide +kernel)
theorem dX11_cone_32 : decode cX11_cone 32 = .ok (.iload_n 2, 1) := dc0 dO_28 (by decide +kernel)
theorem dX11_cone_33 : decode cX11_cone 33 = .ok (.iconst (-1), 1) := dc0 dO_2 (by decide +kernel)
theorem dX11_cone_34 : decode cX11_cone 34 = .ok (.if_icmp .ne 10, 3) := dcS2 dO_160 (by decide +kernel)
theorem dX11_cone_37 : decode cX11_cone 37 = .ok (.iload_n 3, 1) := dc0 dO_29 (by decide +kernel)
theorem dX11_cone_38 : decode cX11_cone 38 = .ok (.invokestatic 157, 3) := dcU2 dO_184 (by decide +kernel)
theorem dX11_cone_41 : decode cX11_cone 41 = .ok (.goto 8, 3) := dcS2 dO_167 (by decide +kernel)
theorem dX11_cone_44 : decode cX11_cone 44 = .ok (.iload_n 3, 1) := dc0 dO_29 (by decide +kernel)
theorem dX11_cone_45 : decode cX11_cone 45 = .ok (.iload_n 2, 1) := dc0 dO_28 (by decide +kernel)
theorem dX11_cone_46 : decode cX11_cone 46 = .ok (.ishr, 1) := dc0 dO_122 (by decide +kernel)
theorem dX11_cone_47 : decode cX11_cone 47 = .ok (.iconst 1, 1) := dc0 dO_4 (by decide +kernel)
theorem dX11_cone_48 : decode cX11_cone 48 = .ok (.iand, 1) := dc0 dO_126 (by decide +kernel)
theorem dX11_cone_49 : decode cX11_cone 49 = .ok (.ireturn, 1) := dc0 dO_172 (by decide +kernel)
theorem dX11_judge_0 : decode cX11_judge 0 = .ok (.iload_n 1, 1) := dc0 dO_27 (by decide +kernel)
theorem dX11_judge_1 : decode cX11_judge 1 = .ok (.ifCond .lt 30, 3) := dcS2 dO_155 (by decide +kernel)
theorem dX11_judge_4 : decode cX11_judge 4 = .ok (.iload_n 1, 1) := dc0 dO_27 (by decide +kernel)
theorem dX11_judge_5 : decode cX11_judge 5 = .ok (.aload_n 0, 1) := dc0 dO_42 (by decide +kernel)
theorem dX11_judge_6 : decode cX11_judge 6 = .ok (.getfield 35, 3) := dcU2 dO_180 (by decide +kernel)
theorem dX11_judge_9 : decode cX11_judge 9 = .ok (.getfield 205, 3) := dcU2 dO_180 (by decide +kernel)
theorem dX11_judge_12 : decode cX11_judge 12 = .ok (.if_icmp .ge 19, 3) := dcS2 dO_162 (by decide +kernel)
theorem dX11_judge_15 : decode cX11_judge 15 = .ok (.aload_n 0, 1) := dc0 dO_42 (by decide +kernel)
theorem dX11_judge_16 : decode cX11_judge 16 = .ok (.iload_n 2, 1) := dc0 dO_28 (by decide +kernel)
theorem dX11_judge_17 : decode cX11_judge 17 = .ok (.invokevirtual 105, 3) := dcU2 dO_182 (by decide +kernel)
theorem dX11_judge_20 : decode cX11_judge 20 = .ok (.ifCond .eq 11, 3) := dcS2 dO_153 (by decide +kernel)
theorem dX11_judge_23 : decode cX11_judge 23 = .ok (.aload_n 0, 1) := dc0 dO_42 (by decide +kernel)
theorem dX11_judge_24 : decode cX11_judge 24 = .ok (.iload_n 3, 1) := dc0 dO_29 (by decide +kernel)
theorem dX11_judge_25 : decode cX11_judge 25 = .ok (.invokevirtual 105, 3) := dcU2 dO_182 (by decide +kernel)
theorem dX11_judge_28 : decode cX11_judge 28 = .ok (.ifCond .ne 5, 3) := dcS2 dO_154 (by decide +kernel)
theorem dX11_judge_31 : decode cX11_judge 31 = .ok (.iconst (-1), 1) := dc0 dO_2 (by decide +kernel)
theorem dX11_judge_32 : decode cX11_judge 32 = .ok (.ireturn, 1) := dc0 dO_172 (by decide +kernel)
theorem dX11_judge_33 : decode cX11_judge 33 = .ok (.aload_n 0, 1) := dc0 dO_42 (by decide +kernel)
theorem dX11_judge_34 : decode cX11_judge 34 = .ok (.getfield 26, 3) := dcU2 dO_180 (by decide +kernel)
theorem dX11_judge_37 : decode cX11_judge 37 = .ok (.iload_n 2, 1) := dc0 dO_28 (by decide +kernel)
theorem dX11_judge_38 : decode cX11_judge 38 = .ok (.iload_n 3, 1) := dc0 dO_29 (by decide +kernel)
theorem dX11_judge_39 : decode cX11_judge 39 = .ok (.invokevirtual 109, 3) := dcU2 dO_182 (by decide +kernel)
theorem dX11_judge_42 : decode cX11_judge 42 = .ok (.istore 4, 2) := dcU1 dO_54 (by decide +kernel)
theorem dX11_judge_44 : decode cX11_judge 44 = .ok (.iload 4, 2) := dcU1 dO_21 (by decide +kernel)
theorem dX11_judge_46 : decode cX11_judge 46 = .ok (.ifCond .ge 5, 3) := dcS2 dO_156 (by decide +kernel)
theorem dX11_judge_49 : decode cX11_judge 49 = .ok (.iconst (-1), 1) := dc0 dO_2 (by decide +kernel)
theorem dX11_judge_50 : decode cX11_judge 50 = .ok (.ireturn, 1) := dc0 dO_172 (by decide +kernel)
theorem dX11_judge_51 : decode cX11_judge 51 = .ok (.aload_n 0, 1) := dc0 dO_42 (by decide +kernel)
theorem dX11_judge_52 : decode cX11_judge 52 = .ok (.getfield 19, 3) := dcU2 dO_180 (by decide +kernel)
theorem dX11_judge_55 : decode cX11_judge 55 = .ok (.getfield 246, 3) := dcU2 dO_180 (by decide +kernel)
theorem dX11_judge_58 : decode cX11_judge 58 = .ok (.ifCond .ne 6, 3) := dcS2 dO_154 (by decide +kernel)
theorem dX11_judge_61 : decode cX11_judge 61 = .ok (.bipush (-2), 2) := dcS1 dO_16 (by decide +kernel)
theorem dX11_judge_63 : decode cX11_judge 63 = .ok (.ireturn, 1) := dc0 dO_172 (by decide +kernel)
theorem dX11_judge_64 : decode cX11_judge 64 = .ok (.aload_n 0, 1) := dc0 dO_42 (by decide +kernel)
theorem dX11_judge_65 : decode cX11_judge 65 = .ok (.getfield 26, 3) := dcU2 dO_180 (by decide +kernel)
theorem dX11_judge_68 : decode cX11_judge 68 = .ok (.getfield 122, 3) := dcU2 dO_180 (by decide +kernel)
theorem dX11_judge_71 : decode cX11_judge 71 = .ok (.iload 4, 2) := dcU1 dO_21 (by decide +kernel)
theorem dX11_judge_73 : decode cX11_judge 73 = .ok (.aaload, 1) := dc0 dO_50 (by decide +kernel)
theorem dX11_judge_74 : decode cX11_judge 74 = .ok (.astore 5, 2) := dcU1 dO_58 (by decide +kernel)
theorem dX11_judge_76 : decode cX11_judge 76 = .ok (.aload_n 0, 1) := dc0 dO_42 (by decide +kernel)
theorem dX11_judge_77 : decode cX11_judge 77 = .ok (.getfield 35, 3) := dcU2 dO_180 (by decide +kernel)
theorem dX11_judge_80 : decode cX11_judge 80 = .ok (.iload_n 1, 1) := dc0 dO_27 (by decide +kernel)
theorem dX11_judge_81 : decode cX11_judge 81 = .ok (.aload_n 0, 1) := dc0 dO_42 (by decide +kernel)
theorem dX11_judge_82 : decode cX11_judge 82 = .ok (.getfield 19, 3) := dcU2 dO_180 (by decide +kernel)
theorem dX11_judge_85 : decode cX11_judge 85 = .ok (.aload 5, 2) := dcU1 dO_25 (by decide +kernel)
theorem dX11_judge_87 : decode cX11_judge 87 = .ok (.aload 5, 2) := dcU1 dO_25 (by decide +kernel)
theorem dX11_judge_89 : decode cX11_judge 89 = .ok (.iload_n 2, 1) := dc0 dO_28 (by decide +kernel)
theorem dX11_judge_90 : decode cX11_judge 90 = .ok (.invokevirtual 249, 3) := dcU2 dO_182 (by decide +kernel)
theorem dX11_judge_93 : decode cX11_judge 93 = .ok (.invokevirtual 252, 3) := dcU2 dO_182 (by decide +kernel)
theorem dX11_judge_96 : decode cX11_judge 96 = .ok (.ifCond .eq 7, 3) := dcS2 dO_153 (by decide +kernel)
theorem dX11_judge_99 : decode cX11_judge 99 = .ok (.iconst 1, 1) := dc0 dO_4 (by decide +kernel)
theorem dX11_judge_100 : decode cX11_judge 100 = .ok (.goto 4, 3) := dcS2 dO_167 (by decide +kernel)
theorem dX11_judge_103 : decode cX11_judge 103 = .ok (.iconst 0, 1) := dc0 dO_3 (by decide +kernel)
theorem dX11_judge_104 : decode cX11_judge 104 = .ok (.ireturn, 1) := dc0 dO_172 (by decide +kernel)
theorem dX11_least_0 : decode cX11_least 0 = .ok (.aload_n 0, 1) := dc0 dO_42 (by decide +kernel)
theorem dX11_least_1 : decode cX11_least 1 = .ok (.iload_n 1, 1) := dc0 dO_27 (by decide +kernel)
theorem dX11_least_2 : decode cX11_least 2 = .ok (.invokevirtual 105, 3) := dcU2 dO_182 (by decide +kernel)
theorem dX11_least_5 : decode cX11_least 5 = .ok (.ifCond .eq 14, 3) := dcS2 dO_153 (by decide +kernel)
theorem dX11_least_8 : decode cX11_least 8 = .ok (.aload_n 0, 1) := dc0 dO_42 (by decide +kernel)
theorem dX11_least_9 : decode cX11_least 9 = .ok (.getfield 65, 3) := dcU2 dO_180 (by decide +kernel)
theorem dX11_least_12 : decode cX11_least 12 = .ok (.iload_n 1, 1) := dc0 dO_27 (by decide +kernel)
theorem dX11_least_13 : decode cX11_least 13 = .ok (.invokevirtual 385, 3) := dcU2 dO_182 (by decide +kernel)
theorem dX11_least_16 : decode cX11_least 16 = .ok (.goto 4, 3) := dcS2 dO_167 (by decide +kernel)
theorem dX11_least_19 : decode cX11_least 19 = .ok (.iconst (-1), 1) := dc0 dO_2 (by decide +kernel)
theorem dX11_least_20 : decode cX11_least 20 = .ok (.ireturn, 1) := dc0 dO_172 (by decide +kernel)
theorem dX11_message_0 : decode cX11_message 0 = .ok (.aload_n 0, 1) := dc0 dO_42 (by decide +kernel)
theorem dX11_message_1 : decode cX11_message 1 = .ok (.getfield 58, 3) := dcU2 dO_180 (by decide +kernel)
theorem dX11_message_4 : decode cX11_message 4 = .ok (.aload_n 0, 1) := dc0 dO_42 (by decide +kernel)
theorem dX11_message_5 : decode cX11_message 5 = .ok (.getfield 9, 3) := dcU2 dO_180 (by decide +kernel)
theorem dX11_message_8 : decode cX11_message 8 = .ok (.aload_n 0, 1) := dc0 dO_42 (by decide +kernel)
theorem dX11_message_9 : decode cX11_message 9 = .ok (.getfield 76, 3) := dcU2 dO_180 (by decide +kernel)
theorem dX11_message_12 : decode cX11_message 12 = .ok (.invokevirtual 339, 3) := dcU2 dO_182 (by decide +kernel)
theorem dX11_message_15 : decode cX11_message 15 = .ok (.istore_n 1, 1) := dc0 dO_60 (by decide +kernel)
theorem dX11_message_16 : decode cX11_message 16 = .ok (.aload_n 0, 1) := dc0 dO_42 (by decide +kernel)
theorem dX11_message_17 : decode cX11_message 17 = .ok (.iconst 0, 1) := dc0 dO_3 (by decide +kernel)
theorem dX11_message_18 : decode cX11_message 18 = .ok (.putfield 76, 3) := dcU2 dO_181 (by decide +kernel)
theorem dX11_message_21 : decode cX11_message 21 = .ok (.iload_n 1, 1) := dc0 dO_27 (by decide +kernel)
theorem dX11_message_22 : decode cX11_message 22 = .ok (.ireturn, 1) := dc0 dO_172 (by decide +kernel)
theorem dX2_leastBelow_0 : decode cX2_leastBelow 0 = .ok (.iload_n 3, 1) := dc0 dO_29 (by decide +kernel)
theorem dX2_leastBelow_1 : decode cX2_leastBelow 1 = .ok (.bipush 32, 2) := dcS1 dO_16 (by decide +kernel)
theorem dX2_leastBelow_3 : decode cX2_leastBelow 3 = .ok (.if_icmp .ge 13, 3) := dcS2 dO_162 (by decide +kernel)
theorem dX2_leastBelow_6 : decode cX2_leastBelow 6 = .ok (.aload_n 0, 1) := dc0 dO_42 (by decide +kernel)
theorem dX2_leastBelow_7 : decode cX2_leastBelow 7 = .ok (.iload_n 1, 1) := dc0 dO_27 (by decide +kernel)
theorem dX2_leastBelow_8 : decode cX2_leastBelow 8 = .ok (.iload_n 2, 1) := dc0 dO_28 (by decide +kernel)
theorem dX2_leastBelow_9 : decode cX2_leastBelow 9 = .ok (.iload_n 3, 1) := dc0 dO_29 (by decide +kernel)
theorem dX2_leastBelow_10 : decode cX2_leastBelow 10 = .ok (.invokevirtual 106, 3) := dcU2 dO_182 (by decide +kernel)
theorem dX2_leastBelow_13 : decode cX2_leastBelow 13 = .ok (.ifCond .ne 13, 3) := dcS2 dO_154 (by decide +kernel)
theorem dX2_leastBelow_16 : decode cX2_leastBelow 16 = .ok (.aload_n 0, 1) := dc0 dO_42 (by decide +kernel)
theorem dX2_leastBelow_17 : decode cX2_leastBelow 17 = .ok (.iload_n 1, 1) := dc0 dO_27 (by decide +kernel)
theorem dX2_leastBelow_18 : decode cX2_leastBelow 18 = .ok (.iload_n 2, 1) := dc0 dO_28 (by decide +kernel)
theorem dX2_leastBelow_19 : decode cX2_leastBelow 19 = .ok (.invokevirtual 60, 3) := dcU2 dO_182 (by decide +kernel)
theorem dX2_leastBelow_22 : decode cX2_leastBelow 22 = .ok (.invokestatic 110, 3) := dcU2 dO_184 (by decide +kernel)
theorem dX2_leastBelow_25 : decode cX2_leastBelow 25 = .ok (.ireturn, 1) := dc0 dO_172 (by decide +kernel)
theorem dX2_leastBelow_26 : decode cX2_leastBelow 26 = .ok (.aload_n 0, 1) := dc0 dO_42 (by decide +kernel)
theorem dX2_leastBelow_27 : decode cX2_leastBelow 27 = .ok (.iload_n 1, 1) := dc0 dO_27 (by decide +kernel)
theorem dX2_leastBelow_28 : decode cX2_leastBelow 28 = .ok (.iload_n 2, 1) := dc0 dO_28 (by decide +kernel)
theorem dX2_leastBelow_29 : decode cX2_leastBelow 29 = .ok (.iload_n 3, 1) := dc0 dO_29 (by decide +kernel)
theorem dX2_leastBelow_30 : decode cX2_leastBelow 30 = .ok (.iconst 1, 1) := dc0 dO_4 (by decide +kernel)
theorem dX2_leastBelow_31 : decode cX2_leastBelow 31 = .ok (.iadd, 1) := dc0 dO_96 (by decide +kernel)
theorem dX2_leastBelow_32 : decode cX2_leastBelow 32 = .ok (.invokevirtual 101, 3) := dcU2 dO_182 (by decide +kernel)
theorem dX2_leastBelow_35 : decode cX2_leastBelow 35 = .ok (.istore 4, 2) := dcU1 dO_54 (by decide +kernel)
theorem dX2_leastBelow_37 : decode cX2_leastBelow 37 = .ok (.aload_n 0, 1) := dc0 dO_42 (by decide +kernel)
theorem dX2_leastBelow_38 : decode cX2_leastBelow 38 = .ok (.iload_n 1, 1) := dc0 dO_27 (by decide +kernel)
theorem dX2_leastBelow_39 : decode cX2_leastBelow 39 = .ok (.iload_n 2, 1) := dc0 dO_28 (by decide +kernel)
theorem dX2_leastBelow_40 : decode cX2_leastBelow 40 = .ok (.iconst 1, 1) := dc0 dO_4 (by decide +kernel)
theorem dX2_leastBelow_41 : decode cX2_leastBelow 41 = .ok (.bipush 31, 2) := dcS1 dO_16 (by decide +kernel)
theorem dX2_leastBelow_43 : decode cX2_leastBelow 43 = .ok (.iload_n 3, 1) := dc0 dO_29 (by decide +kernel)
theorem dX2_leastBelow_44 : decode cX2_leastBelow 44 = .ok (.isub, 1) := dc0 dO_100 (by decide +kernel)
theorem dX2_leastBelow_45 : decode cX2_leastBelow 45 = .ok (.ishl, 1) := dc0 dO_120 (by decide +kernel)
theorem dX2_leastBelow_46 : decode cX2_leastBelow 46 = .ok (.ior, 1) := dc0 dO_128 (by decide +kernel)
theorem dX2_leastBelow_47 : decode cX2_leastBelow 47 = .ok (.iload_n 3, 1) := dc0 dO_29 (by decide +kernel)
theorem dX2_leastBelow_48 : decode cX2_leastBelow 48 = .ok (.iconst 1, 1) := dc0 dO_4 (by decide +kernel)
theorem dX2_leastBelow_49 : decode cX2_leastBelow 49 = .ok (.iadd, 1) := dc0 dO_96 (by decide +kernel)
theorem dX2_leastBelow_50 : decode cX2_leastBelow 50 = .ok (.invokevirtual 101, 3) := dcU2 dO_182 (by decide +kernel)
theorem dX2_leastBelow_53 : decode cX2_leastBelow 53 = .ok (.istore 5, 2) := dcU1 dO_54 (by decide +kernel)
theorem dX2_leastBelow_55 : decode cX2_leastBelow 55 = .ok (.iload 4, 2) := dcU1 dO_21 (by decide +kernel)
theorem dX2_leastBelow_57 : decode cX2_leastBelow 57 = .ok (.iload 5, 2) := dcU1 dO_21 (by decide +kernel)
theorem dX2_leastBelow_59 : decode cX2_leastBelow 59 = .ok (.iand, 1) := dc0 dO_126 (by decide +kernel)
theorem dX2_leastBelow_60 : decode cX2_leastBelow 60 = .ok (.ifCond .eq 9, 3) := dcS2 dO_153 (by decide +kernel)
theorem dX2_leastBelow_63 : decode cX2_leastBelow 63 = .ok (.iload 4, 2) := dcU1 dO_21 (by decide +kernel)
theorem dX2_leastBelow_65 : decode cX2_leastBelow 65 = .ok (.iload 5, 2) := dcU1 dO_21 (by decide +kernel)
theorem dX2_leastBelow_67 : decode cX2_leastBelow 67 = .ok (.iand, 1) := dc0 dO_126 (by decide +kernel)
theorem dX2_leastBelow_68 : decode cX2_leastBelow 68 = .ok (.ireturn, 1) := dc0 dO_172 (by decide +kernel)
theorem dX2_leastBelow_69 : decode cX2_leastBelow 69 = .ok (.aload_n 0, 1) := dc0 dO_42 (by decide +kernel)
theorem dX2_leastBelow_70 : decode cX2_leastBelow 70 = .ok (.dup, 1) := dc0 dO_89 (by decide +kernel)
theorem dX2_leastBelow_71 : decode cX2_leastBelow 71 = .ok (.getfield 98, 3) := dcU2 dO_180 (by decide +kernel)
theorem dX2_leastBelow_74 : decode cX2_leastBelow 74 = .ok (.iconst 1, 1) := dc0 dO_4 (by decide +kernel)
theorem dX2_leastBelow_75 : decode cX2_leastBelow 75 = .ok (.iadd, 1) := dc0 dO_96 (by decide +kernel)
theorem dX2_leastBelow_76 : decode cX2_leastBelow 76 = .ok (.putfield 98, 3) := dcU2 dO_181 (by decide +kernel)
theorem dX2_leastBelow_79 : decode cX2_leastBelow 79 = .ok (.iload 4, 2) := dcU1 dO_21 (by decide +kernel)
theorem dX2_leastBelow_81 : decode cX2_leastBelow 81 = .ok (.iload 5, 2) := dcU1 dO_21 (by decide +kernel)
theorem dX2_leastBelow_83 : decode cX2_leastBelow 83 = .ok (.ior, 1) := dc0 dO_128 (by decide +kernel)
theorem dX2_leastBelow_84 : decode cX2_leastBelow 84 = .ok (.ireturn, 1) := dc0 dO_172 (by decide +kernel)
theorem dX2_leastTable_0 : decode cX2_leastTable 0 = .ok (.aload_n 0, 1) := dc0 dO_42 (by decide +kernel)
theorem dX2_leastTable_1 : decode cX2_leastTable 1 = .ok (.iconst 0, 1) := dc0 dO_3 (by decide +kernel)
theorem dX2_leastTable_2 : decode cX2_leastTable 2 = .ok (.putfield 98, 3) := dcU2 dO_181 (by decide +kernel)
theorem dX2_leastTable_5 : decode cX2_leastTable 5 = .ok (.aload_n 0, 1) := dc0 dO_42 (by decide +kernel)
theorem dX2_leastTable_6 : decode cX2_leastTable 6 = .ok (.iload_n 1, 1) := dc0 dO_27 (by decide +kernel)
theorem dX2_leastTable_7 : decode cX2_leastTable 7 = .ok (.iconst 0, 1) := dc0 dO_3 (by decide +kernel)
theorem dX2_leastTable_8 : decode cX2_leastTable 8 = .ok (.iconst 0, 1) := dc0 dO_3 (by decide +kernel)
theorem dX2_leastTable_9 : decode cX2_leastTable 9 = .ok (.invokevirtual 101, 3) := dcU2 dO_182 (by decide +kernel)
theorem dX2_leastTable_12 : decode cX2_leastTable 12 = .ok (.istore_n 2, 1) := dc0 dO_61 (by decide +kernel)
theorem dX2_leastTable_13 : decode cX2_leastTable 13 = .ok (.iload_n 2, 1) := dc0 dO_28 (by decide +kernel)
theorem dX2_leastTable_14 : decode cX2_leastTable 14 = .ok (.ldc 105, 2) := dcU1 dO_18 (by decide +kernel)
theorem dX2_leastTable_16 : decode cX2_leastTable 16 = .ok (.iand, 1) := dc0 dO_126 (by decide +kernel)
theorem dX2_leastTable_17 : decode cX2_leastTable 17 = .ok (.ifCond .eq 10, 3) := dcS2 dO_153 (by decide +kernel)
theorem dX2_leastTable_20 : decode cX2_leastTable 20 = .ok (.aload_n 0, 1) := dc0 dO_42 (by decide +kernel)
theorem dX2_leastTable_21 : decode cX2_leastTable 21 = .ok (.getfield 98, 3) := dcU2 dO_180 (by decide +kernel)
theorem dX2_leastTable_24 : decode cX2_leastTable 24 = .ok (.goto 9, 3) := dcS2 dO_167 (by decide +kernel)
theorem dX2_leastTable_27 : decode cX2_leastTable 27 = .ok (.aload_n 0, 1) := dc0 dO_42 (by decide +kernel)
theorem dX2_leastTable_28 : decode cX2_leastTable 28 = .ok (.getfield 98, 3) := dcU2 dO_180 (by decide +kernel)
theorem dX2_leastTable_31 : decode cX2_leastTable 31 = .ok (.iconst 1, 1) := dc0 dO_4 (by decide +kernel)
theorem dX2_leastTable_32 : decode cX2_leastTable 32 = .ok (.iadd, 1) := dc0 dO_96 (by decide +kernel)
theorem dX2_leastTable_33 : decode cX2_leastTable 33 = .ok (.ireturn, 1) := dc0 dO_172 (by decide +kernel)
theorem dX3_carry_0 : decode cX3_carry 0 = .ok (.iload_n 1, 1) := dc0 dO_27 (by decide +kernel)
theorem dX3_carry_1 : decode cX3_carry 1 = .ok (.sipush 192, 3) := dcS2 dO_17 (by decide +kernel)
theorem dX3_carry_4 : decode cX3_carry 4 = .ok (.iand, 1) := dc0 dO_126 (by decide +kernel)
theorem dX3_carry_5 : decode cX3_carry 5 = .ok (.sipush 192, 3) := dcS2 dO_17 (by decide +kernel)
theorem dX3_carry_8 : decode cX3_carry 8 = .ok (.if_icmp .ne 23, 3) := dcS2 dO_160 (by decide +kernel)
theorem dX3_carry_11 : decode cX3_carry 11 = .ok (.aload_n 0, 1) := dc0 dO_42 (by decide +kernel)
theorem dX3_carry_12 : decode cX3_carry 12 = .ok (.getfield 15, 3) := dcU2 dO_180 (by decide +kernel)
theorem dX3_carry_15 : decode cX3_carry 15 = .ok (.aload_n 0, 1) := dc0 dO_42 (by decide +kernel)
theorem dX3_carry_16 : decode cX3_carry 16 = .ok (.getfield 79, 3) := dcU2 dO_180 (by decide +kernel)
theorem dX3_carry_19 : decode cX3_carry 19 = .ok (.iload_n 2, 1) := dc0 dO_28 (by decide +kernel)
theorem dX3_carry_20 : decode cX3_carry 20 = .ok (.iastore, 1) := dc0 dO_79 (by decide +kernel)
theorem dX3_carry_21 : decode cX3_carry 21 = .ok (.aload_n 0, 1) := dc0 dO_42 (by decide +kernel)
theorem dX3_carry_22 : decode cX3_carry 22 = .ok (.dup, 1) := dc0 dO_89 (by decide +kernel)
theorem dX3_carry_23 : decode cX3_carry 23 = .ok (.getfield 79, 3) := dcU2 dO_180 (by decide +kernel)
theorem dX3_carry_26 : decode cX3_carry 26 = .ok (.iconst 1, 1) := dc0 dO_4 (by decide +kernel)
theorem dX3_carry_27 : decode cX3_carry 27 = .ok (.iadd, 1) := dc0 dO_96 (by decide +kernel)
theorem dX3_carry_28 : decode cX3_carry 28 = .ok (.putfield 79, 3) := dcU2 dO_181 (by decide +kernel)
theorem dX3_carry_31 : decode cX3_carry 31 = .ok (.return_, 1) := dc0 dO_177 (by decide +kernel)
theorem dX3_read_0 : decode cX3_read 0 = .ok (.aload_n 0, 1) := dc0 dO_42 (by decide +kernel)
theorem dX3_read_1 : decode cX3_read 1 = .ok (.aload_n 1, 1) := dc0 dO_43 (by decide +kernel)
theorem dX3_read_2 : decode cX3_read 2 = .ok (.putfield 41, 3) := dcU2 dO_181 (by decide +kernel)
theorem dX3_read_5 : decode cX3_read 5 = .ok (.aload_n 0, 1) := dc0 dO_42 (by decide +kernel)
theorem dX3_read_6 : decode cX3_read 6 = .ok (.invokevirtual 44, 3) := dcU2 dO_182 (by decide +kernel)
theorem dX3_read_9 : decode cX3_read 9 = .ok (.aload_n 0, 1) := dc0 dO_42 (by decide +kernel)
theorem dX3_read_10 : decode cX3_read 10 = .ok (.iload_n 2, 1) := dc0 dO_28 (by decide +kernel)
theorem dX3_read_11 : decode cX3_read 11 = .ok (.invokevirtual 47, 3) := dcU2 dO_182 (by decide +kernel)
theorem dX3_read_14 : decode cX3_read 14 = .ok (.aload_n 0, 1) := dc0 dO_42 (by decide +kernel)
theorem dX3_read_15 : decode cX3_read 15 = .ok (.getfield 22, 3) := dcU2 dO_180 (by decide +kernel)
theorem dX3_read_18 : decode cX3_read 18 = .ok (.iconst 1, 1) := dc0 dO_4 (by decide +kernel)
theorem dX3_read_19 : decode cX3_read 19 = .ok (.iaload, 1) := dc0 dO_46 (by decide +kernel)
theorem dX3_read_20 : decode cX3_read 20 = .ok (.ldc 21, 2) := dcU1 dO_18 (by decide +kernel)
theorem dX3_read_22 : decode cX3_read 22 = .ok (.if_icmp .eq 5, 3) := dcS2 dO_159 (by decide +kernel)
theorem dX3_read_25 : decode cX3_read 25 = .ok (.iconst 1, 1) := dc0 dO_4 (by decide +kernel)
theorem dX3_read_26 : decode cX3_read 26 = .ok (.ireturn, 1) := dc0 dO_172 (by decide +kernel)
theorem dX3_read_27 : decode cX3_read 27 = .ok (.aload_n 0, 1) := dc0 dO_42 (by decide +kernel)
theorem dX3_read_28 : decode cX3_read 28 = .ok (.iconst 1, 1) := dc0 dO_4 (by decide +kernel)
theorem dX3_read_29 : decode cX3_read 29 = .ok (.putfield 51, 3) := dcU2 dO_181 (by decide +kernel)
theorem dX3_read_32 : decode cX3_read 32 = .ok (.aload_n 0, 1) := dc0 dO_42 (by decide +kernel)
theorem dX3_read_33 : decode cX3_read 33 = .ok (.getfield 28, 3) := dcU2 dO_180 (by decide +kernel)
theorem dX3_read_36 : decode cX3_read 36 = .ok (.iconst 0, 1) := dc0 dO_3 (by decide +kernel)
theorem dX3_read_37 : decode cX3_read 37 = .ok (.putfield 55, 3) := dcU2 dO_181 (by decide +kernel)
theorem dX3_read_40 : decode cX3_read 40 = .ok (.iconst 0, 1) := dc0 dO_3 (by decide +kernel)
theorem dX3_read_41 : decode cX3_read 41 = .ok (.istore_n 3, 1) := dc0 dO_62 (by decide +kernel)
theorem dX3_read_42 : decode cX3_read 42 = .ok (.iload_n 3, 1) := dc0 dO_29 (by decide +kernel)
theorem dX3_read_43 : decode cX3_read 43 = .ok (.aload_n 0, 1) := dc0 dO_42 (by decide +kernel)
theorem dX3_read_44 : decode cX3_read 44 = .ok (.getfield 59, 3) := dcU2 dO_180 (by decide +kernel)
theorem dX3_read_47 : decode cX3_read 47 = .ok (.if_icmp .ge 22, 3) := dcS2 dO_162 (by decide +kernel)
theorem dX3_read_50 : decode cX3_read 50 = .ok (.aload_n 0, 1) := dc0 dO_42 (by decide +kernel)
theorem dX3_read_51 : decode cX3_read 51 = .ok (.getfield 28, 3) := dcU2 dO_180 (by decide +kernel)
theorem dX3_read_54 : decode cX3_read 54 = .ok (.aload_n 0, 1) := dc0 dO_42 (by decide +kernel)
theorem dX3_read_55 : decode cX3_read 55 = .ok (.getfield 18, 3) := dcU2 dO_180 (by decide +kernel)
theorem dX3_read_58 : decode cX3_read 58 = .ok (.iload_n 3, 1) := dc0 dO_29 (by decide +kernel)
theorem dX3_read_59 : decode cX3_read 59 = .ok (.iaload, 1) := dc0 dO_46 (by decide +kernel)
theorem dX3_read_60 : decode cX3_read 60 = .ok (.invokevirtual 60, 3) := dcU2 dO_182 (by decide +kernel)
theorem dX3_read_63 : decode cX3_read 63 = .ok (.iinc 3 1, 3) := dcI dO_132 (by decide +kernel)
theorem dX3_read_66 : decode cX3_read 66 = .ok (.goto (-24), 3) := dcS2 dO_167 (by decide +kernel)
theorem dX3_read_69 : decode cX3_read 69 = .ok (.aload_n 0, 1) := dc0 dO_42 (by decide +kernel)
theorem dX3_read_70 : decode cX3_read 70 = .ok (.getfield 22, 3) := dcU2 dO_180 (by decide +kernel)
theorem dX3_read_73 : decode cX3_read 73 = .ok (.iconst 2, 1) := dc0 dO_5 (by decide +kernel)
theorem dX3_read_74 : decode cX3_read 74 = .ok (.iaload, 1) := dc0 dO_46 (by decide +kernel)
theorem dX3_read_75 : decode cX3_read 75 = .ok (.ldc 21, 2) := dcU1 dO_18 (by decide +kernel)
theorem dX3_read_77 : decode cX3_read 77 = .ok (.if_icmp .eq 23, 3) := dcS2 dO_159 (by decide +kernel)
theorem dX3_read_80 : decode cX3_read 80 = .ok (.aload_n 0, 1) := dc0 dO_42 (by decide +kernel)
theorem dX3_read_81 : decode cX3_read 81 = .ok (.dup, 1) := dc0 dO_89 (by decide +kernel)
theorem dX3_read_82 : decode cX3_read 82 = .ok (.getfield 63, 3) := dcU2 dO_180 (by decide +kernel)
theorem dX3_read_85 : decode cX3_read 85 = .ok (.aload_n 0, 1) := dc0 dO_42 (by decide +kernel)
theorem dX3_read_86 : decode cX3_read 86 = .ok (.getfield 66, 3) := dcU2 dO_180 (by decide +kernel)
theorem dX3_read_89 : decode cX3_read 89 = .ok (.iadd, 1) := dc0 dO_96 (by decide +kernel)
theorem dX3_read_90 : decode cX3_read 90 = .ok (.putfield 63, 3) := dcU2 dO_181 (by decide +kernel)
theorem dX3_read_93 : decode cX3_read 93 = .ok (.aload_n 0, 1) := dc0 dO_42 (by decide +kernel)
theorem dX3_read_94 : decode cX3_read 94 = .ok (.iconst 0, 1) := dc0 dO_3 (by decide +kernel)
theorem dX3_read_95 : decode cX3_read 95 = .ok (.putfield 66, 3) := dcU2 dO_181 (by decide +kernel)
theorem dX3_read_98 : decode cX3_read 98 = .ok (.iconst 2, 1) := dc0 dO_5 (by decide +kernel)
theorem dX3_read_99 : decode cX3_read 99 = .ok (.ireturn, 1) := dc0 dO_172 (by decide +kernel)
theorem dX3_read_100 : decode cX3_read 100 = .ok (.aload_n 0, 1) := dc0 dO_42 (by decide +kernel)
theorem dX3_read_101 : decode cX3_read 101 = .ok (.getfield 22, 3) := dcU2 dO_180 (by decide +kernel)
theorem dX3_read_104 : decode cX3_read 104 = .ok (.iconst 3, 1) := dc0 dO_6 (by decide +kernel)
theorem dX3_read_105 : decode cX3_read 105 = .ok (.iaload, 1) := dc0 dO_46 (by decide +kernel)
theorem dX3_read_106 : decode cX3_read 106 = .ok (.ldc 21, 2) := dcU1 dO_18 (by decide +kernel)
theorem dX3_read_108 : decode cX3_read 108 = .ok (.if_icmp .eq 7, 3) := dcS2 dO_159 (by decide +kernel)
theorem dX3_read_111 : decode cX3_read 111 = .ok (.iconst 3, 1) := dc0 dO_6 (by decide +kernel)
theorem dX3_read_112 : decode cX3_read 112 = .ok (.goto 4, 3) := dcS2 dO_167 (by decide +kernel)
theorem dX3_read_115 : decode cX3_read 115 = .ok (.iconst 0, 1) := dc0 dO_3 (by decide +kernel)
theorem dX3_read_116 : decode cX3_read 116 = .ok (.ireturn, 1) := dc0 dO_172 (by decide +kernel)
theorem dX3_readAttribute_0 : decode cX3_readAttribute 0 = .ok (.aload_n 0, 1) := dc0 dO_42 (by decide +kernel)
theorem dX3_readAttribute_1 : decode cX3_readAttribute 1 = .ok (.getfield 41, 3) := dcU2 dO_180 (by decide +kernel)
theorem dX3_readAttribute_4 : decode cX3_readAttribute 4 = .ok (.iload_n 1, 1) := dc0 dO_27 (by decide +kernel)
theorem dX3_readAttribute_5 : decode cX3_readAttribute 5 = .ok (.iaload, 1) := dc0 dO_46 (by decide +kernel)
theorem dX3_readAttribute_6 : decode cX3_readAttribute 6 = .ok (.istore 4, 2) := dcU1 dO_54 (by decide +kernel)
theorem dX3_readAttribute_8 : decode cX3_readAttribute 8 = .ok (.iload 4, 2) := dcU1 dO_21 (by decide +kernel)
theorem dX3_readAttribute_10 : decode cX3_readAttribute 10 = .ok (.sipush 207, 3) := dcS2 dO_17 (by decide +kernel)
theorem dX3_readAttribute_13 : decode cX3_readAttribute 13 = .ok (.iand, 1) := dc0 dO_126 (by decide +kernel)
theorem dX3_readAttribute_14 : decode cX3_readAttribute 14 = .ok (.istore 5, 2) := dcU1 dO_54 (by decide +kernel)
theorem dX3_readAttribute_16 : decode cX3_readAttribute 16 = .ok (.aload_n 0, 1) := dc0 dO_42 (by decide +kernel)
theorem dX3_readAttribute_17 : decode cX3_readAttribute 17 = .ok (.getfield 41, 3) := dcU2 dO_180 (by decide +kernel)
theorem dX3_readAttribute_20 : decode cX3_readAttribute 20 = .ok (.iload_n 1, 1) := dc0 dO_27 (by decide +kernel)
theorem dX3_readAttribute_21 : decode cX3_readAttribute 21 = .ok (.iconst 1, 1) := dc0 dO_4 (by decide +kernel)
theorem dX3_readAttribute_22 : decode cX3_readAttribute 22 = .ok (.iadd, 1) := dc0 dO_96 (by decide +kernel)
theorem dX3_readAttribute_23 : decode cX3_readAttribute 23 = .ok (.iaload, 1) := dc0 dO_46 (by decide +kernel)
theorem dX3_readAttribute_24 : decode cX3_readAttribute 24 = .ok (.istore 6, 2) := dcU1 dO_54 (by decide +kernel)
theorem dX3_readAttribute_26 : decode cX3_readAttribute 26 = .ok (.aload_n 0, 1) := dc0 dO_42 (by decide +kernel)
theorem dX3_readAttribute_27 : decode cX3_readAttribute 27 = .ok (.getfield 11, 3) := dcU2 dO_180 (by decide +kernel)
theorem dX3_readAttribute_30 : decode cX3_readAttribute 30 = .ok (.iload 6, 2) := dcU1 dO_21 (by decide +kernel)
theorem dX3_readAttribute_32 : decode cX3_readAttribute 32 = .ok (.iaload, 1) := dc0 dO_46 (by decide +kernel)
theorem dX3_readAttribute_33 : decode cX3_readAttribute 33 = .ok (.ifCond .eq 10, 3) := dcS2 dO_153 (by decide +kernel)
theorem dX3_readAttribute_36 : decode cX3_readAttribute 36 = .ok (.aload_n 0, 1) := dc0 dO_42 (by decide +kernel)
theorem dX3_readAttribute_37 : decode cX3_readAttribute 37 = .ok (.iconst 3, 1) := dc0 dO_6 (by decide +kernel)
theorem dX3_readAttribute_38 : decode cX3_readAttribute 38 = .ok (.iload_n 1, 1) := dc0 dO_27 (by decide +kernel)
theorem dX3_readAttribute_39 : decode cX3_readAttribute 39 = .ok (.invokevirtual 92, 3) := dcU2 dO_182 (by decide +kernel)
theorem dX3_readAttribute_42 : decode cX3_readAttribute 42 = .ok (.return_, 1) := dc0 dO_177 (by decide +kernel)
theorem dX3_readAttribute_43 : decode cX3_readAttribute 43 = .ok (.aload_n 0, 1) := dc0 dO_42 (by decide +kernel)
theorem dX3_readAttribute_44 : decode cX3_readAttribute 44 = .ok (.getfield 11, 3) := dcU2 dO_180 (by decide +kernel)
theorem dX3_readAttribute_47 : decode cX3_readAttribute 47 = .ok (.iload 6, 2) := dcU1 dO_21 (by decide +kernel)
theorem dX3_readAttribute_49 : decode cX3_readAttribute 49 = .ok (.iconst 1, 1) := dc0 dO_4 (by decide +kernel)
theorem dX3_readAttribute_50 : decode cX3_readAttribute 50 = .ok (.iastore, 1) := dc0 dO_79 (by decide +kernel)
theorem dX3_readAttribute_51 : decode cX3_readAttribute 51 = .ok (.iload 6, 2) := dcU1 dO_21 (by decide +kernel)
theorem dX3_readAttribute_53 : decode cX3_readAttribute 53 = .ok (.tableswitch 169 1 8 #[47, 81, 169, 115, 169, 169, 169, 142], 47) := by decide +kernel
theorem dX3_readAttribute_100 : decode cX3_readAttribute 100 = .ok (.aload_n 0, 1) := dc0 dO_42 (by decide +kernel)
theorem dX3_readAttribute_101 : decode cX3_readAttribute 101 = .ok (.iload 5, 2) := dcU1 dO_21 (by decide +kernel)
theorem dX3_readAttribute_103 : decode cX3_readAttribute 103 = .ok (.bipush 64, 2) := dcS1 dO_16 (by decide +kernel)
theorem dX3_readAttribute_105 : decode cX3_readAttribute 105 = .ok (.if_icmp .ne 16, 3) := dcS2 dO_160 (by decide +kernel)
theorem dX3_readAttribute_108 : decode cX3_readAttribute 108 = .ok (.aload_n 0, 1) := dc0 dO_42 (by decide +kernel)
theorem dX3_readAttribute_109 : decode cX3_readAttribute 109 = .ok (.iload_n 2, 1) := dc0 dO_28 (by decide +kernel)
theorem dX3_readAttribute_110 : decode cX3_readAttribute 110 = .ok (.iload_n 3, 1) := dc0 dO_29 (by decide +kernel)
theorem dX3_readAttribute_111 : decode cX3_readAttribute 111 = .ok (.invokevirtual 111, 3) := dcU2 dO_182 (by decide +kernel)
theorem dX3_readAttribute_114 : decode cX3_readAttribute 114 = .ok (.ifCond .eq 7, 3) := dcS2 dO_153 (by decide +kernel)
theorem dX3_readAttribute_117 : decode cX3_readAttribute 117 = .ok (.iconst 1, 1) := dc0 dO_4 (by decide +kernel)
theorem dX3_readAttribute_118 : decode cX3_readAttribute 118 = .ok (.goto 4, 3) := dcS2 dO_167 (by decide +kernel)
theorem dX3_readAttribute_121 : decode cX3_readAttribute 121 = .ok (.iconst 0, 1) := dc0 dO_3 (by decide +kernel)
theorem dX3_readAttribute_122 : decode cX3_readAttribute 122 = .ok (.putfield 82, 3) := dcU2 dO_181 (by decide +kernel)
theorem dX3_readAttribute_125 : decode cX3_readAttribute 125 = .ok (.aload_n 0, 1) := dc0 dO_42 (by decide +kernel)
theorem dX3_readAttribute_126 : decode cX3_readAttribute 126 = .ok (.getfield 82, 3) := dcU2 dO_180 (by decide +kernel)
theorem sfx_cX3_readAttribute_128 : (cX3_readAttribute.data.toList.drop 128).take 67 = [82, 54, 7, 167, 0, 115, 42, 21, 5, 16, 64, 160, 0, 16, 42, 28, 29, 182, 0, 115, 153, 0, 7, 4, 167, 0, 4, 3, 181, 0, 85, 42, 180, 0, 85, 54, 7, 167, 0, 81, 21, 5, 17, 0, 128, 160, 0, 16, 42, 28, 29, 182, 0, 118, 153, 0, 7, 4, 167, 0, 4, 3, 54, 7, 167, 0, 54] := by decide +kernel
theorem dX3_readAttribute_129 : decode cX3_readAttribute 129 = .ok (.istore 7, 2) := dcU1 dO_54 (rdU1.ch sfx_cX3_readAttribute_128 1 rfl (by decide +kernel))
theorem dX3_readAttribute_131 : decode cX3_readAttribute 131 = .ok (.goto 115, 3) := dcS2 dO_167 (rdS2.ch sfx_cX3_readAttribute_128 3 rfl (by decide +kernel))
theorem dX3_readAttribute_134 : decode cX3_readAttribute 134 = .ok (.aload_n 0, 1) := dc0 dO_42 (rdB.ch sfx_cX3_readAttribute_128 6 rfl (by decide +kernel))
theorem dX3_readAttribute_135 : decode cX3_readAttribute 135 = .ok (.iload 5, 2) := dcU1 dO_21 (rdU1.ch sfx_cX3_readAttribute_128 7 rfl (by decide +kernel))
theorem dX3_readAttribute_137 : decode cX3_readAttribute 137 = .ok (.bipush 64, 2) := dcS1 dO_16 (rdS1.ch sfx_cX3_readAttribute_128 9 rfl (by decide +kernel))
theorem dX3_readAttribute_139 : decode cX3_readAttribute 139 = .ok (.if_icmp .ne 16, 3) := dcS2 dO_160 (rdS2.ch sfx_cX3_readAttribute_128 11 rfl (by decide +kernel))
theorem dX3_readAttribute_142 : decode cX3_readAttribute 142 = .ok (.aload_n 0, 1) := dc0 dO_42 (rdB.ch sfx_cX3_readAttribute_128 14 rfl (by decide +kernel))
theorem dX3_readAttribute_143 : decode cX3_readAttribute 143 = .ok (.iload_n 2, 1) := dc0 dO_28 (rdB.ch sfx_cX3_readAttribute_128 15 rfl (by decide +kernel))
theorem dX3_readAttribute_144 : decode cX3_readAttribute 144 = .ok (.iload_n 3, 1) := dc0 dO_29 (rdB.ch sfx_cX3_readAttribute_128 16 rfl (by decide +kernel))
theorem dX3_readAttribute_145 : decode cX3_readAttribute 145 = .ok (.invokevirtual 115, 3) := dcU2 dO_182 (rdU2.ch sfx_cX3_readAttribute_128 17 rfl (by decide +kernel))
theorem dX3_readAttribute_148 : decode cX3_readAttribute 148 = .ok (.ifCond .eq 7, 3) := dcS2 dO_153 (rdS2.ch sfx_cX3_readAttribute_128 20 rfl (by decide +kernel))
theorem dX3_readAttribute_151 : decode cX3_readAttribute 151 = .ok (.iconst 1, 1) := dc0 dO_4 (rdB.ch sfx_cX3_readAttribute_128 23 rfl (by decide +kernel))
theorem dX3_readAttribute_152 : decode cX3_readAttribute 152 = .ok (.goto 4, 3) := dcS2 dO_167 (rdS2.ch sfx_cX3_readAttribute_128 24 rfl (by decide +kernel))
theorem dX3_readAttribute_155 : decode cX3_readAttribute 155 = .ok (.iconst 0, 1) := dc0 dO_3 (rdB.ch sfx_cX3_readAttribute_128 27 rfl (by decide +kernel))
theorem dX3_readAttribute_156 : decode cX3_readAttribute 156 = .ok (.putfield 85, 3) := dcU2 dO_181 (rdU2.ch sfx_cX3_readAttribute_128 28 rfl (by decide +kernel))
theorem dX3_readAttribute_159 : decode cX3_readAttribute 159 = .ok (.aload_n 0, 1) := dc0 dO_42 (rdB.ch sfx_cX3_readAttribute_128 31 rfl (by decide +kernel))
theorem dX3_readAttribute_160 : decode cX3_readAttribute 160 = .ok (.getfield 85, 3) := dcU2 dO_180 (rdU2.ch sfx_cX3_readAttribute_128 32 rfl (by decide +kernel))
theorem dX3_readAttribute_163 : decode cX3_readAttribute 163 = .ok (.istore 7, 2) := dcU1 dO_54 (rdU1.ch sfx_cX3_readAttribute_128 35 rfl (by decide +kernel))
theorem dX3_readAttribute_165 : decode cX3_readAttribute 165 = .ok (.goto 81, 3) := dcS2 dO_167 (rdS2.ch sfx_cX3_readAttribute_128 37 rfl (by decide +kernel))
theorem dX3_readAttribute_168 : decode cX3_readAttribute 168 = .ok (.iload 5, 2) := dcU1 dO_21 (rdU1.ch sfx_cX3_readAttribute_128 40 rfl (by decide +kernel))
theorem dX3_readAttribute_170 : decode cX3_readAttribute 170 = .ok (.sipush 128, 3) := dcS2 dO_17 (rdS2.ch sfx_cX3_readAttribute_128 42 rfl (by decide +kernel))
theorem dX3_readAttribute_173 : decode cX3_readAttribute 173 = .ok (.if_icmp .ne 16, 3) := dcS2 dO_160 (rdS2.ch sfx_cX3_readAttribute_128 45 rfl (by decide +kernel))
theorem dX3_readAttribute_176 : decode cX3_readAttribute 176 = .ok (.aload_n 0, 1) := dc0 dO_42 (rdB.ch sfx_cX3_readAttribute_128 48 rfl (by decide +kernel))
theorem dX3_readAttribute_177 : decode cX3_readAttribute 177 = .ok (.iload_n 2, 1) := dc0 dO_28 (rdB.ch sfx_cX3_readAttribute_128 49 rfl (by decide +kernel))
theorem dX3_readAttribute_178 : decode cX3_readAttribute 178 = .ok (.iload_n 3, 1) := dc0 dO_29 (rdB.ch sfx_cX3_readAttribute_128 50 rfl (by decide +kernel))
theorem dX3_readAttribute_179 : decode cX3_readAttribute 179 = .ok (.invokevirtual 118, 3) := dcU2 dO_182 (rdU2.ch sfx_cX3_readAttribute_128 51 rfl (by decide +kernel))
theorem dX3_readAttribute_182 : decode cX3_readAttribute 182 = .ok (.ifCond .eq 7, 3) := dcS2 dO_153 (rdS2.ch sfx_cX3_readAttribute_128 54 rfl (by decide +kernel))
theorem dX3_readAttribute_185 : decode cX3_readAttribute 185 = .ok (.iconst 1, 1) := dc0 dO_4 (rdB.ch sfx_cX3_readAttribute_128 57 rfl (by decide +kernel))
theorem dX3_readAttribute_186 : decode cX3_readAttribute 186 = .ok (.goto 4, 3) := dcS2 dO_167 (rdS2.ch sfx_cX3_readAttribute_128 58 rfl (by decide +kernel))
theorem dX3_readAttribute_189 : decode cX3_readAttribute 189 = .ok (.iconst 0, 1) := dc0 dO_3 (rdB.ch sfx_cX3_readAttribute_128 61 rfl (by decide +kernel))
theorem dX3_readAttribute_190 : decode cX3_readAttribute 190 = .ok (.istore 7, 2) := dcU1 dO_54 (rdU1.ch sfx_cX3_readAttribute_128 62 rfl (by decide +kernel))
theorem sfx_cX3_readAttribute_192 : (cX3_readAttribute.data.toList.drop 192).take 67 = [167, 0, 54, 21, 5, 17, 0, 192, 160, 0, 16, 42, 28, 29, 182, 0, 121, 153, 0, 7, 4, 167, 0, 4, 3, 54, 7, 167, 0, 27, 21, 4, 17, 0, 128, 126, 153, 0, 7, 4, 167, 0, 4, 3, 54, 7, 42, 21, 4, 21, 6, 182, 0, 124, 21, 7, 154, 0, 9, 42, 5, 27, 182, 0, 92, 177] := by decide +kernel
theorem dX3_readAttribute_192 : decode cX3_readAttribute 192 = .ok (.goto 54, 3) := dcS2 dO_167 (rdS2.ch sfx_cX3_readAttribute_192 0 rfl (by decide +kernel))
theorem dX3_readAttribute_195 : decode cX3_readAttribute 195 = .ok (.iload 5, 2) := dcU1 dO_21 (rdU1.ch sfx_cX3_readAttribute_192 3 rfl (by decide +kernel))
theorem dX3_readAttribute_197 : decode cX3_readAttribute 197 = .ok (.sipush 192, 3) := dcS2 dO_17 (rdS2.ch sfx_cX3_readAttribute_192 5 rfl (by decide +kernel))
theorem dX3_readAttribute_200 : decode cX3_readAttribute 200 = .ok (.if_icmp .ne 16, 3) := dcS2 dO_160 (rdS2.ch sfx_cX3_readAttribute_192 8 rfl (by decide +kernel))
theorem dX3_readAttribute_203 : decode cX3_readAttribute 203 = .ok (.aload_n 0, 1) := dc0 dO_42 (rdB.ch sfx_cX3_readAttribute_192 11 rfl (by decide +kernel))
theorem dX3_readAttribute_204 : decode cX3_readAttribute 204 = .ok (.iload_n 2, 1) := dc0 dO_28 (rdB.ch sfx_cX3_readAttribute_192 12 rfl (by decide +kernel))
theorem dX3_readAttribute_205 : decode cX3_readAttribute 205 = .ok (.iload_n 3, 1) := dc0 dO_29 (rdB.ch sfx_cX3_readAttribute_192 13 rfl (by decide +kernel))
theorem dX3_readAttribute_206 : decode cX3_readAttribute 206 = .ok (.invokevirtual 121, 3) := dcU2 dO_182 (rdU2.ch sfx_cX3_readAttribute_192 14 rfl (by decide +kernel))
theorem dX3_readAttribute_209 : decode cX3_readAttribute 209 = .ok (.ifCond .eq 7, 3) := dcS2 dO_153 (rdS2.ch sfx_cX3_readAttribute_192 17 rfl (by decide +kernel))
theorem dX3_readAttribute_212 : decode cX3_readAttribute 212 = .ok (.iconst 1, 1) := dc0 dO_4 (rdB.ch sfx_cX3_readAttribute_192 20 rfl (by decide +kernel))
theorem dX3_readAttribute_213 : decode cX3_readAttribute 213 = .ok (.goto 4, 3) := dcS2 dO_167 (rdS2.ch sfx_cX3_readAttribute_192 21 rfl (by decide +kernel))
theorem dX3_readAttribute_216 : decode cX3_readAttribute 216 = .ok (.iconst 0, 1) := dc0 dO_3 (rdB.ch sfx_cX3_readAttribute_192 24 rfl (by decide +kernel))
theorem dX3_readAttribute_217 : decode cX3_readAttribute 217 = .ok (.istore 7, 2) := dcU1 dO_54 (rdU1.ch sfx_cX3_readAttribute_192 25 rfl (by decide +kernel))
theorem dX3_readAttribute_219 : decode cX3_readAttribute 219 = .ok (.goto 27, 3) := dcS2 dO_167 (rdS2.ch sfx_cX3_readAttribute_192 27 rfl (by decide +kernel))
theorem dX3_readAttribute_222 : decode cX3_readAttribute 222 = .ok (.iload 4, 2) := dcU1 dO_21 (rdU1.ch sfx_cX3_readAttribute_192 30 rfl (by decide +kernel))
theorem dX3_readAttribute_224 : decode cX3_readAttribute 224 = .ok (.sipush 128, 3) := dcS2 dO_17 (rdS2.ch sfx_cX3_readAttribute_192 32 rfl (by decide +kernel))
theorem dX3_readAttribute_227 : decode cX3_readAttribute 227 = .ok (.iand, 1) := dc0 dO_126 (rdB.ch sfx_cX3_readAttribute_192 35 rfl (by decide +kernel))
theorem dX3_readAttribute_228 : decode cX3_readAttribute 228 = .ok (.ifCond .eq 7, 3) := dcS2 dO_153 (rdS2.ch sfx_cX3_readAttribute_192 36 rfl (by decide +kernel))
theorem dX3_readAttribute_231 : decode cX3_readAttribute 231 = .ok (.iconst 1, 1) := dc0 dO_4 (rdB.ch sfx_cX3_readAttribute_192 39 rfl (by decide +kernel))
theorem dX3_readAttribute_232 : decode cX3_readAttribute 232 = .ok (.goto 4, 3) := dcS2 dO_167 (rdS2.ch sfx_cX3_readAttribute_192 40 rfl (by decide +kernel))
theorem dX3_readAttribute_235 : decode cX3_readAttribute 235 = .ok (.iconst 0, 1) := dc0 dO_3 (rdB.ch sfx_cX3_readAttribute_192 43 rfl (by decide +kernel))
theorem dX3_readAttribute_236 : decode cX3_readAttribute 236 = .ok (.istore 7, 2) := dcU1 dO_54 (rdU1.ch sfx_cX3_readAttribute_192 44 rfl (by decide +kernel))
theorem dX3_readAttribute_238 : decode cX3_readAttribute 238 = .ok (.aload_n 0, 1) := dc0 dO_42 (rdB.ch sfx_cX3_readAttribute_192 46 rfl (by decide +kernel))
theorem dX3_readAttribute_239 : decode cX3_readAttribute 239 = .ok (.iload 4, 2) := dcU1 dO_21 (rdU1.ch sfx_cX3_readAttribute_192 47 rfl (by decide +kernel))
theorem dX3_readAttribute_241 : decode cX3_readAttribute 241 = .ok (.iload 6, 2) := dcU1 dO_21 (rdU1.ch sfx_cX3_readAttribute_192 49 rfl (by decide +kernel))
theorem dX3_readAttribute_243 : decode cX3_readAttribute 243 = .ok (.invokevirtual 124, 3) := dcU2 dO_182 (rdU2.ch sfx_cX3_readAttribute_192 51 rfl (by decide +kernel))
theorem dX3_readAttribute_246 : decode cX3_readAttribute 246 = .ok (.iload 7, 2) := dcU1 dO_21 (rdU1.ch sfx_cX3_readAttribute_192 54 rfl (by decide +kernel))
theorem dX3_readAttribute_248 : decode cX3_readAttribute 248 = .ok (.ifCond .ne 9, 3) := dcS2 dO_154 (rdS2.ch sfx_cX3_readAttribute_192 56 rfl (by decide +kernel))
theorem dX3_readAttribute_251 : decode cX3_readAttribute 251 = .ok (.aload_n 0, 1) := dc0 dO_42 (rdB.ch sfx_cX3_readAttribute_192 59 rfl (by decide +kernel))
theorem dX3_readAttribute_252 : decode cX3_readAttribute 252 = .ok (.iconst 2, 1) := dc0 dO_5 (rdB.ch sfx_cX3_readAttribute_192 60 rfl (by decide +kernel))
theorem dX3_readAttribute_253 : decode cX3_readAttribute 253 = .ok (.iload_n 1, 1) := dc0 dO_27 (rdB.ch sfx_cX3_readAttribute_192 61 rfl (by decide +kernel))
theorem dX3_readAttribute_254 : decode cX3_readAttribute 254 = .ok (.invokevirtual 92, 3) := dcU2 dO_182 (rdU2.ch sfx_cX3_readAttribute_192 62 rfl (by decide +kernel))
theorem sfx_cX3_readAttribute_256 : (cX3_readAttribute.data.toList.drop 256).take 67 = [92, 177] := by decide +kernel
theorem dX3_readAttribute_257 : decode cX3_readAttribute 257 = .ok (.return_, 1) := dc0 dO_177 (rdB.ch sfx_cX3_readAttribute_256 1 rfl (by decide +kernel))
theorem dX3_readAttributes_0 : decode cX3_readAttributes 0 = .ok (.iload_n 1, 1) := dc0 dO_27 (by decide +kernel)
theorem dX3_readAttributes_1 : decode cX3_readAttributes 1 = .ok (.istore_n 3, 1) := dc0 dO_62 (by decide +kernel)
theorem dX3_readAttributes_2 : decode cX3_readAttributes 2 = .ok (.iload_n 3, 1) := dc0 dO_29 (by decide +kernel)
theorem dX3_readAttributes_3 : decode cX3_readAttributes 3 = .ok (.iload_n 2, 1) := dc0 dO_28 (by decide +kernel)
theorem dX3_readAttributes_4 : decode cX3_readAttributes 4 = .ok (.if_icmp .ge 108, 3) := dcS2 dO_162 (by decide +kernel)
theorem dX3_readAttributes_7 : decode cX3_readAttributes 7 = .ok (.aload_n 0, 1) := dc0 dO_42 (by decide +kernel)
theorem dX3_readAttributes_8 : decode cX3_readAttributes 8 = .ok (.getfield 41, 3) := dcU2 dO_180 (by decide +kernel)
theorem dX3_readAttributes_11 : decode cX3_readAttributes 11 = .ok (.iload_n 3, 1) := dc0 dO_29 (by decide +kernel)
theorem dX3_readAttributes_12 : decode cX3_readAttributes 12 = .ok (.iaload, 1) := dc0 dO_46 (by decide +kernel)
theorem dX3_readAttributes_13 : decode cX3_readAttributes 13 = .ok (.bipush 16, 2) := dcS1 dO_16 (by decide +kernel)
theorem dX3_readAttributes_15 : decode cX3_readAttributes 15 = .ok (.iand, 1) := dc0 dO_126 (by decide +kernel)
theorem dX3_readAttributes_16 : decode cX3_readAttributes 16 = .ok (.ifCond .eq 7, 3) := dcS2 dO_153 (by decide +kernel)
theorem dX3_readAttributes_19 : decode cX3_readAttributes 19 = .ok (.iconst 1, 1) := dc0 dO_4 (by decide +kernel)
theorem dX3_readAttributes_20 : decode cX3_readAttributes 20 = .ok (.goto 4, 3) := dcS2 dO_167 (by decide +kernel)
theorem dX3_readAttributes_23 : decode cX3_readAttributes 23 = .ok (.iconst 0, 1) := dc0 dO_3 (by decide +kernel)
theorem dX3_readAttributes_24 : decode cX3_readAttributes 24 = .ok (.istore 4, 2) := dcU1 dO_54 (by decide +kernel)
theorem dX3_readAttributes_26 : decode cX3_readAttributes 26 = .ok (.iload_n 3, 1) := dc0 dO_29 (by decide +kernel)
theorem dX3_readAttributes_27 : decode cX3_readAttributes 27 = .ok (.iload 4, 2) := dcU1 dO_21 (by decide +kernel)
theorem dX3_readAttributes_29 : decode cX3_readAttributes 29 = .ok (.ifCond .eq 7, 3) := dcS2 dO_153 (by decide +kernel)
theorem dX3_readAttributes_32 : decode cX3_readAttributes 32 = .ok (.iconst 4, 1) := dc0 dO_7 (by decide +kernel)
theorem dX3_readAttributes_33 : decode cX3_readAttributes 33 = .ok (.goto 4, 3) := dcS2 dO_167 (by decide +kernel)
theorem dX3_readAttributes_36 : decode cX3_readAttributes 36 = .ok (.iconst 3, 1) := dc0 dO_6 (by decide +kernel)
theorem dX3_readAttributes_37 : decode cX3_readAttributes 37 = .ok (.iadd, 1) := dc0 dO_96 (by decide +kernel)
theorem dX3_readAttributes_38 : decode cX3_readAttributes 38 = .ok (.istore 5, 2) := dcU1 dO_54 (by decide +kernel)
theorem dX3_readAttributes_40 : decode cX3_readAttributes 40 = .ok (.iload 5, 2) := dcU1 dO_21 (by decide +kernel)
theorem dX3_readAttributes_42 : decode cX3_readAttributes 42 = .ok (.iload_n 2, 1) := dc0 dO_28 (by decide +kernel)
theorem dX3_readAttributes_43 : decode cX3_readAttributes 43 = .ok (.if_icmp .le 10, 3) := dcS2 dO_164 (by decide +kernel)
theorem dX3_readAttributes_46 : decode cX3_readAttributes 46 = .ok (.aload_n 0, 1) := dc0 dO_42 (by decide +kernel)
theorem dX3_readAttributes_47 : decode cX3_readAttributes 47 = .ok (.iconst 2, 1) := dc0 dO_5 (by decide +kernel)
theorem dX3_readAttributes_48 : decode cX3_readAttributes 48 = .ok (.iload_n 3, 1) := dc0 dO_29 (by decide +kernel)
theorem dX3_readAttributes_49 : decode cX3_readAttributes 49 = .ok (.invokevirtual 92, 3) := dcU2 dO_182 (by decide +kernel)
theorem dX3_readAttributes_52 : decode cX3_readAttributes 52 = .ok (.return_, 1) := dc0 dO_177 (by decide +kernel)
theorem dX3_readAttributes_53 : decode cX3_readAttributes 53 = .ok (.iload 4, 2) := dcU1 dO_21 (by decide +kernel)
theorem dX3_readAttributes_55 : decode cX3_readAttributes 55 = .ok (.ifCond .eq 13, 3) := dcS2 dO_153 (by decide +kernel)
theorem dX3_readAttributes_58 : decode cX3_readAttributes 58 = .ok (.aload_n 0, 1) := dc0 dO_42 (by decide +kernel)
theorem dX3_readAttributes_59 : decode cX3_readAttributes 59 = .ok (.iload_n 3, 1) := dc0 dO_29 (by decide +kernel)
theorem dX3_readAttributes_60 : decode cX3_readAttributes 60 = .ok (.iconst 2, 1) := dc0 dO_5 (by decide +kernel)
theorem dX3_readAttributes_61 : decode cX3_readAttributes 61 = .ok (.iadd, 1) := dc0 dO_96 (by decide +kernel)
theorem dX3_readAttributes_62 : decode cX3_readAttributes 62 = .ok (.invokevirtual 88, 3) := dcU2 dO_182 (by decide +kernel)
theorem dX3_readAttributes_65 : decode cX3_readAttributes 65 = .ok (.goto 11, 3) := dcS2 dO_167 (by decide +kernel)
theorem dX3_readAttributes_68 : decode cX3_readAttributes 68 = .ok (.aload_n 0, 1) := dc0 dO_42 (by decide +kernel)
theorem dX3_readAttributes_69 : decode cX3_readAttributes 69 = .ok (.getfield 41, 3) := dcU2 dO_180 (by decide +kernel)
theorem dX3_readAttributes_72 : decode cX3_readAttributes 72 = .ok (.iload_n 3, 1) := dc0 dO_29 (by decide +kernel)
theorem dX3_readAttributes_73 : decode cX3_readAttributes 73 = .ok (.iconst 2, 1) := dc0 dO_5 (by decide +kernel)
theorem dX3_readAttributes_74 : decode cX3_readAttributes 74 = .ok (.iadd, 1) := dc0 dO_96 (by decide +kernel)
theorem dX3_readAttributes_75 : decode cX3_readAttributes 75 = .ok (.iaload, 1) := dc0 dO_46 (by decide +kernel)
theorem dX3_readAttributes_76 : decode cX3_readAttributes 76 = .ok (.istore 6, 2) := dcU1 dO_54 (by decide +kernel)
theorem dX3_readAttributes_78 : decode cX3_readAttributes 78 = .ok (.iload 5, 2) := dcU1 dO_21 (by decide +kernel)
theorem dX3_readAttributes_80 : decode cX3_readAttributes 80 = .ok (.iload 6, 2) := dcU1 dO_21 (by decide +kernel)
theorem dX3_readAttributes_82 : decode cX3_readAttributes 82 = .ok (.iadd, 1) := dc0 dO_96 (by decide +kernel)
theorem dX3_readAttributes_83 : decode cX3_readAttributes 83 = .ok (.iload_n 2, 1) := dc0 dO_28 (by decide +kernel)
theorem dX3_readAttributes_84 : decode cX3_readAttributes 84 = .ok (.if_icmp .le 10, 3) := dcS2 dO_164 (by decide +kernel)
theorem dX3_readAttributes_87 : decode cX3_readAttributes 87 = .ok (.aload_n 0, 1) := dc0 dO_42 (by decide +kernel)
theorem dX3_readAttributes_88 : decode cX3_readAttributes 88 = .ok (.iconst 2, 1) := dc0 dO_5 (by decide +kernel)
theorem dX3_readAttributes_89 : decode cX3_readAttributes 89 = .ok (.iload_n 3, 1) := dc0 dO_29 (by decide +kernel)
theorem dX3_readAttributes_90 : decode cX3_readAttributes 90 = .ok (.invokevirtual 92, 3) := dcU2 dO_182 (by decide +kernel)
theorem dX3_readAttributes_93 : decode cX3_readAttributes 93 = .ok (.return_, 1) := dc0 dO_177 (by decide +kernel)
theorem dX3_readAttributes_94 : decode cX3_readAttributes 94 = .ok (.aload_n 0, 1) := dc0 dO_42 (by decide +kernel)
theorem dX3_readAttributes_95 : decode cX3_readAttributes 95 = .ok (.iload_n 3, 1) := dc0 dO_29 (by decide +kernel)
theorem dX3_readAttributes_96 : decode cX3_readAttributes 96 = .ok (.iload 5, 2) := dcU1 dO_21 (by decide +kernel)
theorem dX3_readAttributes_98 : decode cX3_readAttributes 98 = .ok (.iload 6, 2) := dcU1 dO_21 (by decide +kernel)
theorem dX3_readAttributes_100 : decode cX3_readAttributes 100 = .ok (.invokevirtual 107, 3) := dcU2 dO_182 (by decide +kernel)
theorem dX3_readAttributes_103 : decode cX3_readAttributes 103 = .ok (.iload 5, 2) := dcU1 dO_21 (by decide +kernel)
theorem dX3_readAttributes_105 : decode cX3_readAttributes 105 = .ok (.iload 6, 2) := dcU1 dO_21 (by decide +kernel)
theorem dX3_readAttributes_107 : decode cX3_readAttributes 107 = .ok (.iadd, 1) := dc0 dO_96 (by decide +kernel)
theorem dX3_readAttributes_108 : decode cX3_readAttributes 108 = .ok (.istore_n 3, 1) := dc0 dO_62 (by decide +kernel)
theorem dX3_readAttributes_109 : decode cX3_readAttributes 109 = .ok (.goto (-107), 3) := dcS2 dO_167 (by decide +kernel)
theorem dX3_readAttributes_112 : decode cX3_readAttributes 112 = .ok (.return_, 1) := dc0 dO_177 (by decide +kernel)
theorem dX3_readParts_0 : decode cX3_readParts 0 = .ok (.iconst 2, 1) := dc0 dO_5 (by decide +kernel)
theorem dX3_readParts_1 : decode cX3_readParts 1 = .ok (.istore_n 2, 1) := dc0 dO_61 (by decide +kernel)
theorem dX3_readParts_2 : decode cX3_readParts 2 = .ok (.iload_n 1, 1) := dc0 dO_27 (by decide +kernel)
theorem dX3_readParts_3 : decode cX3_readParts 3 = .ok (.iconst 2, 1) := dc0 dO_5 (by decide +kernel)
theorem dX3_readParts_4 : decode cX3_readParts 4 = .ok (.if_icmp .lt 11, 3) := dcS2 dO_161 (by decide +kernel)
theorem dX3_readParts_7 : decode cX3_readParts 7 = .ok (.iload_n 2, 1) := dc0 dO_28 (by decide +kernel)
theorem dX3_readParts_8 : decode cX3_readParts 8 = .ok (.aload_n 0, 1) := dc0 dO_42 (by decide +kernel)
theorem dX3_readParts_9 : decode cX3_readParts 9 = .ok (.iconst 0, 1) := dc0 dO_3 (by decide +kernel)
theorem dX3_readParts_10 : decode cX3_readParts 10 = .ok (.invokevirtual 88, 3) := dcU2 dO_182 (by decide +kernel)
theorem dX3_readParts_13 : decode cX3_readParts 13 = .ok (.iadd, 1) := dc0 dO_96 (by decide +kernel)
theorem dX3_readParts_14 : decode cX3_readParts 14 = .ok (.istore_n 2, 1) := dc0 dO_61 (by decide +kernel)
theorem dX3_readParts_15 : decode cX3_readParts 15 = .ok (.iload_n 2, 1) := dc0 dO_28 (by decide +kernel)
theorem dX3_readParts_16 : decode cX3_readParts 16 = .ok (.iload_n 1, 1) := dc0 dO_27 (by decide +kernel)
theorem dX3_readParts_17 : decode cX3_readParts 17 = .ok (.if_icmp .le 10, 3) := dcS2 dO_164 (by decide +kernel)
theorem dX3_readParts_20 : decode cX3_readParts 20 = .ok (.aload_n 0, 1) := dc0 dO_42 (by decide +kernel)
theorem dX3_readParts_21 : decode cX3_readParts 21 = .ok (.iconst 1, 1) := dc0 dO_4 (by decide +kernel)
theorem dX3_readParts_22 : decode cX3_readParts 22 = .ok (.iconst 0, 1) := dc0 dO_3 (by decide +kernel)
theorem dX3_readParts_23 : decode cX3_readParts 23 = .ok (.invokevirtual 92, 3) := dcU2 dO_182 (by decide +kernel)
theorem dX3_readParts_26 : decode cX3_readParts 26 = .ok (.return_, 1) := dc0 dO_177 (by decide +kernel)
theorem dX3_readParts_27 : decode cX3_readParts 27 = .ok (.aload_n 0, 1) := dc0 dO_42 (by decide +kernel)
theorem dX3_readParts_28 : decode cX3_readParts 28 = .ok (.aload_n 0, 1) := dc0 dO_42 (by decide +kernel)
theorem dX3_readParts_29 : decode cX3_readParts 29 = .ok (.iconst 2, 1) := dc0 dO_5 (by decide +kernel)
theorem dX3_readParts_30 : decode cX3_readParts 30 = .ok (.iload_n 2, 1) := dc0 dO_28 (by decide +kernel)
theorem dX3_readParts_31 : decode cX3_readParts 31 = .ok (.iconst 0, 1) := dc0 dO_3 (by decide +kernel)
theorem dX3_readParts_32 : decode cX3_readParts 32 = .ok (.invokevirtual 95, 3) := dcU2 dO_182 (by decide +kernel)
theorem dX3_readParts_35 : decode cX3_readParts 35 = .ok (.putfield 63, 3) := dcU2 dO_181 (by decide +kernel)
theorem dX3_readParts_38 : decode cX3_readParts 38 = .ok (.iload_n 2, 1) := dc0 dO_28 (by decide +kernel)
theorem dX3_readParts_39 : decode cX3_readParts 39 = .ok (.iconst 2, 1) := dc0 dO_5 (by decide +kernel)
theorem dX3_readParts_40 : decode cX3_readParts 40 = .ok (.iadd, 1) := dc0 dO_96 (by decide +kernel)
theorem dX3_readParts_41 : decode cX3_readParts 41 = .ok (.istore_n 3, 1) := dc0 dO_62 (by decide +kernel)
theorem dX3_readParts_42 : decode cX3_readParts 42 = .ok (.iload_n 3, 1) := dc0 dO_29 (by decide +kernel)
theorem dX3_readParts_43 : decode cX3_readParts 43 = .ok (.iload_n 1, 1) := dc0 dO_27 (by decide +kernel)
theorem dX3_readParts_44 : decode cX3_readParts 44 = .ok (.if_icmp .gt 11, 3) := dcS2 dO_163 (by decide +kernel)
theorem dX3_readParts_47 : decode cX3_readParts 47 = .ok (.iload_n 3, 1) := dc0 dO_29 (by decide +kernel)
theorem dX3_readParts_48 : decode cX3_readParts 48 = .ok (.aload_n 0, 1) := dc0 dO_42 (by decide +kernel)
theorem dX3_readParts_49 : decode cX3_readParts 49 = .ok (.iload_n 2, 1) := dc0 dO_28 (by decide +kernel)
theorem dX3_readParts_50 : decode cX3_readParts 50 = .ok (.invokevirtual 88, 3) := dcU2 dO_182 (by decide +kernel)
theorem dX3_readParts_53 : decode cX3_readParts 53 = .ok (.iadd, 1) := dc0 dO_96 (by decide +kernel)
theorem dX3_readParts_54 : decode cX3_readParts 54 = .ok (.istore_n 3, 1) := dc0 dO_62 (by decide +kernel)
theorem dX3_readParts_55 : decode cX3_readParts 55 = .ok (.iload_n 3, 1) := dc0 dO_29 (by decide +kernel)
theorem dX3_readParts_56 : decode cX3_readParts 56 = .ok (.iload_n 1, 1) := dc0 dO_27 (by decide +kernel)
theorem dX3_readParts_57 : decode cX3_readParts 57 = .ok (.if_icmp .le 10, 3) := dcS2 dO_164 (by decide +kernel)
theorem dX3_readParts_60 : decode cX3_readParts 60 = .ok (.aload_n 0, 1) := dc0 dO_42 (by decide +kernel)
theorem dX3_readParts_61 : decode cX3_readParts 61 = .ok (.iconst 1, 1) := dc0 dO_4 (by decide +kernel)
theorem dX3_readParts_62 : decode cX3_readParts 62 = .ok (.iload_n 2, 1) := dc0 dO_28 (by decide +kernel)
theorem dX3_readParts_63 : decode cX3_readParts 63 = .ok (.invokevirtual 92, 3) := dcU2 dO_182 (by decide +kernel)
theorem dX3_readParts_66 : decode cX3_readParts 66 = .ok (.return_, 1) := dc0 dO_177 (by decide +kernel)
theorem dX3_readParts_67 : decode cX3_readParts 67 = .ok (.aload_n 0, 1) := dc0 dO_42 (by decide +kernel)
theorem dX3_readParts_68 : decode cX3_readParts 68 = .ok (.iload_n 2, 1) := dc0 dO_28 (by decide +kernel)
theorem dX3_readParts_69 : decode cX3_readParts 69 = .ok (.iconst 2, 1) := dc0 dO_5 (by decide +kernel)
theorem dX3_readParts_70 : decode cX3_readParts 70 = .ok (.iadd, 1) := dc0 dO_96 (by decide +kernel)
theorem dX3_readParts_71 : decode cX3_readParts 71 = .ok (.iload_n 3, 1) := dc0 dO_29 (by decide +kernel)
theorem dX3_readParts_72 : decode cX3_readParts 72 = .ok (.invokevirtual 99, 3) := dcU2 dO_182 (by decide +kernel)
theorem dX3_readParts_75 : decode cX3_readParts 75 = .ok (.aload_n 0, 1) := dc0 dO_42 (by decide +kernel)
theorem dX3_readParts_76 : decode cX3_readParts 76 = .ok (.aload_n 0, 1) := dc0 dO_42 (by decide +kernel)
theorem dX3_readParts_77 : decode cX3_readParts 77 = .ok (.iload_n 3, 1) := dc0 dO_29 (by decide +kernel)
theorem dX3_readParts_78 : decode cX3_readParts 78 = .ok (.iload_n 1, 1) := dc0 dO_27 (by decide +kernel)
theorem dX3_readParts_79 : decode cX3_readParts 79 = .ok (.aload_n 0, 1) := dc0 dO_42 (by decide +kernel)
theorem dX3_readParts_80 : decode cX3_readParts 80 = .ok (.getfield 63, 3) := dcU2 dO_180 (by decide +kernel)
theorem dX3_readParts_83 : decode cX3_readParts 83 = .ok (.invokevirtual 95, 3) := dcU2 dO_182 (by decide +kernel)
theorem dX3_readParts_86 : decode cX3_readParts 86 = .ok (.putfield 66, 3) := dcU2 dO_181 (by decide +kernel)
theorem dX3_readParts_89 : decode cX3_readParts 89 = .ok (.aload_n 0, 1) := dc0 dO_42 (by decide +kernel)
theorem dX3_readParts_90 : decode cX3_readParts 90 = .ok (.getfield 66, 3) := dcU2 dO_180 (by decide +kernel)
theorem dX3_readParts_93 : decode cX3_readParts 93 = .ok (.ifCond .le 23, 3) := dcS2 dO_158 (by decide +kernel)
theorem dX3_readParts_96 : decode cX3_readParts 96 = .ok (.aload_n 0, 1) := dc0 dO_42 (by decide +kernel)
theorem dX3_readParts_97 : decode cX3_readParts 97 = .ok (.getfield 82, 3) := dcU2 dO_180 (by decide +kernel)
theorem dX3_readParts_100 : decode cX3_readParts 100 = .ok (.ifCond .eq 10, 3) := dcS2 dO_153 (by decide +kernel)
theorem dX3_readParts_103 : decode cX3_readParts 103 = .ok (.aload_n 0, 1) := dc0 dO_42 (by decide +kernel)
theorem dX3_readParts_104 : decode cX3_readParts 104 = .ok (.getfield 85, 3) := dcU2 dO_180 (by decide +kernel)
theorem dX3_readParts_107 : decode cX3_readParts 107 = .ok (.ifCond .ne 9, 3) := dcS2 dO_154 (by decide +kernel)
theorem dX3_readParts_110 : decode cX3_readParts 110 = .ok (.aload_n 0, 1) := dc0 dO_42 (by decide +kernel)
theorem dX3_readParts_111 : decode cX3_readParts 111 = .ok (.iconst 2, 1) := dc0 dO_5 (by decide +kernel)
theorem dX3_readParts_112 : decode cX3_readParts 112 = .ok (.iload_n 3, 1) := dc0 dO_29 (by decide +kernel)
theorem dX3_readParts_113 : decode cX3_readParts 113 = .ok (.invokevirtual 92, 3) := dcU2 dO_182 (by decide +kernel)
theorem dX3_readParts_116 : decode cX3_readParts 116 = .ok (.return_, 1) := dc0 dO_177 (by decide +kernel)
end
section
set_option maxRecDepth 4000 in
set_option maxHeartbeats 4000000 in
theorem c_J_bits {l : Launch} {D : va_G} {c : Nat → ClassId} {H0 : Heap} {sa : Nat × Nat × (Nat → Int32)} {w : mW} {μ : mM} (hw : mWF w) (hT : mT w μ) {p1 : Int} (hp1 : (-2147483648) ≤ p1 ∧ p1 ≤ 2147483647) : sC (gG l D c H0 sa) mJ_bits 1 0 0 [iv p1] (mk w μ) (qP w μ (fun z => ((-2147483648) ≤ z ∧ z ≤ 2147483647) ∧ True)) := by
  refine sC.of rfl (by decide) (le_t rfl) ?_
  refine mr_lvE (lv' := [(0, iv p1)]) rfl ?_
  refine mr_iload_n (pc := 0) (z := p1) dJ_bits_0 rfl rfl ?_
  refine mr_iload_n (pc := 1) (z := p1) dJ_bits_1 rfl rfl ?_
  refine mr_iconst (pc := 2) (z := 1) dJ_bits_2 ?_
  refine mr_iushr (pc := 3) (x := p1) (y := 1) dJ_bits_3 ?_
  refine mr_gen (P := fun z => (-2147483648) ≤ z ∧ z ≤ 2147483647) (r32i _) fun z1 q2 h3 => ?_
  refine mr_ldcw (pc := 4) (z := 1431655765) dJ_bits_4 wG_XI_265 (by decide) ?_
  refine mr_iand (pc := 7) (x := z1) (y := 1431655765) dJ_bits_7 ?_
  refine mr_gen (P := fun z => 0 ≤ z ∧ z ≤ 1431655765) (rAndR (rR (x := 1431655765)) rfl) fun z4 q5 h6 => ?_
  refine mr_isub (pc := 8) (x := p1) (y := z4) dJ_bits_8 ?_
  refine mr_wrap fun z7 h8 => ?_
  refine mr_istore_n (pc := 9) (lv' := [(0, iv z7)]) dJ_bits_9 rfl (by decide) rfl ?_
  refine mr_iload_n (pc := 10) (z := z7) dJ_bits_10 rfl rfl ?_
  refine mr_ldcw (pc := 11) (z := 858993459) dJ_bits_11 wG_XI_266 (by decide) ?_
  refine mr_iand (pc := 14) (x := z7) (y := 858993459) dJ_bits_14 ?_
  refine mr_gen (P := fun z => 0 ≤ z ∧ z ≤ 858993459) (rAndR (rR (x := 858993459)) rfl) fun z9 q10 h11 => ?_
  refine mr_iload_n (pc := 15) (z := z7) dJ_bits_15 rfl rfl ?_
  refine mr_iconst (pc := 16) (z := 2) dJ_bits_16 ?_
  refine mr_iushr (pc := 17) (x := z7) (y := 2) dJ_bits_17 ?_
  refine mr_gen (P := fun z => (-2147483648) ≤ z ∧ z ≤ 2147483647) (r32i _) fun z12 q13 h14 => ?_
  refine mr_ldcw (pc := 18) (z := 858993459) dJ_bits_18 wG_XI_266 (by decide) ?_
  refine mr_iand (pc := 21) (x := z12) (y := 858993459) dJ_bits_21 ?_
  refine mr_gen (P := fun z => 0 ≤ z ∧ z ≤ 858993459) (rAndR (rR (x := 858993459)) rfl) fun z15 q16 h17 => ?_
  refine mr_iadd (pc := 22) (x := z9) (y := z15) dJ_bits_22 ?_
  refine mr_istore_n (pc := 23) (lv' := [(0, iv (z9 + z15))]) dJ_bits_23 rfl (by decide) rfl ?_
  refine mr_iload_n (pc := 24) (z := (z9 + z15)) dJ_bits_24 rfl rfl ?_
  refine mr_iload_n (pc := 25) (z := (z9 + z15)) dJ_bits_25 rfl rfl ?_
  refine mr_iconst (pc := 26) (z := 4) dJ_bits_26 ?_
  refine mr_iushr (pc := 27) (x := (z9 + z15)) (y := 4) dJ_bits_27 ?_
  refine mr_gen (P := fun z => (-2147483648) ≤ z ∧ z ≤ 2147483647) (r32i _) fun z18 q19 h20 => ?_
  refine mr_iadd (pc := 28) (x := (z9 + z15)) (y := z18) dJ_bits_28 ?_
  refine mr_wrap fun z21 h22 => ?_
  refine mr_ldcw (pc := 29) (z := 252645135) dJ_bits_29 wG_XI_267 (by decide) ?_
  refine mr_iand (pc := 32) (x := z21) (y := 252645135) dJ_bits_32 ?_
  refine mr_gen (P := fun z => 0 ≤ z ∧ z ≤ 252645135) (rAndR (rR (x := 252645135)) rfl) fun z23 q24 h25 => ?_
  refine mr_istore_n (pc := 33) (lv' := [(0, iv z23)]) dJ_bits_33 rfl (by decide) rfl ?_
  refine mr_iload_n (pc := 34) (z := z23) dJ_bits_34 rfl rfl ?_
  refine mr_iload_n (pc := 35) (z := z23) dJ_bits_35 rfl rfl ?_
  refine mr_bipush (pc := 36) (z := 8) dJ_bits_36 (by decide) ?_
  refine mr_iushr (pc := 38) (x := z23) (y := 8) dJ_bits_38 ?_
  refine mr_gen (P := fun z => (-2147483648) ≤ z ∧ z ≤ 2147483647) (r32i _) fun z26 q27 h28 => ?_
  refine mr_iadd (pc := 39) (x := z23) (y := z26) dJ_bits_39 ?_
  refine mr_wrap fun z29 h30 => ?_
  refine mr_istore_n (pc := 40) (lv' := [(0, iv z29)]) dJ_bits_40 rfl (by decide) rfl ?_
  refine mr_iload_n (pc := 41) (z := z29) dJ_bits_41 rfl rfl ?_
  refine mr_iload_n (pc := 42) (z := z29) dJ_bits_42 rfl rfl ?_
  refine mr_bipush (pc := 43) (z := 16) dJ_bits_43 (by decide) ?_
  refine mr_iushr (pc := 45) (x := z29) (y := 16) dJ_bits_45 ?_
  refine mr_gen (P := fun z => (-2147483648) ≤ z ∧ z ≤ 2147483647) (r32i _) fun z31 q32 h33 => ?_
  refine mr_iadd (pc := 46) (x := z29) (y := z31) dJ_bits_46 ?_
  refine mr_wrap fun z34 h35 => ?_
  refine mr_istore_n (pc := 47) (lv' := [(0, iv z34)]) dJ_bits_47 rfl (by decide) rfl ?_
  refine mr_iload_n (pc := 48) (z := z34) dJ_bits_48 rfl rfl ?_
  refine mr_bipush (pc := 49) (z := 63) dJ_bits_49 (by decide) ?_
  refine mr_iand (pc := 51) (x := z34) (y := 63) dJ_bits_51 ?_
  refine mr_gen (P := fun z => 0 ≤ z ∧ z ≤ 63) (rAndR (rR (x := 63)) rfl) fun z36 q37 h38 => ?_
  exact mr_iretP dJ_bits_52 rfl (le_t rfl) (le_t rfl) ⟨(rW (c := (-2147483648)) (d := 2147483647) h38 rfl), trivial⟩
theorem vc_X11_cone_8 {p2 : Int} (h0 : ¬ p2 = (-1)) (h1 : (-1) ≤ p2 ∧ p2 ≤ (-1)) : False := by omega
theorem vc_X11_cone_10 {n0 p1 p2 z1 z32 z8 : Int} (h0 : (z32 = 1 → 0 ≤ p2 ∧ p2 < z1)) (h1 : (z32 = 0 → p2 < 0 ∨ z1 ≤ p2)) (h2 : ¬ z32 = 0) (h3 : z1 = n0) (h4 : (z8 = 1 → 0 ≤ p1 ∧ p1 < z1)) (h5 : (z8 = 0 → p1 < 0 ∨ z1 ≤ p1)) (h6 : 0 ≤ p1 ∧ p1 < z1) (h7 : ¬ p2 = (-1)) (h8 : 0 ≤ p1 ∧ p1 ≤ 9) (h9 : (-2147483648) ≤ p2 ∧ p2 ≤ 2147483647) (h10 : 1 ≤ z1 ∧ z1 ≤ 10) (h11 : 1 ≤ z32 ∧ z32 ≤ 1) (h12 : 1 ≤ z8 ∧ z8 ≤ 1) : z32 = 1 := by omega
theorem vc_X11_cone_11 {n0 p1 p2 z1 z32 z8 : Int} (h0 : 0 ≤ p2 ∧ p2 < z1) (h1 : z1 = n0) (h2 : (z8 = 1 → 0 ≤ p1 ∧ p1 < z1)) (h3 : (z8 = 0 → p1 < 0 ∨ z1 ≤ p1)) (h4 : 0 ≤ p1 ∧ p1 < z1) (h5 : ¬ p2 = (-1)) (h6 : (z32 = 1 → 0 ≤ p2 ∧ p2 < z1)) (h7 : (z32 = 0 → p2 < 0 ∨ z1 ≤ p2)) (h8 : 0 ≤ p1 ∧ p1 ≤ 9) (h9 : (-2147483648) ≤ p2 ∧ p2 ≤ 2147483647) (h10 : 1 ≤ z1 ∧ z1 ≤ 10) (h11 : 1 ≤ z32 ∧ z32 ≤ 1) (h12 : 1 ≤ z8 ∧ z8 ≤ 1) : 0 ≤ p2 ∧ p2 ≤ 9 := by omega
theorem vc_X11_cone_12 {p2 : Int} (h0 : p2 = (-1)) (h1 : 0 ≤ p2 ∧ p2 ≤ 9) : False := by omega
theorem vc_X11_cone_14 {n0 p1 p2 z1 z32 z8 : Int} (h0 : (z32 = 1 → 0 ≤ p2 ∧ p2 < z1)) (h1 : (z32 = 0 → p2 < 0 ∨ z1 ≤ p2)) (h2 : z32 = 0) (h3 : z1 = n0) (h4 : (z8 = 1 → 0 ≤ p1 ∧ p1 < z1)) (h5 : (z8 = 0 → p1 < 0 ∨ z1 ≤ p1)) (h6 : 0 ≤ p1 ∧ p1 < z1) (h7 : ¬ p2 = (-1)) (h8 : 0 ≤ p1 ∧ p1 ≤ 9) (h9 : (-2147483648) ≤ p2 ∧ p2 ≤ 2147483647) (h10 : 1 ≤ z1 ∧ z1 ≤ 10) (h11 : 0 ≤ z32 ∧ z32 ≤ 0) (h12 : 1 ≤ z8 ∧ z8 ≤ 1) : z32 = 0 := by omega
set_option maxRecDepth 4000 in
set_option maxHeartbeats 4000000 in
theorem c_X11_cone {l : Launch} {D : va_G} {c : Nat → ClassId} {H0 : Heap} {sa : Nat × Nat × (Nat → Int32)} {w : mW} {μ : mM} (hw : mWF w) (hT : mT w μ) {p1 : Int} (hp1 : (-2147483648) ≤ p1 ∧ p1 ≤ 2147483647) {p2 : Int} (hp2 : (-2147483648) ≤ p2 ∧ p2 ≤ 2147483647) : sC (gG l D c H0 sa) mX11_cone 2 0 0 [.ref 0, iv p1, iv p2] (mk w μ) (qP w μ (fun z => ((-2147483648) ≤ z ∧ z ≤ 2147483647) ∧ True)) := by
  refine sC.of rfl (by decide) (le_t rfl) ?_
  refine mr_lvE (lv' := [(0, .ref 0), (1, iv p1), (2, iv p2)]) rfl ?_
  refine sv_aload_n (pc := 0) dX11_cone_0 rfl rfl ?_
  refine mr_iload_n (pc := 1) (z := p1) dX11_cone_1 rfl rfl ?_
  obtain ⟨z1, q2⟩ : ∃ z, μ 6 15 = z := ⟨_, rfl⟩
  have h3 : (z1 = w.2.2.2 0 ∧ 0 ≤ z1 ∧ z1 ≤ 10) := by rw [← q2]; exact hT 6 6 (A_6 hw) 15
  refine mr_cVP (pc := 2) (c_X11_isDomain hw hT hp1 q2) (gOk _ _ _ _ _) dX11_cone_2 (tX11_isDomain _ _ _ _ _) ⟨wV_X11_isDomain, wL_X11_isDomain⟩ wM_X11_105 (gCX11 _ _ _ _ _) rfl (A_0 hw) rfl ⟨le_t rfl, le_t rfl⟩ ⟨le_t rfl, le_t rfl⟩ rfl (le_t rfl) fun z8 h7 => ?_
  refine mr_if_eq (pc := 5) (tgt := 21) dX11_cone_5 (by decide) (r32 h7.1 rfl) (fun h9 => ?_) (fun h9 => ?_)
  · have h10 : 0 ≤ z8 ∧ z8 ≤ 0 := (vc_X12_write_78 h9 h7.2.1 h7.2.2.1 hp1 h3.2 h7.1)
    have h11 : p1 < 0 ∨ z1 ≤ p1 := (h7.2.2.1 (vc_X11_letter_2 h7.2.1 h7.2.2.1 h9 h3.1 hp1 h3.2 h10))
    refine mr_iconst (pc := 21) (z := (-1)) dX11_cone_21 ?_
    exact mr_iretP dX11_cone_22 rfl (le_t rfl) (le_t rfl) ⟨(rW (c := (-2147483648)) (d := 2147483647) (rR (x := (-1))) rfl), trivial⟩
  have h12 : 1 ≤ z8 ∧ z8 ≤ 1 := (vc_X12_write_12 h9 h7.2.1 h7.2.2.1 hp1 h3.2 h7.1)
  have h13 : 0 ≤ p1 ∧ p1 < z1 := (h7.2.1 (vc_X11_letter_4 h7.2.1 h7.2.2.1 h9 h3.1 hp1 h3.2 h12))
  have h14 : 0 ≤ p1 ∧ p1 ≤ 9 := (vc_X11_letter_5 h13 h3.1 h7.2.1 h7.2.2.1 hp1 h3.2 h12)
  have h15 : 1 ≤ z1 ∧ z1 ≤ 10 := (vc_X11_letter_6 h13 h3.1 h7.2.1 h7.2.2.1 h14 h3.2 h12)
  refine mr_iload_n (pc := 8) (z := p2) dX11_cone_8 rfl rfl ?_
  refine mr_iconst (pc := 9) (z := (-1)) dX11_cone_9 ?_
  refine mr_icmp_eq (pc := 10) (tgt := 23) dX11_cone_10 (by decide) hp2 (r32 (rR (x := (-1))) rfl) (fun h16 => ?_) (fun h16 => ?_)
  · have h17 : (-1) ≤ p2 ∧ p2 ≤ (-1) := (vc_X10_verdictOn_17 h16 hp2)
    refine sv_aload_n (pc := 23) dX11_cone_23 rfl rfl ?_
    refine gf_X11_3 (pc := 24) dX11_cone_24 wF_X11_26 (A_0 hw) hT ?_
    refine mr_iload_n (pc := 27) (z := p1) dX11_cone_27 rfl rfl ?_
    refine mr_cVP (pc := 28) (c_X10_coneOf hw hT h14) (gOk _ _ _ _ _) dX11_cone_28 (tX10_coneOf _ _ _ _ _) ⟨wV_X10_coneOf, wL_X10_coneOf⟩ wM_X11_154 (gCX10 _ _ _ _ _) rfl (A_6 hw) rfl ⟨le_t rfl, le_t rfl⟩ ⟨le_t rfl, le_t rfl⟩ rfl (le_t rfl) fun z22 h21 => ?_
    refine mr_istore_n (pc := 31) (lv' := [(3, iv z22), (0, .ref 0), (1, iv p1), (2, iv p2)]) dX11_cone_31 rfl (by decide) rfl ?_
    refine mr_iload_n (pc := 32) (z := p2) dX11_cone_32 rfl rfl ?_
    refine mr_iconst (pc := 33) (z := (-1)) dX11_cone_33 ?_
    refine mr_icmp_ne (pc := 34) (tgt := 44) dX11_cone_34 (by decide) (r32 h17 rfl) (r32 (rR (x := (-1))) rfl) (fun h => ((vc_X11_cone_8 h h17)).elim) (fun _ => ?_)
    refine mr_iload_n (pc := 37) (z := z22) dX11_cone_37 rfl rfl ?_
    refine mr_cSP (pc := 38) (c_J_bits hw hT h21.1) (gOk _ _ _ _ _) dX11_cone_38 (tJ_bits _ _ _ _ _) wS_J_bits wM_X11_157 ⟨le_t rfl, le_t rfl⟩ ⟨le_t rfl, le_t rfl⟩ rfl (le_t rfl) fun z27 h26 => ?_
    refine sv_goto (pc := 41) (tgt := 49) dX11_cone_41 (by decide) ?_
    exact mr_iretP dX11_cone_49 rfl (le_t rfl) (le_t rfl) ⟨h26.1, trivial⟩
  refine sv_aload_n (pc := 13) dX11_cone_13 rfl rfl ?_
  refine mr_iload_n (pc := 14) (z := p2) dX11_cone_14 rfl rfl ?_
  refine mr_cVP (pc := 15) (c_X11_isDomain hw hT hp2 q2) (gOk _ _ _ _ _) dX11_cone_15 (tX11_isDomain _ _ _ _ _) ⟨wV_X11_isDomain, wL_X11_isDomain⟩ wM_X11_105 (gCX11 _ _ _ _ _) rfl (A_0 hw) rfl ⟨le_t rfl, le_t rfl⟩ ⟨le_t rfl, le_t rfl⟩ rfl (le_t rfl) fun z32 h31 => ?_
  refine mr_if_ne (pc := 18) (tgt := 23) dX11_cone_18 (by decide) (r32 h31.1 rfl) (fun h33 => ?_) (fun h33 => ?_)
  · have h34 : 1 ≤ z32 ∧ z32 ≤ 1 := (vc_X12_differ_7 h33 h31.2.1 h31.2.2.1 hp2 h15 h31.1)
    have h35 : 0 ≤ p2 ∧ p2 < z1 := (h31.2.1 (vc_X11_cone_10 h31.2.1 h31.2.2.1 h33 h3.1 h7.2.1 h7.2.2.1 h13 h16 h14 hp2 h15 h34 h12))
    have h36 : 0 ≤ p2 ∧ p2 ≤ 9 := (vc_X11_cone_11 h35 h3.1 h7.2.1 h7.2.2.1 h13 h16 h31.2.1 h31.2.2.1 h14 hp2 h15 h34 h12)
    refine sv_aload_n (pc := 23) dX11_cone_23 rfl rfl ?_
    refine gf_X11_3 (pc := 24) dX11_cone_24 wF_X11_26 (A_0 hw) hT ?_
    refine mr_iload_n (pc := 27) (z := p1) dX11_cone_27 rfl rfl ?_
    refine mr_cVP (pc := 28) (c_X10_coneOf hw hT h14) (gOk _ _ _ _ _) dX11_cone_28 (tX10_coneOf _ _ _ _ _) ⟨wV_X10_coneOf, wL_X10_coneOf⟩ wM_X11_154 (gCX10 _ _ _ _ _) rfl (A_6 hw) rfl ⟨le_t rfl, le_t rfl⟩ ⟨le_t rfl, le_t rfl⟩ rfl (le_t rfl) fun z41 h40 => ?_
    refine mr_istore_n (pc := 31) (lv' := [(3, iv z41), (0, .ref 0), (1, iv p1), (2, iv p2)]) dX11_cone_31 rfl (by decide) rfl ?_
    refine mr_iload_n (pc := 32) (z := p2) dX11_cone_32 rfl rfl ?_
    refine mr_iconst (pc := 33) (z := (-1)) dX11_cone_33 ?_
    refine mr_icmp_ne (pc := 34) (tgt := 44) dX11_cone_34 (by decide) (r32 h36 rfl) (r32 (rR (x := (-1))) rfl) (fun _ => ?_) (fun h => ((vc_X11_cone_12 h h36)).elim)
    refine mr_iload_n (pc := 44) (z := z41) dX11_cone_44 rfl rfl ?_
    refine mr_iload_n (pc := 45) (z := p2) dX11_cone_45 rfl rfl ?_
    refine mr_ishr (pc := 46) (x := z41) (y := p2) dX11_cone_46 ?_
    refine mr_gen (P := fun z => (-2147483648) ≤ z ∧ z ≤ 2147483647) (r32i _) fun z42 q43 h44 => ?_
    refine mr_iconst (pc := 47) (z := 1) dX11_cone_47 ?_
    refine mr_iand (pc := 48) (x := z42) (y := 1) dX11_cone_48 ?_
    refine mr_gen (P := fun z => 0 ≤ z ∧ z ≤ 1) (rAndR (rR (x := 1)) rfl) fun z45 q46 h47 => ?_
    exact mr_iretP dX11_cone_49 rfl (le_t rfl) (le_t rfl) ⟨(rW (c := (-2147483648)) (d := 2147483647) h47 rfl), trivial⟩
  have h48 : 0 ≤ z32 ∧ z32 ≤ 0 := (vc_X12_differ_44 h33 h31.2.1 h31.2.2.1 hp2 h15 h31.1)
  have h49 : p2 < 0 ∨ z1 ≤ p2 := (h31.2.2.1 (vc_X11_cone_14 h31.2.1 h31.2.2.1 h33 h3.1 h7.2.1 h7.2.2.1 h13 h16 h14 hp2 h15 h48 h12))
  refine mr_iconst (pc := 21) (z := (-1)) dX11_cone_21 ?_
  exact mr_iretP dX11_cone_22 rfl (le_t rfl) (le_t rfl) ⟨(rW (c := (-2147483648)) (d := 2147483647) (rR (x := (-1))) rfl), trivial⟩
end
section
/-! no rows -/
end
section
/-! no rows -/
end
