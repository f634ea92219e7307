theorem dX12_doEvent_0 : decode cX12_doEvent 0 = .ok (.aload_n 0, 1) := by decide +kernel
theorem dX12_doEvent_1 : decode cX12_doEvent 1 = .ok (.aload_n 0, 1) := by decide +kernel
theorem dX12_doEvent_2 : decode cX12_doEvent 2 = .ok (.iload_n 1, 1) := by decide +kernel
theorem dX12_doEvent_3 : decode cX12_doEvent 3 = .ok (.invokevirtual 607, 3) := by decide +kernel
theorem dX12_doEvent_6 : decode cX12_doEvent 6 = .ok (.putfield 591, 3) := by decide +kernel
theorem dX12_doEvent_9 : decode cX12_doEvent 9 = .ok (.aload_n 0, 1) := by decide +kernel
theorem dX12_doEvent_10 : decode cX12_doEvent 10 = .ok (.dup, 1) := by decide +kernel
theorem dX12_doEvent_11 : decode cX12_doEvent 11 = .ok (.getfield 610, 3) := by decide +kernel
theorem dX12_doEvent_14 : decode cX12_doEvent 14 = .ok (.iconst 1, 1) := by decide +kernel
theorem dX12_doEvent_15 : decode cX12_doEvent 15 = .ok (.iadd, 1) := by decide +kernel
theorem dX12_doEvent_16 : decode cX12_doEvent 16 = .ok (.putfield 610, 3) := by decide +kernel
theorem dX12_doEvent_19 : decode cX12_doEvent 19 = .ok (.iload_n 1, 1) := by decide +kernel
theorem dX12_doEvent_20 : decode cX12_doEvent 20 = .ok (.sipush 400, 3) := by decide +kernel
theorem dX12_doEvent_23 : decode cX12_doEvent 23 = .ok (.irem, 1) := by decide +kernel
theorem dX12_doEvent_24 : decode cX12_doEvent 24 = .ok (.istore_n 2, 1) := by decide +kernel
theorem dX12_doEvent_25 : decode cX12_doEvent 25 = .ok (.iload_n 2, 1) := by decide +kernel
theorem dX12_doEvent_26 : decode cX12_doEvent 26 = .ok (.bipush 20, 2) := by decide +kernel
theorem dX12_doEvent_28 : decode cX12_doEvent 28 = .ok (.idiv, 1) := by decide +kernel
theorem dX12_doEvent_29 : decode cX12_doEvent 29 = .ok (.istore_n 3, 1) := by decide +kernel
theorem dX12_doEvent_30 : decode cX12_doEvent 30 = .ok (.iload_n 2, 1) := by decide +kernel
theorem dX12_doEvent_31 : decode cX12_doEvent 31 = .ok (.bipush 10, 2) := by decide +kernel
theorem dX12_doEvent_33 : decode cX12_doEvent 33 = .ok (.idiv, 1) := by decide +kernel
theorem dX12_doEvent_34 : decode cX12_doEvent 34 = .ok (.iconst 2, 1) := by decide +kernel
theorem dX12_doEvent_35 : decode cX12_doEvent 35 = .ok (.irem, 1) := by decide +kernel
theorem dX12_doEvent_36 : decode cX12_doEvent 36 = .ok (.istore 4, 2) := by decide +kernel
theorem dX12_doEvent_38 : decode cX12_doEvent 38 = .ok (.iload_n 2, 1) := by decide +kernel
theorem dX12_doEvent_39 : decode cX12_doEvent 39 = .ok (.bipush 10, 2) := by decide +kernel
theorem dX12_doEvent_41 : decode cX12_doEvent 41 = .ok (.irem, 1) := by decide +kernel
theorem dX12_doEvent_42 : decode cX12_doEvent 42 = .ok (.istore 5, 2) := by decide +kernel
theorem dX12_doEvent_44 : decode cX12_doEvent 44 = .ok (.iload_n 1, 1) := by decide +kernel
theorem dX12_doEvent_45 : decode cX12_doEvent 45 = .ok (.sipush 400, 3) := by decide +kernel
theorem dX12_doEvent_48 : decode cX12_doEvent 48 = .ok (.if_icmp .lt 29, 3) := by decide +kernel
theorem dX12_doEvent_51 : decode cX12_doEvent 51 = .ok (.aload_n 0, 1) := by decide +kernel
theorem dX12_doEvent_52 : decode cX12_doEvent 52 = .ok (.getfield 439, 3) := by decide +kernel
theorem dX12_doEvent_55 : decode cX12_doEvent 55 = .ok (.iload_n 2, 1) := by decide +kernel
theorem dX12_doEvent_56 : decode cX12_doEvent 56 = .ok (.iconst (-1), 1) := by decide +kernel
theorem dX12_doEvent_57 : decode cX12_doEvent 57 = .ok (.iastore, 1) := by decide +kernel
theorem dX12_doEvent_58 : decode cX12_doEvent 58 = .ok (.aload_n 0, 1) := by decide +kernel
theorem dX12_doEvent_59 : decode cX12_doEvent 59 = .ok (.aload_n 0, 1) := by decide +kernel
theorem dX12_doEvent_60 : decode cX12_doEvent 60 = .ok (.getfield 40, 3) := by decide +kernel
theorem dX12_doEvent_63 : decode cX12_doEvent 63 = .ok (.iconst 2, 1) := by decide +kernel
theorem dX12_doEvent_64 : decode cX12_doEvent 64 = .ok (.iload_n 3, 1) := by decide +kernel
theorem dX12_doEvent_65 : decode cX12_doEvent 65 = .ok (.imul, 1) := by decide +kernel
theorem dX12_doEvent_66 : decode cX12_doEvent 66 = .ok (.iload 4, 2) := by decide +kernel
theorem dX12_doEvent_68 : decode cX12_doEvent 68 = .ok (.iadd, 1) := by decide +kernel
theorem dX12_doEvent_69 : decode cX12_doEvent 69 = .ok (.iaload, 1) := by decide +kernel
theorem dX12_doEvent_70 : decode cX12_doEvent 70 = .ok (.iload_n 3, 1) := by decide +kernel
theorem dX12_doEvent_71 : decode cX12_doEvent 71 = .ok (.iload 5, 2) := by decide +kernel
theorem dX12_doEvent_73 : decode cX12_doEvent 73 = .ok (.invokevirtual 587, 3) := by decide +kernel
theorem dX12_doEvent_76 : decode cX12_doEvent 76 = .ok (.return_, 1) := by decide +kernel
theorem dX12_doEvent_77 : decode cX12_doEvent 77 = .ok (.aload_n 0, 1) := by decide +kernel
theorem dX12_doEvent_78 : decode cX12_doEvent 78 = .ok (.getfield 433, 3) := by decide +kernel
theorem dX12_doEvent_81 : decode cX12_doEvent 81 = .ok (.iload_n 2, 1) := by decide +kernel
theorem dX12_doEvent_82 : decode cX12_doEvent 82 = .ok (.iconst (-1), 1) := by decide +kernel
theorem dX12_doEvent_83 : decode cX12_doEvent 83 = .ok (.iastore, 1) := by decide +kernel
theorem dX12_doEvent_84 : decode cX12_doEvent 84 = .ok (.iload_n 3, 1) := by decide +kernel
theorem dX12_doEvent_85 : decode cX12_doEvent 85 = .ok (.iconst 1, 1) := by decide +kernel
theorem dX12_doEvent_86 : decode cX12_doEvent 86 = .ok (.iload 4, 2) := by decide +kernel
theorem dX12_doEvent_88 : decode cX12_doEvent 88 = .ok (.isub, 1) := by decide +kernel
theorem dX12_doEvent_89 : decode cX12_doEvent 89 = .ok (.iload 5, 2) := by decide +kernel
theorem dX12_doEvent_91 : decode cX12_doEvent 91 = .ok (.invokestatic 545, 3) := by decide +kernel
theorem dX12_doEvent_94 : decode cX12_doEvent 94 = .ok (.istore 6, 2) := by decide +kernel
theorem dX12_doEvent_96 : decode cX12_doEvent 96 = .ok (.aload_n 0, 1) := by decide +kernel
theorem dX12_doEvent_97 : decode cX12_doEvent 97 = .ok (.sipush 930, 3) := by decide +kernel
theorem dX12_doEvent_100 : decode cX12_doEvent 100 = .ok (.iload_n 2, 1) := by decide +kernel
theorem dX12_doEvent_101 : decode cX12_doEvent 101 = .ok (.iadd, 1) := by decide +kernel
theorem dX12_doEvent_102 : decode cX12_doEvent 102 = .ok (.sipush 130, 3) := by decide +kernel
theorem dX12_doEvent_105 : decode cX12_doEvent 105 = .ok (.iload 6, 2) := by decide +kernel
theorem dX12_doEvent_107 : decode cX12_doEvent 107 = .ok (.iadd, 1) := by decide +kernel
theorem dX12_doEvent_108 : decode cX12_doEvent 108 = .ok (.invokevirtual 559, 3) := by decide +kernel
theorem dX12_doEvent_111 : decode cX12_doEvent 111 = .ok (.aload_n 0, 1) := by decide +kernel
theorem dX12_doEvent_112 : decode cX12_doEvent 112 = .ok (.getfield 424, 3) := by decide +kernel
theorem dX12_doEvent_115 : decode cX12_doEvent 115 = .ok (.iload 6, 2) := by decide +kernel
theorem dX12_doEvent_117 : decode cX12_doEvent 117 = .ok (.aload_n 0, 1) := by decide +kernel
theorem dX12_doEvent_118 : decode cX12_doEvent 118 = .ok (.getfield 591, 3) := by decide +kernel
theorem dX12_doEvent_121 : decode cX12_doEvent 121 = .ok (.iastore, 1) := by decide +kernel
theorem dX12_doEvent_122 : decode cX12_doEvent 122 = .ok (.aload_n 0, 1) := by decide +kernel
theorem dX12_doEvent_123 : decode cX12_doEvent 123 = .ok (.aload_n 0, 1) := by decide +kernel
theorem dX12_doEvent_124 : decode cX12_doEvent 124 = .ok (.getfield 40, 3) := by decide +kernel
theorem dX12_doEvent_127 : decode cX12_doEvent 127 = .ok (.iconst 2, 1) := by decide +kernel
theorem dX12_doEvent_128 : decode cX12_doEvent 128 = .ok (.iload_n 3, 1) := by decide +kernel
theorem dX12_doEvent_129 : decode cX12_doEvent 129 = .ok (.imul, 1) := by decide +kernel
theorem dX12_doEvent_130 : decode cX12_doEvent 130 = .ok (.iconst 1, 1) := by decide +kernel
theorem dX12_doEvent_131 : decode cX12_doEvent 131 = .ok (.iadd, 1) := by decide +kernel
theorem dX12_doEvent_132 : decode cX12_doEvent 132 = .ok (.iload 4, 2) := by decide +kernel
theorem dX12_doEvent_134 : decode cX12_doEvent 134 = .ok (.isub, 1) := by decide +kernel
theorem dX12_doEvent_135 : decode cX12_doEvent 135 = .ok (.iaload, 1) := by decide +kernel
theorem dX12_doEvent_136 : decode cX12_doEvent 136 = .ok (.iload 5, 2) := by decide +kernel
theorem dX12_doEvent_138 : decode cX12_doEvent 138 = .ok (.invokevirtual 597, 3) := by decide +kernel
theorem dX12_doEvent_141 : decode cX12_doEvent 141 = .ok (.return_, 1) := by decide +kernel
theorem dX12_go_0 : decode cX12_go 0 = .ok (.iload_n 1, 1) := by decide +kernel
theorem dX12_go_1 : decode cX12_go 1 = .ok (.iconst 1, 1) := by decide +kernel
theorem dX12_go_2 : decode cX12_go 2 = .ok (.sipush 500, 3) := by decide +kernel
theorem dX12_go_5 : decode cX12_go 5 = .ok (.invokestatic 18, 3) := by decide +kernel
theorem dX12_go_8 : decode cX12_go 8 = .ok (.ifCond .ne 5, 3) := by decide +kernel
theorem dX12_go_11 : decode cX12_go 11 = .ok (.iconst (-1), 1) := by decide +kernel
theorem dX12_go_12 : decode cX12_go 12 = .ok (.ireturn, 1) := by decide +kernel
theorem dX12_go_13 : decode cX12_go 13 = .ok (.iconst 0, 1) := by decide +kernel
theorem dX12_go_14 : decode cX12_go 14 = .ok (.istore_n 2, 1) := by decide +kernel
theorem dX12_go_15 : decode cX12_go 15 = .ok (.iload_n 2, 1) := by decide +kernel
theorem dX12_go_16 : decode cX12_go 16 = .ok (.iload_n 1, 1) := by decide +kernel
theorem dX12_go_17 : decode cX12_go 17 = .ok (.if_icmp .ge 26, 3) := by decide +kernel
theorem dX12_go_20 : decode cX12_go 20 = .ok (.aload_n 0, 1) := by decide +kernel
theorem dX12_go_21 : decode cX12_go 21 = .ok (.invokevirtual 613, 3) := by decide +kernel
theorem dX12_go_24 : decode cX12_go 24 = .ok (.ldc 29, 2) := by decide +kernel
theorem dX12_go_26 : decode cX12_go 26 = .ok (.if_icmp .eq 17, 3) := by decide +kernel
theorem dX12_go_29 : decode cX12_go 29 = .ok (.aload_n 0, 1) := by decide +kernel
theorem dX12_go_30 : decode cX12_go 30 = .ok (.aload_n 0, 1) := by decide +kernel
theorem dX12_go_31 : decode cX12_go 31 = .ok (.invokevirtual 613, 3) := by decide +kernel
theorem dX12_go_34 : decode cX12_go 34 = .ok (.invokevirtual 616, 3) := by decide +kernel
theorem dX12_go_37 : decode cX12_go 37 = .ok (.iinc 2 1, 3) := by decide +kernel
theorem dX12_go_40 : decode cX12_go 40 = .ok (.goto (-25), 3) := by decide +kernel
theorem dX12_go_43 : decode cX12_go 43 = .ok (.iload_n 2, 1) := by decide +kernel
theorem dX12_go_44 : decode cX12_go 44 = .ok (.ireturn, 1) := by decide +kernel
theorem dX12_goes_0 : decode cX12_goes 0 = .ok (.aload_n 0, 1) := by decide +kernel
theorem dX12_goes_1 : decode cX12_goes 1 = .ok (.iconst 0, 1) := by decide +kernel
theorem dX12_goes_2 : decode cX12_goes 2 = .ok (.putfield 683, 3) := by decide +kernel
theorem dX12_goes_5 : decode cX12_goes 5 = .ok (.iload_n 1, 1) := by decide +kernel
theorem dX12_goes_6 : decode cX12_goes 6 = .ok (.istore_n 3, 1) := by decide +kernel
theorem dX12_goes_7 : decode cX12_goes 7 = .ok (.iconst 0, 1) := by decide +kernel
theorem dX12_goes_8 : decode cX12_goes 8 = .ok (.istore 4, 2) := by decide +kernel
theorem dX12_goes_10 : decode cX12_goes 10 = .ok (.iconst 0, 1) := by decide +kernel
theorem dX12_goes_11 : decode cX12_goes 11 = .ok (.istore 5, 2) := by decide +kernel
theorem dX12_goes_13 : decode cX12_goes 13 = .ok (.iload 5, 2) := by decide +kernel
theorem dX12_goes_15 : decode cX12_goes 15 = .ok (.aload_n 0, 1) := by decide +kernel
theorem dX12_goes_16 : decode cX12_goes 16 = .ok (.getfield 683, 3) := by decide +kernel
theorem dX12_goes_19 : decode cX12_goes 19 = .ok (.if_icmp .ge 32, 3) := by decide +kernel
theorem dX12_goes_22 : decode cX12_goes 22 = .ok (.iload 4, 2) := by decide +kernel
theorem dX12_goes_24 : decode cX12_goes 24 = .ok (.ifCond .ne 14, 3) := by decide +kernel
theorem dX12_goes_27 : decode cX12_goes 27 = .ok (.aload_n 0, 1) := by decide +kernel
theorem dX12_goes_28 : decode cX12_goes 28 = .ok (.getfield 487, 3) := by decide +kernel
theorem dX12_goes_31 : decode cX12_goes 31 = .ok (.iload 5, 2) := by decide +kernel
theorem dX12_goes_33 : decode cX12_goes 33 = .ok (.iaload, 1) := by decide +kernel
theorem dX12_goes_34 : decode cX12_goes 34 = .ok (.iload_n 3, 1) := by decide +kernel
theorem dX12_goes_35 : decode cX12_goes 35 = .ok (.if_icmp .ne 7, 3) := by decide +kernel
theorem dX12_goes_38 : decode cX12_goes 38 = .ok (.iconst 1, 1) := by decide +kernel
theorem dX12_goes_39 : decode cX12_goes 39 = .ok (.goto 4, 3) := by decide +kernel
theorem dX12_goes_42 : decode cX12_goes 42 = .ok (.iconst 0, 1) := by decide +kernel
theorem dX12_goes_43 : decode cX12_goes 43 = .ok (.istore 4, 2) := by decide +kernel
theorem dX12_goes_45 : decode cX12_goes 45 = .ok (.iinc 5 1, 3) := by decide +kernel
theorem dX12_goes_48 : decode cX12_goes 48 = .ok (.goto (-35), 3) := by decide +kernel
theorem dX12_goes_51 : decode cX12_goes 51 = .ok (.aload_n 0, 1) := by decide +kernel
theorem dX12_goes_52 : decode cX12_goes 52 = .ok (.getfield 487, 3) := by decide +kernel
theorem dX12_goes_55 : decode cX12_goes 55 = .ok (.aload_n 0, 1) := by decide +kernel
theorem dX12_goes_56 : decode cX12_goes 56 = .ok (.getfield 683, 3) := by decide +kernel
theorem dX12_goes_59 : decode cX12_goes 59 = .ok (.iload_n 3, 1) := by decide +kernel
theorem dX12_goes_60 : decode cX12_goes 60 = .ok (.iastore, 1) := by decide +kernel
theorem dX12_goes_61 : decode cX12_goes 61 = .ok (.aload_n 0, 1) := by decide +kernel
theorem dX12_goes_62 : decode cX12_goes 62 = .ok (.dup, 1) := by decide +kernel
theorem dX12_goes_63 : decode cX12_goes 63 = .ok (.getfield 683, 3) := by decide +kernel
theorem dX12_goes_66 : decode cX12_goes 66 = .ok (.iconst 1, 1) := by decide +kernel
theorem dX12_goes_67 : decode cX12_goes 67 = .ok (.iadd, 1) := by decide +kernel
theorem dX12_goes_68 : decode cX12_goes 68 = .ok (.putfield 683, 3) := by decide +kernel
theorem dX12_goes_71 : decode cX12_goes 71 = .ok (.iload 4, 2) := by decide +kernel
theorem dX12_goes_73 : decode cX12_goes 73 = .ok (.ifCond .eq 5, 3) := by decide +kernel
theorem dX12_goes_76 : decode cX12_goes 76 = .ok (.iconst 2, 1) := by decide +kernel
theorem dX12_goes_77 : decode cX12_goes 77 = .ok (.ireturn, 1) := by decide +kernel
theorem dX12_goes_78 : decode cX12_goes 78 = .ok (.aload_n 0, 1) := by decide +kernel
theorem dX12_goes_79 : decode cX12_goes 79 = .ok (.iload_n 3, 1) := by decide +kernel
theorem dX12_goes_80 : decode cX12_goes 80 = .ok (.iload_n 2, 1) := by decide +kernel
theorem dX12_goes_81 : decode cX12_goes 81 = .ok (.invokevirtual 686, 3) := by decide +kernel
theorem dX12_goes_84 : decode cX12_goes 84 = .ok (.istore 5, 2) := by decide +kernel
theorem dX12_goes_86 : decode cX12_goes 86 = .ok (.iload 5, 2) := by decide +kernel
theorem dX12_goes_88 : decode cX12_goes 88 = .ok (.bipush (-4), 2) := by decide +kernel
theorem dX12_goes_90 : decode cX12_goes 90 = .ok (.if_icmp .ne 5, 3) := by decide +kernel
theorem dX12_goes_93 : decode cX12_goes 93 = .ok (.iconst 0, 1) := by decide +kernel
theorem dX12_goes_94 : decode cX12_goes 94 = .ok (.ireturn, 1) := by decide +kernel
theorem dX12_goes_95 : decode cX12_goes 95 = .ok (.iload 5, 2) := by decide +kernel
theorem dX12_goes_97 : decode cX12_goes 97 = .ok (.ldc 29, 2) := by decide +kernel
theorem dX12_goes_99 : decode cX12_goes 99 = .ok (.if_icmp .ne 5, 3) := by decide +kernel
theorem dX12_goes_102 : decode cX12_goes 102 = .ok (.iconst 1, 1) := by decide +kernel
theorem dX12_goes_103 : decode cX12_goes 103 = .ok (.ireturn, 1) := by decide +kernel
theorem dX12_goes_104 : decode cX12_goes 104 = .ok (.aload_n 0, 1) := by decide +kernel
theorem dX12_goes_105 : decode cX12_goes 105 = .ok (.iload 5, 2) := by decide +kernel
theorem dX12_goes_107 : decode cX12_goes 107 = .ok (.iload_n 3, 1) := by decide +kernel
theorem dX12_goes_108 : decode cX12_goes 108 = .ok (.invokevirtual 553, 3) := by decide +kernel
theorem dX12_goes_111 : decode cX12_goes 111 = .ok (.istore_n 3, 1) := by decide +kernel
theorem dX12_goes_112 : decode cX12_goes 112 = .ok (.goto (-105), 3) := by decide +kernel
theorem dX12_hear_0 : decode cX12_hear 0 = .ok (.aload_n 0, 1) := by decide +kernel
theorem dX12_hear_1 : decode cX12_hear 1 = .ok (.iload_n 1, 1) := by decide +kernel
theorem dX12_hear_2 : decode cX12_hear 2 = .ok (.invokevirtual 66, 3) := by decide +kernel
theorem dX12_hear_5 : decode cX12_hear 5 = .ok (.ifCond .eq 12, 3) := by decide +kernel
theorem dX12_hear_8 : decode cX12_hear 8 = .ok (.iload_n 2, 1) := by decide +kernel
theorem dX12_hear_9 : decode cX12_hear 9 = .ok (.iconst 0, 1) := by decide +kernel
theorem dX12_hear_10 : decode cX12_hear 10 = .ok (.iconst 1, 1) := by decide +kernel
theorem dX12_hear_11 : decode cX12_hear 11 = .ok (.invokestatic 18, 3) := by decide +kernel
theorem dX12_hear_14 : decode cX12_hear 14 = .ok (.ifCond .ne 5, 3) := by decide +kernel
theorem dX12_hear_17 : decode cX12_hear 17 = .ok (.iconst (-1), 1) := by decide +kernel
theorem dX12_hear_18 : decode cX12_hear 18 = .ok (.ireturn, 1) := by decide +kernel
theorem dX12_hear_19 : decode cX12_hear 19 = .ok (.aload_n 0, 1) := by decide +kernel
theorem dX12_hear_20 : decode cX12_hear 20 = .ok (.getfield 655, 3) := by decide +kernel
theorem dX12_hear_23 : decode cX12_hear 23 = .ok (.ifCond .eq 19, 3) := by decide +kernel
theorem dX12_hear_26 : decode cX12_hear 26 = .ok (.aload_n 0, 1) := by decide +kernel
theorem dX12_hear_27 : decode cX12_hear 27 = .ok (.getfield 665, 3) := by decide +kernel
theorem dX12_hear_30 : decode cX12_hear 30 = .ok (.ifCond .ne 12, 3) := by decide +kernel
theorem dX12_hear_33 : decode cX12_hear 33 = .ok (.aload_n 0, 1) := by decide +kernel
theorem dX12_hear_34 : decode cX12_hear 34 = .ok (.getfield 53, 3) := by decide +kernel
theorem dX12_hear_37 : decode cX12_hear 37 = .ok (.iload_n 1, 1) := by decide +kernel
theorem dX12_hear_38 : decode cX12_hear 38 = .ok (.baload, 1) := by decide +kernel
theorem dX12_hear_39 : decode cX12_hear 39 = .ok (.ifCond .ne 6, 3) := by decide +kernel
theorem dX12_hear_42 : decode cX12_hear 42 = .ok (.bipush (-2), 2) := by decide +kernel
theorem dX12_hear_44 : decode cX12_hear 44 = .ok (.ireturn, 1) := by decide +kernel
theorem dX12_hear_45 : decode cX12_hear 45 = .ok (.iconst 0, 1) := by decide +kernel
theorem dX12_hear_46 : decode cX12_hear 46 = .ok (.istore_n 3, 1) := by decide +kernel
theorem dX12_hear_47 : decode cX12_hear 47 = .ok (.iconst 0, 1) := by decide +kernel
theorem dX12_hear_48 : decode cX12_hear 48 = .ok (.istore 4, 2) := by decide +kernel
theorem dX12_hear_50 : decode cX12_hear 50 = .ok (.iload 4, 2) := by decide +kernel
theorem dX12_hear_52 : decode cX12_hear 52 = .ok (.aload_n 0, 1) := by decide +kernel
theorem dX12_hear_53 : decode cX12_hear 53 = .ok (.getfield 625, 3) := by decide +kernel
theorem dX12_hear_56 : decode cX12_hear 56 = .ok (.aload_n 0, 1) := by decide +kernel
theorem dX12_hear_57 : decode cX12_hear 57 = .ok (.getfield 628, 3) := by decide +kernel
theorem dX12_hear_60 : decode cX12_hear 60 = .ok (.iadd, 1) := by decide +kernel
theorem dX12_hear_61 : decode cX12_hear 61 = .ok (.if_icmp .ge 168, 3) := by decide +kernel
theorem dX12_hear_64 : decode cX12_hear 64 = .ok (.iload 4, 2) := by decide +kernel
theorem dX12_hear_66 : decode cX12_hear 66 = .ok (.aload_n 0, 1) := by decide +kernel
theorem dX12_hear_67 : decode cX12_hear 67 = .ok (.getfield 625, 3) := by decide +kernel
theorem dX12_hear_70 : decode cX12_hear 70 = .ok (.if_icmp .ge 24, 3) := by decide +kernel
theorem dX12_hear_73 : decode cX12_hear 73 = .ok (.aload_n 0, 1) := by decide +kernel
theorem dX12_hear_74 : decode cX12_hear 74 = .ok (.aload_n 0, 1) := by decide +kernel
theorem dX12_hear_75 : decode cX12_hear 75 = .ok (.getfield 460, 3) := by decide +kernel
theorem dX12_hear_78 : decode cX12_hear 78 = .ok (.iload 4, 2) := by decide +kernel
theorem dX12_hear_80 : decode cX12_hear 80 = .ok (.iaload, 1) := by decide +kernel
theorem dX12_hear_81 : decode cX12_hear 81 = .ok (.aload_n 0, 1) := by decide +kernel
theorem dX12_hear_82 : decode cX12_hear 82 = .ok (.getfield 463, 3) := by decide +kernel
theorem dX12_hear_85 : decode cX12_hear 85 = .ok (.iload 4, 2) := by decide +kernel
theorem dX12_hear_87 : decode cX12_hear 87 = .ok (.iaload, 1) := by decide +kernel
theorem dX12_hear_88 : decode cX12_hear 88 = .ok (.invokevirtual 30, 3) := by decide +kernel
theorem dX12_hear_91 : decode cX12_hear 91 = .ok (.goto 31, 3) := by decide +kernel
theorem dX12_hear_94 : decode cX12_hear 94 = .ok (.aload_n 0, 1) := by decide +kernel
theorem dX12_hear_95 : decode cX12_hear 95 = .ok (.aload_n 0, 1) := by decide +kernel
theorem dX12_hear_96 : decode cX12_hear 96 = .ok (.getfield 466, 3) := by decide +kernel
theorem dX12_hear_99 : decode cX12_hear 99 = .ok (.iload 4, 2) := by decide +kernel
theorem dX12_hear_101 : decode cX12_hear 101 = .ok (.aload_n 0, 1) := by decide +kernel
theorem dX12_hear_102 : decode cX12_hear 102 = .ok (.getfield 625, 3) := by decide +kernel
theorem dX12_hear_105 : decode cX12_hear 105 = .ok (.isub, 1) := by decide +kernel
theorem dX12_hear_106 : decode cX12_hear 106 = .ok (.iaload, 1) := by decide +kernel
theorem dX12_hear_107 : decode cX12_hear 107 = .ok (.aload_n 0, 1) := by decide +kernel
theorem dX12_hear_108 : decode cX12_hear 108 = .ok (.getfield 469, 3) := by decide +kernel
theorem dX12_hear_111 : decode cX12_hear 111 = .ok (.iload 4, 2) := by decide +kernel
theorem dX12_hear_113 : decode cX12_hear 113 = .ok (.aload_n 0, 1) := by decide +kernel
theorem dX12_hear_114 : decode cX12_hear 114 = .ok (.getfield 625, 3) := by decide +kernel
theorem dX12_hear_117 : decode cX12_hear 117 = .ok (.isub, 1) := by decide +kernel
theorem dX12_hear_118 : decode cX12_hear 118 = .ok (.iaload, 1) := by decide +kernel
theorem dX12_hear_119 : decode cX12_hear 119 = .ok (.invokevirtual 30, 3) := by decide +kernel
theorem dX12_hear_122 : decode cX12_hear 122 = .ok (.istore 5, 2) := by decide +kernel
theorem dX12_hear_124 : decode cX12_hear 124 = .ok (.iload 5, 2) := by decide +kernel
theorem dX12_hear_126 : decode cX12_hear 126 = .ok (.ldc 29, 2) := by decide +kernel
theorem dX12_hear_128 : decode cX12_hear 128 = .ok (.if_icmp .ne 6, 3) := by decide +kernel
theorem dX12_hear_131 : decode cX12_hear 131 = .ok (.goto 92, 3) := by decide +kernel
theorem dX12_hear_134 : decode cX12_hear 134 = .ok (.iload_n 1, 1) := by decide +kernel
theorem dX12_hear_135 : decode cX12_hear 135 = .ok (.iload_n 2, 1) := by decide +kernel
theorem dX12_hear_136 : decode cX12_hear 136 = .ok (.iload 5, 2) := by decide +kernel
theorem dX12_hear_138 : decode cX12_hear 138 = .ok (.invokestatic 545, 3) := by decide +kernel
theorem dX12_hear_141 : decode cX12_hear 141 = .ok (.istore 6, 2) := by decide +kernel
theorem dX12_hear_143 : decode cX12_hear 143 = .ok (.iload 4, 2) := by decide +kernel
theorem dX12_hear_145 : decode cX12_hear 145 = .ok (.aload_n 0, 1) := by decide +kernel
theorem dX12_hear_146 : decode cX12_hear 146 = .ok (.getfield 625, 3) := by decide +kernel
theorem dX12_hear_149 : decode cX12_hear 149 = .ok (.if_icmp .ge 16, 3) := by decide +kernel
theorem dX12_hear_152 : decode cX12_hear 152 = .ok (.aload_n 0, 1) := by decide +kernel
theorem dX12_hear_153 : decode cX12_hear 153 = .ok (.sipush 130, 3) := by decide +kernel
theorem dX12_hear_156 : decode cX12_hear 156 = .ok (.iload 6, 2) := by decide +kernel
theorem dX12_hear_158 : decode cX12_hear 158 = .ok (.iadd, 1) := by decide +kernel
theorem dX12_hear_159 : decode cX12_hear 159 = .ok (.invokevirtual 539, 3) := by decide +kernel
theorem dX12_hear_162 : decode cX12_hear 162 = .ok (.goto 31, 3) := by decide +kernel
theorem dX12_hear_165 : decode cX12_hear 165 = .ok (.aload_n 0, 1) := by decide +kernel
theorem dX12_hear_166 : decode cX12_hear 166 = .ok (.bipush 24, 2) := by decide +kernel
theorem dX12_hear_168 : decode cX12_hear 168 = .ok (.sipush 130, 3) := by decide +kernel
theorem dX12_hear_171 : decode cX12_hear 171 = .ok (.iload 6, 2) := by decide +kernel
theorem dX12_hear_173 : decode cX12_hear 173 = .ok (.iadd, 1) := by decide +kernel
theorem dX12_hear_174 : decode cX12_hear 174 = .ok (.invokevirtual 559, 3) := by decide +kernel
theorem dX12_hear_177 : decode cX12_hear 177 = .ok (.aload_n 0, 1) := by decide +kernel
theorem dX12_hear_178 : decode cX12_hear 178 = .ok (.getfield 148, 3) := by decide +kernel
theorem dX12_hear_181 : decode cX12_hear 181 = .ok (.bipush 40, 2) := by decide +kernel
theorem dX12_hear_183 : decode cX12_hear 183 = .ok (.sipush 130, 3) := by decide +kernel
theorem dX12_hear_186 : decode cX12_hear 186 = .ok (.iload 6, 2) := by decide +kernel
theorem dX12_hear_188 : decode cX12_hear 188 = .ok (.iadd, 1) := by decide +kernel
theorem dX12_hear_189 : decode cX12_hear 189 = .ok (.imul, 1) := by decide +kernel
theorem dX12_hear_190 : decode cX12_hear 190 = .ok (.iload 5, 2) := by decide +kernel
theorem dX12_hear_192 : decode cX12_hear 192 = .ok (.iastore, 1) := by decide +kernel
theorem dX12_hear_193 : decode cX12_hear 193 = .ok (.aload_n 0, 1) := by decide +kernel
theorem dX12_hear_194 : decode cX12_hear 194 = .ok (.getfield 424, 3) := by decide +kernel
theorem dX12_hear_197 : decode cX12_hear 197 = .ok (.iload 6, 2) := by decide +kernel
theorem dX12_hear_199 : decode cX12_hear 199 = .ok (.aload_n 0, 1) := by decide +kernel
theorem dX12_hear_200 : decode cX12_hear 200 = .ok (.getfield 591, 3) := by decide +kernel
theorem dX12_hear_203 : decode cX12_hear 203 = .ok (.iastore, 1) := by decide +kernel
theorem dX12_hear_204 : decode cX12_hear 204 = .ok (.iinc 3 1, 3) := by decide +kernel
theorem dX12_hear_207 : decode cX12_hear 207 = .ok (.aload_n 0, 1) := by decide +kernel
theorem dX12_hear_208 : decode cX12_hear 208 = .ok (.aload_n 0, 1) := by decide +kernel
theorem dX12_hear_209 : decode cX12_hear 209 = .ok (.getfield 40, 3) := by decide +kernel
theorem dX12_hear_212 : decode cX12_hear 212 = .ok (.iconst 2, 1) := by decide +kernel
theorem dX12_hear_213 : decode cX12_hear 213 = .ok (.iload_n 1, 1) := by decide +kernel
theorem dX12_hear_214 : decode cX12_hear 214 = .ok (.imul, 1) := by decide +kernel
theorem dX12_hear_215 : decode cX12_hear 215 = .ok (.iload_n 2, 1) := by decide +kernel
theorem dX12_hear_216 : decode cX12_hear 216 = .ok (.iadd, 1) := by decide +kernel
theorem dX12_hear_217 : decode cX12_hear 217 = .ok (.iaload, 1) := by decide +kernel
theorem dX12_hear_218 : decode cX12_hear 218 = .ok (.iload 5, 2) := by decide +kernel
theorem dX12_hear_220 : decode cX12_hear 220 = .ok (.invokevirtual 597, 3) := by decide +kernel
theorem dX12_hear_223 : decode cX12_hear 223 = .ok (.iinc 4 1, 3) := by decide +kernel
theorem dX12_hear_226 : decode cX12_hear 226 = .ok (.goto (-176), 3) := by decide +kernel
theorem dX12_hear_229 : decode cX12_hear 229 = .ok (.iload_n 3, 1) := by decide +kernel
theorem dX12_hear_230 : decode cX12_hear 230 = .ok (.ireturn, 1) := by decide +kernel
theorem dX12_judge_0 : decode cX12_judge 0 = .ok (.iload_n 1, 1) := by decide +kernel
theorem dX12_judge_1 : decode cX12_judge 1 = .ok (.iconst 0, 1) := by decide +kernel
theorem dX12_judge_2 : decode cX12_judge 2 = .ok (.aload_n 0, 1) := by decide +kernel
theorem dX12_judge_3 : decode cX12_judge 3 = .ok (.getfield 355, 3) := by decide +kernel
theorem dX12_judge_6 : decode cX12_judge 6 = .ok (.iconst 1, 1) := by decide +kernel
theorem dX12_judge_7 : decode cX12_judge 7 = .ok (.isub, 1) := by decide +kernel
theorem dX12_judge_8 : decode cX12_judge 8 = .ok (.invokestatic 18, 3) := by decide +kernel
theorem dX12_judge_11 : decode cX12_judge 11 = .ok (.ifCond .eq 30, 3) := by decide +kernel
theorem dX12_judge_14 : decode cX12_judge 14 = .ok (.aload_n 0, 1) := by decide +kernel
theorem dX12_judge_15 : decode cX12_judge 15 = .ok (.iload_n 2, 1) := by decide +kernel
theorem dX12_judge_16 : decode cX12_judge 16 = .ok (.invokevirtual 49, 3) := by decide +kernel
theorem dX12_judge_19 : decode cX12_judge 19 = .ok (.ifCond .eq 22, 3) := by decide +kernel
theorem dX12_judge_22 : decode cX12_judge 22 = .ok (.aload_n 0, 1) := by decide +kernel
theorem dX12_judge_23 : decode cX12_judge 23 = .ok (.iload_n 3, 1) := by decide +kernel
theorem dX12_judge_24 : decode cX12_judge 24 = .ok (.invokevirtual 49, 3) := by decide +kernel
theorem dX12_judge_27 : decode cX12_judge 27 = .ok (.ifCond .eq 14, 3) := by decide +kernel
theorem dX12_judge_30 : decode cX12_judge 30 = .ok (.aload_n 0, 1) := by decide +kernel
theorem dX12_judge_31 : decode cX12_judge 31 = .ok (.iload_n 2, 1) := by decide +kernel
theorem dX12_judge_32 : decode cX12_judge 32 = .ok (.iload_n 3, 1) := by decide +kernel
theorem dX12_judge_33 : decode cX12_judge 33 = .ok (.invokevirtual 43, 3) := by decide +kernel
theorem dX12_judge_36 : decode cX12_judge 36 = .ok (.ldc 29, 2) := by decide +kernel
theorem dX12_judge_38 : decode cX12_judge 38 = .ok (.if_icmp .ne 5, 3) := by decide +kernel
theorem dX12_judge_41 : decode cX12_judge 41 = .ok (.iconst (-1), 1) := by decide +kernel
theorem dX12_judge_42 : decode cX12_judge 42 = .ok (.ireturn, 1) := by decide +kernel
theorem dX12_judge_43 : decode cX12_judge 43 = .ok (.aload_n 0, 1) := by decide +kernel
theorem dX12_judge_44 : decode cX12_judge 44 = .ok (.getfield 411, 3) := by decide +kernel
theorem dX12_judge_47 : decode cX12_judge 47 = .ok (.ifCond .ne 6, 3) := by decide +kernel
theorem dX12_judge_50 : decode cX12_judge 50 = .ok (.bipush (-2), 2) := by decide +kernel
theorem dX12_judge_52 : decode cX12_judge 52 = .ok (.ireturn, 1) := by decide +kernel
theorem dX12_judge_53 : decode cX12_judge 53 = .ok (.aload_n 0, 1) := by decide +kernel
theorem dX12_judge_54 : decode cX12_judge 54 = .ok (.iload_n 1, 1) := by decide +kernel
theorem dX12_judge_55 : decode cX12_judge 55 = .ok (.iconst 0, 1) := by decide +kernel
theorem dX12_judge_56 : decode cX12_judge 56 = .ok (.iload_n 2, 1) := by decide +kernel
theorem dX12_judge_57 : decode cX12_judge 57 = .ok (.iload_n 3, 1) := by decide +kernel
theorem dX12_judge_58 : decode cX12_judge 58 = .ok (.invokevirtual 414, 3) := by decide +kernel
theorem dX12_judge_61 : decode cX12_judge 61 = .ok (.ifCond .eq 7, 3) := by decide +kernel
theorem dX12_judge_64 : decode cX12_judge 64 = .ok (.iconst 1, 1) := by decide +kernel
theorem dX12_judge_65 : decode cX12_judge 65 = .ok (.goto 4, 3) := by decide +kernel
theorem dX12_judge_68 : decode cX12_judge 68 = .ok (.iconst 0, 1) := by decide +kernel
theorem dX12_judge_69 : decode cX12_judge 69 = .ok (.ireturn, 1) := by decide +kernel
theorem dX12_letter_0 : decode cX12_letter 0 = .ok (.aload_n 0, 1) := by decide +kernel
theorem dX12_letter_1 : decode cX12_letter 1 = .ok (.iload_n 1, 1) := by decide +kernel
theorem dX12_letter_2 : decode cX12_letter 2 = .ok (.invokevirtual 49, 3) := by decide +kernel
theorem dX12_letter_5 : decode cX12_letter 5 = .ok (.ifCond .ne 5, 3) := by decide +kernel
theorem dX12_letter_8 : decode cX12_letter 8 = .ok (.iconst (-1), 1) := by decide +kernel
theorem dX12_letter_9 : decode cX12_letter 9 = .ok (.ireturn, 1) := by decide +kernel
theorem dX12_letter_10 : decode cX12_letter 10 = .ok (.aload_n 0, 1) := by decide +kernel
theorem dX12_letter_11 : decode cX12_letter 11 = .ok (.iload_n 1, 1) := by decide +kernel
theorem dX12_letter_12 : decode cX12_letter 12 = .ok (.iload_n 2, 1) := by decide +kernel
theorem dX12_letter_13 : decode cX12_letter 13 = .ok (.invokevirtual 689, 3) := by decide +kernel
theorem dX12_letter_16 : decode cX12_letter 16 = .ok (.istore_n 3, 1) := by decide +kernel
theorem dX12_letter_17 : decode cX12_letter 17 = .ok (.aload_n 0, 1) := by decide +kernel
theorem dX12_letter_18 : decode cX12_letter 18 = .ok (.aload_n 0, 1) := by decide +kernel
theorem dX12_letter_19 : decode cX12_letter 19 = .ok (.getfield 683, 3) := by decide +kernel
theorem dX12_letter_22 : decode cX12_letter 22 = .ok (.putfield 692, 3) := by decide +kernel
theorem dX12_letter_25 : decode cX12_letter 25 = .ok (.iconst 0, 1) := by decide +kernel
theorem dX12_letter_26 : decode cX12_letter 26 = .ok (.istore 4, 2) := by decide +kernel
theorem dX12_letter_28 : decode cX12_letter 28 = .ok (.iload 4, 2) := by decide +kernel
theorem dX12_letter_30 : decode cX12_letter 30 = .ok (.aload_n 0, 1) := by decide +kernel
theorem dX12_letter_31 : decode cX12_letter 31 = .ok (.getfield 683, 3) := by decide +kernel
theorem dX12_letter_34 : decode cX12_letter 34 = .ok (.if_icmp .ge 23, 3) := by decide +kernel
theorem dX12_letter_37 : decode cX12_letter 37 = .ok (.aload_n 0, 1) := by decide +kernel
theorem dX12_letter_38 : decode cX12_letter 38 = .ok (.getfield 490, 3) := by decide +kernel
theorem dX12_letter_41 : decode cX12_letter 41 = .ok (.iload 4, 2) := by decide +kernel
theorem dX12_letter_43 : decode cX12_letter 43 = .ok (.aload_n 0, 1) := by decide +kernel
theorem dX12_letter_44 : decode cX12_letter 44 = .ok (.getfield 487, 3) := by decide +kernel
theorem dX12_letter_47 : decode cX12_letter 47 = .ok (.iload 4, 2) := by decide +kernel
theorem dX12_letter_49 : decode cX12_letter 49 = .ok (.iaload, 1) := by decide +kernel
theorem dX12_letter_50 : decode cX12_letter 50 = .ok (.iastore, 1) := by decide +kernel
theorem dX12_letter_51 : decode cX12_letter 51 = .ok (.iinc 4 1, 3) := by decide +kernel
theorem dX12_letter_54 : decode cX12_letter 54 = .ok (.goto (-26), 3) := by decide +kernel
theorem dX12_letter_57 : decode cX12_letter 57 = .ok (.iload_n 3, 1) := by decide +kernel
theorem dX12_letter_58 : decode cX12_letter 58 = .ok (.ireturn, 1) := by decide +kernel
theorem dX12_load_0 : decode cX12_load 0 = .ok (.aload_n 0, 1) := by decide +kernel
theorem dX12_load_1 : decode cX12_load 1 = .ok (.iload_n 1, 1) := by decide +kernel
theorem dX12_load_2 : decode cX12_load 2 = .ok (.invokevirtual 66, 3) := by decide +kernel
theorem dX12_load_5 : decode cX12_load 5 = .ok (.ifCond .eq 12, 3) := by decide +kernel
theorem dX12_load_8 : decode cX12_load 8 = .ok (.iload_n 2, 1) := by decide +kernel
theorem dX12_load_9 : decode cX12_load 9 = .ok (.iconst 0, 1) := by decide +kernel
theorem dX12_load_10 : decode cX12_load 10 = .ok (.iconst 1, 1) := by decide +kernel
theorem dX12_load_11 : decode cX12_load 11 = .ok (.invokestatic 18, 3) := by decide +kernel
theorem dX12_load_14 : decode cX12_load 14 = .ok (.ifCond .ne 5, 3) := by decide +kernel
theorem dX12_load_17 : decode cX12_load 17 = .ok (.iconst (-1), 1) := by decide +kernel
theorem dX12_load_18 : decode cX12_load 18 = .ok (.ireturn, 1) := by decide +kernel
theorem dX12_load_19 : decode cX12_load 19 = .ok (.iconst 0, 1) := by decide +kernel
theorem dX12_load_20 : decode cX12_load 20 = .ok (.istore_n 3, 1) := by decide +kernel
theorem dX12_load_21 : decode cX12_load 21 = .ok (.iconst 0, 1) := by decide +kernel
theorem dX12_load_22 : decode cX12_load 22 = .ok (.istore 4, 2) := by decide +kernel
theorem dX12_load_24 : decode cX12_load 24 = .ok (.iload 4, 2) := by decide +kernel
theorem dX12_load_26 : decode cX12_load 26 = .ok (.aload_n 0, 1) := by decide +kernel
theorem dX12_load_27 : decode cX12_load 27 = .ok (.getfield 695, 3) := by decide +kernel
theorem dX12_load_30 : decode cX12_load 30 = .ok (.if_icmp .ge 102, 3) := by decide +kernel
theorem dX12_load_33 : decode cX12_load 33 = .ok (.aload_n 0, 1) := by decide +kernel
theorem dX12_load_34 : decode cX12_load 34 = .ok (.aload_n 0, 1) := by decide +kernel
theorem dX12_load_35 : decode cX12_load 35 = .ok (.getfield 493, 3) := by decide +kernel
theorem dX12_load_38 : decode cX12_load 38 = .ok (.iload 4, 2) := by decide +kernel
theorem dX12_load_40 : decode cX12_load 40 = .ok (.iaload, 1) := by decide +kernel
theorem dX12_load_41 : decode cX12_load 41 = .ok (.aload_n 0, 1) := by decide +kernel
theorem dX12_load_42 : decode cX12_load 42 = .ok (.getfield 496, 3) := by decide +kernel
theorem dX12_load_45 : decode cX12_load 45 = .ok (.iload 4, 2) := by decide +kernel
theorem dX12_load_47 : decode cX12_load 47 = .ok (.iaload, 1) := by decide +kernel
theorem dX12_load_48 : decode cX12_load 48 = .ok (.invokevirtual 689, 3) := by decide +kernel
theorem dX12_load_51 : decode cX12_load 51 = .ok (.pop, 1) := by decide +kernel
theorem dX12_load_52 : decode cX12_load 52 = .ok (.iconst 0, 1) := by decide +kernel
theorem dX12_load_53 : decode cX12_load 53 = .ok (.istore 5, 2) := by decide +kernel
theorem dX12_load_55 : decode cX12_load 55 = .ok (.iload 5, 2) := by decide +kernel
theorem dX12_load_57 : decode cX12_load 57 = .ok (.iconst 1, 1) := by decide +kernel
theorem dX12_load_58 : decode cX12_load 58 = .ok (.iadd, 1) := by decide +kernel
theorem dX12_load_59 : decode cX12_load 59 = .ok (.aload_n 0, 1) := by decide +kernel
theorem dX12_load_60 : decode cX12_load 60 = .ok (.getfield 683, 3) := by decide +kernel
theorem dX12_load_63 : decode cX12_load 63 = .ok (.if_icmp .ge 63, 3) := by decide +kernel
theorem dX12_load_66 : decode cX12_load 66 = .ok (.aload_n 0, 1) := by decide +kernel
theorem dX12_load_67 : decode cX12_load 67 = .ok (.getfield 487, 3) := by decide +kernel
theorem dX12_load_70 : decode cX12_load 70 = .ok (.iload 5, 2) := by decide +kernel
theorem dX12_load_72 : decode cX12_load 72 = .ok (.iaload, 1) := by decide +kernel
theorem dX12_load_73 : decode cX12_load 73 = .ok (.aload_n 0, 1) := by decide +kernel
theorem dX12_load_74 : decode cX12_load 74 = .ok (.getfield 40, 3) := by decide +kernel
theorem dX12_load_77 : decode cX12_load 77 = .ok (.iconst 2, 1) := by decide +kernel
theorem dX12_load_78 : decode cX12_load 78 = .ok (.iload_n 1, 1) := by decide +kernel
theorem dX12_load_79 : decode cX12_load 79 = .ok (.imul, 1) := by decide +kernel
theorem dX12_load_80 : decode cX12_load 80 = .ok (.iload_n 2, 1) := by decide +kernel
theorem dX12_load_81 : decode cX12_load 81 = .ok (.iadd, 1) := by decide +kernel
theorem dX12_load_82 : decode cX12_load 82 = .ok (.iaload, 1) := by decide +kernel
theorem dX12_load_83 : decode cX12_load 83 = .ok (.if_icmp .ne 37, 3) := by decide +kernel
theorem dX12_load_86 : decode cX12_load 86 = .ok (.aload_n 0, 1) := by decide +kernel
theorem dX12_load_87 : decode cX12_load 87 = .ok (.getfield 487, 3) := by decide +kernel
theorem dX12_load_90 : decode cX12_load 90 = .ok (.iload 5, 2) := by decide +kernel
theorem dX12_load_92 : decode cX12_load 92 = .ok (.iconst 1, 1) := by decide +kernel
theorem dX12_load_93 : decode cX12_load 93 = .ok (.iadd, 1) := by decide +kernel
theorem dX12_load_94 : decode cX12_load 94 = .ok (.iaload, 1) := by decide +kernel
theorem dX12_load_95 : decode cX12_load 95 = .ok (.aload_n 0, 1) := by decide +kernel
theorem dX12_load_96 : decode cX12_load 96 = .ok (.getfield 40, 3) := by decide +kernel
theorem dX12_load_99 : decode cX12_load 99 = .ok (.iconst 2, 1) := by decide +kernel
theorem dX12_load_100 : decode cX12_load 100 = .ok (.iload_n 1, 1) := by decide +kernel
theorem dX12_load_101 : decode cX12_load 101 = .ok (.imul, 1) := by decide +kernel
theorem dX12_load_102 : decode cX12_load 102 = .ok (.iconst 1, 1) := by decide +kernel
theorem dX12_load_103 : decode cX12_load 103 = .ok (.iadd, 1) := by decide +kernel
theorem dX12_load_104 : decode cX12_load 104 = .ok (.iload_n 2, 1) := by decide +kernel
theorem dX12_load_105 : decode cX12_load 105 = .ok (.isub, 1) := by decide +kernel
theorem dX12_load_106 : decode cX12_load 106 = .ok (.iaload, 1) := by decide +kernel
theorem dX12_load_107 : decode cX12_load 107 = .ok (.if_icmp .ne 13, 3) := by decide +kernel
theorem dX12_load_110 : decode cX12_load 110 = .ok (.iload_n 3, 1) := by decide +kernel
theorem dX12_load_111 : decode cX12_load 111 = .ok (.aload_n 0, 1) := by decide +kernel
theorem dX12_load_112 : decode cX12_load 112 = .ok (.getfield 499, 3) := by decide +kernel
theorem dX12_load_115 : decode cX12_load 115 = .ok (.iload 4, 2) := by decide +kernel
theorem dX12_load_117 : decode cX12_load 117 = .ok (.iaload, 1) := by decide +kernel
theorem dX12_load_118 : decode cX12_load 118 = .ok (.iadd, 1) := by decide +kernel
theorem dX12_load_119 : decode cX12_load 119 = .ok (.istore_n 3, 1) := by decide +kernel
theorem dX12_load_120 : decode cX12_load 120 = .ok (.iinc 5 1, 3) := by decide +kernel
theorem dX12_load_123 : decode cX12_load 123 = .ok (.goto (-68), 3) := by decide +kernel
theorem dX12_load_126 : decode cX12_load 126 = .ok (.iinc 4 1, 3) := by decide +kernel
theorem dX12_load_129 : decode cX12_load 129 = .ok (.goto (-105), 3) := by decide +kernel
theorem dX12_load_132 : decode cX12_load 132 = .ok (.iload_n 3, 1) := by decide +kernel
theorem dX12_load_133 : decode cX12_load 133 = .ok (.ireturn, 1) := by decide +kernel
theorem dX12_rule_0 : decode cX12_rule 0 = .ok (.aload_n 0, 1) := by decide +kernel
theorem dX12_rule_1 : decode cX12_rule 1 = .ok (.iload_n 1, 1) := by decide +kernel
theorem dX12_rule_2 : decode cX12_rule 2 = .ok (.invokevirtual 49, 3) := by decide +kernel
theorem dX12_rule_5 : decode cX12_rule 5 = .ok (.ifCond .eq 7, 3) := by decide +kernel
theorem dX12_rule_8 : decode cX12_rule 8 = .ok (.iload_n 2, 1) := by decide +kernel
theorem dX12_rule_9 : decode cX12_rule 9 = .ok (.ifCond .ge 5, 3) := by decide +kernel
theorem dX12_rule_12 : decode cX12_rule 12 = .ok (.iconst (-1), 1) := by decide +kernel
theorem dX12_rule_13 : decode cX12_rule 13 = .ok (.ireturn, 1) := by decide +kernel
theorem dX12_rule_14 : decode cX12_rule 14 = .ok (.iconst 0, 1) := by decide +kernel
theorem dX12_rule_15 : decode cX12_rule 15 = .ok (.istore 4, 2) := by decide +kernel
theorem dX12_rule_17 : decode cX12_rule 17 = .ok (.iconst 0, 1) := by decide +kernel
theorem dX12_rule_18 : decode cX12_rule 18 = .ok (.istore 5, 2) := by decide +kernel
theorem dX12_rule_20 : decode cX12_rule 20 = .ok (.iload_n 2, 1) := by decide +kernel
theorem dX12_rule_21 : decode cX12_rule 21 = .ok (.istore 6, 2) := by decide +kernel
theorem dX12_rule_23 : decode cX12_rule 23 = .ok (.iload 6, 2) := by decide +kernel
theorem dX12_rule_25 : decode cX12_rule 25 = .ok (.ifCond .le 56, 3) := by decide +kernel
theorem dX12_rule_28 : decode cX12_rule 28 = .ok (.iload 6, 2) := by decide +kernel
theorem dX12_rule_30 : decode cX12_rule 30 = .ok (.bipush 10, 2) := by decide +kernel
theorem dX12_rule_32 : decode cX12_rule 32 = .ok (.irem, 1) := by decide +kernel
theorem dX12_rule_33 : decode cX12_rule 33 = .ok (.istore 7, 2) := by decide +kernel
theorem dX12_rule_35 : decode cX12_rule 35 = .ok (.iload 7, 2) := by decide +kernel
theorem dX12_rule_37 : decode cX12_rule 37 = .ok (.iconst 1, 1) := by decide +kernel
theorem dX12_rule_38 : decode cX12_rule 38 = .ok (.bipush 6, 2) := by decide +kernel
theorem dX12_rule_40 : decode cX12_rule 40 = .ok (.invokestatic 18, 3) := by decide +kernel
theorem dX12_rule_43 : decode cX12_rule 43 = .ok (.ifCond .eq 14, 3) := by decide +kernel
theorem dX12_rule_46 : decode cX12_rule 46 = .ok (.iload 4, 2) := by decide +kernel
theorem dX12_rule_48 : decode cX12_rule 48 = .ok (.iload 7, 2) := by decide +kernel
theorem dX12_rule_50 : decode cX12_rule 50 = .ok (.ishr, 1) := by decide +kernel
theorem dX12_rule_51 : decode cX12_rule 51 = .ok (.iconst 1, 1) := by decide +kernel
theorem dX12_rule_52 : decode cX12_rule 52 = .ok (.iand, 1) := by decide +kernel
theorem dX12_rule_53 : decode cX12_rule 53 = .ok (.iconst 1, 1) := by decide +kernel
theorem dX12_rule_54 : decode cX12_rule 54 = .ok (.if_icmp .ne 5, 3) := by decide +kernel
theorem dX12_rule_57 : decode cX12_rule 57 = .ok (.iconst (-1), 1) := by decide +kernel
theorem dX12_rule_58 : decode cX12_rule 58 = .ok (.ireturn, 1) := by decide +kernel
theorem dX12_rule_59 : decode cX12_rule 59 = .ok (.iload 4, 2) := by decide +kernel
theorem dX12_rule_61 : decode cX12_rule 61 = .ok (.iconst 1, 1) := by decide +kernel
theorem dX12_rule_62 : decode cX12_rule 62 = .ok (.iload 7, 2) := by decide +kernel
theorem dX12_rule_64 : decode cX12_rule 64 = .ok (.ishl, 1) := by decide +kernel
theorem dX12_rule_65 : decode cX12_rule 65 = .ok (.ior, 1) := by decide +kernel
theorem dX12_rule_66 : decode cX12_rule 66 = .ok (.istore 4, 2) := by decide +kernel
theorem dX12_rule_68 : decode cX12_rule 68 = .ok (.iinc 5 1, 3) := by decide +kernel
theorem dX12_rule_71 : decode cX12_rule 71 = .ok (.iload 6, 2) := by decide +kernel
theorem dX12_rule_73 : decode cX12_rule 73 = .ok (.bipush 10, 2) := by decide +kernel
theorem dX12_rule_75 : decode cX12_rule 75 = .ok (.idiv, 1) := by decide +kernel
theorem dX12_rule_76 : decode cX12_rule 76 = .ok (.istore 6, 2) := by decide +kernel
theorem dX12_rule_78 : decode cX12_rule 78 = .ok (.goto (-55), 3) := by decide +kernel
theorem dX12_rule_81 : decode cX12_rule 81 = .ok (.iconst 0, 1) := by decide +kernel
theorem dX12_rule_82 : decode cX12_rule 82 = .ok (.istore 6, 2) := by decide +kernel
theorem dX12_rule_84 : decode cX12_rule 84 = .ok (.iload 6, 2) := by decide +kernel
theorem dX12_rule_86 : decode cX12_rule 86 = .ok (.bipush 6, 2) := by decide +kernel
theorem dX12_rule_88 : decode cX12_rule 88 = .ok (.if_icmp .ge 22, 3) := by decide +kernel
theorem dX12_rule_91 : decode cX12_rule 91 = .ok (.aload_n 0, 1) := by decide +kernel
theorem dX12_rule_92 : decode cX12_rule 92 = .ok (.getfield 451, 3) := by decide +kernel
theorem dX12_rule_95 : decode cX12_rule 95 = .ok (.bipush 6, 2) := by decide +kernel
theorem dX12_rule_97 : decode cX12_rule 97 = .ok (.iload_n 1, 1) := by decide +kernel
theorem dX12_rule_98 : decode cX12_rule 98 = .ok (.imul, 1) := by decide +kernel
theorem dX12_rule_99 : decode cX12_rule 99 = .ok (.iload 6, 2) := by decide +kernel
theorem dX12_rule_101 : decode cX12_rule 101 = .ok (.iadd, 1) := by decide +kernel
theorem dX12_rule_102 : decode cX12_rule 102 = .ok (.iconst 0, 1) := by decide +kernel
theorem dX12_rule_103 : decode cX12_rule 103 = .ok (.iastore, 1) := by decide +kernel
theorem dX12_rule_104 : decode cX12_rule 104 = .ok (.iinc 6 1, 3) := by decide +kernel
theorem dX12_rule_107 : decode cX12_rule 107 = .ok (.goto (-23), 3) := by decide +kernel
theorem dX12_rule_110 : decode cX12_rule 110 = .ok (.iload_n 2, 1) := by decide +kernel
theorem dX12_rule_111 : decode cX12_rule 111 = .ok (.istore 6, 2) := by decide +kernel
theorem dX12_rule_113 : decode cX12_rule 113 = .ok (.iload 5, 2) := by decide +kernel
theorem dX12_rule_115 : decode cX12_rule 115 = .ok (.iconst 1, 1) := by decide +kernel
theorem dX12_rule_116 : decode cX12_rule 116 = .ok (.isub, 1) := by decide +kernel
theorem dX12_rule_117 : decode cX12_rule 117 = .ok (.istore 7, 2) := by decide +kernel
theorem dX12_rule_119 : decode cX12_rule 119 = .ok (.iload 7, 2) := by decide +kernel
theorem dX12_rule_121 : decode cX12_rule 121 = .ok (.ifCond .lt 33, 3) := by decide +kernel
theorem dX12_rule_124 : decode cX12_rule 124 = .ok (.aload_n 0, 1) := by decide +kernel
theorem dX12_rule_125 : decode cX12_rule 125 = .ok (.getfield 451, 3) := by decide +kernel
theorem dX12_rule_128 : decode cX12_rule 128 = .ok (.bipush 6, 2) := by decide +kernel
theorem dX12_rule_130 : decode cX12_rule 130 = .ok (.iload_n 1, 1) := by decide +kernel
theorem dX12_rule_131 : decode cX12_rule 131 = .ok (.imul, 1) := by decide +kernel
theorem dX12_rule_132 : decode cX12_rule 132 = .ok (.iload 7, 2) := by decide +kernel
theorem dX12_rule_134 : decode cX12_rule 134 = .ok (.iadd, 1) := by decide +kernel
theorem dX12_rule_135 : decode cX12_rule 135 = .ok (.iload 6, 2) := by decide +kernel
theorem dX12_rule_137 : decode cX12_rule 137 = .ok (.bipush 10, 2) := by decide +kernel
theorem dX12_rule_139 : decode cX12_rule 139 = .ok (.irem, 1) := by decide +kernel
theorem dX12_rule_140 : decode cX12_rule 140 = .ok (.iastore, 1) := by decide +kernel
theorem dX12_rule_141 : decode cX12_rule 141 = .ok (.iload 6, 2) := by decide +kernel
theorem dX12_rule_143 : decode cX12_rule 143 = .ok (.bipush 10, 2) := by decide +kernel
theorem dX12_rule_145 : decode cX12_rule 145 = .ok (.idiv, 1) := by decide +kernel
theorem dX12_rule_146 : decode cX12_rule 146 = .ok (.istore 6, 2) := by decide +kernel
theorem dX12_rule_148 : decode cX12_rule 148 = .ok (.iinc 7 (-1), 3) := by decide +kernel
theorem dX12_rule_151 : decode cX12_rule 151 = .ok (.goto (-32), 3) := by decide +kernel
theorem dX12_rule_154 : decode cX12_rule 154 = .ok (.aload_n 0, 1) := by decide +kernel
theorem dX12_rule_155 : decode cX12_rule 155 = .ok (.getfield 454, 3) := by decide +kernel
theorem dX12_rule_158 : decode cX12_rule 158 = .ok (.iload_n 1, 1) := by decide +kernel
theorem dX12_rule_159 : decode cX12_rule 159 = .ok (.iload_n 3, 1) := by decide +kernel
theorem dX12_rule_160 : decode cX12_rule 160 = .ok (.bastore, 1) := by decide +kernel
theorem dX12_rule_161 : decode cX12_rule 161 = .ok (.aload_n 0, 1) := by decide +kernel
theorem dX12_rule_162 : decode cX12_rule 162 = .ok (.iload_n 1, 1) := by decide +kernel
theorem dX12_rule_163 : decode cX12_rule 163 = .ok (.invokevirtual 600, 3) := by decide +kernel
theorem dX12_rule_166 : decode cX12_rule 166 = .ok (.iconst 0, 1) := by decide +kernel
theorem dX12_rule_167 : decode cX12_rule 167 = .ok (.ireturn, 1) := by decide +kernel
theorem dX12_three_0 : decode cX12_three 0 = .ok (.aload_n 0, 1) := by decide +kernel
theorem dX12_three_1 : decode cX12_three 1 = .ok (.iload_n 1, 1) := by decide +kernel
theorem dX12_three_2 : decode cX12_three 2 = .ok (.invokevirtual 49, 3) := by decide +kernel
theorem dX12_three_5 : decode cX12_three 5 = .ok (.ifCond .eq 11, 3) := by decide +kernel
theorem dX12_three_8 : decode cX12_three 8 = .ok (.aload_n 0, 1) := by decide +kernel
theorem dX12_three_9 : decode cX12_three 9 = .ok (.iload_n 2, 1) := by decide +kernel
theorem dX12_three_10 : decode cX12_three 10 = .ok (.invokevirtual 92, 3) := by decide +kernel
theorem dX12_three_13 : decode cX12_three 13 = .ok (.ifCond .ne 5, 3) := by decide +kernel
theorem dX12_three_16 : decode cX12_three 16 = .ok (.iconst (-1), 1) := by decide +kernel
theorem dX12_three_17 : decode cX12_three 17 = .ok (.ireturn, 1) := by decide +kernel
theorem dX12_three_18 : decode cX12_three 18 = .ok (.aload_n 0, 1) := by decide +kernel
theorem dX12_three_19 : decode cX12_three 19 = .ok (.getfield 448, 3) := by decide +kernel
theorem dX12_three_22 : decode cX12_three 22 = .ok (.bipush 10, 2) := by decide +kernel
theorem dX12_three_24 : decode cX12_three 24 = .ok (.iload_n 1, 1) := by decide +kernel
theorem dX12_three_25 : decode cX12_three 25 = .ok (.imul, 1) := by decide +kernel
theorem dX12_three_26 : decode cX12_three 26 = .ok (.iload_n 2, 1) := by decide +kernel
theorem dX12_three_27 : decode cX12_three 27 = .ok (.iadd, 1) := by decide +kernel
theorem dX12_three_28 : decode cX12_three 28 = .ok (.iaload, 1) := by decide +kernel
theorem dX12_three_29 : decode cX12_three 29 = .ok (.ifCond .ge 12, 3) := by decide +kernel
theorem dX12_three_32 : decode cX12_three 32 = .ok (.iload_n 3, 1) := by decide +kernel
theorem dX12_three_33 : decode cX12_three 33 = .ok (.iconst 0, 1) := by decide +kernel
theorem dX12_three_34 : decode cX12_three 34 = .ok (.iconst 2, 1) := by decide +kernel
theorem dX12_three_35 : decode cX12_three 35 = .ok (.invokestatic 18, 3) := by decide +kernel
theorem dX12_three_38 : decode cX12_three 38 = .ok (.ifCond .ne 6, 3) := by decide +kernel
theorem dX12_three_41 : decode cX12_three 41 = .ok (.ldc 29, 2) := by decide +kernel
theorem dX12_three_43 : decode cX12_three 43 = .ok (.ireturn, 1) := by decide +kernel
theorem dX12_three_44 : decode cX12_three 44 = .ok (.aload_n 0, 1) := by decide +kernel
theorem dX12_three_45 : decode cX12_three 45 = .ok (.iload_n 1, 1) := by decide +kernel
theorem dX12_three_46 : decode cX12_three 46 = .ok (.iload_n 2, 1) := by decide +kernel
theorem dX12_three_47 : decode cX12_three 47 = .ok (.invokevirtual 572, 3) := by decide +kernel
theorem dX12_three_50 : decode cX12_three 50 = .ok (.iconst 0, 1) := by decide +kernel
theorem dX12_three_51 : decode cX12_three 51 = .ok (.istore 4, 2) := by decide +kernel
theorem dX12_three_53 : decode cX12_three 53 = .ok (.iload 4, 2) := by decide +kernel
theorem dX12_three_55 : decode cX12_three 55 = .ok (.aload_n 0, 1) := by decide +kernel
theorem dX12_three_56 : decode cX12_three 56 = .ok (.getfield 37, 3) := by decide +kernel
theorem dX12_three_59 : decode cX12_three 59 = .ok (.if_icmp .ge 166, 3) := by decide +kernel
theorem dX12_three_62 : decode cX12_three 62 = .ok (.iconst 0, 1) := by decide +kernel
theorem dX12_three_63 : decode cX12_three 63 = .ok (.istore 5, 2) := by decide +kernel
theorem dX12_three_65 : decode cX12_three 65 = .ok (.iload 5, 2) := by decide +kernel
theorem dX12_three_67 : decode cX12_three 67 = .ok (.aload_n 0, 1) := by decide +kernel
theorem dX12_three_68 : decode cX12_three 68 = .ok (.getfield 37, 3) := by decide +kernel
theorem dX12_three_71 : decode cX12_three 71 = .ok (.if_icmp .ge 148, 3) := by decide +kernel
theorem dX12_three_74 : decode cX12_three 74 = .ok (.aload_n 0, 1) := by decide +kernel
theorem dX12_three_75 : decode cX12_three 75 = .ok (.iconst 4, 1) := by decide +kernel
theorem dX12_three_76 : decode cX12_three 76 = .ok (.iload 4, 2) := by decide +kernel
theorem dX12_three_78 : decode cX12_three 78 = .ok (.iadd, 1) := by decide +kernel
theorem dX12_three_79 : decode cX12_three 79 = .ok (.invokevirtual 151, 3) := by decide +kernel
theorem dX12_three_82 : decode cX12_three 82 = .ok (.ifCond .eq 137, 3) := by decide +kernel
theorem dX12_three_85 : decode cX12_three 85 = .ok (.iload 5, 2) := by decide +kernel
theorem dX12_three_87 : decode cX12_three 87 = .ok (.iload 4, 2) := by decide +kernel
theorem dX12_three_89 : decode cX12_three 89 = .ok (.if_icmp .eq 124, 3) := by decide +kernel
theorem dX12_three_92 : decode cX12_three 92 = .ok (.aload_n 0, 1) := by decide +kernel
theorem dX12_three_93 : decode cX12_three 93 = .ok (.iconst 4, 1) := by decide +kernel
theorem dX12_three_94 : decode cX12_three 94 = .ok (.iload 5, 2) := by decide +kernel
theorem dX12_three_96 : decode cX12_three 96 = .ok (.iadd, 1) := by decide +kernel
theorem dX12_three_97 : decode cX12_three 97 = .ok (.invokevirtual 151, 3) := by decide +kernel
theorem dX12_three_100 : decode cX12_three 100 = .ok (.ifCond .eq 113, 3) := by decide +kernel
theorem dX12_three_103 : decode cX12_three 103 = .ok (.aload_n 0, 1) := by decide +kernel
theorem dX12_three_104 : decode cX12_three 104 = .ok (.iload_n 1, 1) := by decide +kernel
theorem dX12_three_105 : decode cX12_three 105 = .ok (.iload 4, 2) := by decide +kernel
theorem dX12_three_107 : decode cX12_three 107 = .ok (.iload 5, 2) := by decide +kernel
theorem dX12_three_109 : decode cX12_three 109 = .ok (.iload_n 2, 1) := by decide +kernel
theorem dX12_three_110 : decode cX12_three 110 = .ok (.invokevirtual 568, 3) := by decide +kernel
theorem dX12_three_113 : decode cX12_three 113 = .ok (.ifCond .ne 6, 3) := by decide +kernel
theorem dX12_three_116 : decode cX12_three 116 = .ok (.goto 97, 3) := by decide +kernel
theorem dX12_three_119 : decode cX12_three 119 = .ok (.iconst 0, 1) := by decide +kernel
theorem dX12_three_120 : decode cX12_three 120 = .ok (.istore 6, 2) := by decide +kernel
theorem dX12_three_122 : decode cX12_three 122 = .ok (.iload 6, 2) := by decide +kernel
theorem dX12_three_124 : decode cX12_three 124 = .ok (.aload_n 0, 1) := by decide +kernel
theorem dX12_three_125 : decode cX12_three 125 = .ok (.getfield 37, 3) := by decide +kernel
theorem dX12_three_128 : decode cX12_three 128 = .ok (.if_icmp .ge 85, 3) := by decide +kernel
theorem dX12_three_131 : decode cX12_three 131 = .ok (.iload 6, 2) := by decide +kernel
theorem dX12_three_133 : decode cX12_three 133 = .ok (.iload 4, 2) := by decide +kernel
theorem dX12_three_135 : decode cX12_three 135 = .ok (.if_icmp .eq 72, 3) := by decide +kernel
theorem dX12_three_138 : decode cX12_three 138 = .ok (.iload 6, 2) := by decide +kernel
theorem dX12_three_140 : decode cX12_three 140 = .ok (.iload 5, 2) := by decide +kernel
theorem dX12_three_142 : decode cX12_three 142 = .ok (.if_icmp .eq 65, 3) := by decide +kernel
theorem dX12_three_145 : decode cX12_three 145 = .ok (.aload_n 0, 1) := by decide +kernel
theorem dX12_three_146 : decode cX12_three 146 = .ok (.iconst 4, 1) := by decide +kernel
theorem dX12_three_147 : decode cX12_three 147 = .ok (.iload 6, 2) := by decide +kernel
theorem dX12_three_149 : decode cX12_three 149 = .ok (.iadd, 1) := by decide +kernel
theorem dX12_three_150 : decode cX12_three 150 = .ok (.invokevirtual 151, 3) := by decide +kernel
theorem dX12_three_153 : decode cX12_three 153 = .ok (.ifCond .ne 6, 3) := by decide +kernel
theorem dX12_three_156 : decode cX12_three 156 = .ok (.goto 51, 3) := by decide +kernel
theorem dX12_three_159 : decode cX12_three 159 = .ok (.aload_n 0, 1) := by decide +kernel
theorem dX12_three_160 : decode cX12_three 160 = .ok (.iload_n 1, 1) := by decide +kernel
theorem dX12_three_161 : decode cX12_three 161 = .ok (.iload 5, 2) := by decide +kernel
theorem dX12_three_163 : decode cX12_three 163 = .ok (.iload 6, 2) := by decide +kernel
theorem dX12_three_165 : decode cX12_three 165 = .ok (.iload_n 2, 1) := by decide +kernel
theorem dX12_three_166 : decode cX12_three 166 = .ok (.invokevirtual 568, 3) := by decide +kernel
theorem dX12_three_169 : decode cX12_three 169 = .ok (.ifCond .eq 38, 3) := by decide +kernel
theorem dX12_three_172 : decode cX12_three 172 = .ok (.aload_n 0, 1) := by decide +kernel
theorem dX12_three_173 : decode cX12_three 173 = .ok (.iload_n 1, 1) := by decide +kernel
theorem dX12_three_174 : decode cX12_three 174 = .ok (.iload 6, 2) := by decide +kernel
theorem dX12_three_176 : decode cX12_three 176 = .ok (.iload 4, 2) := by decide +kernel
theorem dX12_three_178 : decode cX12_three 178 = .ok (.iload_n 2, 1) := by decide +kernel
theorem dX12_three_179 : decode cX12_three 179 = .ok (.invokevirtual 568, 3) := by decide +kernel
theorem dX12_three_182 : decode cX12_three 182 = .ok (.ifCond .eq 25, 3) := by decide +kernel
theorem dX12_three_185 : decode cX12_three 185 = .ok (.iload_n 3, 1) := by decide +kernel
theorem dX12_three_186 : decode cX12_three 186 = .ok (.ifCond .ne 8, 3) := by decide +kernel
theorem dX12_three_189 : decode cX12_three 189 = .ok (.iload 4, 2) := by decide +kernel
theorem dX12_three_191 : decode cX12_three 191 = .ok (.goto 15, 3) := by decide +kernel
theorem dX12_three_194 : decode cX12_three 194 = .ok (.iload_n 3, 1) := by decide +kernel
theorem dX12_three_195 : decode cX12_three 195 = .ok (.iconst 1, 1) := by decide +kernel
theorem dX12_three_196 : decode cX12_three 196 = .ok (.if_icmp .ne 8, 3) := by decide +kernel
theorem dX12_three_199 : decode cX12_three 199 = .ok (.iload 5, 2) := by decide +kernel
theorem dX12_three_201 : decode cX12_three 201 = .ok (.goto 5, 3) := by decide +kernel
theorem dX12_three_204 : decode cX12_three 204 = .ok (.iload 6, 2) := by decide +kernel
theorem dX12_three_206 : decode cX12_three 206 = .ok (.ireturn, 1) := by decide +kernel
theorem dX12_three_207 : decode cX12_three 207 = .ok (.iinc 6 1, 3) := by decide +kernel
theorem dX12_three_210 : decode cX12_three 210 = .ok (.goto (-88), 3) := by decide +kernel
theorem dX12_three_213 : decode cX12_three 213 = .ok (.iinc 5 1, 3) := by decide +kernel
theorem dX12_three_216 : decode cX12_three 216 = .ok (.goto (-151), 3) := by decide +kernel
theorem dX12_three_219 : decode cX12_three 219 = .ok (.iinc 4 1, 3) := by decide +kernel
theorem dX12_three_222 : decode cX12_three 222 = .ok (.goto (-169), 3) := by decide +kernel
theorem dX12_three_225 : decode cX12_three 225 = .ok (.ldc 29, 2) := by decide +kernel
theorem dX12_three_227 : decode cX12_three 227 = .ok (.ireturn, 1) := by decide +kernel
theorem dX12_units_0 : decode cX12_units 0 = .ok (.iload_n 1, 1) := by decide +kernel
theorem dX12_units_1 : decode cX12_units 1 = .ok (.iconst 0, 1) := by decide +kernel
theorem dX12_units_2 : decode cX12_units 2 = .ok (.iconst 2, 1) := by decide +kernel
theorem dX12_units_3 : decode cX12_units 3 = .ok (.invokestatic 18, 3) := by decide +kernel
theorem dX12_units_6 : decode cX12_units 6 = .ok (.ifCond .ne 5, 3) := by decide +kernel
theorem dX12_units_9 : decode cX12_units 9 = .ok (.iconst (-1), 1) := by decide +kernel
theorem dX12_units_10 : decode cX12_units 10 = .ok (.ireturn, 1) := by decide +kernel
theorem dX12_units_11 : decode cX12_units 11 = .ok (.iconst 0, 1) := by decide +kernel
theorem dX12_units_12 : decode cX12_units 12 = .ok (.istore_n 2, 1) := by decide +kernel
theorem dX12_units_13 : decode cX12_units 13 = .ok (.iconst 0, 1) := by decide +kernel
theorem dX12_units_14 : decode cX12_units 14 = .ok (.istore_n 3, 1) := by decide +kernel
theorem dX12_units_15 : decode cX12_units 15 = .ok (.iload_n 3, 1) := by decide +kernel
theorem dX12_units_16 : decode cX12_units 16 = .ok (.aload_n 0, 1) := by decide +kernel
theorem dX12_units_17 : decode cX12_units 17 = .ok (.getfield 695, 3) := by decide +kernel
theorem dX12_units_20 : decode cX12_units 20 = .ok (.if_icmp .ge 42, 3) := by decide +kernel
theorem dX12_units_23 : decode cX12_units 23 = .ok (.iload_n 2, 1) := by decide +kernel
theorem dX12_units_24 : decode cX12_units 24 = .ok (.aload_n 0, 1) := by decide +kernel
theorem dX12_units_25 : decode cX12_units 25 = .ok (.aload_n 0, 1) := by decide +kernel
theorem dX12_units_26 : decode cX12_units 26 = .ok (.getfield 493, 3) := by decide +kernel
theorem dX12_units_29 : decode cX12_units 29 = .ok (.iload_n 3, 1) := by decide +kernel
theorem dX12_units_30 : decode cX12_units 30 = .ok (.iaload, 1) := by decide +kernel
theorem dX12_units_31 : decode cX12_units 31 = .ok (.aload_n 0, 1) := by decide +kernel
theorem dX12_units_32 : decode cX12_units 32 = .ok (.getfield 496, 3) := by decide +kernel
theorem dX12_units_35 : decode cX12_units 35 = .ok (.iload_n 3, 1) := by decide +kernel
theorem dX12_units_36 : decode cX12_units 36 = .ok (.iaload, 1) := by decide +kernel
theorem dX12_units_37 : decode cX12_units 37 = .ok (.invokevirtual 689, 3) := by decide +kernel
theorem dX12_units_40 : decode cX12_units 40 = .ok (.iload_n 1, 1) := by decide +kernel
theorem dX12_units_41 : decode cX12_units 41 = .ok (.if_icmp .ne 12, 3) := by decide +kernel
theorem dX12_units_44 : decode cX12_units 44 = .ok (.aload_n 0, 1) := by decide +kernel
theorem dX12_units_45 : decode cX12_units 45 = .ok (.getfield 499, 3) := by decide +kernel
theorem dX12_units_48 : decode cX12_units 48 = .ok (.iload_n 3, 1) := by decide +kernel
theorem dX12_units_49 : decode cX12_units 49 = .ok (.iaload, 1) := by decide +kernel
theorem dX12_units_50 : decode cX12_units 50 = .ok (.goto 4, 3) := by decide +kernel
theorem dX12_units_53 : decode cX12_units 53 = .ok (.iconst 0, 1) := by decide +kernel
theorem dX12_units_54 : decode cX12_units 54 = .ok (.iadd, 1) := by decide +kernel
theorem dX12_units_55 : decode cX12_units 55 = .ok (.istore_n 2, 1) := by decide +kernel
theorem dX12_units_56 : decode cX12_units 56 = .ok (.iinc 3 1, 3) := by decide +kernel
theorem dX12_units_59 : decode cX12_units 59 = .ok (.goto (-44), 3) := by decide +kernel
theorem dX12_units_62 : decode cX12_units 62 = .ok (.iload_n 2, 1) := by decide +kernel
theorem dX12_units_63 : decode cX12_units 63 = .ok (.ireturn, 1) := by decide +kernel
theorem dX12_until_0 : decode cX12_until 0 = .ok (.iload_n 1, 1) := by decide +kernel
theorem dX12_until_1 : decode cX12_until 1 = .ok (.aload_n 0, 1) := by decide +kernel
theorem dX12_until_2 : decode cX12_until 2 = .ok (.getfield 591, 3) := by decide +kernel
theorem dX12_until_5 : decode cX12_until 5 = .ok (.if_icmp .lt 10, 3) := by decide +kernel
theorem dX12_until_8 : decode cX12_until 8 = .ok (.iload_n 1, 1) := by decide +kernel
theorem dX12_until_9 : decode cX12_until 9 = .ok (.ldc_w 619, 3) := by decide +kernel
theorem dX12_until_12 : decode cX12_until 12 = .ok (.if_icmp .le 5, 3) := by decide +kernel
theorem dX12_until_15 : decode cX12_until 15 = .ok (.iconst (-1), 1) := by decide +kernel
theorem dX12_until_16 : decode cX12_until 16 = .ok (.ireturn, 1) := by decide +kernel
theorem dX12_until_17 : decode cX12_until 17 = .ok (.iconst 0, 1) := by decide +kernel
theorem dX12_until_18 : decode cX12_until 18 = .ok (.istore_n 2, 1) := by decide +kernel
theorem dX12_until_19 : decode cX12_until 19 = .ok (.aload_n 0, 1) := by decide +kernel
theorem dX12_until_20 : decode cX12_until 20 = .ok (.invokevirtual 613, 3) := by decide +kernel
theorem dX12_until_23 : decode cX12_until 23 = .ok (.istore_n 3, 1) := by decide +kernel
theorem dX12_until_24 : decode cX12_until 24 = .ok (.iload_n 2, 1) := by decide +kernel
theorem dX12_until_25 : decode cX12_until 25 = .ok (.sipush 500, 3) := by decide +kernel
theorem dX12_until_28 : decode cX12_until 28 = .ok (.if_icmp .ge 34, 3) := by decide +kernel
theorem dX12_until_31 : decode cX12_until 31 = .ok (.iload_n 3, 1) := by decide +kernel
theorem dX12_until_32 : decode cX12_until 32 = .ok (.ldc 29, 2) := by decide +kernel
theorem dX12_until_34 : decode cX12_until 34 = .ok (.if_icmp .eq 28, 3) := by decide +kernel
theorem dX12_until_37 : decode cX12_until 37 = .ok (.aload_n 0, 1) := by decide +kernel
theorem dX12_until_38 : decode cX12_until 38 = .ok (.iload_n 3, 1) := by decide +kernel
theorem dX12_until_39 : decode cX12_until 39 = .ok (.invokevirtual 607, 3) := by decide +kernel
theorem dX12_until_42 : decode cX12_until 42 = .ok (.iload_n 1, 1) := by decide +kernel
theorem dX12_until_43 : decode cX12_until 43 = .ok (.if_icmp .gt 19, 3) := by decide +kernel
theorem dX12_until_46 : decode cX12_until 46 = .ok (.aload_n 0, 1) := by decide +kernel
theorem dX12_until_47 : decode cX12_until 47 = .ok (.iload_n 3, 1) := by decide +kernel
theorem dX12_until_48 : decode cX12_until 48 = .ok (.invokevirtual 616, 3) := by decide +kernel
theorem dX12_until_51 : decode cX12_until 51 = .ok (.iinc 2 1, 3) := by decide +kernel
theorem dX12_until_54 : decode cX12_until 54 = .ok (.aload_n 0, 1) := by decide +kernel
theorem dX12_until_55 : decode cX12_until 55 = .ok (.invokevirtual 613, 3) := by decide +kernel
theorem dX12_until_58 : decode cX12_until 58 = .ok (.istore_n 3, 1) := by decide +kernel
theorem dX12_until_59 : decode cX12_until 59 = .ok (.goto (-35), 3) := by decide +kernel
theorem dX12_until_62 : decode cX12_until 62 = .ok (.iload_n 3, 1) := by decide +kernel
theorem dX12_until_63 : decode cX12_until 63 = .ok (.ldc 29, 2) := by decide +kernel
theorem dX12_until_65 : decode cX12_until 65 = .ok (.if_icmp .eq 12, 3) := by decide +kernel
theorem dX12_until_68 : decode cX12_until 68 = .ok (.aload_n 0, 1) := by decide +kernel
theorem dX12_until_69 : decode cX12_until 69 = .ok (.iload_n 3, 1) := by decide +kernel
theorem dX12_until_70 : decode cX12_until 70 = .ok (.invokevirtual 607, 3) := by decide +kernel
theorem dX12_until_73 : decode cX12_until 73 = .ok (.iload_n 1, 1) := by decide +kernel
theorem dX12_until_74 : decode cX12_until 74 = .ok (.if_icmp .le 8, 3) := by decide +kernel
theorem dX12_until_77 : decode cX12_until 77 = .ok (.aload_n 0, 1) := by decide +kernel
theorem dX12_until_78 : decode cX12_until 78 = .ok (.iload_n 1, 1) := by decide +kernel
theorem dX12_until_79 : decode cX12_until 79 = .ok (.putfield 591, 3) := by decide +kernel
theorem dX12_until_82 : decode cX12_until 82 = .ok (.iload_n 2, 1) := by decide +kernel
theorem dX12_until_83 : decode cX12_until 83 = .ok (.ireturn, 1) := by decide +kernel
theorem dX12_wish_0 : decode cX12_wish 0 = .ok (.aload_n 0, 1) := by decide +kernel
theorem dX12_wish_1 : decode cX12_wish 1 = .ok (.getfield 79, 3) := by decide +kernel
theorem dX12_wish_4 : decode cX12_wish 4 = .ok (.iconst 2, 1) := by decide +kernel
theorem dX12_wish_5 : decode cX12_wish 5 = .ok (.if_icmp .lt 39, 3) := by decide +kernel
theorem dX12_wish_8 : decode cX12_wish 8 = .ok (.aload_n 0, 1) := by decide +kernel
theorem dX12_wish_9 : decode cX12_wish 9 = .ok (.getfield 79, 3) := by decide +kernel
theorem dX12_wish_12 : decode cX12_wish 12 = .ok (.bipush 7, 2) := by decide +kernel
theorem dX12_wish_14 : decode cX12_wish 14 = .ok (.if_icmp .gt 30, 3) := by decide +kernel
theorem dX12_wish_17 : decode cX12_wish 17 = .ok (.aload_n 0, 1) := by decide +kernel
theorem dX12_wish_18 : decode cX12_wish 18 = .ok (.getfield 82, 3) := by decide +kernel
theorem dX12_wish_21 : decode cX12_wish 21 = .ok (.iconst 0, 1) := by decide +kernel
theorem dX12_wish_22 : decode cX12_wish 22 = .ok (.iaload, 1) := by decide +kernel
theorem dX12_wish_23 : decode cX12_wish 23 = .ok (.ifCond .eq 21, 3) := by decide +kernel
theorem dX12_wish_26 : decode cX12_wish 26 = .ok (.aload_n 0, 1) := by decide +kernel
theorem dX12_wish_27 : decode cX12_wish 27 = .ok (.getfield 82, 3) := by decide +kernel
theorem dX12_wish_30 : decode cX12_wish 30 = .ok (.aload_n 0, 1) := by decide +kernel
theorem dX12_wish_31 : decode cX12_wish 31 = .ok (.getfield 79, 3) := by decide +kernel
theorem dX12_wish_34 : decode cX12_wish 34 = .ok (.iconst 1, 1) := by decide +kernel
theorem dX12_wish_35 : decode cX12_wish 35 = .ok (.isub, 1) := by decide +kernel
theorem dX12_wish_36 : decode cX12_wish 36 = .ok (.iaload, 1) := by decide +kernel
theorem dX12_wish_37 : decode cX12_wish 37 = .ok (.ifCond .ne 7, 3) := by decide +kernel
theorem dX12_wish_40 : decode cX12_wish 40 = .ok (.iconst 1, 1) := by decide +kernel
theorem dX12_wish_41 : decode cX12_wish 41 = .ok (.goto 4, 3) := by decide +kernel
theorem dX12_wish_44 : decode cX12_wish 44 = .ok (.iconst 0, 1) := by decide +kernel
theorem dX12_wish_45 : decode cX12_wish 45 = .ok (.istore_n 1, 1) := by decide +kernel
theorem dX12_wish_46 : decode cX12_wish 46 = .ok (.iconst 0, 1) := by decide +kernel
theorem dX12_wish_47 : decode cX12_wish 47 = .ok (.istore_n 2, 1) := by decide +kernel
theorem dX12_wish_48 : decode cX12_wish 48 = .ok (.iload_n 2, 1) := by decide +kernel
theorem dX12_wish_49 : decode cX12_wish 49 = .ok (.aload_n 0, 1) := by decide +kernel
theorem dX12_wish_50 : decode cX12_wish 50 = .ok (.getfield 79, 3) := by decide +kernel
theorem dX12_wish_53 : decode cX12_wish 53 = .ok (.if_icmp .ge 68, 3) := by decide +kernel
theorem dX12_wish_56 : decode cX12_wish 56 = .ok (.iload_n 1, 1) := by decide +kernel
theorem dX12_wish_57 : decode cX12_wish 57 = .ok (.ifCond .eq 64, 3) := by decide +kernel
theorem dX12_wish_60 : decode cX12_wish 60 = .ok (.aload_n 0, 1) := by decide +kernel
theorem dX12_wish_61 : decode cX12_wish 61 = .ok (.getfield 82, 3) := by decide +kernel
theorem dX12_wish_64 : decode cX12_wish 64 = .ok (.iload_n 2, 1) := by decide +kernel
theorem dX12_wish_65 : decode cX12_wish 65 = .ok (.iaload, 1) := by decide +kernel
theorem dX12_wish_66 : decode cX12_wish 66 = .ok (.bipush 6, 2) := by decide +kernel
theorem dX12_wish_68 : decode cX12_wish 68 = .ok (.if_icmp .gt 7, 3) := by decide +kernel
theorem dX12_wish_71 : decode cX12_wish 71 = .ok (.iconst 1, 1) := by decide +kernel
theorem dX12_wish_72 : decode cX12_wish 72 = .ok (.goto 4, 3) := by decide +kernel
theorem dX12_wish_75 : decode cX12_wish 75 = .ok (.iconst 0, 1) := by decide +kernel
theorem dX12_wish_76 : decode cX12_wish 76 = .ok (.istore_n 1, 1) := by decide +kernel
theorem dX12_wish_77 : decode cX12_wish 77 = .ok (.iconst 0, 1) := by decide +kernel
theorem dX12_wish_78 : decode cX12_wish 78 = .ok (.istore_n 3, 1) := by decide +kernel
theorem dX12_wish_79 : decode cX12_wish 79 = .ok (.iload_n 3, 1) := by decide +kernel
theorem dX12_wish_80 : decode cX12_wish 80 = .ok (.iload_n 2, 1) := by decide +kernel
theorem dX12_wish_81 : decode cX12_wish 81 = .ok (.if_icmp .ge 34, 3) := by decide +kernel
theorem dX12_wish_84 : decode cX12_wish 84 = .ok (.iload_n 1, 1) := by decide +kernel
theorem dX12_wish_85 : decode cX12_wish 85 = .ok (.ifCond .eq 22, 3) := by decide +kernel
theorem dX12_wish_88 : decode cX12_wish 88 = .ok (.aload_n 0, 1) := by decide +kernel
theorem dX12_wish_89 : decode cX12_wish 89 = .ok (.getfield 82, 3) := by decide +kernel
theorem dX12_wish_92 : decode cX12_wish 92 = .ok (.iload_n 2, 1) := by decide +kernel
theorem dX12_wish_93 : decode cX12_wish 93 = .ok (.iaload, 1) := by decide +kernel
theorem dX12_wish_94 : decode cX12_wish 94 = .ok (.aload_n 0, 1) := by decide +kernel
theorem dX12_wish_95 : decode cX12_wish 95 = .ok (.getfield 82, 3) := by decide +kernel
theorem dX12_wish_98 : decode cX12_wish 98 = .ok (.iload_n 3, 1) := by decide +kernel
theorem dX12_wish_99 : decode cX12_wish 99 = .ok (.iaload, 1) := by decide +kernel
theorem dX12_wish_100 : decode cX12_wish 100 = .ok (.if_icmp .eq 7, 3) := by decide +kernel
theorem dX12_wish_103 : decode cX12_wish 103 = .ok (.iconst 1, 1) := by decide +kernel
theorem dX12_wish_104 : decode cX12_wish 104 = .ok (.goto 4, 3) := by decide +kernel
theorem dX12_wish_107 : decode cX12_wish 107 = .ok (.iconst 0, 1) := by decide +kernel
theorem dX12_wish_108 : decode cX12_wish 108 = .ok (.istore_n 1, 1) := by decide +kernel
theorem dX12_wish_109 : decode cX12_wish 109 = .ok (.iinc 3 1, 3) := by decide +kernel
theorem dX12_wish_112 : decode cX12_wish 112 = .ok (.goto (-33), 3) := by decide +kernel
theorem dX12_wish_115 : decode cX12_wish 115 = .ok (.iinc 2 1, 3) := by decide +kernel
theorem dX12_wish_118 : decode cX12_wish 118 = .ok (.goto (-70), 3) := by decide +kernel
theorem dX12_wish_121 : decode cX12_wish 121 = .ok (.iload_n 1, 1) := by decide +kernel
theorem dX12_wish_122 : decode cX12_wish 122 = .ok (.ifCond .ne 5, 3) := by decide +kernel
theorem dX12_wish_125 : decode cX12_wish 125 = .ok (.iconst (-1), 1) := by decide +kernel
theorem dX12_wish_126 : decode cX12_wish 126 = .ok (.ireturn, 1) := by decide +kernel
theorem dX12_wish_127 : decode cX12_wish 127 = .ok (.aload_n 0, 1) := by decide +kernel
theorem dX12_wish_128 : decode cX12_wish 128 = .ok (.getfield 82, 3) := by decide +kernel
theorem dX12_wish_131 : decode cX12_wish 131 = .ok (.iconst 0, 1) := by decide +kernel
theorem dX12_wish_132 : decode cX12_wish 132 = .ok (.iaload, 1) := by decide +kernel
theorem dX12_wish_133 : decode cX12_wish 133 = .ok (.istore_n 2, 1) := by decide +kernel
theorem dX12_wish_134 : decode cX12_wish 134 = .ok (.iconst 0, 1) := by decide +kernel
theorem dX12_wish_135 : decode cX12_wish 135 = .ok (.istore_n 3, 1) := by decide +kernel
theorem dX12_wish_136 : decode cX12_wish 136 = .ok (.iload_n 3, 1) := by decide +kernel
theorem dX12_wish_137 : decode cX12_wish 137 = .ok (.aload_n 0, 1) := by decide +kernel
theorem dX12_wish_138 : decode cX12_wish 138 = .ok (.getfield 514, 3) := by decide +kernel
theorem dX12_wish_141 : decode cX12_wish 141 = .ok (.iload_n 2, 1) := by decide +kernel
theorem dX12_wish_142 : decode cX12_wish 142 = .ok (.iaload, 1) := by decide +kernel
theorem dX12_wish_143 : decode cX12_wish 143 = .ok (.if_icmp .ge 21, 3) := by decide +kernel
theorem dX12_wish_146 : decode cX12_wish 146 = .ok (.aload_n 0, 1) := by decide +kernel
theorem dX12_wish_147 : decode cX12_wish 147 = .ok (.iload_n 2, 1) := by decide +kernel
theorem dX12_wish_148 : decode cX12_wish 148 = .ok (.iload_n 3, 1) := by decide +kernel
theorem dX12_wish_149 : decode cX12_wish 149 = .ok (.invokevirtual 716, 3) := by decide +kernel
theorem dX12_wish_152 : decode cX12_wish 152 = .ok (.ifCond .eq 6, 3) := by decide +kernel
theorem dX12_wish_155 : decode cX12_wish 155 = .ok (.bipush (-2), 2) := by decide +kernel
theorem dX12_wish_157 : decode cX12_wish 157 = .ok (.ireturn, 1) := by decide +kernel
theorem dX12_wish_158 : decode cX12_wish 158 = .ok (.iinc 3 1, 3) := by decide +kernel
theorem dX12_wish_161 : decode cX12_wish 161 = .ok (.goto (-25), 3) := by decide +kernel
theorem dX12_wish_164 : decode cX12_wish 164 = .ok (.aload_n 0, 1) := by decide +kernel
theorem dX12_wish_165 : decode cX12_wish 165 = .ok (.getfield 514, 3) := by decide +kernel
theorem dX12_wish_168 : decode cX12_wish 168 = .ok (.iload_n 2, 1) := by decide +kernel
theorem dX12_wish_169 : decode cX12_wish 169 = .ok (.iaload, 1) := by decide +kernel
theorem dX12_wish_170 : decode cX12_wish 170 = .ok (.iconst 5, 1) := by decide +kernel
theorem dX12_wish_171 : decode cX12_wish 171 = .ok (.if_icmp .ne 6, 3) := by decide +kernel
theorem dX12_wish_174 : decode cX12_wish 174 = .ok (.bipush (-3), 2) := by decide +kernel
theorem dX12_wish_176 : decode cX12_wish 176 = .ok (.ireturn, 1) := by decide +kernel
theorem dX12_wish_177 : decode cX12_wish 177 = .ok (.iconst 5, 1) := by decide +kernel
theorem dX12_wish_178 : decode cX12_wish 178 = .ok (.iload_n 2, 1) := by decide +kernel
theorem dX12_wish_179 : decode cX12_wish 179 = .ok (.imul, 1) := by decide +kernel
theorem dX12_wish_180 : decode cX12_wish 180 = .ok (.aload_n 0, 1) := by decide +kernel
theorem dX12_wish_181 : decode cX12_wish 181 = .ok (.getfield 514, 3) := by decide +kernel
theorem dX12_wish_184 : decode cX12_wish 184 = .ok (.iload_n 2, 1) := by decide +kernel
theorem dX12_wish_185 : decode cX12_wish 185 = .ok (.iaload, 1) := by decide +kernel
theorem dX12_wish_186 : decode cX12_wish 186 = .ok (.iadd, 1) := by decide +kernel
theorem dX12_wish_187 : decode cX12_wish 187 = .ok (.istore_n 3, 1) := by decide +kernel
theorem dX12_wish_188 : decode cX12_wish 188 = .ok (.aload_n 0, 1) := by decide +kernel
theorem dX12_wish_189 : decode cX12_wish 189 = .ok (.getfield 517, 3) := by decide +kernel
theorem dX12_wish_192 : decode cX12_wish 192 = .ok (.iload_n 3, 1) := by decide +kernel
theorem dX12_wish_193 : decode cX12_wish 193 = .ok (.aload_n 0, 1) := by decide +kernel
theorem dX12_wish_194 : decode cX12_wish 194 = .ok (.getfield 79, 3) := by decide +kernel
theorem dX12_wish_197 : decode cX12_wish 197 = .ok (.iastore, 1) := by decide +kernel
theorem dX12_wish_198 : decode cX12_wish 198 = .ok (.iconst 0, 1) := by decide +kernel
theorem dX12_wish_199 : decode cX12_wish 199 = .ok (.istore 4, 2) := by decide +kernel
theorem dX12_wish_201 : decode cX12_wish 201 = .ok (.iload 4, 2) := by decide +kernel
theorem dX12_wish_203 : decode cX12_wish 203 = .ok (.aload_n 0, 1) := by decide +kernel
theorem dX12_wish_204 : decode cX12_wish 204 = .ok (.getfield 79, 3) := by decide +kernel
theorem dX12_wish_207 : decode cX12_wish 207 = .ok (.if_icmp .ge 28, 3) := by decide +kernel
theorem dX12_wish_210 : decode cX12_wish 210 = .ok (.aload_n 0, 1) := by decide +kernel
theorem dX12_wish_211 : decode cX12_wish 211 = .ok (.getfield 520, 3) := by decide +kernel
theorem dX12_wish_214 : decode cX12_wish 214 = .ok (.bipush 8, 2) := by decide +kernel
theorem dX12_wish_216 : decode cX12_wish 216 = .ok (.iload_n 3, 1) := by decide +kernel
theorem dX12_wish_217 : decode cX12_wish 217 = .ok (.imul, 1) := by decide +kernel
theorem dX12_wish_218 : decode cX12_wish 218 = .ok (.iload 4, 2) := by decide +kernel
theorem dX12_wish_220 : decode cX12_wish 220 = .ok (.iadd, 1) := by decide +kernel
theorem dX12_wish_221 : decode cX12_wish 221 = .ok (.aload_n 0, 1) := by decide +kernel
theorem dX12_wish_222 : decode cX12_wish 222 = .ok (.getfield 82, 3) := by decide +kernel
theorem dX12_wish_225 : decode cX12_wish 225 = .ok (.iload 4, 2) := by decide +kernel
theorem dX12_wish_227 : decode cX12_wish 227 = .ok (.iaload, 1) := by decide +kernel
theorem dX12_wish_228 : decode cX12_wish 228 = .ok (.iastore, 1) := by decide +kernel
theorem dX12_wish_229 : decode cX12_wish 229 = .ok (.iinc 4 1, 3) := by decide +kernel
theorem dX12_wish_232 : decode cX12_wish 232 = .ok (.goto (-31), 3) := by decide +kernel
theorem dX12_wish_235 : decode cX12_wish 235 = .ok (.aload_n 0, 1) := by decide +kernel
theorem dX12_wish_236 : decode cX12_wish 236 = .ok (.getfield 514, 3) := by decide +kernel
theorem dX12_wish_239 : decode cX12_wish 239 = .ok (.iload_n 2, 1) := by decide +kernel
theorem dX12_wish_240 : decode cX12_wish 240 = .ok (.dup2, 1) := by decide +kernel
theorem dX12_wish_241 : decode cX12_wish 241 = .ok (.iaload, 1) := by decide +kernel
theorem dX12_wish_242 : decode cX12_wish 242 = .ok (.iconst 1, 1) := by decide +kernel
theorem dX12_wish_243 : decode cX12_wish 243 = .ok (.iadd, 1) := by decide +kernel
theorem dX12_wish_244 : decode cX12_wish 244 = .ok (.iastore, 1) := by decide +kernel
theorem dX12_wish_245 : decode cX12_wish 245 = .ok (.aload_n 0, 1) := by decide +kernel
theorem dX12_wish_246 : decode cX12_wish 246 = .ok (.getfield 514, 3) := by decide +kernel
theorem dX12_wish_249 : decode cX12_wish 249 = .ok (.iload_n 2, 1) := by decide +kernel
theorem dX12_wish_250 : decode cX12_wish 250 = .ok (.iaload, 1) := by decide +kernel
theorem dX12_wish_251 : decode cX12_wish 251 = .ok (.ireturn, 1) := by decide +kernel
