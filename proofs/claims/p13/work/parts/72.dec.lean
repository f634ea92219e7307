theorem dX12_announce_0 : decode cX12_announce 0 = .ok (.aload_n 0, 1) := by decide +kernel
theorem dX12_announce_1 : decode cX12_announce 1 = .ok (.iload_n 1, 1) := by decide +kernel
theorem dX12_announce_2 : decode cX12_announce 2 = .ok (.invokevirtual 49, 3) := by decide +kernel
theorem dX12_announce_5 : decode cX12_announce 5 = .ok (.ifCond .eq 20, 3) := by decide +kernel
theorem dX12_announce_8 : decode cX12_announce 8 = .ok (.aload_n 0, 1) := by decide +kernel
theorem dX12_announce_9 : decode cX12_announce 9 = .ok (.iload_n 2, 1) := by decide +kernel
theorem dX12_announce_10 : decode cX12_announce 10 = .ok (.invokevirtual 92, 3) := by decide +kernel
theorem dX12_announce_13 : decode cX12_announce 13 = .ok (.ifCond .eq 12, 3) := by decide +kernel
theorem dX12_announce_16 : decode cX12_announce 16 = .ok (.iload_n 3, 1) := by decide +kernel
theorem dX12_announce_17 : decode cX12_announce 17 = .ok (.iconst 0, 1) := by decide +kernel
theorem dX12_announce_18 : decode cX12_announce 18 = .ok (.iconst 2, 1) := by decide +kernel
theorem dX12_announce_19 : decode cX12_announce 19 = .ok (.invokestatic 18, 3) := by decide +kernel
theorem dX12_announce_22 : decode cX12_announce 22 = .ok (.ifCond .ne 5, 3) := by decide +kernel
theorem dX12_announce_25 : decode cX12_announce 25 = .ok (.iconst (-1), 1) := by decide +kernel
theorem dX12_announce_26 : decode cX12_announce 26 = .ok (.ireturn, 1) := by decide +kernel
theorem dX12_announce_27 : decode cX12_announce 27 = .ok (.bipush 10, 2) := by decide +kernel
theorem dX12_announce_29 : decode cX12_announce 29 = .ok (.iload_n 1, 1) := by decide +kernel
theorem dX12_announce_30 : decode cX12_announce 30 = .ok (.imul, 1) := by decide +kernel
theorem dX12_announce_31 : decode cX12_announce 31 = .ok (.iload_n 2, 1) := by decide +kernel
theorem dX12_announce_32 : decode cX12_announce 32 = .ok (.iadd, 1) := by decide +kernel
theorem dX12_announce_33 : decode cX12_announce 33 = .ok (.istore 4, 2) := by decide +kernel
theorem dX12_announce_35 : decode cX12_announce 35 = .ok (.aload_n 0, 1) := by decide +kernel
theorem dX12_announce_36 : decode cX12_announce 36 = .ok (.getfield 448, 3) := by decide +kernel
theorem dX12_announce_39 : decode cX12_announce 39 = .ok (.iload 4, 2) := by decide +kernel
theorem dX12_announce_41 : decode cX12_announce 41 = .ok (.iaload, 1) := by decide +kernel
theorem dX12_announce_42 : decode cX12_announce 42 = .ok (.iload_n 3, 1) := by decide +kernel
theorem dX12_announce_43 : decode cX12_announce 43 = .ok (.if_icmp .ne 6, 3) := by decide +kernel
theorem dX12_announce_46 : decode cX12_announce 46 = .ok (.bipush (-2), 2) := by decide +kernel
theorem dX12_announce_48 : decode cX12_announce 48 = .ok (.ireturn, 1) := by decide +kernel
theorem dX12_announce_49 : decode cX12_announce 49 = .ok (.aload_n 0, 1) := by decide +kernel
theorem dX12_announce_50 : decode cX12_announce 50 = .ok (.getfield 448, 3) := by decide +kernel
theorem dX12_announce_53 : decode cX12_announce 53 = .ok (.iload 4, 2) := by decide +kernel
theorem dX12_announce_55 : decode cX12_announce 55 = .ok (.iload_n 3, 1) := by decide +kernel
theorem dX12_announce_56 : decode cX12_announce 56 = .ok (.iastore, 1) := by decide +kernel
theorem dX12_announce_57 : decode cX12_announce 57 = .ok (.aload_n 0, 1) := by decide +kernel
theorem dX12_announce_58 : decode cX12_announce 58 = .ok (.iload_n 1, 1) := by decide +kernel
theorem dX12_announce_59 : decode cX12_announce 59 = .ok (.iload_n 2, 1) := by decide +kernel
theorem dX12_announce_60 : decode cX12_announce 60 = .ok (.invokevirtual 597, 3) := by decide +kernel
theorem dX12_announce_63 : decode cX12_announce 63 = .ok (.iconst 0, 1) := by decide +kernel
theorem dX12_announce_64 : decode cX12_announce 64 = .ok (.ireturn, 1) := by decide +kernel
theorem dX12_candidate_0 : decode cX12_candidate 0 = .ok (.aload_n 0, 1) := by decide +kernel
theorem dX12_candidate_1 : decode cX12_candidate 1 = .ok (.iload_n 2, 1) := by decide +kernel
theorem dX12_candidate_2 : decode cX12_candidate 2 = .ok (.iload_n 1, 1) := by decide +kernel
theorem dX12_candidate_3 : decode cX12_candidate 3 = .ok (.invokevirtual 542, 3) := by decide +kernel
theorem dX12_candidate_6 : decode cX12_candidate 6 = .ok (.istore 4, 2) := by decide +kernel
theorem dX12_candidate_8 : decode cX12_candidate 8 = .ok (.aload_n 0, 1) := by decide +kernel
theorem dX12_candidate_9 : decode cX12_candidate 9 = .ok (.iconst 4, 1) := by decide +kernel
theorem dX12_candidate_10 : decode cX12_candidate 10 = .ok (.iload_n 2, 1) := by decide +kernel
theorem dX12_candidate_11 : decode cX12_candidate 11 = .ok (.iadd, 1) := by decide +kernel
theorem dX12_candidate_12 : decode cX12_candidate 12 = .ok (.invokevirtual 539, 3) := by decide +kernel
theorem dX12_candidate_15 : decode cX12_candidate 15 = .ok (.sipush 130, 3) := by decide +kernel
theorem dX12_candidate_18 : decode cX12_candidate 18 = .ok (.iload_n 2, 1) := by decide +kernel
theorem dX12_candidate_19 : decode cX12_candidate 19 = .ok (.iload 4, 2) := by decide +kernel
theorem dX12_candidate_21 : decode cX12_candidate 21 = .ok (.iload_n 3, 1) := by decide +kernel
theorem dX12_candidate_22 : decode cX12_candidate 22 = .ok (.invokestatic 545, 3) := by decide +kernel
theorem dX12_candidate_25 : decode cX12_candidate 25 = .ok (.iadd, 1) := by decide +kernel
theorem dX12_candidate_26 : decode cX12_candidate 26 = .ok (.istore 5, 2) := by decide +kernel
theorem dX12_candidate_28 : decode cX12_candidate 28 = .ok (.aload_n 0, 1) := by decide +kernel
theorem dX12_candidate_29 : decode cX12_candidate 29 = .ok (.getfield 53, 3) := by decide +kernel
theorem dX12_candidate_32 : decode cX12_candidate 32 = .ok (.iload_n 2, 1) := by decide +kernel
theorem dX12_candidate_33 : decode cX12_candidate 33 = .ok (.baload, 1) := by decide +kernel
theorem dX12_candidate_34 : decode cX12_candidate 34 = .ok (.ifCond .eq 12, 3) := by decide +kernel
theorem dX12_candidate_37 : decode cX12_candidate 37 = .ok (.aload_n 0, 1) := by decide +kernel
theorem dX12_candidate_38 : decode cX12_candidate 38 = .ok (.iload 5, 2) := by decide +kernel
theorem dX12_candidate_40 : decode cX12_candidate 40 = .ok (.invokevirtual 151, 3) := by decide +kernel
theorem dX12_candidate_43 : decode cX12_candidate 43 = .ok (.ifCond .ne 6, 3) := by decide +kernel
theorem dX12_candidate_46 : decode cX12_candidate 46 = .ok (.ldc 29, 2) := by decide +kernel
theorem dX12_candidate_48 : decode cX12_candidate 48 = .ok (.ireturn, 1) := by decide +kernel
theorem dX12_candidate_49 : decode cX12_candidate 49 = .ok (.aload_n 0, 1) := by decide +kernel
theorem dX12_candidate_50 : decode cX12_candidate 50 = .ok (.iload 5, 2) := by decide +kernel
theorem dX12_candidate_52 : decode cX12_candidate 52 = .ok (.iload_n 1, 1) := by decide +kernel
theorem dX12_candidate_53 : decode cX12_candidate 53 = .ok (.invokevirtual 556, 3) := by decide +kernel
theorem dX12_candidate_56 : decode cX12_candidate 56 = .ok (.ifCond .eq 6, 3) := by decide +kernel
theorem dX12_candidate_59 : decode cX12_candidate 59 = .ok (.bipush 9, 2) := by decide +kernel
theorem dX12_candidate_61 : decode cX12_candidate 61 = .ok (.ireturn, 1) := by decide +kernel
theorem dX12_candidate_62 : decode cX12_candidate 62 = .ok (.aload_n 0, 1) := by decide +kernel
theorem dX12_candidate_63 : decode cX12_candidate 63 = .ok (.iload 5, 2) := by decide +kernel
theorem dX12_candidate_65 : decode cX12_candidate 65 = .ok (.iconst 4, 1) := by decide +kernel
theorem dX12_candidate_66 : decode cX12_candidate 66 = .ok (.iload_n 2, 1) := by decide +kernel
theorem dX12_candidate_67 : decode cX12_candidate 67 = .ok (.iadd, 1) := by decide +kernel
theorem dX12_candidate_68 : decode cX12_candidate 68 = .ok (.invokevirtual 559, 3) := by decide +kernel
theorem dX12_candidate_71 : decode cX12_candidate 71 = .ok (.aload_n 0, 1) := by decide +kernel
theorem dX12_candidate_72 : decode cX12_candidate 72 = .ok (.aload_n 0, 1) := by decide +kernel
theorem dX12_candidate_73 : decode cX12_candidate 73 = .ok (.getfield 63, 3) := by decide +kernel
theorem dX12_candidate_76 : decode cX12_candidate 76 = .ok (.iconst 4, 1) := by decide +kernel
theorem dX12_candidate_77 : decode cX12_candidate 77 = .ok (.iload_n 2, 1) := by decide +kernel
theorem dX12_candidate_78 : decode cX12_candidate 78 = .ok (.imul, 1) := by decide +kernel
theorem dX12_candidate_79 : decode cX12_candidate 79 = .ok (.iconst 2, 1) := by decide +kernel
theorem dX12_candidate_80 : decode cX12_candidate 80 = .ok (.iload 4, 2) := by decide +kernel
theorem dX12_candidate_82 : decode cX12_candidate 82 = .ok (.imul, 1) := by decide +kernel
theorem dX12_candidate_83 : decode cX12_candidate 83 = .ok (.iadd, 1) := by decide +kernel
theorem dX12_candidate_84 : decode cX12_candidate 84 = .ok (.iaload, 1) := by decide +kernel
theorem dX12_candidate_85 : decode cX12_candidate 85 = .ok (.iconst 4, 1) := by decide +kernel
theorem dX12_candidate_86 : decode cX12_candidate 86 = .ok (.iload_n 2, 1) := by decide +kernel
theorem dX12_candidate_87 : decode cX12_candidate 87 = .ok (.iadd, 1) := by decide +kernel
theorem dX12_candidate_88 : decode cX12_candidate 88 = .ok (.iload_n 1, 1) := by decide +kernel
theorem dX12_candidate_89 : decode cX12_candidate 89 = .ok (.aload_n 0, 1) := by decide +kernel
theorem dX12_candidate_90 : decode cX12_candidate 90 = .ok (.iload_n 2, 1) := by decide +kernel
theorem dX12_candidate_91 : decode cX12_candidate 91 = .ok (.iload_n 1, 1) := by decide +kernel
theorem dX12_candidate_92 : decode cX12_candidate 92 = .ok (.invokevirtual 553, 3) := by decide +kernel
theorem dX12_candidate_95 : decode cX12_candidate 95 = .ok (.invokevirtual 414, 3) := by decide +kernel
theorem dX12_candidate_98 : decode cX12_candidate 98 = .ok (.ifCond .eq 5, 3) := by decide +kernel
theorem dX12_candidate_101 : decode cX12_candidate 101 = .ok (.iconst 0, 1) := by decide +kernel
theorem dX12_candidate_102 : decode cX12_candidate 102 = .ok (.ireturn, 1) := by decide +kernel
theorem dX12_candidate_103 : decode cX12_candidate 103 = .ok (.aload_n 0, 1) := by decide +kernel
theorem dX12_candidate_104 : decode cX12_candidate 104 = .ok (.iconst 4, 1) := by decide +kernel
theorem dX12_candidate_105 : decode cX12_candidate 105 = .ok (.iload_n 2, 1) := by decide +kernel
theorem dX12_candidate_106 : decode cX12_candidate 106 = .ok (.iadd, 1) := by decide +kernel
theorem dX12_candidate_107 : decode cX12_candidate 107 = .ok (.invokevirtual 539, 3) := by decide +kernel
theorem dX12_candidate_110 : decode cX12_candidate 110 = .ok (.bipush 10, 2) := by decide +kernel
theorem dX12_candidate_112 : decode cX12_candidate 112 = .ok (.ireturn, 1) := by decide +kernel
theorem dX12_candidates_0 : decode cX12_candidates 0 = .ok (.iconst 0, 1) := by decide +kernel
theorem dX12_candidates_1 : decode cX12_candidates 1 = .ok (.istore_n 3, 1) := by decide +kernel
theorem dX12_candidates_2 : decode cX12_candidates 2 = .ok (.iload_n 3, 1) := by decide +kernel
theorem dX12_candidates_3 : decode cX12_candidates 3 = .ok (.aload_n 0, 1) := by decide +kernel
theorem dX12_candidates_4 : decode cX12_candidates 4 = .ok (.getfield 37, 3) := by decide +kernel
theorem dX12_candidates_7 : decode cX12_candidates 7 = .ok (.if_icmp .ge 36, 3) := by decide +kernel
theorem dX12_candidates_10 : decode cX12_candidates 10 = .ok (.aload_n 0, 1) := by decide +kernel
theorem dX12_candidates_11 : decode cX12_candidates 11 = .ok (.iload_n 3, 1) := by decide +kernel
theorem dX12_candidates_12 : decode cX12_candidates 12 = .ok (.iload_n 1, 1) := by decide +kernel
theorem dX12_candidates_13 : decode cX12_candidates 13 = .ok (.invokevirtual 562, 3) := by decide +kernel
theorem dX12_candidates_16 : decode cX12_candidates 16 = .ok (.ifCond .eq 14, 3) := by decide +kernel
theorem dX12_candidates_19 : decode cX12_candidates 19 = .ok (.aload_n 0, 1) := by decide +kernel
theorem dX12_candidates_20 : decode cX12_candidates 20 = .ok (.iload_n 1, 1) := by decide +kernel
theorem dX12_candidates_21 : decode cX12_candidates 21 = .ok (.iload_n 3, 1) := by decide +kernel
theorem dX12_candidates_22 : decode cX12_candidates 22 = .ok (.iload_n 2, 1) := by decide +kernel
theorem dX12_candidates_23 : decode cX12_candidates 23 = .ok (.invokevirtual 565, 3) := by decide +kernel
theorem dX12_candidates_26 : decode cX12_candidates 26 = .ok (.pop, 1) := by decide +kernel
theorem dX12_candidates_27 : decode cX12_candidates 27 = .ok (.goto 10, 3) := by decide +kernel
theorem dX12_candidates_30 : decode cX12_candidates 30 = .ok (.aload_n 0, 1) := by decide +kernel
theorem dX12_candidates_31 : decode cX12_candidates 31 = .ok (.iconst 4, 1) := by decide +kernel
theorem dX12_candidates_32 : decode cX12_candidates 32 = .ok (.iload_n 3, 1) := by decide +kernel
theorem dX12_candidates_33 : decode cX12_candidates 33 = .ok (.iadd, 1) := by decide +kernel
theorem dX12_candidates_34 : decode cX12_candidates 34 = .ok (.invokevirtual 539, 3) := by decide +kernel
theorem dX12_candidates_37 : decode cX12_candidates 37 = .ok (.iinc 3 1, 3) := by decide +kernel
theorem dX12_candidates_40 : decode cX12_candidates 40 = .ok (.goto (-38), 3) := by decide +kernel
theorem dX12_candidates_43 : decode cX12_candidates 43 = .ok (.return_, 1) := by decide +kernel
theorem dX12_cone_0 : decode cX12_cone 0 = .ok (.aload_n 0, 1) := by decide +kernel
theorem dX12_cone_1 : decode cX12_cone 1 = .ok (.iload_n 1, 1) := by decide +kernel
theorem dX12_cone_2 : decode cX12_cone 2 = .ok (.invokevirtual 49, 3) := by decide +kernel
theorem dX12_cone_5 : decode cX12_cone 5 = .ok (.ifCond .eq 16, 3) := by decide +kernel
theorem dX12_cone_8 : decode cX12_cone 8 = .ok (.iload_n 2, 1) := by decide +kernel
theorem dX12_cone_9 : decode cX12_cone 9 = .ok (.iconst (-1), 1) := by decide +kernel
theorem dX12_cone_10 : decode cX12_cone 10 = .ok (.if_icmp .eq 13, 3) := by decide +kernel
theorem dX12_cone_13 : decode cX12_cone 13 = .ok (.aload_n 0, 1) := by decide +kernel
theorem dX12_cone_14 : decode cX12_cone 14 = .ok (.iload_n 2, 1) := by decide +kernel
theorem dX12_cone_15 : decode cX12_cone 15 = .ok (.invokevirtual 49, 3) := by decide +kernel
theorem dX12_cone_18 : decode cX12_cone 18 = .ok (.ifCond .ne 5, 3) := by decide +kernel
theorem dX12_cone_21 : decode cX12_cone 21 = .ok (.iconst (-1), 1) := by decide +kernel
theorem dX12_cone_22 : decode cX12_cone 22 = .ok (.ireturn, 1) := by decide +kernel
theorem dX12_cone_23 : decode cX12_cone 23 = .ok (.iconst 0, 1) := by decide +kernel
theorem dX12_cone_24 : decode cX12_cone 24 = .ok (.istore_n 3, 1) := by decide +kernel
theorem dX12_cone_25 : decode cX12_cone 25 = .ok (.iload_n 3, 1) := by decide +kernel
theorem dX12_cone_26 : decode cX12_cone 26 = .ok (.bipush 10, 2) := by decide +kernel
theorem dX12_cone_28 : decode cX12_cone 28 = .ok (.if_icmp .ge 25, 3) := by decide +kernel
theorem dX12_cone_31 : decode cX12_cone 31 = .ok (.aload_n 0, 1) := by decide +kernel
theorem dX12_cone_32 : decode cX12_cone 32 = .ok (.getfield 69, 3) := by decide +kernel
theorem dX12_cone_35 : decode cX12_cone 35 = .ok (.iload_n 3, 1) := by decide +kernel
theorem dX12_cone_36 : decode cX12_cone 36 = .ok (.iload_n 3, 1) := by decide +kernel
theorem dX12_cone_37 : decode cX12_cone 37 = .ok (.iload_n 1, 1) := by decide +kernel
theorem dX12_cone_38 : decode cX12_cone 38 = .ok (.if_icmp .ne 7, 3) := by decide +kernel
theorem dX12_cone_41 : decode cX12_cone 41 = .ok (.iconst 1, 1) := by decide +kernel
theorem dX12_cone_42 : decode cX12_cone 42 = .ok (.goto 4, 3) := by decide +kernel
theorem dX12_cone_45 : decode cX12_cone 45 = .ok (.iconst 0, 1) := by decide +kernel
theorem dX12_cone_46 : decode cX12_cone 46 = .ok (.bastore, 1) := by decide +kernel
theorem dX12_cone_47 : decode cX12_cone 47 = .ok (.iinc 3 1, 3) := by decide +kernel
theorem dX12_cone_50 : decode cX12_cone 50 = .ok (.goto (-25), 3) := by decide +kernel
theorem dX12_cone_53 : decode cX12_cone 53 = .ok (.iconst 1, 1) := by decide +kernel
theorem dX12_cone_54 : decode cX12_cone 54 = .ok (.istore_n 3, 1) := by decide +kernel
theorem dX12_cone_55 : decode cX12_cone 55 = .ok (.iload_n 3, 1) := by decide +kernel
theorem dX12_cone_56 : decode cX12_cone 56 = .ok (.ifCond .eq 91, 3) := by decide +kernel
theorem dX12_cone_59 : decode cX12_cone 59 = .ok (.iconst 0, 1) := by decide +kernel
theorem dX12_cone_60 : decode cX12_cone 60 = .ok (.istore_n 3, 1) := by decide +kernel
theorem dX12_cone_61 : decode cX12_cone 61 = .ok (.iconst 0, 1) := by decide +kernel
theorem dX12_cone_62 : decode cX12_cone 62 = .ok (.istore 4, 2) := by decide +kernel
theorem dX12_cone_64 : decode cX12_cone 64 = .ok (.iload 4, 2) := by decide +kernel
theorem dX12_cone_66 : decode cX12_cone 66 = .ok (.aload_n 0, 1) := by decide +kernel
theorem dX12_cone_67 : decode cX12_cone 67 = .ok (.getfield 37, 3) := by decide +kernel
theorem dX12_cone_70 : decode cX12_cone 70 = .ok (.if_icmp .ge 74, 3) := by decide +kernel
theorem dX12_cone_73 : decode cX12_cone 73 = .ok (.aload_n 0, 1) := by decide +kernel
theorem dX12_cone_74 : decode cX12_cone 74 = .ok (.getfield 46, 3) := by decide +kernel
theorem dX12_cone_77 : decode cX12_cone 77 = .ok (.iload 4, 2) := by decide +kernel
theorem dX12_cone_79 : decode cX12_cone 79 = .ok (.iaload, 1) := by decide +kernel
theorem dX12_cone_80 : decode cX12_cone 80 = .ok (.ifCond .ne 58, 3) := by decide +kernel
theorem dX12_cone_83 : decode cX12_cone 83 = .ok (.aload_n 0, 1) := by decide +kernel
theorem dX12_cone_84 : decode cX12_cone 84 = .ok (.getfield 69, 3) := by decide +kernel
theorem dX12_cone_87 : decode cX12_cone 87 = .ok (.aload_n 0, 1) := by decide +kernel
theorem dX12_cone_88 : decode cX12_cone 88 = .ok (.getfield 40, 3) := by decide +kernel
theorem dX12_cone_91 : decode cX12_cone 91 = .ok (.iconst 2, 1) := by decide +kernel
theorem dX12_cone_92 : decode cX12_cone 92 = .ok (.iload 4, 2) := by decide +kernel
theorem dX12_cone_94 : decode cX12_cone 94 = .ok (.imul, 1) := by decide +kernel
theorem dX12_cone_95 : decode cX12_cone 95 = .ok (.iaload, 1) := by decide +kernel
theorem dX12_cone_96 : decode cX12_cone 96 = .ok (.baload, 1) := by decide +kernel
theorem dX12_cone_97 : decode cX12_cone 97 = .ok (.ifCond .eq 41, 3) := by decide +kernel
theorem dX12_cone_100 : decode cX12_cone 100 = .ok (.aload_n 0, 1) := by decide +kernel
theorem dX12_cone_101 : decode cX12_cone 101 = .ok (.getfield 69, 3) := by decide +kernel
theorem dX12_cone_104 : decode cX12_cone 104 = .ok (.aload_n 0, 1) := by decide +kernel
theorem dX12_cone_105 : decode cX12_cone 105 = .ok (.getfield 40, 3) := by decide +kernel
theorem dX12_cone_108 : decode cX12_cone 108 = .ok (.iconst 2, 1) := by decide +kernel
theorem dX12_cone_109 : decode cX12_cone 109 = .ok (.iload 4, 2) := by decide +kernel
theorem dX12_cone_111 : decode cX12_cone 111 = .ok (.imul, 1) := by decide +kernel
theorem dX12_cone_112 : decode cX12_cone 112 = .ok (.iconst 1, 1) := by decide +kernel
theorem dX12_cone_113 : decode cX12_cone 113 = .ok (.iadd, 1) := by decide +kernel
theorem dX12_cone_114 : decode cX12_cone 114 = .ok (.iaload, 1) := by decide +kernel
theorem dX12_cone_115 : decode cX12_cone 115 = .ok (.baload, 1) := by decide +kernel
theorem dX12_cone_116 : decode cX12_cone 116 = .ok (.ifCond .ne 22, 3) := by decide +kernel
theorem dX12_cone_119 : decode cX12_cone 119 = .ok (.aload_n 0, 1) := by decide +kernel
theorem dX12_cone_120 : decode cX12_cone 120 = .ok (.getfield 69, 3) := by decide +kernel
theorem dX12_cone_123 : decode cX12_cone 123 = .ok (.aload_n 0, 1) := by decide +kernel
theorem dX12_cone_124 : decode cX12_cone 124 = .ok (.getfield 40, 3) := by decide +kernel
theorem dX12_cone_127 : decode cX12_cone 127 = .ok (.iconst 2, 1) := by decide +kernel
theorem dX12_cone_128 : decode cX12_cone 128 = .ok (.iload 4, 2) := by decide +kernel
theorem dX12_cone_130 : decode cX12_cone 130 = .ok (.imul, 1) := by decide +kernel
theorem dX12_cone_131 : decode cX12_cone 131 = .ok (.iconst 1, 1) := by decide +kernel
theorem dX12_cone_132 : decode cX12_cone 132 = .ok (.iadd, 1) := by decide +kernel
theorem dX12_cone_133 : decode cX12_cone 133 = .ok (.iaload, 1) := by decide +kernel
theorem dX12_cone_134 : decode cX12_cone 134 = .ok (.iconst 1, 1) := by decide +kernel
theorem dX12_cone_135 : decode cX12_cone 135 = .ok (.bastore, 1) := by decide +kernel
theorem dX12_cone_136 : decode cX12_cone 136 = .ok (.iconst 1, 1) := by decide +kernel
theorem dX12_cone_137 : decode cX12_cone 137 = .ok (.istore_n 3, 1) := by decide +kernel
theorem dX12_cone_138 : decode cX12_cone 138 = .ok (.iinc 4 1, 3) := by decide +kernel
theorem dX12_cone_141 : decode cX12_cone 141 = .ok (.goto (-77), 3) := by decide +kernel
theorem dX12_cone_144 : decode cX12_cone 144 = .ok (.goto (-89), 3) := by decide +kernel
theorem dX12_cone_147 : decode cX12_cone 147 = .ok (.iconst 0, 1) := by decide +kernel
theorem dX12_cone_148 : decode cX12_cone 148 = .ok (.istore 4, 2) := by decide +kernel
theorem dX12_cone_150 : decode cX12_cone 150 = .ok (.iconst 0, 1) := by decide +kernel
theorem dX12_cone_151 : decode cX12_cone 151 = .ok (.istore 5, 2) := by decide +kernel
theorem dX12_cone_153 : decode cX12_cone 153 = .ok (.iload 5, 2) := by decide +kernel
theorem dX12_cone_155 : decode cX12_cone 155 = .ok (.aload_n 0, 1) := by decide +kernel
theorem dX12_cone_156 : decode cX12_cone 156 = .ok (.getfield 34, 3) := by decide +kernel
theorem dX12_cone_159 : decode cX12_cone 159 = .ok (.if_icmp .ge 29, 3) := by decide +kernel
theorem dX12_cone_162 : decode cX12_cone 162 = .ok (.iload 4, 2) := by decide +kernel
theorem dX12_cone_164 : decode cX12_cone 164 = .ok (.aload_n 0, 1) := by decide +kernel
theorem dX12_cone_165 : decode cX12_cone 165 = .ok (.getfield 69, 3) := by decide +kernel
theorem dX12_cone_168 : decode cX12_cone 168 = .ok (.iload 5, 2) := by decide +kernel
theorem dX12_cone_170 : decode cX12_cone 170 = .ok (.baload, 1) := by decide +kernel
theorem dX12_cone_171 : decode cX12_cone 171 = .ok (.ifCond .eq 7, 3) := by decide +kernel
theorem dX12_cone_174 : decode cX12_cone 174 = .ok (.iconst 1, 1) := by decide +kernel
theorem dX12_cone_175 : decode cX12_cone 175 = .ok (.goto 4, 3) := by decide +kernel
theorem dX12_cone_178 : decode cX12_cone 178 = .ok (.iconst 0, 1) := by decide +kernel
theorem dX12_cone_179 : decode cX12_cone 179 = .ok (.iadd, 1) := by decide +kernel
theorem dX12_cone_180 : decode cX12_cone 180 = .ok (.istore 4, 2) := by decide +kernel
theorem dX12_cone_182 : decode cX12_cone 182 = .ok (.iinc 5 1, 3) := by decide +kernel
theorem dX12_cone_185 : decode cX12_cone 185 = .ok (.goto (-32), 3) := by decide +kernel
theorem dX12_cone_188 : decode cX12_cone 188 = .ok (.iload_n 2, 1) := by decide +kernel
theorem dX12_cone_189 : decode cX12_cone 189 = .ok (.ifCond .ge 8, 3) := by decide +kernel
theorem dX12_cone_192 : decode cX12_cone 192 = .ok (.iload 4, 2) := by decide +kernel
theorem dX12_cone_194 : decode cX12_cone 194 = .ok (.goto 17, 3) := by decide +kernel
theorem dX12_cone_197 : decode cX12_cone 197 = .ok (.aload_n 0, 1) := by decide +kernel
theorem dX12_cone_198 : decode cX12_cone 198 = .ok (.getfield 69, 3) := by decide +kernel
theorem dX12_cone_201 : decode cX12_cone 201 = .ok (.iload_n 2, 1) := by decide +kernel
theorem dX12_cone_202 : decode cX12_cone 202 = .ok (.baload, 1) := by decide +kernel
theorem dX12_cone_203 : decode cX12_cone 203 = .ok (.ifCond .eq 7, 3) := by decide +kernel
theorem dX12_cone_206 : decode cX12_cone 206 = .ok (.iconst 1, 1) := by decide +kernel
theorem dX12_cone_207 : decode cX12_cone 207 = .ok (.goto 4, 3) := by decide +kernel
theorem dX12_cone_210 : decode cX12_cone 210 = .ok (.iconst 0, 1) := by decide +kernel
theorem dX12_cone_211 : decode cX12_cone 211 = .ok (.ireturn, 1) := by decide +kernel
theorem dX12_isBelow_0 : decode cX12_isBelow 0 = .ok (.iload_n 0, 1) := by decide +kernel
theorem dX12_isBelow_1 : decode cX12_isBelow 1 = .ok (.ldc_w 571, 3) := by decide +kernel
theorem dX12_isBelow_4 : decode cX12_isBelow 4 = .ok (.iadd, 1) := by decide +kernel
theorem dX12_isBelow_5 : decode cX12_isBelow 5 = .ok (.iload_n 1, 1) := by decide +kernel
theorem dX12_isBelow_6 : decode cX12_isBelow 6 = .ok (.ldc_w 571, 3) := by decide +kernel
theorem dX12_isBelow_9 : decode cX12_isBelow 9 = .ok (.iadd, 1) := by decide +kernel
theorem dX12_isBelow_10 : decode cX12_isBelow 10 = .ok (.if_icmp .ge 7, 3) := by decide +kernel
theorem dX12_isBelow_13 : decode cX12_isBelow 13 = .ok (.iconst 1, 1) := by decide +kernel
theorem dX12_isBelow_14 : decode cX12_isBelow 14 = .ok (.goto 4, 3) := by decide +kernel
theorem dX12_isBelow_17 : decode cX12_isBelow 17 = .ok (.iconst 0, 1) := by decide +kernel
theorem dX12_isBelow_18 : decode cX12_isBelow 18 = .ok (.ireturn, 1) := by decide +kernel
theorem dX12_isSo_0 : decode cX12_isSo 0 = .ok (.aload_n 0, 1) := by decide +kernel
theorem dX12_isSo_1 : decode cX12_isSo 1 = .ok (.getfield 148, 3) := by decide +kernel
theorem dX12_isSo_4 : decode cX12_isSo 4 = .ok (.bipush 40, 2) := by decide +kernel
theorem dX12_isSo_6 : decode cX12_isSo 6 = .ok (.iload_n 3, 1) := by decide +kernel
theorem dX12_isSo_7 : decode cX12_isSo 7 = .ok (.imul, 1) := by decide +kernel
theorem dX12_isSo_8 : decode cX12_isSo 8 = .ok (.iaload, 1) := by decide +kernel
theorem dX12_isSo_9 : decode cX12_isSo 9 = .ok (.istore 6, 2) := by decide +kernel
theorem dX12_isSo_11 : decode cX12_isSo 11 = .ok (.aload_n 0, 1) := by decide +kernel
theorem dX12_isSo_12 : decode cX12_isSo 12 = .ok (.getfield 148, 3) := by decide +kernel
theorem dX12_isSo_15 : decode cX12_isSo 15 = .ok (.bipush 40, 2) := by decide +kernel
theorem dX12_isSo_17 : decode cX12_isSo 17 = .ok (.iload_n 3, 1) := by decide +kernel
theorem dX12_isSo_18 : decode cX12_isSo 18 = .ok (.imul, 1) := by decide +kernel
theorem dX12_isSo_19 : decode cX12_isSo 19 = .ok (.iconst 4, 1) := by decide +kernel
theorem dX12_isSo_20 : decode cX12_isSo 20 = .ok (.iadd, 1) := by decide +kernel
theorem dX12_isSo_21 : decode cX12_isSo 21 = .ok (.iaload, 1) := by decide +kernel
theorem dX12_isSo_22 : decode cX12_isSo 22 = .ok (.istore 8, 2) := by decide +kernel
theorem dX12_isSo_24 : decode cX12_isSo 24 = .ok (.aload_n 0, 1) := by decide +kernel
theorem dX12_isSo_25 : decode cX12_isSo 25 = .ok (.getfield 323, 3) := by decide +kernel
theorem dX12_isSo_28 : decode cX12_isSo 28 = .ok (.iload_n 2, 1) := by decide +kernel
theorem dX12_isSo_29 : decode cX12_isSo 29 = .ok (.iaload, 1) := by decide +kernel
theorem dX12_isSo_30 : decode cX12_isSo 30 = .ok (.iconst 4, 1) := by decide +kernel
theorem dX12_isSo_31 : decode cX12_isSo 31 = .ok (.if_icmp .ne 70, 3) := by decide +kernel
theorem dX12_isSo_34 : decode cX12_isSo 34 = .ok (.aload_n 0, 1) := by decide +kernel
theorem dX12_isSo_35 : decode cX12_isSo 35 = .ok (.getfield 26, 3) := by decide +kernel
theorem dX12_isSo_38 : decode cX12_isSo 38 = .ok (.iload 6, 2) := by decide +kernel
theorem dX12_isSo_40 : decode cX12_isSo 40 = .ok (.iaload, 1) := by decide +kernel
theorem dX12_isSo_41 : decode cX12_isSo 41 = .ok (.aload_n 0, 1) := by decide +kernel
theorem dX12_isSo_42 : decode cX12_isSo 42 = .ok (.getfield 336, 3) := by decide +kernel
theorem dX12_isSo_45 : decode cX12_isSo 45 = .ok (.iload_n 2, 1) := by decide +kernel
theorem dX12_isSo_46 : decode cX12_isSo 46 = .ok (.iaload, 1) := by decide +kernel
theorem dX12_isSo_47 : decode cX12_isSo 47 = .ok (.if_icmp .lt 48, 3) := by decide +kernel
theorem dX12_isSo_50 : decode cX12_isSo 50 = .ok (.aload_n 0, 1) := by decide +kernel
theorem dX12_isSo_51 : decode cX12_isSo 51 = .ok (.getfield 329, 3) := by decide +kernel
theorem dX12_isSo_54 : decode cX12_isSo 54 = .ok (.iload_n 2, 1) := by decide +kernel
theorem dX12_isSo_55 : decode cX12_isSo 55 = .ok (.iaload, 1) := by decide +kernel
theorem dX12_isSo_56 : decode cX12_isSo 56 = .ok (.aload_n 0, 1) := by decide +kernel
theorem dX12_isSo_57 : decode cX12_isSo 57 = .ok (.getfield 336, 3) := by decide +kernel
theorem dX12_isSo_60 : decode cX12_isSo 60 = .ok (.iload_n 2, 1) := by decide +kernel
theorem dX12_isSo_61 : decode cX12_isSo 61 = .ok (.iaload, 1) := by decide +kernel
theorem dX12_isSo_62 : decode cX12_isSo 62 = .ok (.aload_n 0, 1) := by decide +kernel
theorem dX12_isSo_63 : decode cX12_isSo 63 = .ok (.getfield 22, 3) := by decide +kernel
theorem dX12_isSo_66 : decode cX12_isSo 66 = .ok (.iload 6, 2) := by decide +kernel
theorem dX12_isSo_68 : decode cX12_isSo 68 = .ok (.iaload, 1) := by decide +kernel
theorem dX12_isSo_69 : decode cX12_isSo 69 = .ok (.invokestatic 142, 3) := by decide +kernel
theorem dX12_isSo_72 : decode cX12_isSo 72 = .ok (.ifCond .eq 23, 3) := by decide +kernel
theorem dX12_isSo_75 : decode cX12_isSo 75 = .ok (.aload_n 0, 1) := by decide +kernel
theorem dX12_isSo_76 : decode cX12_isSo 76 = .ok (.getfield 26, 3) := by decide +kernel
theorem dX12_isSo_79 : decode cX12_isSo 79 = .ok (.iload 6, 2) := by decide +kernel
theorem dX12_isSo_81 : decode cX12_isSo 81 = .ok (.iaload, 1) := by decide +kernel
theorem dX12_isSo_82 : decode cX12_isSo 82 = .ok (.aload_n 0, 1) := by decide +kernel
theorem dX12_isSo_83 : decode cX12_isSo 83 = .ok (.getfield 339, 3) := by decide +kernel
theorem dX12_isSo_86 : decode cX12_isSo 86 = .ok (.iload_n 2, 1) := by decide +kernel
theorem dX12_isSo_87 : decode cX12_isSo 87 = .ok (.iaload, 1) := by decide +kernel
theorem dX12_isSo_88 : decode cX12_isSo 88 = .ok (.if_icmp .gt 7, 3) := by decide +kernel
theorem dX12_isSo_91 : decode cX12_isSo 91 = .ok (.iconst 1, 1) := by decide +kernel
theorem dX12_isSo_92 : decode cX12_isSo 92 = .ok (.goto 4, 3) := by decide +kernel
theorem dX12_isSo_95 : decode cX12_isSo 95 = .ok (.iconst 0, 1) := by decide +kernel
theorem dX12_isSo_96 : decode cX12_isSo 96 = .ok (.istore 7, 2) := by decide +kernel
theorem dX12_isSo_98 : decode cX12_isSo 98 = .ok (.goto 364, 3) := by decide +kernel
theorem dX12_isSo_101 : decode cX12_isSo 101 = .ok (.aload_n 0, 1) := by decide +kernel
theorem dX12_isSo_102 : decode cX12_isSo 102 = .ok (.getfield 323, 3) := by decide +kernel
theorem dX12_isSo_105 : decode cX12_isSo 105 = .ok (.iload_n 2, 1) := by decide +kernel
theorem dX12_isSo_106 : decode cX12_isSo 106 = .ok (.iaload, 1) := by decide +kernel
theorem dX12_isSo_107 : decode cX12_isSo 107 = .ok (.bipush 6, 2) := by decide +kernel
theorem dX12_isSo_109 : decode cX12_isSo 109 = .ok (.if_icmp .ne 15, 3) := by decide +kernel
theorem dX12_isSo_112 : decode cX12_isSo 112 = .ok (.aload_n 0, 1) := by decide +kernel
theorem dX12_isSo_113 : decode cX12_isSo 113 = .ok (.iload_n 1, 1) := by decide +kernel
theorem dX12_isSo_114 : decode cX12_isSo 114 = .ok (.iload_n 2, 1) := by decide +kernel
theorem dX12_isSo_115 : decode cX12_isSo 115 = .ok (.iload_n 3, 1) := by decide +kernel
theorem dX12_isSo_116 : decode cX12_isSo 116 = .ok (.invokevirtual 379, 3) := by decide +kernel
theorem dX12_isSo_119 : decode cX12_isSo 119 = .ok (.istore 7, 2) := by decide +kernel
theorem dX12_isSo_121 : decode cX12_isSo 121 = .ok (.goto 341, 3) := by decide +kernel
theorem dX12_isSo_124 : decode cX12_isSo 124 = .ok (.aload_n 0, 1) := by decide +kernel
theorem dX12_isSo_125 : decode cX12_isSo 125 = .ok (.getfield 323, 3) := by decide +kernel
theorem dX12_isSo_128 : decode cX12_isSo 128 = .ok (.iload_n 2, 1) := by decide +kernel
theorem dX12_isSo_129 : decode cX12_isSo 129 = .ok (.iaload, 1) := by decide +kernel
theorem dX12_isSo_130 : decode cX12_isSo 130 = .ok (.bipush 8, 2) := by decide +kernel
theorem dX12_isSo_132 : decode cX12_isSo 132 = .ok (.if_icmp .ne 19, 3) := by decide +kernel
theorem dX12_isSo_135 : decode cX12_isSo 135 = .ok (.aload_n 0, 1) := by decide +kernel
theorem dX12_isSo_136 : decode cX12_isSo 136 = .ok (.iload_n 3, 1) := by decide +kernel
theorem dX12_isSo_137 : decode cX12_isSo 137 = .ok (.aload_n 0, 1) := by decide +kernel
theorem dX12_isSo_138 : decode cX12_isSo 138 = .ok (.getfield 329, 3) := by decide +kernel
theorem dX12_isSo_141 : decode cX12_isSo 141 = .ok (.iload_n 2, 1) := by decide +kernel
theorem dX12_isSo_142 : decode cX12_isSo 142 = .ok (.iaload, 1) := by decide +kernel
theorem dX12_isSo_143 : decode cX12_isSo 143 = .ok (.invokevirtual 154, 3) := by decide +kernel
theorem dX12_isSo_146 : decode cX12_isSo 146 = .ok (.istore 7, 2) := by decide +kernel
theorem dX12_isSo_148 : decode cX12_isSo 148 = .ok (.goto 314, 3) := by decide +kernel
theorem dX12_isSo_151 : decode cX12_isSo 151 = .ok (.aload_n 0, 1) := by decide +kernel
theorem dX12_isSo_152 : decode cX12_isSo 152 = .ok (.getfield 323, 3) := by decide +kernel
theorem dX12_isSo_155 : decode cX12_isSo 155 = .ok (.iload_n 2, 1) := by decide +kernel
theorem dX12_isSo_156 : decode cX12_isSo 156 = .ok (.iaload, 1) := by decide +kernel
theorem dX12_isSo_157 : decode cX12_isSo 157 = .ok (.bipush 9, 2) := by decide +kernel
theorem dX12_isSo_159 : decode cX12_isSo 159 = .ok (.if_icmp .ne 24, 3) := by decide +kernel
theorem dX12_isSo_162 : decode cX12_isSo 162 = .ok (.iload 5, 2) := by decide +kernel
theorem dX12_isSo_164 : decode cX12_isSo 164 = .ok (.aload_n 0, 1) := by decide +kernel
theorem dX12_isSo_165 : decode cX12_isSo 165 = .ok (.getfield 329, 3) := by decide +kernel
theorem dX12_isSo_168 : decode cX12_isSo 168 = .ok (.iload_n 2, 1) := by decide +kernel
theorem dX12_isSo_169 : decode cX12_isSo 169 = .ok (.iaload, 1) := by decide +kernel
theorem dX12_isSo_170 : decode cX12_isSo 170 = .ok (.if_icmp .ne 7, 3) := by decide +kernel
theorem dX12_isSo_173 : decode cX12_isSo 173 = .ok (.iconst 1, 1) := by decide +kernel
theorem dX12_isSo_174 : decode cX12_isSo 174 = .ok (.goto 4, 3) := by decide +kernel
theorem dX12_isSo_177 : decode cX12_isSo 177 = .ok (.iconst 0, 1) := by decide +kernel
theorem dX12_isSo_178 : decode cX12_isSo 178 = .ok (.istore 7, 2) := by decide +kernel
theorem dX12_isSo_180 : decode cX12_isSo 180 = .ok (.goto 282, 3) := by decide +kernel
theorem dX12_isSo_183 : decode cX12_isSo 183 = .ok (.aload_n 0, 1) := by decide +kernel
theorem dX12_isSo_184 : decode cX12_isSo 184 = .ok (.getfield 323, 3) := by decide +kernel
theorem dX12_isSo_187 : decode cX12_isSo 187 = .ok (.iload_n 2, 1) := by decide +kernel
theorem dX12_isSo_188 : decode cX12_isSo 188 = .ok (.iaload, 1) := by decide +kernel
theorem dX12_isSo_189 : decode cX12_isSo 189 = .ok (.bipush 10, 2) := by decide +kernel
theorem dX12_isSo_191 : decode cX12_isSo 191 = .ok (.if_icmp .ne 30, 3) := by decide +kernel
theorem dX12_isSo_194 : decode cX12_isSo 194 = .ok (.aload_n 0, 1) := by decide +kernel
theorem dX12_isSo_195 : decode cX12_isSo 195 = .ok (.iload 4, 2) := by decide +kernel
theorem dX12_isSo_197 : decode cX12_isSo 197 = .ok (.iload 5, 2) := by decide +kernel
theorem dX12_isSo_199 : decode cX12_isSo 199 = .ok (.invokevirtual 382, 3) := by decide +kernel
theorem dX12_isSo_202 : decode cX12_isSo 202 = .ok (.aload_n 0, 1) := by decide +kernel
theorem dX12_isSo_203 : decode cX12_isSo 203 = .ok (.getfield 329, 3) := by decide +kernel
theorem dX12_isSo_206 : decode cX12_isSo 206 = .ok (.iload_n 2, 1) := by decide +kernel
theorem dX12_isSo_207 : decode cX12_isSo 207 = .ok (.iaload, 1) := by decide +kernel
theorem dX12_isSo_208 : decode cX12_isSo 208 = .ok (.if_icmp .ne 7, 3) := by decide +kernel
theorem dX12_isSo_211 : decode cX12_isSo 211 = .ok (.iconst 1, 1) := by decide +kernel
theorem dX12_isSo_212 : decode cX12_isSo 212 = .ok (.goto 4, 3) := by decide +kernel
theorem dX12_isSo_215 : decode cX12_isSo 215 = .ok (.iconst 0, 1) := by decide +kernel
theorem dX12_isSo_216 : decode cX12_isSo 216 = .ok (.istore 7, 2) := by decide +kernel
theorem dX12_isSo_218 : decode cX12_isSo 218 = .ok (.goto 244, 3) := by decide +kernel
theorem dX12_isSo_221 : decode cX12_isSo 221 = .ok (.aload_n 0, 1) := by decide +kernel
theorem dX12_isSo_222 : decode cX12_isSo 222 = .ok (.getfield 323, 3) := by decide +kernel
theorem dX12_isSo_225 : decode cX12_isSo 225 = .ok (.iload_n 2, 1) := by decide +kernel
theorem dX12_isSo_226 : decode cX12_isSo 226 = .ok (.iaload, 1) := by decide +kernel
theorem dX12_isSo_227 : decode cX12_isSo 227 = .ok (.bipush 11, 2) := by decide +kernel
theorem dX12_isSo_229 : decode cX12_isSo 229 = .ok (.if_icmp .ne 26, 3) := by decide +kernel
theorem dX12_isSo_232 : decode cX12_isSo 232 = .ok (.aload_n 0, 1) := by decide +kernel
theorem dX12_isSo_233 : decode cX12_isSo 233 = .ok (.iload 8, 2) := by decide +kernel
theorem dX12_isSo_235 : decode cX12_isSo 235 = .ok (.aload_n 0, 1) := by decide +kernel
theorem dX12_isSo_236 : decode cX12_isSo 236 = .ok (.getfield 336, 3) := by decide +kernel
theorem dX12_isSo_239 : decode cX12_isSo 239 = .ok (.iload_n 2, 1) := by decide +kernel
theorem dX12_isSo_240 : decode cX12_isSo 240 = .ok (.iaload, 1) := by decide +kernel
theorem dX12_isSo_241 : decode cX12_isSo 241 = .ok (.aload_n 0, 1) := by decide +kernel
theorem dX12_isSo_242 : decode cX12_isSo 242 = .ok (.getfield 329, 3) := by decide +kernel
theorem dX12_isSo_245 : decode cX12_isSo 245 = .ok (.iload_n 2, 1) := by decide +kernel
theorem dX12_isSo_246 : decode cX12_isSo 246 = .ok (.iaload, 1) := by decide +kernel
theorem dX12_isSo_247 : decode cX12_isSo 247 = .ok (.invokevirtual 385, 3) := by decide +kernel
theorem dX12_isSo_250 : decode cX12_isSo 250 = .ok (.istore 7, 2) := by decide +kernel
theorem dX12_isSo_252 : decode cX12_isSo 252 = .ok (.goto 210, 3) := by decide +kernel
theorem dX12_isSo_255 : decode cX12_isSo 255 = .ok (.aload_n 0, 1) := by decide +kernel
theorem dX12_isSo_256 : decode cX12_isSo 256 = .ok (.getfield 323, 3) := by decide +kernel
theorem dX12_isSo_259 : decode cX12_isSo 259 = .ok (.iload_n 2, 1) := by decide +kernel
theorem dX12_isSo_260 : decode cX12_isSo 260 = .ok (.iaload, 1) := by decide +kernel
theorem dX12_isSo_261 : decode cX12_isSo 261 = .ok (.bipush 12, 2) := by decide +kernel
theorem dX12_isSo_263 : decode cX12_isSo 263 = .ok (.if_icmp .ne 35, 3) := by decide +kernel
theorem dX12_isSo_266 : decode cX12_isSo 266 = .ok (.aload_n 0, 1) := by decide +kernel
theorem dX12_isSo_267 : decode cX12_isSo 267 = .ok (.aload_n 0, 1) := by decide +kernel
theorem dX12_isSo_268 : decode cX12_isSo 268 = .ok (.getfield 148, 3) := by decide +kernel
theorem dX12_isSo_271 : decode cX12_isSo 271 = .ok (.bipush 40, 2) := by decide +kernel
theorem dX12_isSo_273 : decode cX12_isSo 273 = .ok (.iload_n 3, 1) := by decide +kernel
theorem dX12_isSo_274 : decode cX12_isSo 274 = .ok (.imul, 1) := by decide +kernel
theorem dX12_isSo_275 : decode cX12_isSo 275 = .ok (.iconst 1, 1) := by decide +kernel
theorem dX12_isSo_276 : decode cX12_isSo 276 = .ok (.iadd, 1) := by decide +kernel
theorem dX12_isSo_277 : decode cX12_isSo 277 = .ok (.iaload, 1) := by decide +kernel
theorem dX12_isSo_278 : decode cX12_isSo 278 = .ok (.aload_n 0, 1) := by decide +kernel
theorem dX12_isSo_279 : decode cX12_isSo 279 = .ok (.getfield 336, 3) := by decide +kernel
theorem dX12_isSo_282 : decode cX12_isSo 282 = .ok (.iload_n 2, 1) := by decide +kernel
theorem dX12_isSo_283 : decode cX12_isSo 283 = .ok (.iaload, 1) := by decide +kernel
theorem dX12_isSo_284 : decode cX12_isSo 284 = .ok (.aload_n 0, 1) := by decide +kernel
theorem dX12_isSo_285 : decode cX12_isSo 285 = .ok (.getfield 329, 3) := by decide +kernel
theorem dX12_isSo_288 : decode cX12_isSo 288 = .ok (.iload_n 2, 1) := by decide +kernel
theorem dX12_isSo_289 : decode cX12_isSo 289 = .ok (.iaload, 1) := by decide +kernel
theorem dX12_isSo_290 : decode cX12_isSo 290 = .ok (.invokevirtual 385, 3) := by decide +kernel
theorem dX12_isSo_293 : decode cX12_isSo 293 = .ok (.istore 7, 2) := by decide +kernel
theorem dX12_isSo_295 : decode cX12_isSo 295 = .ok (.goto 167, 3) := by decide +kernel
theorem dX12_isSo_298 : decode cX12_isSo 298 = .ok (.aload_n 0, 1) := by decide +kernel
theorem dX12_isSo_299 : decode cX12_isSo 299 = .ok (.getfield 323, 3) := by decide +kernel
theorem dX12_isSo_302 : decode cX12_isSo 302 = .ok (.iload_n 2, 1) := by decide +kernel
theorem dX12_isSo_303 : decode cX12_isSo 303 = .ok (.iaload, 1) := by decide +kernel
theorem dX12_isSo_304 : decode cX12_isSo 304 = .ok (.bipush 13, 2) := by decide +kernel
theorem dX12_isSo_306 : decode cX12_isSo 306 = .ok (.if_icmp .ne 35, 3) := by decide +kernel
theorem dX12_isSo_309 : decode cX12_isSo 309 = .ok (.aload_n 0, 1) := by decide +kernel
theorem dX12_isSo_310 : decode cX12_isSo 310 = .ok (.aload_n 0, 1) := by decide +kernel
theorem dX12_isSo_311 : decode cX12_isSo 311 = .ok (.getfield 148, 3) := by decide +kernel
theorem dX12_isSo_314 : decode cX12_isSo 314 = .ok (.bipush 40, 2) := by decide +kernel
theorem dX12_isSo_316 : decode cX12_isSo 316 = .ok (.iload_n 3, 1) := by decide +kernel
theorem dX12_isSo_317 : decode cX12_isSo 317 = .ok (.imul, 1) := by decide +kernel
theorem dX12_isSo_318 : decode cX12_isSo 318 = .ok (.iconst 3, 1) := by decide +kernel
theorem dX12_isSo_319 : decode cX12_isSo 319 = .ok (.iadd, 1) := by decide +kernel
theorem dX12_isSo_320 : decode cX12_isSo 320 = .ok (.iaload, 1) := by decide +kernel
theorem dX12_isSo_321 : decode cX12_isSo 321 = .ok (.aload_n 0, 1) := by decide +kernel
theorem dX12_isSo_322 : decode cX12_isSo 322 = .ok (.getfield 336, 3) := by decide +kernel
theorem dX12_isSo_325 : decode cX12_isSo 325 = .ok (.iload_n 2, 1) := by decide +kernel
theorem dX12_isSo_326 : decode cX12_isSo 326 = .ok (.iaload, 1) := by decide +kernel
theorem dX12_isSo_327 : decode cX12_isSo 327 = .ok (.aload_n 0, 1) := by decide +kernel
theorem dX12_isSo_328 : decode cX12_isSo 328 = .ok (.getfield 329, 3) := by decide +kernel
theorem dX12_isSo_331 : decode cX12_isSo 331 = .ok (.iload_n 2, 1) := by decide +kernel
theorem dX12_isSo_332 : decode cX12_isSo 332 = .ok (.iaload, 1) := by decide +kernel
theorem dX12_isSo_333 : decode cX12_isSo 333 = .ok (.invokevirtual 385, 3) := by decide +kernel
theorem dX12_isSo_336 : decode cX12_isSo 336 = .ok (.istore 7, 2) := by decide +kernel
theorem dX12_isSo_338 : decode cX12_isSo 338 = .ok (.goto 124, 3) := by decide +kernel
theorem dX12_isSo_341 : decode cX12_isSo 341 = .ok (.aload_n 0, 1) := by decide +kernel
theorem dX12_isSo_342 : decode cX12_isSo 342 = .ok (.getfield 323, 3) := by decide +kernel
theorem dX12_isSo_345 : decode cX12_isSo 345 = .ok (.iload_n 2, 1) := by decide +kernel
theorem dX12_isSo_346 : decode cX12_isSo 346 = .ok (.iaload, 1) := by decide +kernel
theorem dX12_isSo_347 : decode cX12_isSo 347 = .ok (.bipush 14, 2) := by decide +kernel
theorem dX12_isSo_349 : decode cX12_isSo 349 = .ok (.if_icmp .ne 33, 3) := by decide +kernel
theorem dX12_isSo_352 : decode cX12_isSo 352 = .ok (.aload_n 0, 1) := by decide +kernel
theorem dX12_isSo_353 : decode cX12_isSo 353 = .ok (.getfield 148, 3) := by decide +kernel
theorem dX12_isSo_356 : decode cX12_isSo 356 = .ok (.bipush 40, 2) := by decide +kernel
theorem dX12_isSo_358 : decode cX12_isSo 358 = .ok (.iload_n 3, 1) := by decide +kernel
theorem dX12_isSo_359 : decode cX12_isSo 359 = .ok (.imul, 1) := by decide +kernel
theorem dX12_isSo_360 : decode cX12_isSo 360 = .ok (.iconst 2, 1) := by decide +kernel
theorem dX12_isSo_361 : decode cX12_isSo 361 = .ok (.iadd, 1) := by decide +kernel
theorem dX12_isSo_362 : decode cX12_isSo 362 = .ok (.iaload, 1) := by decide +kernel
theorem dX12_isSo_363 : decode cX12_isSo 363 = .ok (.aload_n 0, 1) := by decide +kernel
theorem dX12_isSo_364 : decode cX12_isSo 364 = .ok (.getfield 329, 3) := by decide +kernel
theorem dX12_isSo_367 : decode cX12_isSo 367 = .ok (.iload_n 2, 1) := by decide +kernel
theorem dX12_isSo_368 : decode cX12_isSo 368 = .ok (.iaload, 1) := by decide +kernel
theorem dX12_isSo_369 : decode cX12_isSo 369 = .ok (.if_icmp .ne 7, 3) := by decide +kernel
theorem dX12_isSo_372 : decode cX12_isSo 372 = .ok (.iconst 1, 1) := by decide +kernel
theorem dX12_isSo_373 : decode cX12_isSo 373 = .ok (.goto 4, 3) := by decide +kernel
theorem dX12_isSo_376 : decode cX12_isSo 376 = .ok (.iconst 0, 1) := by decide +kernel
theorem dX12_isSo_377 : decode cX12_isSo 377 = .ok (.istore 7, 2) := by decide +kernel
theorem dX12_isSo_379 : decode cX12_isSo 379 = .ok (.goto 83, 3) := by decide +kernel
theorem dX12_isSo_382 : decode cX12_isSo 382 = .ok (.aload_n 0, 1) := by decide +kernel
theorem dX12_isSo_383 : decode cX12_isSo 383 = .ok (.iload 6, 2) := by decide +kernel
theorem dX12_isSo_385 : decode cX12_isSo 385 = .ok (.iload 8, 2) := by decide +kernel
theorem dX12_isSo_387 : decode cX12_isSo 387 = .ok (.ifCond .ne 8, 3) := by decide +kernel
theorem dX12_isSo_390 : decode cX12_isSo 390 = .ok (.iload 4, 2) := by decide +kernel
theorem dX12_isSo_392 : decode cX12_isSo 392 = .ok (.goto 17, 3) := by decide +kernel
theorem dX12_isSo_395 : decode cX12_isSo 395 = .ok (.aload_n 0, 1) := by decide +kernel
theorem dX12_isSo_396 : decode cX12_isSo 396 = .ok (.getfield 148, 3) := by decide +kernel
theorem dX12_isSo_399 : decode cX12_isSo 399 = .ok (.bipush 40, 2) := by decide +kernel
theorem dX12_isSo_401 : decode cX12_isSo 401 = .ok (.iload_n 3, 1) := by decide +kernel
theorem dX12_isSo_402 : decode cX12_isSo 402 = .ok (.imul, 1) := by decide +kernel
theorem dX12_isSo_403 : decode cX12_isSo 403 = .ok (.iconst 5, 1) := by decide +kernel
theorem dX12_isSo_404 : decode cX12_isSo 404 = .ok (.iadd, 1) := by decide +kernel
theorem dX12_isSo_405 : decode cX12_isSo 405 = .ok (.iload 8, 2) := by decide +kernel
theorem dX12_isSo_407 : decode cX12_isSo 407 = .ok (.iadd, 1) := by decide +kernel
theorem dX12_isSo_408 : decode cX12_isSo 408 = .ok (.iaload, 1) := by decide +kernel
theorem dX12_isSo_409 : decode cX12_isSo 409 = .ok (.aload_n 0, 1) := by decide +kernel
theorem dX12_isSo_410 : decode cX12_isSo 410 = .ok (.getfield 85, 3) := by decide +kernel
theorem dX12_isSo_413 : decode cX12_isSo 413 = .ok (.aload_n 0, 1) := by decide +kernel
theorem dX12_isSo_414 : decode cX12_isSo 414 = .ok (.getfield 85, 3) := by decide +kernel
theorem dX12_isSo_417 : decode cX12_isSo 417 = .ok (.invokevirtual 145, 3) := by decide +kernel
theorem dX12_isSo_420 : decode cX12_isSo 420 = .ok (.istore 9, 2) := by decide +kernel
theorem dX12_isSo_422 : decode cX12_isSo 422 = .ok (.aload_n 0, 1) := by decide +kernel
theorem dX12_isSo_423 : decode cX12_isSo 423 = .ok (.getfield 329, 3) := by decide +kernel
theorem dX12_isSo_426 : decode cX12_isSo 426 = .ok (.iload_n 2, 1) := by decide +kernel
theorem dX12_isSo_427 : decode cX12_isSo 427 = .ok (.iaload, 1) := by decide +kernel
theorem dX12_isSo_428 : decode cX12_isSo 428 = .ok (.iload 9, 2) := by decide +kernel
theorem dX12_isSo_430 : decode cX12_isSo 430 = .ok (.iconst 1, 1) := by decide +kernel
theorem dX12_isSo_431 : decode cX12_isSo 431 = .ok (.if_icmp .ne 8, 3) := by decide +kernel
theorem dX12_isSo_434 : decode cX12_isSo 434 = .ok (.bipush 20, 2) := by decide +kernel
theorem dX12_isSo_436 : decode cX12_isSo 436 = .ok (.goto 16, 3) := by decide +kernel
theorem dX12_isSo_439 : decode cX12_isSo 439 = .ok (.iload 9, 2) := by decide +kernel
theorem dX12_isSo_441 : decode cX12_isSo 441 = .ok (.iconst 2, 1) := by decide +kernel
theorem dX12_isSo_442 : decode cX12_isSo 442 = .ok (.if_icmp .ne 8, 3) := by decide +kernel
theorem dX12_isSo_445 : decode cX12_isSo 445 = .ok (.bipush 21, 2) := by decide +kernel
theorem dX12_isSo_447 : decode cX12_isSo 447 = .ok (.goto 5, 3) := by decide +kernel
theorem dX12_isSo_450 : decode cX12_isSo 450 = .ok (.bipush 22, 2) := by decide +kernel
theorem dX12_isSo_452 : decode cX12_isSo 452 = .ok (.if_icmp .ne 7, 3) := by decide +kernel
theorem dX12_isSo_455 : decode cX12_isSo 455 = .ok (.iconst 1, 1) := by decide +kernel
theorem dX12_isSo_456 : decode cX12_isSo 456 = .ok (.goto 4, 3) := by decide +kernel
theorem dX12_isSo_459 : decode cX12_isSo 459 = .ok (.iconst 0, 1) := by decide +kernel
theorem dX12_isSo_460 : decode cX12_isSo 460 = .ok (.istore 7, 2) := by decide +kernel
theorem dX12_isSo_462 : decode cX12_isSo 462 = .ok (.iload 7, 2) := by decide +kernel
theorem dX12_isSo_464 : decode cX12_isSo 464 = .ok (.aload_n 0, 1) := by decide +kernel
theorem dX12_isSo_465 : decode cX12_isSo 465 = .ok (.getfield 326, 3) := by decide +kernel
theorem dX12_isSo_468 : decode cX12_isSo 468 = .ok (.iload_n 2, 1) := by decide +kernel
theorem dX12_isSo_469 : decode cX12_isSo 469 = .ok (.baload, 1) := by decide +kernel
theorem dX12_isSo_470 : decode cX12_isSo 470 = .ok (.if_icmp .eq 7, 3) := by decide +kernel
theorem dX12_isSo_473 : decode cX12_isSo 473 = .ok (.iconst 1, 1) := by decide +kernel
theorem dX12_isSo_474 : decode cX12_isSo 474 = .ok (.goto 4, 3) := by decide +kernel
theorem dX12_isSo_477 : decode cX12_isSo 477 = .ok (.iconst 0, 1) := by decide +kernel
theorem dX12_isSo_478 : decode cX12_isSo 478 = .ok (.ireturn, 1) := by decide +kernel
theorem dX12_look_0 : decode cX12_look 0 = .ok (.bipush 10, 2) := by decide +kernel
theorem dX12_look_2 : decode cX12_look 2 = .ok (.iload_n 1, 1) := by decide +kernel
theorem dX12_look_3 : decode cX12_look 3 = .ok (.imul, 1) := by decide +kernel
theorem dX12_look_4 : decode cX12_look 4 = .ok (.iload_n 2, 1) := by decide +kernel
theorem dX12_look_5 : decode cX12_look 5 = .ok (.iadd, 1) := by decide +kernel
theorem dX12_look_6 : decode cX12_look 6 = .ok (.istore_n 3, 1) := by decide +kernel
theorem dX12_look_7 : decode cX12_look 7 = .ok (.aload_n 0, 1) := by decide +kernel
theorem dX12_look_8 : decode cX12_look 8 = .ok (.getfield 448, 3) := by decide +kernel
theorem dX12_look_11 : decode cX12_look 11 = .ok (.iload_n 3, 1) := by decide +kernel
theorem dX12_look_12 : decode cX12_look 12 = .ok (.iaload, 1) := by decide +kernel
theorem dX12_look_13 : decode cX12_look 13 = .ok (.ifCond .lt 78, 3) := by decide +kernel
theorem dX12_look_16 : decode cX12_look 16 = .ok (.bipush (-4), 2) := by decide +kernel
theorem dX12_look_18 : decode cX12_look 18 = .ok (.istore 4, 2) := by decide +kernel
theorem dX12_look_20 : decode cX12_look 20 = .ok (.bipush 120, 2) := by decide +kernel
theorem dX12_look_22 : decode cX12_look 22 = .ok (.istore 5, 2) := by decide +kernel
theorem dX12_look_24 : decode cX12_look 24 = .ok (.aload_n 0, 1) := by decide +kernel
theorem dX12_look_25 : decode cX12_look 25 = .ok (.getfield 148, 3) := by decide +kernel
theorem dX12_look_28 : decode cX12_look 28 = .ok (.iload 5, 2) := by decide +kernel
theorem dX12_look_30 : decode cX12_look 30 = .ok (.iload_n 2, 1) := by decide +kernel
theorem dX12_look_31 : decode cX12_look 31 = .ok (.iastore, 1) := by decide +kernel
theorem dX12_look_32 : decode cX12_look 32 = .ok (.aload_n 0, 1) := by decide +kernel
theorem dX12_look_33 : decode cX12_look 33 = .ok (.getfield 148, 3) := by decide +kernel
theorem dX12_look_36 : decode cX12_look 36 = .ok (.iload 5, 2) := by decide +kernel
theorem dX12_look_38 : decode cX12_look 38 = .ok (.iconst 1, 1) := by decide +kernel
theorem dX12_look_39 : decode cX12_look 39 = .ok (.iadd, 1) := by decide +kernel
theorem dX12_look_40 : decode cX12_look 40 = .ok (.bipush 100, 2) := by decide +kernel
theorem dX12_look_42 : decode cX12_look 42 = .ok (.iastore, 1) := by decide +kernel
theorem dX12_look_43 : decode cX12_look 43 = .ok (.aload_n 0, 1) := by decide +kernel
theorem dX12_look_44 : decode cX12_look 44 = .ok (.getfield 148, 3) := by decide +kernel
theorem dX12_look_47 : decode cX12_look 47 = .ok (.iload 5, 2) := by decide +kernel
theorem dX12_look_49 : decode cX12_look 49 = .ok (.iconst 2, 1) := by decide +kernel
theorem dX12_look_50 : decode cX12_look 50 = .ok (.iadd, 1) := by decide +kernel
theorem dX12_look_51 : decode cX12_look 51 = .ok (.aload_n 0, 1) := by decide +kernel
theorem dX12_look_52 : decode cX12_look 52 = .ok (.getfield 448, 3) := by decide +kernel
theorem dX12_look_55 : decode cX12_look 55 = .ok (.iload_n 3, 1) := by decide +kernel
theorem dX12_look_56 : decode cX12_look 56 = .ok (.iaload, 1) := by decide +kernel
theorem dX12_look_57 : decode cX12_look 57 = .ok (.iastore, 1) := by decide +kernel
theorem dX12_look_58 : decode cX12_look 58 = .ok (.aload_n 0, 1) := by decide +kernel
theorem dX12_look_59 : decode cX12_look 59 = .ok (.getfield 148, 3) := by decide +kernel
theorem dX12_look_62 : decode cX12_look 62 = .ok (.iload 5, 2) := by decide +kernel
theorem dX12_look_64 : decode cX12_look 64 = .ok (.iconst 3, 1) := by decide +kernel
theorem dX12_look_65 : decode cX12_look 65 = .ok (.iadd, 1) := by decide +kernel
theorem dX12_look_66 : decode cX12_look 66 = .ok (.iconst 0, 1) := by decide +kernel
theorem dX12_look_67 : decode cX12_look 67 = .ok (.iastore, 1) := by decide +kernel
theorem dX12_look_68 : decode cX12_look 68 = .ok (.aload_n 0, 1) := by decide +kernel
theorem dX12_look_69 : decode cX12_look 69 = .ok (.getfield 148, 3) := by decide +kernel
theorem dX12_look_72 : decode cX12_look 72 = .ok (.iload 5, 2) := by decide +kernel
theorem dX12_look_74 : decode cX12_look 74 = .ok (.iconst 4, 1) := by decide +kernel
theorem dX12_look_75 : decode cX12_look 75 = .ok (.iadd, 1) := by decide +kernel
theorem dX12_look_76 : decode cX12_look 76 = .ok (.iconst 0, 1) := by decide +kernel
theorem dX12_look_77 : decode cX12_look 77 = .ok (.iastore, 1) := by decide +kernel
theorem dX12_look_78 : decode cX12_look 78 = .ok (.aload_n 0, 1) := by decide +kernel
theorem dX12_look_79 : decode cX12_look 79 = .ok (.getfield 148, 3) := by decide +kernel
theorem dX12_look_82 : decode cX12_look 82 = .ok (.iload 5, 2) := by decide +kernel
theorem dX12_look_84 : decode cX12_look 84 = .ok (.iconst 5, 1) := by decide +kernel
theorem dX12_look_85 : decode cX12_look 85 = .ok (.iadd, 1) := by decide +kernel
theorem dX12_look_86 : decode cX12_look 86 = .ok (.iconst 0, 1) := by decide +kernel
theorem dX12_look_87 : decode cX12_look 87 = .ok (.iastore, 1) := by decide +kernel
theorem dX12_look_88 : decode cX12_look 88 = .ok (.goto 35, 3) := by decide +kernel
theorem dX12_look_91 : decode cX12_look 91 = .ok (.aload_n 0, 1) := by decide +kernel
theorem dX12_look_92 : decode cX12_look 92 = .ok (.iload_n 1, 1) := by decide +kernel
theorem dX12_look_93 : decode cX12_look 93 = .ok (.iload_n 2, 1) := by decide +kernel
theorem dX12_look_94 : decode cX12_look 94 = .ok (.invokevirtual 581, 3) := by decide +kernel
theorem dX12_look_97 : decode cX12_look 97 = .ok (.istore 4, 2) := by decide +kernel
theorem dX12_look_99 : decode cX12_look 99 = .ok (.iload 4, 2) := by decide +kernel
theorem dX12_look_101 : decode cX12_look 101 = .ok (.ldc 29, 2) := by decide +kernel
theorem dX12_look_103 : decode cX12_look 103 = .ok (.if_icmp .ne 11, 3) := by decide +kernel
theorem dX12_look_106 : decode cX12_look 106 = .ok (.aload_n 0, 1) := by decide +kernel
theorem dX12_look_107 : decode cX12_look 107 = .ok (.iconst 3, 1) := by decide +kernel
theorem dX12_look_108 : decode cX12_look 108 = .ok (.invokevirtual 539, 3) := by decide +kernel
theorem dX12_look_111 : decode cX12_look 111 = .ok (.goto 12, 3) := by decide +kernel
theorem dX12_look_114 : decode cX12_look 114 = .ok (.aload_n 0, 1) := by decide +kernel
theorem dX12_look_115 : decode cX12_look 115 = .ok (.iconst 4, 1) := by decide +kernel
theorem dX12_look_116 : decode cX12_look 116 = .ok (.iload 4, 2) := by decide +kernel
theorem dX12_look_118 : decode cX12_look 118 = .ok (.iadd, 1) := by decide +kernel
theorem dX12_look_119 : decode cX12_look 119 = .ok (.iconst 3, 1) := by decide +kernel
theorem dX12_look_120 : decode cX12_look 120 = .ok (.invokevirtual 559, 3) := by decide +kernel
theorem dX12_look_123 : decode cX12_look 123 = .ok (.iload 4, 2) := by decide +kernel
theorem dX12_look_125 : decode cX12_look 125 = .ok (.aload_n 0, 1) := by decide +kernel
theorem dX12_look_126 : decode cX12_look 126 = .ok (.getfield 445, 3) := by decide +kernel
theorem dX12_look_129 : decode cX12_look 129 = .ok (.iload_n 3, 1) := by decide +kernel
theorem dX12_look_130 : decode cX12_look 130 = .ok (.iaload, 1) := by decide +kernel
theorem dX12_look_131 : decode cX12_look 131 = .ok (.if_icmp .ne 16, 3) := by decide +kernel
theorem dX12_look_134 : decode cX12_look 134 = .ok (.aload_n 0, 1) := by decide +kernel
theorem dX12_look_135 : decode cX12_look 135 = .ok (.iconst 3, 1) := by decide +kernel
theorem dX12_look_136 : decode cX12_look 136 = .ok (.bipush 30, 2) := by decide +kernel
theorem dX12_look_138 : decode cX12_look 138 = .ok (.iload_n 3, 1) := by decide +kernel
theorem dX12_look_139 : decode cX12_look 139 = .ok (.iadd, 1) := by decide +kernel
theorem dX12_look_140 : decode cX12_look 140 = .ok (.invokevirtual 584, 3) := by decide +kernel
theorem dX12_look_143 : decode cX12_look 143 = .ok (.ifCond .eq 4, 3) := by decide +kernel
theorem dX12_look_146 : decode cX12_look 146 = .ok (.return_, 1) := by decide +kernel
theorem dX12_look_147 : decode cX12_look 147 = .ok (.aload_n 0, 1) := by decide +kernel
theorem dX12_look_148 : decode cX12_look 148 = .ok (.getfield 445, 3) := by decide +kernel
theorem dX12_look_151 : decode cX12_look 151 = .ok (.iload_n 3, 1) := by decide +kernel
theorem dX12_look_152 : decode cX12_look 152 = .ok (.iload 4, 2) := by decide +kernel
theorem dX12_look_154 : decode cX12_look 154 = .ok (.iastore, 1) := by decide +kernel
theorem dX12_look_155 : decode cX12_look 155 = .ok (.aload_n 0, 1) := by decide +kernel
theorem dX12_look_156 : decode cX12_look 156 = .ok (.iconst 3, 1) := by decide +kernel
theorem dX12_look_157 : decode cX12_look 157 = .ok (.bipush 30, 2) := by decide +kernel
theorem dX12_look_159 : decode cX12_look 159 = .ok (.iload_n 3, 1) := by decide +kernel
theorem dX12_look_160 : decode cX12_look 160 = .ok (.iadd, 1) := by decide +kernel
theorem dX12_look_161 : decode cX12_look 161 = .ok (.invokevirtual 559, 3) := by decide +kernel
theorem dX12_look_164 : decode cX12_look 164 = .ok (.iconst 0, 1) := by decide +kernel
theorem dX12_look_165 : decode cX12_look 165 = .ok (.istore 5, 2) := by decide +kernel
theorem dX12_look_167 : decode cX12_look 167 = .ok (.iload 5, 2) := by decide +kernel
theorem dX12_look_169 : decode cX12_look 169 = .ok (.aload_n 0, 1) := by decide +kernel
theorem dX12_look_170 : decode cX12_look 170 = .ok (.getfield 37, 3) := by decide +kernel
theorem dX12_look_173 : decode cX12_look 173 = .ok (.if_icmp .ge 37, 3) := by decide +kernel
theorem dX12_look_176 : decode cX12_look 176 = .ok (.aload_n 0, 1) := by decide +kernel
theorem dX12_look_177 : decode cX12_look 177 = .ok (.iload 5, 2) := by decide +kernel
theorem dX12_look_179 : decode cX12_look 179 = .ok (.iload_n 1, 1) := by decide +kernel
theorem dX12_look_180 : decode cX12_look 180 = .ok (.invokevirtual 562, 3) := by decide +kernel
theorem dX12_look_183 : decode cX12_look 183 = .ok (.ifCond .eq 21, 3) := by decide +kernel
theorem dX12_look_186 : decode cX12_look 186 = .ok (.aload_n 0, 1) := by decide +kernel
theorem dX12_look_187 : decode cX12_look 187 = .ok (.getfield 53, 3) := by decide +kernel
theorem dX12_look_190 : decode cX12_look 190 = .ok (.iload 5, 2) := by decide +kernel
theorem dX12_look_192 : decode cX12_look 192 = .ok (.baload, 1) := by decide +kernel
theorem dX12_look_193 : decode cX12_look 193 = .ok (.ifCond .eq 11, 3) := by decide +kernel
theorem dX12_look_196 : decode cX12_look 196 = .ok (.aload_n 0, 1) := by decide +kernel
theorem dX12_look_197 : decode cX12_look 197 = .ok (.iload_n 1, 1) := by decide +kernel
theorem dX12_look_198 : decode cX12_look 198 = .ok (.iload 5, 2) := by decide +kernel
theorem dX12_look_200 : decode cX12_look 200 = .ok (.iload_n 2, 1) := by decide +kernel
theorem dX12_look_201 : decode cX12_look 201 = .ok (.invokevirtual 587, 3) := by decide +kernel
theorem dX12_look_204 : decode cX12_look 204 = .ok (.iinc 5 1, 3) := by decide +kernel
theorem dX12_look_207 : decode cX12_look 207 = .ok (.goto (-40), 3) := by decide +kernel
theorem dX12_look_210 : decode cX12_look 210 = .ok (.return_, 1) := by decide +kernel
theorem dX12_lookAll_0 : decode cX12_lookAll 0 = .ok (.iconst 0, 1) := by decide +kernel
theorem dX12_lookAll_1 : decode cX12_lookAll 1 = .ok (.istore_n 2, 1) := by decide +kernel
theorem dX12_lookAll_2 : decode cX12_lookAll 2 = .ok (.iload_n 2, 1) := by decide +kernel
theorem dX12_lookAll_3 : decode cX12_lookAll 3 = .ok (.aload_n 0, 1) := by decide +kernel
theorem dX12_lookAll_4 : decode cX12_lookAll 4 = .ok (.getfield 15, 3) := by decide +kernel
theorem dX12_lookAll_7 : decode cX12_lookAll 7 = .ok (.if_icmp .ge 15, 3) := by decide +kernel
theorem dX12_lookAll_10 : decode cX12_lookAll 10 = .ok (.aload_n 0, 1) := by decide +kernel
theorem dX12_lookAll_11 : decode cX12_lookAll 11 = .ok (.iload_n 1, 1) := by decide +kernel
theorem dX12_lookAll_12 : decode cX12_lookAll 12 = .ok (.iload_n 2, 1) := by decide +kernel
theorem dX12_lookAll_13 : decode cX12_lookAll 13 = .ok (.invokevirtual 597, 3) := by decide +kernel
theorem dX12_lookAll_16 : decode cX12_lookAll 16 = .ok (.iinc 2 1, 3) := by decide +kernel
theorem dX12_lookAll_19 : decode cX12_lookAll 19 = .ok (.goto (-17), 3) := by decide +kernel
theorem dX12_lookAll_22 : decode cX12_lookAll 22 = .ok (.return_, 1) := by decide +kernel
theorem dX12_pick_0 : decode cX12_pick 0 = .ok (.aload_n 0, 1) := by decide +kernel
theorem dX12_pick_1 : decode cX12_pick 1 = .ok (.iload_n 1, 1) := by decide +kernel
theorem dX12_pick_2 : decode cX12_pick 2 = .ok (.iload_n 2, 1) := by decide +kernel
theorem dX12_pick_3 : decode cX12_pick 3 = .ok (.invokevirtual 572, 3) := by decide +kernel
theorem dX12_pick_6 : decode cX12_pick 6 = .ok (.aload_n 0, 1) := by decide +kernel
theorem dX12_pick_7 : decode cX12_pick 7 = .ok (.getfield 454, 3) := by decide +kernel
theorem dX12_pick_10 : decode cX12_pick 10 = .ok (.iload_n 1, 1) := by decide +kernel
theorem dX12_pick_11 : decode cX12_pick 11 = .ok (.baload, 1) := by decide +kernel
theorem dX12_pick_12 : decode cX12_pick 12 = .ok (.ifCond .ne 39, 3) := by decide +kernel
theorem dX12_pick_15 : decode cX12_pick 15 = .ok (.iconst 0, 1) := by decide +kernel
theorem dX12_pick_16 : decode cX12_pick 16 = .ok (.istore_n 3, 1) := by decide +kernel
theorem dX12_pick_17 : decode cX12_pick 17 = .ok (.iload_n 3, 1) := by decide +kernel
theorem dX12_pick_18 : decode cX12_pick 18 = .ok (.aload_n 0, 1) := by decide +kernel
theorem dX12_pick_19 : decode cX12_pick 19 = .ok (.getfield 37, 3) := by decide +kernel
theorem dX12_pick_22 : decode cX12_pick 22 = .ok (.if_icmp .ge 22, 3) := by decide +kernel
theorem dX12_pick_25 : decode cX12_pick 25 = .ok (.aload_n 0, 1) := by decide +kernel
theorem dX12_pick_26 : decode cX12_pick 26 = .ok (.getfield 457, 3) := by decide +kernel
theorem dX12_pick_29 : decode cX12_pick 29 = .ok (.iload_n 3, 1) := by decide +kernel
theorem dX12_pick_30 : decode cX12_pick 30 = .ok (.aload_n 0, 1) := by decide +kernel
theorem dX12_pick_31 : decode cX12_pick 31 = .ok (.iconst 4, 1) := by decide +kernel
theorem dX12_pick_32 : decode cX12_pick 32 = .ok (.iload_n 3, 1) := by decide +kernel
theorem dX12_pick_33 : decode cX12_pick 33 = .ok (.iadd, 1) := by decide +kernel
theorem dX12_pick_34 : decode cX12_pick 34 = .ok (.invokevirtual 151, 3) := by decide +kernel
theorem dX12_pick_37 : decode cX12_pick 37 = .ok (.bastore, 1) := by decide +kernel
theorem dX12_pick_38 : decode cX12_pick 38 = .ok (.iinc 3 1, 3) := by decide +kernel
theorem dX12_pick_41 : decode cX12_pick 41 = .ok (.goto (-24), 3) := by decide +kernel
theorem dX12_pick_44 : decode cX12_pick 44 = .ok (.aload_n 0, 1) := by decide +kernel
theorem dX12_pick_45 : decode cX12_pick 45 = .ok (.iload_n 1, 1) := by decide +kernel
theorem dX12_pick_46 : decode cX12_pick 46 = .ok (.iload_n 2, 1) := by decide +kernel
theorem dX12_pick_47 : decode cX12_pick 47 = .ok (.invokevirtual 575, 3) := by decide +kernel
theorem dX12_pick_50 : decode cX12_pick 50 = .ok (.ireturn, 1) := by decide +kernel
theorem dX12_pick_51 : decode cX12_pick 51 = .ok (.ldc 29, 2) := by decide +kernel
theorem dX12_pick_53 : decode cX12_pick 53 = .ok (.istore_n 3, 1) := by decide +kernel
theorem dX12_pick_54 : decode cX12_pick 54 = .ok (.iconst 0, 1) := by decide +kernel
theorem dX12_pick_55 : decode cX12_pick 55 = .ok (.istore 4, 2) := by decide +kernel
theorem dX12_pick_57 : decode cX12_pick 57 = .ok (.iload 4, 2) := by decide +kernel
theorem dX12_pick_59 : decode cX12_pick 59 = .ok (.aload_n 0, 1) := by decide +kernel
theorem dX12_pick_60 : decode cX12_pick 60 = .ok (.getfield 37, 3) := by decide +kernel
theorem dX12_pick_63 : decode cX12_pick 63 = .ok (.if_icmp .ge 58, 3) := by decide +kernel
theorem dX12_pick_66 : decode cX12_pick 66 = .ok (.aload_n 0, 1) := by decide +kernel
theorem dX12_pick_67 : decode cX12_pick 67 = .ok (.iconst 4, 1) := by decide +kernel
theorem dX12_pick_68 : decode cX12_pick 68 = .ok (.iload 4, 2) := by decide +kernel
theorem dX12_pick_70 : decode cX12_pick 70 = .ok (.iadd, 1) := by decide +kernel
theorem dX12_pick_71 : decode cX12_pick 71 = .ok (.invokevirtual 151, 3) := by decide +kernel
theorem dX12_pick_74 : decode cX12_pick 74 = .ok (.ifCond .eq 41, 3) := by decide +kernel
theorem dX12_pick_77 : decode cX12_pick 77 = .ok (.aload_n 0, 1) := by decide +kernel
theorem dX12_pick_78 : decode cX12_pick 78 = .ok (.getfield 148, 3) := by decide +kernel
theorem dX12_pick_81 : decode cX12_pick 81 = .ok (.bipush 40, 2) := by decide +kernel
theorem dX12_pick_83 : decode cX12_pick 83 = .ok (.iconst 4, 1) := by decide +kernel
theorem dX12_pick_84 : decode cX12_pick 84 = .ok (.iload 4, 2) := by decide +kernel
theorem dX12_pick_86 : decode cX12_pick 86 = .ok (.iadd, 1) := by decide +kernel
theorem dX12_pick_87 : decode cX12_pick 87 = .ok (.imul, 1) := by decide +kernel
theorem dX12_pick_88 : decode cX12_pick 88 = .ok (.iconst 4, 1) := by decide +kernel
theorem dX12_pick_89 : decode cX12_pick 89 = .ok (.iadd, 1) := by decide +kernel
theorem dX12_pick_90 : decode cX12_pick 90 = .ok (.iaload, 1) := by decide +kernel
theorem dX12_pick_91 : decode cX12_pick 91 = .ok (.ifCond .ne 24, 3) := by decide +kernel
theorem dX12_pick_94 : decode cX12_pick 94 = .ok (.iload_n 3, 1) := by decide +kernel
theorem dX12_pick_95 : decode cX12_pick 95 = .ok (.ldc 29, 2) := by decide +kernel
theorem dX12_pick_97 : decode cX12_pick 97 = .ok (.if_icmp .eq 15, 3) := by decide +kernel
theorem dX12_pick_100 : decode cX12_pick 100 = .ok (.aload_n 0, 1) := by decide +kernel
theorem dX12_pick_101 : decode cX12_pick 101 = .ok (.iload_n 1, 1) := by decide +kernel
theorem dX12_pick_102 : decode cX12_pick 102 = .ok (.iload 4, 2) := by decide +kernel
theorem dX12_pick_104 : decode cX12_pick 104 = .ok (.iload_n 3, 1) := by decide +kernel
theorem dX12_pick_105 : decode cX12_pick 105 = .ok (.iload_n 2, 1) := by decide +kernel
theorem dX12_pick_106 : decode cX12_pick 106 = .ok (.invokevirtual 568, 3) := by decide +kernel
theorem dX12_pick_109 : decode cX12_pick 109 = .ok (.ifCond .eq 6, 3) := by decide +kernel
theorem dX12_pick_112 : decode cX12_pick 112 = .ok (.iload 4, 2) := by decide +kernel
theorem dX12_pick_114 : decode cX12_pick 114 = .ok (.istore_n 3, 1) := by decide +kernel
theorem dX12_pick_115 : decode cX12_pick 115 = .ok (.iinc 4 1, 3) := by decide +kernel
theorem dX12_pick_118 : decode cX12_pick 118 = .ok (.goto (-61), 3) := by decide +kernel
theorem dX12_pick_121 : decode cX12_pick 121 = .ok (.iconst 0, 1) := by decide +kernel
theorem dX12_pick_122 : decode cX12_pick 122 = .ok (.istore 4, 2) := by decide +kernel
theorem dX12_pick_124 : decode cX12_pick 124 = .ok (.iconst 0, 1) := by decide +kernel
theorem dX12_pick_125 : decode cX12_pick 125 = .ok (.istore 5, 2) := by decide +kernel
theorem dX12_pick_127 : decode cX12_pick 127 = .ok (.iconst 1, 1) := by decide +kernel
theorem dX12_pick_128 : decode cX12_pick 128 = .ok (.istore 6, 2) := by decide +kernel
theorem dX12_pick_130 : decode cX12_pick 130 = .ok (.iload 6, 2) := by decide +kernel
theorem dX12_pick_132 : decode cX12_pick 132 = .ok (.ifCond .eq 241, 3) := by decide +kernel
theorem dX12_pick_135 : decode cX12_pick 135 = .ok (.iconst 0, 1) := by decide +kernel
theorem dX12_pick_136 : decode cX12_pick 136 = .ok (.istore 7, 2) := by decide +kernel
theorem dX12_pick_138 : decode cX12_pick 138 = .ok (.iconst 0, 1) := by decide +kernel
theorem dX12_pick_139 : decode cX12_pick 139 = .ok (.istore 8, 2) := by decide +kernel
theorem dX12_pick_141 : decode cX12_pick 141 = .ok (.iconst 0, 1) := by decide +kernel
theorem dX12_pick_142 : decode cX12_pick 142 = .ok (.istore 9, 2) := by decide +kernel
theorem dX12_pick_144 : decode cX12_pick 144 = .ok (.iload 9, 2) := by decide +kernel
theorem dX12_pick_146 : decode cX12_pick 146 = .ok (.aload_n 0, 1) := by decide +kernel
theorem dX12_pick_147 : decode cX12_pick 147 = .ok (.getfield 37, 3) := by decide +kernel
theorem dX12_pick_150 : decode cX12_pick 150 = .ok (.if_icmp .ge 94, 3) := by decide +kernel
theorem dX12_pick_153 : decode cX12_pick 153 = .ok (.aload_n 0, 1) := by decide +kernel
theorem dX12_pick_154 : decode cX12_pick 154 = .ok (.iconst 4, 1) := by decide +kernel
theorem dX12_pick_155 : decode cX12_pick 155 = .ok (.iload 9, 2) := by decide +kernel
theorem dX12_pick_157 : decode cX12_pick 157 = .ok (.iadd, 1) := by decide +kernel
theorem dX12_pick_158 : decode cX12_pick 158 = .ok (.invokevirtual 151, 3) := by decide +kernel
theorem dX12_pick_161 : decode cX12_pick 161 = .ok (.ifCond .eq 77, 3) := by decide +kernel
theorem dX12_pick_164 : decode cX12_pick 164 = .ok (.aload_n 0, 1) := by decide +kernel
theorem dX12_pick_165 : decode cX12_pick 165 = .ok (.getfield 148, 3) := by decide +kernel
theorem dX12_pick_168 : decode cX12_pick 168 = .ok (.bipush 40, 2) := by decide +kernel
theorem dX12_pick_170 : decode cX12_pick 170 = .ok (.iconst 4, 1) := by decide +kernel
theorem dX12_pick_171 : decode cX12_pick 171 = .ok (.iload 9, 2) := by decide +kernel
theorem dX12_pick_173 : decode cX12_pick 173 = .ok (.iadd, 1) := by decide +kernel
theorem dX12_pick_174 : decode cX12_pick 174 = .ok (.imul, 1) := by decide +kernel
theorem dX12_pick_175 : decode cX12_pick 175 = .ok (.iconst 4, 1) := by decide +kernel
theorem dX12_pick_176 : decode cX12_pick 176 = .ok (.iadd, 1) := by decide +kernel
theorem dX12_pick_177 : decode cX12_pick 177 = .ok (.iaload, 1) := by decide +kernel
theorem dX12_pick_178 : decode cX12_pick 178 = .ok (.ifCond .ne 6, 3) := by decide +kernel
theorem dX12_pick_181 : decode cX12_pick 181 = .ok (.goto 57, 3) := by decide +kernel
theorem dX12_pick_184 : decode cX12_pick 184 = .ok (.aload_n 0, 1) := by decide +kernel
theorem dX12_pick_185 : decode cX12_pick 185 = .ok (.getfield 148, 3) := by decide +kernel
theorem dX12_pick_188 : decode cX12_pick 188 = .ok (.bipush 40, 2) := by decide +kernel
theorem dX12_pick_190 : decode cX12_pick 190 = .ok (.iconst 4, 1) := by decide +kernel
theorem dX12_pick_191 : decode cX12_pick 191 = .ok (.iload 9, 2) := by decide +kernel
theorem dX12_pick_193 : decode cX12_pick 193 = .ok (.iadd, 1) := by decide +kernel
theorem dX12_pick_194 : decode cX12_pick 194 = .ok (.imul, 1) := by decide +kernel
theorem dX12_pick_195 : decode cX12_pick 195 = .ok (.bipush 6, 2) := by decide +kernel
theorem dX12_pick_197 : decode cX12_pick 197 = .ok (.iadd, 1) := by decide +kernel
theorem dX12_pick_198 : decode cX12_pick 198 = .ok (.iaload, 1) := by decide +kernel
theorem dX12_pick_199 : decode cX12_pick 199 = .ok (.istore 10, 2) := by decide +kernel
theorem dX12_pick_201 : decode cX12_pick 201 = .ok (.iload 4, 2) := by decide +kernel
theorem dX12_pick_203 : decode cX12_pick 203 = .ok (.ifCond .eq 13, 3) := by decide +kernel
theorem dX12_pick_206 : decode cX12_pick 206 = .ok (.iload 5, 2) := by decide +kernel
theorem dX12_pick_208 : decode cX12_pick 208 = .ok (.iload 10, 2) := by decide +kernel
theorem dX12_pick_210 : decode cX12_pick 210 = .ok (.invokestatic 578, 3) := by decide +kernel
theorem dX12_pick_213 : decode cX12_pick 213 = .ok (.ifCond .eq 25, 3) := by decide +kernel
theorem dX12_pick_216 : decode cX12_pick 216 = .ok (.iload 7, 2) := by decide +kernel
theorem dX12_pick_218 : decode cX12_pick 218 = .ok (.ifCond .eq 13, 3) := by decide +kernel
theorem dX12_pick_221 : decode cX12_pick 221 = .ok (.iload 10, 2) := by decide +kernel
theorem dX12_pick_223 : decode cX12_pick 223 = .ok (.iload 8, 2) := by decide +kernel
theorem dX12_pick_225 : decode cX12_pick 225 = .ok (.invokestatic 578, 3) := by decide +kernel
theorem dX12_pick_228 : decode cX12_pick 228 = .ok (.ifCond .eq 10, 3) := by decide +kernel
theorem dX12_pick_231 : decode cX12_pick 231 = .ok (.iload 10, 2) := by decide +kernel
theorem dX12_pick_233 : decode cX12_pick 233 = .ok (.istore 8, 2) := by decide +kernel
theorem dX12_pick_235 : decode cX12_pick 235 = .ok (.iconst 1, 1) := by decide +kernel
theorem dX12_pick_236 : decode cX12_pick 236 = .ok (.istore 7, 2) := by decide +kernel
theorem dX12_pick_238 : decode cX12_pick 238 = .ok (.iinc 9 1, 3) := by decide +kernel
theorem dX12_pick_241 : decode cX12_pick 241 = .ok (.goto (-97), 3) := by decide +kernel
theorem dX12_pick_244 : decode cX12_pick 244 = .ok (.iload 7, 2) := by decide +kernel
theorem dX12_pick_246 : decode cX12_pick 246 = .ok (.istore 6, 2) := by decide +kernel
theorem dX12_pick_248 : decode cX12_pick 248 = .ok (.iload 7, 2) := by decide +kernel
theorem dX12_pick_250 : decode cX12_pick 250 = .ok (.ifCond .ne 6, 3) := by decide +kernel
theorem dX12_pick_253 : decode cX12_pick 253 = .ok (.goto (-123), 3) := by decide +kernel
theorem dX12_pick_256 : decode cX12_pick 256 = .ok (.iconst 1, 1) := by decide +kernel
theorem dX12_pick_257 : decode cX12_pick 257 = .ok (.istore 4, 2) := by decide +kernel
theorem dX12_pick_259 : decode cX12_pick 259 = .ok (.iload 8, 2) := by decide +kernel
theorem dX12_pick_261 : decode cX12_pick 261 = .ok (.istore 5, 2) := by decide +kernel
theorem dX12_pick_263 : decode cX12_pick 263 = .ok (.iconst 0, 1) := by decide +kernel
theorem dX12_pick_264 : decode cX12_pick 264 = .ok (.istore 9, 2) := by decide +kernel
theorem dX12_pick_266 : decode cX12_pick 266 = .ok (.iload 9, 2) := by decide +kernel
theorem dX12_pick_268 : decode cX12_pick 268 = .ok (.aload_n 0, 1) := by decide +kernel
theorem dX12_pick_269 : decode cX12_pick 269 = .ok (.getfield 37, 3) := by decide +kernel
theorem dX12_pick_272 : decode cX12_pick 272 = .ok (.if_icmp .ge 69, 3) := by decide +kernel
theorem dX12_pick_275 : decode cX12_pick 275 = .ok (.aload_n 0, 1) := by decide +kernel
theorem dX12_pick_276 : decode cX12_pick 276 = .ok (.getfield 457, 3) := by decide +kernel
theorem dX12_pick_279 : decode cX12_pick 279 = .ok (.iload 9, 2) := by decide +kernel
theorem dX12_pick_281 : decode cX12_pick 281 = .ok (.aload_n 0, 1) := by decide +kernel
theorem dX12_pick_282 : decode cX12_pick 282 = .ok (.iconst 4, 1) := by decide +kernel
theorem dX12_pick_283 : decode cX12_pick 283 = .ok (.iload 9, 2) := by decide +kernel
theorem dX12_pick_285 : decode cX12_pick 285 = .ok (.iadd, 1) := by decide +kernel
theorem dX12_pick_286 : decode cX12_pick 286 = .ok (.invokevirtual 151, 3) := by decide +kernel
theorem dX12_pick_289 : decode cX12_pick 289 = .ok (.ifCond .eq 44, 3) := by decide +kernel
theorem dX12_pick_292 : decode cX12_pick 292 = .ok (.aload_n 0, 1) := by decide +kernel
theorem dX12_pick_293 : decode cX12_pick 293 = .ok (.getfield 148, 3) := by decide +kernel
theorem dX12_pick_296 : decode cX12_pick 296 = .ok (.bipush 40, 2) := by decide +kernel
theorem dX12_pick_298 : decode cX12_pick 298 = .ok (.iconst 4, 1) := by decide +kernel
theorem dX12_pick_299 : decode cX12_pick 299 = .ok (.iload 9, 2) := by decide +kernel
theorem dX12_pick_301 : decode cX12_pick 301 = .ok (.iadd, 1) := by decide +kernel
theorem dX12_pick_302 : decode cX12_pick 302 = .ok (.imul, 1) := by decide +kernel
theorem dX12_pick_303 : decode cX12_pick 303 = .ok (.iconst 4, 1) := by decide +kernel
theorem dX12_pick_304 : decode cX12_pick 304 = .ok (.iadd, 1) := by decide +kernel
theorem dX12_pick_305 : decode cX12_pick 305 = .ok (.iaload, 1) := by decide +kernel
theorem dX12_pick_306 : decode cX12_pick 306 = .ok (.ifCond .le 27, 3) := by decide +kernel
theorem dX12_pick_309 : decode cX12_pick 309 = .ok (.aload_n 0, 1) := by decide +kernel
theorem dX12_pick_310 : decode cX12_pick 310 = .ok (.getfield 148, 3) := by decide +kernel
theorem dX12_pick_313 : decode cX12_pick 313 = .ok (.bipush 40, 2) := by decide +kernel
theorem dX12_pick_315 : decode cX12_pick 315 = .ok (.iconst 4, 1) := by decide +kernel
theorem dX12_pick_316 : decode cX12_pick 316 = .ok (.iload 9, 2) := by decide +kernel
theorem dX12_pick_318 : decode cX12_pick 318 = .ok (.iadd, 1) := by decide +kernel
theorem dX12_pick_319 : decode cX12_pick 319 = .ok (.imul, 1) := by decide +kernel
theorem dX12_pick_320 : decode cX12_pick 320 = .ok (.bipush 6, 2) := by decide +kernel
theorem dX12_pick_322 : decode cX12_pick 322 = .ok (.iadd, 1) := by decide +kernel
theorem dX12_pick_323 : decode cX12_pick 323 = .ok (.iaload, 1) := by decide +kernel
theorem dX12_pick_324 : decode cX12_pick 324 = .ok (.iload 8, 2) := by decide +kernel
theorem dX12_pick_326 : decode cX12_pick 326 = .ok (.if_icmp .ne 7, 3) := by decide +kernel
theorem dX12_pick_329 : decode cX12_pick 329 = .ok (.iconst 1, 1) := by decide +kernel
theorem dX12_pick_330 : decode cX12_pick 330 = .ok (.goto 4, 3) := by decide +kernel
theorem dX12_pick_333 : decode cX12_pick 333 = .ok (.iconst 0, 1) := by decide +kernel
theorem dX12_pick_334 : decode cX12_pick 334 = .ok (.bastore, 1) := by decide +kernel
theorem dX12_pick_335 : decode cX12_pick 335 = .ok (.iinc 9 1, 3) := by decide +kernel
theorem dX12_pick_338 : decode cX12_pick 338 = .ok (.goto (-72), 3) := by decide +kernel
theorem dX12_pick_341 : decode cX12_pick 341 = .ok (.aload_n 0, 1) := by decide +kernel
theorem dX12_pick_342 : decode cX12_pick 342 = .ok (.iload_n 1, 1) := by decide +kernel
theorem dX12_pick_343 : decode cX12_pick 343 = .ok (.iload_n 2, 1) := by decide +kernel
theorem dX12_pick_344 : decode cX12_pick 344 = .ok (.invokevirtual 575, 3) := by decide +kernel
theorem dX12_pick_347 : decode cX12_pick 347 = .ok (.istore 9, 2) := by decide +kernel
theorem dX12_pick_349 : decode cX12_pick 349 = .ok (.iload_n 3, 1) := by decide +kernel
theorem dX12_pick_350 : decode cX12_pick 350 = .ok (.ldc 29, 2) := by decide +kernel
theorem dX12_pick_352 : decode cX12_pick 352 = .ok (.if_icmp .eq 15, 3) := by decide +kernel
theorem dX12_pick_355 : decode cX12_pick 355 = .ok (.aload_n 0, 1) := by decide +kernel
theorem dX12_pick_356 : decode cX12_pick 356 = .ok (.iload_n 1, 1) := by decide +kernel
theorem dX12_pick_357 : decode cX12_pick 357 = .ok (.iload 9, 2) := by decide +kernel
theorem dX12_pick_359 : decode cX12_pick 359 = .ok (.iload_n 3, 1) := by decide +kernel
theorem dX12_pick_360 : decode cX12_pick 360 = .ok (.iload_n 2, 1) := by decide +kernel
theorem dX12_pick_361 : decode cX12_pick 361 = .ok (.invokevirtual 568, 3) := by decide +kernel
theorem dX12_pick_364 : decode cX12_pick 364 = .ok (.ifCond .eq 6, 3) := by decide +kernel
theorem dX12_pick_367 : decode cX12_pick 367 = .ok (.iload 9, 2) := by decide +kernel
theorem dX12_pick_369 : decode cX12_pick 369 = .ok (.istore_n 3, 1) := by decide +kernel
theorem dX12_pick_370 : decode cX12_pick 370 = .ok (.goto (-240), 3) := by decide +kernel
theorem dX12_pick_373 : decode cX12_pick 373 = .ok (.iload_n 3, 1) := by decide +kernel
theorem dX12_pick_374 : decode cX12_pick 374 = .ok (.ireturn, 1) := by decide +kernel
theorem dX12_raise_0 : decode cX12_raise 0 = .ok (.aload_n 0, 1) := by decide +kernel
theorem dX12_raise_1 : decode cX12_raise 1 = .ok (.iload_n 1, 1) := by decide +kernel
theorem dX12_raise_2 : decode cX12_raise 2 = .ok (.invokevirtual 66, 3) := by decide +kernel
theorem dX12_raise_5 : decode cX12_raise 5 = .ok (.ifCond .ne 5, 3) := by decide +kernel
theorem dX12_raise_8 : decode cX12_raise 8 = .ok (.iconst (-1), 1) := by decide +kernel
theorem dX12_raise_9 : decode cX12_raise 9 = .ok (.ireturn, 1) := by decide +kernel
theorem dX12_raise_10 : decode cX12_raise 10 = .ok (.aload_n 0, 1) := by decide +kernel
theorem dX12_raise_11 : decode cX12_raise 11 = .ok (.getfield 53, 3) := by decide +kernel
theorem dX12_raise_14 : decode cX12_raise 14 = .ok (.iload_n 1, 1) := by decide +kernel
theorem dX12_raise_15 : decode cX12_raise 15 = .ok (.baload, 1) := by decide +kernel
theorem dX12_raise_16 : decode cX12_raise 16 = .ok (.ifCond .eq 7, 3) := by decide +kernel
theorem dX12_raise_19 : decode cX12_raise 19 = .ok (.iconst 1, 1) := by decide +kernel
theorem dX12_raise_20 : decode cX12_raise 20 = .ok (.goto 4, 3) := by decide +kernel
theorem dX12_raise_23 : decode cX12_raise 23 = .ok (.iconst 0, 1) := by decide +kernel
theorem dX12_raise_24 : decode cX12_raise 24 = .ok (.istore_n 3, 1) := by decide +kernel
theorem dX12_raise_25 : decode cX12_raise 25 = .ok (.iload_n 2, 1) := by decide +kernel
theorem dX12_raise_26 : decode cX12_raise 26 = .ok (.ifCond .ne 9, 3) := by decide +kernel
theorem dX12_raise_29 : decode cX12_raise 29 = .ok (.iload_n 3, 1) := by decide +kernel
theorem dX12_raise_30 : decode cX12_raise 30 = .ok (.ifCond .ne 5, 3) := by decide +kernel
theorem dX12_raise_33 : decode cX12_raise 33 = .ok (.iconst 0, 1) := by decide +kernel
theorem dX12_raise_34 : decode cX12_raise 34 = .ok (.ireturn, 1) := by decide +kernel
theorem dX12_raise_35 : decode cX12_raise 35 = .ok (.aload_n 0, 1) := by decide +kernel
theorem dX12_raise_36 : decode cX12_raise 36 = .ok (.getfield 53, 3) := by decide +kernel
theorem dX12_raise_39 : decode cX12_raise 39 = .ok (.iload_n 1, 1) := by decide +kernel
theorem dX12_raise_40 : decode cX12_raise 40 = .ok (.iload_n 2, 1) := by decide +kernel
theorem dX12_raise_41 : decode cX12_raise 41 = .ok (.bastore, 1) := by decide +kernel
theorem dX12_raise_42 : decode cX12_raise 42 = .ok (.iload_n 2, 1) := by decide +kernel
theorem dX12_raise_43 : decode cX12_raise 43 = .ok (.ifCond .eq 33, 3) := by decide +kernel
theorem dX12_raise_46 : decode cX12_raise 46 = .ok (.aload_n 0, 1) := by decide +kernel
theorem dX12_raise_47 : decode cX12_raise 47 = .ok (.aload_n 0, 1) := by decide +kernel
theorem dX12_raise_48 : decode cX12_raise 48 = .ok (.getfield 40, 3) := by decide +kernel
theorem dX12_raise_51 : decode cX12_raise 51 = .ok (.iconst 2, 1) := by decide +kernel
theorem dX12_raise_52 : decode cX12_raise 52 = .ok (.iload_n 1, 1) := by decide +kernel
theorem dX12_raise_53 : decode cX12_raise 53 = .ok (.imul, 1) := by decide +kernel
theorem dX12_raise_54 : decode cX12_raise 54 = .ok (.iaload, 1) := by decide +kernel
theorem dX12_raise_55 : decode cX12_raise 55 = .ok (.iload_n 1, 1) := by decide +kernel
theorem dX12_raise_56 : decode cX12_raise 56 = .ok (.invokevirtual 603, 3) := by decide +kernel
theorem dX12_raise_59 : decode cX12_raise 59 = .ok (.aload_n 0, 1) := by decide +kernel
theorem dX12_raise_60 : decode cX12_raise 60 = .ok (.aload_n 0, 1) := by decide +kernel
theorem dX12_raise_61 : decode cX12_raise 61 = .ok (.getfield 40, 3) := by decide +kernel
theorem dX12_raise_64 : decode cX12_raise 64 = .ok (.iconst 2, 1) := by decide +kernel
theorem dX12_raise_65 : decode cX12_raise 65 = .ok (.iload_n 1, 1) := by decide +kernel
theorem dX12_raise_66 : decode cX12_raise 66 = .ok (.imul, 1) := by decide +kernel
theorem dX12_raise_67 : decode cX12_raise 67 = .ok (.iconst 1, 1) := by decide +kernel
theorem dX12_raise_68 : decode cX12_raise 68 = .ok (.iadd, 1) := by decide +kernel
theorem dX12_raise_69 : decode cX12_raise 69 = .ok (.iaload, 1) := by decide +kernel
theorem dX12_raise_70 : decode cX12_raise 70 = .ok (.iload_n 1, 1) := by decide +kernel
theorem dX12_raise_71 : decode cX12_raise 71 = .ok (.invokevirtual 603, 3) := by decide +kernel
theorem dX12_raise_74 : decode cX12_raise 74 = .ok (.iload_n 3, 1) := by decide +kernel
theorem dX12_raise_75 : decode cX12_raise 75 = .ok (.ireturn, 1) := by decide +kernel
theorem dX12_raise_76 : decode cX12_raise 76 = .ok (.iload_n 1, 1) := by decide +kernel
theorem dX12_raise_77 : decode cX12_raise 77 = .ok (.iconst 0, 1) := by decide +kernel
theorem dX12_raise_78 : decode cX12_raise 78 = .ok (.iconst 0, 1) := by decide +kernel
theorem dX12_raise_79 : decode cX12_raise 79 = .ok (.invokestatic 545, 3) := by decide +kernel
theorem dX12_raise_82 : decode cX12_raise 82 = .ok (.istore 4, 2) := by decide +kernel
theorem dX12_raise_84 : decode cX12_raise 84 = .ok (.iload 4, 2) := by decide +kernel
theorem dX12_raise_86 : decode cX12_raise 86 = .ok (.iload_n 1, 1) := by decide +kernel
theorem dX12_raise_87 : decode cX12_raise 87 = .ok (.iconst 2, 1) := by decide +kernel
theorem dX12_raise_88 : decode cX12_raise 88 = .ok (.iconst 0, 1) := by decide +kernel
theorem dX12_raise_89 : decode cX12_raise 89 = .ok (.invokestatic 545, 3) := by decide +kernel
theorem dX12_raise_92 : decode cX12_raise 92 = .ok (.if_icmp .ge 53, 3) := by decide +kernel
theorem dX12_raise_95 : decode cX12_raise 95 = .ok (.aload_n 0, 1) := by decide +kernel
theorem dX12_raise_96 : decode cX12_raise 96 = .ok (.sipush 130, 3) := by decide +kernel
theorem dX12_raise_99 : decode cX12_raise 99 = .ok (.iload 4, 2) := by decide +kernel
theorem dX12_raise_101 : decode cX12_raise 101 = .ok (.iadd, 1) := by decide +kernel
theorem dX12_raise_102 : decode cX12_raise 102 = .ok (.invokevirtual 539, 3) := by decide +kernel
theorem dX12_raise_105 : decode cX12_raise 105 = .ok (.aload_n 0, 1) := by decide +kernel
theorem dX12_raise_106 : decode cX12_raise 106 = .ok (.sipush 530, 3) := by decide +kernel
theorem dX12_raise_109 : decode cX12_raise 109 = .ok (.iload 4, 2) := by decide +kernel
theorem dX12_raise_111 : decode cX12_raise 111 = .ok (.iadd, 1) := by decide +kernel
theorem dX12_raise_112 : decode cX12_raise 112 = .ok (.invokevirtual 539, 3) := by decide +kernel
theorem dX12_raise_115 : decode cX12_raise 115 = .ok (.aload_n 0, 1) := by decide +kernel
theorem dX12_raise_116 : decode cX12_raise 116 = .ok (.getfield 427, 3) := by decide +kernel
theorem dX12_raise_119 : decode cX12_raise 119 = .ok (.iload 4, 2) := by decide +kernel
theorem dX12_raise_121 : decode cX12_raise 121 = .ok (.iconst 0, 1) := by decide +kernel
theorem dX12_raise_122 : decode cX12_raise 122 = .ok (.bastore, 1) := by decide +kernel
theorem dX12_raise_123 : decode cX12_raise 123 = .ok (.aload_n 0, 1) := by decide +kernel
theorem dX12_raise_124 : decode cX12_raise 124 = .ok (.getfield 433, 3) := by decide +kernel
theorem dX12_raise_127 : decode cX12_raise 127 = .ok (.iload 4, 2) := by decide +kernel
theorem dX12_raise_129 : decode cX12_raise 129 = .ok (.iconst (-1), 1) := by decide +kernel
theorem dX12_raise_130 : decode cX12_raise 130 = .ok (.iastore, 1) := by decide +kernel
theorem dX12_raise_131 : decode cX12_raise 131 = .ok (.aload_n 0, 1) := by decide +kernel
theorem dX12_raise_132 : decode cX12_raise 132 = .ok (.getfield 439, 3) := by decide +kernel
theorem dX12_raise_135 : decode cX12_raise 135 = .ok (.iload 4, 2) := by decide +kernel
theorem dX12_raise_137 : decode cX12_raise 137 = .ok (.iconst (-1), 1) := by decide +kernel
theorem dX12_raise_138 : decode cX12_raise 138 = .ok (.iastore, 1) := by decide +kernel
theorem dX12_raise_139 : decode cX12_raise 139 = .ok (.iinc 4 1, 3) := by decide +kernel
theorem dX12_raise_142 : decode cX12_raise 142 = .ok (.goto (-58), 3) := by decide +kernel
theorem dX12_raise_145 : decode cX12_raise 145 = .ok (.aload_n 0, 1) := by decide +kernel
theorem dX12_raise_146 : decode cX12_raise 146 = .ok (.aload_n 0, 1) := by decide +kernel
theorem dX12_raise_147 : decode cX12_raise 147 = .ok (.getfield 40, 3) := by decide +kernel
theorem dX12_raise_150 : decode cX12_raise 150 = .ok (.iconst 2, 1) := by decide +kernel
theorem dX12_raise_151 : decode cX12_raise 151 = .ok (.iload_n 1, 1) := by decide +kernel
theorem dX12_raise_152 : decode cX12_raise 152 = .ok (.imul, 1) := by decide +kernel
theorem dX12_raise_153 : decode cX12_raise 153 = .ok (.iaload, 1) := by decide +kernel
theorem dX12_raise_154 : decode cX12_raise 154 = .ok (.invokevirtual 600, 3) := by decide +kernel
theorem dX12_raise_157 : decode cX12_raise 157 = .ok (.aload_n 0, 1) := by decide +kernel
theorem dX12_raise_158 : decode cX12_raise 158 = .ok (.aload_n 0, 1) := by decide +kernel
theorem dX12_raise_159 : decode cX12_raise 159 = .ok (.getfield 40, 3) := by decide +kernel
theorem dX12_raise_162 : decode cX12_raise 162 = .ok (.iconst 2, 1) := by decide +kernel
theorem dX12_raise_163 : decode cX12_raise 163 = .ok (.iload_n 1, 1) := by decide +kernel
theorem dX12_raise_164 : decode cX12_raise 164 = .ok (.imul, 1) := by decide +kernel
theorem dX12_raise_165 : decode cX12_raise 165 = .ok (.iconst 1, 1) := by decide +kernel
theorem dX12_raise_166 : decode cX12_raise 166 = .ok (.iadd, 1) := by decide +kernel
theorem dX12_raise_167 : decode cX12_raise 167 = .ok (.iaload, 1) := by decide +kernel
theorem dX12_raise_168 : decode cX12_raise 168 = .ok (.invokevirtual 600, 3) := by decide +kernel
theorem dX12_raise_171 : decode cX12_raise 171 = .ok (.iload_n 3, 1) := by decide +kernel
theorem dX12_raise_172 : decode cX12_raise 172 = .ok (.ireturn, 1) := by decide +kernel
theorem dX12_rethink_0 : decode cX12_rethink 0 = .ok (.iconst 0, 1) := by decide +kernel
theorem dX12_rethink_1 : decode cX12_rethink 1 = .ok (.istore_n 1, 1) := by decide +kernel
theorem dX12_rethink_2 : decode cX12_rethink 2 = .ok (.iload_n 1, 1) := by decide +kernel
theorem dX12_rethink_3 : decode cX12_rethink 3 = .ok (.aload_n 0, 1) := by decide +kernel
theorem dX12_rethink_4 : decode cX12_rethink 4 = .ok (.getfield 34, 3) := by decide +kernel
theorem dX12_rethink_7 : decode cX12_rethink 7 = .ok (.if_icmp .ge 14, 3) := by decide +kernel
theorem dX12_rethink_10 : decode cX12_rethink 10 = .ok (.aload_n 0, 1) := by decide +kernel
theorem dX12_rethink_11 : decode cX12_rethink 11 = .ok (.iload_n 1, 1) := by decide +kernel
theorem dX12_rethink_12 : decode cX12_rethink 12 = .ok (.invokevirtual 600, 3) := by decide +kernel
theorem dX12_rethink_15 : decode cX12_rethink 15 = .ok (.iinc 1 1, 3) := by decide +kernel
theorem dX12_rethink_18 : decode cX12_rethink 18 = .ok (.goto (-16), 3) := by decide +kernel
theorem dX12_rethink_21 : decode cX12_rethink 21 = .ok (.iconst 0, 1) := by decide +kernel
theorem dX12_rethink_22 : decode cX12_rethink 22 = .ok (.istore_n 1, 1) := by decide +kernel
theorem dX12_rethink_23 : decode cX12_rethink 23 = .ok (.iload_n 1, 1) := by decide +kernel
theorem dX12_rethink_24 : decode cX12_rethink 24 = .ok (.aload_n 0, 1) := by decide +kernel
theorem dX12_rethink_25 : decode cX12_rethink 25 = .ok (.getfield 34, 3) := by decide +kernel
theorem dX12_rethink_28 : decode cX12_rethink 28 = .ok (.if_icmp .ge 40, 3) := by decide +kernel
theorem dX12_rethink_31 : decode cX12_rethink 31 = .ok (.iconst 0, 1) := by decide +kernel
theorem dX12_rethink_32 : decode cX12_rethink 32 = .ok (.istore_n 2, 1) := by decide +kernel
theorem dX12_rethink_33 : decode cX12_rethink 33 = .ok (.iload_n 2, 1) := by decide +kernel
theorem dX12_rethink_34 : decode cX12_rethink 34 = .ok (.aload_n 0, 1) := by decide +kernel
theorem dX12_rethink_35 : decode cX12_rethink 35 = .ok (.getfield 37, 3) := by decide +kernel
theorem dX12_rethink_38 : decode cX12_rethink 38 = .ok (.if_icmp .ge 24, 3) := by decide +kernel
theorem dX12_rethink_41 : decode cX12_rethink 41 = .ok (.aload_n 0, 1) := by decide +kernel
theorem dX12_rethink_42 : decode cX12_rethink 42 = .ok (.iload_n 2, 1) := by decide +kernel
theorem dX12_rethink_43 : decode cX12_rethink 43 = .ok (.iload_n 1, 1) := by decide +kernel
theorem dX12_rethink_44 : decode cX12_rethink 44 = .ok (.invokevirtual 562, 3) := by decide +kernel
theorem dX12_rethink_47 : decode cX12_rethink 47 = .ok (.ifCond .eq 9, 3) := by decide +kernel
theorem dX12_rethink_50 : decode cX12_rethink 50 = .ok (.aload_n 0, 1) := by decide +kernel
theorem dX12_rethink_51 : decode cX12_rethink 51 = .ok (.iload_n 1, 1) := by decide +kernel
theorem dX12_rethink_52 : decode cX12_rethink 52 = .ok (.iload_n 2, 1) := by decide +kernel
theorem dX12_rethink_53 : decode cX12_rethink 53 = .ok (.invokevirtual 603, 3) := by decide +kernel
theorem dX12_rethink_56 : decode cX12_rethink 56 = .ok (.iinc 2 1, 3) := by decide +kernel
theorem dX12_rethink_59 : decode cX12_rethink 59 = .ok (.goto (-26), 3) := by decide +kernel
theorem dX12_rethink_62 : decode cX12_rethink 62 = .ok (.iinc 1 1, 3) := by decide +kernel
theorem dX12_rethink_65 : decode cX12_rethink 65 = .ok (.goto (-42), 3) := by decide +kernel
theorem dX12_rethink_68 : decode cX12_rethink 68 = .ok (.return_, 1) := by decide +kernel
theorem dX12_right_0 : decode cX12_right 0 = .ok (.aload_n 0, 1) := by decide +kernel
theorem dX12_right_1 : decode cX12_right 1 = .ok (.iload_n 1, 1) := by decide +kernel
theorem dX12_right_2 : decode cX12_right 2 = .ok (.invokevirtual 92, 3) := by decide +kernel
theorem dX12_right_5 : decode cX12_right 5 = .ok (.ifCond .eq 43, 3) := by decide +kernel
theorem dX12_right_8 : decode cX12_right 8 = .ok (.aload_n 0, 1) := by decide +kernel
theorem dX12_right_9 : decode cX12_right 9 = .ok (.iload_n 3, 1) := by decide +kernel
theorem dX12_right_10 : decode cX12_right 10 = .ok (.invokevirtual 49, 3) := by decide +kernel
theorem dX12_right_13 : decode cX12_right 13 = .ok (.ifCond .eq 35, 3) := by decide +kernel
theorem dX12_right_16 : decode cX12_right 16 = .ok (.iload_n 2, 1) := by decide +kernel
theorem dX12_right_17 : decode cX12_right 17 = .ok (.aload_n 0, 1) := by decide +kernel
theorem dX12_right_18 : decode cX12_right 18 = .ok (.getfield 26, 3) := by decide +kernel
theorem dX12_right_21 : decode cX12_right 21 = .ok (.iload_n 1, 1) := by decide +kernel
theorem dX12_right_22 : decode cX12_right 22 = .ok (.iaload, 1) := by decide +kernel
theorem dX12_right_23 : decode cX12_right 23 = .ok (.bipush 32, 2) := by decide +kernel
theorem dX12_right_25 : decode cX12_right 25 = .ok (.invokestatic 18, 3) := by decide +kernel
theorem dX12_right_28 : decode cX12_right 28 = .ok (.ifCond .eq 20, 3) := by decide +kernel
theorem dX12_right_31 : decode cX12_right 31 = .ok (.iload 4, 2) := by decide +kernel
theorem dX12_right_33 : decode cX12_right 33 = .ok (.ifCond .lt 15, 3) := by decide +kernel
theorem dX12_right_36 : decode cX12_right 36 = .ok (.iload 5, 2) := by decide +kernel
theorem dX12_right_38 : decode cX12_right 38 = .ok (.iload 4, 2) := by decide +kernel
theorem dX12_right_40 : decode cX12_right 40 = .ok (.if_icmp .le 8, 3) := by decide +kernel
theorem dX12_right_43 : decode cX12_right 43 = .ok (.iload 6, 2) := by decide +kernel
theorem dX12_right_45 : decode cX12_right 45 = .ok (.ifCond .ge 5, 3) := by decide +kernel
theorem dX12_right_48 : decode cX12_right 48 = .ok (.iconst (-1), 1) := by decide +kernel
theorem dX12_right_49 : decode cX12_right 49 = .ok (.ireturn, 1) := by decide +kernel
theorem dX12_right_50 : decode cX12_right 50 = .ok (.aload_n 0, 1) := by decide +kernel
theorem dX12_right_51 : decode cX12_right 51 = .ok (.getfield 95, 3) := by decide +kernel
theorem dX12_right_54 : decode cX12_right 54 = .ok (.bipush 30, 2) := by decide +kernel
theorem dX12_right_56 : decode cX12_right 56 = .ok (.if_icmp .ne 6, 3) := by decide +kernel
theorem dX12_right_59 : decode cX12_right 59 = .ok (.bipush (-3), 2) := by decide +kernel
theorem dX12_right_61 : decode cX12_right 61 = .ok (.ireturn, 1) := by decide +kernel
theorem dX12_right_62 : decode cX12_right 62 = .ok (.aload_n 0, 1) := by decide +kernel
theorem dX12_right_63 : decode cX12_right 63 = .ok (.getfield 98, 3) := by decide +kernel
theorem dX12_right_66 : decode cX12_right 66 = .ok (.aload_n 0, 1) := by decide +kernel
theorem dX12_right_67 : decode cX12_right 67 = .ok (.getfield 95, 3) := by decide +kernel
theorem dX12_right_70 : decode cX12_right 70 = .ok (.iload_n 1, 1) := by decide +kernel
theorem dX12_right_71 : decode cX12_right 71 = .ok (.iastore, 1) := by decide +kernel
theorem dX12_right_72 : decode cX12_right 72 = .ok (.aload_n 0, 1) := by decide +kernel
theorem dX12_right_73 : decode cX12_right 73 = .ok (.getfield 101, 3) := by decide +kernel
theorem dX12_right_76 : decode cX12_right 76 = .ok (.aload_n 0, 1) := by decide +kernel
theorem dX12_right_77 : decode cX12_right 77 = .ok (.getfield 95, 3) := by decide +kernel
theorem dX12_right_80 : decode cX12_right 80 = .ok (.iload_n 2, 1) := by decide +kernel
theorem dX12_right_81 : decode cX12_right 81 = .ok (.iastore, 1) := by decide +kernel
theorem dX12_right_82 : decode cX12_right 82 = .ok (.aload_n 0, 1) := by decide +kernel
theorem dX12_right_83 : decode cX12_right 83 = .ok (.getfield 104, 3) := by decide +kernel
theorem dX12_right_86 : decode cX12_right 86 = .ok (.aload_n 0, 1) := by decide +kernel
theorem dX12_right_87 : decode cX12_right 87 = .ok (.getfield 95, 3) := by decide +kernel
theorem dX12_right_90 : decode cX12_right 90 = .ok (.iload_n 3, 1) := by decide +kernel
theorem dX12_right_91 : decode cX12_right 91 = .ok (.iastore, 1) := by decide +kernel
theorem dX12_right_92 : decode cX12_right 92 = .ok (.aload_n 0, 1) := by decide +kernel
theorem dX12_right_93 : decode cX12_right 93 = .ok (.getfield 107, 3) := by decide +kernel
theorem dX12_right_96 : decode cX12_right 96 = .ok (.aload_n 0, 1) := by decide +kernel
theorem dX12_right_97 : decode cX12_right 97 = .ok (.getfield 95, 3) := by decide +kernel
theorem dX12_right_100 : decode cX12_right 100 = .ok (.iload 4, 2) := by decide +kernel
theorem dX12_right_102 : decode cX12_right 102 = .ok (.iastore, 1) := by decide +kernel
theorem dX12_right_103 : decode cX12_right 103 = .ok (.aload_n 0, 1) := by decide +kernel
theorem dX12_right_104 : decode cX12_right 104 = .ok (.getfield 110, 3) := by decide +kernel
theorem dX12_right_107 : decode cX12_right 107 = .ok (.aload_n 0, 1) := by decide +kernel
theorem dX12_right_108 : decode cX12_right 108 = .ok (.getfield 95, 3) := by decide +kernel
theorem dX12_right_111 : decode cX12_right 111 = .ok (.iload 5, 2) := by decide +kernel
theorem dX12_right_113 : decode cX12_right 113 = .ok (.iastore, 1) := by decide +kernel
theorem dX12_right_114 : decode cX12_right 114 = .ok (.aload_n 0, 1) := by decide +kernel
theorem dX12_right_115 : decode cX12_right 115 = .ok (.getfield 113, 3) := by decide +kernel
theorem dX12_right_118 : decode cX12_right 118 = .ok (.aload_n 0, 1) := by decide +kernel
theorem dX12_right_119 : decode cX12_right 119 = .ok (.getfield 95, 3) := by decide +kernel
theorem dX12_right_122 : decode cX12_right 122 = .ok (.iload 6, 2) := by decide +kernel
theorem dX12_right_124 : decode cX12_right 124 = .ok (.iastore, 1) := by decide +kernel
theorem dX12_right_125 : decode cX12_right 125 = .ok (.aload_n 0, 1) := by decide +kernel
theorem dX12_right_126 : decode cX12_right 126 = .ok (.getfield 116, 3) := by decide +kernel
theorem dX12_right_129 : decode cX12_right 129 = .ok (.aload_n 0, 1) := by decide +kernel
theorem dX12_right_130 : decode cX12_right 130 = .ok (.getfield 95, 3) := by decide +kernel
theorem dX12_right_133 : decode cX12_right 133 = .ok (.ldc 29, 2) := by decide +kernel
theorem dX12_right_135 : decode cX12_right 135 = .ok (.iastore, 1) := by decide +kernel
theorem dX12_right_136 : decode cX12_right 136 = .ok (.aload_n 0, 1) := by decide +kernel
theorem dX12_right_137 : decode cX12_right 137 = .ok (.dup, 1) := by decide +kernel
theorem dX12_right_138 : decode cX12_right 138 = .ok (.getfield 95, 3) := by decide +kernel
theorem dX12_right_141 : decode cX12_right 141 = .ok (.iconst 1, 1) := by decide +kernel
theorem dX12_right_142 : decode cX12_right 142 = .ok (.iadd, 1) := by decide +kernel
theorem dX12_right_143 : decode cX12_right 143 = .ok (.putfield 95, 3) := by decide +kernel
theorem dX12_right_146 : decode cX12_right 146 = .ok (.aload_n 0, 1) := by decide +kernel
theorem dX12_right_147 : decode cX12_right 147 = .ok (.iconst 0, 1) := by decide +kernel
theorem dX12_right_148 : decode cX12_right 148 = .ok (.putfield 119, 3) := by decide +kernel
theorem dX12_right_151 : decode cX12_right 151 = .ok (.aload_n 0, 1) := by decide +kernel
theorem dX12_right_152 : decode cX12_right 152 = .ok (.invokevirtual 88, 3) := by decide +kernel
theorem dX12_right_155 : decode cX12_right 155 = .ok (.aload_n 0, 1) := by decide +kernel
theorem dX12_right_156 : decode cX12_right 156 = .ok (.getfield 95, 3) := by decide +kernel
theorem dX12_right_159 : decode cX12_right 159 = .ok (.iconst 1, 1) := by decide +kernel
theorem dX12_right_160 : decode cX12_right 160 = .ok (.isub, 1) := by decide +kernel
theorem dX12_right_161 : decode cX12_right 161 = .ok (.ireturn, 1) := by decide +kernel
theorem dX12_say_0 : decode cX12_say 0 = .ok (.aload_n 0, 1) := by decide +kernel
theorem dX12_say_1 : decode cX12_say 1 = .ok (.iload_n 2, 1) := by decide +kernel
theorem dX12_say_2 : decode cX12_say 2 = .ok (.iload_n 1, 1) := by decide +kernel
theorem dX12_say_3 : decode cX12_say 3 = .ok (.invokevirtual 542, 3) := by decide +kernel
theorem dX12_say_6 : decode cX12_say 6 = .ok (.istore 4, 2) := by decide +kernel
theorem dX12_say_8 : decode cX12_say 8 = .ok (.iload_n 2, 1) := by decide +kernel
theorem dX12_say_9 : decode cX12_say 9 = .ok (.iload 4, 2) := by decide +kernel
theorem dX12_say_11 : decode cX12_say 11 = .ok (.iload_n 3, 1) := by decide +kernel
theorem dX12_say_12 : decode cX12_say 12 = .ok (.invokestatic 545, 3) := by decide +kernel
theorem dX12_say_15 : decode cX12_say 15 = .ok (.istore 5, 2) := by decide +kernel
theorem dX12_say_17 : decode cX12_say 17 = .ok (.bipush 10, 2) := by decide +kernel
theorem dX12_say_19 : decode cX12_say 19 = .ok (.iload_n 1, 1) := by decide +kernel
theorem dX12_say_20 : decode cX12_say 20 = .ok (.imul, 1) := by decide +kernel
theorem dX12_say_21 : decode cX12_say 21 = .ok (.iload_n 3, 1) := by decide +kernel
theorem dX12_say_22 : decode cX12_say 22 = .ok (.iadd, 1) := by decide +kernel
theorem dX12_say_23 : decode cX12_say 23 = .ok (.istore 6, 2) := by decide +kernel
theorem dX12_say_25 : decode cX12_say 25 = .ok (.aload_n 0, 1) := by decide +kernel
theorem dX12_say_26 : decode cX12_say 26 = .ok (.iconst 2, 1) := by decide +kernel
theorem dX12_say_27 : decode cX12_say 27 = .ok (.invokevirtual 539, 3) := by decide +kernel
theorem dX12_say_30 : decode cX12_say 30 = .ok (.aload_n 0, 1) := by decide +kernel
theorem dX12_say_31 : decode cX12_say 31 = .ok (.getfield 445, 3) := by decide +kernel
theorem dX12_say_34 : decode cX12_say 34 = .ok (.iload 6, 2) := by decide +kernel
theorem dX12_say_36 : decode cX12_say 36 = .ok (.iaload, 1) := by decide +kernel
theorem dX12_say_37 : decode cX12_say 37 = .ok (.ldc 29, 2) := by decide +kernel
theorem dX12_say_39 : decode cX12_say 39 = .ok (.if_icmp .eq 98, 3) := by decide +kernel
theorem dX12_say_42 : decode cX12_say 42 = .ok (.aload_n 0, 1) := by decide +kernel
theorem dX12_say_43 : decode cX12_say 43 = .ok (.getfield 445, 3) := by decide +kernel
theorem dX12_say_46 : decode cX12_say 46 = .ok (.iload 6, 2) := by decide +kernel
theorem dX12_say_48 : decode cX12_say 48 = .ok (.iaload, 1) := by decide +kernel
theorem dX12_say_49 : decode cX12_say 49 = .ok (.iload_n 2, 1) := by decide +kernel
theorem dX12_say_50 : decode cX12_say 50 = .ok (.if_icmp .eq 87, 3) := by decide +kernel
theorem dX12_say_53 : decode cX12_say 53 = .ok (.aload_n 0, 1) := by decide +kernel
theorem dX12_say_54 : decode cX12_say 54 = .ok (.bipush 30, 2) := by decide +kernel
theorem dX12_say_56 : decode cX12_say 56 = .ok (.iload 6, 2) := by decide +kernel
theorem dX12_say_58 : decode cX12_say 58 = .ok (.iadd, 1) := by decide +kernel
theorem dX12_say_59 : decode cX12_say 59 = .ok (.iconst 2, 1) := by decide +kernel
theorem dX12_say_60 : decode cX12_say 60 = .ok (.invokevirtual 559, 3) := by decide +kernel
theorem dX12_say_63 : decode cX12_say 63 = .ok (.aload_n 0, 1) := by decide +kernel
theorem dX12_say_64 : decode cX12_say 64 = .ok (.getfield 148, 3) := by decide +kernel
theorem dX12_say_67 : decode cX12_say 67 = .ok (.bipush 81, 2) := by decide +kernel
theorem dX12_say_69 : decode cX12_say 69 = .ok (.bipush 100, 2) := by decide +kernel
theorem dX12_say_71 : decode cX12_say 71 = .ok (.iastore, 1) := by decide +kernel
theorem dX12_say_72 : decode cX12_say 72 = .ok (.aload_n 0, 1) := by decide +kernel
theorem dX12_say_73 : decode cX12_say 73 = .ok (.iconst 2, 1) := by decide +kernel
theorem dX12_say_74 : decode cX12_say 74 = .ok (.iload_n 1, 1) := by decide +kernel
theorem dX12_say_75 : decode cX12_say 75 = .ok (.invokevirtual 408, 3) := by decide +kernel
theorem dX12_say_78 : decode cX12_say 78 = .ok (.ifCond .eq 37, 3) := by decide +kernel
theorem dX12_say_81 : decode cX12_say 81 = .ok (.aload_n 0, 1) := by decide +kernel
theorem dX12_say_82 : decode cX12_say 82 = .ok (.aload_n 0, 1) := by decide +kernel
theorem dX12_say_83 : decode cX12_say 83 = .ok (.getfield 63, 3) := by decide +kernel
theorem dX12_say_86 : decode cX12_say 86 = .ok (.iconst 4, 1) := by decide +kernel
theorem dX12_say_87 : decode cX12_say 87 = .ok (.iload_n 2, 1) := by decide +kernel
theorem dX12_say_88 : decode cX12_say 88 = .ok (.imul, 1) := by decide +kernel
theorem dX12_say_89 : decode cX12_say 89 = .ok (.iconst 2, 1) := by decide +kernel
theorem dX12_say_90 : decode cX12_say 90 = .ok (.iload 4, 2) := by decide +kernel
theorem dX12_say_92 : decode cX12_say 92 = .ok (.imul, 1) := by decide +kernel
theorem dX12_say_93 : decode cX12_say 93 = .ok (.iadd, 1) := by decide +kernel
theorem dX12_say_94 : decode cX12_say 94 = .ok (.iconst 1, 1) := by decide +kernel
theorem dX12_say_95 : decode cX12_say 95 = .ok (.iadd, 1) := by decide +kernel
theorem dX12_say_96 : decode cX12_say 96 = .ok (.iaload, 1) := by decide +kernel
theorem dX12_say_97 : decode cX12_say 97 = .ok (.iconst 2, 1) := by decide +kernel
theorem dX12_say_98 : decode cX12_say 98 = .ok (.iload_n 1, 1) := by decide +kernel
theorem dX12_say_99 : decode cX12_say 99 = .ok (.aload_n 0, 1) := by decide +kernel
theorem dX12_say_100 : decode cX12_say 100 = .ok (.iload_n 2, 1) := by decide +kernel
theorem dX12_say_101 : decode cX12_say 101 = .ok (.iload_n 1, 1) := by decide +kernel
theorem dX12_say_102 : decode cX12_say 102 = .ok (.invokevirtual 553, 3) := by decide +kernel
theorem dX12_say_105 : decode cX12_say 105 = .ok (.invokevirtual 414, 3) := by decide +kernel
theorem dX12_say_108 : decode cX12_say 108 = .ok (.ifCond .eq 7, 3) := by decide +kernel
theorem dX12_say_111 : decode cX12_say 111 = .ok (.iconst 1, 1) := by decide +kernel
theorem dX12_say_112 : decode cX12_say 112 = .ok (.goto 4, 3) := by decide +kernel
theorem dX12_say_115 : decode cX12_say 115 = .ok (.iconst 0, 1) := by decide +kernel
theorem dX12_say_116 : decode cX12_say 116 = .ok (.istore 7, 2) := by decide +kernel
theorem dX12_say_118 : decode cX12_say 118 = .ok (.aload_n 0, 1) := by decide +kernel
theorem dX12_say_119 : decode cX12_say 119 = .ok (.getfield 148, 3) := by decide +kernel
theorem dX12_say_122 : decode cX12_say 122 = .ok (.bipush 81, 2) := by decide +kernel
theorem dX12_say_124 : decode cX12_say 124 = .ok (.bipush 100, 2) := by decide +kernel
theorem dX12_say_126 : decode cX12_say 126 = .ok (.iastore, 1) := by decide +kernel
theorem dX12_say_127 : decode cX12_say 127 = .ok (.iload 7, 2) := by decide +kernel
theorem dX12_say_129 : decode cX12_say 129 = .ok (.ifCond .ne 8, 3) := by decide +kernel
theorem dX12_say_132 : decode cX12_say 132 = .ok (.aload_n 0, 1) := by decide +kernel
theorem dX12_say_133 : decode cX12_say 133 = .ok (.iconst 2, 1) := by decide +kernel
theorem dX12_say_134 : decode cX12_say 134 = .ok (.invokevirtual 539, 3) := by decide +kernel
theorem dX12_say_137 : decode cX12_say 137 = .ok (.aload_n 0, 1) := by decide +kernel
theorem dX12_say_138 : decode cX12_say 138 = .ok (.iconst 2, 1) := by decide +kernel
theorem dX12_say_139 : decode cX12_say 139 = .ok (.sipush 530, 3) := by decide +kernel
theorem dX12_say_142 : decode cX12_say 142 = .ok (.iload 5, 2) := by decide +kernel
theorem dX12_say_144 : decode cX12_say 144 = .ok (.iadd, 1) := by decide +kernel
theorem dX12_say_145 : decode cX12_say 145 = .ok (.invokevirtual 584, 3) := by decide +kernel
theorem dX12_say_148 : decode cX12_say 148 = .ok (.ifCond .eq 4, 3) := by decide +kernel
theorem dX12_say_151 : decode cX12_say 151 = .ok (.return_, 1) := by decide +kernel
theorem dX12_say_152 : decode cX12_say 152 = .ok (.aload_n 0, 1) := by decide +kernel
theorem dX12_say_153 : decode cX12_say 153 = .ok (.getfield 427, 3) := by decide +kernel
theorem dX12_say_156 : decode cX12_say 156 = .ok (.iload 5, 2) := by decide +kernel
theorem dX12_say_158 : decode cX12_say 158 = .ok (.baload, 1) := by decide +kernel
theorem dX12_say_159 : decode cX12_say 159 = .ok (.ifCond .eq 77, 3) := by decide +kernel
theorem dX12_say_162 : decode cX12_say 162 = .ok (.aload_n 0, 1) := by decide +kernel
theorem dX12_say_163 : decode cX12_say 163 = .ok (.getfield 591, 3) := by decide +kernel
theorem dX12_say_166 : decode cX12_say 166 = .ok (.aload_n 0, 1) := by decide +kernel
theorem dX12_say_167 : decode cX12_say 167 = .ok (.getfield 430, 3) := by decide +kernel
theorem dX12_say_170 : decode cX12_say 170 = .ok (.iload 5, 2) := by decide +kernel
theorem dX12_say_172 : decode cX12_say 172 = .ok (.iaload, 1) := by decide +kernel
theorem dX12_say_173 : decode cX12_say 173 = .ok (.aload_n 0, 1) := by decide +kernel
theorem dX12_say_174 : decode cX12_say 174 = .ok (.getfield 60, 3) := by decide +kernel
theorem dX12_say_177 : decode cX12_say 177 = .ok (.iload_n 2, 1) := by decide +kernel
theorem dX12_say_178 : decode cX12_say 178 = .ok (.iaload, 1) := by decide +kernel
theorem dX12_say_179 : decode cX12_say 179 = .ok (.iadd, 1) := by decide +kernel
theorem dX12_say_180 : decode cX12_say 180 = .ok (.if_icmp .ge 56, 3) := by decide +kernel
theorem dX12_say_183 : decode cX12_say 183 = .ok (.aload_n 0, 1) := by decide +kernel
theorem dX12_say_184 : decode cX12_say 184 = .ok (.getfield 439, 3) := by decide +kernel
theorem dX12_say_187 : decode cX12_say 187 = .ok (.iload 5, 2) := by decide +kernel
theorem dX12_say_189 : decode cX12_say 189 = .ok (.iaload, 1) := by decide +kernel
theorem dX12_say_190 : decode cX12_say 190 = .ok (.ifCond .ge 45, 3) := by decide +kernel
theorem dX12_say_193 : decode cX12_say 193 = .ok (.aload_n 0, 1) := by decide +kernel
theorem dX12_say_194 : decode cX12_say 194 = .ok (.getfield 439, 3) := by decide +kernel
theorem dX12_say_197 : decode cX12_say 197 = .ok (.iload 5, 2) := by decide +kernel
theorem dX12_say_199 : decode cX12_say 199 = .ok (.aload_n 0, 1) := by decide +kernel
theorem dX12_say_200 : decode cX12_say 200 = .ok (.getfield 430, 3) := by decide +kernel
theorem dX12_say_203 : decode cX12_say 203 = .ok (.iload 5, 2) := by decide +kernel
theorem dX12_say_205 : decode cX12_say 205 = .ok (.iaload, 1) := by decide +kernel
theorem dX12_say_206 : decode cX12_say 206 = .ok (.aload_n 0, 1) := by decide +kernel
theorem dX12_say_207 : decode cX12_say 207 = .ok (.getfield 60, 3) := by decide +kernel
theorem dX12_say_210 : decode cX12_say 210 = .ok (.iload_n 2, 1) := by decide +kernel
theorem dX12_say_211 : decode cX12_say 211 = .ok (.iaload, 1) := by decide +kernel
theorem dX12_say_212 : decode cX12_say 212 = .ok (.iadd, 1) := by decide +kernel
theorem dX12_say_213 : decode cX12_say 213 = .ok (.iastore, 1) := by decide +kernel
theorem dX12_say_214 : decode cX12_say 214 = .ok (.aload_n 0, 1) := by decide +kernel
theorem dX12_say_215 : decode cX12_say 215 = .ok (.getfield 442, 3) := by decide +kernel
theorem dX12_say_218 : decode cX12_say 218 = .ok (.iload 5, 2) := by decide +kernel
theorem dX12_say_220 : decode cX12_say 220 = .ok (.aload_n 0, 1) := by decide +kernel
theorem dX12_say_221 : decode cX12_say 221 = .ok (.getfield 594, 3) := by decide +kernel
theorem dX12_say_224 : decode cX12_say 224 = .ok (.iastore, 1) := by decide +kernel
theorem dX12_say_225 : decode cX12_say 225 = .ok (.aload_n 0, 1) := by decide +kernel
theorem dX12_say_226 : decode cX12_say 226 = .ok (.dup, 1) := by decide +kernel
theorem dX12_say_227 : decode cX12_say 227 = .ok (.getfield 594, 3) := by decide +kernel
theorem dX12_say_230 : decode cX12_say 230 = .ok (.iconst 1, 1) := by decide +kernel
theorem dX12_say_231 : decode cX12_say 231 = .ok (.iadd, 1) := by decide +kernel
theorem dX12_say_232 : decode cX12_say 232 = .ok (.putfield 594, 3) := by decide +kernel
theorem dX12_say_235 : decode cX12_say 235 = .ok (.return_, 1) := by decide +kernel
theorem dX12_say_236 : decode cX12_say 236 = .ok (.aload_n 0, 1) := by decide +kernel
theorem dX12_say_237 : decode cX12_say 237 = .ok (.iconst 2, 1) := by decide +kernel
theorem dX12_say_238 : decode cX12_say 238 = .ok (.sipush 530, 3) := by decide +kernel
theorem dX12_say_241 : decode cX12_say 241 = .ok (.iload 5, 2) := by decide +kernel
theorem dX12_say_243 : decode cX12_say 243 = .ok (.iadd, 1) := by decide +kernel
theorem dX12_say_244 : decode cX12_say 244 = .ok (.invokevirtual 559, 3) := by decide +kernel
theorem dX12_say_247 : decode cX12_say 247 = .ok (.aload_n 0, 1) := by decide +kernel
theorem dX12_say_248 : decode cX12_say 248 = .ok (.getfield 427, 3) := by decide +kernel
theorem dX12_say_251 : decode cX12_say 251 = .ok (.iload 5, 2) := by decide +kernel
theorem dX12_say_253 : decode cX12_say 253 = .ok (.iconst 1, 1) := by decide +kernel
theorem dX12_say_254 : decode cX12_say 254 = .ok (.bastore, 1) := by decide +kernel
theorem dX12_say_255 : decode cX12_say 255 = .ok (.aload_n 0, 1) := by decide +kernel
theorem dX12_say_256 : decode cX12_say 256 = .ok (.getfield 430, 3) := by decide +kernel
theorem dX12_say_259 : decode cX12_say 259 = .ok (.iload 5, 2) := by decide +kernel
theorem dX12_say_261 : decode cX12_say 261 = .ok (.aload_n 0, 1) := by decide +kernel
theorem dX12_say_262 : decode cX12_say 262 = .ok (.getfield 591, 3) := by decide +kernel
theorem dX12_say_265 : decode cX12_say 265 = .ok (.iastore, 1) := by decide +kernel
theorem dX12_say_266 : decode cX12_say 266 = .ok (.aload_n 0, 1) := by decide +kernel
theorem dX12_say_267 : decode cX12_say 267 = .ok (.iconst 2, 1) := by decide +kernel
theorem dX12_say_268 : decode cX12_say 268 = .ok (.sipush 930, 3) := by decide +kernel
theorem dX12_say_271 : decode cX12_say 271 = .ok (.iload 5, 2) := by decide +kernel
theorem dX12_say_273 : decode cX12_say 273 = .ok (.iadd, 1) := by decide +kernel
theorem dX12_say_274 : decode cX12_say 274 = .ok (.invokevirtual 559, 3) := by decide +kernel
theorem dX12_say_277 : decode cX12_say 277 = .ok (.aload_n 0, 1) := by decide +kernel
theorem dX12_say_278 : decode cX12_say 278 = .ok (.getfield 433, 3) := by decide +kernel
theorem dX12_say_281 : decode cX12_say 281 = .ok (.iload 5, 2) := by decide +kernel
theorem dX12_say_283 : decode cX12_say 283 = .ok (.aload_n 0, 1) := by decide +kernel
theorem dX12_say_284 : decode cX12_say 284 = .ok (.getfield 591, 3) := by decide +kernel
theorem dX12_say_287 : decode cX12_say 287 = .ok (.aload_n 0, 1) := by decide +kernel
theorem dX12_say_288 : decode cX12_say 288 = .ok (.getfield 57, 3) := by decide +kernel
theorem dX12_say_291 : decode cX12_say 291 = .ok (.iload_n 2, 1) := by decide +kernel
theorem dX12_say_292 : decode cX12_say 292 = .ok (.iaload, 1) := by decide +kernel
theorem dX12_say_293 : decode cX12_say 293 = .ok (.iadd, 1) := by decide +kernel
theorem dX12_say_294 : decode cX12_say 294 = .ok (.iastore, 1) := by decide +kernel
theorem dX12_say_295 : decode cX12_say 295 = .ok (.aload_n 0, 1) := by decide +kernel
theorem dX12_say_296 : decode cX12_say 296 = .ok (.getfield 436, 3) := by decide +kernel
theorem dX12_say_299 : decode cX12_say 299 = .ok (.iload 5, 2) := by decide +kernel
theorem dX12_say_301 : decode cX12_say 301 = .ok (.aload_n 0, 1) := by decide +kernel
theorem dX12_say_302 : decode cX12_say 302 = .ok (.getfield 594, 3) := by decide +kernel
theorem dX12_say_305 : decode cX12_say 305 = .ok (.iastore, 1) := by decide +kernel
theorem dX12_say_306 : decode cX12_say 306 = .ok (.aload_n 0, 1) := by decide +kernel
theorem dX12_say_307 : decode cX12_say 307 = .ok (.dup, 1) := by decide +kernel
theorem dX12_say_308 : decode cX12_say 308 = .ok (.getfield 594, 3) := by decide +kernel
theorem dX12_say_311 : decode cX12_say 311 = .ok (.iconst 1, 1) := by decide +kernel
theorem dX12_say_312 : decode cX12_say 312 = .ok (.iadd, 1) := by decide +kernel
theorem dX12_say_313 : decode cX12_say 313 = .ok (.putfield 594, 3) := by decide +kernel
theorem dX12_say_316 : decode cX12_say 316 = .ok (.return_, 1) := by decide +kernel
theorem dX12_sayAll_0 : decode cX12_sayAll 0 = .ok (.iconst 0, 1) := by decide +kernel
theorem dX12_sayAll_1 : decode cX12_sayAll 1 = .ok (.istore_n 3, 1) := by decide +kernel
theorem dX12_sayAll_2 : decode cX12_sayAll 2 = .ok (.iload_n 3, 1) := by decide +kernel
theorem dX12_sayAll_3 : decode cX12_sayAll 3 = .ok (.aload_n 0, 1) := by decide +kernel
theorem dX12_sayAll_4 : decode cX12_sayAll 4 = .ok (.getfield 15, 3) := by decide +kernel
theorem dX12_sayAll_7 : decode cX12_sayAll 7 = .ok (.if_icmp .ge 25, 3) := by decide +kernel
theorem dX12_sayAll_10 : decode cX12_sayAll 10 = .ok (.aload_n 0, 1) := by decide +kernel
theorem dX12_sayAll_11 : decode cX12_sayAll 11 = .ok (.getfield 53, 3) := by decide +kernel
theorem dX12_sayAll_14 : decode cX12_sayAll 14 = .ok (.iload_n 2, 1) := by decide +kernel
theorem dX12_sayAll_15 : decode cX12_sayAll 15 = .ok (.baload, 1) := by decide +kernel
theorem dX12_sayAll_16 : decode cX12_sayAll 16 = .ok (.ifCond .eq 16, 3) := by decide +kernel
theorem dX12_sayAll_19 : decode cX12_sayAll 19 = .ok (.aload_n 0, 1) := by decide +kernel
theorem dX12_sayAll_20 : decode cX12_sayAll 20 = .ok (.iload_n 1, 1) := by decide +kernel
theorem dX12_sayAll_21 : decode cX12_sayAll 21 = .ok (.iload_n 2, 1) := by decide +kernel
theorem dX12_sayAll_22 : decode cX12_sayAll 22 = .ok (.iload_n 3, 1) := by decide +kernel
theorem dX12_sayAll_23 : decode cX12_sayAll 23 = .ok (.invokevirtual 587, 3) := by decide +kernel
theorem dX12_sayAll_26 : decode cX12_sayAll 26 = .ok (.iinc 3 1, 3) := by decide +kernel
theorem dX12_sayAll_29 : decode cX12_sayAll 29 = .ok (.goto (-27), 3) := by decide +kernel
theorem dX12_sayAll_32 : decode cX12_sayAll 32 = .ok (.return_, 1) := by decide +kernel
theorem dX12_strike_0 : decode cX12_strike 0 = .ok (.iload_n 1, 1) := by decide +kernel
theorem dX12_strike_1 : decode cX12_strike 1 = .ok (.iconst 0, 1) := by decide +kernel
theorem dX12_strike_2 : decode cX12_strike 2 = .ok (.aload_n 0, 1) := by decide +kernel
theorem dX12_strike_3 : decode cX12_strike 3 = .ok (.getfield 95, 3) := by decide +kernel
theorem dX12_strike_6 : decode cX12_strike 6 = .ok (.iconst 1, 1) := by decide +kernel
theorem dX12_strike_7 : decode cX12_strike 7 = .ok (.isub, 1) := by decide +kernel
theorem dX12_strike_8 : decode cX12_strike 8 = .ok (.invokestatic 18, 3) := by decide +kernel
theorem dX12_strike_11 : decode cX12_strike 11 = .ok (.ifCond .eq 13, 3) := by decide +kernel
theorem dX12_strike_14 : decode cX12_strike 14 = .ok (.iload_n 2, 1) := by decide +kernel
theorem dX12_strike_15 : decode cX12_strike 15 = .ok (.aload_n 0, 1) := by decide +kernel
theorem dX12_strike_16 : decode cX12_strike 16 = .ok (.getfield 113, 3) := by decide +kernel
theorem dX12_strike_19 : decode cX12_strike 19 = .ok (.iload_n 1, 1) := by decide +kernel
theorem dX12_strike_20 : decode cX12_strike 20 = .ok (.iaload, 1) := by decide +kernel
theorem dX12_strike_21 : decode cX12_strike 21 = .ok (.if_icmp .ge 5, 3) := by decide +kernel
theorem dX12_strike_24 : decode cX12_strike 24 = .ok (.iconst (-1), 1) := by decide +kernel
theorem dX12_strike_25 : decode cX12_strike 25 = .ok (.ireturn, 1) := by decide +kernel
theorem dX12_strike_26 : decode cX12_strike 26 = .ok (.aload_n 0, 1) := by decide +kernel
theorem dX12_strike_27 : decode cX12_strike 27 = .ok (.getfield 116, 3) := by decide +kernel
theorem dX12_strike_30 : decode cX12_strike 30 = .ok (.iload_n 1, 1) := by decide +kernel
theorem dX12_strike_31 : decode cX12_strike 31 = .ok (.iaload, 1) := by decide +kernel
theorem dX12_strike_32 : decode cX12_strike 32 = .ok (.ldc 29, 2) := by decide +kernel
theorem dX12_strike_34 : decode cX12_strike 34 = .ok (.if_icmp .eq 6, 3) := by decide +kernel
theorem dX12_strike_37 : decode cX12_strike 37 = .ok (.bipush (-2), 2) := by decide +kernel
theorem dX12_strike_39 : decode cX12_strike 39 = .ok (.ireturn, 1) := by decide +kernel
theorem dX12_strike_40 : decode cX12_strike 40 = .ok (.aload_n 0, 1) := by decide +kernel
theorem dX12_strike_41 : decode cX12_strike 41 = .ok (.getfield 116, 3) := by decide +kernel
theorem dX12_strike_44 : decode cX12_strike 44 = .ok (.iload_n 1, 1) := by decide +kernel
theorem dX12_strike_45 : decode cX12_strike 45 = .ok (.iload_n 2, 1) := by decide +kernel
theorem dX12_strike_46 : decode cX12_strike 46 = .ok (.iastore, 1) := by decide +kernel
theorem dX12_strike_47 : decode cX12_strike 47 = .ok (.aload_n 0, 1) := by decide +kernel
theorem dX12_strike_48 : decode cX12_strike 48 = .ok (.iconst 0, 1) := by decide +kernel
theorem dX12_strike_49 : decode cX12_strike 49 = .ok (.putfield 119, 3) := by decide +kernel
theorem dX12_strike_52 : decode cX12_strike 52 = .ok (.aload_n 0, 1) := by decide +kernel
theorem dX12_strike_53 : decode cX12_strike 53 = .ok (.invokevirtual 88, 3) := by decide +kernel
theorem dX12_strike_56 : decode cX12_strike 56 = .ok (.iconst 0, 1) := by decide +kernel
theorem dX12_strike_57 : decode cX12_strike 57 = .ok (.ireturn, 1) := by decide +kernel
theorem dX12_through_0 : decode cX12_through 0 = .ok (.iload_n 1, 1) := by decide +kernel
theorem dX12_through_1 : decode cX12_through 1 = .ok (.ldc 29, 2) := by decide +kernel
theorem dX12_through_3 : decode cX12_through 3 = .ok (.if_icmp .ne 5, 3) := by decide +kernel
theorem dX12_through_6 : decode cX12_through 6 = .ok (.iconst 1, 1) := by decide +kernel
theorem dX12_through_7 : decode cX12_through 7 = .ok (.ireturn, 1) := by decide +kernel
theorem dX12_through_8 : decode cX12_through 8 = .ok (.iconst 1, 1) := by decide +kernel
theorem dX12_through_9 : decode cX12_through 9 = .ok (.istore 5, 2) := by decide +kernel
theorem dX12_through_11 : decode cX12_through 11 = .ok (.iconst 0, 1) := by decide +kernel
theorem dX12_through_12 : decode cX12_through 12 = .ok (.istore 6, 2) := by decide +kernel
theorem dX12_through_14 : decode cX12_through 14 = .ok (.aload_n 0, 1) := by decide +kernel
theorem dX12_through_15 : decode cX12_through 15 = .ok (.getfield 388, 3) := by decide +kernel
theorem dX12_through_18 : decode cX12_through 18 = .ok (.iconst 0, 1) := by decide +kernel
theorem dX12_through_19 : decode cX12_through 19 = .ok (.iload_n 1, 1) := by decide +kernel
theorem dX12_through_20 : decode cX12_through 20 = .ok (.iastore, 1) := by decide +kernel
theorem dX12_through_21 : decode cX12_through 21 = .ok (.aload_n 0, 1) := by decide +kernel
theorem dX12_through_22 : decode cX12_through 22 = .ok (.getfield 391, 3) := by decide +kernel
theorem dX12_through_25 : decode cX12_through 25 = .ok (.iconst 0, 1) := by decide +kernel
theorem dX12_through_26 : decode cX12_through 26 = .ok (.iconst (-1), 1) := by decide +kernel
theorem dX12_through_27 : decode cX12_through 27 = .ok (.iastore, 1) := by decide +kernel
theorem dX12_through_28 : decode cX12_through 28 = .ok (.aload_n 0, 1) := by decide +kernel
theorem dX12_through_29 : decode cX12_through 29 = .ok (.getfield 394, 3) := by decide +kernel
theorem dX12_through_32 : decode cX12_through 32 = .ok (.iconst 0, 1) := by decide +kernel
theorem dX12_through_33 : decode cX12_through 33 = .ok (.iconst 0, 1) := by decide +kernel
theorem dX12_through_34 : decode cX12_through 34 = .ok (.iastore, 1) := by decide +kernel
theorem dX12_through_35 : decode cX12_through 35 = .ok (.iload 5, 2) := by decide +kernel
theorem dX12_through_37 : decode cX12_through 37 = .ok (.ifCond .le 492, 3) := by decide +kernel
theorem dX12_through_40 : decode cX12_through 40 = .ok (.iload 5, 2) := by decide +kernel
theorem dX12_through_42 : decode cX12_through 42 = .ok (.iconst 1, 1) := by decide +kernel
theorem dX12_through_43 : decode cX12_through 43 = .ok (.isub, 1) := by decide +kernel
theorem dX12_through_44 : decode cX12_through 44 = .ok (.istore 7, 2) := by decide +kernel
theorem dX12_through_46 : decode cX12_through 46 = .ok (.aload_n 0, 1) := by decide +kernel
theorem dX12_through_47 : decode cX12_through 47 = .ok (.getfield 388, 3) := by decide +kernel
theorem dX12_through_50 : decode cX12_through 50 = .ok (.iload 7, 2) := by decide +kernel
theorem dX12_through_52 : decode cX12_through 52 = .ok (.iaload, 1) := by decide +kernel
theorem dX12_through_53 : decode cX12_through 53 = .ok (.istore 8, 2) := by decide +kernel
theorem dX12_through_55 : decode cX12_through 55 = .ok (.aload_n 0, 1) := by decide +kernel
theorem dX12_through_56 : decode cX12_through 56 = .ok (.getfield 391, 3) := by decide +kernel
theorem dX12_through_59 : decode cX12_through 59 = .ok (.iload 7, 2) := by decide +kernel
theorem dX12_through_61 : decode cX12_through 61 = .ok (.iaload, 1) := by decide +kernel
theorem dX12_through_62 : decode cX12_through 62 = .ok (.istore 9, 2) := by decide +kernel
theorem dX12_through_64 : decode cX12_through 64 = .ok (.iload 9, 2) := by decide +kernel
theorem dX12_through_66 : decode cX12_through 66 = .ok (.ifCond .lt 28, 3) := by decide +kernel
theorem dX12_through_69 : decode cX12_through 69 = .ok (.aload_n 0, 1) := by decide +kernel
theorem dX12_through_70 : decode cX12_through 70 = .ok (.getfield 394, 3) := by decide +kernel
theorem dX12_through_73 : decode cX12_through 73 = .ok (.iload 7, 2) := by decide +kernel
theorem dX12_through_75 : decode cX12_through 75 = .ok (.iaload, 1) := by decide +kernel
theorem dX12_through_76 : decode cX12_through 76 = .ok (.aload_n 0, 1) := by decide +kernel
theorem dX12_through_77 : decode cX12_through 77 = .ok (.getfield 364, 3) := by decide +kernel
theorem dX12_through_80 : decode cX12_through 80 = .ok (.bipush 31, 2) := by decide +kernel
theorem dX12_through_82 : decode cX12_through 82 = .ok (.iload 8, 2) := by decide +kernel
theorem dX12_through_84 : decode cX12_through 84 = .ok (.imul, 1) := by decide +kernel
theorem dX12_through_85 : decode cX12_through 85 = .ok (.iload 9, 2) := by decide +kernel
theorem dX12_through_87 : decode cX12_through 87 = .ok (.iadd, 1) := by decide +kernel
theorem dX12_through_88 : decode cX12_through 88 = .ok (.iconst 1, 1) := by decide +kernel
theorem dX12_through_89 : decode cX12_through 89 = .ok (.iadd, 1) := by decide +kernel
theorem dX12_through_90 : decode cX12_through 90 = .ok (.iaload, 1) := by decide +kernel
theorem dX12_through_91 : decode cX12_through 91 = .ok (.if_icmp .ne 150, 3) := by decide +kernel
theorem dX12_through_94 : decode cX12_through 94 = .ok (.iinc 9 1, 3) := by decide +kernel
theorem dX12_through_97 : decode cX12_through 97 = .ok (.iconst 0, 1) := by decide +kernel
theorem dX12_through_98 : decode cX12_through 98 = .ok (.istore 10, 2) := by decide +kernel
theorem dX12_through_100 : decode cX12_through 100 = .ok (.iload 9, 2) := by decide +kernel
theorem dX12_through_102 : decode cX12_through 102 = .ok (.aload_n 0, 1) := by decide +kernel
theorem dX12_through_103 : decode cX12_through 103 = .ok (.getfield 358, 3) := by decide +kernel
theorem dX12_through_106 : decode cX12_through 106 = .ok (.iload 8, 2) := by decide +kernel
theorem dX12_through_108 : decode cX12_through 108 = .ok (.iaload, 1) := by decide +kernel
theorem dX12_through_109 : decode cX12_through 109 = .ok (.if_icmp .ge 89, 3) := by decide +kernel
theorem dX12_through_112 : decode cX12_through 112 = .ok (.iload 10, 2) := by decide +kernel
theorem dX12_through_114 : decode cX12_through 114 = .ok (.ifCond .ne 84, 3) := by decide +kernel
theorem dX12_through_117 : decode cX12_through 117 = .ok (.iconst 1, 1) := by decide +kernel
theorem dX12_through_118 : decode cX12_through 118 = .ok (.istore 10, 2) := by decide +kernel
theorem dX12_through_120 : decode cX12_through 120 = .ok (.aload_n 0, 1) := by decide +kernel
theorem dX12_through_121 : decode cX12_through 121 = .ok (.getfield 361, 3) := by decide +kernel
theorem dX12_through_124 : decode cX12_through 124 = .ok (.bipush 31, 2) := by decide +kernel
theorem dX12_through_126 : decode cX12_through 126 = .ok (.iload 8, 2) := by decide +kernel
theorem dX12_through_128 : decode cX12_through 128 = .ok (.imul, 1) := by decide +kernel
theorem dX12_through_129 : decode cX12_through 129 = .ok (.iload 9, 2) := by decide +kernel
theorem dX12_through_131 : decode cX12_through 131 = .ok (.iadd, 1) := by decide +kernel
theorem dX12_through_132 : decode cX12_through 132 = .ok (.iaload, 1) := by decide +kernel
theorem dX12_through_133 : decode cX12_through 133 = .ok (.istore 11, 2) := by decide +kernel
theorem dX12_through_135 : decode cX12_through 135 = .ok (.iload 11, 2) := by decide +kernel
theorem dX12_through_137 : decode cX12_through 137 = .ok (.aload_n 0, 1) := by decide +kernel
theorem dX12_through_138 : decode cX12_through 138 = .ok (.getfield 361, 3) := by decide +kernel
theorem dX12_through_141 : decode cX12_through 141 = .ok (.bipush 31, 2) := by decide +kernel
theorem dX12_through_143 : decode cX12_through 143 = .ok (.iload 8, 2) := by decide +kernel
theorem dX12_through_145 : decode cX12_through 145 = .ok (.imul, 1) := by decide +kernel
theorem dX12_through_146 : decode cX12_through 146 = .ok (.iload 9, 2) := by decide +kernel
theorem dX12_through_148 : decode cX12_through 148 = .ok (.iadd, 1) := by decide +kernel
theorem dX12_through_149 : decode cX12_through 149 = .ok (.iconst 1, 1) := by decide +kernel
theorem dX12_through_150 : decode cX12_through 150 = .ok (.iadd, 1) := by decide +kernel
theorem dX12_through_151 : decode cX12_through 151 = .ok (.iaload, 1) := by decide +kernel
theorem dX12_through_152 : decode cX12_through 152 = .ok (.if_icmp .ge 35, 3) := by decide +kernel
theorem dX12_through_155 : decode cX12_through 155 = .ok (.iload 10, 2) := by decide +kernel
theorem dX12_through_157 : decode cX12_through 157 = .ok (.ifCond .eq 30, 3) := by decide +kernel
theorem dX12_through_160 : decode cX12_through 160 = .ok (.aload_n 0, 1) := by decide +kernel
theorem dX12_through_161 : decode cX12_through 161 = .ok (.iload 8, 2) := by decide +kernel
theorem dX12_through_163 : decode cX12_through 163 = .ok (.sipush 300, 3) := by decide +kernel
theorem dX12_through_166 : decode cX12_through 166 = .ok (.iload 8, 2) := by decide +kernel
theorem dX12_through_168 : decode cX12_through 168 = .ok (.imul, 1) := by decide +kernel
theorem dX12_through_169 : decode cX12_through 169 = .ok (.iload 11, 2) := by decide +kernel
theorem dX12_through_171 : decode cX12_through 171 = .ok (.iadd, 1) := by decide +kernel
theorem dX12_through_172 : decode cX12_through 172 = .ok (.iload_n 2, 1) := by decide +kernel
theorem dX12_through_173 : decode cX12_through 173 = .ok (.iload_n 3, 1) := by decide +kernel
theorem dX12_through_174 : decode cX12_through 174 = .ok (.iload 4, 2) := by decide +kernel
theorem dX12_through_176 : decode cX12_through 176 = .ok (.invokevirtual 397, 3) := by decide +kernel
theorem dX12_through_179 : decode cX12_through 179 = .ok (.istore 10, 2) := by decide +kernel
theorem dX12_through_181 : decode cX12_through 181 = .ok (.iinc 11 1, 3) := by decide +kernel
theorem dX12_through_184 : decode cX12_through 184 = .ok (.goto (-49), 3) := by decide +kernel
theorem dX12_through_187 : decode cX12_through 187 = .ok (.iload 10, 2) := by decide +kernel
theorem dX12_through_189 : decode cX12_through 189 = .ok (.ifCond .ne (-89), 3) := by decide +kernel
theorem dX12_through_192 : decode cX12_through 192 = .ok (.iinc 9 1, 3) := by decide +kernel
theorem dX12_through_195 : decode cX12_through 195 = .ok (.goto (-95), 3) := by decide +kernel
theorem dX12_through_198 : decode cX12_through 198 = .ok (.iload 10, 2) := by decide +kernel
theorem dX12_through_200 : decode cX12_through 200 = .ok (.ifCond .ne 9, 3) := by decide +kernel
theorem dX12_through_203 : decode cX12_through 203 = .ok (.iinc 5 (-1), 3) := by decide +kernel
theorem dX12_through_206 : decode cX12_through 206 = .ok (.goto (-171), 3) := by decide +kernel
theorem dX12_through_209 : decode cX12_through 209 = .ok (.aload_n 0, 1) := by decide +kernel
theorem dX12_through_210 : decode cX12_through 210 = .ok (.getfield 391, 3) := by decide +kernel
theorem dX12_through_213 : decode cX12_through 213 = .ok (.iload 7, 2) := by decide +kernel
theorem dX12_through_215 : decode cX12_through 215 = .ok (.iload 9, 2) := by decide +kernel
theorem dX12_through_217 : decode cX12_through 217 = .ok (.iastore, 1) := by decide +kernel
theorem dX12_through_218 : decode cX12_through 218 = .ok (.aload_n 0, 1) := by decide +kernel
theorem dX12_through_219 : decode cX12_through 219 = .ok (.getfield 394, 3) := by decide +kernel
theorem dX12_through_222 : decode cX12_through 222 = .ok (.iload 7, 2) := by decide +kernel
theorem dX12_through_224 : decode cX12_through 224 = .ok (.aload_n 0, 1) := by decide +kernel
theorem dX12_through_225 : decode cX12_through 225 = .ok (.getfield 364, 3) := by decide +kernel
theorem dX12_through_228 : decode cX12_through 228 = .ok (.bipush 31, 2) := by decide +kernel
theorem dX12_through_230 : decode cX12_through 230 = .ok (.iload 8, 2) := by decide +kernel
theorem dX12_through_232 : decode cX12_through 232 = .ok (.imul, 1) := by decide +kernel
theorem dX12_through_233 : decode cX12_through 233 = .ok (.iload 9, 2) := by decide +kernel
theorem dX12_through_235 : decode cX12_through 235 = .ok (.iadd, 1) := by decide +kernel
theorem dX12_through_236 : decode cX12_through 236 = .ok (.iaload, 1) := by decide +kernel
theorem dX12_through_237 : decode cX12_through 237 = .ok (.iastore, 1) := by decide +kernel
theorem dX12_through_238 : decode cX12_through 238 = .ok (.goto (-203), 3) := by decide +kernel
theorem dX12_through_241 : decode cX12_through 241 = .ok (.sipush 300, 3) := by decide +kernel
theorem dX12_through_244 : decode cX12_through 244 = .ok (.iload 8, 2) := by decide +kernel
theorem dX12_through_246 : decode cX12_through 246 = .ok (.imul, 1) := by decide +kernel
theorem dX12_through_247 : decode cX12_through 247 = .ok (.aload_n 0, 1) := by decide +kernel
theorem dX12_through_248 : decode cX12_through 248 = .ok (.getfield 394, 3) := by decide +kernel
theorem dX12_through_251 : decode cX12_through 251 = .ok (.iload 7, 2) := by decide +kernel
theorem dX12_through_253 : decode cX12_through 253 = .ok (.iaload, 1) := by decide +kernel
theorem dX12_through_254 : decode cX12_through 254 = .ok (.iadd, 1) := by decide +kernel
theorem dX12_through_255 : decode cX12_through 255 = .ok (.istore 10, 2) := by decide +kernel
theorem dX12_through_257 : decode cX12_through 257 = .ok (.aload_n 0, 1) := by decide +kernel
theorem dX12_through_258 : decode cX12_through 258 = .ok (.getfield 394, 3) := by decide +kernel
theorem dX12_through_261 : decode cX12_through 261 = .ok (.iload 7, 2) := by decide +kernel
theorem dX12_through_263 : decode cX12_through 263 = .ok (.dup2, 1) := by decide +kernel
theorem dX12_through_264 : decode cX12_through 264 = .ok (.iaload, 1) := by decide +kernel
theorem dX12_through_265 : decode cX12_through 265 = .ok (.iconst 1, 1) := by decide +kernel
theorem dX12_through_266 : decode cX12_through 266 = .ok (.iadd, 1) := by decide +kernel
theorem dX12_through_267 : decode cX12_through 267 = .ok (.iastore, 1) := by decide +kernel
theorem dX12_through_268 : decode cX12_through 268 = .ok (.iinc 6 1, 3) := by decide +kernel
theorem dX12_through_271 : decode cX12_through 271 = .ok (.iload 6, 2) := by decide +kernel
theorem dX12_through_273 : decode cX12_through 273 = .ok (.sipush 500, 3) := by decide +kernel
theorem dX12_through_276 : decode cX12_through 276 = .ok (.if_icmp .le 5, 3) := by decide +kernel
theorem dX12_through_279 : decode cX12_through 279 = .ok (.iconst 0, 1) := by decide +kernel
theorem dX12_through_280 : decode cX12_through 280 = .ok (.ireturn, 1) := by decide +kernel
theorem dX12_through_281 : decode cX12_through 281 = .ok (.aload_n 0, 1) := by decide +kernel
theorem dX12_through_282 : decode cX12_through 282 = .ok (.getfield 349, 3) := by decide +kernel
theorem dX12_through_285 : decode cX12_through 285 = .ok (.iload 10, 2) := by decide +kernel
theorem dX12_through_287 : decode cX12_through 287 = .ok (.iaload, 1) := by decide +kernel
theorem dX12_through_288 : decode cX12_through 288 = .ok (.istore 11, 2) := by decide +kernel
theorem dX12_through_290 : decode cX12_through 290 = .ok (.iload 11, 2) := by decide +kernel
theorem dX12_through_292 : decode cX12_through 292 = .ok (.bipush 23, 2) := by decide +kernel
theorem dX12_through_294 : decode cX12_through 294 = .ok (.if_icmp .ne 5, 3) := by decide +kernel
theorem dX12_through_297 : decode cX12_through 297 = .ok (.iconst 1, 1) := by decide +kernel
theorem dX12_through_298 : decode cX12_through 298 = .ok (.ireturn, 1) := by decide +kernel
theorem dX12_through_299 : decode cX12_through 299 = .ok (.iload 11, 2) := by decide +kernel
theorem dX12_through_301 : decode cX12_through 301 = .ok (.bipush 24, 2) := by decide +kernel
theorem dX12_through_303 : decode cX12_through 303 = .ok (.if_icmp .ne 5, 3) := by decide +kernel
theorem dX12_through_306 : decode cX12_through 306 = .ok (.iconst 0, 1) := by decide +kernel
theorem dX12_through_307 : decode cX12_through 307 = .ok (.ireturn, 1) := by decide +kernel
theorem dX12_through_308 : decode cX12_through 308 = .ok (.iload 11, 2) := by decide +kernel
theorem dX12_through_310 : decode cX12_through 310 = .ok (.bipush 25, 2) := by decide +kernel
theorem dX12_through_312 : decode cX12_through 312 = .ok (.if_icmp .ne 15, 3) := by decide +kernel
theorem dX12_through_315 : decode cX12_through 315 = .ok (.aload_n 0, 1) := by decide +kernel
theorem dX12_through_316 : decode cX12_through 316 = .ok (.iload_n 2, 1) := by decide +kernel
theorem dX12_through_317 : decode cX12_through 317 = .ok (.aload_n 0, 1) := by decide +kernel
theorem dX12_through_318 : decode cX12_through 318 = .ok (.getfield 352, 3) := by decide +kernel
theorem dX12_through_321 : decode cX12_through 321 = .ok (.iload 10, 2) := by decide +kernel
theorem dX12_through_323 : decode cX12_through 323 = .ok (.iaload, 1) := by decide +kernel
theorem dX12_through_324 : decode cX12_through 324 = .ok (.invokevirtual 401, 3) := by decide +kernel
theorem dX12_through_327 : decode cX12_through 327 = .ok (.iload 11, 2) := by decide +kernel
theorem dX12_through_329 : decode cX12_through 329 = .ok (.bipush 26, 2) := by decide +kernel
theorem dX12_through_331 : decode cX12_through 331 = .ok (.if_icmp .ne 15, 3) := by decide +kernel
theorem dX12_through_334 : decode cX12_through 334 = .ok (.aload_n 0, 1) := by decide +kernel
theorem dX12_through_335 : decode cX12_through 335 = .ok (.iload_n 2, 1) := by decide +kernel
theorem dX12_through_336 : decode cX12_through 336 = .ok (.aload_n 0, 1) := by decide +kernel
theorem dX12_through_337 : decode cX12_through 337 = .ok (.getfield 352, 3) := by decide +kernel
theorem dX12_through_340 : decode cX12_through 340 = .ok (.iload 10, 2) := by decide +kernel
theorem dX12_through_342 : decode cX12_through 342 = .ok (.iaload, 1) := by decide +kernel
theorem dX12_through_343 : decode cX12_through 343 = .ok (.invokevirtual 405, 3) := by decide +kernel
theorem dX12_through_346 : decode cX12_through 346 = .ok (.iload 11, 2) := by decide +kernel
theorem dX12_through_348 : decode cX12_through 348 = .ok (.bipush 12, 2) := by decide +kernel
theorem dX12_through_350 : decode cX12_through 350 = .ok (.if_icmp .ne 21, 3) := by decide +kernel
theorem dX12_through_353 : decode cX12_through 353 = .ok (.aload_n 0, 1) := by decide +kernel
theorem dX12_through_354 : decode cX12_through 354 = .ok (.getfield 148, 3) := by decide +kernel
theorem dX12_through_357 : decode cX12_through 357 = .ok (.bipush 40, 2) := by decide +kernel
theorem dX12_through_359 : decode cX12_through 359 = .ok (.iload_n 2, 1) := by decide +kernel
theorem dX12_through_360 : decode cX12_through 360 = .ok (.imul, 1) := by decide +kernel
theorem dX12_through_361 : decode cX12_through 361 = .ok (.iconst 1, 1) := by decide +kernel
theorem dX12_through_362 : decode cX12_through 362 = .ok (.iadd, 1) := by decide +kernel
theorem dX12_through_363 : decode cX12_through 363 = .ok (.aload_n 0, 1) := by decide +kernel
theorem dX12_through_364 : decode cX12_through 364 = .ok (.getfield 352, 3) := by decide +kernel
theorem dX12_through_367 : decode cX12_through 367 = .ok (.iload 10, 2) := by decide +kernel
theorem dX12_through_369 : decode cX12_through 369 = .ok (.iaload, 1) := by decide +kernel
theorem dX12_through_370 : decode cX12_through 370 = .ok (.iastore, 1) := by decide +kernel
theorem dX12_through_371 : decode cX12_through 371 = .ok (.iload 11, 2) := by decide +kernel
theorem dX12_through_373 : decode cX12_through 373 = .ok (.bipush 13, 2) := by decide +kernel
theorem dX12_through_375 : decode cX12_through 375 = .ok (.if_icmp .ne 21, 3) := by decide +kernel
theorem dX12_through_378 : decode cX12_through 378 = .ok (.aload_n 0, 1) := by decide +kernel
theorem dX12_through_379 : decode cX12_through 379 = .ok (.getfield 148, 3) := by decide +kernel
theorem dX12_through_382 : decode cX12_through 382 = .ok (.bipush 40, 2) := by decide +kernel
theorem dX12_through_384 : decode cX12_through 384 = .ok (.iload_n 2, 1) := by decide +kernel
theorem dX12_through_385 : decode cX12_through 385 = .ok (.imul, 1) := by decide +kernel
theorem dX12_through_386 : decode cX12_through 386 = .ok (.iconst 3, 1) := by decide +kernel
theorem dX12_through_387 : decode cX12_through 387 = .ok (.iadd, 1) := by decide +kernel
theorem dX12_through_388 : decode cX12_through 388 = .ok (.aload_n 0, 1) := by decide +kernel
theorem dX12_through_389 : decode cX12_through 389 = .ok (.getfield 352, 3) := by decide +kernel
theorem dX12_through_392 : decode cX12_through 392 = .ok (.iload 10, 2) := by decide +kernel
theorem dX12_through_394 : decode cX12_through 394 = .ok (.iaload, 1) := by decide +kernel
theorem dX12_through_395 : decode cX12_through 395 = .ok (.iastore, 1) := by decide +kernel
theorem dX12_through_396 : decode cX12_through 396 = .ok (.iload 11, 2) := by decide +kernel
theorem dX12_through_398 : decode cX12_through 398 = .ok (.bipush 27, 2) := by decide +kernel
theorem dX12_through_400 : decode cX12_through 400 = .ok (.if_icmp .ne 86, 3) := by decide +kernel
theorem dX12_through_403 : decode cX12_through 403 = .ok (.aload_n 0, 1) := by decide +kernel
theorem dX12_through_404 : decode cX12_through 404 = .ok (.getfield 148, 3) := by decide +kernel
theorem dX12_through_407 : decode cX12_through 407 = .ok (.bipush 40, 2) := by decide +kernel
theorem dX12_through_409 : decode cX12_through 409 = .ok (.iload_n 2, 1) := by decide +kernel
theorem dX12_through_410 : decode cX12_through 410 = .ok (.imul, 1) := by decide +kernel
theorem dX12_through_411 : decode cX12_through 411 = .ok (.iconst 4, 1) := by decide +kernel
theorem dX12_through_412 : decode cX12_through 412 = .ok (.iadd, 1) := by decide +kernel
theorem dX12_through_413 : decode cX12_through 413 = .ok (.iaload, 1) := by decide +kernel
theorem dX12_through_414 : decode cX12_through 414 = .ok (.ifCond .le 72, 3) := by decide +kernel
theorem dX12_through_417 : decode cX12_through 417 = .ok (.aload_n 0, 1) := by decide +kernel
theorem dX12_through_418 : decode cX12_through 418 = .ok (.getfield 148, 3) := by decide +kernel
theorem dX12_through_421 : decode cX12_through 421 = .ok (.bipush 40, 2) := by decide +kernel
theorem dX12_through_423 : decode cX12_through 423 = .ok (.iload_n 2, 1) := by decide +kernel
theorem dX12_through_424 : decode cX12_through 424 = .ok (.imul, 1) := by decide +kernel
theorem dX12_through_425 : decode cX12_through 425 = .ok (.bipush 6, 2) := by decide +kernel
theorem dX12_through_427 : decode cX12_through 427 = .ok (.iadd, 1) := by decide +kernel
theorem dX12_through_428 : decode cX12_through 428 = .ok (.iaload, 1) := by decide +kernel
theorem dX12_through_429 : decode cX12_through 429 = .ok (.istore 12, 2) := by decide +kernel
theorem dX12_through_431 : decode cX12_through 431 = .ok (.aload_n 0, 1) := by decide +kernel
theorem dX12_through_432 : decode cX12_through 432 = .ok (.getfield 148, 3) := by decide +kernel
theorem dX12_through_435 : decode cX12_through 435 = .ok (.bipush 40, 2) := by decide +kernel
theorem dX12_through_437 : decode cX12_through 437 = .ok (.iload_n 2, 1) := by decide +kernel
theorem dX12_through_438 : decode cX12_through 438 = .ok (.imul, 1) := by decide +kernel
theorem dX12_through_439 : decode cX12_through 439 = .ok (.iconst 4, 1) := by decide +kernel
theorem dX12_through_440 : decode cX12_through 440 = .ok (.iadd, 1) := by decide +kernel
theorem dX12_through_441 : decode cX12_through 441 = .ok (.iaload, 1) := by decide +kernel
theorem dX12_through_442 : decode cX12_through 442 = .ok (.aload_n 0, 1) := by decide +kernel
theorem dX12_through_443 : decode cX12_through 443 = .ok (.getfield 352, 3) := by decide +kernel
theorem dX12_through_446 : decode cX12_through 446 = .ok (.iload 10, 2) := by decide +kernel
theorem dX12_through_448 : decode cX12_through 448 = .ok (.iaload, 1) := by decide +kernel
theorem dX12_through_449 : decode cX12_through 449 = .ok (.iadd, 1) := by decide +kernel
theorem dX12_through_450 : decode cX12_through 450 = .ok (.bipush 20, 2) := by decide +kernel
theorem dX12_through_452 : decode cX12_through 452 = .ok (.if_icmp .le 5, 3) := by decide +kernel
theorem dX12_through_455 : decode cX12_through 455 = .ok (.iconst 0, 1) := by decide +kernel
theorem dX12_through_456 : decode cX12_through 456 = .ok (.ireturn, 1) := by decide +kernel
theorem dX12_through_457 : decode cX12_through 457 = .ok (.iconst 0, 1) := by decide +kernel
theorem dX12_through_458 : decode cX12_through 458 = .ok (.istore 13, 2) := by decide +kernel
theorem dX12_through_460 : decode cX12_through 460 = .ok (.iload 13, 2) := by decide +kernel
theorem dX12_through_462 : decode cX12_through 462 = .ok (.aload_n 0, 1) := by decide +kernel
theorem dX12_through_463 : decode cX12_through 463 = .ok (.getfield 352, 3) := by decide +kernel
theorem dX12_through_466 : decode cX12_through 466 = .ok (.iload 10, 2) := by decide +kernel
theorem dX12_through_468 : decode cX12_through 468 = .ok (.iaload, 1) := by decide +kernel
theorem dX12_through_469 : decode cX12_through 469 = .ok (.if_icmp .ge 17, 3) := by decide +kernel
theorem dX12_through_472 : decode cX12_through 472 = .ok (.aload_n 0, 1) := by decide +kernel
theorem dX12_through_473 : decode cX12_through 473 = .ok (.iload_n 2, 1) := by decide +kernel
theorem dX12_through_474 : decode cX12_through 474 = .ok (.iload 12, 2) := by decide +kernel
theorem dX12_through_476 : decode cX12_through 476 = .ok (.invokevirtual 408, 3) := by decide +kernel
theorem dX12_through_479 : decode cX12_through 479 = .ok (.pop, 1) := by decide +kernel
theorem dX12_through_480 : decode cX12_through 480 = .ok (.iinc 13 1, 3) := by decide +kernel
theorem dX12_through_483 : decode cX12_through 483 = .ok (.goto (-23), 3) := by decide +kernel
theorem dX12_through_486 : decode cX12_through 486 = .ok (.iload 11, 2) := by decide +kernel
theorem dX12_through_488 : decode cX12_through 488 = .ok (.bipush 28, 2) := by decide +kernel
theorem dX12_through_490 : decode cX12_through 490 = .ok (.if_icmp .ne 36, 3) := by decide +kernel
theorem dX12_through_493 : decode cX12_through 493 = .ok (.aload_n 0, 1) := by decide +kernel
theorem dX12_through_494 : decode cX12_through 494 = .ok (.getfield 388, 3) := by decide +kernel
theorem dX12_through_497 : decode cX12_through 497 = .ok (.iload 5, 2) := by decide +kernel
theorem dX12_through_499 : decode cX12_through 499 = .ok (.aload_n 0, 1) := by decide +kernel
theorem dX12_through_500 : decode cX12_through 500 = .ok (.getfield 352, 3) := by decide +kernel
theorem dX12_through_503 : decode cX12_through 503 = .ok (.iload 10, 2) := by decide +kernel
theorem dX12_through_505 : decode cX12_through 505 = .ok (.iaload, 1) := by decide +kernel
theorem dX12_through_506 : decode cX12_through 506 = .ok (.iastore, 1) := by decide +kernel
theorem dX12_through_507 : decode cX12_through 507 = .ok (.aload_n 0, 1) := by decide +kernel
theorem dX12_through_508 : decode cX12_through 508 = .ok (.getfield 391, 3) := by decide +kernel
theorem dX12_through_511 : decode cX12_through 511 = .ok (.iload 5, 2) := by decide +kernel
theorem dX12_through_513 : decode cX12_through 513 = .ok (.iconst (-1), 1) := by decide +kernel
theorem dX12_through_514 : decode cX12_through 514 = .ok (.iastore, 1) := by decide +kernel
theorem dX12_through_515 : decode cX12_through 515 = .ok (.aload_n 0, 1) := by decide +kernel
theorem dX12_through_516 : decode cX12_through 516 = .ok (.getfield 394, 3) := by decide +kernel
theorem dX12_through_519 : decode cX12_through 519 = .ok (.iload 5, 2) := by decide +kernel
theorem dX12_through_521 : decode cX12_through 521 = .ok (.iconst 0, 1) := by decide +kernel
theorem dX12_through_522 : decode cX12_through 522 = .ok (.iastore, 1) := by decide +kernel
theorem dX12_through_523 : decode cX12_through 523 = .ok (.iinc 5 1, 3) := by decide +kernel
theorem dX12_through_526 : decode cX12_through 526 = .ok (.goto (-491), 3) := by decide +kernel
theorem dX12_through_529 : decode cX12_through 529 = .ok (.iconst 1, 1) := by decide +kernel
theorem dX12_through_530 : decode cX12_through 530 = .ok (.ireturn, 1) := by decide +kernel
theorem dX12_tieWord_0 : decode cX12_tieWord 0 = .ok (.aload_n 0, 1) := by decide +kernel
theorem dX12_tieWord_1 : decode cX12_tieWord 1 = .ok (.iload_n 1, 1) := by decide +kernel
theorem dX12_tieWord_2 : decode cX12_tieWord 2 = .ok (.iload_n 2, 1) := by decide +kernel
theorem dX12_tieWord_3 : decode cX12_tieWord 3 = .ok (.invokevirtual 43, 3) := by decide +kernel
theorem dX12_tieWord_6 : decode cX12_tieWord 6 = .ok (.istore_n 3, 1) := by decide +kernel
theorem dX12_tieWord_7 : decode cX12_tieWord 7 = .ok (.aload_n 0, 1) := by decide +kernel
theorem dX12_tieWord_8 : decode cX12_tieWord 8 = .ok (.getfield 46, 3) := by decide +kernel
theorem dX12_tieWord_11 : decode cX12_tieWord 11 = .ok (.iload_n 3, 1) := by decide +kernel
theorem dX12_tieWord_12 : decode cX12_tieWord 12 = .ok (.iaload, 1) := by decide +kernel
theorem dX12_tieWord_13 : decode cX12_tieWord 13 = .ok (.iconst 1, 1) := by decide +kernel
theorem dX12_tieWord_14 : decode cX12_tieWord 14 = .ok (.if_icmp .ne 6, 3) := by decide +kernel
theorem dX12_tieWord_17 : decode cX12_tieWord 17 = .ok (.bipush 18, 2) := by decide +kernel
theorem dX12_tieWord_19 : decode cX12_tieWord 19 = .ok (.ireturn, 1) := by decide +kernel
theorem dX12_tieWord_20 : decode cX12_tieWord 20 = .ok (.aload_n 0, 1) := by decide +kernel
theorem dX12_tieWord_21 : decode cX12_tieWord 21 = .ok (.getfield 46, 3) := by decide +kernel
theorem dX12_tieWord_24 : decode cX12_tieWord 24 = .ok (.iload_n 3, 1) := by decide +kernel
theorem dX12_tieWord_25 : decode cX12_tieWord 25 = .ok (.iaload, 1) := by decide +kernel
theorem dX12_tieWord_26 : decode cX12_tieWord 26 = .ok (.iconst 2, 1) := by decide +kernel
theorem dX12_tieWord_27 : decode cX12_tieWord 27 = .ok (.if_icmp .ne 6, 3) := by decide +kernel
theorem dX12_tieWord_30 : decode cX12_tieWord 30 = .ok (.bipush 19, 2) := by decide +kernel
theorem dX12_tieWord_32 : decode cX12_tieWord 32 = .ok (.ireturn, 1) := by decide +kernel
theorem dX12_tieWord_33 : decode cX12_tieWord 33 = .ok (.aload_n 0, 1) := by decide +kernel
theorem dX12_tieWord_34 : decode cX12_tieWord 34 = .ok (.getfield 40, 3) := by decide +kernel
theorem dX12_tieWord_37 : decode cX12_tieWord 37 = .ok (.iconst 2, 1) := by decide +kernel
theorem dX12_tieWord_38 : decode cX12_tieWord 38 = .ok (.iload_n 3, 1) := by decide +kernel
theorem dX12_tieWord_39 : decode cX12_tieWord 39 = .ok (.imul, 1) := by decide +kernel
theorem dX12_tieWord_40 : decode cX12_tieWord 40 = .ok (.iaload, 1) := by decide +kernel
theorem dX12_tieWord_41 : decode cX12_tieWord 41 = .ok (.iload_n 1, 1) := by decide +kernel
theorem dX12_tieWord_42 : decode cX12_tieWord 42 = .ok (.if_icmp .ne 8, 3) := by decide +kernel
theorem dX12_tieWord_45 : decode cX12_tieWord 45 = .ok (.bipush 16, 2) := by decide +kernel
theorem dX12_tieWord_47 : decode cX12_tieWord 47 = .ok (.goto 5, 3) := by decide +kernel
theorem dX12_tieWord_50 : decode cX12_tieWord 50 = .ok (.bipush 17, 2) := by decide +kernel
theorem dX12_tieWord_52 : decode cX12_tieWord 52 = .ok (.ireturn, 1) := by decide +kernel
theorem dX12_today_0 : decode cX12_today 0 = .ok (.iload_n 1, 1) := by decide +kernel
theorem dX12_today_1 : decode cX12_today 1 = .ok (.ifCond .ge 5, 3) := by decide +kernel
theorem dX12_today_4 : decode cX12_today 4 = .ok (.iconst (-1), 1) := by decide +kernel
theorem dX12_today_5 : decode cX12_today 5 = .ok (.ireturn, 1) := by decide +kernel
theorem dX12_today_6 : decode cX12_today 6 = .ok (.aload_n 0, 1) := by decide +kernel
theorem dX12_today_7 : decode cX12_today 7 = .ok (.getfield 85, 3) := by decide +kernel
theorem dX12_today_10 : decode cX12_today 10 = .ok (.istore_n 2, 1) := by decide +kernel
theorem dX12_today_11 : decode cX12_today 11 = .ok (.aload_n 0, 1) := by decide +kernel
theorem dX12_today_12 : decode cX12_today 12 = .ok (.iload_n 1, 1) := by decide +kernel
theorem dX12_today_13 : decode cX12_today 13 = .ok (.putfield 85, 3) := by decide +kernel
theorem dX12_today_16 : decode cX12_today 16 = .ok (.aload_n 0, 1) := by decide +kernel
theorem dX12_today_17 : decode cX12_today 17 = .ok (.invokevirtual 88, 3) := by decide +kernel
theorem dX12_today_20 : decode cX12_today 20 = .ok (.iload_n 2, 1) := by decide +kernel
theorem dX12_today_21 : decode cX12_today 21 = .ok (.ireturn, 1) := by decide +kernel
theorem dX12_use_0 : decode cX12_use 0 = .ok (.aload_n 0, 1) := by decide +kernel
theorem dX12_use_1 : decode cX12_use 1 = .ok (.iload_n 1, 1) := by decide +kernel
theorem dX12_use_2 : decode cX12_use 2 = .ok (.invokevirtual 66, 3) := by decide +kernel
theorem dX12_use_5 : decode cX12_use 5 = .ok (.ifCond .eq 43, 3) := by decide +kernel
theorem dX12_use_8 : decode cX12_use 8 = .ok (.iload_n 2, 1) := by decide +kernel
theorem dX12_use_9 : decode cX12_use 9 = .ok (.iconst 0, 1) := by decide +kernel
theorem dX12_use_10 : decode cX12_use 10 = .ok (.iconst 1, 1) := by decide +kernel
theorem dX12_use_11 : decode cX12_use 11 = .ok (.invokestatic 18, 3) := by decide +kernel
theorem dX12_use_14 : decode cX12_use 14 = .ok (.ifCond .eq 34, 3) := by decide +kernel
theorem dX12_use_17 : decode cX12_use 17 = .ok (.iload_n 3, 1) := by decide +kernel
theorem dX12_use_18 : decode cX12_use 18 = .ok (.iconst 0, 1) := by decide +kernel
theorem dX12_use_19 : decode cX12_use 19 = .ok (.iconst 1, 1) := by decide +kernel
theorem dX12_use_20 : decode cX12_use 20 = .ok (.invokestatic 18, 3) := by decide +kernel
theorem dX12_use_23 : decode cX12_use 23 = .ok (.ifCond .eq 25, 3) := by decide +kernel
theorem dX12_use_26 : decode cX12_use 26 = .ok (.iload 4, 2) := by decide +kernel
theorem dX12_use_28 : decode cX12_use 28 = .ok (.ldc 29, 2) := by decide +kernel
theorem dX12_use_30 : decode cX12_use 30 = .ok (.if_icmp .eq 20, 3) := by decide +kernel
theorem dX12_use_33 : decode cX12_use 33 = .ok (.iload 4, 2) := by decide +kernel
theorem dX12_use_35 : decode cX12_use 35 = .ok (.iconst 0, 1) := by decide +kernel
theorem dX12_use_36 : decode cX12_use 36 = .ok (.aload_n 0, 1) := by decide +kernel
theorem dX12_use_37 : decode cX12_use 37 = .ok (.getfield 355, 3) := by decide +kernel
theorem dX12_use_40 : decode cX12_use 40 = .ok (.iconst 1, 1) := by decide +kernel
theorem dX12_use_41 : decode cX12_use 41 = .ok (.isub, 1) := by decide +kernel
theorem dX12_use_42 : decode cX12_use 42 = .ok (.invokestatic 18, 3) := by decide +kernel
theorem dX12_use_45 : decode cX12_use 45 = .ok (.ifCond .ne 5, 3) := by decide +kernel
theorem dX12_use_48 : decode cX12_use 48 = .ok (.iconst (-1), 1) := by decide +kernel
theorem dX12_use_49 : decode cX12_use 49 = .ok (.ireturn, 1) := by decide +kernel
theorem dX12_use_50 : decode cX12_use 50 = .ok (.aload_n 0, 1) := by decide +kernel
theorem dX12_use_51 : decode cX12_use 51 = .ok (.getfield 63, 3) := by decide +kernel
theorem dX12_use_54 : decode cX12_use 54 = .ok (.iconst 4, 1) := by decide +kernel
theorem dX12_use_55 : decode cX12_use 55 = .ok (.iload_n 1, 1) := by decide +kernel
theorem dX12_use_56 : decode cX12_use 56 = .ok (.imul, 1) := by decide +kernel
theorem dX12_use_57 : decode cX12_use 57 = .ok (.iconst 2, 1) := by decide +kernel
theorem dX12_use_58 : decode cX12_use 58 = .ok (.iload_n 2, 1) := by decide +kernel
theorem dX12_use_59 : decode cX12_use 59 = .ok (.imul, 1) := by decide +kernel
theorem dX12_use_60 : decode cX12_use 60 = .ok (.iadd, 1) := by decide +kernel
theorem dX12_use_61 : decode cX12_use 61 = .ok (.iload_n 3, 1) := by decide +kernel
theorem dX12_use_62 : decode cX12_use 62 = .ok (.iadd, 1) := by decide +kernel
theorem dX12_use_63 : decode cX12_use 63 = .ok (.iload 4, 2) := by decide +kernel
theorem dX12_use_65 : decode cX12_use 65 = .ok (.iastore, 1) := by decide +kernel
theorem dX12_use_66 : decode cX12_use 66 = .ok (.aload_n 0, 1) := by decide +kernel
theorem dX12_use_67 : decode cX12_use 67 = .ok (.getfield 40, 3) := by decide +kernel
theorem dX12_use_70 : decode cX12_use 70 = .ok (.iconst 2, 1) := by decide +kernel
theorem dX12_use_71 : decode cX12_use 71 = .ok (.iload_n 1, 1) := by decide +kernel
theorem dX12_use_72 : decode cX12_use 72 = .ok (.imul, 1) := by decide +kernel
theorem dX12_use_73 : decode cX12_use 73 = .ok (.iload_n 2, 1) := by decide +kernel
theorem dX12_use_74 : decode cX12_use 74 = .ok (.iadd, 1) := by decide +kernel
theorem dX12_use_75 : decode cX12_use 75 = .ok (.iaload, 1) := by decide +kernel
theorem dX12_use_76 : decode cX12_use 76 = .ok (.istore 5, 2) := by decide +kernel
theorem dX12_use_78 : decode cX12_use 78 = .ok (.iload_n 3, 1) := by decide +kernel
theorem dX12_use_79 : decode cX12_use 79 = .ok (.ifCond .ne 12, 3) := by decide +kernel
theorem dX12_use_82 : decode cX12_use 82 = .ok (.aload_n 0, 1) := by decide +kernel
theorem dX12_use_83 : decode cX12_use 83 = .ok (.iload 5, 2) := by decide +kernel
theorem dX12_use_85 : decode cX12_use 85 = .ok (.invokevirtual 600, 3) := by decide +kernel
theorem dX12_use_88 : decode cX12_use 88 = .ok (.goto 10, 3) := by decide +kernel
theorem dX12_use_91 : decode cX12_use 91 = .ok (.aload_n 0, 1) := by decide +kernel
theorem dX12_use_92 : decode cX12_use 92 = .ok (.iload 5, 2) := by decide +kernel
theorem dX12_use_94 : decode cX12_use 94 = .ok (.iload_n 1, 1) := by decide +kernel
theorem dX12_use_95 : decode cX12_use 95 = .ok (.invokevirtual 603, 3) := by decide +kernel
theorem dX12_use_98 : decode cX12_use 98 = .ok (.iconst 0, 1) := by decide +kernel
theorem dX12_use_99 : decode cX12_use 99 = .ok (.ireturn, 1) := by decide +kernel
theorem dX12_withdraw_0 : decode cX12_withdraw 0 = .ok (.aload_n 0, 1) := by decide +kernel
theorem dX12_withdraw_1 : decode cX12_withdraw 1 = .ok (.iload_n 1, 1) := by decide +kernel
theorem dX12_withdraw_2 : decode cX12_withdraw 2 = .ok (.invokevirtual 49, 3) := by decide +kernel
theorem dX12_withdraw_5 : decode cX12_withdraw 5 = .ok (.ifCond .eq 11, 3) := by decide +kernel
theorem dX12_withdraw_8 : decode cX12_withdraw 8 = .ok (.aload_n 0, 1) := by decide +kernel
theorem dX12_withdraw_9 : decode cX12_withdraw 9 = .ok (.iload_n 2, 1) := by decide +kernel
theorem dX12_withdraw_10 : decode cX12_withdraw 10 = .ok (.invokevirtual 92, 3) := by decide +kernel
theorem dX12_withdraw_13 : decode cX12_withdraw 13 = .ok (.ifCond .ne 5, 3) := by decide +kernel
theorem dX12_withdraw_16 : decode cX12_withdraw 16 = .ok (.iconst (-1), 1) := by decide +kernel
theorem dX12_withdraw_17 : decode cX12_withdraw 17 = .ok (.ireturn, 1) := by decide +kernel
theorem dX12_withdraw_18 : decode cX12_withdraw 18 = .ok (.aload_n 0, 1) := by decide +kernel
theorem dX12_withdraw_19 : decode cX12_withdraw 19 = .ok (.getfield 448, 3) := by decide +kernel
theorem dX12_withdraw_22 : decode cX12_withdraw 22 = .ok (.bipush 10, 2) := by decide +kernel
theorem dX12_withdraw_24 : decode cX12_withdraw 24 = .ok (.iload_n 1, 1) := by decide +kernel
theorem dX12_withdraw_25 : decode cX12_withdraw 25 = .ok (.imul, 1) := by decide +kernel
theorem dX12_withdraw_26 : decode cX12_withdraw 26 = .ok (.iload_n 2, 1) := by decide +kernel
theorem dX12_withdraw_27 : decode cX12_withdraw 27 = .ok (.iadd, 1) := by decide +kernel
theorem dX12_withdraw_28 : decode cX12_withdraw 28 = .ok (.iaload, 1) := by decide +kernel
theorem dX12_withdraw_29 : decode cX12_withdraw 29 = .ok (.ifCond .ge 6, 3) := by decide +kernel
theorem dX12_withdraw_32 : decode cX12_withdraw 32 = .ok (.bipush (-2), 2) := by decide +kernel
theorem dX12_withdraw_34 : decode cX12_withdraw 34 = .ok (.ireturn, 1) := by decide +kernel
theorem dX12_withdraw_35 : decode cX12_withdraw 35 = .ok (.aload_n 0, 1) := by decide +kernel
theorem dX12_withdraw_36 : decode cX12_withdraw 36 = .ok (.getfield 448, 3) := by decide +kernel
theorem dX12_withdraw_39 : decode cX12_withdraw 39 = .ok (.bipush 10, 2) := by decide +kernel
theorem dX12_withdraw_41 : decode cX12_withdraw 41 = .ok (.iload_n 1, 1) := by decide +kernel
theorem dX12_withdraw_42 : decode cX12_withdraw 42 = .ok (.imul, 1) := by decide +kernel
theorem dX12_withdraw_43 : decode cX12_withdraw 43 = .ok (.iload_n 2, 1) := by decide +kernel
theorem dX12_withdraw_44 : decode cX12_withdraw 44 = .ok (.iadd, 1) := by decide +kernel
theorem dX12_withdraw_45 : decode cX12_withdraw 45 = .ok (.iconst (-1), 1) := by decide +kernel
theorem dX12_withdraw_46 : decode cX12_withdraw 46 = .ok (.iastore, 1) := by decide +kernel
theorem dX12_withdraw_47 : decode cX12_withdraw 47 = .ok (.aload_n 0, 1) := by decide +kernel
theorem dX12_withdraw_48 : decode cX12_withdraw 48 = .ok (.iload_n 1, 1) := by decide +kernel
theorem dX12_withdraw_49 : decode cX12_withdraw 49 = .ok (.iload_n 2, 1) := by decide +kernel
theorem dX12_withdraw_50 : decode cX12_withdraw 50 = .ok (.invokevirtual 597, 3) := by decide +kernel
theorem dX12_withdraw_53 : decode cX12_withdraw 53 = .ok (.iconst 0, 1) := by decide +kernel
theorem dX12_withdraw_54 : decode cX12_withdraw 54 = .ok (.ireturn, 1) := by decide +kernel
