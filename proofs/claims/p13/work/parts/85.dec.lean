theorem dX4_addNeighbours_0 : decode cX4_addNeighbours 0 = .ok (.iload_n 2, 1) := by decide +kernel
theorem dX4_addNeighbours_1 : decode cX4_addNeighbours 1 = .ok (.istore_n 3, 1) := by decide +kernel
theorem dX4_addNeighbours_2 : decode cX4_addNeighbours 2 = .ok (.iconst 1, 1) := by decide +kernel
theorem dX4_addNeighbours_3 : decode cX4_addNeighbours 3 = .ok (.istore 4, 2) := by decide +kernel
theorem dX4_addNeighbours_5 : decode cX4_addNeighbours 5 = .ok (.iload 4, 2) := by decide +kernel
theorem dX4_addNeighbours_7 : decode cX4_addNeighbours 7 = .ok (.bipush 7, 2) := by decide +kernel
theorem dX4_addNeighbours_9 : decode cX4_addNeighbours 9 = .ok (.if_icmp .ge 64, 3) := by decide +kernel
theorem dX4_addNeighbours_12 : decode cX4_addNeighbours 12 = .ok (.iload_n 1, 1) := by decide +kernel
theorem dX4_addNeighbours_13 : decode cX4_addNeighbours 13 = .ok (.aload_n 0, 1) := by decide +kernel
theorem dX4_addNeighbours_14 : decode cX4_addNeighbours 14 = .ok (.iload 4, 2) := by decide +kernel
theorem dX4_addNeighbours_16 : decode cX4_addNeighbours 16 = .ok (.invokevirtual 71, 3) := by decide +kernel
theorem dX4_addNeighbours_19 : decode cX4_addNeighbours 19 = .ok (.aload_n 0, 1) := by decide +kernel
theorem dX4_addNeighbours_20 : decode cX4_addNeighbours 20 = .ok (.getfield 30, 3) := by decide +kernel
theorem dX4_addNeighbours_23 : decode cX4_addNeighbours 23 = .ok (.iload 4, 2) := by decide +kernel
theorem dX4_addNeighbours_25 : decode cX4_addNeighbours 25 = .ok (.iaload, 1) := by decide +kernel
theorem dX4_addNeighbours_26 : decode cX4_addNeighbours 26 = .ok (.isub, 1) := by decide +kernel
theorem dX4_addNeighbours_27 : decode cX4_addNeighbours 27 = .ok (.aload_n 0, 1) := by decide +kernel
theorem dX4_addNeighbours_28 : decode cX4_addNeighbours 28 = .ok (.getfield 27, 3) := by decide +kernel
theorem dX4_addNeighbours_31 : decode cX4_addNeighbours 31 = .ok (.iload 4, 2) := by decide +kernel
theorem dX4_addNeighbours_33 : decode cX4_addNeighbours 33 = .ok (.iaload, 1) := by decide +kernel
theorem dX4_addNeighbours_34 : decode cX4_addNeighbours 34 = .ok (.imul, 1) := by decide +kernel
theorem dX4_addNeighbours_35 : decode cX4_addNeighbours 35 = .ok (.iadd, 1) := by decide +kernel
theorem dX4_addNeighbours_36 : decode cX4_addNeighbours 36 = .ok (.istore 5, 2) := by decide +kernel
theorem dX4_addNeighbours_38 : decode cX4_addNeighbours 38 = .ok (.aload_n 0, 1) := by decide +kernel
theorem dX4_addNeighbours_39 : decode cX4_addNeighbours 39 = .ok (.getfield 39, 3) := by decide +kernel
theorem dX4_addNeighbours_42 : decode cX4_addNeighbours 42 = .ok (.iload 5, 2) := by decide +kernel
theorem dX4_addNeighbours_44 : decode cX4_addNeighbours 44 = .ok (.baload, 1) := by decide +kernel
theorem dX4_addNeighbours_45 : decode cX4_addNeighbours 45 = .ok (.ifCond .ne 22, 3) := by decide +kernel
theorem dX4_addNeighbours_48 : decode cX4_addNeighbours 48 = .ok (.aload_n 0, 1) := by decide +kernel
theorem dX4_addNeighbours_49 : decode cX4_addNeighbours 49 = .ok (.getfield 39, 3) := by decide +kernel
theorem dX4_addNeighbours_52 : decode cX4_addNeighbours 52 = .ok (.iload 5, 2) := by decide +kernel
theorem dX4_addNeighbours_54 : decode cX4_addNeighbours 54 = .ok (.iconst 1, 1) := by decide +kernel
theorem dX4_addNeighbours_55 : decode cX4_addNeighbours 55 = .ok (.bastore, 1) := by decide +kernel
theorem dX4_addNeighbours_56 : decode cX4_addNeighbours 56 = .ok (.aload_n 0, 1) := by decide +kernel
theorem dX4_addNeighbours_57 : decode cX4_addNeighbours 57 = .ok (.getfield 33, 3) := by decide +kernel
theorem dX4_addNeighbours_60 : decode cX4_addNeighbours 60 = .ok (.iload_n 3, 1) := by decide +kernel
theorem dX4_addNeighbours_61 : decode cX4_addNeighbours 61 = .ok (.iload 5, 2) := by decide +kernel
theorem dX4_addNeighbours_63 : decode cX4_addNeighbours 63 = .ok (.iastore, 1) := by decide +kernel
theorem dX4_addNeighbours_64 : decode cX4_addNeighbours 64 = .ok (.iinc 3 1, 3) := by decide +kernel
theorem dX4_addNeighbours_67 : decode cX4_addNeighbours 67 = .ok (.iinc 4 1, 3) := by decide +kernel
theorem dX4_addNeighbours_70 : decode cX4_addNeighbours 70 = .ok (.goto (-65), 3) := by decide +kernel
theorem dX4_addNeighbours_73 : decode cX4_addNeighbours 73 = .ok (.iload_n 3, 1) := by decide +kernel
theorem dX4_addNeighbours_74 : decode cX4_addNeighbours 74 = .ok (.ireturn, 1) := by decide +kernel
theorem dX4_addSources_0 : decode cX4_addSources 0 = .ok (.iload_n 2, 1) := by decide +kernel
theorem dX4_addSources_1 : decode cX4_addSources 1 = .ok (.istore_n 3, 1) := by decide +kernel
theorem dX4_addSources_2 : decode cX4_addSources 2 = .ok (.iconst 1, 1) := by decide +kernel
theorem dX4_addSources_3 : decode cX4_addSources 3 = .ok (.istore 4, 2) := by decide +kernel
theorem dX4_addSources_5 : decode cX4_addSources 5 = .ok (.iload 4, 2) := by decide +kernel
theorem dX4_addSources_7 : decode cX4_addSources 7 = .ok (.bipush 7, 2) := by decide +kernel
theorem dX4_addSources_9 : decode cX4_addSources 9 = .ok (.if_icmp .ge 105, 3) := by decide +kernel
theorem dX4_addSources_12 : decode cX4_addSources 12 = .ok (.aload_n 0, 1) := by decide +kernel
theorem dX4_addSources_13 : decode cX4_addSources 13 = .ok (.iload 4, 2) := by decide +kernel
theorem dX4_addSources_15 : decode cX4_addSources 15 = .ok (.invokevirtual 71, 3) := by decide +kernel
theorem dX4_addSources_18 : decode cX4_addSources 18 = .ok (.aload_n 0, 1) := by decide +kernel
theorem dX4_addSources_19 : decode cX4_addSources 19 = .ok (.getfield 30, 3) := by decide +kernel
theorem dX4_addSources_22 : decode cX4_addSources 22 = .ok (.iload 4, 2) := by decide +kernel
theorem dX4_addSources_24 : decode cX4_addSources 24 = .ok (.iaload, 1) := by decide +kernel
theorem dX4_addSources_25 : decode cX4_addSources 25 = .ok (.if_icmp .eq 6, 3) := by decide +kernel
theorem dX4_addSources_28 : decode cX4_addSources 28 = .ok (.goto 80, 3) := by decide +kernel
theorem dX4_addSources_31 : decode cX4_addSources 31 = .ok (.iconst 0, 1) := by decide +kernel
theorem dX4_addSources_32 : decode cX4_addSources 32 = .ok (.istore 5, 2) := by decide +kernel
theorem dX4_addSources_34 : decode cX4_addSources 34 = .ok (.iload 5, 2) := by decide +kernel
theorem dX4_addSources_36 : decode cX4_addSources 36 = .ok (.aload_n 0, 1) := by decide +kernel
theorem dX4_addSources_37 : decode cX4_addSources 37 = .ok (.getfield 11, 3) := by decide +kernel
theorem dX4_addSources_40 : decode cX4_addSources 40 = .ok (.iload 4, 2) := by decide +kernel
theorem dX4_addSources_42 : decode cX4_addSources 42 = .ok (.iaload, 1) := by decide +kernel
theorem dX4_addSources_43 : decode cX4_addSources 43 = .ok (.if_icmp .gt 65, 3) := by decide +kernel
theorem dX4_addSources_46 : decode cX4_addSources 46 = .ok (.iload_n 1, 1) := by decide +kernel
theorem dX4_addSources_47 : decode cX4_addSources 47 = .ok (.iload 5, 2) := by decide +kernel
theorem dX4_addSources_49 : decode cX4_addSources 49 = .ok (.aload_n 0, 1) := by decide +kernel
theorem dX4_addSources_50 : decode cX4_addSources 50 = .ok (.getfield 30, 3) := by decide +kernel
theorem dX4_addSources_53 : decode cX4_addSources 53 = .ok (.iload 4, 2) := by decide +kernel
theorem dX4_addSources_55 : decode cX4_addSources 55 = .ok (.iaload, 1) := by decide +kernel
theorem dX4_addSources_56 : decode cX4_addSources 56 = .ok (.isub, 1) := by decide +kernel
theorem dX4_addSources_57 : decode cX4_addSources 57 = .ok (.aload_n 0, 1) := by decide +kernel
theorem dX4_addSources_58 : decode cX4_addSources 58 = .ok (.getfield 27, 3) := by decide +kernel
theorem dX4_addSources_61 : decode cX4_addSources 61 = .ok (.iload 4, 2) := by decide +kernel
theorem dX4_addSources_63 : decode cX4_addSources 63 = .ok (.iaload, 1) := by decide +kernel
theorem dX4_addSources_64 : decode cX4_addSources 64 = .ok (.imul, 1) := by decide +kernel
theorem dX4_addSources_65 : decode cX4_addSources 65 = .ok (.iadd, 1) := by decide +kernel
theorem dX4_addSources_66 : decode cX4_addSources 66 = .ok (.istore 6, 2) := by decide +kernel
theorem dX4_addSources_68 : decode cX4_addSources 68 = .ok (.aload_n 0, 1) := by decide +kernel
theorem dX4_addSources_69 : decode cX4_addSources 69 = .ok (.getfield 39, 3) := by decide +kernel
theorem dX4_addSources_72 : decode cX4_addSources 72 = .ok (.iload 6, 2) := by decide +kernel
theorem dX4_addSources_74 : decode cX4_addSources 74 = .ok (.baload, 1) := by decide +kernel
theorem dX4_addSources_75 : decode cX4_addSources 75 = .ok (.iconst 1, 1) := by decide +kernel
theorem dX4_addSources_76 : decode cX4_addSources 76 = .ok (.if_icmp .ne 26, 3) := by decide +kernel
theorem dX4_addSources_79 : decode cX4_addSources 79 = .ok (.aload_n 0, 1) := by decide +kernel
theorem dX4_addSources_80 : decode cX4_addSources 80 = .ok (.getfield 39, 3) := by decide +kernel
theorem dX4_addSources_83 : decode cX4_addSources 83 = .ok (.iload 6, 2) := by decide +kernel
theorem dX4_addSources_85 : decode cX4_addSources 85 = .ok (.dup2, 1) := by decide +kernel
theorem dX4_addSources_86 : decode cX4_addSources 86 = .ok (.baload, 1) := by decide +kernel
theorem dX4_addSources_87 : decode cX4_addSources 87 = .ok (.iconst 2, 1) := by decide +kernel
theorem dX4_addSources_88 : decode cX4_addSources 88 = .ok (.ior, 1) := by decide +kernel
theorem dX4_addSources_89 : decode cX4_addSources 89 = .ok (.i2b, 1) := by decide +kernel
theorem dX4_addSources_90 : decode cX4_addSources 90 = .ok (.bastore, 1) := by decide +kernel
theorem dX4_addSources_91 : decode cX4_addSources 91 = .ok (.aload_n 0, 1) := by decide +kernel
theorem dX4_addSources_92 : decode cX4_addSources 92 = .ok (.getfield 33, 3) := by decide +kernel
theorem dX4_addSources_95 : decode cX4_addSources 95 = .ok (.iload_n 3, 1) := by decide +kernel
theorem dX4_addSources_96 : decode cX4_addSources 96 = .ok (.iload 6, 2) := by decide +kernel
theorem dX4_addSources_98 : decode cX4_addSources 98 = .ok (.iastore, 1) := by decide +kernel
theorem dX4_addSources_99 : decode cX4_addSources 99 = .ok (.iinc 3 1, 3) := by decide +kernel
theorem dX4_addSources_102 : decode cX4_addSources 102 = .ok (.iinc 5 1, 3) := by decide +kernel
theorem dX4_addSources_105 : decode cX4_addSources 105 = .ok (.goto (-71), 3) := by decide +kernel
theorem dX4_addSources_108 : decode cX4_addSources 108 = .ok (.iinc 4 1, 3) := by decide +kernel
theorem dX4_addSources_111 : decode cX4_addSources 111 = .ok (.goto (-106), 3) := by decide +kernel
theorem dX4_addSources_114 : decode cX4_addSources 114 = .ok (.iload_n 3, 1) := by decide +kernel
theorem dX4_addSources_115 : decode cX4_addSources 115 = .ok (.ireturn, 1) := by decide +kernel
theorem dX4_countUp_0 : decode cX4_countUp 0 = .ok (.bipush 6, 2) := by decide +kernel
theorem dX4_countUp_2 : decode cX4_countUp 2 = .ok (.istore_n 1, 1) := by decide +kernel
theorem dX4_countUp_3 : decode cX4_countUp 3 = .ok (.iload_n 1, 1) := by decide +kernel
theorem dX4_countUp_4 : decode cX4_countUp 4 = .ok (.iconst 1, 1) := by decide +kernel
theorem dX4_countUp_5 : decode cX4_countUp 5 = .ok (.if_icmp .le 31, 3) := by decide +kernel
theorem dX4_countUp_8 : decode cX4_countUp 8 = .ok (.aload_n 0, 1) := by decide +kernel
theorem dX4_countUp_9 : decode cX4_countUp 9 = .ok (.getfield 30, 3) := by decide +kernel
theorem dX4_countUp_12 : decode cX4_countUp 12 = .ok (.iload_n 1, 1) := by decide +kernel
theorem dX4_countUp_13 : decode cX4_countUp 13 = .ok (.iaload, 1) := by decide +kernel
theorem dX4_countUp_14 : decode cX4_countUp 14 = .ok (.aload_n 0, 1) := by decide +kernel
theorem dX4_countUp_15 : decode cX4_countUp 15 = .ok (.getfield 11, 3) := by decide +kernel
theorem dX4_countUp_18 : decode cX4_countUp 18 = .ok (.iload_n 1, 1) := by decide +kernel
theorem dX4_countUp_19 : decode cX4_countUp 19 = .ok (.iaload, 1) := by decide +kernel
theorem dX4_countUp_20 : decode cX4_countUp 20 = .ok (.if_icmp .ne 16, 3) := by decide +kernel
theorem dX4_countUp_23 : decode cX4_countUp 23 = .ok (.aload_n 0, 1) := by decide +kernel
theorem dX4_countUp_24 : decode cX4_countUp 24 = .ok (.getfield 30, 3) := by decide +kernel
theorem dX4_countUp_27 : decode cX4_countUp 27 = .ok (.iload_n 1, 1) := by decide +kernel
theorem dX4_countUp_28 : decode cX4_countUp 28 = .ok (.iconst 0, 1) := by decide +kernel
theorem dX4_countUp_29 : decode cX4_countUp 29 = .ok (.iastore, 1) := by decide +kernel
theorem dX4_countUp_30 : decode cX4_countUp 30 = .ok (.iinc 1 (-1), 3) := by decide +kernel
theorem dX4_countUp_33 : decode cX4_countUp 33 = .ok (.goto (-30), 3) := by decide +kernel
theorem dX4_countUp_36 : decode cX4_countUp 36 = .ok (.aload_n 0, 1) := by decide +kernel
theorem dX4_countUp_37 : decode cX4_countUp 37 = .ok (.getfield 30, 3) := by decide +kernel
theorem dX4_countUp_40 : decode cX4_countUp 40 = .ok (.iload_n 1, 1) := by decide +kernel
theorem dX4_countUp_41 : decode cX4_countUp 41 = .ok (.dup2, 1) := by decide +kernel
theorem dX4_countUp_42 : decode cX4_countUp 42 = .ok (.iaload, 1) := by decide +kernel
theorem dX4_countUp_43 : decode cX4_countUp 43 = .ok (.iconst 1, 1) := by decide +kernel
theorem dX4_countUp_44 : decode cX4_countUp 44 = .ok (.iadd, 1) := by decide +kernel
theorem dX4_countUp_45 : decode cX4_countUp 45 = .ok (.iastore, 1) := by decide +kernel
theorem dX4_countUp_46 : decode cX4_countUp 46 = .ok (.return_, 1) := by decide +kernel
theorem dX4_find_0 : decode cX4_find 0 = .ok (.aload_n 1, 1) := by decide +kernel
theorem dX4_find_1 : decode cX4_find 1 = .ok (.iload_n 2, 1) := by decide +kernel
theorem dX4_find_2 : decode cX4_find 2 = .ok (.iaload, 1) := by decide +kernel
theorem dX4_find_3 : decode cX4_find 3 = .ok (.istore 4, 2) := by decide +kernel
theorem dX4_find_5 : decode cX4_find 5 = .ok (.iconst 0, 1) := by decide +kernel
theorem dX4_find_6 : decode cX4_find 6 = .ok (.istore 5, 2) := by decide +kernel
theorem dX4_find_8 : decode cX4_find 8 = .ok (.iload 5, 2) := by decide +kernel
theorem dX4_find_10 : decode cX4_find 10 = .ok (.aload_n 0, 1) := by decide +kernel
theorem dX4_find_11 : decode cX4_find 11 = .ok (.getfield 11, 3) := by decide +kernel
theorem dX4_find_14 : decode cX4_find 14 = .ok (.iload 4, 2) := by decide +kernel
theorem dX4_find_16 : decode cX4_find 16 = .ok (.iaload, 1) := by decide +kernel
theorem dX4_find_17 : decode cX4_find 17 = .ok (.if_icmp .ge 93, 3) := by decide +kernel
theorem dX4_find_20 : decode cX4_find 20 = .ok (.iload 4, 2) := by decide +kernel
theorem dX4_find_22 : decode cX4_find 22 = .ok (.iconst 5, 1) := by decide +kernel
theorem dX4_find_23 : decode cX4_find 23 = .ok (.imul, 1) := by decide +kernel
theorem dX4_find_24 : decode cX4_find 24 = .ok (.iload 5, 2) := by decide +kernel
theorem dX4_find_26 : decode cX4_find 26 = .ok (.iadd, 1) := by decide +kernel
theorem dX4_find_27 : decode cX4_find 27 = .ok (.istore 6, 2) := by decide +kernel
theorem dX4_find_29 : decode cX4_find 29 = .ok (.aload_n 0, 1) := by decide +kernel
theorem dX4_find_30 : decode cX4_find 30 = .ok (.getfield 18, 3) := by decide +kernel
theorem dX4_find_33 : decode cX4_find 33 = .ok (.iload 6, 2) := by decide +kernel
theorem dX4_find_35 : decode cX4_find 35 = .ok (.iaload, 1) := by decide +kernel
theorem dX4_find_36 : decode cX4_find 36 = .ok (.iload_n 3, 1) := by decide +kernel
theorem dX4_find_37 : decode cX4_find 37 = .ok (.if_icmp .ne 7, 3) := by decide +kernel
theorem dX4_find_40 : decode cX4_find 40 = .ok (.iconst 1, 1) := by decide +kernel
theorem dX4_find_41 : decode cX4_find 41 = .ok (.goto 4, 3) := by decide +kernel
theorem dX4_find_44 : decode cX4_find 44 = .ok (.iconst 0, 1) := by decide +kernel
theorem dX4_find_45 : decode cX4_find 45 = .ok (.istore 7, 2) := by decide +kernel
theorem dX4_find_47 : decode cX4_find 47 = .ok (.iconst 0, 1) := by decide +kernel
theorem dX4_find_48 : decode cX4_find 48 = .ok (.istore 8, 2) := by decide +kernel
theorem dX4_find_50 : decode cX4_find 50 = .ok (.iload 8, 2) := by decide +kernel
theorem dX4_find_52 : decode cX4_find 52 = .ok (.iload_n 3, 1) := by decide +kernel
theorem dX4_find_53 : decode cX4_find 53 = .ok (.if_icmp .ge 43, 3) := by decide +kernel
theorem dX4_find_56 : decode cX4_find 56 = .ok (.iload 7, 2) := by decide +kernel
theorem dX4_find_58 : decode cX4_find 58 = .ok (.ifCond .eq 38, 3) := by decide +kernel
theorem dX4_find_61 : decode cX4_find 61 = .ok (.aload_n 0, 1) := by decide +kernel
theorem dX4_find_62 : decode cX4_find 62 = .ok (.getfield 15, 3) := by decide +kernel
theorem dX4_find_65 : decode cX4_find 65 = .ok (.iload 6, 2) := by decide +kernel
theorem dX4_find_67 : decode cX4_find 67 = .ok (.bipush 7, 2) := by decide +kernel
theorem dX4_find_69 : decode cX4_find 69 = .ok (.imul, 1) := by decide +kernel
theorem dX4_find_70 : decode cX4_find 70 = .ok (.iload 8, 2) := by decide +kernel
theorem dX4_find_72 : decode cX4_find 72 = .ok (.iadd, 1) := by decide +kernel
theorem dX4_find_73 : decode cX4_find 73 = .ok (.iaload, 1) := by decide +kernel
theorem dX4_find_74 : decode cX4_find 74 = .ok (.aload_n 1, 1) := by decide +kernel
theorem dX4_find_75 : decode cX4_find 75 = .ok (.iload_n 2, 1) := by decide +kernel
theorem dX4_find_76 : decode cX4_find 76 = .ok (.iload 8, 2) := by decide +kernel
theorem dX4_find_78 : decode cX4_find 78 = .ok (.iadd, 1) := by decide +kernel
theorem dX4_find_79 : decode cX4_find 79 = .ok (.iaload, 1) := by decide +kernel
theorem dX4_find_80 : decode cX4_find 80 = .ok (.if_icmp .ne 7, 3) := by decide +kernel
theorem dX4_find_83 : decode cX4_find 83 = .ok (.iconst 1, 1) := by decide +kernel
theorem dX4_find_84 : decode cX4_find 84 = .ok (.goto 4, 3) := by decide +kernel
theorem dX4_find_87 : decode cX4_find 87 = .ok (.iconst 0, 1) := by decide +kernel
theorem dX4_find_88 : decode cX4_find 88 = .ok (.istore 7, 2) := by decide +kernel
theorem dX4_find_90 : decode cX4_find 90 = .ok (.iinc 8 1, 3) := by decide +kernel
theorem dX4_find_93 : decode cX4_find 93 = .ok (.goto (-43), 3) := by decide +kernel
theorem dX4_find_96 : decode cX4_find 96 = .ok (.iload 7, 2) := by decide +kernel
theorem dX4_find_98 : decode cX4_find 98 = .ok (.ifCond .eq 6, 3) := by decide +kernel
theorem dX4_find_101 : decode cX4_find 101 = .ok (.iload 5, 2) := by decide +kernel
theorem dX4_find_103 : decode cX4_find 103 = .ok (.ireturn, 1) := by decide +kernel
theorem dX4_find_104 : decode cX4_find 104 = .ok (.iinc 5 1, 3) := by decide +kernel
theorem dX4_find_107 : decode cX4_find 107 = .ok (.goto (-99), 3) := by decide +kernel
theorem dX4_find_110 : decode cX4_find 110 = .ok (.iconst (-1), 1) := by decide +kernel
theorem dX4_find_111 : decode cX4_find 111 = .ok (.ireturn, 1) := by decide +kernel
theorem dX4_leadBack_0 : decode cX4_leadBack 0 = .ok (.iconst 0, 1) := by decide +kernel
theorem dX4_leadBack_1 : decode cX4_leadBack 1 = .ok (.istore_n 1, 1) := by decide +kernel
theorem dX4_leadBack_2 : decode cX4_leadBack 2 = .ok (.iconst 0, 1) := by decide +kernel
theorem dX4_leadBack_3 : decode cX4_leadBack 3 = .ok (.istore_n 2, 1) := by decide +kernel
theorem dX4_leadBack_4 : decode cX4_leadBack 4 = .ok (.iload_n 2, 1) := by decide +kernel
theorem dX4_leadBack_5 : decode cX4_leadBack 5 = .ok (.aload_n 0, 1) := by decide +kernel
theorem dX4_leadBack_6 : decode cX4_leadBack 6 = .ok (.getfield 59, 3) := by decide +kernel
theorem dX4_leadBack_9 : decode cX4_leadBack 9 = .ok (.if_icmp .ge 30, 3) := by decide +kernel
theorem dX4_leadBack_12 : decode cX4_leadBack 12 = .ok (.aload_n 0, 1) := by decide +kernel
theorem dX4_leadBack_13 : decode cX4_leadBack 13 = .ok (.getfield 39, 3) := by decide +kernel
theorem dX4_leadBack_16 : decode cX4_leadBack 16 = .ok (.iload_n 2, 1) := by decide +kernel
theorem dX4_leadBack_17 : decode cX4_leadBack 17 = .ok (.baload, 1) := by decide +kernel
theorem dX4_leadBack_18 : decode cX4_leadBack 18 = .ok (.iconst 2, 1) := by decide +kernel
theorem dX4_leadBack_19 : decode cX4_leadBack 19 = .ok (.iand, 1) := by decide +kernel
theorem dX4_leadBack_20 : decode cX4_leadBack 20 = .ok (.ifCond .eq 13, 3) := by decide +kernel
theorem dX4_leadBack_23 : decode cX4_leadBack 23 = .ok (.aload_n 0, 1) := by decide +kernel
theorem dX4_leadBack_24 : decode cX4_leadBack 24 = .ok (.getfield 33, 3) := by decide +kernel
theorem dX4_leadBack_27 : decode cX4_leadBack 27 = .ok (.iload_n 1, 1) := by decide +kernel
theorem dX4_leadBack_28 : decode cX4_leadBack 28 = .ok (.iload_n 2, 1) := by decide +kernel
theorem dX4_leadBack_29 : decode cX4_leadBack 29 = .ok (.iastore, 1) := by decide +kernel
theorem dX4_leadBack_30 : decode cX4_leadBack 30 = .ok (.iinc 1 1, 3) := by decide +kernel
theorem dX4_leadBack_33 : decode cX4_leadBack 33 = .ok (.iinc 2 1, 3) := by decide +kernel
theorem dX4_leadBack_36 : decode cX4_leadBack 36 = .ok (.goto (-32), 3) := by decide +kernel
theorem dX4_leadBack_39 : decode cX4_leadBack 39 = .ok (.iconst 0, 1) := by decide +kernel
theorem dX4_leadBack_40 : decode cX4_leadBack 40 = .ok (.istore_n 2, 1) := by decide +kernel
theorem dX4_leadBack_41 : decode cX4_leadBack 41 = .ok (.iload_n 2, 1) := by decide +kernel
theorem dX4_leadBack_42 : decode cX4_leadBack 42 = .ok (.iload_n 1, 1) := by decide +kernel
theorem dX4_leadBack_43 : decode cX4_leadBack 43 = .ok (.if_icmp .ge 31, 3) := by decide +kernel
theorem dX4_leadBack_46 : decode cX4_leadBack 46 = .ok (.aload_n 0, 1) := by decide +kernel
theorem dX4_leadBack_47 : decode cX4_leadBack 47 = .ok (.aload_n 0, 1) := by decide +kernel
theorem dX4_leadBack_48 : decode cX4_leadBack 48 = .ok (.getfield 33, 3) := by decide +kernel
theorem dX4_leadBack_51 : decode cX4_leadBack 51 = .ok (.iload_n 2, 1) := by decide +kernel
theorem dX4_leadBack_52 : decode cX4_leadBack 52 = .ok (.iaload, 1) := by decide +kernel
theorem dX4_leadBack_53 : decode cX4_leadBack 53 = .ok (.invokevirtual 85, 3) := by decide +kernel
theorem dX4_leadBack_56 : decode cX4_leadBack 56 = .ok (.aload_n 0, 1) := by decide +kernel
theorem dX4_leadBack_57 : decode cX4_leadBack 57 = .ok (.aload_n 0, 1) := by decide +kernel
theorem dX4_leadBack_58 : decode cX4_leadBack 58 = .ok (.getfield 33, 3) := by decide +kernel
theorem dX4_leadBack_61 : decode cX4_leadBack 61 = .ok (.iload_n 2, 1) := by decide +kernel
theorem dX4_leadBack_62 : decode cX4_leadBack 62 = .ok (.iaload, 1) := by decide +kernel
theorem dX4_leadBack_63 : decode cX4_leadBack 63 = .ok (.iload_n 1, 1) := by decide +kernel
theorem dX4_leadBack_64 : decode cX4_leadBack 64 = .ok (.invokevirtual 127, 3) := by decide +kernel
theorem dX4_leadBack_67 : decode cX4_leadBack 67 = .ok (.istore_n 1, 1) := by decide +kernel
theorem dX4_leadBack_68 : decode cX4_leadBack 68 = .ok (.iinc 2 1, 3) := by decide +kernel
theorem dX4_leadBack_71 : decode cX4_leadBack 71 = .ok (.goto (-30), 3) := by decide +kernel
theorem dX4_leadBack_74 : decode cX4_leadBack 74 = .ok (.iload_n 1, 1) := by decide +kernel
theorem dX4_leadBack_75 : decode cX4_leadBack 75 = .ok (.ireturn, 1) := by decide +kernel
theorem dX4_need_0 : decode cX4_need 0 = .ok (.aload_n 0, 1) := by decide +kernel
theorem dX4_need_1 : decode cX4_need 1 = .ok (.getfield 15, 3) := by decide +kernel
theorem dX4_need_4 : decode cX4_need 4 = .ok (.iload_n 1, 1) := by decide +kernel
theorem dX4_need_5 : decode cX4_need 5 = .ok (.bipush 7, 2) := by decide +kernel
theorem dX4_need_7 : decode cX4_need 7 = .ok (.imul, 1) := by decide +kernel
theorem dX4_need_8 : decode cX4_need 8 = .ok (.iconst 1, 1) := by decide +kernel
theorem dX4_need_9 : decode cX4_need 9 = .ok (.iadd, 1) := by decide +kernel
theorem dX4_need_10 : decode cX4_need 10 = .ok (.iaload, 1) := by decide +kernel
theorem dX4_need_11 : decode cX4_need 11 = .ok (.istore_n 2, 1) := by decide +kernel
theorem dX4_need_12 : decode cX4_need 12 = .ok (.aload_n 0, 1) := by decide +kernel
theorem dX4_need_13 : decode cX4_need 13 = .ok (.getfield 21, 3) := by decide +kernel
theorem dX4_need_16 : decode cX4_need 16 = .ok (.iload_n 1, 1) := by decide +kernel
theorem dX4_need_17 : decode cX4_need 17 = .ok (.iload_n 2, 1) := by decide +kernel
theorem dX4_need_18 : decode cX4_need 18 = .ok (.iastore, 1) := by decide +kernel
theorem dX4_need_19 : decode cX4_need 19 = .ok (.aload_n 0, 1) := by decide +kernel
theorem dX4_need_20 : decode cX4_need 20 = .ok (.getfield 24, 3) := by decide +kernel
theorem dX4_need_23 : decode cX4_need 23 = .ok (.iload_n 1, 1) := by decide +kernel
theorem dX4_need_24 : decode cX4_need 24 = .ok (.iload_n 2, 1) := by decide +kernel
theorem dX4_need_25 : decode cX4_need 25 = .ok (.ifCond .ne 7, 3) := by decide +kernel
theorem dX4_need_28 : decode cX4_need 28 = .ok (.iconst 0, 1) := by decide +kernel
theorem dX4_need_29 : decode cX4_need 29 = .ok (.goto 25, 3) := by decide +kernel
theorem dX4_need_32 : decode cX4_need 32 = .ok (.aload_n 0, 1) := by decide +kernel
theorem dX4_need_33 : decode cX4_need 33 = .ok (.aload_n 0, 1) := by decide +kernel
theorem dX4_need_34 : decode cX4_need 34 = .ok (.getfield 15, 3) := by decide +kernel
theorem dX4_need_37 : decode cX4_need 37 = .ok (.iload_n 1, 1) := by decide +kernel
theorem dX4_need_38 : decode cX4_need 38 = .ok (.bipush 7, 2) := by decide +kernel
theorem dX4_need_40 : decode cX4_need 40 = .ok (.imul, 1) := by decide +kernel
theorem dX4_need_41 : decode cX4_need 41 = .ok (.iconst 1, 1) := by decide +kernel
theorem dX4_need_42 : decode cX4_need 42 = .ok (.iadd, 1) := by decide +kernel
theorem dX4_need_43 : decode cX4_need 43 = .ok (.aload_n 0, 1) := by decide +kernel
theorem dX4_need_44 : decode cX4_need 44 = .ok (.getfield 18, 3) := by decide +kernel
theorem dX4_need_47 : decode cX4_need 47 = .ok (.iload_n 1, 1) := by decide +kernel
theorem dX4_need_48 : decode cX4_need 48 = .ok (.iaload, 1) := by decide +kernel
theorem dX4_need_49 : decode cX4_need 49 = .ok (.iconst 1, 1) := by decide +kernel
theorem dX4_need_50 : decode cX4_need 50 = .ok (.isub, 1) := by decide +kernel
theorem dX4_need_51 : decode cX4_need 51 = .ok (.invokevirtual 67, 3) := by decide +kernel
theorem dX4_need_54 : decode cX4_need 54 = .ok (.iastore, 1) := by decide +kernel
theorem dX4_need_55 : decode cX4_need 55 = .ok (.return_, 1) := by decide +kernel
theorem dX4_prepare_0 : decode cX4_prepare 0 = .ok (.aload_n 0, 1) := by decide +kernel
theorem dX4_prepare_1 : decode cX4_prepare 1 = .ok (.iconst 1, 1) := by decide +kernel
theorem dX4_prepare_2 : decode cX4_prepare 2 = .ok (.putfield 59, 3) := by decide +kernel
theorem dX4_prepare_5 : decode cX4_prepare 5 = .ok (.bipush 6, 2) := by decide +kernel
theorem dX4_prepare_7 : decode cX4_prepare 7 = .ok (.istore_n 1, 1) := by decide +kernel
theorem dX4_prepare_8 : decode cX4_prepare 8 = .ok (.iload_n 1, 1) := by decide +kernel
theorem dX4_prepare_9 : decode cX4_prepare 9 = .ok (.iconst 1, 1) := by decide +kernel
theorem dX4_prepare_10 : decode cX4_prepare 10 = .ok (.if_icmp .lt 63, 3) := by decide +kernel
theorem dX4_prepare_13 : decode cX4_prepare 13 = .ok (.aload_n 0, 1) := by decide +kernel
theorem dX4_prepare_14 : decode cX4_prepare 14 = .ok (.getfield 27, 3) := by decide +kernel
theorem dX4_prepare_17 : decode cX4_prepare 17 = .ok (.iload_n 1, 1) := by decide +kernel
theorem dX4_prepare_18 : decode cX4_prepare 18 = .ok (.aload_n 0, 1) := by decide +kernel
theorem dX4_prepare_19 : decode cX4_prepare 19 = .ok (.getfield 59, 3) := by decide +kernel
theorem dX4_prepare_22 : decode cX4_prepare 22 = .ok (.iastore, 1) := by decide +kernel
theorem dX4_prepare_23 : decode cX4_prepare 23 = .ok (.aload_n 0, 1) := by decide +kernel
theorem dX4_prepare_24 : decode cX4_prepare 24 = .ok (.dup, 1) := by decide +kernel
theorem dX4_prepare_25 : decode cX4_prepare 25 = .ok (.getfield 59, 3) := by decide +kernel
theorem dX4_prepare_28 : decode cX4_prepare 28 = .ok (.aload_n 0, 1) := by decide +kernel
theorem dX4_prepare_29 : decode cX4_prepare 29 = .ok (.getfield 11, 3) := by decide +kernel
theorem dX4_prepare_32 : decode cX4_prepare 32 = .ok (.iload_n 1, 1) := by decide +kernel
theorem dX4_prepare_33 : decode cX4_prepare 33 = .ok (.iaload, 1) := by decide +kernel
theorem dX4_prepare_34 : decode cX4_prepare 34 = .ok (.iconst 1, 1) := by decide +kernel
theorem dX4_prepare_35 : decode cX4_prepare 35 = .ok (.iadd, 1) := by decide +kernel
theorem dX4_prepare_36 : decode cX4_prepare 36 = .ok (.imul, 1) := by decide +kernel
theorem dX4_prepare_37 : decode cX4_prepare 37 = .ok (.putfield 59, 3) := by decide +kernel
theorem dX4_prepare_40 : decode cX4_prepare 40 = .ok (.iconst 0, 1) := by decide +kernel
theorem dX4_prepare_41 : decode cX4_prepare 41 = .ok (.istore_n 2, 1) := by decide +kernel
theorem dX4_prepare_42 : decode cX4_prepare 42 = .ok (.iload_n 2, 1) := by decide +kernel
theorem dX4_prepare_43 : decode cX4_prepare 43 = .ok (.aload_n 0, 1) := by decide +kernel
theorem dX4_prepare_44 : decode cX4_prepare 44 = .ok (.getfield 11, 3) := by decide +kernel
theorem dX4_prepare_47 : decode cX4_prepare 47 = .ok (.iload_n 1, 1) := by decide +kernel
theorem dX4_prepare_48 : decode cX4_prepare 48 = .ok (.iaload, 1) := by decide +kernel
theorem dX4_prepare_49 : decode cX4_prepare 49 = .ok (.if_icmp .ge 18, 3) := by decide +kernel
theorem dX4_prepare_52 : decode cX4_prepare 52 = .ok (.aload_n 0, 1) := by decide +kernel
theorem dX4_prepare_53 : decode cX4_prepare 53 = .ok (.iload_n 1, 1) := by decide +kernel
theorem dX4_prepare_54 : decode cX4_prepare 54 = .ok (.iconst 5, 1) := by decide +kernel
theorem dX4_prepare_55 : decode cX4_prepare 55 = .ok (.imul, 1) := by decide +kernel
theorem dX4_prepare_56 : decode cX4_prepare 56 = .ok (.iload_n 2, 1) := by decide +kernel
theorem dX4_prepare_57 : decode cX4_prepare 57 = .ok (.iadd, 1) := by decide +kernel
theorem dX4_prepare_58 : decode cX4_prepare 58 = .ok (.invokevirtual 63, 3) := by decide +kernel
theorem dX4_prepare_61 : decode cX4_prepare 61 = .ok (.iinc 2 1, 3) := by decide +kernel
theorem dX4_prepare_64 : decode cX4_prepare 64 = .ok (.goto (-22), 3) := by decide +kernel
theorem dX4_prepare_67 : decode cX4_prepare 67 = .ok (.iinc 1 (-1), 3) := by decide +kernel
theorem dX4_prepare_70 : decode cX4_prepare 70 = .ok (.goto (-62), 3) := by decide +kernel
theorem dX4_prepare_73 : decode cX4_prepare 73 = .ok (.return_, 1) := by decide +kernel
theorem dX4_spread_0 : decode cX4_spread 0 = .ok (.aload_n 0, 1) := by decide +kernel
theorem dX4_spread_1 : decode cX4_spread 1 = .ok (.getfield 43, 3) := by decide +kernel
theorem dX4_spread_4 : decode cX4_spread 4 = .ok (.iconst 1, 1) := by decide +kernel
theorem dX4_spread_5 : decode cX4_spread 5 = .ok (.iconst 0, 1) := by decide +kernel
theorem dX4_spread_6 : decode cX4_spread 6 = .ok (.iastore, 1) := by decide +kernel
theorem dX4_spread_7 : decode cX4_spread 7 = .ok (.aload_n 0, 1) := by decide +kernel
theorem dX4_spread_8 : decode cX4_spread 8 = .ok (.getfield 43, 3) := by decide +kernel
theorem dX4_spread_11 : decode cX4_spread 11 = .ok (.iconst 3, 1) := by decide +kernel
theorem dX4_spread_12 : decode cX4_spread 12 = .ok (.ldc 123, 2) := by decide +kernel
theorem dX4_spread_14 : decode cX4_spread 14 = .ok (.iastore, 1) := by decide +kernel
theorem dX4_spread_15 : decode cX4_spread 15 = .ok (.aload_n 0, 1) := by decide +kernel
theorem dX4_spread_16 : decode cX4_spread 16 = .ok (.getfield 33, 3) := by decide +kernel
theorem dX4_spread_19 : decode cX4_spread 19 = .ok (.iconst 0, 1) := by decide +kernel
theorem dX4_spread_20 : decode cX4_spread 20 = .ok (.aload_n 0, 1) := by decide +kernel
theorem dX4_spread_21 : decode cX4_spread 21 = .ok (.getfield 59, 3) := by decide +kernel
theorem dX4_spread_24 : decode cX4_spread 24 = .ok (.iconst 1, 1) := by decide +kernel
theorem dX4_spread_25 : decode cX4_spread 25 = .ok (.isub, 1) := by decide +kernel
theorem dX4_spread_26 : decode cX4_spread 26 = .ok (.iastore, 1) := by decide +kernel
theorem dX4_spread_27 : decode cX4_spread 27 = .ok (.aload_n 0, 1) := by decide +kernel
theorem dX4_spread_28 : decode cX4_spread 28 = .ok (.getfield 39, 3) := by decide +kernel
theorem dX4_spread_31 : decode cX4_spread 31 = .ok (.aload_n 0, 1) := by decide +kernel
theorem dX4_spread_32 : decode cX4_spread 32 = .ok (.getfield 59, 3) := by decide +kernel
theorem dX4_spread_35 : decode cX4_spread 35 = .ok (.iconst 1, 1) := by decide +kernel
theorem dX4_spread_36 : decode cX4_spread 36 = .ok (.isub, 1) := by decide +kernel
theorem dX4_spread_37 : decode cX4_spread 37 = .ok (.iconst 1, 1) := by decide +kernel
theorem dX4_spread_38 : decode cX4_spread 38 = .ok (.bastore, 1) := by decide +kernel
theorem dX4_spread_39 : decode cX4_spread 39 = .ok (.iconst 1, 1) := by decide +kernel
theorem dX4_spread_40 : decode cX4_spread 40 = .ok (.istore_n 1, 1) := by decide +kernel
theorem dX4_spread_41 : decode cX4_spread 41 = .ok (.iconst 0, 1) := by decide +kernel
theorem dX4_spread_42 : decode cX4_spread 42 = .ok (.istore_n 2, 1) := by decide +kernel
theorem dX4_spread_43 : decode cX4_spread 43 = .ok (.iconst 1, 1) := by decide +kernel
theorem dX4_spread_44 : decode cX4_spread 44 = .ok (.istore_n 3, 1) := by decide +kernel
theorem dX4_spread_45 : decode cX4_spread 45 = .ok (.iconst 0, 1) := by decide +kernel
theorem dX4_spread_46 : decode cX4_spread 46 = .ok (.istore 4, 2) := by decide +kernel
theorem dX4_spread_48 : decode cX4_spread 48 = .ok (.iload 4, 2) := by decide +kernel
theorem dX4_spread_50 : decode cX4_spread 50 = .ok (.iload_n 1, 1) := by decide +kernel
theorem dX4_spread_51 : decode cX4_spread 51 = .ok (.if_icmp .ge 105, 3) := by decide +kernel
theorem dX4_spread_54 : decode cX4_spread 54 = .ok (.iload 4, 2) := by decide +kernel
theorem dX4_spread_56 : decode cX4_spread 56 = .ok (.iload_n 3, 1) := by decide +kernel
theorem dX4_spread_57 : decode cX4_spread 57 = .ok (.if_icmp .ne 8, 3) := by decide +kernel
theorem dX4_spread_60 : decode cX4_spread 60 = .ok (.iinc 2 1, 3) := by decide +kernel
theorem dX4_spread_63 : decode cX4_spread 63 = .ok (.iload_n 1, 1) := by decide +kernel
theorem dX4_spread_64 : decode cX4_spread 64 = .ok (.istore_n 3, 1) := by decide +kernel
theorem dX4_spread_65 : decode cX4_spread 65 = .ok (.aload_n 0, 1) := by decide +kernel
theorem dX4_spread_66 : decode cX4_spread 66 = .ok (.aload_n 0, 1) := by decide +kernel
theorem dX4_spread_67 : decode cX4_spread 67 = .ok (.getfield 33, 3) := by decide +kernel
theorem dX4_spread_70 : decode cX4_spread 70 = .ok (.iload 4, 2) := by decide +kernel
theorem dX4_spread_72 : decode cX4_spread 72 = .ok (.iaload, 1) := by decide +kernel
theorem dX4_spread_73 : decode cX4_spread 73 = .ok (.invokevirtual 85, 3) := by decide +kernel
theorem dX4_spread_76 : decode cX4_spread 76 = .ok (.aload_n 0, 1) := by decide +kernel
theorem dX4_spread_77 : decode cX4_spread 77 = .ok (.aload_n 0, 1) := by decide +kernel
theorem dX4_spread_78 : decode cX4_spread 78 = .ok (.getfield 33, 3) := by decide +kernel
theorem dX4_spread_81 : decode cX4_spread 81 = .ok (.iload 4, 2) := by decide +kernel
theorem dX4_spread_83 : decode cX4_spread 83 = .ok (.iaload, 1) := by decide +kernel
theorem dX4_spread_84 : decode cX4_spread 84 = .ok (.iload_n 1, 1) := by decide +kernel
theorem dX4_spread_85 : decode cX4_spread 85 = .ok (.invokevirtual 124, 3) := by decide +kernel
theorem dX4_spread_88 : decode cX4_spread 88 = .ok (.istore_n 1, 1) := by decide +kernel
theorem dX4_spread_89 : decode cX4_spread 89 = .ok (.aload_n 0, 1) := by decide +kernel
theorem dX4_spread_90 : decode cX4_spread 90 = .ok (.invokevirtual 88, 3) := by decide +kernel
theorem dX4_spread_93 : decode cX4_spread 93 = .ok (.ifCond .eq 57, 3) := by decide +kernel
theorem dX4_spread_96 : decode cX4_spread 96 = .ok (.aload_n 0, 1) := by decide +kernel
theorem dX4_spread_97 : decode cX4_spread 97 = .ok (.getfield 39, 3) := by decide +kernel
theorem dX4_spread_100 : decode cX4_spread 100 = .ok (.aload_n 0, 1) := by decide +kernel
theorem dX4_spread_101 : decode cX4_spread 101 = .ok (.getfield 33, 3) := by decide +kernel
theorem dX4_spread_104 : decode cX4_spread 104 = .ok (.iload 4, 2) := by decide +kernel
theorem dX4_spread_106 : decode cX4_spread 106 = .ok (.iaload, 1) := by decide +kernel
theorem dX4_spread_107 : decode cX4_spread 107 = .ok (.dup2, 1) := by decide +kernel
theorem dX4_spread_108 : decode cX4_spread 108 = .ok (.baload, 1) := by decide +kernel
theorem dX4_spread_109 : decode cX4_spread 109 = .ok (.iconst 2, 1) := by decide +kernel
theorem dX4_spread_110 : decode cX4_spread 110 = .ok (.ior, 1) := by decide +kernel
theorem dX4_spread_111 : decode cX4_spread 111 = .ok (.i2b, 1) := by decide +kernel
theorem dX4_spread_112 : decode cX4_spread 112 = .ok (.bastore, 1) := by decide +kernel
theorem dX4_spread_113 : decode cX4_spread 113 = .ok (.aload_n 0, 1) := by decide +kernel
theorem dX4_spread_114 : decode cX4_spread 114 = .ok (.getfield 43, 3) := by decide +kernel
theorem dX4_spread_117 : decode cX4_spread 117 = .ok (.iconst 1, 1) := by decide +kernel
theorem dX4_spread_118 : decode cX4_spread 118 = .ok (.dup2, 1) := by decide +kernel
theorem dX4_spread_119 : decode cX4_spread 119 = .ok (.iaload, 1) := by decide +kernel
theorem dX4_spread_120 : decode cX4_spread 120 = .ok (.iconst 1, 1) := by decide +kernel
theorem dX4_spread_121 : decode cX4_spread 121 = .ok (.iadd, 1) := by decide +kernel
theorem dX4_spread_122 : decode cX4_spread 122 = .ok (.iastore, 1) := by decide +kernel
theorem dX4_spread_123 : decode cX4_spread 123 = .ok (.aload_n 0, 1) := by decide +kernel
theorem dX4_spread_124 : decode cX4_spread 124 = .ok (.getfield 43, 3) := by decide +kernel
theorem dX4_spread_127 : decode cX4_spread 127 = .ok (.iconst 3, 1) := by decide +kernel
theorem dX4_spread_128 : decode cX4_spread 128 = .ok (.aload_n 0, 1) := by decide +kernel
theorem dX4_spread_129 : decode cX4_spread 129 = .ok (.getfield 43, 3) := by decide +kernel
theorem dX4_spread_132 : decode cX4_spread 132 = .ok (.iconst 3, 1) := by decide +kernel
theorem dX4_spread_133 : decode cX4_spread 133 = .ok (.iaload, 1) := by decide +kernel
theorem dX4_spread_134 : decode cX4_spread 134 = .ok (.ldc 123, 2) := by decide +kernel
theorem dX4_spread_136 : decode cX4_spread 136 = .ok (.if_icmp .ne 7, 3) := by decide +kernel
theorem dX4_spread_139 : decode cX4_spread 139 = .ok (.iload_n 2, 1) := by decide +kernel
theorem dX4_spread_140 : decode cX4_spread 140 = .ok (.goto 9, 3) := by decide +kernel
theorem dX4_spread_143 : decode cX4_spread 143 = .ok (.aload_n 0, 1) := by decide +kernel
theorem dX4_spread_144 : decode cX4_spread 144 = .ok (.getfield 43, 3) := by decide +kernel
theorem dX4_spread_147 : decode cX4_spread 147 = .ok (.iconst 3, 1) := by decide +kernel
theorem dX4_spread_148 : decode cX4_spread 148 = .ok (.iaload, 1) := by decide +kernel
theorem dX4_spread_149 : decode cX4_spread 149 = .ok (.iastore, 1) := by decide +kernel
theorem dX4_spread_150 : decode cX4_spread 150 = .ok (.iinc 4 1, 3) := by decide +kernel
theorem dX4_spread_153 : decode cX4_spread 153 = .ok (.goto (-105), 3) := by decide +kernel
theorem dX4_spread_156 : decode cX4_spread 156 = .ok (.iload_n 1, 1) := by decide +kernel
theorem dX4_spread_157 : decode cX4_spread 157 = .ok (.ireturn, 1) := by decide +kernel
theorem dX4_wayInRest_0 : decode cX4_wayInRest 0 = .ok (.aload_n 0, 1) := by decide +kernel
theorem dX4_wayInRest_1 : decode cX4_wayInRest 1 = .ok (.aload_n 0, 1) := by decide +kernel
theorem dX4_wayInRest_2 : decode cX4_wayInRest 2 = .ok (.getfield 36, 3) := by decide +kernel
theorem dX4_wayInRest_5 : decode cX4_wayInRest 5 = .ok (.iload_n 1, 1) := by decide +kernel
theorem dX4_wayInRest_6 : decode cX4_wayInRest 6 = .ok (.iaload, 1) := by decide +kernel
theorem dX4_wayInRest_7 : decode cX4_wayInRest 7 = .ok (.iload_n 2, 1) := by decide +kernel
theorem dX4_wayInRest_8 : decode cX4_wayInRest 8 = .ok (.invokevirtual 75, 3) := by decide +kernel
theorem dX4_wayInRest_11 : decode cX4_wayInRest 11 = .ok (.istore_n 3, 1) := by decide +kernel
theorem dX4_wayInRest_12 : decode cX4_wayInRest 12 = .ok (.iload_n 3, 1) := by decide +kernel
theorem dX4_wayInRest_13 : decode cX4_wayInRest 13 = .ok (.aload_n 0, 1) := by decide +kernel
theorem dX4_wayInRest_14 : decode cX4_wayInRest 14 = .ok (.getfield 11, 3) := by decide +kernel
theorem dX4_wayInRest_17 : decode cX4_wayInRest 17 = .ok (.iload_n 2, 1) := by decide +kernel
theorem dX4_wayInRest_18 : decode cX4_wayInRest 18 = .ok (.iaload, 1) := by decide +kernel
theorem dX4_wayInRest_19 : decode cX4_wayInRest 19 = .ok (.if_icmp .ne 8, 3) := by decide +kernel
theorem dX4_wayInRest_22 : decode cX4_wayInRest 22 = .ok (.bipush (-4), 2) := by decide +kernel
theorem dX4_wayInRest_24 : decode cX4_wayInRest 24 = .ok (.goto 4, 3) := by decide +kernel
theorem dX4_wayInRest_27 : decode cX4_wayInRest 27 = .ok (.iload_n 3, 1) := by decide +kernel
theorem dX4_wayInRest_28 : decode cX4_wayInRest 28 = .ok (.ireturn, 1) := by decide +kernel
