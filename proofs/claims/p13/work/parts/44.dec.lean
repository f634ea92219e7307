theorem dX12_addMark_0 : decode cX12_addMark 0 = .ok (.aload_n 0, 1) := by decide +kernel
theorem dX12_addMark_1 : decode cX12_addMark 1 = .ok (.getfield 148, 3) := by decide +kernel
theorem dX12_addMark_4 : decode cX12_addMark 4 = .ok (.bipush 40, 2) := by decide +kernel
theorem dX12_addMark_6 : decode cX12_addMark 6 = .ok (.iload_n 1, 1) := by decide +kernel
theorem dX12_addMark_7 : decode cX12_addMark 7 = .ok (.imul, 1) := by decide +kernel
theorem dX12_addMark_8 : decode cX12_addMark 8 = .ok (.iconst 5, 1) := by decide +kernel
theorem dX12_addMark_9 : decode cX12_addMark 9 = .ok (.iadd, 1) := by decide +kernel
theorem dX12_addMark_10 : decode cX12_addMark 10 = .ok (.iaload, 1) := by decide +kernel
theorem dX12_addMark_11 : decode cX12_addMark 11 = .ok (.istore_n 3, 1) := by decide +kernel
theorem dX12_addMark_12 : decode cX12_addMark 12 = .ok (.iload_n 3, 1) := by decide +kernel
theorem dX12_addMark_13 : decode cX12_addMark 13 = .ok (.bipush 8, 2) := by decide +kernel
theorem dX12_addMark_15 : decode cX12_addMark 15 = .ok (.if_icmp .eq 12, 3) := by decide +kernel
theorem dX12_addMark_18 : decode cX12_addMark 18 = .ok (.aload_n 0, 1) := by decide +kernel
theorem dX12_addMark_19 : decode cX12_addMark 19 = .ok (.iload_n 1, 1) := by decide +kernel
theorem dX12_addMark_20 : decode cX12_addMark 20 = .ok (.iload_n 2, 1) := by decide +kernel
theorem dX12_addMark_21 : decode cX12_addMark 21 = .ok (.invokevirtual 154, 3) := by decide +kernel
theorem dX12_addMark_24 : decode cX12_addMark 24 = .ok (.ifCond .eq 4, 3) := by decide +kernel
theorem dX12_addMark_27 : decode cX12_addMark 27 = .ok (.return_, 1) := by decide +kernel
theorem dX12_addMark_28 : decode cX12_addMark 28 = .ok (.bipush 40, 2) := by decide +kernel
theorem dX12_addMark_30 : decode cX12_addMark 30 = .ok (.iload_n 1, 1) := by decide +kernel
theorem dX12_addMark_31 : decode cX12_addMark 31 = .ok (.imul, 1) := by decide +kernel
theorem dX12_addMark_32 : decode cX12_addMark 32 = .ok (.bipush 26, 2) := by decide +kernel
theorem dX12_addMark_34 : decode cX12_addMark 34 = .ok (.iadd, 1) := by decide +kernel
theorem dX12_addMark_35 : decode cX12_addMark 35 = .ok (.iload_n 3, 1) := by decide +kernel
theorem dX12_addMark_36 : decode cX12_addMark 36 = .ok (.iadd, 1) := by decide +kernel
theorem dX12_addMark_37 : decode cX12_addMark 37 = .ok (.istore 4, 2) := by decide +kernel
theorem dX12_addMark_39 : decode cX12_addMark 39 = .ok (.iload 4, 2) := by decide +kernel
theorem dX12_addMark_41 : decode cX12_addMark 41 = .ok (.bipush 40, 2) := by decide +kernel
theorem dX12_addMark_43 : decode cX12_addMark 43 = .ok (.iload_n 1, 1) := by decide +kernel
theorem dX12_addMark_44 : decode cX12_addMark 44 = .ok (.imul, 1) := by decide +kernel
theorem dX12_addMark_45 : decode cX12_addMark 45 = .ok (.bipush 26, 2) := by decide +kernel
theorem dX12_addMark_47 : decode cX12_addMark 47 = .ok (.iadd, 1) := by decide +kernel
theorem dX12_addMark_48 : decode cX12_addMark 48 = .ok (.if_icmp .le 38, 3) := by decide +kernel
theorem dX12_addMark_51 : decode cX12_addMark 51 = .ok (.aload_n 0, 1) := by decide +kernel
theorem dX12_addMark_52 : decode cX12_addMark 52 = .ok (.getfield 148, 3) := by decide +kernel
theorem dX12_addMark_55 : decode cX12_addMark 55 = .ok (.iload 4, 2) := by decide +kernel
theorem dX12_addMark_57 : decode cX12_addMark 57 = .ok (.iconst 1, 1) := by decide +kernel
theorem dX12_addMark_58 : decode cX12_addMark 58 = .ok (.isub, 1) := by decide +kernel
theorem dX12_addMark_59 : decode cX12_addMark 59 = .ok (.iaload, 1) := by decide +kernel
theorem dX12_addMark_60 : decode cX12_addMark 60 = .ok (.iload_n 2, 1) := by decide +kernel
theorem dX12_addMark_61 : decode cX12_addMark 61 = .ok (.if_icmp .le 25, 3) := by decide +kernel
theorem dX12_addMark_64 : decode cX12_addMark 64 = .ok (.aload_n 0, 1) := by decide +kernel
theorem dX12_addMark_65 : decode cX12_addMark 65 = .ok (.getfield 148, 3) := by decide +kernel
theorem dX12_addMark_68 : decode cX12_addMark 68 = .ok (.iload 4, 2) := by decide +kernel
theorem dX12_addMark_70 : decode cX12_addMark 70 = .ok (.aload_n 0, 1) := by decide +kernel
theorem dX12_addMark_71 : decode cX12_addMark 71 = .ok (.getfield 148, 3) := by decide +kernel
theorem dX12_addMark_74 : decode cX12_addMark 74 = .ok (.iload 4, 2) := by decide +kernel
theorem dX12_addMark_76 : decode cX12_addMark 76 = .ok (.iconst 1, 1) := by decide +kernel
theorem dX12_addMark_77 : decode cX12_addMark 77 = .ok (.isub, 1) := by decide +kernel
theorem dX12_addMark_78 : decode cX12_addMark 78 = .ok (.iaload, 1) := by decide +kernel
theorem dX12_addMark_79 : decode cX12_addMark 79 = .ok (.iastore, 1) := by decide +kernel
theorem dX12_addMark_80 : decode cX12_addMark 80 = .ok (.iinc 4 (-1), 3) := by decide +kernel
theorem dX12_addMark_83 : decode cX12_addMark 83 = .ok (.goto (-44), 3) := by decide +kernel
theorem dX12_addMark_86 : decode cX12_addMark 86 = .ok (.aload_n 0, 1) := by decide +kernel
theorem dX12_addMark_87 : decode cX12_addMark 87 = .ok (.getfield 148, 3) := by decide +kernel
theorem dX12_addMark_90 : decode cX12_addMark 90 = .ok (.iload 4, 2) := by decide +kernel
theorem dX12_addMark_92 : decode cX12_addMark 92 = .ok (.iload_n 2, 1) := by decide +kernel
theorem dX12_addMark_93 : decode cX12_addMark 93 = .ok (.iastore, 1) := by decide +kernel
theorem dX12_addMark_94 : decode cX12_addMark 94 = .ok (.aload_n 0, 1) := by decide +kernel
theorem dX12_addMark_95 : decode cX12_addMark 95 = .ok (.getfield 148, 3) := by decide +kernel
theorem dX12_addMark_98 : decode cX12_addMark 98 = .ok (.bipush 40, 2) := by decide +kernel
theorem dX12_addMark_100 : decode cX12_addMark 100 = .ok (.iload_n 1, 1) := by decide +kernel
theorem dX12_addMark_101 : decode cX12_addMark 101 = .ok (.imul, 1) := by decide +kernel
theorem dX12_addMark_102 : decode cX12_addMark 102 = .ok (.iconst 5, 1) := by decide +kernel
theorem dX12_addMark_103 : decode cX12_addMark 103 = .ok (.iadd, 1) := by decide +kernel
theorem dX12_addMark_104 : decode cX12_addMark 104 = .ok (.dup2, 1) := by decide +kernel
theorem dX12_addMark_105 : decode cX12_addMark 105 = .ok (.iaload, 1) := by decide +kernel
theorem dX12_addMark_106 : decode cX12_addMark 106 = .ok (.iconst 1, 1) := by decide +kernel
theorem dX12_addMark_107 : decode cX12_addMark 107 = .ok (.iadd, 1) := by decide +kernel
theorem dX12_addMark_108 : decode cX12_addMark 108 = .ok (.iastore, 1) := by decide +kernel
theorem dX12_addMark_109 : decode cX12_addMark 109 = .ok (.return_, 1) := by decide +kernel
theorem dX12_copy_0 : decode cX12_copy 0 = .ok (.iconst 0, 1) := by decide +kernel
theorem dX12_copy_1 : decode cX12_copy 1 = .ok (.istore_n 3, 1) := by decide +kernel
theorem dX12_copy_2 : decode cX12_copy 2 = .ok (.iload_n 3, 1) := by decide +kernel
theorem dX12_copy_3 : decode cX12_copy 3 = .ok (.bipush 40, 2) := by decide +kernel
theorem dX12_copy_5 : decode cX12_copy 5 = .ok (.if_icmp .ge 31, 3) := by decide +kernel
theorem dX12_copy_8 : decode cX12_copy 8 = .ok (.aload_n 0, 1) := by decide +kernel
theorem dX12_copy_9 : decode cX12_copy 9 = .ok (.getfield 148, 3) := by decide +kernel
theorem dX12_copy_12 : decode cX12_copy 12 = .ok (.bipush 40, 2) := by decide +kernel
theorem dX12_copy_14 : decode cX12_copy 14 = .ok (.iload_n 2, 1) := by decide +kernel
theorem dX12_copy_15 : decode cX12_copy 15 = .ok (.imul, 1) := by decide +kernel
theorem dX12_copy_16 : decode cX12_copy 16 = .ok (.iload_n 3, 1) := by decide +kernel
theorem dX12_copy_17 : decode cX12_copy 17 = .ok (.iadd, 1) := by decide +kernel
theorem dX12_copy_18 : decode cX12_copy 18 = .ok (.aload_n 0, 1) := by decide +kernel
theorem dX12_copy_19 : decode cX12_copy 19 = .ok (.getfield 148, 3) := by decide +kernel
theorem dX12_copy_22 : decode cX12_copy 22 = .ok (.bipush 40, 2) := by decide +kernel
theorem dX12_copy_24 : decode cX12_copy 24 = .ok (.iload_n 1, 1) := by decide +kernel
theorem dX12_copy_25 : decode cX12_copy 25 = .ok (.imul, 1) := by decide +kernel
theorem dX12_copy_26 : decode cX12_copy 26 = .ok (.iload_n 3, 1) := by decide +kernel
theorem dX12_copy_27 : decode cX12_copy 27 = .ok (.iadd, 1) := by decide +kernel
theorem dX12_copy_28 : decode cX12_copy 28 = .ok (.iaload, 1) := by decide +kernel
theorem dX12_copy_29 : decode cX12_copy 29 = .ok (.iastore, 1) := by decide +kernel
theorem dX12_copy_30 : decode cX12_copy 30 = .ok (.iinc 3 1, 3) := by decide +kernel
theorem dX12_copy_33 : decode cX12_copy 33 = .ok (.goto (-31), 3) := by decide +kernel
theorem dX12_copy_36 : decode cX12_copy 36 = .ok (.return_, 1) := by decide +kernel
theorem dX12_cut_0 : decode cX12_cut 0 = .ok (.iload_n 1, 1) := by decide +kernel
theorem dX12_cut_1 : decode cX12_cut 1 = .ok (.ifCond .lt 11, 3) := by decide +kernel
theorem dX12_cut_4 : decode cX12_cut 4 = .ok (.iload_n 1, 1) := by decide +kernel
theorem dX12_cut_5 : decode cX12_cut 5 = .ok (.aload_n 0, 1) := by decide +kernel
theorem dX12_cut_6 : decode cX12_cut 6 = .ok (.getfield 1, 3) := by decide +kernel
theorem dX12_cut_9 : decode cX12_cut 9 = .ok (.if_icmp .le 5, 3) := by decide +kernel
theorem dX12_cut_12 : decode cX12_cut 12 = .ok (.iconst (-1), 1) := by decide +kernel
theorem dX12_cut_13 : decode cX12_cut 13 = .ok (.ireturn, 1) := by decide +kernel
theorem dX12_cut_14 : decode cX12_cut 14 = .ok (.aload_n 0, 1) := by decide +kernel
theorem dX12_cut_15 : decode cX12_cut 15 = .ok (.getfield 1, 3) := by decide +kernel
theorem dX12_cut_18 : decode cX12_cut 18 = .ok (.istore_n 2, 1) := by decide +kernel
theorem dX12_cut_19 : decode cX12_cut 19 = .ok (.aload_n 0, 1) := by decide +kernel
theorem dX12_cut_20 : decode cX12_cut 20 = .ok (.iload_n 1, 1) := by decide +kernel
theorem dX12_cut_21 : decode cX12_cut 21 = .ok (.putfield 1, 3) := by decide +kernel
theorem dX12_cut_24 : decode cX12_cut 24 = .ok (.iload_n 2, 1) := by decide +kernel
theorem dX12_cut_25 : decode cX12_cut 25 = .ok (.ireturn, 1) := by decide +kernel
theorem dX12_domain_0 : decode cX12_domain 0 = .ok (.aload_n 0, 1) := by decide +kernel
theorem dX12_domain_1 : decode cX12_domain 1 = .ok (.getfield 34, 3) := by decide +kernel
theorem dX12_domain_4 : decode cX12_domain 4 = .ok (.bipush 10, 2) := by decide +kernel
theorem dX12_domain_6 : decode cX12_domain 6 = .ok (.if_icmp .ne 6, 3) := by decide +kernel
theorem dX12_domain_9 : decode cX12_domain 9 = .ok (.bipush (-3), 2) := by decide +kernel
theorem dX12_domain_11 : decode cX12_domain 11 = .ok (.ireturn, 1) := by decide +kernel
theorem dX12_domain_12 : decode cX12_domain 12 = .ok (.aload_n 0, 1) := by decide +kernel
theorem dX12_domain_13 : decode cX12_domain 13 = .ok (.dup, 1) := by decide +kernel
theorem dX12_domain_14 : decode cX12_domain 14 = .ok (.getfield 34, 3) := by decide +kernel
theorem dX12_domain_17 : decode cX12_domain 17 = .ok (.iconst 1, 1) := by decide +kernel
theorem dX12_domain_18 : decode cX12_domain 18 = .ok (.iadd, 1) := by decide +kernel
theorem dX12_domain_19 : decode cX12_domain 19 = .ok (.putfield 34, 3) := by decide +kernel
theorem dX12_domain_22 : decode cX12_domain 22 = .ok (.aload_n 0, 1) := by decide +kernel
theorem dX12_domain_23 : decode cX12_domain 23 = .ok (.getfield 34, 3) := by decide +kernel
theorem dX12_domain_26 : decode cX12_domain 26 = .ok (.iconst 1, 1) := by decide +kernel
theorem dX12_domain_27 : decode cX12_domain 27 = .ok (.isub, 1) := by decide +kernel
theorem dX12_domain_28 : decode cX12_domain 28 = .ok (.ireturn, 1) := by decide +kernel
theorem dX12_dropMark_0 : decode cX12_dropMark 0 = .ok (.aload_n 0, 1) := by decide +kernel
theorem dX12_dropMark_1 : decode cX12_dropMark 1 = .ok (.iload_n 1, 1) := by decide +kernel
theorem dX12_dropMark_2 : decode cX12_dropMark 2 = .ok (.iload_n 2, 1) := by decide +kernel
theorem dX12_dropMark_3 : decode cX12_dropMark 3 = .ok (.invokevirtual 154, 3) := by decide +kernel
theorem dX12_dropMark_6 : decode cX12_dropMark 6 = .ok (.ifCond .ne 4, 3) := by decide +kernel
theorem dX12_dropMark_9 : decode cX12_dropMark 9 = .ok (.return_, 1) := by decide +kernel
theorem dX12_dropMark_10 : decode cX12_dropMark 10 = .ok (.iconst 0, 1) := by decide +kernel
theorem dX12_dropMark_11 : decode cX12_dropMark 11 = .ok (.istore_n 3, 1) := by decide +kernel
theorem dX12_dropMark_12 : decode cX12_dropMark 12 = .ok (.iconst 0, 1) := by decide +kernel
theorem dX12_dropMark_13 : decode cX12_dropMark 13 = .ok (.istore 4, 2) := by decide +kernel
theorem dX12_dropMark_15 : decode cX12_dropMark 15 = .ok (.iload 4, 2) := by decide +kernel
theorem dX12_dropMark_17 : decode cX12_dropMark 17 = .ok (.aload_n 0, 1) := by decide +kernel
theorem dX12_dropMark_18 : decode cX12_dropMark 18 = .ok (.getfield 148, 3) := by decide +kernel
theorem dX12_dropMark_21 : decode cX12_dropMark 21 = .ok (.bipush 40, 2) := by decide +kernel
theorem dX12_dropMark_23 : decode cX12_dropMark 23 = .ok (.iload_n 1, 1) := by decide +kernel
theorem dX12_dropMark_24 : decode cX12_dropMark 24 = .ok (.imul, 1) := by decide +kernel
theorem dX12_dropMark_25 : decode cX12_dropMark 25 = .ok (.iconst 5, 1) := by decide +kernel
theorem dX12_dropMark_26 : decode cX12_dropMark 26 = .ok (.iadd, 1) := by decide +kernel
theorem dX12_dropMark_27 : decode cX12_dropMark 27 = .ok (.iaload, 1) := by decide +kernel
theorem dX12_dropMark_28 : decode cX12_dropMark 28 = .ok (.if_icmp .ge 51, 3) := by decide +kernel
theorem dX12_dropMark_31 : decode cX12_dropMark 31 = .ok (.aload_n 0, 1) := by decide +kernel
theorem dX12_dropMark_32 : decode cX12_dropMark 32 = .ok (.getfield 148, 3) := by decide +kernel
theorem dX12_dropMark_35 : decode cX12_dropMark 35 = .ok (.bipush 40, 2) := by decide +kernel
theorem dX12_dropMark_37 : decode cX12_dropMark 37 = .ok (.iload_n 1, 1) := by decide +kernel
theorem dX12_dropMark_38 : decode cX12_dropMark 38 = .ok (.imul, 1) := by decide +kernel
theorem dX12_dropMark_39 : decode cX12_dropMark 39 = .ok (.bipush 26, 2) := by decide +kernel
theorem dX12_dropMark_41 : decode cX12_dropMark 41 = .ok (.iadd, 1) := by decide +kernel
theorem dX12_dropMark_42 : decode cX12_dropMark 42 = .ok (.iload 4, 2) := by decide +kernel
theorem dX12_dropMark_44 : decode cX12_dropMark 44 = .ok (.iadd, 1) := by decide +kernel
theorem dX12_dropMark_45 : decode cX12_dropMark 45 = .ok (.iaload, 1) := by decide +kernel
theorem dX12_dropMark_46 : decode cX12_dropMark 46 = .ok (.istore 5, 2) := by decide +kernel
theorem dX12_dropMark_48 : decode cX12_dropMark 48 = .ok (.iload 5, 2) := by decide +kernel
theorem dX12_dropMark_50 : decode cX12_dropMark 50 = .ok (.iload_n 2, 1) := by decide +kernel
theorem dX12_dropMark_51 : decode cX12_dropMark 51 = .ok (.if_icmp .eq 22, 3) := by decide +kernel
theorem dX12_dropMark_54 : decode cX12_dropMark 54 = .ok (.aload_n 0, 1) := by decide +kernel
theorem dX12_dropMark_55 : decode cX12_dropMark 55 = .ok (.getfield 148, 3) := by decide +kernel
theorem dX12_dropMark_58 : decode cX12_dropMark 58 = .ok (.bipush 40, 2) := by decide +kernel
theorem dX12_dropMark_60 : decode cX12_dropMark 60 = .ok (.iload_n 1, 1) := by decide +kernel
theorem dX12_dropMark_61 : decode cX12_dropMark 61 = .ok (.imul, 1) := by decide +kernel
theorem dX12_dropMark_62 : decode cX12_dropMark 62 = .ok (.bipush 26, 2) := by decide +kernel
theorem dX12_dropMark_64 : decode cX12_dropMark 64 = .ok (.iadd, 1) := by decide +kernel
theorem dX12_dropMark_65 : decode cX12_dropMark 65 = .ok (.iload_n 3, 1) := by decide +kernel
theorem dX12_dropMark_66 : decode cX12_dropMark 66 = .ok (.iadd, 1) := by decide +kernel
theorem dX12_dropMark_67 : decode cX12_dropMark 67 = .ok (.iload 5, 2) := by decide +kernel
theorem dX12_dropMark_69 : decode cX12_dropMark 69 = .ok (.iastore, 1) := by decide +kernel
theorem dX12_dropMark_70 : decode cX12_dropMark 70 = .ok (.iinc 3 1, 3) := by decide +kernel
theorem dX12_dropMark_73 : decode cX12_dropMark 73 = .ok (.iinc 4 1, 3) := by decide +kernel
theorem dX12_dropMark_76 : decode cX12_dropMark 76 = .ok (.goto (-61), 3) := by decide +kernel
theorem dX12_dropMark_79 : decode cX12_dropMark 79 = .ok (.aload_n 0, 1) := by decide +kernel
theorem dX12_dropMark_80 : decode cX12_dropMark 80 = .ok (.getfield 148, 3) := by decide +kernel
theorem dX12_dropMark_83 : decode cX12_dropMark 83 = .ok (.bipush 40, 2) := by decide +kernel
theorem dX12_dropMark_85 : decode cX12_dropMark 85 = .ok (.iload_n 1, 1) := by decide +kernel
theorem dX12_dropMark_86 : decode cX12_dropMark 86 = .ok (.imul, 1) := by decide +kernel
theorem dX12_dropMark_87 : decode cX12_dropMark 87 = .ok (.iconst 5, 1) := by decide +kernel
theorem dX12_dropMark_88 : decode cX12_dropMark 88 = .ok (.iadd, 1) := by decide +kernel
theorem dX12_dropMark_89 : decode cX12_dropMark 89 = .ok (.iload_n 3, 1) := by decide +kernel
theorem dX12_dropMark_90 : decode cX12_dropMark 90 = .ok (.iastore, 1) := by decide +kernel
theorem dX12_dropMark_91 : decode cX12_dropMark 91 = .ok (.return_, 1) := by decide +kernel
theorem dX12_feed_0 : decode cX12_feed 0 = .ok (.aload_n 0, 1) := by decide +kernel
theorem dX12_feed_1 : decode cX12_feed 1 = .ok (.getfield 1, 3) := by decide +kernel
theorem dX12_feed_4 : decode cX12_feed 4 = .ok (.bipush 20, 2) := by decide +kernel
theorem dX12_feed_6 : decode cX12_feed 6 = .ok (.iadd, 1) := by decide +kernel
theorem dX12_feed_7 : decode cX12_feed 7 = .ok (.sipush 1000, 3) := by decide +kernel
theorem dX12_feed_10 : decode cX12_feed 10 = .ok (.if_icmp .le 6, 3) := by decide +kernel
theorem dX12_feed_13 : decode cX12_feed 13 = .ok (.bipush (-3), 2) := by decide +kernel
theorem dX12_feed_15 : decode cX12_feed 15 = .ok (.ireturn, 1) := by decide +kernel
theorem dX12_feed_16 : decode cX12_feed 16 = .ok (.iconst 0, 1) := by decide +kernel
theorem dX12_feed_17 : decode cX12_feed 17 = .ok (.istore 6, 2) := by decide +kernel
theorem dX12_feed_19 : decode cX12_feed 19 = .ok (.iload 6, 2) := by decide +kernel
theorem dX12_feed_21 : decode cX12_feed 21 = .ok (.bipush 20, 2) := by decide +kernel
theorem dX12_feed_23 : decode cX12_feed 23 = .ok (.if_icmp .ge 83, 3) := by decide +kernel
theorem dX12_feed_26 : decode cX12_feed 26 = .ok (.iload 6, 2) := by decide +kernel
theorem dX12_feed_28 : decode cX12_feed 28 = .ok (.iconst 4, 1) := by decide +kernel
theorem dX12_feed_29 : decode cX12_feed 29 = .ok (.if_icmp .ge 7, 3) := by decide +kernel
theorem dX12_feed_32 : decode cX12_feed 32 = .ok (.iload_n 1, 1) := by decide +kernel
theorem dX12_feed_33 : decode cX12_feed 33 = .ok (.goto 39, 3) := by decide +kernel
theorem dX12_feed_36 : decode cX12_feed 36 = .ok (.iload 6, 2) := by decide +kernel
theorem dX12_feed_38 : decode cX12_feed 38 = .ok (.bipush 8, 2) := by decide +kernel
theorem dX12_feed_40 : decode cX12_feed 40 = .ok (.if_icmp .ge 7, 3) := by decide +kernel
theorem dX12_feed_43 : decode cX12_feed 43 = .ok (.iload_n 2, 1) := by decide +kernel
theorem dX12_feed_44 : decode cX12_feed 44 = .ok (.goto 28, 3) := by decide +kernel
theorem dX12_feed_47 : decode cX12_feed 47 = .ok (.iload 6, 2) := by decide +kernel
theorem dX12_feed_49 : decode cX12_feed 49 = .ok (.bipush 12, 2) := by decide +kernel
theorem dX12_feed_51 : decode cX12_feed 51 = .ok (.if_icmp .ge 7, 3) := by decide +kernel
theorem dX12_feed_54 : decode cX12_feed 54 = .ok (.iload_n 3, 1) := by decide +kernel
theorem dX12_feed_55 : decode cX12_feed 55 = .ok (.goto 17, 3) := by decide +kernel
theorem dX12_feed_58 : decode cX12_feed 58 = .ok (.iload 6, 2) := by decide +kernel
theorem dX12_feed_60 : decode cX12_feed 60 = .ok (.bipush 16, 2) := by decide +kernel
theorem dX12_feed_62 : decode cX12_feed 62 = .ok (.if_icmp .ge 8, 3) := by decide +kernel
theorem dX12_feed_65 : decode cX12_feed 65 = .ok (.iload 4, 2) := by decide +kernel
theorem dX12_feed_67 : decode cX12_feed 67 = .ok (.goto 5, 3) := by decide +kernel
theorem dX12_feed_70 : decode cX12_feed 70 = .ok (.iload 5, 2) := by decide +kernel
theorem dX12_feed_72 : decode cX12_feed 72 = .ok (.istore 7, 2) := by decide +kernel
theorem dX12_feed_74 : decode cX12_feed 74 = .ok (.aload_n 0, 1) := by decide +kernel
theorem dX12_feed_75 : decode cX12_feed 75 = .ok (.getfield 7, 3) := by decide +kernel
theorem dX12_feed_78 : decode cX12_feed 78 = .ok (.aload_n 0, 1) := by decide +kernel
theorem dX12_feed_79 : decode cX12_feed 79 = .ok (.getfield 1, 3) := by decide +kernel
theorem dX12_feed_82 : decode cX12_feed 82 = .ok (.iload 6, 2) := by decide +kernel
theorem dX12_feed_84 : decode cX12_feed 84 = .ok (.iadd, 1) := by decide +kernel
theorem dX12_feed_85 : decode cX12_feed 85 = .ok (.iload 7, 2) := by decide +kernel
theorem dX12_feed_87 : decode cX12_feed 87 = .ok (.bipush 24, 2) := by decide +kernel
theorem dX12_feed_89 : decode cX12_feed 89 = .ok (.bipush 8, 2) := by decide +kernel
theorem dX12_feed_91 : decode cX12_feed 91 = .ok (.iload 6, 2) := by decide +kernel
theorem dX12_feed_93 : decode cX12_feed 93 = .ok (.iconst 4, 1) := by decide +kernel
theorem dX12_feed_94 : decode cX12_feed 94 = .ok (.irem, 1) := by decide +kernel
theorem dX12_feed_95 : decode cX12_feed 95 = .ok (.imul, 1) := by decide +kernel
theorem dX12_feed_96 : decode cX12_feed 96 = .ok (.isub, 1) := by decide +kernel
theorem dX12_feed_97 : decode cX12_feed 97 = .ok (.ishr, 1) := by decide +kernel
theorem dX12_feed_98 : decode cX12_feed 98 = .ok (.i2b, 1) := by decide +kernel
theorem dX12_feed_99 : decode cX12_feed 99 = .ok (.bastore, 1) := by decide +kernel
theorem dX12_feed_100 : decode cX12_feed 100 = .ok (.iinc 6 1, 3) := by decide +kernel
theorem dX12_feed_103 : decode cX12_feed 103 = .ok (.goto (-84), 3) := by decide +kernel
theorem dX12_feed_106 : decode cX12_feed 106 = .ok (.aload_n 0, 1) := by decide +kernel
theorem dX12_feed_107 : decode cX12_feed 107 = .ok (.dup, 1) := by decide +kernel
theorem dX12_feed_108 : decode cX12_feed 108 = .ok (.getfield 1, 3) := by decide +kernel
theorem dX12_feed_111 : decode cX12_feed 111 = .ok (.bipush 20, 2) := by decide +kernel
theorem dX12_feed_113 : decode cX12_feed 113 = .ok (.iadd, 1) := by decide +kernel
theorem dX12_feed_114 : decode cX12_feed 114 = .ok (.putfield 1, 3) := by decide +kernel
theorem dX12_feed_117 : decode cX12_feed 117 = .ok (.aload_n 0, 1) := by decide +kernel
theorem dX12_feed_118 : decode cX12_feed 118 = .ok (.getfield 1, 3) := by decide +kernel
theorem dX12_feed_121 : decode cX12_feed 121 = .ok (.ireturn, 1) := by decide +kernel
theorem dX12_front_0 : decode cX12_front 0 = .ok (.aload_n 0, 1) := by decide +kernel
theorem dX12_front_1 : decode cX12_front 1 = .ok (.getfield 148, 3) := by decide +kernel
theorem dX12_front_4 : decode cX12_front 4 = .ok (.bipush 40, 2) := by decide +kernel
theorem dX12_front_6 : decode cX12_front 6 = .ok (.iload_n 1, 1) := by decide +kernel
theorem dX12_front_7 : decode cX12_front 7 = .ok (.imul, 1) := by decide +kernel
theorem dX12_front_8 : decode cX12_front 8 = .ok (.iconst 4, 1) := by decide +kernel
theorem dX12_front_9 : decode cX12_front 9 = .ok (.iadd, 1) := by decide +kernel
theorem dX12_front_10 : decode cX12_front 10 = .ok (.iaload, 1) := by decide +kernel
theorem dX12_front_11 : decode cX12_front 11 = .ok (.istore_n 3, 1) := by decide +kernel
theorem dX12_front_12 : decode cX12_front 12 = .ok (.iload_n 3, 1) := by decide +kernel
theorem dX12_front_13 : decode cX12_front 13 = .ok (.bipush 20, 2) := by decide +kernel
theorem dX12_front_15 : decode cX12_front 15 = .ok (.if_icmp .ne 5, 3) := by decide +kernel
theorem dX12_front_18 : decode cX12_front 18 = .ok (.iconst 0, 1) := by decide +kernel
theorem dX12_front_19 : decode cX12_front 19 = .ok (.ireturn, 1) := by decide +kernel
theorem dX12_front_20 : decode cX12_front 20 = .ok (.iload_n 3, 1) := by decide +kernel
theorem dX12_front_21 : decode cX12_front 21 = .ok (.istore 4, 2) := by decide +kernel
theorem dX12_front_23 : decode cX12_front 23 = .ok (.iload 4, 2) := by decide +kernel
theorem dX12_front_25 : decode cX12_front 25 = .ok (.ifCond .le 38, 3) := by decide +kernel
theorem dX12_front_28 : decode cX12_front 28 = .ok (.aload_n 0, 1) := by decide +kernel
theorem dX12_front_29 : decode cX12_front 29 = .ok (.getfield 148, 3) := by decide +kernel
theorem dX12_front_32 : decode cX12_front 32 = .ok (.bipush 40, 2) := by decide +kernel
theorem dX12_front_34 : decode cX12_front 34 = .ok (.iload_n 1, 1) := by decide +kernel
theorem dX12_front_35 : decode cX12_front 35 = .ok (.imul, 1) := by decide +kernel
theorem dX12_front_36 : decode cX12_front 36 = .ok (.bipush 6, 2) := by decide +kernel
theorem dX12_front_38 : decode cX12_front 38 = .ok (.iadd, 1) := by decide +kernel
theorem dX12_front_39 : decode cX12_front 39 = .ok (.iload 4, 2) := by decide +kernel
theorem dX12_front_41 : decode cX12_front 41 = .ok (.iadd, 1) := by decide +kernel
theorem dX12_front_42 : decode cX12_front 42 = .ok (.aload_n 0, 1) := by decide +kernel
theorem dX12_front_43 : decode cX12_front 43 = .ok (.getfield 148, 3) := by decide +kernel
theorem dX12_front_46 : decode cX12_front 46 = .ok (.bipush 40, 2) := by decide +kernel
theorem dX12_front_48 : decode cX12_front 48 = .ok (.iload_n 1, 1) := by decide +kernel
theorem dX12_front_49 : decode cX12_front 49 = .ok (.imul, 1) := by decide +kernel
theorem dX12_front_50 : decode cX12_front 50 = .ok (.iconst 5, 1) := by decide +kernel
theorem dX12_front_51 : decode cX12_front 51 = .ok (.iadd, 1) := by decide +kernel
theorem dX12_front_52 : decode cX12_front 52 = .ok (.iload 4, 2) := by decide +kernel
theorem dX12_front_54 : decode cX12_front 54 = .ok (.iadd, 1) := by decide +kernel
theorem dX12_front_55 : decode cX12_front 55 = .ok (.iaload, 1) := by decide +kernel
theorem dX12_front_56 : decode cX12_front 56 = .ok (.iastore, 1) := by decide +kernel
theorem dX12_front_57 : decode cX12_front 57 = .ok (.iinc 4 (-1), 3) := by decide +kernel
theorem dX12_front_60 : decode cX12_front 60 = .ok (.goto (-37), 3) := by decide +kernel
theorem dX12_front_63 : decode cX12_front 63 = .ok (.aload_n 0, 1) := by decide +kernel
theorem dX12_front_64 : decode cX12_front 64 = .ok (.getfield 148, 3) := by decide +kernel
theorem dX12_front_67 : decode cX12_front 67 = .ok (.bipush 40, 2) := by decide +kernel
theorem dX12_front_69 : decode cX12_front 69 = .ok (.iload_n 1, 1) := by decide +kernel
theorem dX12_front_70 : decode cX12_front 70 = .ok (.imul, 1) := by decide +kernel
theorem dX12_front_71 : decode cX12_front 71 = .ok (.bipush 6, 2) := by decide +kernel
theorem dX12_front_73 : decode cX12_front 73 = .ok (.iadd, 1) := by decide +kernel
theorem dX12_front_74 : decode cX12_front 74 = .ok (.iload_n 2, 1) := by decide +kernel
theorem dX12_front_75 : decode cX12_front 75 = .ok (.iastore, 1) := by decide +kernel
theorem dX12_front_76 : decode cX12_front 76 = .ok (.aload_n 0, 1) := by decide +kernel
theorem dX12_front_77 : decode cX12_front 77 = .ok (.getfield 148, 3) := by decide +kernel
theorem dX12_front_80 : decode cX12_front 80 = .ok (.bipush 40, 2) := by decide +kernel
theorem dX12_front_82 : decode cX12_front 82 = .ok (.iload_n 1, 1) := by decide +kernel
theorem dX12_front_83 : decode cX12_front 83 = .ok (.imul, 1) := by decide +kernel
theorem dX12_front_84 : decode cX12_front 84 = .ok (.iconst 4, 1) := by decide +kernel
theorem dX12_front_85 : decode cX12_front 85 = .ok (.iadd, 1) := by decide +kernel
theorem dX12_front_86 : decode cX12_front 86 = .ok (.dup2, 1) := by decide +kernel
theorem dX12_front_87 : decode cX12_front 87 = .ok (.iaload, 1) := by decide +kernel
theorem dX12_front_88 : decode cX12_front 88 = .ok (.iconst 1, 1) := by decide +kernel
theorem dX12_front_89 : decode cX12_front 89 = .ok (.iadd, 1) := by decide +kernel
theorem dX12_front_90 : decode cX12_front 90 = .ok (.iastore, 1) := by decide +kernel
theorem dX12_front_91 : decode cX12_front 91 = .ok (.iconst 1, 1) := by decide +kernel
theorem dX12_front_92 : decode cX12_front 92 = .ok (.ireturn, 1) := by decide +kernel
theorem dX12_holds_0 : decode cX12_holds 0 = .ok (.iload_n 0, 1) := by decide +kernel
theorem dX12_holds_1 : decode cX12_holds 1 = .ok (.iload_n 2, 1) := by decide +kernel
theorem dX12_holds_2 : decode cX12_holds 2 = .ok (.ixor, 1) := by decide +kernel
theorem dX12_holds_3 : decode cX12_holds 3 = .ok (.iload_n 1, 1) := by decide +kernel
theorem dX12_holds_4 : decode cX12_holds 4 = .ok (.invokestatic 11, 3) := by decide +kernel
theorem dX12_holds_7 : decode cX12_holds 7 = .ok (.iand, 1) := by decide +kernel
theorem dX12_holds_8 : decode cX12_holds 8 = .ok (.ifCond .ne 7, 3) := by decide +kernel
theorem dX12_holds_11 : decode cX12_holds 11 = .ok (.iconst 1, 1) := by decide +kernel
theorem dX12_holds_12 : decode cX12_holds 12 = .ok (.goto 4, 3) := by decide +kernel
theorem dX12_holds_15 : decode cX12_holds 15 = .ok (.iconst 0, 1) := by decide +kernel
theorem dX12_holds_16 : decode cX12_holds 16 = .ok (.ireturn, 1) := by decide +kernel
theorem dX12_in_0 : decode cX12_in 0 = .ok (.iload_n 0, 1) := by decide +kernel
theorem dX12_in_1 : decode cX12_in 1 = .ok (.iload_n 1, 1) := by decide +kernel
theorem dX12_in_2 : decode cX12_in 2 = .ok (.if_icmp .lt 12, 3) := by decide +kernel
theorem dX12_in_5 : decode cX12_in 5 = .ok (.iload_n 0, 1) := by decide +kernel
theorem dX12_in_6 : decode cX12_in 6 = .ok (.iload_n 2, 1) := by decide +kernel
theorem dX12_in_7 : decode cX12_in 7 = .ok (.if_icmp .gt 7, 3) := by decide +kernel
theorem dX12_in_10 : decode cX12_in 10 = .ok (.iconst 1, 1) := by decide +kernel
theorem dX12_in_11 : decode cX12_in 11 = .ok (.goto 4, 3) := by decide +kernel
theorem dX12_in_14 : decode cX12_in 14 = .ok (.iconst 0, 1) := by decide +kernel
theorem dX12_in_15 : decode cX12_in 15 = .ok (.ireturn, 1) := by decide +kernel
theorem dX12_isDomain_0 : decode cX12_isDomain 0 = .ok (.iload_n 1, 1) := by decide +kernel
theorem dX12_isDomain_1 : decode cX12_isDomain 1 = .ok (.iconst 0, 1) := by decide +kernel
theorem dX12_isDomain_2 : decode cX12_isDomain 2 = .ok (.aload_n 0, 1) := by decide +kernel
theorem dX12_isDomain_3 : decode cX12_isDomain 3 = .ok (.getfield 34, 3) := by decide +kernel
theorem dX12_isDomain_6 : decode cX12_isDomain 6 = .ok (.iconst 1, 1) := by decide +kernel
theorem dX12_isDomain_7 : decode cX12_isDomain 7 = .ok (.isub, 1) := by decide +kernel
theorem dX12_isDomain_8 : decode cX12_isDomain 8 = .ok (.invokestatic 18, 3) := by decide +kernel
theorem dX12_isDomain_11 : decode cX12_isDomain 11 = .ok (.ireturn, 1) := by decide +kernel
theorem dX12_isIn_0 : decode cX12_isIn 0 = .ok (.iconst 0, 1) := by decide +kernel
theorem dX12_isIn_1 : decode cX12_isIn 1 = .ok (.istore_n 3, 1) := by decide +kernel
theorem dX12_isIn_2 : decode cX12_isIn 2 = .ok (.iconst 0, 1) := by decide +kernel
theorem dX12_isIn_3 : decode cX12_isIn 3 = .ok (.istore 4, 2) := by decide +kernel
theorem dX12_isIn_5 : decode cX12_isIn 5 = .ok (.iload 4, 2) := by decide +kernel
theorem dX12_isIn_7 : decode cX12_isIn 7 = .ok (.aload_n 0, 1) := by decide +kernel
theorem dX12_isIn_8 : decode cX12_isIn 8 = .ok (.getfield 148, 3) := by decide +kernel
theorem dX12_isIn_11 : decode cX12_isIn 11 = .ok (.bipush 40, 2) := by decide +kernel
theorem dX12_isIn_13 : decode cX12_isIn 13 = .ok (.iload_n 1, 1) := by decide +kernel
theorem dX12_isIn_14 : decode cX12_isIn 14 = .ok (.imul, 1) := by decide +kernel
theorem dX12_isIn_15 : decode cX12_isIn 15 = .ok (.iconst 4, 1) := by decide +kernel
theorem dX12_isIn_16 : decode cX12_isIn 16 = .ok (.iadd, 1) := by decide +kernel
theorem dX12_isIn_17 : decode cX12_isIn 17 = .ok (.iaload, 1) := by decide +kernel
theorem dX12_isIn_18 : decode cX12_isIn 18 = .ok (.if_icmp .ge 38, 3) := by decide +kernel
theorem dX12_isIn_21 : decode cX12_isIn 21 = .ok (.iload_n 3, 1) := by decide +kernel
theorem dX12_isIn_22 : decode cX12_isIn 22 = .ok (.ifCond .ne 22, 3) := by decide +kernel
theorem dX12_isIn_25 : decode cX12_isIn 25 = .ok (.aload_n 0, 1) := by decide +kernel
theorem dX12_isIn_26 : decode cX12_isIn 26 = .ok (.getfield 148, 3) := by decide +kernel
theorem dX12_isIn_29 : decode cX12_isIn 29 = .ok (.bipush 40, 2) := by decide +kernel
theorem dX12_isIn_31 : decode cX12_isIn 31 = .ok (.iload_n 1, 1) := by decide +kernel
theorem dX12_isIn_32 : decode cX12_isIn 32 = .ok (.imul, 1) := by decide +kernel
theorem dX12_isIn_33 : decode cX12_isIn 33 = .ok (.bipush 6, 2) := by decide +kernel
theorem dX12_isIn_35 : decode cX12_isIn 35 = .ok (.iadd, 1) := by decide +kernel
theorem dX12_isIn_36 : decode cX12_isIn 36 = .ok (.iload 4, 2) := by decide +kernel
theorem dX12_isIn_38 : decode cX12_isIn 38 = .ok (.iadd, 1) := by decide +kernel
theorem dX12_isIn_39 : decode cX12_isIn 39 = .ok (.iaload, 1) := by decide +kernel
theorem dX12_isIn_40 : decode cX12_isIn 40 = .ok (.iload_n 2, 1) := by decide +kernel
theorem dX12_isIn_41 : decode cX12_isIn 41 = .ok (.if_icmp .ne 7, 3) := by decide +kernel
theorem dX12_isIn_44 : decode cX12_isIn 44 = .ok (.iconst 1, 1) := by decide +kernel
theorem dX12_isIn_45 : decode cX12_isIn 45 = .ok (.goto 4, 3) := by decide +kernel
theorem dX12_isIn_48 : decode cX12_isIn 48 = .ok (.iconst 0, 1) := by decide +kernel
theorem dX12_isIn_49 : decode cX12_isIn 49 = .ok (.istore_n 3, 1) := by decide +kernel
theorem dX12_isIn_50 : decode cX12_isIn 50 = .ok (.iinc 4 1, 3) := by decide +kernel
theorem dX12_isIn_53 : decode cX12_isIn 53 = .ok (.goto (-48), 3) := by decide +kernel
theorem dX12_isIn_56 : decode cX12_isIn 56 = .ok (.iload_n 3, 1) := by decide +kernel
theorem dX12_isIn_57 : decode cX12_isIn 57 = .ok (.ireturn, 1) := by decide +kernel
theorem dX12_isPrefix_0 : decode cX12_isPrefix 0 = .ok (.iload_n 1, 1) := by decide +kernel
theorem dX12_isPrefix_1 : decode cX12_isPrefix 1 = .ok (.iconst 0, 1) := by decide +kernel
theorem dX12_isPrefix_2 : decode cX12_isPrefix 2 = .ok (.aload_n 0, 1) := by decide +kernel
theorem dX12_isPrefix_3 : decode cX12_isPrefix 3 = .ok (.getfield 15, 3) := by decide +kernel
theorem dX12_isPrefix_6 : decode cX12_isPrefix 6 = .ok (.iconst 1, 1) := by decide +kernel
theorem dX12_isPrefix_7 : decode cX12_isPrefix 7 = .ok (.isub, 1) := by decide +kernel
theorem dX12_isPrefix_8 : decode cX12_isPrefix 8 = .ok (.invokestatic 18, 3) := by decide +kernel
theorem dX12_isPrefix_11 : decode cX12_isPrefix 11 = .ok (.ireturn, 1) := by decide +kernel
theorem dX12_isThere_0 : decode cX12_isThere 0 = .ok (.aload_n 0, 1) := by decide +kernel
theorem dX12_isThere_1 : decode cX12_isThere 1 = .ok (.getfield 148, 3) := by decide +kernel
theorem dX12_isThere_4 : decode cX12_isThere 4 = .ok (.bipush 40, 2) := by decide +kernel
theorem dX12_isThere_6 : decode cX12_isThere 6 = .ok (.iload_n 1, 1) := by decide +kernel
theorem dX12_isThere_7 : decode cX12_isThere 7 = .ok (.imul, 1) := by decide +kernel
theorem dX12_isThere_8 : decode cX12_isThere 8 = .ok (.iaload, 1) := by decide +kernel
theorem dX12_isThere_9 : decode cX12_isThere 9 = .ok (.ifCond .lt 7, 3) := by decide +kernel
theorem dX12_isThere_12 : decode cX12_isThere 12 = .ok (.iconst 1, 1) := by decide +kernel
theorem dX12_isThere_13 : decode cX12_isThere 13 = .ok (.goto 4, 3) := by decide +kernel
theorem dX12_isThere_16 : decode cX12_isThere 16 = .ok (.iconst 0, 1) := by decide +kernel
theorem dX12_isThere_17 : decode cX12_isThere 17 = .ok (.ireturn, 1) := by decide +kernel
theorem dX12_isTie_0 : decode cX12_isTie 0 = .ok (.iload_n 1, 1) := by decide +kernel
theorem dX12_isTie_1 : decode cX12_isTie 1 = .ok (.iconst 0, 1) := by decide +kernel
theorem dX12_isTie_2 : decode cX12_isTie 2 = .ok (.aload_n 0, 1) := by decide +kernel
theorem dX12_isTie_3 : decode cX12_isTie 3 = .ok (.getfield 37, 3) := by decide +kernel
theorem dX12_isTie_6 : decode cX12_isTie 6 = .ok (.iconst 1, 1) := by decide +kernel
theorem dX12_isTie_7 : decode cX12_isTie 7 = .ok (.isub, 1) := by decide +kernel
theorem dX12_isTie_8 : decode cX12_isTie 8 = .ok (.invokestatic 18, 3) := by decide +kernel
theorem dX12_isTie_11 : decode cX12_isTie 11 = .ok (.ireturn, 1) := by decide +kernel
theorem dX12_judged_0 : decode cX12_judged 0 = .ok (.aload_n 0, 1) := by decide +kernel
theorem dX12_judged_1 : decode cX12_judged 1 = .ok (.getfield 119, 3) := by decide +kernel
theorem dX12_judged_4 : decode cX12_judged 4 = .ok (.ifCond .eq 36, 3) := by decide +kernel
theorem dX12_judged_7 : decode cX12_judged 7 = .ok (.aload_n 0, 1) := by decide +kernel
theorem dX12_judged_8 : decode cX12_judged 8 = .ok (.getfield 123, 3) := by decide +kernel
theorem dX12_judged_11 : decode cX12_judged 11 = .ok (.iload_n 1, 1) := by decide +kernel
theorem dX12_judged_12 : decode cX12_judged 12 = .ok (.if_icmp .ne 28, 3) := by decide +kernel
theorem dX12_judged_15 : decode cX12_judged 15 = .ok (.aload_n 0, 1) := by decide +kernel
theorem dX12_judged_16 : decode cX12_judged 16 = .ok (.getfield 126, 3) := by decide +kernel
theorem dX12_judged_19 : decode cX12_judged 19 = .ok (.iload_n 2, 1) := by decide +kernel
theorem dX12_judged_20 : decode cX12_judged 20 = .ok (.if_icmp .ne 20, 3) := by decide +kernel
theorem dX12_judged_23 : decode cX12_judged 23 = .ok (.aload_n 0, 1) := by decide +kernel
theorem dX12_judged_24 : decode cX12_judged 24 = .ok (.getfield 129, 3) := by decide +kernel
theorem dX12_judged_27 : decode cX12_judged 27 = .ok (.iload_n 3, 1) := by decide +kernel
theorem dX12_judged_28 : decode cX12_judged 28 = .ok (.if_icmp .ne 12, 3) := by decide +kernel
theorem dX12_judged_31 : decode cX12_judged 31 = .ok (.aload_n 0, 1) := by decide +kernel
theorem dX12_judged_32 : decode cX12_judged 32 = .ok (.getfield 132, 3) := by decide +kernel
theorem dX12_judged_35 : decode cX12_judged 35 = .ok (.iload 4, 2) := by decide +kernel
theorem dX12_judged_37 : decode cX12_judged 37 = .ok (.if_icmp .eq 42, 3) := by decide +kernel
theorem dX12_judged_40 : decode cX12_judged 40 = .ok (.aload_n 0, 1) := by decide +kernel
theorem dX12_judged_41 : decode cX12_judged 41 = .ok (.aload_n 0, 1) := by decide +kernel
theorem dX12_judged_42 : decode cX12_judged 42 = .ok (.iload_n 1, 1) := by decide +kernel
theorem dX12_judged_43 : decode cX12_judged 43 = .ok (.iload_n 2, 1) := by decide +kernel
theorem dX12_judged_44 : decode cX12_judged 44 = .ok (.iload_n 3, 1) := by decide +kernel
theorem dX12_judged_45 : decode cX12_judged 45 = .ok (.iload 4, 2) := by decide +kernel
theorem dX12_judged_47 : decode cX12_judged 47 = .ok (.invokevirtual 135, 3) := by decide +kernel
theorem dX12_judged_50 : decode cX12_judged 50 = .ok (.putfield 139, 3) := by decide +kernel
theorem dX12_judged_53 : decode cX12_judged 53 = .ok (.aload_n 0, 1) := by decide +kernel
theorem dX12_judged_54 : decode cX12_judged 54 = .ok (.iload_n 1, 1) := by decide +kernel
theorem dX12_judged_55 : decode cX12_judged 55 = .ok (.putfield 123, 3) := by decide +kernel
theorem dX12_judged_58 : decode cX12_judged 58 = .ok (.aload_n 0, 1) := by decide +kernel
theorem dX12_judged_59 : decode cX12_judged 59 = .ok (.iload_n 2, 1) := by decide +kernel
theorem dX12_judged_60 : decode cX12_judged 60 = .ok (.putfield 126, 3) := by decide +kernel
theorem dX12_judged_63 : decode cX12_judged 63 = .ok (.aload_n 0, 1) := by decide +kernel
theorem dX12_judged_64 : decode cX12_judged 64 = .ok (.iload_n 3, 1) := by decide +kernel
theorem dX12_judged_65 : decode cX12_judged 65 = .ok (.putfield 129, 3) := by decide +kernel
theorem dX12_judged_68 : decode cX12_judged 68 = .ok (.aload_n 0, 1) := by decide +kernel
theorem dX12_judged_69 : decode cX12_judged 69 = .ok (.iload 4, 2) := by decide +kernel
theorem dX12_judged_71 : decode cX12_judged 71 = .ok (.putfield 132, 3) := by decide +kernel
theorem dX12_judged_74 : decode cX12_judged 74 = .ok (.aload_n 0, 1) := by decide +kernel
theorem dX12_judged_75 : decode cX12_judged 75 = .ok (.iconst 1, 1) := by decide +kernel
theorem dX12_judged_76 : decode cX12_judged 76 = .ok (.putfield 119, 3) := by decide +kernel
theorem dX12_judged_79 : decode cX12_judged 79 = .ok (.aload_n 0, 1) := by decide +kernel
theorem dX12_judged_80 : decode cX12_judged 80 = .ok (.getfield 139, 3) := by decide +kernel
theorem dX12_judged_83 : decode cX12_judged 83 = .ok (.ireturn, 1) := by decide +kernel
theorem dX12_judgedAnew_0 : decode cX12_judgedAnew 0 = .ok (.iconst 2, 1) := by decide +kernel
theorem dX12_judgedAnew_1 : decode cX12_judgedAnew 1 = .ok (.istore 5, 2) := by decide +kernel
theorem dX12_judgedAnew_3 : decode cX12_judgedAnew 3 = .ok (.iconst 0, 1) := by decide +kernel
theorem dX12_judgedAnew_4 : decode cX12_judgedAnew 4 = .ok (.istore 6, 2) := by decide +kernel
theorem dX12_judgedAnew_6 : decode cX12_judgedAnew 6 = .ok (.iload 6, 2) := by decide +kernel
theorem dX12_judgedAnew_8 : decode cX12_judgedAnew 8 = .ok (.aload_n 0, 1) := by decide +kernel
theorem dX12_judgedAnew_9 : decode cX12_judgedAnew 9 = .ok (.getfield 95, 3) := by decide +kernel
theorem dX12_judgedAnew_12 : decode cX12_judgedAnew 12 = .ok (.if_icmp .ge 172, 3) := by decide +kernel
theorem dX12_judgedAnew_15 : decode cX12_judgedAnew 15 = .ok (.aload_n 0, 1) := by decide +kernel
theorem dX12_judgedAnew_16 : decode cX12_judgedAnew 16 = .ok (.getfield 98, 3) := by decide +kernel
theorem dX12_judgedAnew_19 : decode cX12_judgedAnew 19 = .ok (.iload 6, 2) := by decide +kernel
theorem dX12_judgedAnew_21 : decode cX12_judgedAnew 21 = .ok (.iaload, 1) := by decide +kernel
theorem dX12_judgedAnew_22 : decode cX12_judgedAnew 22 = .ok (.istore 7, 2) := by decide +kernel
theorem dX12_judgedAnew_24 : decode cX12_judgedAnew 24 = .ok (.aload_n 0, 1) := by decide +kernel
theorem dX12_judgedAnew_25 : decode cX12_judgedAnew 25 = .ok (.getfield 107, 3) := by decide +kernel
theorem dX12_judgedAnew_28 : decode cX12_judgedAnew 28 = .ok (.iload 6, 2) := by decide +kernel
theorem dX12_judgedAnew_30 : decode cX12_judgedAnew 30 = .ok (.iaload, 1) := by decide +kernel
theorem dX12_judgedAnew_31 : decode cX12_judgedAnew 31 = .ok (.iload_n 3, 1) := by decide +kernel
theorem dX12_judgedAnew_32 : decode cX12_judgedAnew 32 = .ok (.if_icmp .gt 54, 3) := by decide +kernel
theorem dX12_judgedAnew_35 : decode cX12_judgedAnew 35 = .ok (.iload_n 3, 1) := by decide +kernel
theorem dX12_judgedAnew_36 : decode cX12_judgedAnew 36 = .ok (.aload_n 0, 1) := by decide +kernel
theorem dX12_judgedAnew_37 : decode cX12_judgedAnew 37 = .ok (.getfield 110, 3) := by decide +kernel
theorem dX12_judgedAnew_40 : decode cX12_judgedAnew 40 = .ok (.iload 6, 2) := by decide +kernel
theorem dX12_judgedAnew_42 : decode cX12_judgedAnew 42 = .ok (.iaload, 1) := by decide +kernel
theorem dX12_judgedAnew_43 : decode cX12_judgedAnew 43 = .ok (.if_icmp .ge 43, 3) := by decide +kernel
theorem dX12_judgedAnew_46 : decode cX12_judgedAnew 46 = .ok (.aload_n 0, 1) := by decide +kernel
theorem dX12_judgedAnew_47 : decode cX12_judgedAnew 47 = .ok (.getfield 113, 3) := by decide +kernel
theorem dX12_judgedAnew_50 : decode cX12_judgedAnew 50 = .ok (.iload 6, 2) := by decide +kernel
theorem dX12_judgedAnew_52 : decode cX12_judgedAnew 52 = .ok (.iaload, 1) := by decide +kernel
theorem dX12_judgedAnew_53 : decode cX12_judgedAnew 53 = .ok (.iload 4, 2) := by decide +kernel
theorem dX12_judgedAnew_55 : decode cX12_judgedAnew 55 = .ok (.if_icmp .gt 31, 3) := by decide +kernel
theorem dX12_judgedAnew_58 : decode cX12_judgedAnew 58 = .ok (.aload_n 0, 1) := by decide +kernel
theorem dX12_judgedAnew_59 : decode cX12_judgedAnew 59 = .ok (.getfield 116, 3) := by decide +kernel
theorem dX12_judgedAnew_62 : decode cX12_judgedAnew 62 = .ok (.iload 6, 2) := by decide +kernel
theorem dX12_judgedAnew_64 : decode cX12_judgedAnew 64 = .ok (.iaload, 1) := by decide +kernel
theorem dX12_judgedAnew_65 : decode cX12_judgedAnew 65 = .ok (.ldc 29, 2) := by decide +kernel
theorem dX12_judgedAnew_67 : decode cX12_judgedAnew 67 = .ok (.if_icmp .eq 15, 3) := by decide +kernel
theorem dX12_judgedAnew_70 : decode cX12_judgedAnew 70 = .ok (.iload 4, 2) := by decide +kernel
theorem dX12_judgedAnew_72 : decode cX12_judgedAnew 72 = .ok (.aload_n 0, 1) := by decide +kernel
theorem dX12_judgedAnew_73 : decode cX12_judgedAnew 73 = .ok (.getfield 116, 3) := by decide +kernel
theorem dX12_judgedAnew_76 : decode cX12_judgedAnew 76 = .ok (.iload 6, 2) := by decide +kernel
theorem dX12_judgedAnew_78 : decode cX12_judgedAnew 78 = .ok (.iaload, 1) := by decide +kernel
theorem dX12_judgedAnew_79 : decode cX12_judgedAnew 79 = .ok (.if_icmp .ge 7, 3) := by decide +kernel
theorem dX12_judgedAnew_82 : decode cX12_judgedAnew 82 = .ok (.iconst 1, 1) := by decide +kernel
theorem dX12_judgedAnew_83 : decode cX12_judgedAnew 83 = .ok (.goto 4, 3) := by decide +kernel
theorem dX12_judgedAnew_86 : decode cX12_judgedAnew 86 = .ok (.iconst 0, 1) := by decide +kernel
theorem dX12_judgedAnew_87 : decode cX12_judgedAnew 87 = .ok (.istore 8, 2) := by decide +kernel
theorem dX12_judgedAnew_89 : decode cX12_judgedAnew 89 = .ok (.iload 8, 2) := by decide +kernel
theorem dX12_judgedAnew_91 : decode cX12_judgedAnew 91 = .ok (.ifCond .eq 87, 3) := by decide +kernel
theorem dX12_judgedAnew_94 : decode cX12_judgedAnew 94 = .ok (.aload_n 0, 1) := by decide +kernel
theorem dX12_judgedAnew_95 : decode cX12_judgedAnew 95 = .ok (.getfield 26, 3) := by decide +kernel
theorem dX12_judgedAnew_98 : decode cX12_judgedAnew 98 = .ok (.iload 7, 2) := by decide +kernel
theorem dX12_judgedAnew_100 : decode cX12_judgedAnew 100 = .ok (.iaload, 1) := by decide +kernel
theorem dX12_judgedAnew_101 : decode cX12_judgedAnew 101 = .ok (.aload_n 0, 1) := by decide +kernel
theorem dX12_judgedAnew_102 : decode cX12_judgedAnew 102 = .ok (.getfield 26, 3) := by decide +kernel
theorem dX12_judgedAnew_105 : decode cX12_judgedAnew 105 = .ok (.iload_n 1, 1) := by decide +kernel
theorem dX12_judgedAnew_106 : decode cX12_judgedAnew 106 = .ok (.iaload, 1) := by decide +kernel
theorem dX12_judgedAnew_107 : decode cX12_judgedAnew 107 = .ok (.if_icmp .gt 71, 3) := by decide +kernel
theorem dX12_judgedAnew_110 : decode cX12_judgedAnew 110 = .ok (.aload_n 0, 1) := by decide +kernel
theorem dX12_judgedAnew_111 : decode cX12_judgedAnew 111 = .ok (.getfield 22, 3) := by decide +kernel
theorem dX12_judgedAnew_114 : decode cX12_judgedAnew 114 = .ok (.iload 7, 2) := by decide +kernel
theorem dX12_judgedAnew_116 : decode cX12_judgedAnew 116 = .ok (.iaload, 1) := by decide +kernel
theorem dX12_judgedAnew_117 : decode cX12_judgedAnew 117 = .ok (.aload_n 0, 1) := by decide +kernel
theorem dX12_judgedAnew_118 : decode cX12_judgedAnew 118 = .ok (.getfield 26, 3) := by decide +kernel
theorem dX12_judgedAnew_121 : decode cX12_judgedAnew 121 = .ok (.iload 7, 2) := by decide +kernel
theorem dX12_judgedAnew_123 : decode cX12_judgedAnew 123 = .ok (.iaload, 1) := by decide +kernel
theorem dX12_judgedAnew_124 : decode cX12_judgedAnew 124 = .ok (.aload_n 0, 1) := by decide +kernel
theorem dX12_judgedAnew_125 : decode cX12_judgedAnew 125 = .ok (.getfield 22, 3) := by decide +kernel
theorem dX12_judgedAnew_128 : decode cX12_judgedAnew 128 = .ok (.iload_n 1, 1) := by decide +kernel
theorem dX12_judgedAnew_129 : decode cX12_judgedAnew 129 = .ok (.iaload, 1) := by decide +kernel
theorem dX12_judgedAnew_130 : decode cX12_judgedAnew 130 = .ok (.invokestatic 142, 3) := by decide +kernel
theorem dX12_judgedAnew_133 : decode cX12_judgedAnew 133 = .ok (.ifCond .ne 6, 3) := by decide +kernel
theorem dX12_judgedAnew_136 : decode cX12_judgedAnew 136 = .ok (.goto 42, 3) := by decide +kernel
theorem dX12_judgedAnew_139 : decode cX12_judgedAnew 139 = .ok (.iload 5, 2) := by decide +kernel
theorem dX12_judgedAnew_141 : decode cX12_judgedAnew 141 = .ok (.iconst 2, 1) := by decide +kernel
theorem dX12_judgedAnew_142 : decode cX12_judgedAnew 142 = .ok (.if_icmp .ne 6, 3) := by decide +kernel
theorem dX12_judgedAnew_145 : decode cX12_judgedAnew 145 = .ok (.iconst 0, 1) := by decide +kernel
theorem dX12_judgedAnew_146 : decode cX12_judgedAnew 146 = .ok (.istore 5, 2) := by decide +kernel
theorem dX12_judgedAnew_148 : decode cX12_judgedAnew 148 = .ok (.aload_n 0, 1) := by decide +kernel
theorem dX12_judgedAnew_149 : decode cX12_judgedAnew 149 = .ok (.getfield 104, 3) := by decide +kernel
theorem dX12_judgedAnew_152 : decode cX12_judgedAnew 152 = .ok (.iload 6, 2) := by decide +kernel
theorem dX12_judgedAnew_154 : decode cX12_judgedAnew 154 = .ok (.iaload, 1) := by decide +kernel
theorem dX12_judgedAnew_155 : decode cX12_judgedAnew 155 = .ok (.iload_n 2, 1) := by decide +kernel
theorem dX12_judgedAnew_156 : decode cX12_judgedAnew 156 = .ok (.if_icmp .ne 22, 3) := by decide +kernel
theorem dX12_judgedAnew_159 : decode cX12_judgedAnew 159 = .ok (.aload_n 0, 1) := by decide +kernel
theorem dX12_judgedAnew_160 : decode cX12_judgedAnew 160 = .ok (.getfield 26, 3) := by decide +kernel
theorem dX12_judgedAnew_163 : decode cX12_judgedAnew 163 = .ok (.iload_n 1, 1) := by decide +kernel
theorem dX12_judgedAnew_164 : decode cX12_judgedAnew 164 = .ok (.iaload, 1) := by decide +kernel
theorem dX12_judgedAnew_165 : decode cX12_judgedAnew 165 = .ok (.aload_n 0, 1) := by decide +kernel
theorem dX12_judgedAnew_166 : decode cX12_judgedAnew 166 = .ok (.getfield 101, 3) := by decide +kernel
theorem dX12_judgedAnew_169 : decode cX12_judgedAnew 169 = .ok (.iload 6, 2) := by decide +kernel
theorem dX12_judgedAnew_171 : decode cX12_judgedAnew 171 = .ok (.iaload, 1) := by decide +kernel
theorem dX12_judgedAnew_172 : decode cX12_judgedAnew 172 = .ok (.if_icmp .gt 6, 3) := by decide +kernel
theorem dX12_judgedAnew_175 : decode cX12_judgedAnew 175 = .ok (.iconst 1, 1) := by decide +kernel
theorem dX12_judgedAnew_176 : decode cX12_judgedAnew 176 = .ok (.istore 5, 2) := by decide +kernel
theorem dX12_judgedAnew_178 : decode cX12_judgedAnew 178 = .ok (.iinc 6 1, 3) := by decide +kernel
theorem dX12_judgedAnew_181 : decode cX12_judgedAnew 181 = .ok (.goto (-175), 3) := by decide +kernel
theorem dX12_judgedAnew_184 : decode cX12_judgedAnew 184 = .ok (.iload 5, 2) := by decide +kernel
theorem dX12_judgedAnew_186 : decode cX12_judgedAnew 186 = .ok (.ireturn, 1) := by decide +kernel
theorem dX12_letWay_0 : decode cX12_letWay 0 = .ok (.iconst 0, 1) := by decide +kernel
theorem dX12_letWay_1 : decode cX12_letWay 1 = .ok (.istore_n 1, 1) := by decide +kernel
theorem dX12_letWay_2 : decode cX12_letWay 2 = .ok (.iconst 0, 1) := by decide +kernel
theorem dX12_letWay_3 : decode cX12_letWay 3 = .ok (.istore_n 2, 1) := by decide +kernel
theorem dX12_letWay_4 : decode cX12_letWay 4 = .ok (.iload_n 2, 1) := by decide +kernel
theorem dX12_letWay_5 : decode cX12_letWay 5 = .ok (.iconst 1, 1) := by decide +kernel
theorem dX12_letWay_6 : decode cX12_letWay 6 = .ok (.iadd, 1) := by decide +kernel
theorem dX12_letWay_7 : decode cX12_letWay 7 = .ok (.aload_n 0, 1) := by decide +kernel
theorem dX12_letWay_8 : decode cX12_letWay 8 = .ok (.getfield 79, 3) := by decide +kernel
theorem dX12_letWay_11 : decode cX12_letWay 11 = .ok (.if_icmp .ge 114, 3) := by decide +kernel
theorem dX12_letWay_14 : decode cX12_letWay 14 = .ok (.aload_n 0, 1) := by decide +kernel
theorem dX12_letWay_15 : decode cX12_letWay 15 = .ok (.aload_n 0, 1) := by decide +kernel
theorem dX12_letWay_16 : decode cX12_letWay 16 = .ok (.getfield 82, 3) := by decide +kernel
theorem dX12_letWay_19 : decode cX12_letWay 19 = .ok (.iload_n 2, 1) := by decide +kernel
theorem dX12_letWay_20 : decode cX12_letWay 20 = .ok (.iaload, 1) := by decide +kernel
theorem dX12_letWay_21 : decode cX12_letWay 21 = .ok (.aload_n 0, 1) := by decide +kernel
theorem dX12_letWay_22 : decode cX12_letWay 22 = .ok (.getfield 82, 3) := by decide +kernel
theorem dX12_letWay_25 : decode cX12_letWay 25 = .ok (.iload_n 2, 1) := by decide +kernel
theorem dX12_letWay_26 : decode cX12_letWay 26 = .ok (.iconst 1, 1) := by decide +kernel
theorem dX12_letWay_27 : decode cX12_letWay 27 = .ok (.iadd, 1) := by decide +kernel
theorem dX12_letWay_28 : decode cX12_letWay 28 = .ok (.iaload, 1) := by decide +kernel
theorem dX12_letWay_29 : decode cX12_letWay 29 = .ok (.invokevirtual 43, 3) := by decide +kernel
theorem dX12_letWay_32 : decode cX12_letWay 32 = .ok (.istore_n 3, 1) := by decide +kernel
theorem dX12_letWay_33 : decode cX12_letWay 33 = .ok (.iload_n 3, 1) := by decide +kernel
theorem dX12_letWay_34 : decode cX12_letWay 34 = .ok (.ldc 29, 2) := by decide +kernel
theorem dX12_letWay_36 : decode cX12_letWay 36 = .ok (.if_icmp .ne 7, 3) := by decide +kernel
theorem dX12_letWay_39 : decode cX12_letWay 39 = .ok (.iload_n 2, 1) := by decide +kernel
theorem dX12_letWay_40 : decode cX12_letWay 40 = .ok (.iconst 1, 1) := by decide +kernel
theorem dX12_letWay_41 : decode cX12_letWay 41 = .ok (.iadd, 1) := by decide +kernel
theorem dX12_letWay_42 : decode cX12_letWay 42 = .ok (.ireturn, 1) := by decide +kernel
theorem dX12_letWay_43 : decode cX12_letWay 43 = .ok (.aload_n 0, 1) := by decide +kernel
theorem dX12_letWay_44 : decode cX12_letWay 44 = .ok (.getfield 46, 3) := by decide +kernel
theorem dX12_letWay_47 : decode cX12_letWay 47 = .ok (.iload_n 3, 1) := by decide +kernel
theorem dX12_letWay_48 : decode cX12_letWay 48 = .ok (.iaload, 1) := by decide +kernel
theorem dX12_letWay_49 : decode cX12_letWay 49 = .ok (.iconst 2, 1) := by decide +kernel
theorem dX12_letWay_50 : decode cX12_letWay 50 = .ok (.if_icmp .ne 6, 3) := by decide +kernel
theorem dX12_letWay_53 : decode cX12_letWay 53 = .ok (.goto 66, 3) := by decide +kernel
theorem dX12_letWay_56 : decode cX12_letWay 56 = .ok (.aload_n 0, 1) := by decide +kernel
theorem dX12_letWay_57 : decode cX12_letWay 57 = .ok (.getfield 46, 3) := by decide +kernel
theorem dX12_letWay_60 : decode cX12_letWay 60 = .ok (.iload_n 3, 1) := by decide +kernel
theorem dX12_letWay_61 : decode cX12_letWay 61 = .ok (.iaload, 1) := by decide +kernel
theorem dX12_letWay_62 : decode cX12_letWay 62 = .ok (.ifCond .ne 24, 3) := by decide +kernel
theorem dX12_letWay_65 : decode cX12_letWay 65 = .ok (.aload_n 0, 1) := by decide +kernel
theorem dX12_letWay_66 : decode cX12_letWay 66 = .ok (.getfield 40, 3) := by decide +kernel
theorem dX12_letWay_69 : decode cX12_letWay 69 = .ok (.iconst 2, 1) := by decide +kernel
theorem dX12_letWay_70 : decode cX12_letWay 70 = .ok (.iload_n 3, 1) := by decide +kernel
theorem dX12_letWay_71 : decode cX12_letWay 71 = .ok (.imul, 1) := by decide +kernel
theorem dX12_letWay_72 : decode cX12_letWay 72 = .ok (.iaload, 1) := by decide +kernel
theorem dX12_letWay_73 : decode cX12_letWay 73 = .ok (.aload_n 0, 1) := by decide +kernel
theorem dX12_letWay_74 : decode cX12_letWay 74 = .ok (.getfield 82, 3) := by decide +kernel
theorem dX12_letWay_77 : decode cX12_letWay 77 = .ok (.iload_n 2, 1) := by decide +kernel
theorem dX12_letWay_78 : decode cX12_letWay 78 = .ok (.iaload, 1) := by decide +kernel
theorem dX12_letWay_79 : decode cX12_letWay 79 = .ok (.if_icmp .ne 7, 3) := by decide +kernel
theorem dX12_letWay_82 : decode cX12_letWay 82 = .ok (.iconst 1, 1) := by decide +kernel
theorem dX12_letWay_83 : decode cX12_letWay 83 = .ok (.goto 4, 3) := by decide +kernel
theorem dX12_letWay_86 : decode cX12_letWay 86 = .ok (.iconst 0, 1) := by decide +kernel
theorem dX12_letWay_87 : decode cX12_letWay 87 = .ok (.istore 4, 2) := by decide +kernel
theorem dX12_letWay_89 : decode cX12_letWay 89 = .ok (.iload_n 1, 1) := by decide +kernel
theorem dX12_letWay_90 : decode cX12_letWay 90 = .ok (.ifCond .eq 12, 3) := by decide +kernel
theorem dX12_letWay_93 : decode cX12_letWay 93 = .ok (.iload 4, 2) := by decide +kernel
theorem dX12_letWay_95 : decode cX12_letWay 95 = .ok (.ifCond .ne 7, 3) := by decide +kernel
theorem dX12_letWay_98 : decode cX12_letWay 98 = .ok (.iload_n 2, 1) := by decide +kernel
theorem dX12_letWay_99 : decode cX12_letWay 99 = .ok (.iconst 1, 1) := by decide +kernel
theorem dX12_letWay_100 : decode cX12_letWay 100 = .ok (.iadd, 1) := by decide +kernel
theorem dX12_letWay_101 : decode cX12_letWay 101 = .ok (.ireturn, 1) := by decide +kernel
theorem dX12_letWay_102 : decode cX12_letWay 102 = .ok (.aload_n 0, 1) := by decide +kernel
theorem dX12_letWay_103 : decode cX12_letWay 103 = .ok (.getfield 46, 3) := by decide +kernel
theorem dX12_letWay_106 : decode cX12_letWay 106 = .ok (.iload_n 3, 1) := by decide +kernel
theorem dX12_letWay_107 : decode cX12_letWay 107 = .ok (.iaload, 1) := by decide +kernel
theorem dX12_letWay_108 : decode cX12_letWay 108 = .ok (.iconst 1, 1) := by decide +kernel
theorem dX12_letWay_109 : decode cX12_letWay 109 = .ok (.if_icmp .eq 8, 3) := by decide +kernel
theorem dX12_letWay_112 : decode cX12_letWay 112 = .ok (.iload 4, 2) := by decide +kernel
theorem dX12_letWay_114 : decode cX12_letWay 114 = .ok (.ifCond .eq 5, 3) := by decide +kernel
theorem dX12_letWay_117 : decode cX12_letWay 117 = .ok (.iconst 1, 1) := by decide +kernel
theorem dX12_letWay_118 : decode cX12_letWay 118 = .ok (.istore_n 1, 1) := by decide +kernel
theorem dX12_letWay_119 : decode cX12_letWay 119 = .ok (.iinc 2 1, 3) := by decide +kernel
theorem dX12_letWay_122 : decode cX12_letWay 122 = .ok (.goto (-118), 3) := by decide +kernel
theorem dX12_letWay_125 : decode cX12_letWay 125 = .ok (.iconst 0, 1) := by decide +kernel
theorem dX12_letWay_126 : decode cX12_letWay 126 = .ok (.ireturn, 1) := by decide +kernel
theorem dX12_marked_0 : decode cX12_marked 0 = .ok (.iconst 0, 1) := by decide +kernel
theorem dX12_marked_1 : decode cX12_marked 1 = .ok (.istore_n 3, 1) := by decide +kernel
theorem dX12_marked_2 : decode cX12_marked 2 = .ok (.iconst 0, 1) := by decide +kernel
theorem dX12_marked_3 : decode cX12_marked 3 = .ok (.istore 4, 2) := by decide +kernel
theorem dX12_marked_5 : decode cX12_marked 5 = .ok (.iload 4, 2) := by decide +kernel
theorem dX12_marked_7 : decode cX12_marked 7 = .ok (.aload_n 0, 1) := by decide +kernel
theorem dX12_marked_8 : decode cX12_marked 8 = .ok (.getfield 148, 3) := by decide +kernel
theorem dX12_marked_11 : decode cX12_marked 11 = .ok (.bipush 40, 2) := by decide +kernel
theorem dX12_marked_13 : decode cX12_marked 13 = .ok (.iload_n 1, 1) := by decide +kernel
theorem dX12_marked_14 : decode cX12_marked 14 = .ok (.imul, 1) := by decide +kernel
theorem dX12_marked_15 : decode cX12_marked 15 = .ok (.iconst 5, 1) := by decide +kernel
theorem dX12_marked_16 : decode cX12_marked 16 = .ok (.iadd, 1) := by decide +kernel
theorem dX12_marked_17 : decode cX12_marked 17 = .ok (.iaload, 1) := by decide +kernel
theorem dX12_marked_18 : decode cX12_marked 18 = .ok (.if_icmp .ge 38, 3) := by decide +kernel
theorem dX12_marked_21 : decode cX12_marked 21 = .ok (.iload_n 3, 1) := by decide +kernel
theorem dX12_marked_22 : decode cX12_marked 22 = .ok (.ifCond .ne 22, 3) := by decide +kernel
theorem dX12_marked_25 : decode cX12_marked 25 = .ok (.aload_n 0, 1) := by decide +kernel
theorem dX12_marked_26 : decode cX12_marked 26 = .ok (.getfield 148, 3) := by decide +kernel
theorem dX12_marked_29 : decode cX12_marked 29 = .ok (.bipush 40, 2) := by decide +kernel
theorem dX12_marked_31 : decode cX12_marked 31 = .ok (.iload_n 1, 1) := by decide +kernel
theorem dX12_marked_32 : decode cX12_marked 32 = .ok (.imul, 1) := by decide +kernel
theorem dX12_marked_33 : decode cX12_marked 33 = .ok (.bipush 26, 2) := by decide +kernel
theorem dX12_marked_35 : decode cX12_marked 35 = .ok (.iadd, 1) := by decide +kernel
theorem dX12_marked_36 : decode cX12_marked 36 = .ok (.iload 4, 2) := by decide +kernel
theorem dX12_marked_38 : decode cX12_marked 38 = .ok (.iadd, 1) := by decide +kernel
theorem dX12_marked_39 : decode cX12_marked 39 = .ok (.iaload, 1) := by decide +kernel
theorem dX12_marked_40 : decode cX12_marked 40 = .ok (.iload_n 2, 1) := by decide +kernel
theorem dX12_marked_41 : decode cX12_marked 41 = .ok (.if_icmp .ne 7, 3) := by decide +kernel
theorem dX12_marked_44 : decode cX12_marked 44 = .ok (.iconst 1, 1) := by decide +kernel
theorem dX12_marked_45 : decode cX12_marked 45 = .ok (.goto 4, 3) := by decide +kernel
theorem dX12_marked_48 : decode cX12_marked 48 = .ok (.iconst 0, 1) := by decide +kernel
theorem dX12_marked_49 : decode cX12_marked 49 = .ok (.istore_n 3, 1) := by decide +kernel
theorem dX12_marked_50 : decode cX12_marked 50 = .ok (.iinc 4 1, 3) := by decide +kernel
theorem dX12_marked_53 : decode cX12_marked 53 = .ok (.goto (-48), 3) := by decide +kernel
theorem dX12_marked_56 : decode cX12_marked 56 = .ok (.iload_n 3, 1) := by decide +kernel
theorem dX12_marked_57 : decode cX12_marked 57 = .ok (.ireturn, 1) := by decide +kernel
theorem dX12_mask_0 : decode cX12_mask 0 = .ok (.iload_n 0, 1) := by decide +kernel
theorem dX12_mask_1 : decode cX12_mask 1 = .ok (.ifCond .ne 7, 3) := by decide +kernel
theorem dX12_mask_4 : decode cX12_mask 4 = .ok (.iconst 0, 1) := by decide +kernel
theorem dX12_mask_5 : decode cX12_mask 5 = .ok (.goto 9, 3) := by decide +kernel
theorem dX12_mask_8 : decode cX12_mask 8 = .ok (.iconst (-1), 1) := by decide +kernel
theorem dX12_mask_9 : decode cX12_mask 9 = .ok (.bipush 32, 2) := by decide +kernel
theorem dX12_mask_11 : decode cX12_mask 11 = .ok (.iload_n 0, 1) := by decide +kernel
theorem dX12_mask_12 : decode cX12_mask 12 = .ok (.isub, 1) := by decide +kernel
theorem dX12_mask_13 : decode cX12_mask 13 = .ok (.ishl, 1) := by decide +kernel
theorem dX12_mask_14 : decode cX12_mask 14 = .ok (.ireturn, 1) := by decide +kernel
theorem dX12_nothing_0 : decode cX12_nothing 0 = .ok (.aload_n 0, 1) := by decide +kernel
theorem dX12_nothing_1 : decode cX12_nothing 1 = .ok (.getfield 148, 3) := by decide +kernel
theorem dX12_nothing_4 : decode cX12_nothing 4 = .ok (.bipush 40, 2) := by decide +kernel
theorem dX12_nothing_6 : decode cX12_nothing 6 = .ok (.iload_n 1, 1) := by decide +kernel
theorem dX12_nothing_7 : decode cX12_nothing 7 = .ok (.imul, 1) := by decide +kernel
theorem dX12_nothing_8 : decode cX12_nothing 8 = .ok (.iconst (-1), 1) := by decide +kernel
theorem dX12_nothing_9 : decode cX12_nothing 9 = .ok (.iastore, 1) := by decide +kernel
theorem dX12_nothing_10 : decode cX12_nothing 10 = .ok (.return_, 1) := by decide +kernel
theorem dX12_pace_0 : decode cX12_pace 0 = .ok (.aload_n 0, 1) := by decide +kernel
theorem dX12_pace_1 : decode cX12_pace 1 = .ok (.iload_n 1, 1) := by decide +kernel
theorem dX12_pace_2 : decode cX12_pace 2 = .ok (.invokevirtual 66, 3) := by decide +kernel
theorem dX12_pace_5 : decode cX12_pace 5 = .ok (.ifCond .eq 25, 3) := by decide +kernel
theorem dX12_pace_8 : decode cX12_pace 8 = .ok (.iload_n 2, 1) := by decide +kernel
theorem dX12_pace_9 : decode cX12_pace 9 = .ok (.iconst 1, 1) := by decide +kernel
theorem dX12_pace_10 : decode cX12_pace 10 = .ok (.sipush 1000, 3) := by decide +kernel
theorem dX12_pace_13 : decode cX12_pace 13 = .ok (.invokestatic 18, 3) := by decide +kernel
theorem dX12_pace_16 : decode cX12_pace 16 = .ok (.ifCond .eq 14, 3) := by decide +kernel
theorem dX12_pace_19 : decode cX12_pace 19 = .ok (.iload_n 3, 1) := by decide +kernel
theorem dX12_pace_20 : decode cX12_pace 20 = .ok (.iconst 0, 1) := by decide +kernel
theorem dX12_pace_21 : decode cX12_pace 21 = .ok (.sipush 1000, 3) := by decide +kernel
theorem dX12_pace_24 : decode cX12_pace 24 = .ok (.invokestatic 18, 3) := by decide +kernel
theorem dX12_pace_27 : decode cX12_pace 27 = .ok (.ifCond .ne 5, 3) := by decide +kernel
theorem dX12_pace_30 : decode cX12_pace 30 = .ok (.iconst (-1), 1) := by decide +kernel
theorem dX12_pace_31 : decode cX12_pace 31 = .ok (.ireturn, 1) := by decide +kernel
theorem dX12_pace_32 : decode cX12_pace 32 = .ok (.aload_n 0, 1) := by decide +kernel
theorem dX12_pace_33 : decode cX12_pace 33 = .ok (.getfield 57, 3) := by decide +kernel
theorem dX12_pace_36 : decode cX12_pace 36 = .ok (.iload_n 1, 1) := by decide +kernel
theorem dX12_pace_37 : decode cX12_pace 37 = .ok (.iload_n 2, 1) := by decide +kernel
theorem dX12_pace_38 : decode cX12_pace 38 = .ok (.iastore, 1) := by decide +kernel
theorem dX12_pace_39 : decode cX12_pace 39 = .ok (.aload_n 0, 1) := by decide +kernel
theorem dX12_pace_40 : decode cX12_pace 40 = .ok (.getfield 60, 3) := by decide +kernel
theorem dX12_pace_43 : decode cX12_pace 43 = .ok (.iload_n 1, 1) := by decide +kernel
theorem dX12_pace_44 : decode cX12_pace 44 = .ok (.iload_n 3, 1) := by decide +kernel
theorem dX12_pace_45 : decode cX12_pace 45 = .ok (.iastore, 1) := by decide +kernel
theorem dX12_pace_46 : decode cX12_pace 46 = .ok (.iconst 0, 1) := by decide +kernel
theorem dX12_pace_47 : decode cX12_pace 47 = .ok (.ireturn, 1) := by decide +kernel
theorem dX12_prefix_0 : decode cX12_prefix 0 = .ok (.iload_n 2, 1) := by decide +kernel
theorem dX12_prefix_1 : decode cX12_prefix 1 = .ok (.iconst 0, 1) := by decide +kernel
theorem dX12_prefix_2 : decode cX12_prefix 2 = .ok (.bipush 32, 2) := by decide +kernel
theorem dX12_prefix_4 : decode cX12_prefix 4 = .ok (.invokestatic 18, 3) := by decide +kernel
theorem dX12_prefix_7 : decode cX12_prefix 7 = .ok (.ifCond .eq 14, 3) := by decide +kernel
theorem dX12_prefix_10 : decode cX12_prefix 10 = .ok (.iload_n 1, 1) := by decide +kernel
theorem dX12_prefix_11 : decode cX12_prefix 11 = .ok (.iload_n 2, 1) := by decide +kernel
theorem dX12_prefix_12 : decode cX12_prefix 12 = .ok (.invokestatic 11, 3) := by decide +kernel
theorem dX12_prefix_15 : decode cX12_prefix 15 = .ok (.iconst (-1), 1) := by decide +kernel
theorem dX12_prefix_16 : decode cX12_prefix 16 = .ok (.ixor, 1) := by decide +kernel
theorem dX12_prefix_17 : decode cX12_prefix 17 = .ok (.iand, 1) := by decide +kernel
theorem dX12_prefix_18 : decode cX12_prefix 18 = .ok (.ifCond .eq 5, 3) := by decide +kernel
theorem dX12_prefix_21 : decode cX12_prefix 21 = .ok (.iconst (-1), 1) := by decide +kernel
theorem dX12_prefix_22 : decode cX12_prefix 22 = .ok (.ireturn, 1) := by decide +kernel
theorem dX12_prefix_23 : decode cX12_prefix 23 = .ok (.aload_n 0, 1) := by decide +kernel
theorem dX12_prefix_24 : decode cX12_prefix 24 = .ok (.iload_n 1, 1) := by decide +kernel
theorem dX12_prefix_25 : decode cX12_prefix 25 = .ok (.iload_n 2, 1) := by decide +kernel
theorem dX12_prefix_26 : decode cX12_prefix 26 = .ok (.invokevirtual 30, 3) := by decide +kernel
theorem dX12_prefix_29 : decode cX12_prefix 29 = .ok (.ldc 29, 2) := by decide +kernel
theorem dX12_prefix_31 : decode cX12_prefix 31 = .ok (.if_icmp .eq 6, 3) := by decide +kernel
theorem dX12_prefix_34 : decode cX12_prefix 34 = .ok (.bipush (-2), 2) := by decide +kernel
theorem dX12_prefix_36 : decode cX12_prefix 36 = .ok (.ireturn, 1) := by decide +kernel
theorem dX12_prefix_37 : decode cX12_prefix 37 = .ok (.aload_n 0, 1) := by decide +kernel
theorem dX12_prefix_38 : decode cX12_prefix 38 = .ok (.getfield 15, 3) := by decide +kernel
theorem dX12_prefix_41 : decode cX12_prefix 41 = .ok (.bipush 10, 2) := by decide +kernel
theorem dX12_prefix_43 : decode cX12_prefix 43 = .ok (.if_icmp .ne 6, 3) := by decide +kernel
theorem dX12_prefix_46 : decode cX12_prefix 46 = .ok (.bipush (-3), 2) := by decide +kernel
theorem dX12_prefix_48 : decode cX12_prefix 48 = .ok (.ireturn, 1) := by decide +kernel
theorem dX12_prefix_49 : decode cX12_prefix 49 = .ok (.aload_n 0, 1) := by decide +kernel
theorem dX12_prefix_50 : decode cX12_prefix 50 = .ok (.getfield 22, 3) := by decide +kernel
theorem dX12_prefix_53 : decode cX12_prefix 53 = .ok (.aload_n 0, 1) := by decide +kernel
theorem dX12_prefix_54 : decode cX12_prefix 54 = .ok (.getfield 15, 3) := by decide +kernel
theorem dX12_prefix_57 : decode cX12_prefix 57 = .ok (.iload_n 1, 1) := by decide +kernel
theorem dX12_prefix_58 : decode cX12_prefix 58 = .ok (.iastore, 1) := by decide +kernel
theorem dX12_prefix_59 : decode cX12_prefix 59 = .ok (.aload_n 0, 1) := by decide +kernel
theorem dX12_prefix_60 : decode cX12_prefix 60 = .ok (.getfield 26, 3) := by decide +kernel
theorem dX12_prefix_63 : decode cX12_prefix 63 = .ok (.aload_n 0, 1) := by decide +kernel
theorem dX12_prefix_64 : decode cX12_prefix 64 = .ok (.getfield 15, 3) := by decide +kernel
theorem dX12_prefix_67 : decode cX12_prefix 67 = .ok (.iload_n 2, 1) := by decide +kernel
theorem dX12_prefix_68 : decode cX12_prefix 68 = .ok (.iastore, 1) := by decide +kernel
theorem dX12_prefix_69 : decode cX12_prefix 69 = .ok (.aload_n 0, 1) := by decide +kernel
theorem dX12_prefix_70 : decode cX12_prefix 70 = .ok (.dup, 1) := by decide +kernel
theorem dX12_prefix_71 : decode cX12_prefix 71 = .ok (.getfield 15, 3) := by decide +kernel
theorem dX12_prefix_74 : decode cX12_prefix 74 = .ok (.iconst 1, 1) := by decide +kernel
theorem dX12_prefix_75 : decode cX12_prefix 75 = .ok (.iadd, 1) := by decide +kernel
theorem dX12_prefix_76 : decode cX12_prefix 76 = .ok (.putfield 15, 3) := by decide +kernel
theorem dX12_prefix_79 : decode cX12_prefix 79 = .ok (.aload_n 0, 1) := by decide +kernel
theorem dX12_prefix_80 : decode cX12_prefix 80 = .ok (.getfield 15, 3) := by decide +kernel
theorem dX12_prefix_83 : decode cX12_prefix 83 = .ok (.iconst 1, 1) := by decide +kernel
theorem dX12_prefix_84 : decode cX12_prefix 84 = .ok (.isub, 1) := by decide +kernel
theorem dX12_prefix_85 : decode cX12_prefix 85 = .ok (.ireturn, 1) := by decide +kernel
theorem dX12_prefixOf_0 : decode cX12_prefixOf 0 = .ok (.iconst 0, 1) := by decide +kernel
theorem dX12_prefixOf_1 : decode cX12_prefixOf 1 = .ok (.istore_n 3, 1) := by decide +kernel
theorem dX12_prefixOf_2 : decode cX12_prefixOf 2 = .ok (.iload_n 3, 1) := by decide +kernel
theorem dX12_prefixOf_3 : decode cX12_prefixOf 3 = .ok (.aload_n 0, 1) := by decide +kernel
theorem dX12_prefixOf_4 : decode cX12_prefixOf 4 = .ok (.getfield 15, 3) := by decide +kernel
theorem dX12_prefixOf_7 : decode cX12_prefixOf 7 = .ok (.if_icmp .ge 31, 3) := by decide +kernel
theorem dX12_prefixOf_10 : decode cX12_prefixOf 10 = .ok (.aload_n 0, 1) := by decide +kernel
theorem dX12_prefixOf_11 : decode cX12_prefixOf 11 = .ok (.getfield 22, 3) := by decide +kernel
theorem dX12_prefixOf_14 : decode cX12_prefixOf 14 = .ok (.iload_n 3, 1) := by decide +kernel
theorem dX12_prefixOf_15 : decode cX12_prefixOf 15 = .ok (.iaload, 1) := by decide +kernel
theorem dX12_prefixOf_16 : decode cX12_prefixOf 16 = .ok (.iload_n 1, 1) := by decide +kernel
theorem dX12_prefixOf_17 : decode cX12_prefixOf 17 = .ok (.if_icmp .ne 15, 3) := by decide +kernel
theorem dX12_prefixOf_20 : decode cX12_prefixOf 20 = .ok (.aload_n 0, 1) := by decide +kernel
theorem dX12_prefixOf_21 : decode cX12_prefixOf 21 = .ok (.getfield 26, 3) := by decide +kernel
theorem dX12_prefixOf_24 : decode cX12_prefixOf 24 = .ok (.iload_n 3, 1) := by decide +kernel
theorem dX12_prefixOf_25 : decode cX12_prefixOf 25 = .ok (.iaload, 1) := by decide +kernel
theorem dX12_prefixOf_26 : decode cX12_prefixOf 26 = .ok (.iload_n 2, 1) := by decide +kernel
theorem dX12_prefixOf_27 : decode cX12_prefixOf 27 = .ok (.if_icmp .ne 5, 3) := by decide +kernel
theorem dX12_prefixOf_30 : decode cX12_prefixOf 30 = .ok (.iload_n 3, 1) := by decide +kernel
theorem dX12_prefixOf_31 : decode cX12_prefixOf 31 = .ok (.ireturn, 1) := by decide +kernel
theorem dX12_prefixOf_32 : decode cX12_prefixOf 32 = .ok (.iinc 3 1, 3) := by decide +kernel
theorem dX12_prefixOf_35 : decode cX12_prefixOf 35 = .ok (.goto (-33), 3) := by decide +kernel
theorem dX12_prefixOf_38 : decode cX12_prefixOf 38 = .ok (.ldc 29, 2) := by decide +kernel
theorem dX12_prefixOf_40 : decode cX12_prefixOf 40 = .ok (.ireturn, 1) := by decide +kernel
theorem dX12_provides_0 : decode cX12_provides 0 = .ok (.aload_n 0, 1) := by decide +kernel
theorem dX12_provides_1 : decode cX12_provides 1 = .ok (.iload_n 1, 1) := by decide +kernel
theorem dX12_provides_2 : decode cX12_provides 2 = .ok (.iload_n 2, 1) := by decide +kernel
theorem dX12_provides_3 : decode cX12_provides 3 = .ok (.invokevirtual 43, 3) := by decide +kernel
theorem dX12_provides_6 : decode cX12_provides 6 = .ok (.istore_n 3, 1) := by decide +kernel
theorem dX12_provides_7 : decode cX12_provides 7 = .ok (.iload_n 3, 1) := by decide +kernel
theorem dX12_provides_8 : decode cX12_provides 8 = .ok (.ldc 29, 2) := by decide +kernel
theorem dX12_provides_10 : decode cX12_provides 10 = .ok (.if_icmp .eq 28, 3) := by decide +kernel
theorem dX12_provides_13 : decode cX12_provides 13 = .ok (.aload_n 0, 1) := by decide +kernel
theorem dX12_provides_14 : decode cX12_provides 14 = .ok (.getfield 46, 3) := by decide +kernel
theorem dX12_provides_17 : decode cX12_provides 17 = .ok (.iload_n 3, 1) := by decide +kernel
theorem dX12_provides_18 : decode cX12_provides 18 = .ok (.iaload, 1) := by decide +kernel
theorem dX12_provides_19 : decode cX12_provides 19 = .ok (.ifCond .ne 19, 3) := by decide +kernel
theorem dX12_provides_22 : decode cX12_provides 22 = .ok (.aload_n 0, 1) := by decide +kernel
theorem dX12_provides_23 : decode cX12_provides 23 = .ok (.getfield 40, 3) := by decide +kernel
theorem dX12_provides_26 : decode cX12_provides 26 = .ok (.iconst 2, 1) := by decide +kernel
theorem dX12_provides_27 : decode cX12_provides 27 = .ok (.iload_n 3, 1) := by decide +kernel
theorem dX12_provides_28 : decode cX12_provides 28 = .ok (.imul, 1) := by decide +kernel
theorem dX12_provides_29 : decode cX12_provides 29 = .ok (.iaload, 1) := by decide +kernel
theorem dX12_provides_30 : decode cX12_provides 30 = .ok (.iload_n 1, 1) := by decide +kernel
theorem dX12_provides_31 : decode cX12_provides 31 = .ok (.if_icmp .ne 7, 3) := by decide +kernel
theorem dX12_provides_34 : decode cX12_provides 34 = .ok (.iconst 1, 1) := by decide +kernel
theorem dX12_provides_35 : decode cX12_provides 35 = .ok (.goto 4, 3) := by decide +kernel
theorem dX12_provides_38 : decode cX12_provides 38 = .ok (.iconst 0, 1) := by decide +kernel
theorem dX12_provides_39 : decode cX12_provides 39 = .ok (.ireturn, 1) := by decide +kernel
theorem dX12_ring_0 : decode cX12_ring 0 = .ok (.iload_n 1, 1) := by decide +kernel
theorem dX12_ring_1 : decode cX12_ring 1 = .ok (.ifCond .ge 6, 3) := by decide +kernel
theorem dX12_ring_4 : decode cX12_ring 4 = .ok (.ldc 29, 2) := by decide +kernel
theorem dX12_ring_6 : decode cX12_ring 6 = .ok (.ireturn, 1) := by decide +kernel
theorem dX12_ring_7 : decode cX12_ring 7 = .ok (.iconst 0, 1) := by decide +kernel
theorem dX12_ring_8 : decode cX12_ring 8 = .ok (.istore_n 2, 1) := by decide +kernel
theorem dX12_ring_9 : decode cX12_ring 9 = .ok (.iload_n 2, 1) := by decide +kernel
theorem dX12_ring_10 : decode cX12_ring 10 = .ok (.aload_n 0, 1) := by decide +kernel
theorem dX12_ring_11 : decode cX12_ring 11 = .ok (.getfield 34, 3) := by decide +kernel
theorem dX12_ring_14 : decode cX12_ring 14 = .ok (.if_icmp .ge 258, 3) := by decide +kernel
theorem dX12_ring_17 : decode cX12_ring 17 = .ok (.iconst 0, 1) := by decide +kernel
theorem dX12_ring_18 : decode cX12_ring 18 = .ok (.istore_n 3, 1) := by decide +kernel
theorem dX12_ring_19 : decode cX12_ring 19 = .ok (.iload_n 3, 1) := by decide +kernel
theorem dX12_ring_20 : decode cX12_ring 20 = .ok (.bipush 10, 2) := by decide +kernel
theorem dX12_ring_22 : decode cX12_ring 22 = .ok (.if_icmp .ge 17, 3) := by decide +kernel
theorem dX12_ring_25 : decode cX12_ring 25 = .ok (.aload_n 0, 1) := by decide +kernel
theorem dX12_ring_26 : decode cX12_ring 26 = .ok (.getfield 72, 3) := by decide +kernel
theorem dX12_ring_29 : decode cX12_ring 29 = .ok (.iload_n 3, 1) := by decide +kernel
theorem dX12_ring_30 : decode cX12_ring 30 = .ok (.ldc 29, 2) := by decide +kernel
theorem dX12_ring_32 : decode cX12_ring 32 = .ok (.iastore, 1) := by decide +kernel
theorem dX12_ring_33 : decode cX12_ring 33 = .ok (.iinc 3 1, 3) := by decide +kernel
theorem dX12_ring_36 : decode cX12_ring 36 = .ok (.goto (-17), 3) := by decide +kernel
theorem dX12_ring_39 : decode cX12_ring 39 = .ok (.iconst 1, 1) := by decide +kernel
theorem dX12_ring_40 : decode cX12_ring 40 = .ok (.istore_n 3, 1) := by decide +kernel
theorem dX12_ring_41 : decode cX12_ring 41 = .ok (.iload_n 3, 1) := by decide +kernel
theorem dX12_ring_42 : decode cX12_ring 42 = .ok (.aload_n 0, 1) := by decide +kernel
theorem dX12_ring_43 : decode cX12_ring 43 = .ok (.getfield 34, 3) := by decide +kernel
theorem dX12_ring_46 : decode cX12_ring 46 = .ok (.if_icmp .gt 103, 3) := by decide +kernel
theorem dX12_ring_49 : decode cX12_ring 49 = .ok (.iconst 0, 1) := by decide +kernel
theorem dX12_ring_50 : decode cX12_ring 50 = .ok (.istore 4, 2) := by decide +kernel
theorem dX12_ring_52 : decode cX12_ring 52 = .ok (.iload 4, 2) := by decide +kernel
theorem dX12_ring_54 : decode cX12_ring 54 = .ok (.aload_n 0, 1) := by decide +kernel
theorem dX12_ring_55 : decode cX12_ring 55 = .ok (.getfield 34, 3) := by decide +kernel
theorem dX12_ring_58 : decode cX12_ring 58 = .ok (.if_icmp .ge 85, 3) := by decide +kernel
theorem dX12_ring_61 : decode cX12_ring 61 = .ok (.iconst 0, 1) := by decide +kernel
theorem dX12_ring_62 : decode cX12_ring 62 = .ok (.istore 5, 2) := by decide +kernel
theorem dX12_ring_64 : decode cX12_ring 64 = .ok (.iload 5, 2) := by decide +kernel
theorem dX12_ring_66 : decode cX12_ring 66 = .ok (.aload_n 0, 1) := by decide +kernel
theorem dX12_ring_67 : decode cX12_ring 67 = .ok (.getfield 34, 3) := by decide +kernel
theorem dX12_ring_70 : decode cX12_ring 70 = .ok (.if_icmp .ge 67, 3) := by decide +kernel
theorem dX12_ring_73 : decode cX12_ring 73 = .ok (.aload_n 0, 1) := by decide +kernel
theorem dX12_ring_74 : decode cX12_ring 74 = .ok (.getfield 72, 3) := by decide +kernel
theorem dX12_ring_77 : decode cX12_ring 77 = .ok (.iload 4, 2) := by decide +kernel
theorem dX12_ring_79 : decode cX12_ring 79 = .ok (.iaload, 1) := by decide +kernel
theorem dX12_ring_80 : decode cX12_ring 80 = .ok (.ldc 29, 2) := by decide +kernel
theorem dX12_ring_82 : decode cX12_ring 82 = .ok (.if_icmp .ne 55, 3) := by decide +kernel
theorem dX12_ring_85 : decode cX12_ring 85 = .ok (.aload_n 0, 1) := by decide +kernel
theorem dX12_ring_86 : decode cX12_ring 86 = .ok (.iload 4, 2) := by decide +kernel
theorem dX12_ring_88 : decode cX12_ring 88 = .ok (.iload 5, 2) := by decide +kernel
theorem dX12_ring_90 : decode cX12_ring 90 = .ok (.invokevirtual 75, 3) := by decide +kernel
theorem dX12_ring_93 : decode cX12_ring 93 = .ok (.ifCond .eq 38, 3) := by decide +kernel
theorem dX12_ring_96 : decode cX12_ring 96 = .ok (.iload_n 3, 1) := by decide +kernel
theorem dX12_ring_97 : decode cX12_ring 97 = .ok (.iconst 1, 1) := by decide +kernel
theorem dX12_ring_98 : decode cX12_ring 98 = .ok (.if_icmp .ne 12, 3) := by decide +kernel
theorem dX12_ring_101 : decode cX12_ring 101 = .ok (.iload 5, 2) := by decide +kernel
theorem dX12_ring_103 : decode cX12_ring 103 = .ok (.iload_n 2, 1) := by decide +kernel
theorem dX12_ring_104 : decode cX12_ring 104 = .ok (.if_icmp .ne 27, 3) := by decide +kernel
theorem dX12_ring_107 : decode cX12_ring 107 = .ok (.goto 16, 3) := by decide +kernel
theorem dX12_ring_110 : decode cX12_ring 110 = .ok (.aload_n 0, 1) := by decide +kernel
theorem dX12_ring_111 : decode cX12_ring 111 = .ok (.getfield 72, 3) := by decide +kernel
theorem dX12_ring_114 : decode cX12_ring 114 = .ok (.iload 5, 2) := by decide +kernel
theorem dX12_ring_116 : decode cX12_ring 116 = .ok (.iaload, 1) := by decide +kernel
theorem dX12_ring_117 : decode cX12_ring 117 = .ok (.iload_n 3, 1) := by decide +kernel
theorem dX12_ring_118 : decode cX12_ring 118 = .ok (.iconst 1, 1) := by decide +kernel
theorem dX12_ring_119 : decode cX12_ring 119 = .ok (.isub, 1) := by decide +kernel
theorem dX12_ring_120 : decode cX12_ring 120 = .ok (.if_icmp .ne 11, 3) := by decide +kernel
theorem dX12_ring_123 : decode cX12_ring 123 = .ok (.aload_n 0, 1) := by decide +kernel
theorem dX12_ring_124 : decode cX12_ring 124 = .ok (.getfield 72, 3) := by decide +kernel
theorem dX12_ring_127 : decode cX12_ring 127 = .ok (.iload 4, 2) := by decide +kernel
theorem dX12_ring_129 : decode cX12_ring 129 = .ok (.iload_n 3, 1) := by decide +kernel
theorem dX12_ring_130 : decode cX12_ring 130 = .ok (.iastore, 1) := by decide +kernel
theorem dX12_ring_131 : decode cX12_ring 131 = .ok (.iinc 5 1, 3) := by decide +kernel
theorem dX12_ring_134 : decode cX12_ring 134 = .ok (.goto (-70), 3) := by decide +kernel
theorem dX12_ring_137 : decode cX12_ring 137 = .ok (.iinc 4 1, 3) := by decide +kernel
theorem dX12_ring_140 : decode cX12_ring 140 = .ok (.goto (-88), 3) := by decide +kernel
theorem dX12_ring_143 : decode cX12_ring 143 = .ok (.iinc 3 1, 3) := by decide +kernel
theorem dX12_ring_146 : decode cX12_ring 146 = .ok (.goto (-105), 3) := by decide +kernel
theorem dX12_ring_149 : decode cX12_ring 149 = .ok (.aload_n 0, 1) := by decide +kernel
theorem dX12_ring_150 : decode cX12_ring 150 = .ok (.getfield 72, 3) := by decide +kernel
theorem dX12_ring_153 : decode cX12_ring 153 = .ok (.iload_n 2, 1) := by decide +kernel
theorem dX12_ring_154 : decode cX12_ring 154 = .ok (.iaload, 1) := by decide +kernel
theorem dX12_ring_155 : decode cX12_ring 155 = .ok (.ldc 29, 2) := by decide +kernel
theorem dX12_ring_157 : decode cX12_ring 157 = .ok (.if_icmp .ne 6, 3) := by decide +kernel
theorem dX12_ring_160 : decode cX12_ring 160 = .ok (.goto 106, 3) := by decide +kernel
theorem dX12_ring_163 : decode cX12_ring 163 = .ok (.iload_n 1, 1) := by decide +kernel
theorem dX12_ring_164 : decode cX12_ring 164 = .ok (.aload_n 0, 1) := by decide +kernel
theorem dX12_ring_165 : decode cX12_ring 165 = .ok (.getfield 72, 3) := by decide +kernel
theorem dX12_ring_168 : decode cX12_ring 168 = .ok (.iload_n 2, 1) := by decide +kernel
theorem dX12_ring_169 : decode cX12_ring 169 = .ok (.iaload, 1) := by decide +kernel
theorem dX12_ring_170 : decode cX12_ring 170 = .ok (.if_icmp .lt 6, 3) := by decide +kernel
theorem dX12_ring_173 : decode cX12_ring 173 = .ok (.ldc 29, 2) := by decide +kernel
theorem dX12_ring_175 : decode cX12_ring 175 = .ok (.ireturn, 1) := by decide +kernel
theorem dX12_ring_176 : decode cX12_ring 176 = .ok (.iload_n 2, 1) := by decide +kernel
theorem dX12_ring_177 : decode cX12_ring 177 = .ok (.istore_n 3, 1) := by decide +kernel
theorem dX12_ring_178 : decode cX12_ring 178 = .ok (.iconst 0, 1) := by decide +kernel
theorem dX12_ring_179 : decode cX12_ring 179 = .ok (.istore 4, 2) := by decide +kernel
theorem dX12_ring_181 : decode cX12_ring 181 = .ok (.iload 4, 2) := by decide +kernel
theorem dX12_ring_183 : decode cX12_ring 183 = .ok (.iload_n 1, 1) := by decide +kernel
theorem dX12_ring_184 : decode cX12_ring 184 = .ok (.if_icmp .ge 80, 3) := by decide +kernel
theorem dX12_ring_187 : decode cX12_ring 187 = .ok (.aload_n 0, 1) := by decide +kernel
theorem dX12_ring_188 : decode cX12_ring 188 = .ok (.getfield 72, 3) := by decide +kernel
theorem dX12_ring_191 : decode cX12_ring 191 = .ok (.iload_n 2, 1) := by decide +kernel
theorem dX12_ring_192 : decode cX12_ring 192 = .ok (.iaload, 1) := by decide +kernel
theorem dX12_ring_193 : decode cX12_ring 193 = .ok (.iload 4, 2) := by decide +kernel
theorem dX12_ring_195 : decode cX12_ring 195 = .ok (.isub, 1) := by decide +kernel
theorem dX12_ring_196 : decode cX12_ring 196 = .ok (.iconst 1, 1) := by decide +kernel
theorem dX12_ring_197 : decode cX12_ring 197 = .ok (.isub, 1) := by decide +kernel
theorem dX12_ring_198 : decode cX12_ring 198 = .ok (.istore 5, 2) := by decide +kernel
theorem dX12_ring_200 : decode cX12_ring 200 = .ok (.ldc 29, 2) := by decide +kernel
theorem dX12_ring_202 : decode cX12_ring 202 = .ok (.istore 6, 2) := by decide +kernel
theorem dX12_ring_204 : decode cX12_ring 204 = .ok (.iconst 0, 1) := by decide +kernel
theorem dX12_ring_205 : decode cX12_ring 205 = .ok (.istore 7, 2) := by decide +kernel
theorem dX12_ring_207 : decode cX12_ring 207 = .ok (.iload 7, 2) := by decide +kernel
theorem dX12_ring_209 : decode cX12_ring 209 = .ok (.aload_n 0, 1) := by decide +kernel
theorem dX12_ring_210 : decode cX12_ring 210 = .ok (.getfield 34, 3) := by decide +kernel
theorem dX12_ring_213 : decode cX12_ring 213 = .ok (.if_icmp .ge 42, 3) := by decide +kernel
theorem dX12_ring_216 : decode cX12_ring 216 = .ok (.iload 6, 2) := by decide +kernel
theorem dX12_ring_218 : decode cX12_ring 218 = .ok (.ldc 29, 2) := by decide +kernel
theorem dX12_ring_220 : decode cX12_ring 220 = .ok (.if_icmp .ne 35, 3) := by decide +kernel
theorem dX12_ring_223 : decode cX12_ring 223 = .ok (.aload_n 0, 1) := by decide +kernel
theorem dX12_ring_224 : decode cX12_ring 224 = .ok (.iload_n 3, 1) := by decide +kernel
theorem dX12_ring_225 : decode cX12_ring 225 = .ok (.iload 7, 2) := by decide +kernel
theorem dX12_ring_227 : decode cX12_ring 227 = .ok (.invokevirtual 75, 3) := by decide +kernel
theorem dX12_ring_230 : decode cX12_ring 230 = .ok (.ifCond .eq 19, 3) := by decide +kernel
theorem dX12_ring_233 : decode cX12_ring 233 = .ok (.aload_n 0, 1) := by decide +kernel
theorem dX12_ring_234 : decode cX12_ring 234 = .ok (.getfield 72, 3) := by decide +kernel
theorem dX12_ring_237 : decode cX12_ring 237 = .ok (.iload 7, 2) := by decide +kernel
theorem dX12_ring_239 : decode cX12_ring 239 = .ok (.iaload, 1) := by decide +kernel
theorem dX12_ring_240 : decode cX12_ring 240 = .ok (.iload 5, 2) := by decide +kernel
theorem dX12_ring_242 : decode cX12_ring 242 = .ok (.if_icmp .ne 7, 3) := by decide +kernel
theorem dX12_ring_245 : decode cX12_ring 245 = .ok (.iload 7, 2) := by decide +kernel
theorem dX12_ring_247 : decode cX12_ring 247 = .ok (.istore 6, 2) := by decide +kernel
theorem dX12_ring_249 : decode cX12_ring 249 = .ok (.iinc 7 1, 3) := by decide +kernel
theorem dX12_ring_252 : decode cX12_ring 252 = .ok (.goto (-45), 3) := by decide +kernel
theorem dX12_ring_255 : decode cX12_ring 255 = .ok (.iload 6, 2) := by decide +kernel
theorem dX12_ring_257 : decode cX12_ring 257 = .ok (.istore_n 3, 1) := by decide +kernel
theorem dX12_ring_258 : decode cX12_ring 258 = .ok (.iinc 4 1, 3) := by decide +kernel
theorem dX12_ring_261 : decode cX12_ring 261 = .ok (.goto (-80), 3) := by decide +kernel
theorem dX12_ring_264 : decode cX12_ring 264 = .ok (.iload_n 3, 1) := by decide +kernel
theorem dX12_ring_265 : decode cX12_ring 265 = .ok (.ireturn, 1) := by decide +kernel
theorem dX12_ring_266 : decode cX12_ring 266 = .ok (.iinc 2 1, 3) := by decide +kernel
theorem dX12_ring_269 : decode cX12_ring 269 = .ok (.goto (-260), 3) := by decide +kernel
theorem dX12_ring_272 : decode cX12_ring 272 = .ok (.ldc 29, 2) := by decide +kernel
theorem dX12_ring_274 : decode cX12_ring 274 = .ok (.ireturn, 1) := by decide +kernel
theorem dX12_same_0 : decode cX12_same 0 = .ok (.aload_n 0, 1) := by decide +kernel
theorem dX12_same_1 : decode cX12_same 1 = .ok (.iload_n 1, 1) := by decide +kernel
theorem dX12_same_2 : decode cX12_same 2 = .ok (.invokevirtual 151, 3) := by decide +kernel
theorem dX12_same_5 : decode cX12_same 5 = .ok (.ifCond .eq 11, 3) := by decide +kernel
theorem dX12_same_8 : decode cX12_same 8 = .ok (.aload_n 0, 1) := by decide +kernel
theorem dX12_same_9 : decode cX12_same 9 = .ok (.iload_n 2, 1) := by decide +kernel
theorem dX12_same_10 : decode cX12_same 10 = .ok (.invokevirtual 151, 3) := by decide +kernel
theorem dX12_same_13 : decode cX12_same 13 = .ok (.ifCond .ne 22, 3) := by decide +kernel
theorem dX12_same_16 : decode cX12_same 16 = .ok (.aload_n 0, 1) := by decide +kernel
theorem dX12_same_17 : decode cX12_same 17 = .ok (.iload_n 1, 1) := by decide +kernel
theorem dX12_same_18 : decode cX12_same 18 = .ok (.invokevirtual 151, 3) := by decide +kernel
theorem dX12_same_21 : decode cX12_same 21 = .ok (.aload_n 0, 1) := by decide +kernel
theorem dX12_same_22 : decode cX12_same 22 = .ok (.iload_n 2, 1) := by decide +kernel
theorem dX12_same_23 : decode cX12_same 23 = .ok (.invokevirtual 151, 3) := by decide +kernel
theorem dX12_same_26 : decode cX12_same 26 = .ok (.if_icmp .ne 7, 3) := by decide +kernel
theorem dX12_same_29 : decode cX12_same 29 = .ok (.iconst 1, 1) := by decide +kernel
theorem dX12_same_30 : decode cX12_same 30 = .ok (.goto 4, 3) := by decide +kernel
theorem dX12_same_33 : decode cX12_same 33 = .ok (.iconst 0, 1) := by decide +kernel
theorem dX12_same_34 : decode cX12_same 34 = .ok (.ireturn, 1) := by decide +kernel
theorem dX12_same_35 : decode cX12_same 35 = .ok (.iconst 1, 1) := by decide +kernel
theorem dX12_same_36 : decode cX12_same 36 = .ok (.istore_n 3, 1) := by decide +kernel
theorem dX12_same_37 : decode cX12_same 37 = .ok (.iconst 0, 1) := by decide +kernel
theorem dX12_same_38 : decode cX12_same 38 = .ok (.istore 4, 2) := by decide +kernel
theorem dX12_same_40 : decode cX12_same 40 = .ok (.iload 4, 2) := by decide +kernel
theorem dX12_same_42 : decode cX12_same 42 = .ok (.bipush 6, 2) := by decide +kernel
theorem dX12_same_44 : decode cX12_same 44 = .ok (.if_icmp .ge 46, 3) := by decide +kernel
theorem dX12_same_47 : decode cX12_same 47 = .ok (.iload_n 3, 1) := by decide +kernel
theorem dX12_same_48 : decode cX12_same 48 = .ok (.ifCond .eq 34, 3) := by decide +kernel
theorem dX12_same_51 : decode cX12_same 51 = .ok (.aload_n 0, 1) := by decide +kernel
theorem dX12_same_52 : decode cX12_same 52 = .ok (.getfield 148, 3) := by decide +kernel
theorem dX12_same_55 : decode cX12_same 55 = .ok (.bipush 40, 2) := by decide +kernel
theorem dX12_same_57 : decode cX12_same 57 = .ok (.iload_n 1, 1) := by decide +kernel
theorem dX12_same_58 : decode cX12_same 58 = .ok (.imul, 1) := by decide +kernel
theorem dX12_same_59 : decode cX12_same 59 = .ok (.iload 4, 2) := by decide +kernel
theorem dX12_same_61 : decode cX12_same 61 = .ok (.iadd, 1) := by decide +kernel
theorem dX12_same_62 : decode cX12_same 62 = .ok (.iaload, 1) := by decide +kernel
theorem dX12_same_63 : decode cX12_same 63 = .ok (.aload_n 0, 1) := by decide +kernel
theorem dX12_same_64 : decode cX12_same 64 = .ok (.getfield 148, 3) := by decide +kernel
theorem dX12_same_67 : decode cX12_same 67 = .ok (.bipush 40, 2) := by decide +kernel
theorem dX12_same_69 : decode cX12_same 69 = .ok (.iload_n 2, 1) := by decide +kernel
theorem dX12_same_70 : decode cX12_same 70 = .ok (.imul, 1) := by decide +kernel
theorem dX12_same_71 : decode cX12_same 71 = .ok (.iload 4, 2) := by decide +kernel
theorem dX12_same_73 : decode cX12_same 73 = .ok (.iadd, 1) := by decide +kernel
theorem dX12_same_74 : decode cX12_same 74 = .ok (.iaload, 1) := by decide +kernel
theorem dX12_same_75 : decode cX12_same 75 = .ok (.if_icmp .ne 7, 3) := by decide +kernel
theorem dX12_same_78 : decode cX12_same 78 = .ok (.iconst 1, 1) := by decide +kernel
theorem dX12_same_79 : decode cX12_same 79 = .ok (.goto 4, 3) := by decide +kernel
theorem dX12_same_82 : decode cX12_same 82 = .ok (.iconst 0, 1) := by decide +kernel
theorem dX12_same_83 : decode cX12_same 83 = .ok (.istore_n 3, 1) := by decide +kernel
theorem dX12_same_84 : decode cX12_same 84 = .ok (.iinc 4 1, 3) := by decide +kernel
theorem dX12_same_87 : decode cX12_same 87 = .ok (.goto (-47), 3) := by decide +kernel
theorem dX12_same_90 : decode cX12_same 90 = .ok (.iconst 0, 1) := by decide +kernel
theorem dX12_same_91 : decode cX12_same 91 = .ok (.istore 4, 2) := by decide +kernel
theorem dX12_same_93 : decode cX12_same 93 = .ok (.iload 4, 2) := by decide +kernel
theorem dX12_same_95 : decode cX12_same 95 = .ok (.bipush 20, 2) := by decide +kernel
theorem dX12_same_97 : decode cX12_same 97 = .ok (.if_icmp .ge 68, 3) := by decide +kernel
theorem dX12_same_100 : decode cX12_same 100 = .ok (.iload_n 3, 1) := by decide +kernel
theorem dX12_same_101 : decode cX12_same 101 = .ok (.ifCond .eq 64, 3) := by decide +kernel
theorem dX12_same_104 : decode cX12_same 104 = .ok (.iload 4, 2) := by decide +kernel
theorem dX12_same_106 : decode cX12_same 106 = .ok (.aload_n 0, 1) := by decide +kernel
theorem dX12_same_107 : decode cX12_same 107 = .ok (.getfield 148, 3) := by decide +kernel
theorem dX12_same_110 : decode cX12_same 110 = .ok (.bipush 40, 2) := by decide +kernel
theorem dX12_same_112 : decode cX12_same 112 = .ok (.iload_n 1, 1) := by decide +kernel
theorem dX12_same_113 : decode cX12_same 113 = .ok (.imul, 1) := by decide +kernel
theorem dX12_same_114 : decode cX12_same 114 = .ok (.iconst 4, 1) := by decide +kernel
theorem dX12_same_115 : decode cX12_same 115 = .ok (.iadd, 1) := by decide +kernel
theorem dX12_same_116 : decode cX12_same 116 = .ok (.iaload, 1) := by decide +kernel
theorem dX12_same_117 : decode cX12_same 117 = .ok (.if_icmp .ge 36, 3) := by decide +kernel
theorem dX12_same_120 : decode cX12_same 120 = .ok (.aload_n 0, 1) := by decide +kernel
theorem dX12_same_121 : decode cX12_same 121 = .ok (.getfield 148, 3) := by decide +kernel
theorem dX12_same_124 : decode cX12_same 124 = .ok (.bipush 40, 2) := by decide +kernel
theorem dX12_same_126 : decode cX12_same 126 = .ok (.iload_n 1, 1) := by decide +kernel
theorem dX12_same_127 : decode cX12_same 127 = .ok (.imul, 1) := by decide +kernel
theorem dX12_same_128 : decode cX12_same 128 = .ok (.bipush 6, 2) := by decide +kernel
theorem dX12_same_130 : decode cX12_same 130 = .ok (.iadd, 1) := by decide +kernel
theorem dX12_same_131 : decode cX12_same 131 = .ok (.iload 4, 2) := by decide +kernel
theorem dX12_same_133 : decode cX12_same 133 = .ok (.iadd, 1) := by decide +kernel
theorem dX12_same_134 : decode cX12_same 134 = .ok (.iaload, 1) := by decide +kernel
theorem dX12_same_135 : decode cX12_same 135 = .ok (.aload_n 0, 1) := by decide +kernel
theorem dX12_same_136 : decode cX12_same 136 = .ok (.getfield 148, 3) := by decide +kernel
theorem dX12_same_139 : decode cX12_same 139 = .ok (.bipush 40, 2) := by decide +kernel
theorem dX12_same_141 : decode cX12_same 141 = .ok (.iload_n 2, 1) := by decide +kernel
theorem dX12_same_142 : decode cX12_same 142 = .ok (.imul, 1) := by decide +kernel
theorem dX12_same_143 : decode cX12_same 143 = .ok (.bipush 6, 2) := by decide +kernel
theorem dX12_same_145 : decode cX12_same 145 = .ok (.iadd, 1) := by decide +kernel
theorem dX12_same_146 : decode cX12_same 146 = .ok (.iload 4, 2) := by decide +kernel
theorem dX12_same_148 : decode cX12_same 148 = .ok (.iadd, 1) := by decide +kernel
theorem dX12_same_149 : decode cX12_same 149 = .ok (.iaload, 1) := by decide +kernel
theorem dX12_same_150 : decode cX12_same 150 = .ok (.if_icmp .ne 7, 3) := by decide +kernel
theorem dX12_same_153 : decode cX12_same 153 = .ok (.iconst 1, 1) := by decide +kernel
theorem dX12_same_154 : decode cX12_same 154 = .ok (.goto 4, 3) := by decide +kernel
theorem dX12_same_157 : decode cX12_same 157 = .ok (.iconst 0, 1) := by decide +kernel
theorem dX12_same_158 : decode cX12_same 158 = .ok (.istore_n 3, 1) := by decide +kernel
theorem dX12_same_159 : decode cX12_same 159 = .ok (.iinc 4 1, 3) := by decide +kernel
theorem dX12_same_162 : decode cX12_same 162 = .ok (.goto (-69), 3) := by decide +kernel
theorem dX12_same_165 : decode cX12_same 165 = .ok (.iconst 0, 1) := by decide +kernel
theorem dX12_same_166 : decode cX12_same 166 = .ok (.istore 4, 2) := by decide +kernel
theorem dX12_same_168 : decode cX12_same 168 = .ok (.iload 4, 2) := by decide +kernel
theorem dX12_same_170 : decode cX12_same 170 = .ok (.bipush 8, 2) := by decide +kernel
theorem dX12_same_172 : decode cX12_same 172 = .ok (.if_icmp .ge 68, 3) := by decide +kernel
theorem dX12_same_175 : decode cX12_same 175 = .ok (.iload_n 3, 1) := by decide +kernel
theorem dX12_same_176 : decode cX12_same 176 = .ok (.ifCond .eq 64, 3) := by decide +kernel
theorem dX12_same_179 : decode cX12_same 179 = .ok (.iload 4, 2) := by decide +kernel
theorem dX12_same_181 : decode cX12_same 181 = .ok (.aload_n 0, 1) := by decide +kernel
theorem dX12_same_182 : decode cX12_same 182 = .ok (.getfield 148, 3) := by decide +kernel
theorem dX12_same_185 : decode cX12_same 185 = .ok (.bipush 40, 2) := by decide +kernel
theorem dX12_same_187 : decode cX12_same 187 = .ok (.iload_n 1, 1) := by decide +kernel
theorem dX12_same_188 : decode cX12_same 188 = .ok (.imul, 1) := by decide +kernel
theorem dX12_same_189 : decode cX12_same 189 = .ok (.iconst 5, 1) := by decide +kernel
theorem dX12_same_190 : decode cX12_same 190 = .ok (.iadd, 1) := by decide +kernel
theorem dX12_same_191 : decode cX12_same 191 = .ok (.iaload, 1) := by decide +kernel
theorem dX12_same_192 : decode cX12_same 192 = .ok (.if_icmp .ge 36, 3) := by decide +kernel
theorem dX12_same_195 : decode cX12_same 195 = .ok (.aload_n 0, 1) := by decide +kernel
theorem dX12_same_196 : decode cX12_same 196 = .ok (.getfield 148, 3) := by decide +kernel
theorem dX12_same_199 : decode cX12_same 199 = .ok (.bipush 40, 2) := by decide +kernel
theorem dX12_same_201 : decode cX12_same 201 = .ok (.iload_n 1, 1) := by decide +kernel
theorem dX12_same_202 : decode cX12_same 202 = .ok (.imul, 1) := by decide +kernel
theorem dX12_same_203 : decode cX12_same 203 = .ok (.bipush 26, 2) := by decide +kernel
theorem dX12_same_205 : decode cX12_same 205 = .ok (.iadd, 1) := by decide +kernel
theorem dX12_same_206 : decode cX12_same 206 = .ok (.iload 4, 2) := by decide +kernel
theorem dX12_same_208 : decode cX12_same 208 = .ok (.iadd, 1) := by decide +kernel
theorem dX12_same_209 : decode cX12_same 209 = .ok (.iaload, 1) := by decide +kernel
theorem dX12_same_210 : decode cX12_same 210 = .ok (.aload_n 0, 1) := by decide +kernel
theorem dX12_same_211 : decode cX12_same 211 = .ok (.getfield 148, 3) := by decide +kernel
theorem dX12_same_214 : decode cX12_same 214 = .ok (.bipush 40, 2) := by decide +kernel
theorem dX12_same_216 : decode cX12_same 216 = .ok (.iload_n 2, 1) := by decide +kernel
theorem dX12_same_217 : decode cX12_same 217 = .ok (.imul, 1) := by decide +kernel
theorem dX12_same_218 : decode cX12_same 218 = .ok (.bipush 26, 2) := by decide +kernel
theorem dX12_same_220 : decode cX12_same 220 = .ok (.iadd, 1) := by decide +kernel
theorem dX12_same_221 : decode cX12_same 221 = .ok (.iload 4, 2) := by decide +kernel
theorem dX12_same_223 : decode cX12_same 223 = .ok (.iadd, 1) := by decide +kernel
theorem dX12_same_224 : decode cX12_same 224 = .ok (.iaload, 1) := by decide +kernel
theorem dX12_same_225 : decode cX12_same 225 = .ok (.if_icmp .ne 7, 3) := by decide +kernel
theorem dX12_same_228 : decode cX12_same 228 = .ok (.iconst 1, 1) := by decide +kernel
theorem dX12_same_229 : decode cX12_same 229 = .ok (.goto 4, 3) := by decide +kernel
theorem dX12_same_232 : decode cX12_same 232 = .ok (.iconst 0, 1) := by decide +kernel
theorem dX12_same_233 : decode cX12_same 233 = .ok (.istore_n 3, 1) := by decide +kernel
theorem dX12_same_234 : decode cX12_same 234 = .ok (.iinc 4 1, 3) := by decide +kernel
theorem dX12_same_237 : decode cX12_same 237 = .ok (.goto (-69), 3) := by decide +kernel
theorem dX12_same_240 : decode cX12_same 240 = .ok (.iload_n 3, 1) := by decide +kernel
theorem dX12_same_241 : decode cX12_same 241 = .ok (.ireturn, 1) := by decide +kernel
theorem dX12_tie_0 : decode cX12_tie 0 = .ok (.aload_n 0, 1) := by decide +kernel
theorem dX12_tie_1 : decode cX12_tie 1 = .ok (.iload_n 1, 1) := by decide +kernel
theorem dX12_tie_2 : decode cX12_tie 2 = .ok (.invokevirtual 49, 3) := by decide +kernel
theorem dX12_tie_5 : decode cX12_tie 5 = .ok (.ifCond .eq 25, 3) := by decide +kernel
theorem dX12_tie_8 : decode cX12_tie 8 = .ok (.aload_n 0, 1) := by decide +kernel
theorem dX12_tie_9 : decode cX12_tie 9 = .ok (.iload_n 2, 1) := by decide +kernel
theorem dX12_tie_10 : decode cX12_tie 10 = .ok (.invokevirtual 49, 3) := by decide +kernel
theorem dX12_tie_13 : decode cX12_tie 13 = .ok (.ifCond .eq 17, 3) := by decide +kernel
theorem dX12_tie_16 : decode cX12_tie 16 = .ok (.iload_n 1, 1) := by decide +kernel
theorem dX12_tie_17 : decode cX12_tie 17 = .ok (.iload_n 2, 1) := by decide +kernel
theorem dX12_tie_18 : decode cX12_tie 18 = .ok (.if_icmp .eq 12, 3) := by decide +kernel
theorem dX12_tie_21 : decode cX12_tie 21 = .ok (.iload_n 3, 1) := by decide +kernel
theorem dX12_tie_22 : decode cX12_tie 22 = .ok (.iconst 0, 1) := by decide +kernel
theorem dX12_tie_23 : decode cX12_tie 23 = .ok (.iconst 2, 1) := by decide +kernel
theorem dX12_tie_24 : decode cX12_tie 24 = .ok (.invokestatic 18, 3) := by decide +kernel
theorem dX12_tie_27 : decode cX12_tie 27 = .ok (.ifCond .ne 5, 3) := by decide +kernel
theorem dX12_tie_30 : decode cX12_tie 30 = .ok (.iconst (-1), 1) := by decide +kernel
theorem dX12_tie_31 : decode cX12_tie 31 = .ok (.ireturn, 1) := by decide +kernel
theorem dX12_tie_32 : decode cX12_tie 32 = .ok (.aload_n 0, 1) := by decide +kernel
theorem dX12_tie_33 : decode cX12_tie 33 = .ok (.iload_n 1, 1) := by decide +kernel
theorem dX12_tie_34 : decode cX12_tie 34 = .ok (.iload_n 2, 1) := by decide +kernel
theorem dX12_tie_35 : decode cX12_tie 35 = .ok (.invokevirtual 43, 3) := by decide +kernel
theorem dX12_tie_38 : decode cX12_tie 38 = .ok (.ldc 29, 2) := by decide +kernel
theorem dX12_tie_40 : decode cX12_tie 40 = .ok (.if_icmp .eq 6, 3) := by decide +kernel
theorem dX12_tie_43 : decode cX12_tie 43 = .ok (.bipush (-2), 2) := by decide +kernel
theorem dX12_tie_45 : decode cX12_tie 45 = .ok (.ireturn, 1) := by decide +kernel
theorem dX12_tie_46 : decode cX12_tie 46 = .ok (.aload_n 0, 1) := by decide +kernel
theorem dX12_tie_47 : decode cX12_tie 47 = .ok (.getfield 37, 3) := by decide +kernel
theorem dX12_tie_50 : decode cX12_tie 50 = .ok (.bipush 20, 2) := by decide +kernel
theorem dX12_tie_52 : decode cX12_tie 52 = .ok (.if_icmp .ne 6, 3) := by decide +kernel
theorem dX12_tie_55 : decode cX12_tie 55 = .ok (.bipush (-3), 2) := by decide +kernel
theorem dX12_tie_57 : decode cX12_tie 57 = .ok (.ireturn, 1) := by decide +kernel
theorem dX12_tie_58 : decode cX12_tie 58 = .ok (.aload_n 0, 1) := by decide +kernel
theorem dX12_tie_59 : decode cX12_tie 59 = .ok (.getfield 40, 3) := by decide +kernel
theorem dX12_tie_62 : decode cX12_tie 62 = .ok (.iconst 2, 1) := by decide +kernel
theorem dX12_tie_63 : decode cX12_tie 63 = .ok (.aload_n 0, 1) := by decide +kernel
theorem dX12_tie_64 : decode cX12_tie 64 = .ok (.getfield 37, 3) := by decide +kernel
theorem dX12_tie_67 : decode cX12_tie 67 = .ok (.imul, 1) := by decide +kernel
theorem dX12_tie_68 : decode cX12_tie 68 = .ok (.iload_n 1, 1) := by decide +kernel
theorem dX12_tie_69 : decode cX12_tie 69 = .ok (.iastore, 1) := by decide +kernel
theorem dX12_tie_70 : decode cX12_tie 70 = .ok (.aload_n 0, 1) := by decide +kernel
theorem dX12_tie_71 : decode cX12_tie 71 = .ok (.getfield 40, 3) := by decide +kernel
theorem dX12_tie_74 : decode cX12_tie 74 = .ok (.iconst 2, 1) := by decide +kernel
theorem dX12_tie_75 : decode cX12_tie 75 = .ok (.aload_n 0, 1) := by decide +kernel
theorem dX12_tie_76 : decode cX12_tie 76 = .ok (.getfield 37, 3) := by decide +kernel
theorem dX12_tie_79 : decode cX12_tie 79 = .ok (.imul, 1) := by decide +kernel
theorem dX12_tie_80 : decode cX12_tie 80 = .ok (.iconst 1, 1) := by decide +kernel
theorem dX12_tie_81 : decode cX12_tie 81 = .ok (.iadd, 1) := by decide +kernel
theorem dX12_tie_82 : decode cX12_tie 82 = .ok (.iload_n 2, 1) := by decide +kernel
theorem dX12_tie_83 : decode cX12_tie 83 = .ok (.iastore, 1) := by decide +kernel
theorem dX12_tie_84 : decode cX12_tie 84 = .ok (.aload_n 0, 1) := by decide +kernel
theorem dX12_tie_85 : decode cX12_tie 85 = .ok (.getfield 46, 3) := by decide +kernel
theorem dX12_tie_88 : decode cX12_tie 88 = .ok (.aload_n 0, 1) := by decide +kernel
theorem dX12_tie_89 : decode cX12_tie 89 = .ok (.getfield 37, 3) := by decide +kernel
theorem dX12_tie_92 : decode cX12_tie 92 = .ok (.iload_n 3, 1) := by decide +kernel
theorem dX12_tie_93 : decode cX12_tie 93 = .ok (.iastore, 1) := by decide +kernel
theorem dX12_tie_94 : decode cX12_tie 94 = .ok (.aload_n 0, 1) := by decide +kernel
theorem dX12_tie_95 : decode cX12_tie 95 = .ok (.getfield 53, 3) := by decide +kernel
theorem dX12_tie_98 : decode cX12_tie 98 = .ok (.aload_n 0, 1) := by decide +kernel
theorem dX12_tie_99 : decode cX12_tie 99 = .ok (.getfield 37, 3) := by decide +kernel
theorem dX12_tie_102 : decode cX12_tie 102 = .ok (.iconst 1, 1) := by decide +kernel
theorem dX12_tie_103 : decode cX12_tie 103 = .ok (.bastore, 1) := by decide +kernel
theorem dX12_tie_104 : decode cX12_tie 104 = .ok (.aload_n 0, 1) := by decide +kernel
theorem dX12_tie_105 : decode cX12_tie 105 = .ok (.getfield 57, 3) := by decide +kernel
theorem dX12_tie_108 : decode cX12_tie 108 = .ok (.aload_n 0, 1) := by decide +kernel
theorem dX12_tie_109 : decode cX12_tie 109 = .ok (.getfield 37, 3) := by decide +kernel
theorem dX12_tie_112 : decode cX12_tie 112 = .ok (.iconst 1, 1) := by decide +kernel
theorem dX12_tie_113 : decode cX12_tie 113 = .ok (.iastore, 1) := by decide +kernel
theorem dX12_tie_114 : decode cX12_tie 114 = .ok (.aload_n 0, 1) := by decide +kernel
theorem dX12_tie_115 : decode cX12_tie 115 = .ok (.getfield 60, 3) := by decide +kernel
theorem dX12_tie_118 : decode cX12_tie 118 = .ok (.aload_n 0, 1) := by decide +kernel
theorem dX12_tie_119 : decode cX12_tie 119 = .ok (.getfield 37, 3) := by decide +kernel
theorem dX12_tie_122 : decode cX12_tie 122 = .ok (.iconst 0, 1) := by decide +kernel
theorem dX12_tie_123 : decode cX12_tie 123 = .ok (.iastore, 1) := by decide +kernel
theorem dX12_tie_124 : decode cX12_tie 124 = .ok (.iconst 0, 1) := by decide +kernel
theorem dX12_tie_125 : decode cX12_tie 125 = .ok (.istore 4, 2) := by decide +kernel
theorem dX12_tie_127 : decode cX12_tie 127 = .ok (.iload 4, 2) := by decide +kernel
theorem dX12_tie_129 : decode cX12_tie 129 = .ok (.iconst 4, 1) := by decide +kernel
theorem dX12_tie_130 : decode cX12_tie 130 = .ok (.if_icmp .ge 25, 3) := by decide +kernel
theorem dX12_tie_133 : decode cX12_tie 133 = .ok (.aload_n 0, 1) := by decide +kernel
theorem dX12_tie_134 : decode cX12_tie 134 = .ok (.getfield 63, 3) := by decide +kernel
theorem dX12_tie_137 : decode cX12_tie 137 = .ok (.iconst 4, 1) := by decide +kernel
theorem dX12_tie_138 : decode cX12_tie 138 = .ok (.aload_n 0, 1) := by decide +kernel
theorem dX12_tie_139 : decode cX12_tie 139 = .ok (.getfield 37, 3) := by decide +kernel
theorem dX12_tie_142 : decode cX12_tie 142 = .ok (.imul, 1) := by decide +kernel
theorem dX12_tie_143 : decode cX12_tie 143 = .ok (.iload 4, 2) := by decide +kernel
theorem dX12_tie_145 : decode cX12_tie 145 = .ok (.iadd, 1) := by decide +kernel
theorem dX12_tie_146 : decode cX12_tie 146 = .ok (.ldc 29, 2) := by decide +kernel
theorem dX12_tie_148 : decode cX12_tie 148 = .ok (.iastore, 1) := by decide +kernel
theorem dX12_tie_149 : decode cX12_tie 149 = .ok (.iinc 4 1, 3) := by decide +kernel
theorem dX12_tie_152 : decode cX12_tie 152 = .ok (.goto (-25), 3) := by decide +kernel
theorem dX12_tie_155 : decode cX12_tie 155 = .ok (.aload_n 0, 1) := by decide +kernel
theorem dX12_tie_156 : decode cX12_tie 156 = .ok (.dup, 1) := by decide +kernel
theorem dX12_tie_157 : decode cX12_tie 157 = .ok (.getfield 37, 3) := by decide +kernel
theorem dX12_tie_160 : decode cX12_tie 160 = .ok (.iconst 1, 1) := by decide +kernel
theorem dX12_tie_161 : decode cX12_tie 161 = .ok (.iadd, 1) := by decide +kernel
theorem dX12_tie_162 : decode cX12_tie 162 = .ok (.putfield 37, 3) := by decide +kernel
theorem dX12_tie_165 : decode cX12_tie 165 = .ok (.aload_n 0, 1) := by decide +kernel
theorem dX12_tie_166 : decode cX12_tie 166 = .ok (.getfield 37, 3) := by decide +kernel
theorem dX12_tie_169 : decode cX12_tie 169 = .ok (.iconst 1, 1) := by decide +kernel
theorem dX12_tie_170 : decode cX12_tie 170 = .ok (.isub, 1) := by decide +kernel
theorem dX12_tie_171 : decode cX12_tie 171 = .ok (.ireturn, 1) := by decide +kernel
theorem dX12_tieOf_0 : decode cX12_tieOf 0 = .ok (.iconst 0, 1) := by decide +kernel
theorem dX12_tieOf_1 : decode cX12_tieOf 1 = .ok (.istore_n 3, 1) := by decide +kernel
theorem dX12_tieOf_2 : decode cX12_tieOf 2 = .ok (.iload_n 3, 1) := by decide +kernel
theorem dX12_tieOf_3 : decode cX12_tieOf 3 = .ok (.aload_n 0, 1) := by decide +kernel
theorem dX12_tieOf_4 : decode cX12_tieOf 4 = .ok (.getfield 37, 3) := by decide +kernel
theorem dX12_tieOf_7 : decode cX12_tieOf 7 = .ok (.if_icmp .ge 63, 3) := by decide +kernel
theorem dX12_tieOf_10 : decode cX12_tieOf 10 = .ok (.aload_n 0, 1) := by decide +kernel
theorem dX12_tieOf_11 : decode cX12_tieOf 11 = .ok (.getfield 40, 3) := by decide +kernel
theorem dX12_tieOf_14 : decode cX12_tieOf 14 = .ok (.iconst 2, 1) := by decide +kernel
theorem dX12_tieOf_15 : decode cX12_tieOf 15 = .ok (.iload_n 3, 1) := by decide +kernel
theorem dX12_tieOf_16 : decode cX12_tieOf 16 = .ok (.imul, 1) := by decide +kernel
theorem dX12_tieOf_17 : decode cX12_tieOf 17 = .ok (.iaload, 1) := by decide +kernel
theorem dX12_tieOf_18 : decode cX12_tieOf 18 = .ok (.iload_n 1, 1) := by decide +kernel
theorem dX12_tieOf_19 : decode cX12_tieOf 19 = .ok (.if_icmp .ne 17, 3) := by decide +kernel
theorem dX12_tieOf_22 : decode cX12_tieOf 22 = .ok (.aload_n 0, 1) := by decide +kernel
theorem dX12_tieOf_23 : decode cX12_tieOf 23 = .ok (.getfield 40, 3) := by decide +kernel
theorem dX12_tieOf_26 : decode cX12_tieOf 26 = .ok (.iconst 2, 1) := by decide +kernel
theorem dX12_tieOf_27 : decode cX12_tieOf 27 = .ok (.iload_n 3, 1) := by decide +kernel
theorem dX12_tieOf_28 : decode cX12_tieOf 28 = .ok (.imul, 1) := by decide +kernel
theorem dX12_tieOf_29 : decode cX12_tieOf 29 = .ok (.iconst 1, 1) := by decide +kernel
theorem dX12_tieOf_30 : decode cX12_tieOf 30 = .ok (.iadd, 1) := by decide +kernel
theorem dX12_tieOf_31 : decode cX12_tieOf 31 = .ok (.iaload, 1) := by decide +kernel
theorem dX12_tieOf_32 : decode cX12_tieOf 32 = .ok (.iload_n 2, 1) := by decide +kernel
theorem dX12_tieOf_33 : decode cX12_tieOf 33 = .ok (.if_icmp .eq 29, 3) := by decide +kernel
theorem dX12_tieOf_36 : decode cX12_tieOf 36 = .ok (.aload_n 0, 1) := by decide +kernel
theorem dX12_tieOf_37 : decode cX12_tieOf 37 = .ok (.getfield 40, 3) := by decide +kernel
theorem dX12_tieOf_40 : decode cX12_tieOf 40 = .ok (.iconst 2, 1) := by decide +kernel
theorem dX12_tieOf_41 : decode cX12_tieOf 41 = .ok (.iload_n 3, 1) := by decide +kernel
theorem dX12_tieOf_42 : decode cX12_tieOf 42 = .ok (.imul, 1) := by decide +kernel
theorem dX12_tieOf_43 : decode cX12_tieOf 43 = .ok (.iaload, 1) := by decide +kernel
theorem dX12_tieOf_44 : decode cX12_tieOf 44 = .ok (.iload_n 2, 1) := by decide +kernel
theorem dX12_tieOf_45 : decode cX12_tieOf 45 = .ok (.if_icmp .ne 19, 3) := by decide +kernel
theorem dX12_tieOf_48 : decode cX12_tieOf 48 = .ok (.aload_n 0, 1) := by decide +kernel
theorem dX12_tieOf_49 : decode cX12_tieOf 49 = .ok (.getfield 40, 3) := by decide +kernel
theorem dX12_tieOf_52 : decode cX12_tieOf 52 = .ok (.iconst 2, 1) := by decide +kernel
theorem dX12_tieOf_53 : decode cX12_tieOf 53 = .ok (.iload_n 3, 1) := by decide +kernel
theorem dX12_tieOf_54 : decode cX12_tieOf 54 = .ok (.imul, 1) := by decide +kernel
theorem dX12_tieOf_55 : decode cX12_tieOf 55 = .ok (.iconst 1, 1) := by decide +kernel
theorem dX12_tieOf_56 : decode cX12_tieOf 56 = .ok (.iadd, 1) := by decide +kernel
theorem dX12_tieOf_57 : decode cX12_tieOf 57 = .ok (.iaload, 1) := by decide +kernel
theorem dX12_tieOf_58 : decode cX12_tieOf 58 = .ok (.iload_n 1, 1) := by decide +kernel
theorem dX12_tieOf_59 : decode cX12_tieOf 59 = .ok (.if_icmp .ne 5, 3) := by decide +kernel
theorem dX12_tieOf_62 : decode cX12_tieOf 62 = .ok (.iload_n 3, 1) := by decide +kernel
theorem dX12_tieOf_63 : decode cX12_tieOf 63 = .ok (.ireturn, 1) := by decide +kernel
theorem dX12_tieOf_64 : decode cX12_tieOf 64 = .ok (.iinc 3 1, 3) := by decide +kernel
theorem dX12_tieOf_67 : decode cX12_tieOf 67 = .ok (.goto (-65), 3) := by decide +kernel
theorem dX12_tieOf_70 : decode cX12_tieOf 70 = .ok (.ldc 29, 2) := by decide +kernel
theorem dX12_tieOf_72 : decode cX12_tieOf 72 = .ok (.ireturn, 1) := by decide +kernel
theorem dX12_verdict_0 : decode cX12_verdict 0 = .ok (.aload_n 0, 1) := by decide +kernel
theorem dX12_verdict_1 : decode cX12_verdict 1 = .ok (.iload_n 1, 1) := by decide +kernel
theorem dX12_verdict_2 : decode cX12_verdict 2 = .ok (.invokevirtual 92, 3) := by decide +kernel
theorem dX12_verdict_5 : decode cX12_verdict 5 = .ok (.ifCond .eq 12, 3) := by decide +kernel
theorem dX12_verdict_8 : decode cX12_verdict 8 = .ok (.iload_n 3, 1) := by decide +kernel
theorem dX12_verdict_9 : decode cX12_verdict 9 = .ok (.ifCond .lt 8, 3) := by decide +kernel
theorem dX12_verdict_12 : decode cX12_verdict 12 = .ok (.iload 4, 2) := by decide +kernel
theorem dX12_verdict_14 : decode cX12_verdict 14 = .ok (.ifCond .ge 5, 3) := by decide +kernel
theorem dX12_verdict_17 : decode cX12_verdict 17 = .ok (.iconst (-1), 1) := by decide +kernel
theorem dX12_verdict_18 : decode cX12_verdict 18 = .ok (.ireturn, 1) := by decide +kernel
theorem dX12_verdict_19 : decode cX12_verdict 19 = .ok (.aload_n 0, 1) := by decide +kernel
theorem dX12_verdict_20 : decode cX12_verdict 20 = .ok (.iload_n 1, 1) := by decide +kernel
theorem dX12_verdict_21 : decode cX12_verdict 21 = .ok (.iload_n 2, 1) := by decide +kernel
theorem dX12_verdict_22 : decode cX12_verdict 22 = .ok (.iload_n 3, 1) := by decide +kernel
theorem dX12_verdict_23 : decode cX12_verdict 23 = .ok (.iload 4, 2) := by decide +kernel
theorem dX12_verdict_25 : decode cX12_verdict 25 = .ok (.invokevirtual 145, 3) := by decide +kernel
theorem dX12_verdict_28 : decode cX12_verdict 28 = .ok (.ireturn, 1) := by decide +kernel
theorem dX12_walk_0 : decode cX12_walk 0 = .ok (.iload_n 1, 1) := by decide +kernel
theorem dX12_walk_1 : decode cX12_walk 1 = .ok (.iconst (-1), 1) := by decide +kernel
theorem dX12_walk_2 : decode cX12_walk 2 = .ok (.bipush 9, 2) := by decide +kernel
theorem dX12_walk_4 : decode cX12_walk 4 = .ok (.invokestatic 18, 3) := by decide +kernel
theorem dX12_walk_7 : decode cX12_walk 7 = .ok (.ifCond .ne 5, 3) := by decide +kernel
theorem dX12_walk_10 : decode cX12_walk 10 = .ok (.iconst (-1), 1) := by decide +kernel
theorem dX12_walk_11 : decode cX12_walk 11 = .ok (.ireturn, 1) := by decide +kernel
theorem dX12_walk_12 : decode cX12_walk 12 = .ok (.iload_n 1, 1) := by decide +kernel
theorem dX12_walk_13 : decode cX12_walk 13 = .ok (.iconst (-1), 1) := by decide +kernel
theorem dX12_walk_14 : decode cX12_walk 14 = .ok (.if_icmp .ne 10, 3) := by decide +kernel
theorem dX12_walk_17 : decode cX12_walk 17 = .ok (.aload_n 0, 1) := by decide +kernel
theorem dX12_walk_18 : decode cX12_walk 18 = .ok (.iconst 0, 1) := by decide +kernel
theorem dX12_walk_19 : decode cX12_walk 19 = .ok (.putfield 79, 3) := by decide +kernel
theorem dX12_walk_22 : decode cX12_walk 22 = .ok (.iconst 0, 1) := by decide +kernel
theorem dX12_walk_23 : decode cX12_walk 23 = .ok (.ireturn, 1) := by decide +kernel
theorem dX12_walk_24 : decode cX12_walk 24 = .ok (.aload_n 0, 1) := by decide +kernel
theorem dX12_walk_25 : decode cX12_walk 25 = .ok (.getfield 79, 3) := by decide +kernel
theorem dX12_walk_28 : decode cX12_walk 28 = .ok (.bipush 20, 2) := by decide +kernel
theorem dX12_walk_30 : decode cX12_walk 30 = .ok (.if_icmp .ne 6, 3) := by decide +kernel
theorem dX12_walk_33 : decode cX12_walk 33 = .ok (.bipush (-3), 2) := by decide +kernel
theorem dX12_walk_35 : decode cX12_walk 35 = .ok (.ireturn, 1) := by decide +kernel
theorem dX12_walk_36 : decode cX12_walk 36 = .ok (.aload_n 0, 1) := by decide +kernel
theorem dX12_walk_37 : decode cX12_walk 37 = .ok (.getfield 82, 3) := by decide +kernel
theorem dX12_walk_40 : decode cX12_walk 40 = .ok (.aload_n 0, 1) := by decide +kernel
theorem dX12_walk_41 : decode cX12_walk 41 = .ok (.getfield 79, 3) := by decide +kernel
theorem dX12_walk_44 : decode cX12_walk 44 = .ok (.iload_n 1, 1) := by decide +kernel
theorem dX12_walk_45 : decode cX12_walk 45 = .ok (.iastore, 1) := by decide +kernel
theorem dX12_walk_46 : decode cX12_walk 46 = .ok (.aload_n 0, 1) := by decide +kernel
theorem dX12_walk_47 : decode cX12_walk 47 = .ok (.dup, 1) := by decide +kernel
theorem dX12_walk_48 : decode cX12_walk 48 = .ok (.getfield 79, 3) := by decide +kernel
theorem dX12_walk_51 : decode cX12_walk 51 = .ok (.iconst 1, 1) := by decide +kernel
theorem dX12_walk_52 : decode cX12_walk 52 = .ok (.iadd, 1) := by decide +kernel
theorem dX12_walk_53 : decode cX12_walk 53 = .ok (.putfield 79, 3) := by decide +kernel
theorem dX12_walk_56 : decode cX12_walk 56 = .ok (.aload_n 0, 1) := by decide +kernel
theorem dX12_walk_57 : decode cX12_walk 57 = .ok (.getfield 79, 3) := by decide +kernel
theorem dX12_walk_60 : decode cX12_walk 60 = .ok (.ireturn, 1) := by decide +kernel
