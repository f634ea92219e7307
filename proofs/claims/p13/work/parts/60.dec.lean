theorem dX0_compareAt_0 : decode cX0_compareAt 0 = .ok (.iload_n 0, 1) := by decide +kernel
theorem dX0_compareAt_1 : decode cX0_compareAt 1 = .ok (.tableswitch 123 1 6 #[39, 51, 63, 75, 99, 111], 39) := by decide +kernel
theorem dX0_compareAt_40 : decode cX0_compareAt 40 = .ok (.aload_n 2, 1) := by decide +kernel
theorem dX0_compareAt_41 : decode cX0_compareAt 41 = .ok (.getfield 48, 3) := by decide +kernel
theorem dX0_compareAt_44 : decode cX0_compareAt 44 = .ok (.aload_n 1, 1) := by decide +kernel
theorem dX0_compareAt_45 : decode cX0_compareAt 45 = .ok (.getfield 48, 3) := by decide +kernel
theorem dX0_compareAt_48 : decode cX0_compareAt 48 = .ok (.invokestatic 51, 3) := by decide +kernel
theorem dX0_compareAt_51 : decode cX0_compareAt 51 = .ok (.ireturn, 1) := by decide +kernel
theorem dX0_compareAt_52 : decode cX0_compareAt 52 = .ok (.aload_n 1, 1) := by decide +kernel
theorem dX0_compareAt_53 : decode cX0_compareAt 53 = .ok (.getfield 57, 3) := by decide +kernel
theorem dX0_compareAt_56 : decode cX0_compareAt 56 = .ok (.aload_n 2, 1) := by decide +kernel
theorem dX0_compareAt_57 : decode cX0_compareAt 57 = .ok (.getfield 57, 3) := by decide +kernel
theorem dX0_compareAt_60 : decode cX0_compareAt 60 = .ok (.invokestatic 51, 3) := by decide +kernel
theorem dX0_compareAt_63 : decode cX0_compareAt 63 = .ok (.ireturn, 1) := by decide +kernel
theorem dX0_compareAt_64 : decode cX0_compareAt 64 = .ok (.aload_n 1, 1) := by decide +kernel
theorem dX0_compareAt_65 : decode cX0_compareAt 65 = .ok (.getfield 60, 3) := by decide +kernel
theorem dX0_compareAt_68 : decode cX0_compareAt 68 = .ok (.aload_n 2, 1) := by decide +kernel
theorem dX0_compareAt_69 : decode cX0_compareAt 69 = .ok (.getfield 60, 3) := by decide +kernel
theorem dX0_compareAt_72 : decode cX0_compareAt 72 = .ok (.invokestatic 51, 3) := by decide +kernel
theorem dX0_compareAt_75 : decode cX0_compareAt 75 = .ok (.ireturn, 1) := by decide +kernel
theorem dX0_compareAt_76 : decode cX0_compareAt 76 = .ok (.aload_n 1, 1) := by decide +kernel
theorem dX0_compareAt_77 : decode cX0_compareAt 77 = .ok (.aload_n 2, 1) := by decide +kernel
theorem dX0_compareAt_78 : decode cX0_compareAt 78 = .ok (.invokevirtual 63, 3) := by decide +kernel
theorem dX0_compareAt_81 : decode cX0_compareAt 81 = .ok (.ifCond .eq 17, 3) := by decide +kernel
theorem dX0_compareAt_84 : decode cX0_compareAt 84 = .ok (.aload_n 1, 1) := by decide +kernel
theorem dX0_compareAt_85 : decode cX0_compareAt 85 = .ok (.getfield 67, 3) := by decide +kernel
theorem dX0_compareAt_88 : decode cX0_compareAt 88 = .ok (.aload_n 2, 1) := by decide +kernel
theorem dX0_compareAt_89 : decode cX0_compareAt 89 = .ok (.getfield 67, 3) := by decide +kernel
theorem dX0_compareAt_92 : decode cX0_compareAt 92 = .ok (.invokestatic 51, 3) := by decide +kernel
theorem dX0_compareAt_95 : decode cX0_compareAt 95 = .ok (.goto 4, 3) := by decide +kernel
theorem dX0_compareAt_98 : decode cX0_compareAt 98 = .ok (.iconst 0, 1) := by decide +kernel
theorem dX0_compareAt_99 : decode cX0_compareAt 99 = .ok (.ireturn, 1) := by decide +kernel
theorem dX0_compareAt_100 : decode cX0_compareAt 100 = .ok (.aload_n 1, 1) := by decide +kernel
theorem dX0_compareAt_101 : decode cX0_compareAt 101 = .ok (.getfield 70, 3) := by decide +kernel
theorem dX0_compareAt_104 : decode cX0_compareAt 104 = .ok (.aload_n 2, 1) := by decide +kernel
theorem dX0_compareAt_105 : decode cX0_compareAt 105 = .ok (.getfield 70, 3) := by decide +kernel
theorem dX0_compareAt_108 : decode cX0_compareAt 108 = .ok (.invokestatic 51, 3) := by decide +kernel
theorem dX0_compareAt_111 : decode cX0_compareAt 111 = .ok (.ireturn, 1) := by decide +kernel
theorem dX0_compareAt_112 : decode cX0_compareAt 112 = .ok (.aload_n 1, 1) := by decide +kernel
theorem dX0_compareAt_113 : decode cX0_compareAt 113 = .ok (.getfield 67, 3) := by decide +kernel
theorem dX0_compareAt_116 : decode cX0_compareAt 116 = .ok (.aload_n 2, 1) := by decide +kernel
theorem dX0_compareAt_117 : decode cX0_compareAt 117 = .ok (.getfield 67, 3) := by decide +kernel
theorem dX0_compareAt_120 : decode cX0_compareAt 120 = .ok (.invokestatic 51, 3) := by decide +kernel
theorem dX0_compareAt_123 : decode cX0_compareAt 123 = .ok (.ireturn, 1) := by decide +kernel
theorem dX0_compareAt_124 : decode cX0_compareAt 124 = .ok (.iconst 0, 1) := by decide +kernel
theorem dX0_compareAt_125 : decode cX0_compareAt 125 = .ok (.ireturn, 1) := by decide +kernel
theorem dX0_firstUnlikeStep_0 : decode cX0_firstUnlikeStep 0 = .ok (.iconst 0, 1) := by decide +kernel
theorem dX0_firstUnlikeStep_1 : decode cX0_firstUnlikeStep 1 = .ok (.istore_n 3, 1) := by decide +kernel
theorem dX0_firstUnlikeStep_2 : decode cX0_firstUnlikeStep 2 = .ok (.iload_n 3, 1) := by decide +kernel
theorem dX0_firstUnlikeStep_3 : decode cX0_firstUnlikeStep 3 = .ok (.aload_n 0, 1) := by decide +kernel
theorem dX0_firstUnlikeStep_4 : decode cX0_firstUnlikeStep 4 = .ok (.getfield 37, 3) := by decide +kernel
theorem dX0_firstUnlikeStep_7 : decode cX0_firstUnlikeStep 7 = .ok (.if_icmp .ge 30, 3) := by decide +kernel
theorem dX0_firstUnlikeStep_10 : decode cX0_firstUnlikeStep 10 = .ok (.aload_n 0, 1) := by decide +kernel
theorem dX0_firstUnlikeStep_11 : decode cX0_firstUnlikeStep 11 = .ok (.getfield 9, 3) := by decide +kernel
theorem dX0_firstUnlikeStep_14 : decode cX0_firstUnlikeStep 14 = .ok (.iload_n 3, 1) := by decide +kernel
theorem dX0_firstUnlikeStep_15 : decode cX0_firstUnlikeStep 15 = .ok (.iaload, 1) := by decide +kernel
theorem dX0_firstUnlikeStep_16 : decode cX0_firstUnlikeStep 16 = .ok (.aload_n 1, 1) := by decide +kernel
theorem dX0_firstUnlikeStep_17 : decode cX0_firstUnlikeStep 17 = .ok (.aload_n 2, 1) := by decide +kernel
theorem dX0_firstUnlikeStep_18 : decode cX0_firstUnlikeStep 18 = .ok (.invokestatic 41, 3) := by decide +kernel
theorem dX0_firstUnlikeStep_21 : decode cX0_firstUnlikeStep 21 = .ok (.ifCond .eq 10, 3) := by decide +kernel
theorem dX0_firstUnlikeStep_24 : decode cX0_firstUnlikeStep 24 = .ok (.aload_n 0, 1) := by decide +kernel
theorem dX0_firstUnlikeStep_25 : decode cX0_firstUnlikeStep 25 = .ok (.getfield 9, 3) := by decide +kernel
theorem dX0_firstUnlikeStep_28 : decode cX0_firstUnlikeStep 28 = .ok (.iload_n 3, 1) := by decide +kernel
theorem dX0_firstUnlikeStep_29 : decode cX0_firstUnlikeStep 29 = .ok (.iaload, 1) := by decide +kernel
theorem dX0_firstUnlikeStep_30 : decode cX0_firstUnlikeStep 30 = .ok (.ireturn, 1) := by decide +kernel
theorem dX0_firstUnlikeStep_31 : decode cX0_firstUnlikeStep 31 = .ok (.iinc 3 1, 3) := by decide +kernel
theorem dX0_firstUnlikeStep_34 : decode cX0_firstUnlikeStep 34 = .ok (.goto (-32), 3) := by decide +kernel
theorem dX0_firstUnlikeStep_37 : decode cX0_firstUnlikeStep 37 = .ok (.bipush 7, 2) := by decide +kernel
theorem dX0_firstUnlikeStep_39 : decode cX0_firstUnlikeStep 39 = .ok (.ireturn, 1) := by decide +kernel
theorem dX0_prefers_0 : decode cX0_prefers 0 = .ok (.iconst 0, 1) := by decide +kernel
theorem dX0_prefers_1 : decode cX0_prefers 1 = .ok (.istore_n 3, 1) := by decide +kernel
theorem dX0_prefers_2 : decode cX0_prefers 2 = .ok (.iload_n 3, 1) := by decide +kernel
theorem dX0_prefers_3 : decode cX0_prefers 3 = .ok (.aload_n 0, 1) := by decide +kernel
theorem dX0_prefers_4 : decode cX0_prefers 4 = .ok (.getfield 37, 3) := by decide +kernel
theorem dX0_prefers_7 : decode cX0_prefers 7 = .ok (.if_icmp .ge 38, 3) := by decide +kernel
theorem dX0_prefers_10 : decode cX0_prefers 10 = .ok (.aload_n 0, 1) := by decide +kernel
theorem dX0_prefers_11 : decode cX0_prefers 11 = .ok (.getfield 9, 3) := by decide +kernel
theorem dX0_prefers_14 : decode cX0_prefers 14 = .ok (.iload_n 3, 1) := by decide +kernel
theorem dX0_prefers_15 : decode cX0_prefers 15 = .ok (.iaload, 1) := by decide +kernel
theorem dX0_prefers_16 : decode cX0_prefers 16 = .ok (.aload_n 1, 1) := by decide +kernel
theorem dX0_prefers_17 : decode cX0_prefers 17 = .ok (.aload_n 2, 1) := by decide +kernel
theorem dX0_prefers_18 : decode cX0_prefers 18 = .ok (.invokestatic 41, 3) := by decide +kernel
theorem dX0_prefers_21 : decode cX0_prefers 21 = .ok (.istore 4, 2) := by decide +kernel
theorem dX0_prefers_23 : decode cX0_prefers 23 = .ok (.iload 4, 2) := by decide +kernel
theorem dX0_prefers_25 : decode cX0_prefers 25 = .ok (.ifCond .eq 14, 3) := by decide +kernel
theorem dX0_prefers_28 : decode cX0_prefers 28 = .ok (.iload 4, 2) := by decide +kernel
theorem dX0_prefers_30 : decode cX0_prefers 30 = .ok (.ifCond .ge 7, 3) := by decide +kernel
theorem dX0_prefers_33 : decode cX0_prefers 33 = .ok (.iconst 1, 1) := by decide +kernel
theorem dX0_prefers_34 : decode cX0_prefers 34 = .ok (.goto 4, 3) := by decide +kernel
theorem dX0_prefers_37 : decode cX0_prefers 37 = .ok (.iconst 0, 1) := by decide +kernel
theorem dX0_prefers_38 : decode cX0_prefers 38 = .ok (.ireturn, 1) := by decide +kernel
theorem dX0_prefers_39 : decode cX0_prefers 39 = .ok (.iinc 3 1, 3) := by decide +kernel
theorem dX0_prefers_42 : decode cX0_prefers 42 = .ok (.goto (-40), 3) := by decide +kernel
theorem dX0_prefers_45 : decode cX0_prefers 45 = .ok (.aload_n 1, 1) := by decide +kernel
theorem dX0_prefers_46 : decode cX0_prefers 46 = .ok (.getfield 45, 3) := by decide +kernel
theorem dX0_prefers_49 : decode cX0_prefers 49 = .ok (.aload_n 2, 1) := by decide +kernel
theorem dX0_prefers_50 : decode cX0_prefers 50 = .ok (.getfield 45, 3) := by decide +kernel
theorem dX0_prefers_53 : decode cX0_prefers 53 = .ok (.if_icmp .ge 7, 3) := by decide +kernel
theorem dX0_prefers_56 : decode cX0_prefers 56 = .ok (.iconst 1, 1) := by decide +kernel
theorem dX0_prefers_57 : decode cX0_prefers 57 = .ok (.goto 4, 3) := by decide +kernel
theorem dX0_prefers_60 : decode cX0_prefers 60 = .ok (.iconst 0, 1) := by decide +kernel
theorem dX0_prefers_61 : decode cX0_prefers 61 = .ok (.ireturn, 1) := by decide +kernel
theorem dX10_addPrefix_0 : decode cX10_addPrefix 0 = .ok (.aload_n 0, 1) := by decide +kernel
theorem dX10_addPrefix_1 : decode cX10_addPrefix 1 = .ok (.getfield 9, 3) := by decide +kernel
theorem dX10_addPrefix_4 : decode cX10_addPrefix 4 = .ok (.aload_n 0, 1) := by decide +kernel
theorem dX10_addPrefix_5 : decode cX10_addPrefix 5 = .ok (.getfield 60, 3) := by decide +kernel
theorem dX10_addPrefix_8 : decode cX10_addPrefix 8 = .ok (.iload_n 1, 1) := by decide +kernel
theorem dX10_addPrefix_9 : decode cX10_addPrefix 9 = .ok (.iastore, 1) := by decide +kernel
theorem dX10_addPrefix_10 : decode cX10_addPrefix 10 = .ok (.aload_n 0, 1) := by decide +kernel
theorem dX10_addPrefix_11 : decode cX10_addPrefix 11 = .ok (.getfield 15, 3) := by decide +kernel
theorem dX10_addPrefix_14 : decode cX10_addPrefix 14 = .ok (.aload_n 0, 1) := by decide +kernel
theorem dX10_addPrefix_15 : decode cX10_addPrefix 15 = .ok (.getfield 60, 3) := by decide +kernel
theorem dX10_addPrefix_18 : decode cX10_addPrefix 18 = .ok (.iload_n 2, 1) := by decide +kernel
theorem dX10_addPrefix_19 : decode cX10_addPrefix 19 = .ok (.iastore, 1) := by decide +kernel
theorem dX10_addPrefix_20 : decode cX10_addPrefix 20 = .ok (.aload_n 0, 1) := by decide +kernel
theorem dX10_addPrefix_21 : decode cX10_addPrefix 21 = .ok (.getfield 18, 3) := by decide +kernel
theorem dX10_addPrefix_24 : decode cX10_addPrefix 24 = .ok (.aload_n 0, 1) := by decide +kernel
theorem dX10_addPrefix_25 : decode cX10_addPrefix 25 = .ok (.getfield 60, 3) := by decide +kernel
theorem dX10_addPrefix_28 : decode cX10_addPrefix 28 = .ok (.iload_n 2, 1) := by decide +kernel
theorem dX10_addPrefix_29 : decode cX10_addPrefix 29 = .ok (.invokestatic 64, 3) := by decide +kernel
theorem dX10_addPrefix_32 : decode cX10_addPrefix 32 = .ok (.iastore, 1) := by decide +kernel
theorem dX10_addPrefix_33 : decode cX10_addPrefix 33 = .ok (.aload_n 0, 1) := by decide +kernel
theorem dX10_addPrefix_34 : decode cX10_addPrefix 34 = .ok (.dup, 1) := by decide +kernel
theorem dX10_addPrefix_35 : decode cX10_addPrefix 35 = .ok (.getfield 60, 3) := by decide +kernel
theorem dX10_addPrefix_38 : decode cX10_addPrefix 38 = .ok (.iconst 1, 1) := by decide +kernel
theorem dX10_addPrefix_39 : decode cX10_addPrefix 39 = .ok (.iadd, 1) := by decide +kernel
theorem dX10_addPrefix_40 : decode cX10_addPrefix 40 = .ok (.putfield 60, 3) := by decide +kernel
theorem dX10_addPrefix_43 : decode cX10_addPrefix 43 = .ok (.aload_n 0, 1) := by decide +kernel
theorem dX10_addPrefix_44 : decode cX10_addPrefix 44 = .ok (.getfield 60, 3) := by decide +kernel
theorem dX10_addPrefix_47 : decode cX10_addPrefix 47 = .ok (.iconst 1, 1) := by decide +kernel
theorem dX10_addPrefix_48 : decode cX10_addPrefix 48 = .ok (.isub, 1) := by decide +kernel
theorem dX10_addPrefix_49 : decode cX10_addPrefix 49 = .ok (.ireturn, 1) := by decide +kernel
theorem dX10_addRight_0 : decode cX10_addRight 0 = .ok (.aload_n 0, 1) := by decide +kernel
theorem dX10_addRight_1 : decode cX10_addRight 1 = .ok (.getfield 39, 3) := by decide +kernel
theorem dX10_addRight_4 : decode cX10_addRight 4 = .ok (.aload_n 0, 1) := by decide +kernel
theorem dX10_addRight_5 : decode cX10_addRight 5 = .ok (.getfield 118, 3) := by decide +kernel
theorem dX10_addRight_8 : decode cX10_addRight 8 = .ok (.iload_n 1, 1) := by decide +kernel
theorem dX10_addRight_9 : decode cX10_addRight 9 = .ok (.iastore, 1) := by decide +kernel
theorem dX10_addRight_10 : decode cX10_addRight 10 = .ok (.aload_n 0, 1) := by decide +kernel
theorem dX10_addRight_11 : decode cX10_addRight 11 = .ok (.getfield 42, 3) := by decide +kernel
theorem dX10_addRight_14 : decode cX10_addRight 14 = .ok (.aload_n 0, 1) := by decide +kernel
theorem dX10_addRight_15 : decode cX10_addRight 15 = .ok (.getfield 118, 3) := by decide +kernel
theorem dX10_addRight_18 : decode cX10_addRight 18 = .ok (.iload_n 2, 1) := by decide +kernel
theorem dX10_addRight_19 : decode cX10_addRight 19 = .ok (.iastore, 1) := by decide +kernel
theorem dX10_addRight_20 : decode cX10_addRight 20 = .ok (.aload_n 0, 1) := by decide +kernel
theorem dX10_addRight_21 : decode cX10_addRight 21 = .ok (.getfield 45, 3) := by decide +kernel
theorem dX10_addRight_24 : decode cX10_addRight 24 = .ok (.aload_n 0, 1) := by decide +kernel
theorem dX10_addRight_25 : decode cX10_addRight 25 = .ok (.getfield 118, 3) := by decide +kernel
theorem dX10_addRight_28 : decode cX10_addRight 28 = .ok (.iload_n 3, 1) := by decide +kernel
theorem dX10_addRight_29 : decode cX10_addRight 29 = .ok (.iastore, 1) := by decide +kernel
theorem dX10_addRight_30 : decode cX10_addRight 30 = .ok (.aload_n 0, 1) := by decide +kernel
theorem dX10_addRight_31 : decode cX10_addRight 31 = .ok (.getfield 48, 3) := by decide +kernel
theorem dX10_addRight_34 : decode cX10_addRight 34 = .ok (.aload_n 0, 1) := by decide +kernel
theorem dX10_addRight_35 : decode cX10_addRight 35 = .ok (.getfield 118, 3) := by decide +kernel
theorem dX10_addRight_38 : decode cX10_addRight 38 = .ok (.iload 4, 2) := by decide +kernel
theorem dX10_addRight_40 : decode cX10_addRight 40 = .ok (.iastore, 1) := by decide +kernel
theorem dX10_addRight_41 : decode cX10_addRight 41 = .ok (.aload_n 0, 1) := by decide +kernel
theorem dX10_addRight_42 : decode cX10_addRight 42 = .ok (.getfield 51, 3) := by decide +kernel
theorem dX10_addRight_45 : decode cX10_addRight 45 = .ok (.aload_n 0, 1) := by decide +kernel
theorem dX10_addRight_46 : decode cX10_addRight 46 = .ok (.getfield 118, 3) := by decide +kernel
theorem dX10_addRight_49 : decode cX10_addRight 49 = .ok (.iload 5, 2) := by decide +kernel
theorem dX10_addRight_51 : decode cX10_addRight 51 = .ok (.iastore, 1) := by decide +kernel
theorem dX10_addRight_52 : decode cX10_addRight 52 = .ok (.aload_n 0, 1) := by decide +kernel
theorem dX10_addRight_53 : decode cX10_addRight 53 = .ok (.getfield 54, 3) := by decide +kernel
theorem dX10_addRight_56 : decode cX10_addRight 56 = .ok (.aload_n 0, 1) := by decide +kernel
theorem dX10_addRight_57 : decode cX10_addRight 57 = .ok (.getfield 118, 3) := by decide +kernel
theorem dX10_addRight_60 : decode cX10_addRight 60 = .ok (.iload 6, 2) := by decide +kernel
theorem dX10_addRight_62 : decode cX10_addRight 62 = .ok (.iastore, 1) := by decide +kernel
theorem dX10_addRight_63 : decode cX10_addRight 63 = .ok (.aload_n 0, 1) := by decide +kernel
theorem dX10_addRight_64 : decode cX10_addRight 64 = .ok (.getfield 57, 3) := by decide +kernel
theorem dX10_addRight_67 : decode cX10_addRight 67 = .ok (.aload_n 0, 1) := by decide +kernel
theorem dX10_addRight_68 : decode cX10_addRight 68 = .ok (.getfield 118, 3) := by decide +kernel
theorem dX10_addRight_71 : decode cX10_addRight 71 = .ok (.iconst (-1), 1) := by decide +kernel
theorem dX10_addRight_72 : decode cX10_addRight 72 = .ok (.iastore, 1) := by decide +kernel
theorem dX10_addRight_73 : decode cX10_addRight 73 = .ok (.aload_n 0, 1) := by decide +kernel
theorem dX10_addRight_74 : decode cX10_addRight 74 = .ok (.dup, 1) := by decide +kernel
theorem dX10_addRight_75 : decode cX10_addRight 75 = .ok (.getfield 118, 3) := by decide +kernel
theorem dX10_addRight_78 : decode cX10_addRight 78 = .ok (.iconst 1, 1) := by decide +kernel
theorem dX10_addRight_79 : decode cX10_addRight 79 = .ok (.iadd, 1) := by decide +kernel
theorem dX10_addRight_80 : decode cX10_addRight 80 = .ok (.putfield 118, 3) := by decide +kernel
theorem dX10_addRight_83 : decode cX10_addRight 83 = .ok (.aload_n 0, 1) := by decide +kernel
theorem dX10_addRight_84 : decode cX10_addRight 84 = .ok (.getfield 118, 3) := by decide +kernel
theorem dX10_addRight_87 : decode cX10_addRight 87 = .ok (.iconst 1, 1) := by decide +kernel
theorem dX10_addRight_88 : decode cX10_addRight 88 = .ok (.isub, 1) := by decide +kernel
theorem dX10_addRight_89 : decode cX10_addRight 89 = .ok (.ireturn, 1) := by decide +kernel
theorem dX10_coneOf_0 : decode cX10_coneOf 0 = .ok (.iconst 1, 1) := by decide +kernel
theorem dX10_coneOf_1 : decode cX10_coneOf 1 = .ok (.iload_n 1, 1) := by decide +kernel
theorem dX10_coneOf_2 : decode cX10_coneOf 2 = .ok (.ishl, 1) := by decide +kernel
theorem dX10_coneOf_3 : decode cX10_coneOf 3 = .ok (.istore_n 2, 1) := by decide +kernel
theorem dX10_coneOf_4 : decode cX10_coneOf 4 = .ok (.iconst 0, 1) := by decide +kernel
theorem dX10_coneOf_5 : decode cX10_coneOf 5 = .ok (.istore_n 3, 1) := by decide +kernel
theorem dX10_coneOf_6 : decode cX10_coneOf 6 = .ok (.iload_n 3, 1) := by decide +kernel
theorem dX10_coneOf_7 : decode cX10_coneOf 7 = .ok (.aload_n 0, 1) := by decide +kernel
theorem dX10_coneOf_8 : decode cX10_coneOf 8 = .ok (.getfield 68, 3) := by decide +kernel
theorem dX10_coneOf_11 : decode cX10_coneOf 11 = .ok (.if_icmp .ge 84, 3) := by decide +kernel
theorem dX10_coneOf_14 : decode cX10_coneOf 14 = .ok (.iconst 0, 1) := by decide +kernel
theorem dX10_coneOf_15 : decode cX10_coneOf 15 = .ok (.istore 4, 2) := by decide +kernel
theorem dX10_coneOf_17 : decode cX10_coneOf 17 = .ok (.iload 4, 2) := by decide +kernel
theorem dX10_coneOf_19 : decode cX10_coneOf 19 = .ok (.aload_n 0, 1) := by decide +kernel
theorem dX10_coneOf_20 : decode cX10_coneOf 20 = .ok (.getfield 72, 3) := by decide +kernel
theorem dX10_coneOf_23 : decode cX10_coneOf 23 = .ok (.if_icmp .ge 66, 3) := by decide +kernel
theorem dX10_coneOf_26 : decode cX10_coneOf 26 = .ok (.aload_n 0, 1) := by decide +kernel
theorem dX10_coneOf_27 : decode cX10_coneOf 27 = .ok (.getfield 29, 3) := by decide +kernel
theorem dX10_coneOf_30 : decode cX10_coneOf 30 = .ok (.iload 4, 2) := by decide +kernel
theorem dX10_coneOf_32 : decode cX10_coneOf 32 = .ok (.aaload, 1) := by decide +kernel
theorem dX10_coneOf_33 : decode cX10_coneOf 33 = .ok (.getfield 84, 3) := by decide +kernel
theorem dX10_coneOf_36 : decode cX10_coneOf 36 = .ok (.ifCond .ne 24, 3) := by decide +kernel
theorem dX10_coneOf_39 : decode cX10_coneOf 39 = .ok (.iload_n 2, 1) := by decide +kernel
theorem dX10_coneOf_40 : decode cX10_coneOf 40 = .ok (.aload_n 0, 1) := by decide +kernel
theorem dX10_coneOf_41 : decode cX10_coneOf 41 = .ok (.getfield 29, 3) := by decide +kernel
theorem dX10_coneOf_44 : decode cX10_coneOf 44 = .ok (.iload 4, 2) := by decide +kernel
theorem dX10_coneOf_46 : decode cX10_coneOf 46 = .ok (.aaload, 1) := by decide +kernel
theorem dX10_coneOf_47 : decode cX10_coneOf 47 = .ok (.getfield 78, 3) := by decide +kernel
theorem dX10_coneOf_50 : decode cX10_coneOf 50 = .ok (.ishr, 1) := by decide +kernel
theorem dX10_coneOf_51 : decode cX10_coneOf 51 = .ok (.iconst 1, 1) := by decide +kernel
theorem dX10_coneOf_52 : decode cX10_coneOf 52 = .ok (.iand, 1) := by decide +kernel
theorem dX10_coneOf_53 : decode cX10_coneOf 53 = .ok (.ifCond .eq 7, 3) := by decide +kernel
theorem dX10_coneOf_56 : decode cX10_coneOf 56 = .ok (.iconst 1, 1) := by decide +kernel
theorem dX10_coneOf_57 : decode cX10_coneOf 57 = .ok (.goto 4, 3) := by decide +kernel
theorem dX10_coneOf_60 : decode cX10_coneOf 60 = .ok (.iconst 0, 1) := by decide +kernel
theorem dX10_coneOf_61 : decode cX10_coneOf 61 = .ok (.istore 5, 2) := by decide +kernel
theorem dX10_coneOf_63 : decode cX10_coneOf 63 = .ok (.iload 5, 2) := by decide +kernel
theorem dX10_coneOf_65 : decode cX10_coneOf 65 = .ok (.ifCond .eq 18, 3) := by decide +kernel
theorem dX10_coneOf_68 : decode cX10_coneOf 68 = .ok (.iload_n 2, 1) := by decide +kernel
theorem dX10_coneOf_69 : decode cX10_coneOf 69 = .ok (.iconst 1, 1) := by decide +kernel
theorem dX10_coneOf_70 : decode cX10_coneOf 70 = .ok (.aload_n 0, 1) := by decide +kernel
theorem dX10_coneOf_71 : decode cX10_coneOf 71 = .ok (.getfield 29, 3) := by decide +kernel
theorem dX10_coneOf_74 : decode cX10_coneOf 74 = .ok (.iload 4, 2) := by decide +kernel
theorem dX10_coneOf_76 : decode cX10_coneOf 76 = .ok (.aaload, 1) := by decide +kernel
theorem dX10_coneOf_77 : decode cX10_coneOf 77 = .ok (.getfield 81, 3) := by decide +kernel
theorem dX10_coneOf_80 : decode cX10_coneOf 80 = .ok (.ishl, 1) := by decide +kernel
theorem dX10_coneOf_81 : decode cX10_coneOf 81 = .ok (.ior, 1) := by decide +kernel
theorem dX10_coneOf_82 : decode cX10_coneOf 82 = .ok (.istore_n 2, 1) := by decide +kernel
theorem dX10_coneOf_83 : decode cX10_coneOf 83 = .ok (.iinc 4 1, 3) := by decide +kernel
theorem dX10_coneOf_86 : decode cX10_coneOf 86 = .ok (.goto (-69), 3) := by decide +kernel
theorem dX10_coneOf_89 : decode cX10_coneOf 89 = .ok (.iinc 3 1, 3) := by decide +kernel
theorem dX10_coneOf_92 : decode cX10_coneOf 92 = .ok (.goto (-86), 3) := by decide +kernel
theorem dX10_coneOf_95 : decode cX10_coneOf 95 = .ok (.iload_n 2, 1) := by decide +kernel
theorem dX10_coneOf_96 : decode cX10_coneOf 96 = .ok (.ireturn, 1) := by decide +kernel
theorem dX10_fillRing_0 : decode cX10_fillRing 0 = .ok (.aload_n 0, 1) := by decide +kernel
theorem dX10_fillRing_1 : decode cX10_fillRing 1 = .ok (.getfield 33, 3) := by decide +kernel
theorem dX10_fillRing_4 : decode cX10_fillRing 4 = .ok (.iconst 0, 1) := by decide +kernel
theorem dX10_fillRing_5 : decode cX10_fillRing 5 = .ok (.iload_n 1, 1) := by decide +kernel
theorem dX10_fillRing_6 : decode cX10_fillRing 6 = .ok (.iastore, 1) := by decide +kernel
theorem dX10_fillRing_7 : decode cX10_fillRing 7 = .ok (.iconst 1, 1) := by decide +kernel
theorem dX10_fillRing_8 : decode cX10_fillRing 8 = .ok (.istore_n 3, 1) := by decide +kernel
theorem dX10_fillRing_9 : decode cX10_fillRing 9 = .ok (.iload_n 3, 1) := by decide +kernel
theorem dX10_fillRing_10 : decode cX10_fillRing 10 = .ok (.iload_n 2, 1) := by decide +kernel
theorem dX10_fillRing_11 : decode cX10_fillRing 11 = .ok (.if_icmp .ge 30, 3) := by decide +kernel
theorem dX10_fillRing_14 : decode cX10_fillRing 14 = .ok (.aload_n 0, 1) := by decide +kernel
theorem dX10_fillRing_15 : decode cX10_fillRing 15 = .ok (.getfield 33, 3) := by decide +kernel
theorem dX10_fillRing_18 : decode cX10_fillRing 18 = .ok (.iload_n 3, 1) := by decide +kernel
theorem dX10_fillRing_19 : decode cX10_fillRing 19 = .ok (.aload_n 0, 1) := by decide +kernel
theorem dX10_fillRing_20 : decode cX10_fillRing 20 = .ok (.aload_n 0, 1) := by decide +kernel
theorem dX10_fillRing_21 : decode cX10_fillRing 21 = .ok (.getfield 33, 3) := by decide +kernel
theorem dX10_fillRing_24 : decode cX10_fillRing 24 = .ok (.iload_n 3, 1) := by decide +kernel
theorem dX10_fillRing_25 : decode cX10_fillRing 25 = .ok (.iconst 1, 1) := by decide +kernel
theorem dX10_fillRing_26 : decode cX10_fillRing 26 = .ok (.isub, 1) := by decide +kernel
theorem dX10_fillRing_27 : decode cX10_fillRing 27 = .ok (.iaload, 1) := by decide +kernel
theorem dX10_fillRing_28 : decode cX10_fillRing 28 = .ok (.iload_n 2, 1) := by decide +kernel
theorem dX10_fillRing_29 : decode cX10_fillRing 29 = .ok (.iload_n 3, 1) := by decide +kernel
theorem dX10_fillRing_30 : decode cX10_fillRing 30 = .ok (.isub, 1) := by decide +kernel
theorem dX10_fillRing_31 : decode cX10_fillRing 31 = .ok (.invokevirtual 106, 3) := by decide +kernel
theorem dX10_fillRing_34 : decode cX10_fillRing 34 = .ok (.iastore, 1) := by decide +kernel
theorem dX10_fillRing_35 : decode cX10_fillRing 35 = .ok (.iinc 3 1, 3) := by decide +kernel
theorem dX10_fillRing_38 : decode cX10_fillRing 38 = .ok (.goto (-29), 3) := by decide +kernel
theorem dX10_fillRing_41 : decode cX10_fillRing 41 = .ok (.return_, 1) := by decide +kernel
theorem dX10_findPrefix_0 : decode cX10_findPrefix 0 = .ok (.iconst 0, 1) := by decide +kernel
theorem dX10_findPrefix_1 : decode cX10_findPrefix 1 = .ok (.istore_n 3, 1) := by decide +kernel
theorem dX10_findPrefix_2 : decode cX10_findPrefix 2 = .ok (.iload_n 3, 1) := by decide +kernel
theorem dX10_findPrefix_3 : decode cX10_findPrefix 3 = .ok (.aload_n 0, 1) := by decide +kernel
theorem dX10_findPrefix_4 : decode cX10_findPrefix 4 = .ok (.getfield 60, 3) := by decide +kernel
theorem dX10_findPrefix_7 : decode cX10_findPrefix 7 = .ok (.if_icmp .ge 31, 3) := by decide +kernel
theorem dX10_findPrefix_10 : decode cX10_findPrefix 10 = .ok (.aload_n 0, 1) := by decide +kernel
theorem dX10_findPrefix_11 : decode cX10_findPrefix 11 = .ok (.getfield 9, 3) := by decide +kernel
theorem dX10_findPrefix_14 : decode cX10_findPrefix 14 = .ok (.iload_n 3, 1) := by decide +kernel
theorem dX10_findPrefix_15 : decode cX10_findPrefix 15 = .ok (.iaload, 1) := by decide +kernel
theorem dX10_findPrefix_16 : decode cX10_findPrefix 16 = .ok (.iload_n 1, 1) := by decide +kernel
theorem dX10_findPrefix_17 : decode cX10_findPrefix 17 = .ok (.if_icmp .ne 15, 3) := by decide +kernel
theorem dX10_findPrefix_20 : decode cX10_findPrefix 20 = .ok (.aload_n 0, 1) := by decide +kernel
theorem dX10_findPrefix_21 : decode cX10_findPrefix 21 = .ok (.getfield 15, 3) := by decide +kernel
theorem dX10_findPrefix_24 : decode cX10_findPrefix 24 = .ok (.iload_n 3, 1) := by decide +kernel
theorem dX10_findPrefix_25 : decode cX10_findPrefix 25 = .ok (.iaload, 1) := by decide +kernel
theorem dX10_findPrefix_26 : decode cX10_findPrefix 26 = .ok (.iload_n 2, 1) := by decide +kernel
theorem dX10_findPrefix_27 : decode cX10_findPrefix 27 = .ok (.if_icmp .ne 5, 3) := by decide +kernel
theorem dX10_findPrefix_30 : decode cX10_findPrefix 30 = .ok (.iload_n 3, 1) := by decide +kernel
theorem dX10_findPrefix_31 : decode cX10_findPrefix 31 = .ok (.ireturn, 1) := by decide +kernel
theorem dX10_findPrefix_32 : decode cX10_findPrefix 32 = .ok (.iinc 3 1, 3) := by decide +kernel
theorem dX10_findPrefix_35 : decode cX10_findPrefix 35 = .ok (.goto (-33), 3) := by decide +kernel
theorem dX10_findPrefix_38 : decode cX10_findPrefix 38 = .ok (.iconst (-1), 1) := by decide +kernel
theorem dX10_findPrefix_39 : decode cX10_findPrefix 39 = .ok (.ireturn, 1) := by decide +kernel
theorem dX10_findRing_0 : decode cX10_findRing 0 = .ok (.iconst 0, 1) := by decide +kernel
theorem dX10_findRing_1 : decode cX10_findRing 1 = .ok (.istore_n 1, 1) := by decide +kernel
theorem dX10_findRing_2 : decode cX10_findRing 2 = .ok (.iload_n 1, 1) := by decide +kernel
theorem dX10_findRing_3 : decode cX10_findRing 3 = .ok (.aload_n 0, 1) := by decide +kernel
theorem dX10_findRing_4 : decode cX10_findRing 4 = .ok (.getfield 68, 3) := by decide +kernel
theorem dX10_findRing_7 : decode cX10_findRing 7 = .ok (.if_icmp .ge 27, 3) := by decide +kernel
theorem dX10_findRing_10 : decode cX10_findRing 10 = .ok (.aload_n 0, 1) := by decide +kernel
theorem dX10_findRing_11 : decode cX10_findRing 11 = .ok (.iload_n 1, 1) := by decide +kernel
theorem dX10_findRing_12 : decode cX10_findRing 12 = .ok (.invokevirtual 87, 3) := by decide +kernel
theorem dX10_findRing_15 : decode cX10_findRing 15 = .ok (.istore_n 2, 1) := by decide +kernel
theorem dX10_findRing_16 : decode cX10_findRing 16 = .ok (.iload_n 2, 1) := by decide +kernel
theorem dX10_findRing_17 : decode cX10_findRing 17 = .ok (.ifCond .le 11, 3) := by decide +kernel
theorem dX10_findRing_20 : decode cX10_findRing 20 = .ok (.aload_n 0, 1) := by decide +kernel
theorem dX10_findRing_21 : decode cX10_findRing 21 = .ok (.iload_n 1, 1) := by decide +kernel
theorem dX10_findRing_22 : decode cX10_findRing 22 = .ok (.iload_n 2, 1) := by decide +kernel
theorem dX10_findRing_23 : decode cX10_findRing 23 = .ok (.invokevirtual 90, 3) := by decide +kernel
theorem dX10_findRing_26 : decode cX10_findRing 26 = .ok (.iload_n 2, 1) := by decide +kernel
theorem dX10_findRing_27 : decode cX10_findRing 27 = .ok (.ireturn, 1) := by decide +kernel
theorem dX10_findRing_28 : decode cX10_findRing 28 = .ok (.iinc 1 1, 3) := by decide +kernel
theorem dX10_findRing_31 : decode cX10_findRing 31 = .ok (.goto (-29), 3) := by decide +kernel
theorem dX10_findRing_34 : decode cX10_findRing 34 = .ok (.iconst 0, 1) := by decide +kernel
theorem dX10_findRing_35 : decode cX10_findRing 35 = .ok (.ireturn, 1) := by decide +kernel
theorem dX10_firstWrongStep_0 : decode cX10_firstWrongStep 0 = .ok (.iconst 0, 1) := by decide +kernel
theorem dX10_firstWrongStep_1 : decode cX10_firstWrongStep 1 = .ok (.istore_n 3, 1) := by decide +kernel
theorem dX10_firstWrongStep_2 : decode cX10_firstWrongStep 2 = .ok (.iconst 0, 1) := by decide +kernel
theorem dX10_firstWrongStep_3 : decode cX10_firstWrongStep 3 = .ok (.istore 4, 2) := by decide +kernel
theorem dX10_firstWrongStep_5 : decode cX10_firstWrongStep 5 = .ok (.iload 4, 2) := by decide +kernel
theorem dX10_firstWrongStep_7 : decode cX10_firstWrongStep 7 = .ok (.iconst 1, 1) := by decide +kernel
theorem dX10_firstWrongStep_8 : decode cX10_firstWrongStep 8 = .ok (.iadd, 1) := by decide +kernel
theorem dX10_firstWrongStep_9 : decode cX10_firstWrongStep 9 = .ok (.iload_n 2, 1) := by decide +kernel
theorem dX10_firstWrongStep_10 : decode cX10_firstWrongStep 10 = .ok (.if_icmp .ge 111, 3) := by decide +kernel
theorem dX10_firstWrongStep_13 : decode cX10_firstWrongStep 13 = .ok (.aload_n 0, 1) := by decide +kernel
theorem dX10_firstWrongStep_14 : decode cX10_firstWrongStep 14 = .ok (.aload_n 1, 1) := by decide +kernel
theorem dX10_firstWrongStep_15 : decode cX10_firstWrongStep 15 = .ok (.iload 4, 2) := by decide +kernel
theorem dX10_firstWrongStep_17 : decode cX10_firstWrongStep 17 = .ok (.iaload, 1) := by decide +kernel
theorem dX10_firstWrongStep_18 : decode cX10_firstWrongStep 18 = .ok (.aload_n 1, 1) := by decide +kernel
theorem dX10_firstWrongStep_19 : decode cX10_firstWrongStep 19 = .ok (.iload 4, 2) := by decide +kernel
theorem dX10_firstWrongStep_21 : decode cX10_firstWrongStep 21 = .ok (.iconst 1, 1) := by decide +kernel
theorem dX10_firstWrongStep_22 : decode cX10_firstWrongStep 22 = .ok (.iadd, 1) := by decide +kernel
theorem dX10_firstWrongStep_23 : decode cX10_firstWrongStep 23 = .ok (.iaload, 1) := by decide +kernel
theorem dX10_firstWrongStep_24 : decode cX10_firstWrongStep 24 = .ok (.invokevirtual 109, 3) := by decide +kernel
theorem dX10_firstWrongStep_27 : decode cX10_firstWrongStep 27 = .ok (.istore 5, 2) := by decide +kernel
theorem dX10_firstWrongStep_29 : decode cX10_firstWrongStep 29 = .ok (.iload 5, 2) := by decide +kernel
theorem dX10_firstWrongStep_31 : decode cX10_firstWrongStep 31 = .ok (.ifCond .ge 6, 3) := by decide +kernel
theorem dX10_firstWrongStep_34 : decode cX10_firstWrongStep 34 = .ok (.iload 4, 2) := by decide +kernel
theorem dX10_firstWrongStep_36 : decode cX10_firstWrongStep 36 = .ok (.ireturn, 1) := by decide +kernel
theorem dX10_firstWrongStep_37 : decode cX10_firstWrongStep 37 = .ok (.aload_n 0, 1) := by decide +kernel
theorem dX10_firstWrongStep_38 : decode cX10_firstWrongStep 38 = .ok (.getfield 29, 3) := by decide +kernel
theorem dX10_firstWrongStep_41 : decode cX10_firstWrongStep 41 = .ok (.iload 5, 2) := by decide +kernel
theorem dX10_firstWrongStep_43 : decode cX10_firstWrongStep 43 = .ok (.aaload, 1) := by decide +kernel
theorem dX10_firstWrongStep_44 : decode cX10_firstWrongStep 44 = .ok (.aload_n 0, 1) := by decide +kernel
theorem dX10_firstWrongStep_45 : decode cX10_firstWrongStep 45 = .ok (.getfield 29, 3) := by decide +kernel
theorem dX10_firstWrongStep_48 : decode cX10_firstWrongStep 48 = .ok (.iload 5, 2) := by decide +kernel
theorem dX10_firstWrongStep_50 : decode cX10_firstWrongStep 50 = .ok (.aaload, 1) := by decide +kernel
theorem dX10_firstWrongStep_51 : decode cX10_firstWrongStep 51 = .ok (.aload_n 1, 1) := by decide +kernel
theorem dX10_firstWrongStep_52 : decode cX10_firstWrongStep 52 = .ok (.iload 4, 2) := by decide +kernel
theorem dX10_firstWrongStep_54 : decode cX10_firstWrongStep 54 = .ok (.iaload, 1) := by decide +kernel
theorem dX10_firstWrongStep_55 : decode cX10_firstWrongStep 55 = .ok (.invokevirtual 112, 3) := by decide +kernel
theorem dX10_firstWrongStep_58 : decode cX10_firstWrongStep 58 = .ok (.invokevirtual 115, 3) := by decide +kernel
theorem dX10_firstWrongStep_61 : decode cX10_firstWrongStep 61 = .ok (.istore 6, 2) := by decide +kernel
theorem dX10_firstWrongStep_63 : decode cX10_firstWrongStep 63 = .ok (.iload 6, 2) := by decide +kernel
theorem dX10_firstWrongStep_65 : decode cX10_firstWrongStep 65 = .ok (.iconst 1, 1) := by decide +kernel
theorem dX10_firstWrongStep_66 : decode cX10_firstWrongStep 66 = .ok (.if_icmp .eq 9, 3) := by decide +kernel
theorem dX10_firstWrongStep_69 : decode cX10_firstWrongStep 69 = .ok (.iload 6, 2) := by decide +kernel
theorem dX10_firstWrongStep_71 : decode cX10_firstWrongStep 71 = .ok (.iconst 2, 1) := by decide +kernel
theorem dX10_firstWrongStep_72 : decode cX10_firstWrongStep 72 = .ok (.if_icmp .ne 7, 3) := by decide +kernel
theorem dX10_firstWrongStep_75 : decode cX10_firstWrongStep 75 = .ok (.iconst 1, 1) := by decide +kernel
theorem dX10_firstWrongStep_76 : decode cX10_firstWrongStep 76 = .ok (.goto 4, 3) := by decide +kernel
theorem dX10_firstWrongStep_79 : decode cX10_firstWrongStep 79 = .ok (.iconst 0, 1) := by decide +kernel
theorem dX10_firstWrongStep_80 : decode cX10_firstWrongStep 80 = .ok (.istore 7, 2) := by decide +kernel
theorem dX10_firstWrongStep_82 : decode cX10_firstWrongStep 82 = .ok (.iload_n 3, 1) := by decide +kernel
theorem dX10_firstWrongStep_83 : decode cX10_firstWrongStep 83 = .ok (.ifCond .eq 11, 3) := by decide +kernel
theorem dX10_firstWrongStep_86 : decode cX10_firstWrongStep 86 = .ok (.iload 7, 2) := by decide +kernel
theorem dX10_firstWrongStep_88 : decode cX10_firstWrongStep 88 = .ok (.ifCond .eq 6, 3) := by decide +kernel
theorem dX10_firstWrongStep_91 : decode cX10_firstWrongStep 91 = .ok (.iload 4, 2) := by decide +kernel
theorem dX10_firstWrongStep_93 : decode cX10_firstWrongStep 93 = .ok (.ireturn, 1) := by decide +kernel
theorem dX10_firstWrongStep_94 : decode cX10_firstWrongStep 94 = .ok (.iload_n 3, 1) := by decide +kernel
theorem dX10_firstWrongStep_95 : decode cX10_firstWrongStep 95 = .ok (.ifCond .ne 14, 3) := by decide +kernel
theorem dX10_firstWrongStep_98 : decode cX10_firstWrongStep 98 = .ok (.iload 6, 2) := by decide +kernel
theorem dX10_firstWrongStep_100 : decode cX10_firstWrongStep 100 = .ok (.iconst 2, 1) := by decide +kernel
theorem dX10_firstWrongStep_101 : decode cX10_firstWrongStep 101 = .ok (.if_icmp .eq 8, 3) := by decide +kernel
theorem dX10_firstWrongStep_104 : decode cX10_firstWrongStep 104 = .ok (.iload 6, 2) := by decide +kernel
theorem dX10_firstWrongStep_106 : decode cX10_firstWrongStep 106 = .ok (.ifCond .ne 7, 3) := by decide +kernel
theorem dX10_firstWrongStep_109 : decode cX10_firstWrongStep 109 = .ok (.iconst 1, 1) := by decide +kernel
theorem dX10_firstWrongStep_110 : decode cX10_firstWrongStep 110 = .ok (.goto 4, 3) := by decide +kernel
theorem dX10_firstWrongStep_113 : decode cX10_firstWrongStep 113 = .ok (.iconst 0, 1) := by decide +kernel
theorem dX10_firstWrongStep_114 : decode cX10_firstWrongStep 114 = .ok (.istore_n 3, 1) := by decide +kernel
theorem dX10_firstWrongStep_115 : decode cX10_firstWrongStep 115 = .ok (.iinc 4 1, 3) := by decide +kernel
theorem dX10_firstWrongStep_118 : decode cX10_firstWrongStep 118 = .ok (.goto (-113), 3) := by decide +kernel
theorem dX10_firstWrongStep_121 : decode cX10_firstWrongStep 121 = .ok (.iconst (-1), 1) := by decide +kernel
theorem dX10_firstWrongStep_122 : decode cX10_firstWrongStep 122 = .ok (.ireturn, 1) := by decide +kernel
theorem dX10_leastCustomer_0 : decode cX10_leastCustomer 0 = .ok (.bipush 10, 2) := by decide +kernel
theorem dX10_leastCustomer_2 : decode cX10_leastCustomer 2 = .ok (.istore_n 3, 1) := by decide +kernel
theorem dX10_leastCustomer_3 : decode cX10_leastCustomer 3 = .ok (.iconst 0, 1) := by decide +kernel
theorem dX10_leastCustomer_4 : decode cX10_leastCustomer 4 = .ok (.istore 4, 2) := by decide +kernel
theorem dX10_leastCustomer_6 : decode cX10_leastCustomer 6 = .ok (.iload 4, 2) := by decide +kernel
theorem dX10_leastCustomer_8 : decode cX10_leastCustomer 8 = .ok (.aload_n 0, 1) := by decide +kernel
theorem dX10_leastCustomer_9 : decode cX10_leastCustomer 9 = .ok (.getfield 72, 3) := by decide +kernel
theorem dX10_leastCustomer_12 : decode cX10_leastCustomer 12 = .ok (.if_icmp .ge 59, 3) := by decide +kernel
theorem dX10_leastCustomer_15 : decode cX10_leastCustomer 15 = .ok (.aload_n 0, 1) := by decide +kernel
theorem dX10_leastCustomer_16 : decode cX10_leastCustomer 16 = .ok (.getfield 29, 3) := by decide +kernel
theorem dX10_leastCustomer_19 : decode cX10_leastCustomer 19 = .ok (.iload 4, 2) := by decide +kernel
theorem dX10_leastCustomer_21 : decode cX10_leastCustomer 21 = .ok (.aaload, 1) := by decide +kernel
theorem dX10_leastCustomer_22 : decode cX10_leastCustomer 22 = .ok (.astore 5, 2) := by decide +kernel
theorem dX10_leastCustomer_24 : decode cX10_leastCustomer 24 = .ok (.aload 5, 2) := by decide +kernel
theorem dX10_leastCustomer_26 : decode cX10_leastCustomer 26 = .ok (.getfield 84, 3) := by decide +kernel
theorem dX10_leastCustomer_29 : decode cX10_leastCustomer 29 = .ok (.ifCond .ne 36, 3) := by decide +kernel
theorem dX10_leastCustomer_32 : decode cX10_leastCustomer 32 = .ok (.aload 5, 2) := by decide +kernel
theorem dX10_leastCustomer_34 : decode cX10_leastCustomer 34 = .ok (.getfield 78, 3) := by decide +kernel
theorem dX10_leastCustomer_37 : decode cX10_leastCustomer 37 = .ok (.iload_n 1, 1) := by decide +kernel
theorem dX10_leastCustomer_38 : decode cX10_leastCustomer 38 = .ok (.if_icmp .ne 27, 3) := by decide +kernel
theorem dX10_leastCustomer_41 : decode cX10_leastCustomer 41 = .ok (.aload_n 0, 1) := by decide +kernel
theorem dX10_leastCustomer_42 : decode cX10_leastCustomer 42 = .ok (.getfield 36, 3) := by decide +kernel
theorem dX10_leastCustomer_45 : decode cX10_leastCustomer 45 = .ok (.aload 5, 2) := by decide +kernel
theorem dX10_leastCustomer_47 : decode cX10_leastCustomer 47 = .ok (.getfield 81, 3) := by decide +kernel
theorem dX10_leastCustomer_50 : decode cX10_leastCustomer 50 = .ok (.iaload, 1) := by decide +kernel
theorem dX10_leastCustomer_51 : decode cX10_leastCustomer 51 = .ok (.iload_n 2, 1) := by decide +kernel
theorem dX10_leastCustomer_52 : decode cX10_leastCustomer 52 = .ok (.if_icmp .ne 13, 3) := by decide +kernel
theorem dX10_leastCustomer_55 : decode cX10_leastCustomer 55 = .ok (.iload_n 3, 1) := by decide +kernel
theorem dX10_leastCustomer_56 : decode cX10_leastCustomer 56 = .ok (.aload 5, 2) := by decide +kernel
theorem dX10_leastCustomer_58 : decode cX10_leastCustomer 58 = .ok (.getfield 81, 3) := by decide +kernel
theorem dX10_leastCustomer_61 : decode cX10_leastCustomer 61 = .ok (.invokestatic 100, 3) := by decide +kernel
theorem dX10_leastCustomer_64 : decode cX10_leastCustomer 64 = .ok (.istore_n 3, 1) := by decide +kernel
theorem dX10_leastCustomer_65 : decode cX10_leastCustomer 65 = .ok (.iinc 4 1, 3) := by decide +kernel
theorem dX10_leastCustomer_68 : decode cX10_leastCustomer 68 = .ok (.goto (-62), 3) := by decide +kernel
theorem dX10_leastCustomer_71 : decode cX10_leastCustomer 71 = .ok (.iload_n 3, 1) := by decide +kernel
theorem dX10_leastCustomer_72 : decode cX10_leastCustomer 72 = .ok (.ireturn, 1) := by decide +kernel
theorem dX10_maskOf_0 : decode cX10_maskOf 0 = .ok (.iload_n 0, 1) := by decide +kernel
theorem dX10_maskOf_1 : decode cX10_maskOf 1 = .ok (.ifCond .ne 7, 3) := by decide +kernel
theorem dX10_maskOf_4 : decode cX10_maskOf 4 = .ok (.iconst 0, 1) := by decide +kernel
theorem dX10_maskOf_5 : decode cX10_maskOf 5 = .ok (.goto 9, 3) := by decide +kernel
theorem dX10_maskOf_8 : decode cX10_maskOf 8 = .ok (.iconst (-1), 1) := by decide +kernel
theorem dX10_maskOf_9 : decode cX10_maskOf 9 = .ok (.bipush 32, 2) := by decide +kernel
theorem dX10_maskOf_11 : decode cX10_maskOf 11 = .ok (.iload_n 0, 1) := by decide +kernel
theorem dX10_maskOf_12 : decode cX10_maskOf 12 = .ok (.isub, 1) := by decide +kernel
theorem dX10_maskOf_13 : decode cX10_maskOf 13 = .ok (.ishl, 1) := by decide +kernel
theorem dX10_maskOf_14 : decode cX10_maskOf 14 = .ok (.ireturn, 1) := by decide +kernel
theorem dX10_shortestRing_0 : decode cX10_shortestRing 0 = .ok (.bipush 11, 2) := by decide +kernel
theorem dX10_shortestRing_2 : decode cX10_shortestRing 2 = .ok (.istore_n 2, 1) := by decide +kernel
theorem dX10_shortestRing_3 : decode cX10_shortestRing 3 = .ok (.aload_n 0, 1) := by decide +kernel
theorem dX10_shortestRing_4 : decode cX10_shortestRing 4 = .ok (.getfield 36, 3) := by decide +kernel
theorem dX10_shortestRing_7 : decode cX10_shortestRing 7 = .ok (.iload_n 2, 1) := by decide +kernel
theorem dX10_shortestRing_8 : decode cX10_shortestRing 8 = .ok (.invokestatic 94, 3) := by decide +kernel
theorem dX10_shortestRing_11 : decode cX10_shortestRing 11 = .ok (.aload_n 0, 1) := by decide +kernel
theorem dX10_shortestRing_12 : decode cX10_shortestRing 12 = .ok (.getfield 36, 3) := by decide +kernel
theorem dX10_shortestRing_15 : decode cX10_shortestRing 15 = .ok (.iload_n 1, 1) := by decide +kernel
theorem dX10_shortestRing_16 : decode cX10_shortestRing 16 = .ok (.iconst 0, 1) := by decide +kernel
theorem dX10_shortestRing_17 : decode cX10_shortestRing 17 = .ok (.iastore, 1) := by decide +kernel
theorem dX10_shortestRing_18 : decode cX10_shortestRing 18 = .ok (.iload_n 2, 1) := by decide +kernel
theorem dX10_shortestRing_19 : decode cX10_shortestRing 19 = .ok (.istore_n 3, 1) := by decide +kernel
theorem dX10_shortestRing_20 : decode cX10_shortestRing 20 = .ok (.iconst 0, 1) := by decide +kernel
theorem dX10_shortestRing_21 : decode cX10_shortestRing 21 = .ok (.istore 4, 2) := by decide +kernel
theorem dX10_shortestRing_23 : decode cX10_shortestRing 23 = .ok (.iload 4, 2) := by decide +kernel
theorem dX10_shortestRing_25 : decode cX10_shortestRing 25 = .ok (.aload_n 0, 1) := by decide +kernel
theorem dX10_shortestRing_26 : decode cX10_shortestRing 26 = .ok (.getfield 68, 3) := by decide +kernel
theorem dX10_shortestRing_29 : decode cX10_shortestRing 29 = .ok (.if_icmp .ge 121, 3) := by decide +kernel
theorem dX10_shortestRing_32 : decode cX10_shortestRing 32 = .ok (.iconst 0, 1) := by decide +kernel
theorem dX10_shortestRing_33 : decode cX10_shortestRing 33 = .ok (.istore 5, 2) := by decide +kernel
theorem dX10_shortestRing_35 : decode cX10_shortestRing 35 = .ok (.iload 5, 2) := by decide +kernel
theorem dX10_shortestRing_37 : decode cX10_shortestRing 37 = .ok (.aload_n 0, 1) := by decide +kernel
theorem dX10_shortestRing_38 : decode cX10_shortestRing 38 = .ok (.getfield 72, 3) := by decide +kernel
theorem dX10_shortestRing_41 : decode cX10_shortestRing 41 = .ok (.if_icmp .ge 103, 3) := by decide +kernel
theorem dX10_shortestRing_44 : decode cX10_shortestRing 44 = .ok (.aload_n 0, 1) := by decide +kernel
theorem dX10_shortestRing_45 : decode cX10_shortestRing 45 = .ok (.getfield 29, 3) := by decide +kernel
theorem dX10_shortestRing_48 : decode cX10_shortestRing 48 = .ok (.iload 5, 2) := by decide +kernel
theorem dX10_shortestRing_50 : decode cX10_shortestRing 50 = .ok (.aaload, 1) := by decide +kernel
theorem dX10_shortestRing_51 : decode cX10_shortestRing 51 = .ok (.getfield 84, 3) := by decide +kernel
theorem dX10_shortestRing_54 : decode cX10_shortestRing 54 = .ok (.ifCond .eq 6, 3) := by decide +kernel
theorem dX10_shortestRing_57 : decode cX10_shortestRing 57 = .ok (.goto 81, 3) := by decide +kernel
theorem dX10_shortestRing_60 : decode cX10_shortestRing 60 = .ok (.aload_n 0, 1) := by decide +kernel
theorem dX10_shortestRing_61 : decode cX10_shortestRing 61 = .ok (.getfield 36, 3) := by decide +kernel
theorem dX10_shortestRing_64 : decode cX10_shortestRing 64 = .ok (.aload_n 0, 1) := by decide +kernel
theorem dX10_shortestRing_65 : decode cX10_shortestRing 65 = .ok (.getfield 29, 3) := by decide +kernel
theorem dX10_shortestRing_68 : decode cX10_shortestRing 68 = .ok (.iload 5, 2) := by decide +kernel
theorem dX10_shortestRing_70 : decode cX10_shortestRing 70 = .ok (.aaload, 1) := by decide +kernel
theorem dX10_shortestRing_71 : decode cX10_shortestRing 71 = .ok (.getfield 81, 3) := by decide +kernel
theorem dX10_shortestRing_74 : decode cX10_shortestRing 74 = .ok (.iaload, 1) := by decide +kernel
theorem dX10_shortestRing_75 : decode cX10_shortestRing 75 = .ok (.iconst 1, 1) := by decide +kernel
theorem dX10_shortestRing_76 : decode cX10_shortestRing 76 = .ok (.iadd, 1) := by decide +kernel
theorem dX10_shortestRing_77 : decode cX10_shortestRing 77 = .ok (.istore 6, 2) := by decide +kernel
theorem dX10_shortestRing_79 : decode cX10_shortestRing 79 = .ok (.aload_n 0, 1) := by decide +kernel
theorem dX10_shortestRing_80 : decode cX10_shortestRing 80 = .ok (.getfield 29, 3) := by decide +kernel
theorem dX10_shortestRing_83 : decode cX10_shortestRing 83 = .ok (.iload 5, 2) := by decide +kernel
theorem dX10_shortestRing_85 : decode cX10_shortestRing 85 = .ok (.aaload, 1) := by decide +kernel
theorem dX10_shortestRing_86 : decode cX10_shortestRing 86 = .ok (.getfield 78, 3) := by decide +kernel
theorem dX10_shortestRing_89 : decode cX10_shortestRing 89 = .ok (.iload_n 1, 1) := by decide +kernel
theorem dX10_shortestRing_90 : decode cX10_shortestRing 90 = .ok (.if_icmp .ne 13, 3) := by decide +kernel
theorem dX10_shortestRing_93 : decode cX10_shortestRing 93 = .ok (.iload_n 3, 1) := by decide +kernel
theorem dX10_shortestRing_94 : decode cX10_shortestRing 94 = .ok (.iload 6, 2) := by decide +kernel
theorem dX10_shortestRing_96 : decode cX10_shortestRing 96 = .ok (.invokestatic 100, 3) := by decide +kernel
theorem dX10_shortestRing_99 : decode cX10_shortestRing 99 = .ok (.istore_n 3, 1) := by decide +kernel
theorem dX10_shortestRing_100 : decode cX10_shortestRing 100 = .ok (.goto 38, 3) := by decide +kernel
theorem dX10_shortestRing_103 : decode cX10_shortestRing 103 = .ok (.aload_n 0, 1) := by decide +kernel
theorem dX10_shortestRing_104 : decode cX10_shortestRing 104 = .ok (.getfield 36, 3) := by decide +kernel
theorem dX10_shortestRing_107 : decode cX10_shortestRing 107 = .ok (.aload_n 0, 1) := by decide +kernel
theorem dX10_shortestRing_108 : decode cX10_shortestRing 108 = .ok (.getfield 29, 3) := by decide +kernel
theorem dX10_shortestRing_111 : decode cX10_shortestRing 111 = .ok (.iload 5, 2) := by decide +kernel
theorem dX10_shortestRing_113 : decode cX10_shortestRing 113 = .ok (.aaload, 1) := by decide +kernel
theorem dX10_shortestRing_114 : decode cX10_shortestRing 114 = .ok (.getfield 78, 3) := by decide +kernel
theorem dX10_shortestRing_117 : decode cX10_shortestRing 117 = .ok (.aload_n 0, 1) := by decide +kernel
theorem dX10_shortestRing_118 : decode cX10_shortestRing 118 = .ok (.getfield 36, 3) := by decide +kernel
theorem dX10_shortestRing_121 : decode cX10_shortestRing 121 = .ok (.aload_n 0, 1) := by decide +kernel
theorem dX10_shortestRing_122 : decode cX10_shortestRing 122 = .ok (.getfield 29, 3) := by decide +kernel
theorem dX10_shortestRing_125 : decode cX10_shortestRing 125 = .ok (.iload 5, 2) := by decide +kernel
theorem dX10_shortestRing_127 : decode cX10_shortestRing 127 = .ok (.aaload, 1) := by decide +kernel
theorem dX10_shortestRing_128 : decode cX10_shortestRing 128 = .ok (.getfield 78, 3) := by decide +kernel
theorem dX10_shortestRing_131 : decode cX10_shortestRing 131 = .ok (.iaload, 1) := by decide +kernel
theorem dX10_shortestRing_132 : decode cX10_shortestRing 132 = .ok (.iload 6, 2) := by decide +kernel
theorem dX10_shortestRing_134 : decode cX10_shortestRing 134 = .ok (.invokestatic 100, 3) := by decide +kernel
theorem dX10_shortestRing_137 : decode cX10_shortestRing 137 = .ok (.iastore, 1) := by decide +kernel
theorem dX10_shortestRing_138 : decode cX10_shortestRing 138 = .ok (.iinc 5 1, 3) := by decide +kernel
theorem dX10_shortestRing_141 : decode cX10_shortestRing 141 = .ok (.goto (-106), 3) := by decide +kernel
theorem dX10_shortestRing_144 : decode cX10_shortestRing 144 = .ok (.iinc 4 1, 3) := by decide +kernel
theorem dX10_shortestRing_147 : decode cX10_shortestRing 147 = .ok (.goto (-124), 3) := by decide +kernel
theorem dX10_shortestRing_150 : decode cX10_shortestRing 150 = .ok (.iload_n 3, 1) := by decide +kernel
theorem dX10_shortestRing_151 : decode cX10_shortestRing 151 = .ok (.iload_n 2, 1) := by decide +kernel
theorem dX10_shortestRing_152 : decode cX10_shortestRing 152 = .ok (.if_icmp .ge 7, 3) := by decide +kernel
theorem dX10_shortestRing_155 : decode cX10_shortestRing 155 = .ok (.iload_n 3, 1) := by decide +kernel
theorem dX10_shortestRing_156 : decode cX10_shortestRing 156 = .ok (.goto 4, 3) := by decide +kernel
theorem dX10_shortestRing_159 : decode cX10_shortestRing 159 = .ok (.iconst 0, 1) := by decide +kernel
theorem dX10_shortestRing_160 : decode cX10_shortestRing 160 = .ok (.ireturn, 1) := by decide +kernel
theorem dX10_tieBetween_0 : decode cX10_tieBetween 0 = .ok (.iconst 0, 1) := by decide +kernel
theorem dX10_tieBetween_1 : decode cX10_tieBetween 1 = .ok (.istore_n 3, 1) := by decide +kernel
theorem dX10_tieBetween_2 : decode cX10_tieBetween 2 = .ok (.iload_n 3, 1) := by decide +kernel
theorem dX10_tieBetween_3 : decode cX10_tieBetween 3 = .ok (.aload_n 0, 1) := by decide +kernel
theorem dX10_tieBetween_4 : decode cX10_tieBetween 4 = .ok (.getfield 72, 3) := by decide +kernel
theorem dX10_tieBetween_7 : decode cX10_tieBetween 7 = .ok (.if_icmp .ge 55, 3) := by decide +kernel
theorem dX10_tieBetween_10 : decode cX10_tieBetween 10 = .ok (.aload_n 0, 1) := by decide +kernel
theorem dX10_tieBetween_11 : decode cX10_tieBetween 11 = .ok (.getfield 29, 3) := by decide +kernel
theorem dX10_tieBetween_14 : decode cX10_tieBetween 14 = .ok (.iload_n 3, 1) := by decide +kernel
theorem dX10_tieBetween_15 : decode cX10_tieBetween 15 = .ok (.aaload, 1) := by decide +kernel
theorem dX10_tieBetween_16 : decode cX10_tieBetween 16 = .ok (.astore 4, 2) := by decide +kernel
theorem dX10_tieBetween_18 : decode cX10_tieBetween 18 = .ok (.aload 4, 2) := by decide +kernel
theorem dX10_tieBetween_20 : decode cX10_tieBetween 20 = .ok (.getfield 78, 3) := by decide +kernel
theorem dX10_tieBetween_23 : decode cX10_tieBetween 23 = .ok (.iload_n 1, 1) := by decide +kernel
theorem dX10_tieBetween_24 : decode cX10_tieBetween 24 = .ok (.if_icmp .ne 12, 3) := by decide +kernel
theorem dX10_tieBetween_27 : decode cX10_tieBetween 27 = .ok (.aload 4, 2) := by decide +kernel
theorem dX10_tieBetween_29 : decode cX10_tieBetween 29 = .ok (.getfield 81, 3) := by decide +kernel
theorem dX10_tieBetween_32 : decode cX10_tieBetween 32 = .ok (.iload_n 2, 1) := by decide +kernel
theorem dX10_tieBetween_33 : decode cX10_tieBetween 33 = .ok (.if_icmp .eq 21, 3) := by decide +kernel
theorem dX10_tieBetween_36 : decode cX10_tieBetween 36 = .ok (.aload 4, 2) := by decide +kernel
theorem dX10_tieBetween_38 : decode cX10_tieBetween 38 = .ok (.getfield 78, 3) := by decide +kernel
theorem dX10_tieBetween_41 : decode cX10_tieBetween 41 = .ok (.iload_n 2, 1) := by decide +kernel
theorem dX10_tieBetween_42 : decode cX10_tieBetween 42 = .ok (.if_icmp .ne 14, 3) := by decide +kernel
theorem dX10_tieBetween_45 : decode cX10_tieBetween 45 = .ok (.aload 4, 2) := by decide +kernel
theorem dX10_tieBetween_47 : decode cX10_tieBetween 47 = .ok (.getfield 81, 3) := by decide +kernel
theorem dX10_tieBetween_50 : decode cX10_tieBetween 50 = .ok (.iload_n 1, 1) := by decide +kernel
theorem dX10_tieBetween_51 : decode cX10_tieBetween 51 = .ok (.if_icmp .ne 5, 3) := by decide +kernel
theorem dX10_tieBetween_54 : decode cX10_tieBetween 54 = .ok (.iload_n 3, 1) := by decide +kernel
theorem dX10_tieBetween_55 : decode cX10_tieBetween 55 = .ok (.ireturn, 1) := by decide +kernel
theorem dX10_tieBetween_56 : decode cX10_tieBetween 56 = .ok (.iinc 3 1, 3) := by decide +kernel
theorem dX10_tieBetween_59 : decode cX10_tieBetween 59 = .ok (.goto (-57), 3) := by decide +kernel
theorem dX10_tieBetween_62 : decode cX10_tieBetween 62 = .ok (.iconst (-1), 1) := by decide +kernel
theorem dX10_tieBetween_63 : decode cX10_tieBetween 63 = .ok (.ireturn, 1) := by decide +kernel
theorem dX10_verdictOn_0 : decode cX10_verdictOn 0 = .ok (.iconst 2, 1) := by decide +kernel
theorem dX10_verdictOn_1 : decode cX10_verdictOn 1 = .ok (.istore 5, 2) := by decide +kernel
theorem dX10_verdictOn_3 : decode cX10_verdictOn 3 = .ok (.iconst 0, 1) := by decide +kernel
theorem dX10_verdictOn_4 : decode cX10_verdictOn 4 = .ok (.istore 6, 2) := by decide +kernel
theorem dX10_verdictOn_6 : decode cX10_verdictOn 6 = .ok (.iload 6, 2) := by decide +kernel
theorem dX10_verdictOn_8 : decode cX10_verdictOn 8 = .ok (.aload_n 0, 1) := by decide +kernel
theorem dX10_verdictOn_9 : decode cX10_verdictOn 9 = .ok (.getfield 118, 3) := by decide +kernel
theorem dX10_verdictOn_12 : decode cX10_verdictOn 12 = .ok (.if_icmp .ge 186, 3) := by decide +kernel
theorem dX10_verdictOn_15 : decode cX10_verdictOn 15 = .ok (.aload_n 0, 1) := by decide +kernel
theorem dX10_verdictOn_16 : decode cX10_verdictOn 16 = .ok (.getfield 48, 3) := by decide +kernel
theorem dX10_verdictOn_19 : decode cX10_verdictOn 19 = .ok (.iload 6, 2) := by decide +kernel
theorem dX10_verdictOn_21 : decode cX10_verdictOn 21 = .ok (.iaload, 1) := by decide +kernel
theorem dX10_verdictOn_22 : decode cX10_verdictOn 22 = .ok (.iload_n 3, 1) := by decide +kernel
theorem dX10_verdictOn_23 : decode cX10_verdictOn 23 = .ok (.if_icmp .gt 18, 3) := by decide +kernel
theorem dX10_verdictOn_26 : decode cX10_verdictOn 26 = .ok (.iload_n 3, 1) := by decide +kernel
theorem dX10_verdictOn_27 : decode cX10_verdictOn 27 = .ok (.aload_n 0, 1) := by decide +kernel
theorem dX10_verdictOn_28 : decode cX10_verdictOn 28 = .ok (.getfield 51, 3) := by decide +kernel
theorem dX10_verdictOn_31 : decode cX10_verdictOn 31 = .ok (.iload 6, 2) := by decide +kernel
theorem dX10_verdictOn_33 : decode cX10_verdictOn 33 = .ok (.iaload, 1) := by decide +kernel
theorem dX10_verdictOn_34 : decode cX10_verdictOn 34 = .ok (.if_icmp .ge 7, 3) := by decide +kernel
theorem dX10_verdictOn_37 : decode cX10_verdictOn 37 = .ok (.iconst 1, 1) := by decide +kernel
theorem dX10_verdictOn_38 : decode cX10_verdictOn 38 = .ok (.goto 4, 3) := by decide +kernel
theorem dX10_verdictOn_41 : decode cX10_verdictOn 41 = .ok (.iconst 0, 1) := by decide +kernel
theorem dX10_verdictOn_42 : decode cX10_verdictOn 42 = .ok (.istore 7, 2) := by decide +kernel
theorem dX10_verdictOn_44 : decode cX10_verdictOn 44 = .ok (.aload_n 0, 1) := by decide +kernel
theorem dX10_verdictOn_45 : decode cX10_verdictOn 45 = .ok (.getfield 54, 3) := by decide +kernel
theorem dX10_verdictOn_48 : decode cX10_verdictOn 48 = .ok (.iload 6, 2) := by decide +kernel
theorem dX10_verdictOn_50 : decode cX10_verdictOn 50 = .ok (.iaload, 1) := by decide +kernel
theorem dX10_verdictOn_51 : decode cX10_verdictOn 51 = .ok (.iload 4, 2) := by decide +kernel
theorem dX10_verdictOn_53 : decode cX10_verdictOn 53 = .ok (.if_icmp .gt 30, 3) := by decide +kernel
theorem dX10_verdictOn_56 : decode cX10_verdictOn 56 = .ok (.aload_n 0, 1) := by decide +kernel
theorem dX10_verdictOn_57 : decode cX10_verdictOn 57 = .ok (.getfield 57, 3) := by decide +kernel
theorem dX10_verdictOn_60 : decode cX10_verdictOn 60 = .ok (.iload 6, 2) := by decide +kernel
theorem dX10_verdictOn_62 : decode cX10_verdictOn 62 = .ok (.iaload, 1) := by decide +kernel
theorem dX10_verdictOn_63 : decode cX10_verdictOn 63 = .ok (.iconst (-1), 1) := by decide +kernel
theorem dX10_verdictOn_64 : decode cX10_verdictOn 64 = .ok (.if_icmp .eq 15, 3) := by decide +kernel
theorem dX10_verdictOn_67 : decode cX10_verdictOn 67 = .ok (.iload 4, 2) := by decide +kernel
theorem dX10_verdictOn_69 : decode cX10_verdictOn 69 = .ok (.aload_n 0, 1) := by decide +kernel
theorem dX10_verdictOn_70 : decode cX10_verdictOn 70 = .ok (.getfield 57, 3) := by decide +kernel
theorem dX10_verdictOn_73 : decode cX10_verdictOn 73 = .ok (.iload 6, 2) := by decide +kernel
theorem dX10_verdictOn_75 : decode cX10_verdictOn 75 = .ok (.iaload, 1) := by decide +kernel
theorem dX10_verdictOn_76 : decode cX10_verdictOn 76 = .ok (.if_icmp .ge 7, 3) := by decide +kernel
theorem dX10_verdictOn_79 : decode cX10_verdictOn 79 = .ok (.iconst 1, 1) := by decide +kernel
theorem dX10_verdictOn_80 : decode cX10_verdictOn 80 = .ok (.goto 4, 3) := by decide +kernel
theorem dX10_verdictOn_83 : decode cX10_verdictOn 83 = .ok (.iconst 0, 1) := by decide +kernel
theorem dX10_verdictOn_84 : decode cX10_verdictOn 84 = .ok (.istore 8, 2) := by decide +kernel
theorem dX10_verdictOn_86 : decode cX10_verdictOn 86 = .ok (.aload_n 0, 1) := by decide +kernel
theorem dX10_verdictOn_87 : decode cX10_verdictOn 87 = .ok (.getfield 39, 3) := by decide +kernel
theorem dX10_verdictOn_90 : decode cX10_verdictOn 90 = .ok (.iload 6, 2) := by decide +kernel
theorem dX10_verdictOn_92 : decode cX10_verdictOn 92 = .ok (.iaload, 1) := by decide +kernel
theorem dX10_verdictOn_93 : decode cX10_verdictOn 93 = .ok (.istore 9, 2) := by decide +kernel
theorem dX10_verdictOn_95 : decode cX10_verdictOn 95 = .ok (.aload_n 0, 1) := by decide +kernel
theorem dX10_verdictOn_96 : decode cX10_verdictOn 96 = .ok (.getfield 15, 3) := by decide +kernel
theorem dX10_verdictOn_99 : decode cX10_verdictOn 99 = .ok (.iload 9, 2) := by decide +kernel
theorem dX10_verdictOn_101 : decode cX10_verdictOn 101 = .ok (.iaload, 1) := by decide +kernel
theorem dX10_verdictOn_102 : decode cX10_verdictOn 102 = .ok (.aload_n 0, 1) := by decide +kernel
theorem dX10_verdictOn_103 : decode cX10_verdictOn 103 = .ok (.getfield 15, 3) := by decide +kernel
theorem dX10_verdictOn_106 : decode cX10_verdictOn 106 = .ok (.iload_n 1, 1) := by decide +kernel
theorem dX10_verdictOn_107 : decode cX10_verdictOn 107 = .ok (.iaload, 1) := by decide +kernel
theorem dX10_verdictOn_108 : decode cX10_verdictOn 108 = .ok (.if_icmp .gt 31, 3) := by decide +kernel
theorem dX10_verdictOn_111 : decode cX10_verdictOn 111 = .ok (.aload_n 0, 1) := by decide +kernel
theorem dX10_verdictOn_112 : decode cX10_verdictOn 112 = .ok (.getfield 9, 3) := by decide +kernel
theorem dX10_verdictOn_115 : decode cX10_verdictOn 115 = .ok (.iload_n 1, 1) := by decide +kernel
theorem dX10_verdictOn_116 : decode cX10_verdictOn 116 = .ok (.iaload, 1) := by decide +kernel
theorem dX10_verdictOn_117 : decode cX10_verdictOn 117 = .ok (.aload_n 0, 1) := by decide +kernel
theorem dX10_verdictOn_118 : decode cX10_verdictOn 118 = .ok (.getfield 18, 3) := by decide +kernel
theorem dX10_verdictOn_121 : decode cX10_verdictOn 121 = .ok (.iload 9, 2) := by decide +kernel
theorem dX10_verdictOn_123 : decode cX10_verdictOn 123 = .ok (.iaload, 1) := by decide +kernel
theorem dX10_verdictOn_124 : decode cX10_verdictOn 124 = .ok (.iand, 1) := by decide +kernel
theorem dX10_verdictOn_125 : decode cX10_verdictOn 125 = .ok (.aload_n 0, 1) := by decide +kernel
theorem dX10_verdictOn_126 : decode cX10_verdictOn 126 = .ok (.getfield 9, 3) := by decide +kernel
theorem dX10_verdictOn_129 : decode cX10_verdictOn 129 = .ok (.iload 9, 2) := by decide +kernel
theorem dX10_verdictOn_131 : decode cX10_verdictOn 131 = .ok (.iaload, 1) := by decide +kernel
theorem dX10_verdictOn_132 : decode cX10_verdictOn 132 = .ok (.if_icmp .ne 7, 3) := by decide +kernel
theorem dX10_verdictOn_135 : decode cX10_verdictOn 135 = .ok (.iconst 1, 1) := by decide +kernel
theorem dX10_verdictOn_136 : decode cX10_verdictOn 136 = .ok (.goto 4, 3) := by decide +kernel
theorem dX10_verdictOn_139 : decode cX10_verdictOn 139 = .ok (.iconst 0, 1) := by decide +kernel
theorem dX10_verdictOn_140 : decode cX10_verdictOn 140 = .ok (.istore 10, 2) := by decide +kernel
theorem dX10_verdictOn_142 : decode cX10_verdictOn 142 = .ok (.iload 7, 2) := by decide +kernel
theorem dX10_verdictOn_144 : decode cX10_verdictOn 144 = .ok (.ifCond .eq 48, 3) := by decide +kernel
theorem dX10_verdictOn_147 : decode cX10_verdictOn 147 = .ok (.iload 8, 2) := by decide +kernel
theorem dX10_verdictOn_149 : decode cX10_verdictOn 149 = .ok (.ifCond .eq 43, 3) := by decide +kernel
theorem dX10_verdictOn_152 : decode cX10_verdictOn 152 = .ok (.iload 10, 2) := by decide +kernel
theorem dX10_verdictOn_154 : decode cX10_verdictOn 154 = .ok (.ifCond .ne 6, 3) := by decide +kernel
theorem dX10_verdictOn_157 : decode cX10_verdictOn 157 = .ok (.goto 35, 3) := by decide +kernel
theorem dX10_verdictOn_160 : decode cX10_verdictOn 160 = .ok (.aload_n 0, 1) := by decide +kernel
theorem dX10_verdictOn_161 : decode cX10_verdictOn 161 = .ok (.getfield 45, 3) := by decide +kernel
theorem dX10_verdictOn_164 : decode cX10_verdictOn 164 = .ok (.iload 6, 2) := by decide +kernel
theorem dX10_verdictOn_166 : decode cX10_verdictOn 166 = .ok (.iaload, 1) := by decide +kernel
theorem dX10_verdictOn_167 : decode cX10_verdictOn 167 = .ok (.iload_n 2, 1) := by decide +kernel
theorem dX10_verdictOn_168 : decode cX10_verdictOn 168 = .ok (.if_icmp .ne 21, 3) := by decide +kernel
theorem dX10_verdictOn_171 : decode cX10_verdictOn 171 = .ok (.aload_n 0, 1) := by decide +kernel
theorem dX10_verdictOn_172 : decode cX10_verdictOn 172 = .ok (.getfield 42, 3) := by decide +kernel
theorem dX10_verdictOn_175 : decode cX10_verdictOn 175 = .ok (.iload 6, 2) := by decide +kernel
theorem dX10_verdictOn_177 : decode cX10_verdictOn 177 = .ok (.iaload, 1) := by decide +kernel
theorem dX10_verdictOn_178 : decode cX10_verdictOn 178 = .ok (.aload_n 0, 1) := by decide +kernel
theorem dX10_verdictOn_179 : decode cX10_verdictOn 179 = .ok (.getfield 15, 3) := by decide +kernel
theorem dX10_verdictOn_182 : decode cX10_verdictOn 182 = .ok (.iload_n 1, 1) := by decide +kernel
theorem dX10_verdictOn_183 : decode cX10_verdictOn 183 = .ok (.iaload, 1) := by decide +kernel
theorem dX10_verdictOn_184 : decode cX10_verdictOn 184 = .ok (.if_icmp .lt 5, 3) := by decide +kernel
theorem dX10_verdictOn_187 : decode cX10_verdictOn 187 = .ok (.iconst 1, 1) := by decide +kernel
theorem dX10_verdictOn_188 : decode cX10_verdictOn 188 = .ok (.ireturn, 1) := by decide +kernel
theorem dX10_verdictOn_189 : decode cX10_verdictOn 189 = .ok (.iconst 0, 1) := by decide +kernel
theorem dX10_verdictOn_190 : decode cX10_verdictOn 190 = .ok (.istore 5, 2) := by decide +kernel
theorem dX10_verdictOn_192 : decode cX10_verdictOn 192 = .ok (.iinc 6 1, 3) := by decide +kernel
theorem dX10_verdictOn_195 : decode cX10_verdictOn 195 = .ok (.goto (-189), 3) := by decide +kernel
theorem dX10_verdictOn_198 : decode cX10_verdictOn 198 = .ok (.iload 5, 2) := by decide +kernel
theorem dX10_verdictOn_200 : decode cX10_verdictOn 200 = .ok (.ireturn, 1) := by decide +kernel
theorem dX11_clear_0 : decode cX11_clear 0 = .ok (.aload_n 0, 1) := by decide +kernel
theorem dX11_clear_1 : decode cX11_clear 1 = .ok (.getfield 72, 3) := by decide +kernel
theorem dX11_clear_4 : decode cX11_clear 4 = .ok (.invokevirtual 394, 3) := by decide +kernel
theorem dX11_clear_7 : decode cX11_clear 7 = .ok (.ireturn, 1) := by decide +kernel
theorem dX11_count_0 : decode cX11_count 0 = .ok (.iload_n 1, 1) := by decide +kernel
theorem dX11_count_1 : decode cX11_count 1 = .ok (.tableswitch 153 0 11 #[63, 71, 79, 87, 95, 103, 111, 116, 124, 132, 140, 145], 63) := by decide +kernel
theorem dX11_count_64 : decode cX11_count 64 = .ok (.aload_n 0, 1) := by decide +kernel
theorem dX11_count_65 : decode cX11_count 65 = .ok (.getfield 26, 3) := by decide +kernel
theorem dX11_count_68 : decode cX11_count 68 = .ok (.getfield 92, 3) := by decide +kernel
theorem dX11_count_71 : decode cX11_count 71 = .ok (.ireturn, 1) := by decide +kernel
theorem dX11_count_72 : decode cX11_count 72 = .ok (.aload_n 0, 1) := by decide +kernel
theorem dX11_count_73 : decode cX11_count 73 = .ok (.getfield 26, 3) := by decide +kernel
theorem dX11_count_76 : decode cX11_count 76 = .ok (.getfield 98, 3) := by decide +kernel
theorem dX11_count_79 : decode cX11_count 79 = .ok (.ireturn, 1) := by decide +kernel
theorem dX11_count_80 : decode cX11_count 80 = .ok (.aload_n 0, 1) := by decide +kernel
theorem dX11_count_81 : decode cX11_count 81 = .ok (.getfield 26, 3) := by decide +kernel
theorem dX11_count_84 : decode cX11_count 84 = .ok (.getfield 112, 3) := by decide +kernel
theorem dX11_count_87 : decode cX11_count 87 = .ok (.ireturn, 1) := by decide +kernel
theorem dX11_count_88 : decode cX11_count 88 = .ok (.aload_n 0, 1) := by decide +kernel
theorem dX11_count_89 : decode cX11_count 89 = .ok (.getfield 26, 3) := by decide +kernel
theorem dX11_count_92 : decode cX11_count 92 = .ok (.getfield 188, 3) := by decide +kernel
theorem dX11_count_95 : decode cX11_count 95 = .ok (.ireturn, 1) := by decide +kernel
theorem dX11_count_96 : decode cX11_count 96 = .ok (.aload_n 0, 1) := by decide +kernel
theorem dX11_count_97 : decode cX11_count 97 = .ok (.getfield 35, 3) := by decide +kernel
theorem dX11_count_100 : decode cX11_count 100 = .ok (.getfield 205, 3) := by decide +kernel
theorem dX11_count_103 : decode cX11_count 103 = .ok (.ireturn, 1) := by decide +kernel
theorem dX11_count_104 : decode cX11_count 104 = .ok (.aload_n 0, 1) := by decide +kernel
theorem dX11_count_105 : decode cX11_count 105 = .ok (.getfield 65, 3) := by decide +kernel
theorem dX11_count_108 : decode cX11_count 108 = .ok (.getfield 373, 3) := by decide +kernel
theorem dX11_count_111 : decode cX11_count 111 = .ok (.ireturn, 1) := by decide +kernel
theorem dX11_count_112 : decode cX11_count 112 = .ok (.aload_n 0, 1) := by decide +kernel
theorem dX11_count_113 : decode cX11_count 113 = .ok (.getfield 76, 3) := by decide +kernel
theorem dX11_count_116 : decode cX11_count 116 = .ok (.ireturn, 1) := by decide +kernel
theorem dX11_count_117 : decode cX11_count 117 = .ok (.aload_n 0, 1) := by decide +kernel
theorem dX11_count_118 : decode cX11_count 118 = .ok (.getfield 51, 3) := by decide +kernel
theorem dX11_count_121 : decode cX11_count 121 = .ok (.getfield 303, 3) := by decide +kernel
theorem dX11_count_124 : decode cX11_count 124 = .ok (.ireturn, 1) := by decide +kernel
theorem dX11_count_125 : decode cX11_count 125 = .ok (.aload_n 0, 1) := by decide +kernel
theorem dX11_count_126 : decode cX11_count 126 = .ok (.getfield 51, 3) := by decide +kernel
theorem dX11_count_129 : decode cX11_count 129 = .ok (.getfield 426, 3) := by decide +kernel
theorem dX11_count_132 : decode cX11_count 132 = .ok (.ireturn, 1) := by decide +kernel
theorem dX11_count_133 : decode cX11_count 133 = .ok (.aload_n 0, 1) := by decide +kernel
theorem dX11_count_134 : decode cX11_count 134 = .ok (.getfield 51, 3) := by decide +kernel
theorem dX11_count_137 : decode cX11_count 137 = .ok (.getfield 429, 3) := by decide +kernel
theorem dX11_count_140 : decode cX11_count 140 = .ok (.ireturn, 1) := by decide +kernel
theorem dX11_count_141 : decode cX11_count 141 = .ok (.aload_n 0, 1) := by decide +kernel
theorem dX11_count_142 : decode cX11_count 142 = .ok (.getfield 169, 3) := by decide +kernel
theorem dX11_count_145 : decode cX11_count 145 = .ok (.ireturn, 1) := by decide +kernel
theorem dX11_count_146 : decode cX11_count 146 = .ok (.aload_n 0, 1) := by decide +kernel
theorem dX11_count_147 : decode cX11_count 147 = .ok (.getfield 26, 3) := by decide +kernel
theorem dX11_count_150 : decode cX11_count 150 = .ok (.getfield 176, 3) := by decide +kernel
theorem dX11_count_153 : decode cX11_count 153 = .ok (.ireturn, 1) := by decide +kernel
theorem dX11_count_154 : decode cX11_count 154 = .ok (.iconst (-1), 1) := by decide +kernel
theorem dX11_count_155 : decode cX11_count 155 = .ok (.ireturn, 1) := by decide +kernel
theorem dX11_cut_0 : decode cX11_cut 0 = .ok (.iload_n 1, 1) := by decide +kernel
theorem dX11_cut_1 : decode cX11_cut 1 = .ok (.ifCond .lt 11, 3) := by decide +kernel
theorem dX11_cut_4 : decode cX11_cut 4 = .ok (.iload_n 1, 1) := by decide +kernel
theorem dX11_cut_5 : decode cX11_cut 5 = .ok (.aload_n 0, 1) := by decide +kernel
theorem dX11_cut_6 : decode cX11_cut 6 = .ok (.getfield 76, 3) := by decide +kernel
theorem dX11_cut_9 : decode cX11_cut 9 = .ok (.if_icmp .le 5, 3) := by decide +kernel
theorem dX11_cut_12 : decode cX11_cut 12 = .ok (.iconst (-1), 1) := by decide +kernel
theorem dX11_cut_13 : decode cX11_cut 13 = .ok (.ireturn, 1) := by decide +kernel
theorem dX11_cut_14 : decode cX11_cut 14 = .ok (.aload_n 0, 1) := by decide +kernel
theorem dX11_cut_15 : decode cX11_cut 15 = .ok (.getfield 76, 3) := by decide +kernel
theorem dX11_cut_18 : decode cX11_cut 18 = .ok (.istore_n 2, 1) := by decide +kernel
theorem dX11_cut_19 : decode cX11_cut 19 = .ok (.aload_n 0, 1) := by decide +kernel
theorem dX11_cut_20 : decode cX11_cut 20 = .ok (.iload_n 1, 1) := by decide +kernel
theorem dX11_cut_21 : decode cX11_cut 21 = .ok (.putfield 76, 3) := by decide +kernel
theorem dX11_cut_24 : decode cX11_cut 24 = .ok (.iload_n 2, 1) := by decide +kernel
theorem dX11_cut_25 : decode cX11_cut 25 = .ok (.ireturn, 1) := by decide +kernel
theorem dX11_fault_0 : decode cX11_fault 0 = .ok (.aload_n 0, 1) := by decide +kernel
theorem dX11_fault_1 : decode cX11_fault 1 = .ok (.getfield 42, 3) := by decide +kernel
theorem dX11_fault_4 : decode cX11_fault 4 = .ok (.getfield 212, 3) := by decide +kernel
theorem dX11_fault_7 : decode cX11_fault 7 = .ok (.ireturn, 1) := by decide +kernel
theorem dX11_feed_0 : decode cX11_feed 0 = .ok (.aload_n 0, 1) := by decide +kernel
theorem dX11_feed_1 : decode cX11_feed 1 = .ok (.getfield 76, 3) := by decide +kernel
theorem dX11_feed_4 : decode cX11_feed 4 = .ok (.bipush 20, 2) := by decide +kernel
theorem dX11_feed_6 : decode cX11_feed 6 = .ok (.iadd, 1) := by decide +kernel
theorem dX11_feed_7 : decode cX11_feed 7 = .ok (.sipush 1000, 3) := by decide +kernel
theorem dX11_feed_10 : decode cX11_feed 10 = .ok (.if_icmp .le 6, 3) := by decide +kernel
theorem dX11_feed_13 : decode cX11_feed 13 = .ok (.bipush (-3), 2) := by decide +kernel
theorem dX11_feed_15 : decode cX11_feed 15 = .ok (.ireturn, 1) := by decide +kernel
theorem dX11_feed_16 : decode cX11_feed 16 = .ok (.aload_n 0, 1) := by decide +kernel
theorem dX11_feed_17 : decode cX11_feed 17 = .ok (.iload_n 1, 1) := by decide +kernel
theorem dX11_feed_18 : decode cX11_feed 18 = .ok (.invokevirtual 80, 3) := by decide +kernel
theorem dX11_feed_21 : decode cX11_feed 21 = .ok (.aload_n 0, 1) := by decide +kernel
theorem dX11_feed_22 : decode cX11_feed 22 = .ok (.iload_n 2, 1) := by decide +kernel
theorem dX11_feed_23 : decode cX11_feed 23 = .ok (.invokevirtual 80, 3) := by decide +kernel
theorem dX11_feed_26 : decode cX11_feed 26 = .ok (.aload_n 0, 1) := by decide +kernel
theorem dX11_feed_27 : decode cX11_feed 27 = .ok (.iload_n 3, 1) := by decide +kernel
theorem dX11_feed_28 : decode cX11_feed 28 = .ok (.invokevirtual 80, 3) := by decide +kernel
theorem dX11_feed_31 : decode cX11_feed 31 = .ok (.aload_n 0, 1) := by decide +kernel
theorem dX11_feed_32 : decode cX11_feed 32 = .ok (.iload 4, 2) := by decide +kernel
theorem dX11_feed_34 : decode cX11_feed 34 = .ok (.invokevirtual 80, 3) := by decide +kernel
theorem dX11_feed_37 : decode cX11_feed 37 = .ok (.aload_n 0, 1) := by decide +kernel
theorem dX11_feed_38 : decode cX11_feed 38 = .ok (.iload 5, 2) := by decide +kernel
theorem dX11_feed_40 : decode cX11_feed 40 = .ok (.invokevirtual 80, 3) := by decide +kernel
theorem dX11_feed_43 : decode cX11_feed 43 = .ok (.aload_n 0, 1) := by decide +kernel
theorem dX11_feed_44 : decode cX11_feed 44 = .ok (.getfield 76, 3) := by decide +kernel
theorem dX11_feed_47 : decode cX11_feed 47 = .ok (.ireturn, 1) := by decide +kernel
theorem dX11_feedNumber_0 : decode cX11_feedNumber 0 = .ok (.bipush 24, 2) := by decide +kernel
theorem dX11_feedNumber_2 : decode cX11_feedNumber 2 = .ok (.istore_n 2, 1) := by decide +kernel
theorem dX11_feedNumber_3 : decode cX11_feedNumber 3 = .ok (.iload_n 2, 1) := by decide +kernel
theorem dX11_feedNumber_4 : decode cX11_feedNumber 4 = .ok (.ifCond .lt 35, 3) := by decide +kernel
theorem dX11_feedNumber_7 : decode cX11_feedNumber 7 = .ok (.aload_n 0, 1) := by decide +kernel
theorem dX11_feedNumber_8 : decode cX11_feedNumber 8 = .ok (.getfield 9, 3) := by decide +kernel
theorem dX11_feedNumber_11 : decode cX11_feedNumber 11 = .ok (.aload_n 0, 1) := by decide +kernel
theorem dX11_feedNumber_12 : decode cX11_feedNumber 12 = .ok (.getfield 76, 3) := by decide +kernel
theorem dX11_feedNumber_15 : decode cX11_feedNumber 15 = .ok (.iload_n 1, 1) := by decide +kernel
theorem dX11_feedNumber_16 : decode cX11_feedNumber 16 = .ok (.iload_n 2, 1) := by decide +kernel
theorem dX11_feedNumber_17 : decode cX11_feedNumber 17 = .ok (.iushr, 1) := by decide +kernel
theorem dX11_feedNumber_18 : decode cX11_feedNumber 18 = .ok (.sipush 255, 3) := by decide +kernel
theorem dX11_feedNumber_21 : decode cX11_feedNumber 21 = .ok (.iand, 1) := by decide +kernel
theorem dX11_feedNumber_22 : decode cX11_feedNumber 22 = .ok (.iastore, 1) := by decide +kernel
theorem dX11_feedNumber_23 : decode cX11_feedNumber 23 = .ok (.aload_n 0, 1) := by decide +kernel
theorem dX11_feedNumber_24 : decode cX11_feedNumber 24 = .ok (.dup, 1) := by decide +kernel
theorem dX11_feedNumber_25 : decode cX11_feedNumber 25 = .ok (.getfield 76, 3) := by decide +kernel
theorem dX11_feedNumber_28 : decode cX11_feedNumber 28 = .ok (.iconst 1, 1) := by decide +kernel
theorem dX11_feedNumber_29 : decode cX11_feedNumber 29 = .ok (.iadd, 1) := by decide +kernel
theorem dX11_feedNumber_30 : decode cX11_feedNumber 30 = .ok (.putfield 76, 3) := by decide +kernel
theorem dX11_feedNumber_33 : decode cX11_feedNumber 33 = .ok (.iinc 2 (-8), 3) := by decide +kernel
theorem dX11_feedNumber_36 : decode cX11_feedNumber 36 = .ok (.goto (-33), 3) := by decide +kernel
theorem dX11_feedNumber_39 : decode cX11_feedNumber 39 = .ok (.return_, 1) := by decide +kernel
theorem dX11_hand_0 : decode cX11_hand 0 = .ok (.aload_n 0, 1) := by decide +kernel
theorem dX11_hand_1 : decode cX11_hand 1 = .ok (.getfield 19, 3) := by decide +kernel
theorem dX11_hand_4 : decode cX11_hand 4 = .ok (.getfield 246, 3) := by decide +kernel
theorem dX11_hand_7 : decode cX11_hand 7 = .ok (.ifCond .ne 6, 3) := by decide +kernel
theorem dX11_hand_10 : decode cX11_hand 10 = .ok (.ldc 165, 2) := by decide +kernel
theorem dX11_hand_12 : decode cX11_hand 12 = .ok (.ireturn, 1) := by decide +kernel
theorem dX11_hand_13 : decode cX11_hand 13 = .ok (.iload_n 1, 1) := by decide +kernel
theorem dX11_hand_14 : decode cX11_hand 14 = .ok (.tableswitch 86 0 5 #[38, 46, 54, 62, 70, 78], 38) := by decide +kernel
theorem dX11_hand_52 : decode cX11_hand 52 = .ok (.aload_n 0, 1) := by decide +kernel
theorem dX11_hand_53 : decode cX11_hand 53 = .ok (.getfield 19, 3) := by decide +kernel
theorem dX11_hand_56 : decode cX11_hand 56 = .ok (.getfield 256, 3) := by decide +kernel
theorem dX11_hand_59 : decode cX11_hand 59 = .ok (.ireturn, 1) := by decide +kernel
theorem dX11_hand_60 : decode cX11_hand 60 = .ok (.aload_n 0, 1) := by decide +kernel
theorem dX11_hand_61 : decode cX11_hand 61 = .ok (.getfield 19, 3) := by decide +kernel
theorem dX11_hand_64 : decode cX11_hand 64 = .ok (.getfield 230, 3) := by decide +kernel
theorem dX11_hand_67 : decode cX11_hand 67 = .ok (.ireturn, 1) := by decide +kernel
theorem dX11_hand_68 : decode cX11_hand 68 = .ok (.aload_n 0, 1) := by decide +kernel
theorem dX11_hand_69 : decode cX11_hand 69 = .ok (.getfield 19, 3) := by decide +kernel
theorem dX11_hand_72 : decode cX11_hand 72 = .ok (.getfield 259, 3) := by decide +kernel
theorem dX11_hand_75 : decode cX11_hand 75 = .ok (.ireturn, 1) := by decide +kernel
theorem dX11_hand_76 : decode cX11_hand 76 = .ok (.aload_n 0, 1) := by decide +kernel
theorem dX11_hand_77 : decode cX11_hand 77 = .ok (.getfield 19, 3) := by decide +kernel
theorem dX11_hand_80 : decode cX11_hand 80 = .ok (.getfield 233, 3) := by decide +kernel
theorem dX11_hand_83 : decode cX11_hand 83 = .ok (.ireturn, 1) := by decide +kernel
theorem dX11_hand_84 : decode cX11_hand 84 = .ok (.aload_n 0, 1) := by decide +kernel
theorem dX11_hand_85 : decode cX11_hand 85 = .ok (.getfield 19, 3) := by decide +kernel
theorem dX11_hand_88 : decode cX11_hand 88 = .ok (.getfield 245, 3) := by decide +kernel
theorem dX11_hand_91 : decode cX11_hand 91 = .ok (.ireturn, 1) := by decide +kernel
theorem dX11_hand_92 : decode cX11_hand 92 = .ok (.aload_n 0, 1) := by decide +kernel
theorem dX11_hand_93 : decode cX11_hand 93 = .ok (.getfield 19, 3) := by decide +kernel
theorem dX11_hand_96 : decode cX11_hand 96 = .ok (.getfield 262, 3) := by decide +kernel
theorem dX11_hand_99 : decode cX11_hand 99 = .ok (.ireturn, 1) := by decide +kernel
theorem dX11_hand_100 : decode cX11_hand 100 = .ok (.aload_n 0, 1) := by decide +kernel
theorem dX11_hand_101 : decode cX11_hand 101 = .ok (.iload_n 1, 1) := by decide +kernel
theorem dX11_hand_102 : decode cX11_hand 102 = .ok (.invokevirtual 265, 3) := by decide +kernel
theorem dX11_hand_105 : decode cX11_hand 105 = .ok (.ireturn, 1) := by decide +kernel
theorem dX11_heard_0 : decode cX11_heard 0 = .ok (.aload_n 0, 1) := by decide +kernel
theorem dX11_heard_1 : decode cX11_heard 1 = .ok (.iload_n 1, 1) := by decide +kernel
theorem dX11_heard_2 : decode cX11_heard 2 = .ok (.invokevirtual 119, 3) := by decide +kernel
theorem dX11_heard_5 : decode cX11_heard 5 = .ok (.ifCond .eq 26, 3) := by decide +kernel
theorem dX11_heard_8 : decode cX11_heard 8 = .ok (.iload_n 2, 1) := by decide +kernel
theorem dX11_heard_9 : decode cX11_heard 9 = .ok (.invokestatic 271, 3) := by decide +kernel
theorem dX11_heard_12 : decode cX11_heard 12 = .ok (.ifCond .eq 19, 3) := by decide +kernel
theorem dX11_heard_15 : decode cX11_heard 15 = .ok (.aload_n 0, 1) := by decide +kernel
theorem dX11_heard_16 : decode cX11_heard 16 = .ok (.iload_n 3, 1) := by decide +kernel
theorem dX11_heard_17 : decode cX11_heard 17 = .ok (.invokevirtual 182, 3) := by decide +kernel
theorem dX11_heard_20 : decode cX11_heard 20 = .ok (.ifCond .eq 11, 3) := by decide +kernel
theorem dX11_heard_23 : decode cX11_heard 23 = .ok (.iload 4, 2) := by decide +kernel
theorem dX11_heard_25 : decode cX11_heard 25 = .ok (.invokestatic 271, 3) := by decide +kernel
theorem dX11_heard_28 : decode cX11_heard 28 = .ok (.ifCond .ne 5, 3) := by decide +kernel
theorem dX11_heard_31 : decode cX11_heard 31 = .ok (.iconst (-1), 1) := by decide +kernel
theorem dX11_heard_32 : decode cX11_heard 32 = .ok (.ireturn, 1) := by decide +kernel
theorem dX11_heard_33 : decode cX11_heard 33 = .ok (.iload_n 2, 1) := by decide +kernel
theorem dX11_heard_34 : decode cX11_heard 34 = .ok (.iload_n 3, 1) := by decide +kernel
theorem dX11_heard_35 : decode cX11_heard 35 = .ok (.invokestatic 321, 3) := by decide +kernel
theorem dX11_heard_38 : decode cX11_heard 38 = .ok (.istore 5, 2) := by decide +kernel
theorem dX11_heard_40 : decode cX11_heard 40 = .ok (.iload 4, 2) := by decide +kernel
theorem dX11_heard_42 : decode cX11_heard 42 = .ok (.ifCond .ne 21, 3) := by decide +kernel
theorem dX11_heard_45 : decode cX11_heard 45 = .ok (.aload_n 0, 1) := by decide +kernel
theorem dX11_heard_46 : decode cX11_heard 46 = .ok (.getfield 26, 3) := by decide +kernel
theorem dX11_heard_49 : decode cX11_heard 49 = .ok (.getfield 122, 3) := by decide +kernel
theorem dX11_heard_52 : decode cX11_heard 52 = .ok (.iload_n 1, 1) := by decide +kernel
theorem dX11_heard_53 : decode cX11_heard 53 = .ok (.aaload, 1) := by decide +kernel
theorem dX11_heard_54 : decode cX11_heard 54 = .ok (.getfield 324, 3) := by decide +kernel
theorem dX11_heard_57 : decode cX11_heard 57 = .ok (.iload 5, 2) := by decide +kernel
theorem dX11_heard_59 : decode cX11_heard 59 = .ok (.aaload, 1) := by decide +kernel
theorem dX11_heard_60 : decode cX11_heard 60 = .ok (.goto 18, 3) := by decide +kernel
theorem dX11_heard_63 : decode cX11_heard 63 = .ok (.aload_n 0, 1) := by decide +kernel
theorem dX11_heard_64 : decode cX11_heard 64 = .ok (.getfield 26, 3) := by decide +kernel
theorem dX11_heard_67 : decode cX11_heard 67 = .ok (.getfield 122, 3) := by decide +kernel
theorem dX11_heard_70 : decode cX11_heard 70 = .ok (.iload_n 1, 1) := by decide +kernel
theorem dX11_heard_71 : decode cX11_heard 71 = .ok (.aaload, 1) := by decide +kernel
theorem dX11_heard_72 : decode cX11_heard 72 = .ok (.getfield 327, 3) := by decide +kernel
theorem dX11_heard_75 : decode cX11_heard 75 = .ok (.iload 5, 2) := by decide +kernel
theorem dX11_heard_77 : decode cX11_heard 77 = .ok (.aaload, 1) := by decide +kernel
theorem dX11_heard_78 : decode cX11_heard 78 = .ok (.astore 6, 2) := by decide +kernel
theorem dX11_heard_80 : decode cX11_heard 80 = .ok (.aload 6, 2) := by decide +kernel
theorem dX11_heard_82 : decode cX11_heard 82 = .ok (.getfield 246, 3) := by decide +kernel
theorem dX11_heard_85 : decode cX11_heard 85 = .ok (.ifCond .ne 6, 3) := by decide +kernel
theorem dX11_heard_88 : decode cX11_heard 88 = .ok (.ldc 165, 2) := by decide +kernel
theorem dX11_heard_90 : decode cX11_heard 90 = .ok (.ireturn, 1) := by decide +kernel
theorem dX11_heard_91 : decode cX11_heard 91 = .ok (.aload_n 0, 1) := by decide +kernel
theorem dX11_heard_92 : decode cX11_heard 92 = .ok (.getfield 19, 3) := by decide +kernel
theorem dX11_heard_95 : decode cX11_heard 95 = .ok (.aload 6, 2) := by decide +kernel
theorem dX11_heard_97 : decode cX11_heard 97 = .ok (.invokevirtual 317, 3) := by decide +kernel
theorem dX11_heard_100 : decode cX11_heard 100 = .ok (.aload 6, 2) := by decide +kernel
theorem dX11_heard_102 : decode cX11_heard 102 = .ok (.getfield 330, 3) := by decide +kernel
theorem dX11_heard_105 : decode cX11_heard 105 = .ok (.ireturn, 1) := by decide +kernel
theorem dX11_isDomain_0 : decode cX11_isDomain 0 = .ok (.iload_n 1, 1) := by decide +kernel
theorem dX11_isDomain_1 : decode cX11_isDomain 1 = .ok (.ifCond .lt 18, 3) := by decide +kernel
theorem dX11_isDomain_4 : decode cX11_isDomain 4 = .ok (.iload_n 1, 1) := by decide +kernel
theorem dX11_isDomain_5 : decode cX11_isDomain 5 = .ok (.aload_n 0, 1) := by decide +kernel
theorem dX11_isDomain_6 : decode cX11_isDomain 6 = .ok (.getfield 26, 3) := by decide +kernel
theorem dX11_isDomain_9 : decode cX11_isDomain 9 = .ok (.getfield 98, 3) := by decide +kernel
theorem dX11_isDomain_12 : decode cX11_isDomain 12 = .ok (.if_icmp .ge 7, 3) := by decide +kernel
theorem dX11_isDomain_15 : decode cX11_isDomain 15 = .ok (.iconst 1, 1) := by decide +kernel
theorem dX11_isDomain_16 : decode cX11_isDomain 16 = .ok (.goto 4, 3) := by decide +kernel
theorem dX11_isDomain_19 : decode cX11_isDomain 19 = .ok (.iconst 0, 1) := by decide +kernel
theorem dX11_isDomain_20 : decode cX11_isDomain 20 = .ok (.ireturn, 1) := by decide +kernel
theorem dX11_isEither_0 : decode cX11_isEither 0 = .ok (.iload_n 0, 1) := by decide +kernel
theorem dX11_isEither_1 : decode cX11_isEither 1 = .ok (.ifCond .eq 8, 3) := by decide +kernel
theorem dX11_isEither_4 : decode cX11_isEither 4 = .ok (.iload_n 0, 1) := by decide +kernel
theorem dX11_isEither_5 : decode cX11_isEither 5 = .ok (.iconst 1, 1) := by decide +kernel
theorem dX11_isEither_6 : decode cX11_isEither 6 = .ok (.if_icmp .ne 7, 3) := by decide +kernel
theorem dX11_isEither_9 : decode cX11_isEither 9 = .ok (.iconst 1, 1) := by decide +kernel
theorem dX11_isEither_10 : decode cX11_isEither 10 = .ok (.goto 4, 3) := by decide +kernel
theorem dX11_isEither_13 : decode cX11_isEither 13 = .ok (.iconst 0, 1) := by decide +kernel
theorem dX11_isEither_14 : decode cX11_isEither 14 = .ok (.ireturn, 1) := by decide +kernel
theorem dX11_isPrefix_0 : decode cX11_isPrefix 0 = .ok (.iload_n 1, 1) := by decide +kernel
theorem dX11_isPrefix_1 : decode cX11_isPrefix 1 = .ok (.ifCond .lt 18, 3) := by decide +kernel
theorem dX11_isPrefix_4 : decode cX11_isPrefix 4 = .ok (.iload_n 1, 1) := by decide +kernel
theorem dX11_isPrefix_5 : decode cX11_isPrefix 5 = .ok (.aload_n 0, 1) := by decide +kernel
theorem dX11_isPrefix_6 : decode cX11_isPrefix 6 = .ok (.getfield 26, 3) := by decide +kernel
theorem dX11_isPrefix_9 : decode cX11_isPrefix 9 = .ok (.getfield 92, 3) := by decide +kernel
theorem dX11_isPrefix_12 : decode cX11_isPrefix 12 = .ok (.if_icmp .ge 7, 3) := by decide +kernel
theorem dX11_isPrefix_15 : decode cX11_isPrefix 15 = .ok (.iconst 1, 1) := by decide +kernel
theorem dX11_isPrefix_16 : decode cX11_isPrefix 16 = .ok (.goto 4, 3) := by decide +kernel
theorem dX11_isPrefix_19 : decode cX11_isPrefix 19 = .ok (.iconst 0, 1) := by decide +kernel
theorem dX11_isPrefix_20 : decode cX11_isPrefix 20 = .ok (.ireturn, 1) := by decide +kernel
theorem dX11_isTie_0 : decode cX11_isTie 0 = .ok (.iload_n 1, 1) := by decide +kernel
theorem dX11_isTie_1 : decode cX11_isTie 1 = .ok (.ifCond .lt 18, 3) := by decide +kernel
theorem dX11_isTie_4 : decode cX11_isTie 4 = .ok (.iload_n 1, 1) := by decide +kernel
theorem dX11_isTie_5 : decode cX11_isTie 5 = .ok (.aload_n 0, 1) := by decide +kernel
theorem dX11_isTie_6 : decode cX11_isTie 6 = .ok (.getfield 26, 3) := by decide +kernel
theorem dX11_isTie_9 : decode cX11_isTie 9 = .ok (.getfield 112, 3) := by decide +kernel
theorem dX11_isTie_12 : decode cX11_isTie 12 = .ok (.if_icmp .ge 7, 3) := by decide +kernel
theorem dX11_isTie_15 : decode cX11_isTie 15 = .ok (.iconst 1, 1) := by decide +kernel
theorem dX11_isTie_16 : decode cX11_isTie 16 = .ok (.goto 4, 3) := by decide +kernel
theorem dX11_isTie_19 : decode cX11_isTie 19 = .ok (.iconst 0, 1) := by decide +kernel
theorem dX11_isTie_20 : decode cX11_isTie 20 = .ok (.ireturn, 1) := by decide +kernel
theorem dX11_led_0 : decode cX11_led 0 = .ok (.iload_n 1, 1) := by decide +kernel
theorem dX11_led_1 : decode cX11_led 1 = .ok (.ifCond .lt 14, 3) := by decide +kernel
theorem dX11_led_4 : decode cX11_led 4 = .ok (.iload_n 1, 1) := by decide +kernel
theorem dX11_led_5 : decode cX11_led 5 = .ok (.aload_n 0, 1) := by decide +kernel
theorem dX11_led_6 : decode cX11_led 6 = .ok (.getfield 65, 3) := by decide +kernel
theorem dX11_led_9 : decode cX11_led 9 = .ok (.getfield 367, 3) := by decide +kernel
theorem dX11_led_12 : decode cX11_led 12 = .ok (.if_icmp .lt 8, 3) := by decide +kernel
theorem dX11_led_15 : decode cX11_led 15 = .ok (.ldc 165, 2) := by decide +kernel
theorem dX11_led_17 : decode cX11_led 17 = .ok (.goto 12, 3) := by decide +kernel
theorem dX11_led_20 : decode cX11_led 20 = .ok (.aload_n 0, 1) := by decide +kernel
theorem dX11_led_21 : decode cX11_led 21 = .ok (.getfield 65, 3) := by decide +kernel
theorem dX11_led_24 : decode cX11_led 24 = .ok (.getfield 370, 3) := by decide +kernel
theorem dX11_led_27 : decode cX11_led 27 = .ok (.iload_n 1, 1) := by decide +kernel
theorem dX11_led_28 : decode cX11_led 28 = .ok (.iaload, 1) := by decide +kernel
theorem dX11_led_29 : decode cX11_led 29 = .ok (.ireturn, 1) := by decide +kernel
theorem dX11_letWay_0 : decode cX11_letWay 0 = .ok (.aload_n 0, 1) := by decide +kernel
theorem dX11_letWay_1 : decode cX11_letWay 1 = .ok (.getfield 26, 3) := by decide +kernel
theorem dX11_letWay_4 : decode cX11_letWay 4 = .ok (.aload_n 0, 1) := by decide +kernel
theorem dX11_letWay_5 : decode cX11_letWay 5 = .ok (.getfield 13, 3) := by decide +kernel
theorem dX11_letWay_8 : decode cX11_letWay 8 = .ok (.aload_n 0, 1) := by decide +kernel
theorem dX11_letWay_9 : decode cX11_letWay 9 = .ok (.getfield 169, 3) := by decide +kernel
theorem dX11_letWay_12 : decode cX11_letWay 12 = .ok (.invokevirtual 172, 3) := by decide +kernel
theorem dX11_letWay_15 : decode cX11_letWay 15 = .ok (.iconst 1, 1) := by decide +kernel
theorem dX11_letWay_16 : decode cX11_letWay 16 = .ok (.iadd, 1) := by decide +kernel
theorem dX11_letWay_17 : decode cX11_letWay 17 = .ok (.ireturn, 1) := by decide +kernel
theorem dX11_octet_0 : decode cX11_octet 0 = .ok (.iload_n 1, 1) := by decide +kernel
theorem dX11_octet_1 : decode cX11_octet 1 = .ok (.ifCond .lt 14, 3) := by decide +kernel
theorem dX11_octet_4 : decode cX11_octet 4 = .ok (.iload_n 1, 1) := by decide +kernel
theorem dX11_octet_5 : decode cX11_octet 5 = .ok (.aload_n 0, 1) := by decide +kernel
theorem dX11_octet_6 : decode cX11_octet 6 = .ok (.getfield 58, 3) := by decide +kernel
theorem dX11_octet_9 : decode cX11_octet 9 = .ok (.getfield 358, 3) := by decide +kernel
theorem dX11_octet_12 : decode cX11_octet 12 = .ok (.if_icmp .lt 8, 3) := by decide +kernel
theorem dX11_octet_15 : decode cX11_octet 15 = .ok (.ldc 165, 2) := by decide +kernel
theorem dX11_octet_17 : decode cX11_octet 17 = .ok (.goto 12, 3) := by decide +kernel
theorem dX11_octet_20 : decode cX11_octet 20 = .ok (.aload_n 0, 1) := by decide +kernel
theorem dX11_octet_21 : decode cX11_octet 21 = .ok (.getfield 58, 3) := by decide +kernel
theorem dX11_octet_24 : decode cX11_octet 24 = .ok (.getfield 361, 3) := by decide +kernel
theorem dX11_octet_27 : decode cX11_octet 27 = .ok (.iload_n 1, 1) := by decide +kernel
theorem dX11_octet_28 : decode cX11_octet 28 = .ok (.iaload, 1) := by decide +kernel
theorem dX11_octet_29 : decode cX11_octet 29 = .ok (.ireturn, 1) := by decide +kernel
theorem dX11_pace_0 : decode cX11_pace 0 = .ok (.aload_n 0, 1) := by decide +kernel
theorem dX11_pace_1 : decode cX11_pace 1 = .ok (.iload_n 1, 1) := by decide +kernel
theorem dX11_pace_2 : decode cX11_pace 2 = .ok (.invokevirtual 119, 3) := by decide +kernel
theorem dX11_pace_5 : decode cX11_pace 5 = .ok (.ifCond .eq 26, 3) := by decide +kernel
theorem dX11_pace_8 : decode cX11_pace 8 = .ok (.iload_n 2, 1) := by decide +kernel
theorem dX11_pace_9 : decode cX11_pace 9 = .ok (.iconst 1, 1) := by decide +kernel
theorem dX11_pace_10 : decode cX11_pace 10 = .ok (.if_icmp .lt 21, 3) := by decide +kernel
theorem dX11_pace_13 : decode cX11_pace 13 = .ok (.iload_n 2, 1) := by decide +kernel
theorem dX11_pace_14 : decode cX11_pace 14 = .ok (.sipush 1000, 3) := by decide +kernel
theorem dX11_pace_17 : decode cX11_pace 17 = .ok (.if_icmp .gt 14, 3) := by decide +kernel
theorem dX11_pace_20 : decode cX11_pace 20 = .ok (.iload_n 3, 1) := by decide +kernel
theorem dX11_pace_21 : decode cX11_pace 21 = .ok (.ifCond .lt 10, 3) := by decide +kernel
theorem dX11_pace_24 : decode cX11_pace 24 = .ok (.iload_n 3, 1) := by decide +kernel
theorem dX11_pace_25 : decode cX11_pace 25 = .ok (.sipush 1000, 3) := by decide +kernel
theorem dX11_pace_28 : decode cX11_pace 28 = .ok (.if_icmp .le 5, 3) := by decide +kernel
theorem dX11_pace_31 : decode cX11_pace 31 = .ok (.iconst (-1), 1) := by decide +kernel
theorem dX11_pace_32 : decode cX11_pace 32 = .ok (.ireturn, 1) := by decide +kernel
theorem dX11_pace_33 : decode cX11_pace 33 = .ok (.aload_n 0, 1) := by decide +kernel
theorem dX11_pace_34 : decode cX11_pace 34 = .ok (.getfield 26, 3) := by decide +kernel
theorem dX11_pace_37 : decode cX11_pace 37 = .ok (.getfield 122, 3) := by decide +kernel
theorem dX11_pace_40 : decode cX11_pace 40 = .ok (.iload_n 1, 1) := by decide +kernel
theorem dX11_pace_41 : decode cX11_pace 41 = .ok (.aaload, 1) := by decide +kernel
theorem dX11_pace_42 : decode cX11_pace 42 = .ok (.iload_n 2, 1) := by decide +kernel
theorem dX11_pace_43 : decode cX11_pace 43 = .ok (.putfield 126, 3) := by decide +kernel
theorem dX11_pace_46 : decode cX11_pace 46 = .ok (.aload_n 0, 1) := by decide +kernel
theorem dX11_pace_47 : decode cX11_pace 47 = .ok (.getfield 26, 3) := by decide +kernel
theorem dX11_pace_50 : decode cX11_pace 50 = .ok (.getfield 122, 3) := by decide +kernel
theorem dX11_pace_53 : decode cX11_pace 53 = .ok (.iload_n 1, 1) := by decide +kernel
theorem dX11_pace_54 : decode cX11_pace 54 = .ok (.aaload, 1) := by decide +kernel
theorem dX11_pace_55 : decode cX11_pace 55 = .ok (.iload_n 3, 1) := by decide +kernel
theorem dX11_pace_56 : decode cX11_pace 56 = .ok (.putfield 131, 3) := by decide +kernel
theorem dX11_pace_59 : decode cX11_pace 59 = .ok (.iconst 0, 1) := by decide +kernel
theorem dX11_pace_60 : decode cX11_pace 60 = .ok (.ireturn, 1) := by decide +kernel
theorem dX11_part_0 : decode cX11_part 0 = .ok (.aload_n 0, 1) := by decide +kernel
theorem dX11_part_1 : decode cX11_part 1 = .ok (.getfield 58, 3) := by decide +kernel
theorem dX11_part_4 : decode cX11_part 4 = .ok (.iload_n 1, 1) := by decide +kernel
theorem dX11_part_5 : decode cX11_part 5 = .ok (.invokevirtual 341, 3) := by decide +kernel
theorem dX11_part_8 : decode cX11_part 8 = .ok (.ireturn, 1) := by decide +kernel
theorem dX11_picked_0 : decode cX11_picked 0 = .ok (.aload_n 0, 1) := by decide +kernel
theorem dX11_picked_1 : decode cX11_picked 1 = .ok (.iload_n 1, 1) := by decide +kernel
theorem dX11_picked_2 : decode cX11_picked 2 = .ok (.invokevirtual 105, 3) := by decide +kernel
theorem dX11_picked_5 : decode cX11_picked 5 = .ok (.ifCond .eq 11, 3) := by decide +kernel
theorem dX11_picked_8 : decode cX11_picked 8 = .ok (.aload_n 0, 1) := by decide +kernel
theorem dX11_picked_9 : decode cX11_picked 9 = .ok (.iload_n 2, 1) := by decide +kernel
theorem dX11_picked_10 : decode cX11_picked 10 = .ok (.invokevirtual 182, 3) := by decide +kernel
theorem dX11_picked_13 : decode cX11_picked 13 = .ok (.ifCond .ne 5, 3) := by decide +kernel
theorem dX11_picked_16 : decode cX11_picked 16 = .ok (.iconst (-1), 1) := by decide +kernel
theorem dX11_picked_17 : decode cX11_picked 17 = .ok (.ireturn, 1) := by decide +kernel
theorem dX11_picked_18 : decode cX11_picked 18 = .ok (.aload_n 0, 1) := by decide +kernel
theorem dX11_picked_19 : decode cX11_picked 19 = .ok (.getfield 26, 3) := by decide +kernel
theorem dX11_picked_22 : decode cX11_picked 22 = .ok (.getfield 283, 3) := by decide +kernel
theorem dX11_picked_25 : decode cX11_picked 25 = .ok (.iload_n 1, 1) := by decide +kernel
theorem dX11_picked_26 : decode cX11_picked 26 = .ok (.aaload, 1) := by decide +kernel
theorem dX11_picked_27 : decode cX11_picked 27 = .ok (.astore_n 3, 1) := by decide +kernel
theorem dX11_picked_28 : decode cX11_picked 28 = .ok (.aload_n 3, 1) := by decide +kernel
theorem dX11_picked_29 : decode cX11_picked 29 = .ok (.getfield 310, 3) := by decide +kernel
theorem dX11_picked_32 : decode cX11_picked 32 = .ok (.iload_n 2, 1) := by decide +kernel
theorem dX11_picked_33 : decode cX11_picked 33 = .ok (.iaload, 1) := by decide +kernel
theorem dX11_picked_34 : decode cX11_picked 34 = .ok (.ldc 165, 2) := by decide +kernel
theorem dX11_picked_36 : decode cX11_picked 36 = .ok (.if_icmp .eq 16, 3) := by decide +kernel
theorem dX11_picked_39 : decode cX11_picked 39 = .ok (.aload_n 0, 1) := by decide +kernel
theorem dX11_picked_40 : decode cX11_picked 40 = .ok (.getfield 19, 3) := by decide +kernel
theorem dX11_picked_43 : decode cX11_picked 43 = .ok (.aload_n 3, 1) := by decide +kernel
theorem dX11_picked_44 : decode cX11_picked 44 = .ok (.getfield 313, 3) := by decide +kernel
theorem dX11_picked_47 : decode cX11_picked 47 = .ok (.iload_n 2, 1) := by decide +kernel
theorem dX11_picked_48 : decode cX11_picked 48 = .ok (.aaload, 1) := by decide +kernel
theorem dX11_picked_49 : decode cX11_picked 49 = .ok (.invokevirtual 317, 3) := by decide +kernel
theorem dX11_picked_52 : decode cX11_picked 52 = .ok (.aload_n 3, 1) := by decide +kernel
theorem dX11_picked_53 : decode cX11_picked 53 = .ok (.getfield 310, 3) := by decide +kernel
theorem dX11_picked_56 : decode cX11_picked 56 = .ok (.iload_n 2, 1) := by decide +kernel
theorem dX11_picked_57 : decode cX11_picked 57 = .ok (.iaload, 1) := by decide +kernel
theorem dX11_picked_58 : decode cX11_picked 58 = .ok (.ireturn, 1) := by decide +kernel
theorem dX11_prefix_0 : decode cX11_prefix 0 = .ok (.iload_n 2, 1) := by decide +kernel
theorem dX11_prefix_1 : decode cX11_prefix 1 = .ok (.ifCond .lt 20, 3) := by decide +kernel
theorem dX11_prefix_4 : decode cX11_prefix 4 = .ok (.iload_n 2, 1) := by decide +kernel
theorem dX11_prefix_5 : decode cX11_prefix 5 = .ok (.bipush 32, 2) := by decide +kernel
theorem dX11_prefix_7 : decode cX11_prefix 7 = .ok (.if_icmp .gt 14, 3) := by decide +kernel
theorem dX11_prefix_10 : decode cX11_prefix 10 = .ok (.iload_n 1, 1) := by decide +kernel
theorem dX11_prefix_11 : decode cX11_prefix 11 = .ok (.iload_n 2, 1) := by decide +kernel
theorem dX11_prefix_12 : decode cX11_prefix 12 = .ok (.invokestatic 84, 3) := by decide +kernel
theorem dX11_prefix_15 : decode cX11_prefix 15 = .ok (.iconst (-1), 1) := by decide +kernel
theorem dX11_prefix_16 : decode cX11_prefix 16 = .ok (.ixor, 1) := by decide +kernel
theorem dX11_prefix_17 : decode cX11_prefix 17 = .ok (.iand, 1) := by decide +kernel
theorem dX11_prefix_18 : decode cX11_prefix 18 = .ok (.ifCond .eq 5, 3) := by decide +kernel
theorem dX11_prefix_21 : decode cX11_prefix 21 = .ok (.iconst (-1), 1) := by decide +kernel
theorem dX11_prefix_22 : decode cX11_prefix 22 = .ok (.ireturn, 1) := by decide +kernel
theorem dX11_prefix_23 : decode cX11_prefix 23 = .ok (.aload_n 0, 1) := by decide +kernel
theorem dX11_prefix_24 : decode cX11_prefix 24 = .ok (.getfield 26, 3) := by decide +kernel
theorem dX11_prefix_27 : decode cX11_prefix 27 = .ok (.iload_n 1, 1) := by decide +kernel
theorem dX11_prefix_28 : decode cX11_prefix 28 = .ok (.iload_n 2, 1) := by decide +kernel
theorem dX11_prefix_29 : decode cX11_prefix 29 = .ok (.invokevirtual 88, 3) := by decide +kernel
theorem dX11_prefix_32 : decode cX11_prefix 32 = .ok (.ifCond .lt 6, 3) := by decide +kernel
theorem dX11_prefix_35 : decode cX11_prefix 35 = .ok (.bipush (-2), 2) := by decide +kernel
theorem dX11_prefix_37 : decode cX11_prefix 37 = .ok (.ireturn, 1) := by decide +kernel
theorem dX11_prefix_38 : decode cX11_prefix 38 = .ok (.aload_n 0, 1) := by decide +kernel
theorem dX11_prefix_39 : decode cX11_prefix 39 = .ok (.getfield 26, 3) := by decide +kernel
theorem dX11_prefix_42 : decode cX11_prefix 42 = .ok (.getfield 92, 3) := by decide +kernel
theorem dX11_prefix_45 : decode cX11_prefix 45 = .ok (.bipush 10, 2) := by decide +kernel
theorem dX11_prefix_47 : decode cX11_prefix 47 = .ok (.if_icmp .lt 6, 3) := by decide +kernel
theorem dX11_prefix_50 : decode cX11_prefix 50 = .ok (.bipush (-3), 2) := by decide +kernel
theorem dX11_prefix_52 : decode cX11_prefix 52 = .ok (.ireturn, 1) := by decide +kernel
theorem dX11_prefix_53 : decode cX11_prefix 53 = .ok (.aload_n 0, 1) := by decide +kernel
theorem dX11_prefix_54 : decode cX11_prefix 54 = .ok (.getfield 26, 3) := by decide +kernel
theorem dX11_prefix_57 : decode cX11_prefix 57 = .ok (.iload_n 1, 1) := by decide +kernel
theorem dX11_prefix_58 : decode cX11_prefix 58 = .ok (.iload_n 2, 1) := by decide +kernel
theorem dX11_prefix_59 : decode cX11_prefix 59 = .ok (.invokevirtual 95, 3) := by decide +kernel
theorem dX11_prefix_62 : decode cX11_prefix 62 = .ok (.ireturn, 1) := by decide +kernel
theorem dX11_ring_0 : decode cX11_ring 0 = .ok (.aload_n 0, 1) := by decide +kernel
theorem dX11_ring_1 : decode cX11_ring 1 = .ok (.getfield 26, 3) := by decide +kernel
theorem dX11_ring_4 : decode cX11_ring 4 = .ok (.invokevirtual 162, 3) := by decide +kernel
theorem dX11_ring_7 : decode cX11_ring 7 = .ok (.istore_n 2, 1) := by decide +kernel
theorem dX11_ring_8 : decode cX11_ring 8 = .ok (.iload_n 1, 1) := by decide +kernel
theorem dX11_ring_9 : decode cX11_ring 9 = .ok (.ifCond .lt 8, 3) := by decide +kernel
theorem dX11_ring_12 : decode cX11_ring 12 = .ok (.iload_n 1, 1) := by decide +kernel
theorem dX11_ring_13 : decode cX11_ring 13 = .ok (.iload_n 2, 1) := by decide +kernel
theorem dX11_ring_14 : decode cX11_ring 14 = .ok (.if_icmp .lt 8, 3) := by decide +kernel
theorem dX11_ring_17 : decode cX11_ring 17 = .ok (.ldc 165, 2) := by decide +kernel
theorem dX11_ring_19 : decode cX11_ring 19 = .ok (.goto 12, 3) := by decide +kernel
theorem dX11_ring_22 : decode cX11_ring 22 = .ok (.aload_n 0, 1) := by decide +kernel
theorem dX11_ring_23 : decode cX11_ring 23 = .ok (.getfield 26, 3) := by decide +kernel
theorem dX11_ring_26 : decode cX11_ring 26 = .ok (.getfield 166, 3) := by decide +kernel
theorem dX11_ring_29 : decode cX11_ring 29 = .ok (.iload_n 1, 1) := by decide +kernel
theorem dX11_ring_30 : decode cX11_ring 30 = .ok (.iaload, 1) := by decide +kernel
theorem dX11_ring_31 : decode cX11_ring 31 = .ok (.ireturn, 1) := by decide +kernel
theorem dX11_route_0 : decode cX11_route 0 = .ok (.aload_n 0, 1) := by decide +kernel
theorem dX11_route_1 : decode cX11_route 1 = .ok (.iload_n 1, 1) := by decide +kernel
theorem dX11_route_2 : decode cX11_route 2 = .ok (.invokevirtual 182, 3) := by decide +kernel
theorem dX11_route_5 : decode cX11_route 5 = .ok (.ifCond .eq 14, 3) := by decide +kernel
theorem dX11_route_8 : decode cX11_route 8 = .ok (.iload_n 2, 1) := by decide +kernel
theorem dX11_route_9 : decode cX11_route 9 = .ok (.ifCond .lt 10, 3) := by decide +kernel
theorem dX11_route_12 : decode cX11_route 12 = .ok (.iload_n 2, 1) := by decide +kernel
theorem dX11_route_13 : decode cX11_route 13 = .ok (.sipush 1000, 3) := by decide +kernel
theorem dX11_route_16 : decode cX11_route 16 = .ok (.if_icmp .le 5, 3) := by decide +kernel
theorem dX11_route_19 : decode cX11_route 19 = .ok (.iconst (-1), 1) := by decide +kernel
theorem dX11_route_20 : decode cX11_route 20 = .ok (.ireturn, 1) := by decide +kernel
theorem dX11_route_21 : decode cX11_route 21 = .ok (.iload_n 3, 1) := by decide +kernel
theorem dX11_route_22 : decode cX11_route 22 = .ok (.ifCond .lt 20, 3) := by decide +kernel
theorem dX11_route_25 : decode cX11_route 25 = .ok (.iload_n 3, 1) := by decide +kernel
theorem dX11_route_26 : decode cX11_route 26 = .ok (.iconst 2, 1) := by decide +kernel
theorem dX11_route_27 : decode cX11_route 27 = .ok (.if_icmp .gt 15, 3) := by decide +kernel
theorem dX11_route_30 : decode cX11_route 30 = .ok (.iload 4, 2) := by decide +kernel
theorem dX11_route_32 : decode cX11_route 32 = .ok (.ifCond .lt 10, 3) := by decide +kernel
theorem dX11_route_35 : decode cX11_route 35 = .ok (.iload 4, 2) := by decide +kernel
theorem dX11_route_37 : decode cX11_route 37 = .ok (.ldc 226, 2) := by decide +kernel
theorem dX11_route_39 : decode cX11_route 39 = .ok (.if_icmp .le 5, 3) := by decide +kernel
theorem dX11_route_42 : decode cX11_route 42 = .ok (.iconst (-1), 1) := by decide +kernel
theorem dX11_route_43 : decode cX11_route 43 = .ok (.ireturn, 1) := by decide +kernel
theorem dX11_route_44 : decode cX11_route 44 = .ok (.aload_n 0, 1) := by decide +kernel
theorem dX11_route_45 : decode cX11_route 45 = .ok (.getfield 19, 3) := by decide +kernel
theorem dX11_route_48 : decode cX11_route 48 = .ok (.iload_n 1, 1) := by decide +kernel
theorem dX11_route_49 : decode cX11_route 49 = .ok (.iload_n 3, 1) := by decide +kernel
theorem dX11_route_50 : decode cX11_route 50 = .ok (.invokevirtual 227, 3) := by decide +kernel
theorem dX11_route_53 : decode cX11_route 53 = .ok (.aload_n 0, 1) := by decide +kernel
theorem dX11_route_54 : decode cX11_route 54 = .ok (.getfield 19, 3) := by decide +kernel
theorem dX11_route_57 : decode cX11_route 57 = .ok (.iload_n 2, 1) := by decide +kernel
theorem dX11_route_58 : decode cX11_route 58 = .ok (.putfield 230, 3) := by decide +kernel
theorem dX11_route_61 : decode cX11_route 61 = .ok (.aload_n 0, 1) := by decide +kernel
theorem dX11_route_62 : decode cX11_route 62 = .ok (.getfield 19, 3) := by decide +kernel
theorem dX11_route_65 : decode cX11_route 65 = .ok (.iload 4, 2) := by decide +kernel
theorem dX11_route_67 : decode cX11_route 67 = .ok (.putfield 233, 3) := by decide +kernel
theorem dX11_route_70 : decode cX11_route 70 = .ok (.aload_n 0, 1) := by decide +kernel
theorem dX11_route_71 : decode cX11_route 71 = .ok (.getfield 13, 3) := by decide +kernel
theorem dX11_route_74 : decode cX11_route 74 = .ok (.iconst 0, 1) := by decide +kernel
theorem dX11_route_75 : decode cX11_route 75 = .ok (.aload_n 0, 1) := by decide +kernel
theorem dX11_route_76 : decode cX11_route 76 = .ok (.getfield 19, 3) := by decide +kernel
theorem dX11_route_79 : decode cX11_route 79 = .ok (.getfield 236, 3) := by decide +kernel
theorem dX11_route_82 : decode cX11_route 82 = .ok (.iconst 0, 1) := by decide +kernel
theorem dX11_route_83 : decode cX11_route 83 = .ok (.aload_n 0, 1) := by decide +kernel
theorem dX11_route_84 : decode cX11_route 84 = .ok (.getfield 169, 3) := by decide +kernel
theorem dX11_route_87 : decode cX11_route 87 = .ok (.invokestatic 239, 3) := by decide +kernel
theorem dX11_route_90 : decode cX11_route 90 = .ok (.aload_n 0, 1) := by decide +kernel
theorem dX11_route_91 : decode cX11_route 91 = .ok (.getfield 19, 3) := by decide +kernel
theorem dX11_route_94 : decode cX11_route 94 = .ok (.aload_n 0, 1) := by decide +kernel
theorem dX11_route_95 : decode cX11_route 95 = .ok (.getfield 169, 3) := by decide +kernel
theorem dX11_route_98 : decode cX11_route 98 = .ok (.putfield 245, 3) := by decide +kernel
theorem dX11_route_101 : decode cX11_route 101 = .ok (.iconst 0, 1) := by decide +kernel
theorem dX11_route_102 : decode cX11_route 102 = .ok (.ireturn, 1) := by decide +kernel
theorem dX11_rowInHand_0 : decode cX11_rowInHand 0 = .ok (.iload_n 1, 1) := by decide +kernel
theorem dX11_rowInHand_1 : decode cX11_rowInHand 1 = .ok (.bipush 10, 2) := by decide +kernel
theorem dX11_rowInHand_3 : decode cX11_rowInHand 3 = .ok (.if_icmp .lt 30, 3) := by decide +kernel
theorem dX11_rowInHand_6 : decode cX11_rowInHand 6 = .ok (.iload_n 1, 1) := by decide +kernel
theorem dX11_rowInHand_7 : decode cX11_rowInHand 7 = .ok (.bipush 10, 2) := by decide +kernel
theorem dX11_rowInHand_9 : decode cX11_rowInHand 9 = .ok (.aload_n 0, 1) := by decide +kernel
theorem dX11_rowInHand_10 : decode cX11_rowInHand 10 = .ok (.getfield 19, 3) := by decide +kernel
theorem dX11_rowInHand_13 : decode cX11_rowInHand 13 = .ok (.getfield 245, 3) := by decide +kernel
theorem dX11_rowInHand_16 : decode cX11_rowInHand 16 = .ok (.iadd, 1) := by decide +kernel
theorem dX11_rowInHand_17 : decode cX11_rowInHand 17 = .ok (.if_icmp .ge 16, 3) := by decide +kernel
theorem dX11_rowInHand_20 : decode cX11_rowInHand 20 = .ok (.aload_n 0, 1) := by decide +kernel
theorem dX11_rowInHand_21 : decode cX11_rowInHand 21 = .ok (.getfield 19, 3) := by decide +kernel
theorem dX11_rowInHand_24 : decode cX11_rowInHand 24 = .ok (.getfield 236, 3) := by decide +kernel
theorem dX11_rowInHand_27 : decode cX11_rowInHand 27 = .ok (.iload_n 1, 1) := by decide +kernel
theorem dX11_rowInHand_28 : decode cX11_rowInHand 28 = .ok (.bipush 10, 2) := by decide +kernel
theorem dX11_rowInHand_30 : decode cX11_rowInHand 30 = .ok (.isub, 1) := by decide +kernel
theorem dX11_rowInHand_31 : decode cX11_rowInHand 31 = .ok (.iaload, 1) := by decide +kernel
theorem dX11_rowInHand_32 : decode cX11_rowInHand 32 = .ok (.ireturn, 1) := by decide +kernel
theorem dX11_rowInHand_33 : decode cX11_rowInHand 33 = .ok (.iload_n 1, 1) := by decide +kernel
theorem dX11_rowInHand_34 : decode cX11_rowInHand 34 = .ok (.bipush 100, 2) := by decide +kernel
theorem dX11_rowInHand_36 : decode cX11_rowInHand 36 = .ok (.if_icmp .lt 30, 3) := by decide +kernel
theorem dX11_rowInHand_39 : decode cX11_rowInHand 39 = .ok (.iload_n 1, 1) := by decide +kernel
theorem dX11_rowInHand_40 : decode cX11_rowInHand 40 = .ok (.bipush 100, 2) := by decide +kernel
theorem dX11_rowInHand_42 : decode cX11_rowInHand 42 = .ok (.aload_n 0, 1) := by decide +kernel
theorem dX11_rowInHand_43 : decode cX11_rowInHand 43 = .ok (.getfield 19, 3) := by decide +kernel
theorem dX11_rowInHand_46 : decode cX11_rowInHand 46 = .ok (.getfield 262, 3) := by decide +kernel
theorem dX11_rowInHand_49 : decode cX11_rowInHand 49 = .ok (.iadd, 1) := by decide +kernel
theorem dX11_rowInHand_50 : decode cX11_rowInHand 50 = .ok (.if_icmp .ge 16, 3) := by decide +kernel
theorem dX11_rowInHand_53 : decode cX11_rowInHand 53 = .ok (.aload_n 0, 1) := by decide +kernel
theorem dX11_rowInHand_54 : decode cX11_rowInHand 54 = .ok (.getfield 19, 3) := by decide +kernel
theorem dX11_rowInHand_57 : decode cX11_rowInHand 57 = .ok (.getfield 268, 3) := by decide +kernel
theorem dX11_rowInHand_60 : decode cX11_rowInHand 60 = .ok (.iload_n 1, 1) := by decide +kernel
theorem dX11_rowInHand_61 : decode cX11_rowInHand 61 = .ok (.bipush 100, 2) := by decide +kernel
theorem dX11_rowInHand_63 : decode cX11_rowInHand 63 = .ok (.isub, 1) := by decide +kernel
theorem dX11_rowInHand_64 : decode cX11_rowInHand 64 = .ok (.iaload, 1) := by decide +kernel
theorem dX11_rowInHand_65 : decode cX11_rowInHand 65 = .ok (.ireturn, 1) := by decide +kernel
theorem dX11_rowInHand_66 : decode cX11_rowInHand 66 = .ok (.ldc 165, 2) := by decide +kernel
theorem dX11_rowInHand_68 : decode cX11_rowInHand 68 = .ok (.ireturn, 1) := by decide +kernel
theorem dX11_verdict_0 : decode cX11_verdict 0 = .ok (.aload_n 0, 1) := by decide +kernel
theorem dX11_verdict_1 : decode cX11_verdict 1 = .ok (.iload_n 1, 1) := by decide +kernel
theorem dX11_verdict_2 : decode cX11_verdict 2 = .ok (.invokevirtual 182, 3) := by decide +kernel
theorem dX11_verdict_5 : decode cX11_verdict 5 = .ok (.ifCond .eq 12, 3) := by decide +kernel
theorem dX11_verdict_8 : decode cX11_verdict 8 = .ok (.iload_n 3, 1) := by decide +kernel
theorem dX11_verdict_9 : decode cX11_verdict 9 = .ok (.ifCond .lt 8, 3) := by decide +kernel
theorem dX11_verdict_12 : decode cX11_verdict 12 = .ok (.iload 4, 2) := by decide +kernel
theorem dX11_verdict_14 : decode cX11_verdict 14 = .ok (.ifCond .ge 5, 3) := by decide +kernel
theorem dX11_verdict_17 : decode cX11_verdict 17 = .ok (.iconst (-1), 1) := by decide +kernel
theorem dX11_verdict_18 : decode cX11_verdict 18 = .ok (.ireturn, 1) := by decide +kernel
theorem dX11_verdict_19 : decode cX11_verdict 19 = .ok (.aload_n 0, 1) := by decide +kernel
theorem dX11_verdict_20 : decode cX11_verdict 20 = .ok (.getfield 26, 3) := by decide +kernel
theorem dX11_verdict_23 : decode cX11_verdict 23 = .ok (.iload_n 1, 1) := by decide +kernel
theorem dX11_verdict_24 : decode cX11_verdict 24 = .ok (.iload_n 2, 1) := by decide +kernel
theorem dX11_verdict_25 : decode cX11_verdict 25 = .ok (.iload_n 3, 1) := by decide +kernel
theorem dX11_verdict_26 : decode cX11_verdict 26 = .ok (.iload 4, 2) := by decide +kernel
theorem dX11_verdict_28 : decode cX11_verdict 28 = .ok (.invokevirtual 201, 3) := by decide +kernel
theorem dX11_verdict_31 : decode cX11_verdict 31 = .ok (.ireturn, 1) := by decide +kernel
theorem dX11_walk_0 : decode cX11_walk 0 = .ok (.iload_n 1, 1) := by decide +kernel
theorem dX11_walk_1 : decode cX11_walk 1 = .ok (.iconst (-1), 1) := by decide +kernel
theorem dX11_walk_2 : decode cX11_walk 2 = .ok (.if_icmp .lt 9, 3) := by decide +kernel
theorem dX11_walk_5 : decode cX11_walk 5 = .ok (.iload_n 1, 1) := by decide +kernel
theorem dX11_walk_6 : decode cX11_walk 6 = .ok (.bipush 10, 2) := by decide +kernel
theorem dX11_walk_8 : decode cX11_walk 8 = .ok (.if_icmp .lt 5, 3) := by decide +kernel
theorem dX11_walk_11 : decode cX11_walk 11 = .ok (.iconst (-1), 1) := by decide +kernel
theorem dX11_walk_12 : decode cX11_walk 12 = .ok (.ireturn, 1) := by decide +kernel
theorem dX11_walk_13 : decode cX11_walk 13 = .ok (.iload_n 1, 1) := by decide +kernel
theorem dX11_walk_14 : decode cX11_walk 14 = .ok (.iconst (-1), 1) := by decide +kernel
theorem dX11_walk_15 : decode cX11_walk 15 = .ok (.if_icmp .ne 10, 3) := by decide +kernel
theorem dX11_walk_18 : decode cX11_walk 18 = .ok (.aload_n 0, 1) := by decide +kernel
theorem dX11_walk_19 : decode cX11_walk 19 = .ok (.iconst 0, 1) := by decide +kernel
theorem dX11_walk_20 : decode cX11_walk 20 = .ok (.putfield 169, 3) := by decide +kernel
theorem dX11_walk_23 : decode cX11_walk 23 = .ok (.iconst 0, 1) := by decide +kernel
theorem dX11_walk_24 : decode cX11_walk 24 = .ok (.ireturn, 1) := by decide +kernel
theorem dX11_walk_25 : decode cX11_walk 25 = .ok (.aload_n 0, 1) := by decide +kernel
theorem dX11_walk_26 : decode cX11_walk 26 = .ok (.getfield 169, 3) := by decide +kernel
theorem dX11_walk_29 : decode cX11_walk 29 = .ok (.bipush 20, 2) := by decide +kernel
theorem dX11_walk_31 : decode cX11_walk 31 = .ok (.if_icmp .lt 6, 3) := by decide +kernel
theorem dX11_walk_34 : decode cX11_walk 34 = .ok (.bipush (-3), 2) := by decide +kernel
theorem dX11_walk_36 : decode cX11_walk 36 = .ok (.ireturn, 1) := by decide +kernel
theorem dX11_walk_37 : decode cX11_walk 37 = .ok (.aload_n 0, 1) := by decide +kernel
theorem dX11_walk_38 : decode cX11_walk 38 = .ok (.getfield 13, 3) := by decide +kernel
theorem dX11_walk_41 : decode cX11_walk 41 = .ok (.aload_n 0, 1) := by decide +kernel
theorem dX11_walk_42 : decode cX11_walk 42 = .ok (.getfield 169, 3) := by decide +kernel
theorem dX11_walk_45 : decode cX11_walk 45 = .ok (.iload_n 1, 1) := by decide +kernel
theorem dX11_walk_46 : decode cX11_walk 46 = .ok (.iastore, 1) := by decide +kernel
theorem dX11_walk_47 : decode cX11_walk 47 = .ok (.aload_n 0, 1) := by decide +kernel
theorem dX11_walk_48 : decode cX11_walk 48 = .ok (.dup, 1) := by decide +kernel
theorem dX11_walk_49 : decode cX11_walk 49 = .ok (.getfield 169, 3) := by decide +kernel
theorem dX11_walk_52 : decode cX11_walk 52 = .ok (.iconst 1, 1) := by decide +kernel
theorem dX11_walk_53 : decode cX11_walk 53 = .ok (.iadd, 1) := by decide +kernel
theorem dX11_walk_54 : decode cX11_walk 54 = .ok (.putfield 169, 3) := by decide +kernel
theorem dX11_walk_57 : decode cX11_walk 57 = .ok (.aload_n 0, 1) := by decide +kernel
theorem dX11_walk_58 : decode cX11_walk 58 = .ok (.getfield 169, 3) := by decide +kernel
theorem dX11_walk_61 : decode cX11_walk 61 = .ok (.ireturn, 1) := by decide +kernel
theorem dX11_write_0 : decode cX11_write 0 = .ok (.aload_n 0, 1) := by decide +kernel
theorem dX11_write_1 : decode cX11_write 1 = .ok (.iload_n 1, 1) := by decide +kernel
theorem dX11_write_2 : decode cX11_write 2 = .ok (.invokevirtual 119, 3) := by decide +kernel
theorem dX11_write_5 : decode cX11_write 5 = .ok (.ifCond .eq 18, 3) := by decide +kernel
theorem dX11_write_8 : decode cX11_write 8 = .ok (.iload_n 2, 1) := by decide +kernel
theorem dX11_write_9 : decode cX11_write 9 = .ok (.invokestatic 271, 3) := by decide +kernel
theorem dX11_write_12 : decode cX11_write 12 = .ok (.ifCond .eq 11, 3) := by decide +kernel
theorem dX11_write_15 : decode cX11_write 15 = .ok (.aload_n 0, 1) := by decide +kernel
theorem dX11_write_16 : decode cX11_write 16 = .ok (.iload_n 3, 1) := by decide +kernel
theorem dX11_write_17 : decode cX11_write 17 = .ok (.invokevirtual 182, 3) := by decide +kernel
theorem dX11_write_20 : decode cX11_write 20 = .ok (.ifCond .ne 5, 3) := by decide +kernel
theorem dX11_write_23 : decode cX11_write 23 = .ok (.iconst (-1), 1) := by decide +kernel
theorem dX11_write_24 : decode cX11_write 24 = .ok (.ireturn, 1) := by decide +kernel
theorem dX11_write_25 : decode cX11_write 25 = .ok (.aload_n 0, 1) := by decide +kernel
theorem dX11_write_26 : decode cX11_write 26 = .ok (.getfield 26, 3) := by decide +kernel
theorem dX11_write_29 : decode cX11_write 29 = .ok (.getfield 122, 3) := by decide +kernel
theorem dX11_write_32 : decode cX11_write 32 = .ok (.iload_n 1, 1) := by decide +kernel
theorem dX11_write_33 : decode cX11_write 33 = .ok (.aaload, 1) := by decide +kernel
theorem dX11_write_34 : decode cX11_write 34 = .ok (.getfield 327, 3) := by decide +kernel
theorem dX11_write_37 : decode cX11_write 37 = .ok (.iload_n 2, 1) := by decide +kernel
theorem dX11_write_38 : decode cX11_write 38 = .ok (.iload_n 3, 1) := by decide +kernel
theorem dX11_write_39 : decode cX11_write 39 = .ok (.invokestatic 321, 3) := by decide +kernel
theorem dX11_write_42 : decode cX11_write 42 = .ok (.aaload, 1) := by decide +kernel
theorem dX11_write_43 : decode cX11_write 43 = .ok (.astore 4, 2) := by decide +kernel
theorem dX11_write_45 : decode cX11_write 45 = .ok (.aload_n 0, 1) := by decide +kernel
theorem dX11_write_46 : decode cX11_write 46 = .ok (.getfield 58, 3) := by decide +kernel
theorem dX11_write_49 : decode cX11_write 49 = .ok (.aload 4, 2) := by decide +kernel
theorem dX11_write_51 : decode cX11_write 51 = .ok (.aload_n 0, 1) := by decide +kernel
theorem dX11_write_52 : decode cX11_write 52 = .ok (.getfield 26, 3) := by decide +kernel
theorem dX11_write_55 : decode cX11_write 55 = .ok (.getfield 351, 3) := by decide +kernel
theorem dX11_write_58 : decode cX11_write 58 = .ok (.iload_n 3, 1) := by decide +kernel
theorem dX11_write_59 : decode cX11_write 59 = .ok (.iaload, 1) := by decide +kernel
theorem dX11_write_60 : decode cX11_write 60 = .ok (.aload_n 0, 1) := by decide +kernel
theorem dX11_write_61 : decode cX11_write 61 = .ok (.getfield 26, 3) := by decide +kernel
theorem dX11_write_64 : decode cX11_write 64 = .ok (.getfield 185, 3) := by decide +kernel
theorem dX11_write_67 : decode cX11_write 67 = .ok (.iload_n 3, 1) := by decide +kernel
theorem dX11_write_68 : decode cX11_write 68 = .ok (.iaload, 1) := by decide +kernel
theorem dX11_write_69 : decode cX11_write 69 = .ok (.invokevirtual 354, 3) := by decide +kernel
theorem dX11_write_72 : decode cX11_write 72 = .ok (.ireturn, 1) := by decide +kernel
theorem dX2_addDemand_0 : decode cX2_addDemand 0 = .ok (.aload_n 0, 1) := by decide +kernel
theorem dX2_addDemand_1 : decode cX2_addDemand 1 = .ok (.getfield 22, 3) := by decide +kernel
theorem dX2_addDemand_4 : decode cX2_addDemand 4 = .ok (.aload_n 0, 1) := by decide +kernel
theorem dX2_addDemand_5 : decode cX2_addDemand 5 = .ok (.getfield 95, 3) := by decide +kernel
theorem dX2_addDemand_8 : decode cX2_addDemand 8 = .ok (.iload_n 1, 1) := by decide +kernel
theorem dX2_addDemand_9 : decode cX2_addDemand 9 = .ok (.iastore, 1) := by decide +kernel
theorem dX2_addDemand_10 : decode cX2_addDemand 10 = .ok (.aload_n 0, 1) := by decide +kernel
theorem dX2_addDemand_11 : decode cX2_addDemand 11 = .ok (.getfield 25, 3) := by decide +kernel
theorem dX2_addDemand_14 : decode cX2_addDemand 14 = .ok (.aload_n 0, 1) := by decide +kernel
theorem dX2_addDemand_15 : decode cX2_addDemand 15 = .ok (.getfield 95, 3) := by decide +kernel
theorem dX2_addDemand_18 : decode cX2_addDemand 18 = .ok (.iload_n 2, 1) := by decide +kernel
theorem dX2_addDemand_19 : decode cX2_addDemand 19 = .ok (.iastore, 1) := by decide +kernel
theorem dX2_addDemand_20 : decode cX2_addDemand 20 = .ok (.aload_n 0, 1) := by decide +kernel
theorem dX2_addDemand_21 : decode cX2_addDemand 21 = .ok (.getfield 28, 3) := by decide +kernel
theorem dX2_addDemand_24 : decode cX2_addDemand 24 = .ok (.aload_n 0, 1) := by decide +kernel
theorem dX2_addDemand_25 : decode cX2_addDemand 25 = .ok (.getfield 95, 3) := by decide +kernel
theorem dX2_addDemand_28 : decode cX2_addDemand 28 = .ok (.iload_n 3, 1) := by decide +kernel
theorem dX2_addDemand_29 : decode cX2_addDemand 29 = .ok (.iastore, 1) := by decide +kernel
theorem dX2_addDemand_30 : decode cX2_addDemand 30 = .ok (.aload_n 0, 1) := by decide +kernel
theorem dX2_addDemand_31 : decode cX2_addDemand 31 = .ok (.dup, 1) := by decide +kernel
theorem dX2_addDemand_32 : decode cX2_addDemand 32 = .ok (.getfield 95, 3) := by decide +kernel
theorem dX2_addDemand_35 : decode cX2_addDemand 35 = .ok (.iconst 1, 1) := by decide +kernel
theorem dX2_addDemand_36 : decode cX2_addDemand 36 = .ok (.iadd, 1) := by decide +kernel
theorem dX2_addDemand_37 : decode cX2_addDemand 37 = .ok (.putfield 95, 3) := by decide +kernel
theorem dX2_addDemand_40 : decode cX2_addDemand 40 = .ok (.aload_n 0, 1) := by decide +kernel
theorem dX2_addDemand_41 : decode cX2_addDemand 41 = .ok (.getfield 95, 3) := by decide +kernel
theorem dX2_addDemand_44 : decode cX2_addDemand 44 = .ok (.iconst 1, 1) := by decide +kernel
theorem dX2_addDemand_45 : decode cX2_addDemand 45 = .ok (.isub, 1) := by decide +kernel
theorem dX2_addDemand_46 : decode cX2_addDemand 46 = .ok (.ireturn, 1) := by decide +kernel
theorem dX2_aimBit_0 : decode cX2_aimBit 0 = .ok (.iload_n 0, 1) := by decide +kernel
theorem dX2_aimBit_1 : decode cX2_aimBit 1 = .ok (.bipush (-4), 2) := by decide +kernel
theorem dX2_aimBit_3 : decode cX2_aimBit 3 = .ok (.if_icmp .ne 6, 3) := by decide +kernel
theorem dX2_aimBit_6 : decode cX2_aimBit 6 = .ok (.ldc 116, 2) := by decide +kernel
theorem dX2_aimBit_8 : decode cX2_aimBit 8 = .ok (.ireturn, 1) := by decide +kernel
theorem dX2_aimBit_9 : decode cX2_aimBit 9 = .ok (.iload_n 0, 1) := by decide +kernel
theorem dX2_aimBit_10 : decode cX2_aimBit 10 = .ok (.ifCond .ge 8, 3) := by decide +kernel
theorem dX2_aimBit_13 : decode cX2_aimBit 13 = .ok (.ldc 105, 2) := by decide +kernel
theorem dX2_aimBit_15 : decode cX2_aimBit 15 = .ok (.goto 6, 3) := by decide +kernel
theorem dX2_aimBit_18 : decode cX2_aimBit 18 = .ok (.iconst 1, 1) := by decide +kernel
theorem dX2_aimBit_19 : decode cX2_aimBit 19 = .ok (.iload_n 0, 1) := by decide +kernel
theorem dX2_aimBit_20 : decode cX2_aimBit 20 = .ok (.ishl, 1) := by decide +kernel
theorem dX2_aimBit_21 : decode cX2_aimBit 21 = .ok (.ireturn, 1) := by decide +kernel
theorem dX2_insertBorder_0 : decode cX2_insertBorder 0 = .ok (.iload_n 3, 1) := by decide +kernel
theorem dX2_insertBorder_1 : decode cX2_insertBorder 1 = .ok (.istore 4, 2) := by decide +kernel
theorem dX2_insertBorder_3 : decode cX2_insertBorder 3 = .ok (.iload 4, 2) := by decide +kernel
theorem dX2_insertBorder_5 : decode cX2_insertBorder 5 = .ok (.ifCond .le 39, 3) := by decide +kernel
theorem dX2_insertBorder_8 : decode cX2_insertBorder 8 = .ok (.aload_n 0, 1) := by decide +kernel
theorem dX2_insertBorder_9 : decode cX2_insertBorder 9 = .ok (.getfield 31, 3) := by decide +kernel
theorem dX2_insertBorder_12 : decode cX2_insertBorder 12 = .ok (.iload 4, 2) := by decide +kernel
theorem dX2_insertBorder_14 : decode cX2_insertBorder 14 = .ok (.iconst 1, 1) := by decide +kernel
theorem dX2_insertBorder_15 : decode cX2_insertBorder 15 = .ok (.isub, 1) := by decide +kernel
theorem dX2_insertBorder_16 : decode cX2_insertBorder 16 = .ok (.laload, 1) := by decide +kernel
theorem dX2_insertBorder_17 : decode cX2_insertBorder 17 = .ok (.lload_n 1, 1) := by decide +kernel
theorem dX2_insertBorder_18 : decode cX2_insertBorder 18 = .ok (.lcmp, 1) := by decide +kernel
theorem dX2_insertBorder_19 : decode cX2_insertBorder 19 = .ok (.ifCond .le 25, 3) := by decide +kernel
theorem dX2_insertBorder_22 : decode cX2_insertBorder 22 = .ok (.aload_n 0, 1) := by decide +kernel
theorem dX2_insertBorder_23 : decode cX2_insertBorder 23 = .ok (.getfield 31, 3) := by decide +kernel
theorem dX2_insertBorder_26 : decode cX2_insertBorder 26 = .ok (.iload 4, 2) := by decide +kernel
theorem dX2_insertBorder_28 : decode cX2_insertBorder 28 = .ok (.aload_n 0, 1) := by decide +kernel
theorem dX2_insertBorder_29 : decode cX2_insertBorder 29 = .ok (.getfield 31, 3) := by decide +kernel
theorem dX2_insertBorder_32 : decode cX2_insertBorder 32 = .ok (.iload 4, 2) := by decide +kernel
theorem dX2_insertBorder_34 : decode cX2_insertBorder 34 = .ok (.iconst 1, 1) := by decide +kernel
theorem dX2_insertBorder_35 : decode cX2_insertBorder 35 = .ok (.isub, 1) := by decide +kernel
theorem dX2_insertBorder_36 : decode cX2_insertBorder 36 = .ok (.laload, 1) := by decide +kernel
theorem dX2_insertBorder_37 : decode cX2_insertBorder 37 = .ok (.lastore, 1) := by decide +kernel
theorem dX2_insertBorder_38 : decode cX2_insertBorder 38 = .ok (.iinc 4 (-1), 3) := by decide +kernel
theorem dX2_insertBorder_41 : decode cX2_insertBorder 41 = .ok (.goto (-38), 3) := by decide +kernel
theorem dX2_insertBorder_44 : decode cX2_insertBorder 44 = .ok (.aload_n 0, 1) := by decide +kernel
theorem dX2_insertBorder_45 : decode cX2_insertBorder 45 = .ok (.getfield 31, 3) := by decide +kernel
theorem dX2_insertBorder_48 : decode cX2_insertBorder 48 = .ok (.iload 4, 2) := by decide +kernel
theorem dX2_insertBorder_50 : decode cX2_insertBorder 50 = .ok (.lload_n 1, 1) := by decide +kernel
theorem dX2_insertBorder_51 : decode cX2_insertBorder 51 = .ok (.lastore, 1) := by decide +kernel
theorem dX2_insertBorder_52 : decode cX2_insertBorder 52 = .ok (.return_, 1) := by decide +kernel
theorem dX2_isSplit_0 : decode cX2_isSplit 0 = .ok (.iload_n 3, 1) := by decide +kernel
theorem dX2_isSplit_1 : decode cX2_isSplit 1 = .ok (.invokestatic 113, 3) := by decide +kernel
theorem dX2_isSplit_4 : decode cX2_isSplit 4 = .ok (.istore 4, 2) := by decide +kernel
theorem dX2_isSplit_6 : decode cX2_isSplit 6 = .ok (.iconst 0, 1) := by decide +kernel
theorem dX2_isSplit_7 : decode cX2_isSplit 7 = .ok (.istore 5, 2) := by decide +kernel
theorem dX2_isSplit_9 : decode cX2_isSplit 9 = .ok (.iload 5, 2) := by decide +kernel
theorem dX2_isSplit_11 : decode cX2_isSplit 11 = .ok (.aload_n 0, 1) := by decide +kernel
theorem dX2_isSplit_12 : decode cX2_isSplit 12 = .ok (.getfield 9, 3) := by decide +kernel
theorem dX2_isSplit_15 : decode cX2_isSplit 15 = .ok (.getfield 42, 3) := by decide +kernel
theorem dX2_isSplit_18 : decode cX2_isSplit 18 = .ok (.if_icmp .ge 74, 3) := by decide +kernel
theorem dX2_isSplit_21 : decode cX2_isSplit 21 = .ok (.aload_n 0, 1) := by decide +kernel
theorem dX2_isSplit_22 : decode cX2_isSplit 22 = .ok (.getfield 9, 3) := by decide +kernel
theorem dX2_isSplit_25 : decode cX2_isSplit 25 = .ok (.getfield 57, 3) := by decide +kernel
theorem dX2_isSplit_28 : decode cX2_isSplit 28 = .ok (.iload 5, 2) := by decide +kernel
theorem dX2_isSplit_30 : decode cX2_isSplit 30 = .ok (.iaload, 1) := by decide +kernel
theorem dX2_isSplit_31 : decode cX2_isSplit 31 = .ok (.iload_n 3, 1) := by decide +kernel
theorem dX2_isSplit_32 : decode cX2_isSplit 32 = .ok (.if_icmp .le 24, 3) := by decide +kernel
theorem dX2_isSplit_35 : decode cX2_isSplit 35 = .ok (.aload_n 0, 1) := by decide +kernel
theorem dX2_isSplit_36 : decode cX2_isSplit 36 = .ok (.getfield 9, 3) := by decide +kernel
theorem dX2_isSplit_39 : decode cX2_isSplit 39 = .ok (.getfield 49, 3) := by decide +kernel
theorem dX2_isSplit_42 : decode cX2_isSplit 42 = .ok (.iload 5, 2) := by decide +kernel
theorem dX2_isSplit_44 : decode cX2_isSplit 44 = .ok (.iaload, 1) := by decide +kernel
theorem dX2_isSplit_45 : decode cX2_isSplit 45 = .ok (.iload 4, 2) := by decide +kernel
theorem dX2_isSplit_47 : decode cX2_isSplit 47 = .ok (.iand, 1) := by decide +kernel
theorem dX2_isSplit_48 : decode cX2_isSplit 48 = .ok (.iload_n 2, 1) := by decide +kernel
theorem dX2_isSplit_49 : decode cX2_isSplit 49 = .ok (.if_icmp .ne 7, 3) := by decide +kernel
theorem dX2_isSplit_52 : decode cX2_isSplit 52 = .ok (.iconst 1, 1) := by decide +kernel
theorem dX2_isSplit_53 : decode cX2_isSplit 53 = .ok (.goto 4, 3) := by decide +kernel
theorem dX2_isSplit_56 : decode cX2_isSplit 56 = .ok (.iconst 0, 1) := by decide +kernel
theorem dX2_isSplit_57 : decode cX2_isSplit 57 = .ok (.istore 6, 2) := by decide +kernel
theorem dX2_isSplit_59 : decode cX2_isSplit 59 = .ok (.iload 6, 2) := by decide +kernel
theorem dX2_isSplit_61 : decode cX2_isSplit 61 = .ok (.ifCond .eq 25, 3) := by decide +kernel
theorem dX2_isSplit_64 : decode cX2_isSplit 64 = .ok (.aload_n 0, 1) := by decide +kernel
theorem dX2_isSplit_65 : decode cX2_isSplit 65 = .ok (.getfield 9, 3) := by decide +kernel
theorem dX2_isSplit_68 : decode cX2_isSplit 68 = .ok (.getfield 35, 3) := by decide +kernel
theorem dX2_isSplit_71 : decode cX2_isSplit 71 = .ok (.iload_n 1, 1) := by decide +kernel
theorem dX2_isSplit_72 : decode cX2_isSplit 72 = .ok (.aaload, 1) := by decide +kernel
theorem dX2_isSplit_73 : decode cX2_isSplit 73 = .ok (.getfield 52, 3) := by decide +kernel
theorem dX2_isSplit_76 : decode cX2_isSplit 76 = .ok (.iload 5, 2) := by decide +kernel
theorem dX2_isSplit_78 : decode cX2_isSplit 78 = .ok (.iaload, 1) := by decide +kernel
theorem dX2_isSplit_79 : decode cX2_isSplit 79 = .ok (.ldc 41, 2) := by decide +kernel
theorem dX2_isSplit_81 : decode cX2_isSplit 81 = .ok (.if_icmp .eq 5, 3) := by decide +kernel
theorem dX2_isSplit_84 : decode cX2_isSplit 84 = .ok (.iconst 1, 1) := by decide +kernel
theorem dX2_isSplit_85 : decode cX2_isSplit 85 = .ok (.ireturn, 1) := by decide +kernel
theorem dX2_isSplit_86 : decode cX2_isSplit 86 = .ok (.iinc 5 1, 3) := by decide +kernel
theorem dX2_isSplit_89 : decode cX2_isSplit 89 = .ok (.goto (-80), 3) := by decide +kernel
theorem dX2_isSplit_92 : decode cX2_isSplit 92 = .ok (.iconst 0, 1) := by decide +kernel
theorem dX2_isSplit_93 : decode cX2_isSplit 93 = .ok (.ireturn, 1) := by decide +kernel
theorem dX2_layBorders_0 : decode cX2_layBorders 0 = .ok (.iconst 0, 1) := by decide +kernel
theorem dX2_layBorders_1 : decode cX2_layBorders 1 = .ok (.istore_n 1, 1) := by decide +kernel
theorem dX2_layBorders_2 : decode cX2_layBorders 2 = .ok (.iconst 0, 1) := by decide +kernel
theorem dX2_layBorders_3 : decode cX2_layBorders 3 = .ok (.istore_n 2, 1) := by decide +kernel
theorem dX2_layBorders_4 : decode cX2_layBorders 4 = .ok (.iload_n 2, 1) := by decide +kernel
theorem dX2_layBorders_5 : decode cX2_layBorders 5 = .ok (.aload_n 0, 1) := by decide +kernel
theorem dX2_layBorders_6 : decode cX2_layBorders 6 = .ok (.getfield 9, 3) := by decide +kernel
theorem dX2_layBorders_9 : decode cX2_layBorders 9 = .ok (.getfield 42, 3) := by decide +kernel
theorem dX2_layBorders_12 : decode cX2_layBorders 12 = .ok (.if_icmp .ge 56, 3) := by decide +kernel
theorem dX2_layBorders_15 : decode cX2_layBorders 15 = .ok (.aload_n 0, 1) := by decide +kernel
theorem dX2_layBorders_16 : decode cX2_layBorders 16 = .ok (.getfield 9, 3) := by decide +kernel
theorem dX2_layBorders_19 : decode cX2_layBorders 19 = .ok (.getfield 49, 3) := by decide +kernel
theorem dX2_layBorders_22 : decode cX2_layBorders 22 = .ok (.iload_n 2, 1) := by decide +kernel
theorem dX2_layBorders_23 : decode cX2_layBorders 23 = .ok (.iaload, 1) := by decide +kernel
theorem dX2_layBorders_24 : decode cX2_layBorders 24 = .ok (.i2l, 1) := by decide +kernel
theorem dX2_layBorders_25 : decode cX2_layBorders 25 = .ok (.ldc2_w 121, 3) := by decide +kernel
theorem dX2_layBorders_28 : decode cX2_layBorders 28 = .ok (.land, 1) := by decide +kernel
theorem dX2_layBorders_29 : decode cX2_layBorders 29 = .ok (.lstore_n 3, 1) := by decide +kernel
theorem dX2_layBorders_30 : decode cX2_layBorders 30 = .ok (.aload_n 0, 1) := by decide +kernel
theorem dX2_layBorders_31 : decode cX2_layBorders 31 = .ok (.lload_n 3, 1) := by decide +kernel
theorem dX2_layBorders_32 : decode cX2_layBorders 32 = .ok (.iload_n 1, 1) := by decide +kernel
theorem dX2_layBorders_33 : decode cX2_layBorders 33 = .ok (.invokevirtual 123, 3) := by decide +kernel
theorem dX2_layBorders_36 : decode cX2_layBorders 36 = .ok (.aload_n 0, 1) := by decide +kernel
theorem dX2_layBorders_37 : decode cX2_layBorders 37 = .ok (.lload_n 3, 1) := by decide +kernel
theorem dX2_layBorders_38 : decode cX2_layBorders 38 = .ok (.lconst 1, 1) := by decide +kernel
theorem dX2_layBorders_39 : decode cX2_layBorders 39 = .ok (.bipush 32, 2) := by decide +kernel
theorem dX2_layBorders_41 : decode cX2_layBorders 41 = .ok (.aload_n 0, 1) := by decide +kernel
theorem dX2_layBorders_42 : decode cX2_layBorders 42 = .ok (.getfield 9, 3) := by decide +kernel
theorem dX2_layBorders_45 : decode cX2_layBorders 45 = .ok (.getfield 57, 3) := by decide +kernel
theorem dX2_layBorders_48 : decode cX2_layBorders 48 = .ok (.iload_n 2, 1) := by decide +kernel
theorem dX2_layBorders_49 : decode cX2_layBorders 49 = .ok (.iaload, 1) := by decide +kernel
theorem dX2_layBorders_50 : decode cX2_layBorders 50 = .ok (.isub, 1) := by decide +kernel
theorem dX2_layBorders_51 : decode cX2_layBorders 51 = .ok (.lshl, 1) := by decide +kernel
theorem dX2_layBorders_52 : decode cX2_layBorders 52 = .ok (.ladd, 1) := by decide +kernel
theorem dX2_layBorders_53 : decode cX2_layBorders 53 = .ok (.iload_n 1, 1) := by decide +kernel
theorem dX2_layBorders_54 : decode cX2_layBorders 54 = .ok (.iconst 1, 1) := by decide +kernel
theorem dX2_layBorders_55 : decode cX2_layBorders 55 = .ok (.iadd, 1) := by decide +kernel
theorem dX2_layBorders_56 : decode cX2_layBorders 56 = .ok (.invokevirtual 123, 3) := by decide +kernel
theorem dX2_layBorders_59 : decode cX2_layBorders 59 = .ok (.iinc 1 2, 3) := by decide +kernel
theorem dX2_layBorders_62 : decode cX2_layBorders 62 = .ok (.iinc 2 1, 3) := by decide +kernel
theorem dX2_layBorders_65 : decode cX2_layBorders 65 = .ok (.goto (-61), 3) := by decide +kernel
theorem dX2_layBorders_68 : decode cX2_layBorders 68 = .ok (.iload_n 1, 1) := by decide +kernel
theorem dX2_layBorders_69 : decode cX2_layBorders 69 = .ok (.ireturn, 1) := by decide +kernel
theorem dX2_tieFor_0 : decode cX2_tieFor 0 = .ok (.aload_n 0, 1) := by decide +kernel
theorem dX2_tieFor_1 : decode cX2_tieFor 1 = .ok (.getfield 9, 3) := by decide +kernel
theorem dX2_tieFor_4 : decode cX2_tieFor 4 = .ok (.getfield 35, 3) := by decide +kernel
theorem dX2_tieFor_7 : decode cX2_tieFor 7 = .ok (.iload_n 1, 1) := by decide +kernel
theorem dX2_tieFor_8 : decode cX2_tieFor 8 = .ok (.aaload, 1) := by decide +kernel
theorem dX2_tieFor_9 : decode cX2_tieFor 9 = .ok (.astore_n 3, 1) := by decide +kernel
theorem dX2_tieFor_10 : decode cX2_tieFor 10 = .ok (.iconst (-1), 1) := by decide +kernel
theorem dX2_tieFor_11 : decode cX2_tieFor 11 = .ok (.istore 4, 2) := by decide +kernel
theorem dX2_tieFor_13 : decode cX2_tieFor 13 = .ok (.ldc 41, 2) := by decide +kernel
theorem dX2_tieFor_15 : decode cX2_tieFor 15 = .ok (.istore 5, 2) := by decide +kernel
theorem dX2_tieFor_17 : decode cX2_tieFor 17 = .ok (.iconst 0, 1) := by decide +kernel
theorem dX2_tieFor_18 : decode cX2_tieFor 18 = .ok (.istore 6, 2) := by decide +kernel
theorem dX2_tieFor_20 : decode cX2_tieFor 20 = .ok (.iload 6, 2) := by decide +kernel
theorem dX2_tieFor_22 : decode cX2_tieFor 22 = .ok (.aload_n 0, 1) := by decide +kernel
theorem dX2_tieFor_23 : decode cX2_tieFor 23 = .ok (.getfield 9, 3) := by decide +kernel
theorem dX2_tieFor_26 : decode cX2_tieFor 26 = .ok (.getfield 42, 3) := by decide +kernel
theorem dX2_tieFor_29 : decode cX2_tieFor 29 = .ok (.if_icmp .ge 94, 3) := by decide +kernel
theorem dX2_tieFor_32 : decode cX2_tieFor 32 = .ok (.iload_n 2, 1) := by decide +kernel
theorem dX2_tieFor_33 : decode cX2_tieFor 33 = .ok (.aload_n 0, 1) := by decide +kernel
theorem dX2_tieFor_34 : decode cX2_tieFor 34 = .ok (.getfield 9, 3) := by decide +kernel
theorem dX2_tieFor_37 : decode cX2_tieFor 37 = .ok (.getfield 46, 3) := by decide +kernel
theorem dX2_tieFor_40 : decode cX2_tieFor 40 = .ok (.iload 6, 2) := by decide +kernel
theorem dX2_tieFor_42 : decode cX2_tieFor 42 = .ok (.iaload, 1) := by decide +kernel
theorem dX2_tieFor_43 : decode cX2_tieFor 43 = .ok (.iand, 1) := by decide +kernel
theorem dX2_tieFor_44 : decode cX2_tieFor 44 = .ok (.aload_n 0, 1) := by decide +kernel
theorem dX2_tieFor_45 : decode cX2_tieFor 45 = .ok (.getfield 9, 3) := by decide +kernel
theorem dX2_tieFor_48 : decode cX2_tieFor 48 = .ok (.getfield 49, 3) := by decide +kernel
theorem dX2_tieFor_51 : decode cX2_tieFor 51 = .ok (.iload 6, 2) := by decide +kernel
theorem dX2_tieFor_53 : decode cX2_tieFor 53 = .ok (.iaload, 1) := by decide +kernel
theorem dX2_tieFor_54 : decode cX2_tieFor 54 = .ok (.if_icmp .ne 7, 3) := by decide +kernel
theorem dX2_tieFor_57 : decode cX2_tieFor 57 = .ok (.iconst 1, 1) := by decide +kernel
theorem dX2_tieFor_58 : decode cX2_tieFor 58 = .ok (.goto 4, 3) := by decide +kernel
theorem dX2_tieFor_61 : decode cX2_tieFor 61 = .ok (.iconst 0, 1) := by decide +kernel
theorem dX2_tieFor_62 : decode cX2_tieFor 62 = .ok (.istore 7, 2) := by decide +kernel
theorem dX2_tieFor_64 : decode cX2_tieFor 64 = .ok (.iload 7, 2) := by decide +kernel
theorem dX2_tieFor_66 : decode cX2_tieFor 66 = .ok (.ifCond .eq 51, 3) := by decide +kernel
theorem dX2_tieFor_69 : decode cX2_tieFor 69 = .ok (.aload_n 3, 1) := by decide +kernel
theorem dX2_tieFor_70 : decode cX2_tieFor 70 = .ok (.getfield 52, 3) := by decide +kernel
theorem dX2_tieFor_73 : decode cX2_tieFor 73 = .ok (.iload 6, 2) := by decide +kernel
theorem dX2_tieFor_75 : decode cX2_tieFor 75 = .ok (.iaload, 1) := by decide +kernel
theorem dX2_tieFor_76 : decode cX2_tieFor 76 = .ok (.ldc 41, 2) := by decide +kernel
theorem dX2_tieFor_78 : decode cX2_tieFor 78 = .ok (.if_icmp .eq 39, 3) := by decide +kernel
theorem dX2_tieFor_81 : decode cX2_tieFor 81 = .ok (.aload_n 0, 1) := by decide +kernel
theorem dX2_tieFor_82 : decode cX2_tieFor 82 = .ok (.getfield 9, 3) := by decide +kernel
theorem dX2_tieFor_85 : decode cX2_tieFor 85 = .ok (.getfield 57, 3) := by decide +kernel
theorem dX2_tieFor_88 : decode cX2_tieFor 88 = .ok (.iload 6, 2) := by decide +kernel
theorem dX2_tieFor_90 : decode cX2_tieFor 90 = .ok (.iaload, 1) := by decide +kernel
theorem dX2_tieFor_91 : decode cX2_tieFor 91 = .ok (.iload 4, 2) := by decide +kernel
theorem dX2_tieFor_93 : decode cX2_tieFor 93 = .ok (.if_icmp .le 24, 3) := by decide +kernel
theorem dX2_tieFor_96 : decode cX2_tieFor 96 = .ok (.aload_n 0, 1) := by decide +kernel
theorem dX2_tieFor_97 : decode cX2_tieFor 97 = .ok (.getfield 9, 3) := by decide +kernel
theorem dX2_tieFor_100 : decode cX2_tieFor 100 = .ok (.getfield 57, 3) := by decide +kernel
theorem dX2_tieFor_103 : decode cX2_tieFor 103 = .ok (.iload 6, 2) := by decide +kernel
theorem dX2_tieFor_105 : decode cX2_tieFor 105 = .ok (.iaload, 1) := by decide +kernel
theorem dX2_tieFor_106 : decode cX2_tieFor 106 = .ok (.istore 4, 2) := by decide +kernel
theorem dX2_tieFor_108 : decode cX2_tieFor 108 = .ok (.aload_n 3, 1) := by decide +kernel
theorem dX2_tieFor_109 : decode cX2_tieFor 109 = .ok (.getfield 52, 3) := by decide +kernel
theorem dX2_tieFor_112 : decode cX2_tieFor 112 = .ok (.iload 6, 2) := by decide +kernel
theorem dX2_tieFor_114 : decode cX2_tieFor 114 = .ok (.iaload, 1) := by decide +kernel
theorem dX2_tieFor_115 : decode cX2_tieFor 115 = .ok (.istore 5, 2) := by decide +kernel
theorem dX2_tieFor_117 : decode cX2_tieFor 117 = .ok (.iinc 6 1, 3) := by decide +kernel
theorem dX2_tieFor_120 : decode cX2_tieFor 120 = .ok (.goto (-100), 3) := by decide +kernel
theorem dX2_tieFor_123 : decode cX2_tieFor 123 = .ok (.iload 5, 2) := by decide +kernel
theorem dX2_tieFor_125 : decode cX2_tieFor 125 = .ok (.ireturn, 1) := by decide +kernel
theorem dX3_forget_0 : decode cX3_forget 0 = .ok (.aload_n 0, 1) := by decide +kernel
theorem dX3_forget_1 : decode cX3_forget 1 = .ok (.getfield 22, 3) := by decide +kernel
theorem dX3_forget_4 : decode cX3_forget 4 = .ok (.ldc 21, 2) := by decide +kernel
theorem dX3_forget_6 : decode cX3_forget 6 = .ok (.invokestatic 69, 3) := by decide +kernel
theorem dX3_forget_9 : decode cX3_forget 9 = .ok (.aload_n 0, 1) := by decide +kernel
theorem dX3_forget_10 : decode cX3_forget 10 = .ok (.getfield 11, 3) := by decide +kernel
theorem dX3_forget_13 : decode cX3_forget 13 = .ok (.iconst 0, 1) := by decide +kernel
theorem dX3_forget_14 : decode cX3_forget 14 = .ok (.invokestatic 69, 3) := by decide +kernel
theorem dX3_forget_17 : decode cX3_forget 17 = .ok (.aload_n 0, 1) := by decide +kernel
theorem dX3_forget_18 : decode cX3_forget 18 = .ok (.getfield 28, 3) := by decide +kernel
theorem dX3_forget_21 : decode cX3_forget 21 = .ok (.iconst 0, 1) := by decide +kernel
theorem dX3_forget_22 : decode cX3_forget 22 = .ok (.iconst 0, 1) := by decide +kernel
theorem dX3_forget_23 : decode cX3_forget 23 = .ok (.invokevirtual 75, 3) := by decide +kernel
theorem dX3_forget_26 : decode cX3_forget 26 = .ok (.aload_n 0, 1) := by decide +kernel
theorem dX3_forget_27 : decode cX3_forget 27 = .ok (.iconst 0, 1) := by decide +kernel
theorem dX3_forget_28 : decode cX3_forget 28 = .ok (.putfield 79, 3) := by decide +kernel
theorem dX3_forget_31 : decode cX3_forget 31 = .ok (.aload_n 0, 1) := by decide +kernel
theorem dX3_forget_32 : decode cX3_forget 32 = .ok (.iconst 0, 1) := by decide +kernel
theorem dX3_forget_33 : decode cX3_forget 33 = .ok (.putfield 59, 3) := by decide +kernel
theorem dX3_forget_36 : decode cX3_forget 36 = .ok (.aload_n 0, 1) := by decide +kernel
theorem dX3_forget_37 : decode cX3_forget 37 = .ok (.iconst 0, 1) := by decide +kernel
theorem dX3_forget_38 : decode cX3_forget 38 = .ok (.putfield 82, 3) := by decide +kernel
theorem dX3_forget_41 : decode cX3_forget 41 = .ok (.aload_n 0, 1) := by decide +kernel
theorem dX3_forget_42 : decode cX3_forget 42 = .ok (.iconst 0, 1) := by decide +kernel
theorem dX3_forget_43 : decode cX3_forget 43 = .ok (.putfield 85, 3) := by decide +kernel
theorem dX3_forget_46 : decode cX3_forget 46 = .ok (.aload_n 0, 1) := by decide +kernel
theorem dX3_forget_47 : decode cX3_forget 47 = .ok (.iconst 0, 1) := by decide +kernel
theorem dX3_forget_48 : decode cX3_forget 48 = .ok (.putfield 63, 3) := by decide +kernel
theorem dX3_forget_51 : decode cX3_forget 51 = .ok (.aload_n 0, 1) := by decide +kernel
theorem dX3_forget_52 : decode cX3_forget 52 = .ok (.iconst 0, 1) := by decide +kernel
theorem dX3_forget_53 : decode cX3_forget 53 = .ok (.putfield 66, 3) := by decide +kernel
theorem dX3_forget_56 : decode cX3_forget 56 = .ok (.aload_n 0, 1) := by decide +kernel
theorem dX3_forget_57 : decode cX3_forget 57 = .ok (.iconst 0, 1) := by decide +kernel
theorem dX3_forget_58 : decode cX3_forget 58 = .ok (.putfield 51, 3) := by decide +kernel
theorem dX3_forget_61 : decode cX3_forget 61 = .ok (.return_, 1) := by decide +kernel
theorem dX3_keepMark_0 : decode cX3_keepMark 0 = .ok (.iconst 0, 1) := by decide +kernel
theorem dX3_keepMark_1 : decode cX3_keepMark 1 = .ok (.istore_n 2, 1) := by decide +kernel
theorem dX3_keepMark_2 : decode cX3_keepMark 2 = .ok (.iload_n 2, 1) := by decide +kernel
theorem dX3_keepMark_3 : decode cX3_keepMark 3 = .ok (.aload_n 0, 1) := by decide +kernel
theorem dX3_keepMark_4 : decode cX3_keepMark 4 = .ok (.getfield 59, 3) := by decide +kernel
theorem dX3_keepMark_7 : decode cX3_keepMark 7 = .ok (.if_icmp .ge 20, 3) := by decide +kernel
theorem dX3_keepMark_10 : decode cX3_keepMark 10 = .ok (.aload_n 0, 1) := by decide +kernel
theorem dX3_keepMark_11 : decode cX3_keepMark 11 = .ok (.getfield 18, 3) := by decide +kernel
theorem dX3_keepMark_14 : decode cX3_keepMark 14 = .ok (.iload_n 2, 1) := by decide +kernel
theorem dX3_keepMark_15 : decode cX3_keepMark 15 = .ok (.iaload, 1) := by decide +kernel
theorem dX3_keepMark_16 : decode cX3_keepMark 16 = .ok (.iload_n 1, 1) := by decide +kernel
theorem dX3_keepMark_17 : decode cX3_keepMark 17 = .ok (.if_icmp .ne 4, 3) := by decide +kernel
theorem dX3_keepMark_20 : decode cX3_keepMark 20 = .ok (.return_, 1) := by decide +kernel
theorem dX3_keepMark_21 : decode cX3_keepMark 21 = .ok (.iinc 2 1, 3) := by decide +kernel
theorem dX3_keepMark_24 : decode cX3_keepMark 24 = .ok (.goto (-22), 3) := by decide +kernel
theorem dX3_keepMark_27 : decode cX3_keepMark 27 = .ok (.aload_n 0, 1) := by decide +kernel
theorem dX3_keepMark_28 : decode cX3_keepMark 28 = .ok (.getfield 59, 3) := by decide +kernel
theorem dX3_keepMark_31 : decode cX3_keepMark 31 = .ok (.bipush 8, 2) := by decide +kernel
theorem dX3_keepMark_33 : decode cX3_keepMark 33 = .ok (.if_icmp .ge 23, 3) := by decide +kernel
theorem dX3_keepMark_36 : decode cX3_keepMark 36 = .ok (.aload_n 0, 1) := by decide +kernel
theorem dX3_keepMark_37 : decode cX3_keepMark 37 = .ok (.getfield 18, 3) := by decide +kernel
theorem dX3_keepMark_40 : decode cX3_keepMark 40 = .ok (.aload_n 0, 1) := by decide +kernel
theorem dX3_keepMark_41 : decode cX3_keepMark 41 = .ok (.getfield 59, 3) := by decide +kernel
theorem dX3_keepMark_44 : decode cX3_keepMark 44 = .ok (.iload_n 1, 1) := by decide +kernel
theorem dX3_keepMark_45 : decode cX3_keepMark 45 = .ok (.iastore, 1) := by decide +kernel
theorem dX3_keepMark_46 : decode cX3_keepMark 46 = .ok (.aload_n 0, 1) := by decide +kernel
theorem dX3_keepMark_47 : decode cX3_keepMark 47 = .ok (.dup, 1) := by decide +kernel
theorem dX3_keepMark_48 : decode cX3_keepMark 48 = .ok (.getfield 59, 3) := by decide +kernel
theorem dX3_keepMark_51 : decode cX3_keepMark 51 = .ok (.iconst 1, 1) := by decide +kernel
theorem dX3_keepMark_52 : decode cX3_keepMark 52 = .ok (.iadd, 1) := by decide +kernel
theorem dX3_keepMark_53 : decode cX3_keepMark 53 = .ok (.putfield 59, 3) := by decide +kernel
theorem dX3_keepMark_56 : decode cX3_keepMark 56 = .ok (.return_, 1) := by decide +kernel
theorem dX3_note_0 : decode cX3_note 0 = .ok (.aload_n 0, 1) := by decide +kernel
theorem dX3_note_1 : decode cX3_note 1 = .ok (.getfield 22, 3) := by decide +kernel
theorem dX3_note_4 : decode cX3_note 4 = .ok (.iload_n 1, 1) := by decide +kernel
theorem dX3_note_5 : decode cX3_note 5 = .ok (.iaload, 1) := by decide +kernel
theorem dX3_note_6 : decode cX3_note 6 = .ok (.ldc 21, 2) := by decide +kernel
theorem dX3_note_8 : decode cX3_note 8 = .ok (.if_icmp .ne 10, 3) := by decide +kernel
theorem dX3_note_11 : decode cX3_note 11 = .ok (.aload_n 0, 1) := by decide +kernel
theorem dX3_note_12 : decode cX3_note 12 = .ok (.getfield 22, 3) := by decide +kernel
theorem dX3_note_15 : decode cX3_note 15 = .ok (.iload_n 1, 1) := by decide +kernel
theorem dX3_note_16 : decode cX3_note 16 = .ok (.iload_n 2, 1) := by decide +kernel
theorem dX3_note_17 : decode cX3_note 17 = .ok (.iastore, 1) := by decide +kernel
theorem dX3_note_18 : decode cX3_note 18 = .ok (.return_, 1) := by decide +kernel
theorem dX3_placeTold_0 : decode cX3_placeTold 0 = .ok (.iconst 1, 1) := by decide +kernel
theorem dX3_placeTold_1 : decode cX3_placeTold 1 = .ok (.istore_n 1, 1) := by decide +kernel
theorem dX3_placeTold_2 : decode cX3_placeTold 2 = .ok (.iload_n 1, 1) := by decide +kernel
theorem dX3_placeTold_3 : decode cX3_placeTold 3 = .ok (.iconst 3, 1) := by decide +kernel
theorem dX3_placeTold_4 : decode cX3_placeTold 4 = .ok (.if_icmp .gt 27, 3) := by decide +kernel
theorem dX3_placeTold_7 : decode cX3_placeTold 7 = .ok (.aload_n 0, 1) := by decide +kernel
theorem dX3_placeTold_8 : decode cX3_placeTold 8 = .ok (.getfield 22, 3) := by decide +kernel
theorem dX3_placeTold_11 : decode cX3_placeTold 11 = .ok (.iload_n 1, 1) := by decide +kernel
theorem dX3_placeTold_12 : decode cX3_placeTold 12 = .ok (.iaload, 1) := by decide +kernel
theorem dX3_placeTold_13 : decode cX3_placeTold 13 = .ok (.ldc 21, 2) := by decide +kernel
theorem dX3_placeTold_15 : decode cX3_placeTold 15 = .ok (.if_icmp .eq 10, 3) := by decide +kernel
theorem dX3_placeTold_18 : decode cX3_placeTold 18 = .ok (.aload_n 0, 1) := by decide +kernel
theorem dX3_placeTold_19 : decode cX3_placeTold 19 = .ok (.getfield 22, 3) := by decide +kernel
theorem dX3_placeTold_22 : decode cX3_placeTold 22 = .ok (.iload_n 1, 1) := by decide +kernel
theorem dX3_placeTold_23 : decode cX3_placeTold 23 = .ok (.iaload, 1) := by decide +kernel
theorem dX3_placeTold_24 : decode cX3_placeTold 24 = .ok (.ireturn, 1) := by decide +kernel
theorem dX3_placeTold_25 : decode cX3_placeTold 25 = .ok (.iinc 1 1, 3) := by decide +kernel
theorem dX3_placeTold_28 : decode cX3_placeTold 28 = .ok (.goto (-26), 3) := by decide +kernel
theorem dX3_placeTold_31 : decode cX3_placeTold 31 = .ok (.ldc 21, 2) := by decide +kernel
theorem dX3_placeTold_33 : decode cX3_placeTold 33 = .ok (.ireturn, 1) := by decide +kernel
theorem dX3_putAttributes_0 : decode cX3_putAttributes 0 = .ok (.aload_n 0, 1) := by decide +kernel
theorem dX3_putAttributes_1 : decode cX3_putAttributes 1 = .ok (.bipush 64, 2) := by decide +kernel
theorem dX3_putAttributes_3 : decode cX3_putAttributes 3 = .ok (.iconst 1, 1) := by decide +kernel
theorem dX3_putAttributes_4 : decode cX3_putAttributes 4 = .ok (.iconst 1, 1) := by decide +kernel
theorem dX3_putAttributes_5 : decode cX3_putAttributes 5 = .ok (.invokevirtual 179, 3) := by decide +kernel
theorem dX3_putAttributes_8 : decode cX3_putAttributes 8 = .ok (.aload_n 0, 1) := by decide +kernel
theorem dX3_putAttributes_9 : decode cX3_putAttributes 9 = .ok (.aload_n 1, 1) := by decide +kernel
theorem dX3_putAttributes_10 : decode cX3_putAttributes 10 = .ok (.getfield 127, 3) := by decide +kernel
theorem dX3_putAttributes_13 : decode cX3_putAttributes 13 = .ok (.iconst 1, 1) := by decide +kernel
theorem dX3_putAttributes_14 : decode cX3_putAttributes 14 = .ok (.invokevirtual 169, 3) := by decide +kernel
theorem dX3_putAttributes_17 : decode cX3_putAttributes 17 = .ok (.aload_n 0, 1) := by decide +kernel
theorem dX3_putAttributes_18 : decode cX3_putAttributes 18 = .ok (.bipush 64, 2) := by decide +kernel
theorem dX3_putAttributes_20 : decode cX3_putAttributes 20 = .ok (.iconst 2, 1) := by decide +kernel
theorem dX3_putAttributes_21 : decode cX3_putAttributes 21 = .ok (.iconst 2, 1) := by decide +kernel
theorem dX3_putAttributes_22 : decode cX3_putAttributes 22 = .ok (.iconst 4, 1) := by decide +kernel
theorem dX3_putAttributes_23 : decode cX3_putAttributes 23 = .ok (.aload_n 1, 1) := by decide +kernel
theorem dX3_putAttributes_24 : decode cX3_putAttributes 24 = .ok (.getfield 147, 3) := by decide +kernel
theorem dX3_putAttributes_27 : decode cX3_putAttributes 27 = .ok (.imul, 1) := by decide +kernel
theorem dX3_putAttributes_28 : decode cX3_putAttributes 28 = .ok (.iadd, 1) := by decide +kernel
theorem dX3_putAttributes_29 : decode cX3_putAttributes 29 = .ok (.invokevirtual 179, 3) := by decide +kernel
theorem dX3_putAttributes_32 : decode cX3_putAttributes 32 = .ok (.aload_n 0, 1) := by decide +kernel
theorem dX3_putAttributes_33 : decode cX3_putAttributes 33 = .ok (.iconst 2, 1) := by decide +kernel
theorem dX3_putAttributes_34 : decode cX3_putAttributes 34 = .ok (.iconst 1, 1) := by decide +kernel
theorem dX3_putAttributes_35 : decode cX3_putAttributes 35 = .ok (.invokevirtual 169, 3) := by decide +kernel
theorem dX3_putAttributes_38 : decode cX3_putAttributes 38 = .ok (.aload_n 0, 1) := by decide +kernel
theorem dX3_putAttributes_39 : decode cX3_putAttributes 39 = .ok (.aload_n 1, 1) := by decide +kernel
theorem dX3_putAttributes_40 : decode cX3_putAttributes 40 = .ok (.getfield 147, 3) := by decide +kernel
theorem dX3_putAttributes_43 : decode cX3_putAttributes 43 = .ok (.iconst 1, 1) := by decide +kernel
theorem dX3_putAttributes_44 : decode cX3_putAttributes 44 = .ok (.invokevirtual 169, 3) := by decide +kernel
theorem dX3_putAttributes_47 : decode cX3_putAttributes 47 = .ok (.iconst 0, 1) := by decide +kernel
theorem dX3_putAttributes_48 : decode cX3_putAttributes 48 = .ok (.istore_n 2, 1) := by decide +kernel
theorem dX3_putAttributes_49 : decode cX3_putAttributes 49 = .ok (.iload_n 2, 1) := by decide +kernel
theorem dX3_putAttributes_50 : decode cX3_putAttributes 50 = .ok (.aload_n 1, 1) := by decide +kernel
theorem dX3_putAttributes_51 : decode cX3_putAttributes 51 = .ok (.getfield 147, 3) := by decide +kernel
theorem dX3_putAttributes_54 : decode cX3_putAttributes 54 = .ok (.if_icmp .ge 20, 3) := by decide +kernel
theorem dX3_putAttributes_57 : decode cX3_putAttributes 57 = .ok (.aload_n 0, 1) := by decide +kernel
theorem dX3_putAttributes_58 : decode cX3_putAttributes 58 = .ok (.aload_n 1, 1) := by decide +kernel
theorem dX3_putAttributes_59 : decode cX3_putAttributes 59 = .ok (.getfield 140, 3) := by decide +kernel
theorem dX3_putAttributes_62 : decode cX3_putAttributes 62 = .ok (.iload_n 2, 1) := by decide +kernel
theorem dX3_putAttributes_63 : decode cX3_putAttributes 63 = .ok (.iaload, 1) := by decide +kernel
theorem dX3_putAttributes_64 : decode cX3_putAttributes 64 = .ok (.iconst 4, 1) := by decide +kernel
theorem dX3_putAttributes_65 : decode cX3_putAttributes 65 = .ok (.invokevirtual 169, 3) := by decide +kernel
theorem dX3_putAttributes_68 : decode cX3_putAttributes 68 = .ok (.iinc 2 1, 3) := by decide +kernel
theorem dX3_putAttributes_71 : decode cX3_putAttributes 71 = .ok (.goto (-22), 3) := by decide +kernel
theorem dX3_putAttributes_74 : decode cX3_putAttributes 74 = .ok (.aload_n 1, 1) := by decide +kernel
theorem dX3_putAttributes_75 : decode cX3_putAttributes 75 = .ok (.getfield 134, 3) := by decide +kernel
theorem dX3_putAttributes_78 : decode cX3_putAttributes 78 = .ok (.ifCond .eq 21, 3) := by decide +kernel
theorem dX3_putAttributes_81 : decode cX3_putAttributes 81 = .ok (.aload_n 0, 1) := by decide +kernel
theorem dX3_putAttributes_82 : decode cX3_putAttributes 82 = .ok (.sipush 128, 3) := by decide +kernel
theorem dX3_putAttributes_85 : decode cX3_putAttributes 85 = .ok (.iconst 4, 1) := by decide +kernel
theorem dX3_putAttributes_86 : decode cX3_putAttributes 86 = .ok (.iconst 4, 1) := by decide +kernel
theorem dX3_putAttributes_87 : decode cX3_putAttributes 87 = .ok (.invokevirtual 179, 3) := by decide +kernel
theorem dX3_putAttributes_90 : decode cX3_putAttributes 90 = .ok (.aload_n 0, 1) := by decide +kernel
theorem dX3_putAttributes_91 : decode cX3_putAttributes 91 = .ok (.aload_n 1, 1) := by decide +kernel
theorem dX3_putAttributes_92 : decode cX3_putAttributes 92 = .ok (.getfield 134, 3) := by decide +kernel
theorem dX3_putAttributes_95 : decode cX3_putAttributes 95 = .ok (.iconst 4, 1) := by decide +kernel
theorem dX3_putAttributes_96 : decode cX3_putAttributes 96 = .ok (.invokevirtual 169, 3) := by decide +kernel
theorem dX3_putAttributes_99 : decode cX3_putAttributes 99 = .ok (.aload_n 1, 1) := by decide +kernel
theorem dX3_putAttributes_100 : decode cX3_putAttributes 100 = .ok (.getfield 55, 3) := by decide +kernel
theorem dX3_putAttributes_103 : decode cX3_putAttributes 103 = .ok (.ifCond .le 18, 3) := by decide +kernel
theorem dX3_putAttributes_106 : decode cX3_putAttributes 106 = .ok (.aload_n 0, 1) := by decide +kernel
theorem dX3_putAttributes_107 : decode cX3_putAttributes 107 = .ok (.sipush 192, 3) := by decide +kernel
theorem dX3_putAttributes_110 : decode cX3_putAttributes 110 = .ok (.bipush 8, 2) := by decide +kernel
theorem dX3_putAttributes_112 : decode cX3_putAttributes 112 = .ok (.iconst 4, 1) := by decide +kernel
theorem dX3_putAttributes_113 : decode cX3_putAttributes 113 = .ok (.aload_n 1, 1) := by decide +kernel
theorem dX3_putAttributes_114 : decode cX3_putAttributes 114 = .ok (.getfield 55, 3) := by decide +kernel
theorem dX3_putAttributes_117 : decode cX3_putAttributes 117 = .ok (.imul, 1) := by decide +kernel
theorem dX3_putAttributes_118 : decode cX3_putAttributes 118 = .ok (.invokevirtual 179, 3) := by decide +kernel
theorem dX3_putAttributes_121 : decode cX3_putAttributes 121 = .ok (.iconst 0, 1) := by decide +kernel
theorem dX3_putAttributes_122 : decode cX3_putAttributes 122 = .ok (.istore_n 2, 1) := by decide +kernel
theorem dX3_putAttributes_123 : decode cX3_putAttributes 123 = .ok (.iload_n 2, 1) := by decide +kernel
theorem dX3_putAttributes_124 : decode cX3_putAttributes 124 = .ok (.aload_n 1, 1) := by decide +kernel
theorem dX3_putAttributes_125 : decode cX3_putAttributes 125 = .ok (.getfield 55, 3) := by decide +kernel
theorem dX3_putAttributes_128 : decode cX3_putAttributes 128 = .ok (.if_icmp .ge 20, 3) := by decide +kernel
theorem dX3_putAttributes_131 : decode cX3_putAttributes 131 = .ok (.aload_n 0, 1) := by decide +kernel
theorem dX3_putAttributes_132 : decode cX3_putAttributes 132 = .ok (.aload_n 1, 1) := by decide +kernel
theorem dX3_putAttributes_133 : decode cX3_putAttributes 133 = .ok (.getfield 182, 3) := by decide +kernel
theorem dX3_putAttributes_136 : decode cX3_putAttributes 136 = .ok (.iload_n 2, 1) := by decide +kernel
theorem dX3_putAttributes_137 : decode cX3_putAttributes 137 = .ok (.iaload, 1) := by decide +kernel
theorem dX3_putAttributes_138 : decode cX3_putAttributes 138 = .ok (.iconst 4, 1) := by decide +kernel
theorem dX3_putAttributes_139 : decode cX3_putAttributes 139 = .ok (.invokevirtual 169, 3) := by decide +kernel
theorem dX3_putAttributes_142 : decode cX3_putAttributes 142 = .ok (.iinc 2 1, 3) := by decide +kernel
theorem dX3_putAttributes_145 : decode cX3_putAttributes 145 = .ok (.goto (-22), 3) := by decide +kernel
theorem dX3_putAttributes_148 : decode cX3_putAttributes 148 = .ok (.return_, 1) := by decide +kernel
theorem dX3_putDown_0 : decode cX3_putDown 0 = .ok (.aload_n 0, 1) := by decide +kernel
theorem dX3_putDown_1 : decode cX3_putDown 1 = .ok (.iconst 0, 1) := by decide +kernel
theorem dX3_putDown_2 : decode cX3_putDown 2 = .ok (.putfield 163, 3) := by decide +kernel
theorem dX3_putDown_5 : decode cX3_putDown 5 = .ok (.iconst 1, 1) := by decide +kernel
theorem dX3_putDown_6 : decode cX3_putDown 6 = .ok (.iload_n 3, 1) := by decide +kernel
theorem dX3_putDown_7 : decode cX3_putDown 7 = .ok (.bipush 7, 2) := by decide +kernel
theorem dX3_putDown_9 : decode cX3_putDown 9 = .ok (.iadd, 1) := by decide +kernel
theorem dX3_putDown_10 : decode cX3_putDown 10 = .ok (.bipush 8, 2) := by decide +kernel
theorem dX3_putDown_12 : decode cX3_putDown 12 = .ok (.idiv, 1) := by decide +kernel
theorem dX3_putDown_13 : decode cX3_putDown 13 = .ok (.iadd, 1) := by decide +kernel
theorem dX3_putDown_14 : decode cX3_putDown 14 = .ok (.istore 4, 2) := by decide +kernel
theorem dX3_putDown_16 : decode cX3_putDown 16 = .ok (.aload_n 1, 1) := by decide +kernel
theorem dX3_putDown_17 : decode cX3_putDown 17 = .ok (.getfield 166, 3) := by decide +kernel
theorem dX3_putDown_20 : decode cX3_putDown 20 = .ok (.ifCond .ne 27, 3) := by decide +kernel
theorem dX3_putDown_23 : decode cX3_putDown 23 = .ok (.aload_n 0, 1) := by decide +kernel
theorem dX3_putDown_24 : decode cX3_putDown 24 = .ok (.iload 4, 2) := by decide +kernel
theorem dX3_putDown_26 : decode cX3_putDown 26 = .ok (.iconst 2, 1) := by decide +kernel
theorem dX3_putDown_27 : decode cX3_putDown 27 = .ok (.invokevirtual 169, 3) := by decide +kernel
theorem dX3_putDown_30 : decode cX3_putDown 30 = .ok (.aload_n 0, 1) := by decide +kernel
theorem dX3_putDown_31 : decode cX3_putDown 31 = .ok (.iload_n 2, 1) := by decide +kernel
theorem dX3_putDown_32 : decode cX3_putDown 32 = .ok (.iload_n 3, 1) := by decide +kernel
theorem dX3_putDown_33 : decode cX3_putDown 33 = .ok (.invokevirtual 172, 3) := by decide +kernel
theorem dX3_putDown_36 : decode cX3_putDown 36 = .ok (.aload_n 0, 1) := by decide +kernel
theorem dX3_putDown_37 : decode cX3_putDown 37 = .ok (.iconst 0, 1) := by decide +kernel
theorem dX3_putDown_38 : decode cX3_putDown 38 = .ok (.iconst 2, 1) := by decide +kernel
theorem dX3_putDown_39 : decode cX3_putDown 39 = .ok (.invokevirtual 169, 3) := by decide +kernel
theorem dX3_putDown_42 : decode cX3_putDown 42 = .ok (.aload_n 0, 1) := by decide +kernel
theorem dX3_putDown_43 : decode cX3_putDown 43 = .ok (.getfield 163, 3) := by decide +kernel
theorem dX3_putDown_46 : decode cX3_putDown 46 = .ok (.ireturn, 1) := by decide +kernel
theorem dX3_putDown_47 : decode cX3_putDown 47 = .ok (.aload_n 0, 1) := by decide +kernel
theorem dX3_putDown_48 : decode cX3_putDown 48 = .ok (.iconst 0, 1) := by decide +kernel
theorem dX3_putDown_49 : decode cX3_putDown 49 = .ok (.iconst 4, 1) := by decide +kernel
theorem dX3_putDown_50 : decode cX3_putDown 50 = .ok (.invokevirtual 169, 3) := by decide +kernel
theorem dX3_putDown_53 : decode cX3_putDown 53 = .ok (.aload_n 0, 1) := by decide +kernel
theorem dX3_putDown_54 : decode cX3_putDown 54 = .ok (.aload_n 1, 1) := by decide +kernel
theorem dX3_putDown_55 : decode cX3_putDown 55 = .ok (.invokevirtual 175, 3) := by decide +kernel
theorem dX3_putDown_58 : decode cX3_putDown 58 = .ok (.aload_n 0, 1) := by decide +kernel
theorem dX3_putDown_59 : decode cX3_putDown 59 = .ok (.getfield 163, 3) := by decide +kernel
theorem dX3_putDown_62 : decode cX3_putDown 62 = .ok (.iconst 4, 1) := by decide +kernel
theorem dX3_putDown_63 : decode cX3_putDown 63 = .ok (.isub, 1) := by decide +kernel
theorem dX3_putDown_64 : decode cX3_putDown 64 = .ok (.istore 5, 2) := by decide +kernel
theorem dX3_putDown_66 : decode cX3_putDown 66 = .ok (.aload_n 0, 1) := by decide +kernel
theorem dX3_putDown_67 : decode cX3_putDown 67 = .ok (.getfield 38, 3) := by decide +kernel
theorem dX3_putDown_70 : decode cX3_putDown 70 = .ok (.iconst 2, 1) := by decide +kernel
theorem dX3_putDown_71 : decode cX3_putDown 71 = .ok (.iload 5, 2) := by decide +kernel
theorem dX3_putDown_73 : decode cX3_putDown 73 = .ok (.bipush 8, 2) := by decide +kernel
theorem dX3_putDown_75 : decode cX3_putDown 75 = .ok (.ishr, 1) := by decide +kernel
theorem dX3_putDown_76 : decode cX3_putDown 76 = .ok (.iastore, 1) := by decide +kernel
theorem dX3_putDown_77 : decode cX3_putDown 77 = .ok (.aload_n 0, 1) := by decide +kernel
theorem dX3_putDown_78 : decode cX3_putDown 78 = .ok (.getfield 38, 3) := by decide +kernel
theorem dX3_putDown_81 : decode cX3_putDown 81 = .ok (.iconst 3, 1) := by decide +kernel
theorem dX3_putDown_82 : decode cX3_putDown 82 = .ok (.iload 5, 2) := by decide +kernel
theorem dX3_putDown_84 : decode cX3_putDown 84 = .ok (.sipush 255, 3) := by decide +kernel
theorem dX3_putDown_87 : decode cX3_putDown 87 = .ok (.iand, 1) := by decide +kernel
theorem dX3_putDown_88 : decode cX3_putDown 88 = .ok (.iastore, 1) := by decide +kernel
theorem dX3_putDown_89 : decode cX3_putDown 89 = .ok (.aload_n 0, 1) := by decide +kernel
theorem dX3_putDown_90 : decode cX3_putDown 90 = .ok (.iload_n 2, 1) := by decide +kernel
theorem dX3_putDown_91 : decode cX3_putDown 91 = .ok (.iload_n 3, 1) := by decide +kernel
theorem dX3_putDown_92 : decode cX3_putDown 92 = .ok (.invokevirtual 172, 3) := by decide +kernel
theorem dX3_putDown_95 : decode cX3_putDown 95 = .ok (.aload_n 0, 1) := by decide +kernel
theorem dX3_putDown_96 : decode cX3_putDown 96 = .ok (.getfield 163, 3) := by decide +kernel
theorem dX3_putDown_99 : decode cX3_putDown 99 = .ok (.ireturn, 1) := by decide +kernel
theorem dX3_putHead_0 : decode cX3_putHead 0 = .ok (.aload_n 0, 1) := by decide +kernel
theorem dX3_putHead_1 : decode cX3_putHead 1 = .ok (.iload_n 1, 1) := by decide +kernel
theorem dX3_putHead_2 : decode cX3_putHead 2 = .ok (.iconst 1, 1) := by decide +kernel
theorem dX3_putHead_3 : decode cX3_putHead 3 = .ok (.invokevirtual 169, 3) := by decide +kernel
theorem dX3_putHead_6 : decode cX3_putHead 6 = .ok (.aload_n 0, 1) := by decide +kernel
theorem dX3_putHead_7 : decode cX3_putHead 7 = .ok (.iload_n 2, 1) := by decide +kernel
theorem dX3_putHead_8 : decode cX3_putHead 8 = .ok (.iconst 1, 1) := by decide +kernel
theorem dX3_putHead_9 : decode cX3_putHead 9 = .ok (.invokevirtual 169, 3) := by decide +kernel
theorem dX3_putHead_12 : decode cX3_putHead 12 = .ok (.aload_n 0, 1) := by decide +kernel
theorem dX3_putHead_13 : decode cX3_putHead 13 = .ok (.iload_n 3, 1) := by decide +kernel
theorem dX3_putHead_14 : decode cX3_putHead 14 = .ok (.iconst 1, 1) := by decide +kernel
theorem dX3_putHead_15 : decode cX3_putHead 15 = .ok (.invokevirtual 169, 3) := by decide +kernel
theorem dX3_putHead_18 : decode cX3_putHead 18 = .ok (.return_, 1) := by decide +kernel
theorem dX3_putNumber_0 : decode cX3_putNumber 0 = .ok (.iload_n 2, 1) := by decide +kernel
theorem dX3_putNumber_1 : decode cX3_putNumber 1 = .ok (.iconst 1, 1) := by decide +kernel
theorem dX3_putNumber_2 : decode cX3_putNumber 2 = .ok (.isub, 1) := by decide +kernel
theorem dX3_putNumber_3 : decode cX3_putNumber 3 = .ok (.istore_n 3, 1) := by decide +kernel
theorem dX3_putNumber_4 : decode cX3_putNumber 4 = .ok (.iload_n 3, 1) := by decide +kernel
theorem dX3_putNumber_5 : decode cX3_putNumber 5 = .ok (.ifCond .lt 48, 3) := by decide +kernel
theorem dX3_putNumber_8 : decode cX3_putNumber 8 = .ok (.aload_n 0, 1) := by decide +kernel
theorem dX3_putNumber_9 : decode cX3_putNumber 9 = .ok (.getfield 163, 3) := by decide +kernel
theorem dX3_putNumber_12 : decode cX3_putNumber 12 = .ok (.sipush 256, 3) := by decide +kernel
theorem dX3_putNumber_15 : decode cX3_putNumber 15 = .ok (.if_icmp .ge 38, 3) := by decide +kernel
theorem dX3_putNumber_18 : decode cX3_putNumber 18 = .ok (.aload_n 0, 1) := by decide +kernel
theorem dX3_putNumber_19 : decode cX3_putNumber 19 = .ok (.getfield 38, 3) := by decide +kernel
theorem dX3_putNumber_22 : decode cX3_putNumber 22 = .ok (.aload_n 0, 1) := by decide +kernel
theorem dX3_putNumber_23 : decode cX3_putNumber 23 = .ok (.getfield 163, 3) := by decide +kernel
theorem dX3_putNumber_26 : decode cX3_putNumber 26 = .ok (.iload_n 1, 1) := by decide +kernel
theorem dX3_putNumber_27 : decode cX3_putNumber 27 = .ok (.bipush 8, 2) := by decide +kernel
theorem dX3_putNumber_29 : decode cX3_putNumber 29 = .ok (.iload_n 3, 1) := by decide +kernel
theorem dX3_putNumber_30 : decode cX3_putNumber 30 = .ok (.imul, 1) := by decide +kernel
theorem dX3_putNumber_31 : decode cX3_putNumber 31 = .ok (.iushr, 1) := by decide +kernel
theorem dX3_putNumber_32 : decode cX3_putNumber 32 = .ok (.sipush 255, 3) := by decide +kernel
theorem dX3_putNumber_35 : decode cX3_putNumber 35 = .ok (.iand, 1) := by decide +kernel
theorem dX3_putNumber_36 : decode cX3_putNumber 36 = .ok (.iastore, 1) := by decide +kernel
theorem dX3_putNumber_37 : decode cX3_putNumber 37 = .ok (.aload_n 0, 1) := by decide +kernel
theorem dX3_putNumber_38 : decode cX3_putNumber 38 = .ok (.dup, 1) := by decide +kernel
theorem dX3_putNumber_39 : decode cX3_putNumber 39 = .ok (.getfield 163, 3) := by decide +kernel
theorem dX3_putNumber_42 : decode cX3_putNumber 42 = .ok (.iconst 1, 1) := by decide +kernel
theorem dX3_putNumber_43 : decode cX3_putNumber 43 = .ok (.iadd, 1) := by decide +kernel
theorem dX3_putNumber_44 : decode cX3_putNumber 44 = .ok (.putfield 163, 3) := by decide +kernel
theorem dX3_putNumber_47 : decode cX3_putNumber 47 = .ok (.iinc 3 (-1), 3) := by decide +kernel
theorem dX3_putNumber_50 : decode cX3_putNumber 50 = .ok (.goto (-46), 3) := by decide +kernel
theorem dX3_putNumber_53 : decode cX3_putNumber 53 = .ok (.return_, 1) := by decide +kernel
theorem dX3_putPrefix_0 : decode cX3_putPrefix 0 = .ok (.aload_n 0, 1) := by decide +kernel
theorem dX3_putPrefix_1 : decode cX3_putPrefix 1 = .ok (.iload_n 2, 1) := by decide +kernel
theorem dX3_putPrefix_2 : decode cX3_putPrefix 2 = .ok (.iconst 1, 1) := by decide +kernel
theorem dX3_putPrefix_3 : decode cX3_putPrefix 3 = .ok (.invokevirtual 169, 3) := by decide +kernel
theorem dX3_putPrefix_6 : decode cX3_putPrefix 6 = .ok (.iload_n 2, 1) := by decide +kernel
theorem dX3_putPrefix_7 : decode cX3_putPrefix 7 = .ok (.bipush 7, 2) := by decide +kernel
theorem dX3_putPrefix_9 : decode cX3_putPrefix 9 = .ok (.iadd, 1) := by decide +kernel
theorem dX3_putPrefix_10 : decode cX3_putPrefix 10 = .ok (.bipush 8, 2) := by decide +kernel
theorem dX3_putPrefix_12 : decode cX3_putPrefix 12 = .ok (.idiv, 1) := by decide +kernel
theorem dX3_putPrefix_13 : decode cX3_putPrefix 13 = .ok (.istore_n 3, 1) := by decide +kernel
theorem dX3_putPrefix_14 : decode cX3_putPrefix 14 = .ok (.iconst 0, 1) := by decide +kernel
theorem dX3_putPrefix_15 : decode cX3_putPrefix 15 = .ok (.istore 4, 2) := by decide +kernel
theorem dX3_putPrefix_17 : decode cX3_putPrefix 17 = .ok (.iload 4, 2) := by decide +kernel
theorem dX3_putPrefix_19 : decode cX3_putPrefix 19 = .ok (.iload_n 3, 1) := by decide +kernel
theorem dX3_putPrefix_20 : decode cX3_putPrefix 20 = .ok (.if_icmp .ge 24, 3) := by decide +kernel
theorem dX3_putPrefix_23 : decode cX3_putPrefix 23 = .ok (.aload_n 0, 1) := by decide +kernel
theorem dX3_putPrefix_24 : decode cX3_putPrefix 24 = .ok (.iload_n 1, 1) := by decide +kernel
theorem dX3_putPrefix_25 : decode cX3_putPrefix 25 = .ok (.bipush 24, 2) := by decide +kernel
theorem dX3_putPrefix_27 : decode cX3_putPrefix 27 = .ok (.bipush 8, 2) := by decide +kernel
theorem dX3_putPrefix_29 : decode cX3_putPrefix 29 = .ok (.iload 4, 2) := by decide +kernel
theorem dX3_putPrefix_31 : decode cX3_putPrefix 31 = .ok (.imul, 1) := by decide +kernel
theorem dX3_putPrefix_32 : decode cX3_putPrefix 32 = .ok (.isub, 1) := by decide +kernel
theorem dX3_putPrefix_33 : decode cX3_putPrefix 33 = .ok (.iushr, 1) := by decide +kernel
theorem dX3_putPrefix_34 : decode cX3_putPrefix 34 = .ok (.iconst 1, 1) := by decide +kernel
theorem dX3_putPrefix_35 : decode cX3_putPrefix 35 = .ok (.invokevirtual 169, 3) := by decide +kernel
theorem dX3_putPrefix_38 : decode cX3_putPrefix 38 = .ok (.iinc 4 1, 3) := by decide +kernel
theorem dX3_putPrefix_41 : decode cX3_putPrefix 41 = .ok (.goto (-24), 3) := by decide +kernel
theorem dX3_putPrefix_44 : decode cX3_putPrefix 44 = .ok (.return_, 1) := by decide +kernel
theorem dX3_sortWithoutSign_0 : decode cX3_sortWithoutSign 0 = .ok (.iload_n 1, 1) := by decide +kernel
theorem dX3_sortWithoutSign_1 : decode cX3_sortWithoutSign 1 = .ok (.iconst 1, 1) := by decide +kernel
theorem dX3_sortWithoutSign_2 : decode cX3_sortWithoutSign 2 = .ok (.iadd, 1) := by decide +kernel
theorem dX3_sortWithoutSign_3 : decode cX3_sortWithoutSign 3 = .ok (.istore_n 3, 1) := by decide +kernel
theorem dX3_sortWithoutSign_4 : decode cX3_sortWithoutSign 4 = .ok (.iload_n 3, 1) := by decide +kernel
theorem dX3_sortWithoutSign_5 : decode cX3_sortWithoutSign 5 = .ok (.iload_n 2, 1) := by decide +kernel
theorem dX3_sortWithoutSign_6 : decode cX3_sortWithoutSign 6 = .ok (.if_icmp .ge 62, 3) := by decide +kernel
theorem dX3_sortWithoutSign_9 : decode cX3_sortWithoutSign 9 = .ok (.aload_n 0, 1) := by decide +kernel
theorem dX3_sortWithoutSign_10 : decode cX3_sortWithoutSign 10 = .ok (.iload_n 3, 1) := by decide +kernel
theorem dX3_sortWithoutSign_11 : decode cX3_sortWithoutSign 11 = .ok (.iaload, 1) := by decide +kernel
theorem dX3_sortWithoutSign_12 : decode cX3_sortWithoutSign 12 = .ok (.istore 4, 2) := by decide +kernel
theorem dX3_sortWithoutSign_14 : decode cX3_sortWithoutSign 14 = .ok (.iload_n 3, 1) := by decide +kernel
theorem dX3_sortWithoutSign_15 : decode cX3_sortWithoutSign 15 = .ok (.istore 5, 2) := by decide +kernel
theorem dX3_sortWithoutSign_17 : decode cX3_sortWithoutSign 17 = .ok (.iload 5, 2) := by decide +kernel
theorem dX3_sortWithoutSign_19 : decode cX3_sortWithoutSign 19 = .ok (.iload_n 1, 1) := by decide +kernel
theorem dX3_sortWithoutSign_20 : decode cX3_sortWithoutSign 20 = .ok (.if_icmp .le 36, 3) := by decide +kernel
theorem dX3_sortWithoutSign_23 : decode cX3_sortWithoutSign 23 = .ok (.aload_n 0, 1) := by decide +kernel
theorem dX3_sortWithoutSign_24 : decode cX3_sortWithoutSign 24 = .ok (.iload 5, 2) := by decide +kernel
theorem dX3_sortWithoutSign_26 : decode cX3_sortWithoutSign 26 = .ok (.iconst 1, 1) := by decide +kernel
theorem dX3_sortWithoutSign_27 : decode cX3_sortWithoutSign 27 = .ok (.isub, 1) := by decide +kernel
theorem dX3_sortWithoutSign_28 : decode cX3_sortWithoutSign 28 = .ok (.iaload, 1) := by decide +kernel
theorem dX3_sortWithoutSign_29 : decode cX3_sortWithoutSign 29 = .ok (.ldc 152, 2) := by decide +kernel
theorem dX3_sortWithoutSign_31 : decode cX3_sortWithoutSign 31 = .ok (.ixor, 1) := by decide +kernel
theorem dX3_sortWithoutSign_32 : decode cX3_sortWithoutSign 32 = .ok (.iload 4, 2) := by decide +kernel
theorem dX3_sortWithoutSign_34 : decode cX3_sortWithoutSign 34 = .ok (.ldc 152, 2) := by decide +kernel
theorem dX3_sortWithoutSign_36 : decode cX3_sortWithoutSign 36 = .ok (.ixor, 1) := by decide +kernel
theorem dX3_sortWithoutSign_37 : decode cX3_sortWithoutSign 37 = .ok (.if_icmp .le 19, 3) := by decide +kernel
theorem dX3_sortWithoutSign_40 : decode cX3_sortWithoutSign 40 = .ok (.aload_n 0, 1) := by decide +kernel
theorem dX3_sortWithoutSign_41 : decode cX3_sortWithoutSign 41 = .ok (.iload 5, 2) := by decide +kernel
theorem dX3_sortWithoutSign_43 : decode cX3_sortWithoutSign 43 = .ok (.aload_n 0, 1) := by decide +kernel
theorem dX3_sortWithoutSign_44 : decode cX3_sortWithoutSign 44 = .ok (.iload 5, 2) := by decide +kernel
theorem dX3_sortWithoutSign_46 : decode cX3_sortWithoutSign 46 = .ok (.iconst 1, 1) := by decide +kernel
theorem dX3_sortWithoutSign_47 : decode cX3_sortWithoutSign 47 = .ok (.isub, 1) := by decide +kernel
theorem dX3_sortWithoutSign_48 : decode cX3_sortWithoutSign 48 = .ok (.iaload, 1) := by decide +kernel
theorem dX3_sortWithoutSign_49 : decode cX3_sortWithoutSign 49 = .ok (.iastore, 1) := by decide +kernel
theorem dX3_sortWithoutSign_50 : decode cX3_sortWithoutSign 50 = .ok (.iinc 5 (-1), 3) := by decide +kernel
theorem dX3_sortWithoutSign_53 : decode cX3_sortWithoutSign 53 = .ok (.goto (-36), 3) := by decide +kernel
theorem dX3_sortWithoutSign_56 : decode cX3_sortWithoutSign 56 = .ok (.aload_n 0, 1) := by decide +kernel
theorem dX3_sortWithoutSign_57 : decode cX3_sortWithoutSign 57 = .ok (.iload 5, 2) := by decide +kernel
theorem dX3_sortWithoutSign_59 : decode cX3_sortWithoutSign 59 = .ok (.iload 4, 2) := by decide +kernel
theorem dX3_sortWithoutSign_61 : decode cX3_sortWithoutSign 61 = .ok (.iastore, 1) := by decide +kernel
theorem dX3_sortWithoutSign_62 : decode cX3_sortWithoutSign 62 = .ok (.iinc 3 1, 3) := by decide +kernel
theorem dX3_sortWithoutSign_65 : decode cX3_sortWithoutSign 65 = .ok (.goto (-61), 3) := by decide +kernel
theorem dX3_sortWithoutSign_68 : decode cX3_sortWithoutSign 68 = .ok (.return_, 1) := by decide +kernel
theorem dX3_told_0 : decode cX3_told 0 = .ok (.iload_n 1, 1) := by decide +kernel
theorem dX3_told_1 : decode cX3_told 1 = .ok (.ifCond .ne 8, 3) := by decide +kernel
theorem dX3_told_4 : decode cX3_told 4 = .ok (.aload_n 0, 1) := by decide +kernel
theorem dX3_told_5 : decode cX3_told 5 = .ok (.invokevirtual 153, 3) := by decide +kernel
theorem dX3_told_8 : decode cX3_told 8 = .ok (.ireturn, 1) := by decide +kernel
theorem dX3_told_9 : decode cX3_told 9 = .ok (.aload_n 0, 1) := by decide +kernel
theorem dX3_told_10 : decode cX3_told 10 = .ok (.getfield 51, 3) := by decide +kernel
theorem dX3_told_13 : decode cX3_told 13 = .ok (.ifCond .eq 7, 3) := by decide +kernel
theorem dX3_told_16 : decode cX3_told 16 = .ok (.iload_n 1, 1) := by decide +kernel
theorem dX3_told_17 : decode cX3_told 17 = .ok (.ifCond .ge 6, 3) := by decide +kernel
theorem dX3_told_20 : decode cX3_told 20 = .ok (.ldc 21, 2) := by decide +kernel
theorem dX3_told_22 : decode cX3_told 22 = .ok (.ireturn, 1) := by decide +kernel
theorem dX3_told_23 : decode cX3_told 23 = .ok (.iload_n 1, 1) := by decide +kernel
theorem dX3_told_24 : decode cX3_told 24 = .ok (.bipush 100, 2) := by decide +kernel
theorem dX3_told_26 : decode cX3_told 26 = .ok (.if_icmp .ge 11, 3) := by decide +kernel
theorem dX3_told_29 : decode cX3_told 29 = .ok (.aload_n 0, 1) := by decide +kernel
theorem dX3_told_30 : decode cX3_told 30 = .ok (.iload_n 1, 1) := by decide +kernel
theorem dX3_told_31 : decode cX3_told 31 = .ok (.invokevirtual 157, 3) := by decide +kernel
theorem dX3_told_34 : decode cX3_told 34 = .ok (.goto 8, 3) := by decide +kernel
theorem dX3_told_37 : decode cX3_told 37 = .ok (.aload_n 0, 1) := by decide +kernel
theorem dX3_told_38 : decode cX3_told 38 = .ok (.iload_n 1, 1) := by decide +kernel
theorem dX3_told_39 : decode cX3_told 39 = .ok (.invokevirtual 160, 3) := by decide +kernel
theorem dX3_told_42 : decode cX3_told 42 = .ok (.ireturn, 1) := by decide +kernel
theorem dX3_toldInAll_0 : decode cX3_toldInAll 0 = .ok (.iload_n 1, 1) := by decide +kernel
theorem dX3_toldInAll_1 : decode cX3_toldInAll 1 = .ok (.tableswitch 87 1 7 #[43, 48, 53, 58, 66, 74, 82], 43) := by decide +kernel
theorem dX3_toldInAll_44 : decode cX3_toldInAll 44 = .ok (.aload_n 0, 1) := by decide +kernel
theorem dX3_toldInAll_45 : decode cX3_toldInAll 45 = .ok (.getfield 63, 3) := by decide +kernel
theorem dX3_toldInAll_48 : decode cX3_toldInAll 48 = .ok (.ireturn, 1) := by decide +kernel
theorem dX3_toldInAll_49 : decode cX3_toldInAll 49 = .ok (.aload_n 0, 1) := by decide +kernel
theorem dX3_toldInAll_50 : decode cX3_toldInAll 50 = .ok (.getfield 66, 3) := by decide +kernel
theorem dX3_toldInAll_53 : decode cX3_toldInAll 53 = .ok (.ireturn, 1) := by decide +kernel
theorem dX3_toldInAll_54 : decode cX3_toldInAll 54 = .ok (.aload_n 0, 1) := by decide +kernel
theorem dX3_toldInAll_55 : decode cX3_toldInAll 55 = .ok (.getfield 79, 3) := by decide +kernel
theorem dX3_toldInAll_58 : decode cX3_toldInAll 58 = .ok (.ireturn, 1) := by decide +kernel
theorem dX3_toldInAll_59 : decode cX3_toldInAll 59 = .ok (.aload_n 0, 1) := by decide +kernel
theorem dX3_toldInAll_60 : decode cX3_toldInAll 60 = .ok (.getfield 28, 3) := by decide +kernel
theorem dX3_toldInAll_63 : decode cX3_toldInAll 63 = .ok (.getfield 127, 3) := by decide +kernel
theorem dX3_toldInAll_66 : decode cX3_toldInAll 66 = .ok (.ireturn, 1) := by decide +kernel
theorem dX3_toldInAll_67 : decode cX3_toldInAll 67 = .ok (.aload_n 0, 1) := by decide +kernel
theorem dX3_toldInAll_68 : decode cX3_toldInAll 68 = .ok (.getfield 28, 3) := by decide +kernel
theorem dX3_toldInAll_71 : decode cX3_toldInAll 71 = .ok (.getfield 134, 3) := by decide +kernel
theorem dX3_toldInAll_74 : decode cX3_toldInAll 74 = .ok (.ireturn, 1) := by decide +kernel
theorem dX3_toldInAll_75 : decode cX3_toldInAll 75 = .ok (.aload_n 0, 1) := by decide +kernel
theorem dX3_toldInAll_76 : decode cX3_toldInAll 76 = .ok (.getfield 28, 3) := by decide +kernel
theorem dX3_toldInAll_79 : decode cX3_toldInAll 79 = .ok (.getfield 147, 3) := by decide +kernel
theorem dX3_toldInAll_82 : decode cX3_toldInAll 82 = .ok (.ireturn, 1) := by decide +kernel
theorem dX3_toldInAll_83 : decode cX3_toldInAll 83 = .ok (.aload_n 0, 1) := by decide +kernel
theorem dX3_toldInAll_84 : decode cX3_toldInAll 84 = .ok (.getfield 59, 3) := by decide +kernel
theorem dX3_toldInAll_87 : decode cX3_toldInAll 87 = .ok (.ireturn, 1) := by decide +kernel
theorem dX3_toldInAll_88 : decode cX3_toldInAll 88 = .ok (.ldc 21, 2) := by decide +kernel
theorem dX3_toldInAll_90 : decode cX3_toldInAll 90 = .ok (.ireturn, 1) := by decide +kernel
theorem dX3_toldOfRow_0 : decode cX3_toldOfRow 0 = .ok (.iload_n 1, 1) := by decide +kernel
theorem dX3_toldOfRow_1 : decode cX3_toldOfRow 1 = .ok (.bipush 100, 2) := by decide +kernel
theorem dX3_toldOfRow_3 : decode cX3_toldOfRow 3 = .ok (.irem, 1) := by decide +kernel
theorem dX3_toldOfRow_4 : decode cX3_toldOfRow 4 = .ok (.istore_n 2, 1) := by decide +kernel
theorem dX3_toldOfRow_5 : decode cX3_toldOfRow 5 = .ok (.iload_n 1, 1) := by decide +kernel
theorem dX3_toldOfRow_6 : decode cX3_toldOfRow 6 = .ok (.bipush 100, 2) := by decide +kernel
theorem dX3_toldOfRow_8 : decode cX3_toldOfRow 8 = .ok (.idiv, 1) := by decide +kernel
theorem dX3_toldOfRow_9 : decode cX3_toldOfRow 9 = .ok (.tableswitch 175 1 6 #[39, 59, 79, 104, 129, 155], 39) := by decide +kernel
theorem dX3_toldOfRow_48 : decode cX3_toldOfRow 48 = .ok (.iload_n 2, 1) := by decide +kernel
theorem dX3_toldOfRow_49 : decode cX3_toldOfRow 49 = .ok (.aload_n 0, 1) := by decide +kernel
theorem dX3_toldOfRow_50 : decode cX3_toldOfRow 50 = .ok (.getfield 63, 3) := by decide +kernel
theorem dX3_toldOfRow_53 : decode cX3_toldOfRow 53 = .ok (.if_icmp .ge 12, 3) := by decide +kernel
theorem dX3_toldOfRow_56 : decode cX3_toldOfRow 56 = .ok (.aload_n 0, 1) := by decide +kernel
theorem dX3_toldOfRow_57 : decode cX3_toldOfRow 57 = .ok (.getfield 32, 3) := by decide +kernel
theorem dX3_toldOfRow_60 : decode cX3_toldOfRow 60 = .ok (.iload_n 2, 1) := by decide +kernel
theorem dX3_toldOfRow_61 : decode cX3_toldOfRow 61 = .ok (.iaload, 1) := by decide +kernel
theorem dX3_toldOfRow_62 : decode cX3_toldOfRow 62 = .ok (.goto 5, 3) := by decide +kernel
theorem dX3_toldOfRow_65 : decode cX3_toldOfRow 65 = .ok (.ldc 21, 2) := by decide +kernel
theorem dX3_toldOfRow_67 : decode cX3_toldOfRow 67 = .ok (.ireturn, 1) := by decide +kernel
theorem dX3_toldOfRow_68 : decode cX3_toldOfRow 68 = .ok (.iload_n 2, 1) := by decide +kernel
theorem dX3_toldOfRow_69 : decode cX3_toldOfRow 69 = .ok (.aload_n 0, 1) := by decide +kernel
theorem dX3_toldOfRow_70 : decode cX3_toldOfRow 70 = .ok (.getfield 63, 3) := by decide +kernel
theorem dX3_toldOfRow_73 : decode cX3_toldOfRow 73 = .ok (.if_icmp .ge 12, 3) := by decide +kernel
theorem dX3_toldOfRow_76 : decode cX3_toldOfRow 76 = .ok (.aload_n 0, 1) := by decide +kernel
theorem dX3_toldOfRow_77 : decode cX3_toldOfRow 77 = .ok (.getfield 35, 3) := by decide +kernel
theorem dX3_toldOfRow_80 : decode cX3_toldOfRow 80 = .ok (.iload_n 2, 1) := by decide +kernel
theorem dX3_toldOfRow_81 : decode cX3_toldOfRow 81 = .ok (.iaload, 1) := by decide +kernel
theorem dX3_toldOfRow_82 : decode cX3_toldOfRow 82 = .ok (.goto 5, 3) := by decide +kernel
theorem dX3_toldOfRow_85 : decode cX3_toldOfRow 85 = .ok (.ldc 21, 2) := by decide +kernel
theorem dX3_toldOfRow_87 : decode cX3_toldOfRow 87 = .ok (.ireturn, 1) := by decide +kernel
theorem dX3_toldOfRow_88 : decode cX3_toldOfRow 88 = .ok (.iload_n 2, 1) := by decide +kernel
theorem dX3_toldOfRow_89 : decode cX3_toldOfRow 89 = .ok (.aload_n 0, 1) := by decide +kernel
theorem dX3_toldOfRow_90 : decode cX3_toldOfRow 90 = .ok (.getfield 66, 3) := by decide +kernel
theorem dX3_toldOfRow_93 : decode cX3_toldOfRow 93 = .ok (.if_icmp .ge 17, 3) := by decide +kernel
theorem dX3_toldOfRow_96 : decode cX3_toldOfRow 96 = .ok (.aload_n 0, 1) := by decide +kernel
theorem dX3_toldOfRow_97 : decode cX3_toldOfRow 97 = .ok (.getfield 32, 3) := by decide +kernel
theorem dX3_toldOfRow_100 : decode cX3_toldOfRow 100 = .ok (.aload_n 0, 1) := by decide +kernel
theorem dX3_toldOfRow_101 : decode cX3_toldOfRow 101 = .ok (.getfield 63, 3) := by decide +kernel
theorem dX3_toldOfRow_104 : decode cX3_toldOfRow 104 = .ok (.iload_n 2, 1) := by decide +kernel
theorem dX3_toldOfRow_105 : decode cX3_toldOfRow 105 = .ok (.iadd, 1) := by decide +kernel
theorem dX3_toldOfRow_106 : decode cX3_toldOfRow 106 = .ok (.iaload, 1) := by decide +kernel
theorem dX3_toldOfRow_107 : decode cX3_toldOfRow 107 = .ok (.goto 5, 3) := by decide +kernel
theorem dX3_toldOfRow_110 : decode cX3_toldOfRow 110 = .ok (.ldc 21, 2) := by decide +kernel
theorem dX3_toldOfRow_112 : decode cX3_toldOfRow 112 = .ok (.ireturn, 1) := by decide +kernel
theorem dX3_toldOfRow_113 : decode cX3_toldOfRow 113 = .ok (.iload_n 2, 1) := by decide +kernel
theorem dX3_toldOfRow_114 : decode cX3_toldOfRow 114 = .ok (.aload_n 0, 1) := by decide +kernel
theorem dX3_toldOfRow_115 : decode cX3_toldOfRow 115 = .ok (.getfield 66, 3) := by decide +kernel
theorem dX3_toldOfRow_118 : decode cX3_toldOfRow 118 = .ok (.if_icmp .ge 17, 3) := by decide +kernel
theorem dX3_toldOfRow_121 : decode cX3_toldOfRow 121 = .ok (.aload_n 0, 1) := by decide +kernel
theorem dX3_toldOfRow_122 : decode cX3_toldOfRow 122 = .ok (.getfield 35, 3) := by decide +kernel
theorem dX3_toldOfRow_125 : decode cX3_toldOfRow 125 = .ok (.aload_n 0, 1) := by decide +kernel
theorem dX3_toldOfRow_126 : decode cX3_toldOfRow 126 = .ok (.getfield 63, 3) := by decide +kernel
theorem dX3_toldOfRow_129 : decode cX3_toldOfRow 129 = .ok (.iload_n 2, 1) := by decide +kernel
theorem dX3_toldOfRow_130 : decode cX3_toldOfRow 130 = .ok (.iadd, 1) := by decide +kernel
theorem dX3_toldOfRow_131 : decode cX3_toldOfRow 131 = .ok (.iaload, 1) := by decide +kernel
theorem dX3_toldOfRow_132 : decode cX3_toldOfRow 132 = .ok (.goto 5, 3) := by decide +kernel
theorem dX3_toldOfRow_135 : decode cX3_toldOfRow 135 = .ok (.ldc 21, 2) := by decide +kernel
theorem dX3_toldOfRow_137 : decode cX3_toldOfRow 137 = .ok (.ireturn, 1) := by decide +kernel
theorem dX3_toldOfRow_138 : decode cX3_toldOfRow 138 = .ok (.iload_n 2, 1) := by decide +kernel
theorem dX3_toldOfRow_139 : decode cX3_toldOfRow 139 = .ok (.aload_n 0, 1) := by decide +kernel
theorem dX3_toldOfRow_140 : decode cX3_toldOfRow 140 = .ok (.getfield 28, 3) := by decide +kernel
theorem dX3_toldOfRow_143 : decode cX3_toldOfRow 143 = .ok (.getfield 147, 3) := by decide +kernel
theorem dX3_toldOfRow_146 : decode cX3_toldOfRow 146 = .ok (.if_icmp .ge 15, 3) := by decide +kernel
theorem dX3_toldOfRow_149 : decode cX3_toldOfRow 149 = .ok (.aload_n 0, 1) := by decide +kernel
theorem dX3_toldOfRow_150 : decode cX3_toldOfRow 150 = .ok (.getfield 28, 3) := by decide +kernel
theorem dX3_toldOfRow_153 : decode cX3_toldOfRow 153 = .ok (.getfield 140, 3) := by decide +kernel
theorem dX3_toldOfRow_156 : decode cX3_toldOfRow 156 = .ok (.iload_n 2, 1) := by decide +kernel
theorem dX3_toldOfRow_157 : decode cX3_toldOfRow 157 = .ok (.iaload, 1) := by decide +kernel
theorem dX3_toldOfRow_158 : decode cX3_toldOfRow 158 = .ok (.goto 5, 3) := by decide +kernel
theorem dX3_toldOfRow_161 : decode cX3_toldOfRow 161 = .ok (.ldc 21, 2) := by decide +kernel
theorem dX3_toldOfRow_163 : decode cX3_toldOfRow 163 = .ok (.ireturn, 1) := by decide +kernel
theorem dX3_toldOfRow_164 : decode cX3_toldOfRow 164 = .ok (.iload_n 2, 1) := by decide +kernel
theorem dX3_toldOfRow_165 : decode cX3_toldOfRow 165 = .ok (.aload_n 0, 1) := by decide +kernel
theorem dX3_toldOfRow_166 : decode cX3_toldOfRow 166 = .ok (.getfield 59, 3) := by decide +kernel
theorem dX3_toldOfRow_169 : decode cX3_toldOfRow 169 = .ok (.if_icmp .ge 12, 3) := by decide +kernel
theorem dX3_toldOfRow_172 : decode cX3_toldOfRow 172 = .ok (.aload_n 0, 1) := by decide +kernel
theorem dX3_toldOfRow_173 : decode cX3_toldOfRow 173 = .ok (.getfield 18, 3) := by decide +kernel
theorem dX3_toldOfRow_176 : decode cX3_toldOfRow 176 = .ok (.iload_n 2, 1) := by decide +kernel
theorem dX3_toldOfRow_177 : decode cX3_toldOfRow 177 = .ok (.iaload, 1) := by decide +kernel
theorem dX3_toldOfRow_178 : decode cX3_toldOfRow 178 = .ok (.goto 5, 3) := by decide +kernel
theorem dX3_toldOfRow_181 : decode cX3_toldOfRow 181 = .ok (.ldc 21, 2) := by decide +kernel
theorem dX3_toldOfRow_183 : decode cX3_toldOfRow 183 = .ok (.ireturn, 1) := by decide +kernel
theorem dX3_toldOfRow_184 : decode cX3_toldOfRow 184 = .ok (.iload_n 1, 1) := by decide +kernel
theorem dX3_toldOfRow_185 : decode cX3_toldOfRow 185 = .ok (.sipush 700, 3) := by decide +kernel
theorem dX3_toldOfRow_188 : decode cX3_toldOfRow 188 = .ok (.isub, 1) := by decide +kernel
theorem dX3_toldOfRow_189 : decode cX3_toldOfRow 189 = .ok (.aload_n 0, 1) := by decide +kernel
theorem dX3_toldOfRow_190 : decode cX3_toldOfRow 190 = .ok (.getfield 79, 3) := by decide +kernel
theorem dX3_toldOfRow_193 : decode cX3_toldOfRow 193 = .ok (.if_icmp .ge 16, 3) := by decide +kernel
theorem dX3_toldOfRow_196 : decode cX3_toldOfRow 196 = .ok (.aload_n 0, 1) := by decide +kernel
theorem dX3_toldOfRow_197 : decode cX3_toldOfRow 197 = .ok (.getfield 15, 3) := by decide +kernel
theorem dX3_toldOfRow_200 : decode cX3_toldOfRow 200 = .ok (.iload_n 1, 1) := by decide +kernel
theorem dX3_toldOfRow_201 : decode cX3_toldOfRow 201 = .ok (.sipush 700, 3) := by decide +kernel
theorem dX3_toldOfRow_204 : decode cX3_toldOfRow 204 = .ok (.isub, 1) := by decide +kernel
theorem dX3_toldOfRow_205 : decode cX3_toldOfRow 205 = .ok (.iaload, 1) := by decide +kernel
theorem dX3_toldOfRow_206 : decode cX3_toldOfRow 206 = .ok (.goto 5, 3) := by decide +kernel
theorem dX3_toldOfRow_209 : decode cX3_toldOfRow 209 = .ok (.ldc 21, 2) := by decide +kernel
theorem dX3_toldOfRow_211 : decode cX3_toldOfRow 211 = .ok (.ireturn, 1) := by decide +kernel
theorem dX4_actOf_0 : decode cX4_actOf 0 = .ok (.iconst 0, 1) := by decide +kernel
theorem dX4_actOf_1 : decode cX4_actOf 1 = .ok (.istore_n 2, 1) := by decide +kernel
theorem dX4_actOf_2 : decode cX4_actOf 2 = .ok (.iload_n 2, 1) := by decide +kernel
theorem dX4_actOf_3 : decode cX4_actOf 3 = .ok (.aload_n 0, 1) := by decide +kernel
theorem dX4_actOf_4 : decode cX4_actOf 4 = .ok (.getfield 11, 3) := by decide +kernel
theorem dX4_actOf_7 : decode cX4_actOf 7 = .ok (.iload_n 1, 1) := by decide +kernel
theorem dX4_actOf_8 : decode cX4_actOf 8 = .ok (.iaload, 1) := by decide +kernel
theorem dX4_actOf_9 : decode cX4_actOf 9 = .ok (.if_icmp .ge 46, 3) := by decide +kernel
theorem dX4_actOf_12 : decode cX4_actOf 12 = .ok (.iload_n 1, 1) := by decide +kernel
theorem dX4_actOf_13 : decode cX4_actOf 13 = .ok (.iconst 5, 1) := by decide +kernel
theorem dX4_actOf_14 : decode cX4_actOf 14 = .ok (.imul, 1) := by decide +kernel
theorem dX4_actOf_15 : decode cX4_actOf 15 = .ok (.iload_n 2, 1) := by decide +kernel
theorem dX4_actOf_16 : decode cX4_actOf 16 = .ok (.iadd, 1) := by decide +kernel
theorem dX4_actOf_17 : decode cX4_actOf 17 = .ok (.istore_n 3, 1) := by decide +kernel
theorem dX4_actOf_18 : decode cX4_actOf 18 = .ok (.aload_n 0, 1) := by decide +kernel
theorem dX4_actOf_19 : decode cX4_actOf 19 = .ok (.getfield 21, 3) := by decide +kernel
theorem dX4_actOf_22 : decode cX4_actOf 22 = .ok (.iload_n 3, 1) := by decide +kernel
theorem dX4_actOf_23 : decode cX4_actOf 23 = .ok (.iaload, 1) := by decide +kernel
theorem dX4_actOf_24 : decode cX4_actOf 24 = .ok (.istore 4, 2) := by decide +kernel
theorem dX4_actOf_26 : decode cX4_actOf 26 = .ok (.iload 4, 2) := by decide +kernel
theorem dX4_actOf_28 : decode cX4_actOf 28 = .ok (.ifCond .eq 19, 3) := by decide +kernel
theorem dX4_actOf_31 : decode cX4_actOf 31 = .ok (.aload_n 0, 1) := by decide +kernel
theorem dX4_actOf_32 : decode cX4_actOf 32 = .ok (.getfield 30, 3) := by decide +kernel
theorem dX4_actOf_35 : decode cX4_actOf 35 = .ok (.iload 4, 2) := by decide +kernel
theorem dX4_actOf_37 : decode cX4_actOf 37 = .ok (.iaload, 1) := by decide +kernel
theorem dX4_actOf_38 : decode cX4_actOf 38 = .ok (.aload_n 0, 1) := by decide +kernel
theorem dX4_actOf_39 : decode cX4_actOf 39 = .ok (.getfield 24, 3) := by decide +kernel
theorem dX4_actOf_42 : decode cX4_actOf 42 = .ok (.iload_n 3, 1) := by decide +kernel
theorem dX4_actOf_43 : decode cX4_actOf 43 = .ok (.iaload, 1) := by decide +kernel
theorem dX4_actOf_44 : decode cX4_actOf 44 = .ok (.if_icmp .ne 5, 3) := by decide +kernel
theorem dX4_actOf_47 : decode cX4_actOf 47 = .ok (.iload_n 2, 1) := by decide +kernel
theorem dX4_actOf_48 : decode cX4_actOf 48 = .ok (.ireturn, 1) := by decide +kernel
theorem dX4_actOf_49 : decode cX4_actOf 49 = .ok (.iinc 2 1, 3) := by decide +kernel
theorem dX4_actOf_52 : decode cX4_actOf 52 = .ok (.goto (-50), 3) := by decide +kernel
theorem dX4_actOf_55 : decode cX4_actOf 55 = .ok (.aload_n 0, 1) := by decide +kernel
theorem dX4_actOf_56 : decode cX4_actOf 56 = .ok (.getfield 11, 3) := by decide +kernel
theorem dX4_actOf_59 : decode cX4_actOf 59 = .ok (.iload_n 1, 1) := by decide +kernel
theorem dX4_actOf_60 : decode cX4_actOf 60 = .ok (.iaload, 1) := by decide +kernel
theorem dX4_actOf_61 : decode cX4_actOf 61 = .ok (.ireturn, 1) := by decide +kernel
theorem dX4_figure_0 : decode cX4_figure 0 = .ok (.aload_n 0, 1) := by decide +kernel
theorem dX4_figure_1 : decode cX4_figure 1 = .ok (.getfield 27, 3) := by decide +kernel
theorem dX4_figure_4 : decode cX4_figure 4 = .ok (.iload_n 2, 1) := by decide +kernel
theorem dX4_figure_5 : decode cX4_figure 5 = .ok (.iaload, 1) := by decide +kernel
theorem dX4_figure_6 : decode cX4_figure 6 = .ok (.istore_n 3, 1) := by decide +kernel
theorem dX4_figure_7 : decode cX4_figure 7 = .ok (.iload_n 3, 1) := by decide +kernel
theorem dX4_figure_8 : decode cX4_figure 8 = .ok (.ifCond .le 18, 3) := by decide +kernel
theorem dX4_figure_11 : decode cX4_figure 11 = .ok (.iload_n 1, 1) := by decide +kernel
theorem dX4_figure_12 : decode cX4_figure 12 = .ok (.iload_n 3, 1) := by decide +kernel
theorem dX4_figure_13 : decode cX4_figure 13 = .ok (.idiv, 1) := by decide +kernel
theorem dX4_figure_14 : decode cX4_figure 14 = .ok (.aload_n 0, 1) := by decide +kernel
theorem dX4_figure_15 : decode cX4_figure 15 = .ok (.getfield 11, 3) := by decide +kernel
theorem dX4_figure_18 : decode cX4_figure 18 = .ok (.iload_n 2, 1) := by decide +kernel
theorem dX4_figure_19 : decode cX4_figure 19 = .ok (.iaload, 1) := by decide +kernel
theorem dX4_figure_20 : decode cX4_figure 20 = .ok (.iconst 1, 1) := by decide +kernel
theorem dX4_figure_21 : decode cX4_figure 21 = .ok (.iadd, 1) := by decide +kernel
theorem dX4_figure_22 : decode cX4_figure 22 = .ok (.irem, 1) := by decide +kernel
theorem dX4_figure_23 : decode cX4_figure 23 = .ok (.goto 4, 3) := by decide +kernel
theorem dX4_figure_26 : decode cX4_figure 26 = .ok (.iconst 0, 1) := by decide +kernel
theorem dX4_figure_27 : decode cX4_figure 27 = .ok (.ireturn, 1) := by decide +kernel
theorem dX4_forget_0 : decode cX4_forget 0 = .ok (.iconst 0, 1) := by decide +kernel
theorem dX4_forget_1 : decode cX4_forget 1 = .ok (.istore_n 1, 1) := by decide +kernel
theorem dX4_forget_2 : decode cX4_forget 2 = .ok (.iconst 1, 1) := by decide +kernel
theorem dX4_forget_3 : decode cX4_forget 3 = .ok (.istore_n 2, 1) := by decide +kernel
theorem dX4_forget_4 : decode cX4_forget 4 = .ok (.iload_n 2, 1) := by decide +kernel
theorem dX4_forget_5 : decode cX4_forget 5 = .ok (.bipush 7, 2) := by decide +kernel
theorem dX4_forget_7 : decode cX4_forget 7 = .ok (.if_icmp .ge 25, 3) := by decide +kernel
theorem dX4_forget_10 : decode cX4_forget 10 = .ok (.iload_n 1, 1) := by decide +kernel
theorem dX4_forget_11 : decode cX4_forget 11 = .ok (.aload_n 0, 1) := by decide +kernel
theorem dX4_forget_12 : decode cX4_forget 12 = .ok (.getfield 11, 3) := by decide +kernel
theorem dX4_forget_15 : decode cX4_forget 15 = .ok (.iload_n 2, 1) := by decide +kernel
theorem dX4_forget_16 : decode cX4_forget 16 = .ok (.iaload, 1) := by decide +kernel
theorem dX4_forget_17 : decode cX4_forget 17 = .ok (.iadd, 1) := by decide +kernel
theorem dX4_forget_18 : decode cX4_forget 18 = .ok (.istore_n 1, 1) := by decide +kernel
theorem dX4_forget_19 : decode cX4_forget 19 = .ok (.aload_n 0, 1) := by decide +kernel
theorem dX4_forget_20 : decode cX4_forget 20 = .ok (.getfield 11, 3) := by decide +kernel
theorem dX4_forget_23 : decode cX4_forget 23 = .ok (.iload_n 2, 1) := by decide +kernel
theorem dX4_forget_24 : decode cX4_forget 24 = .ok (.iconst 0, 1) := by decide +kernel
theorem dX4_forget_25 : decode cX4_forget 25 = .ok (.iastore, 1) := by decide +kernel
theorem dX4_forget_26 : decode cX4_forget 26 = .ok (.iinc 2 1, 3) := by decide +kernel
theorem dX4_forget_29 : decode cX4_forget 29 = .ok (.goto (-25), 3) := by decide +kernel
theorem dX4_forget_32 : decode cX4_forget 32 = .ok (.aload_n 0, 1) := by decide +kernel
theorem dX4_forget_33 : decode cX4_forget 33 = .ok (.iconst 0, 1) := by decide +kernel
theorem dX4_forget_34 : decode cX4_forget 34 = .ok (.putfield 52, 3) := by decide +kernel
theorem dX4_forget_37 : decode cX4_forget 37 = .ok (.aload_n 0, 1) := by decide +kernel
theorem dX4_forget_38 : decode cX4_forget 38 = .ok (.iconst 0, 1) := by decide +kernel
theorem dX4_forget_39 : decode cX4_forget 39 = .ok (.putfield 56, 3) := by decide +kernel
theorem dX4_forget_42 : decode cX4_forget 42 = .ok (.iload_n 1, 1) := by decide +kernel
theorem dX4_forget_43 : decode cX4_forget 43 = .ok (.ireturn, 1) := by decide +kernel
theorem dX4_isRest_0 : decode cX4_isRest 0 = .ok (.iconst 1, 1) := by decide +kernel
theorem dX4_isRest_1 : decode cX4_isRest 1 = .ok (.istore_n 1, 1) := by decide +kernel
theorem dX4_isRest_2 : decode cX4_isRest 2 = .ok (.iload_n 1, 1) := by decide +kernel
theorem dX4_isRest_3 : decode cX4_isRest 3 = .ok (.bipush 7, 2) := by decide +kernel
theorem dX4_isRest_5 : decode cX4_isRest 5 = .ok (.if_icmp .ge 25, 3) := by decide +kernel
theorem dX4_isRest_8 : decode cX4_isRest 8 = .ok (.aload_n 0, 1) := by decide +kernel
theorem dX4_isRest_9 : decode cX4_isRest 9 = .ok (.getfield 30, 3) := by decide +kernel
theorem dX4_isRest_12 : decode cX4_isRest 12 = .ok (.iload_n 1, 1) := by decide +kernel
theorem dX4_isRest_13 : decode cX4_isRest 13 = .ok (.iaload, 1) := by decide +kernel
theorem dX4_isRest_14 : decode cX4_isRest 14 = .ok (.aload_n 0, 1) := by decide +kernel
theorem dX4_isRest_15 : decode cX4_isRest 15 = .ok (.iload_n 1, 1) := by decide +kernel
theorem dX4_isRest_16 : decode cX4_isRest 16 = .ok (.invokevirtual 71, 3) := by decide +kernel
theorem dX4_isRest_19 : decode cX4_isRest 19 = .ok (.if_icmp .eq 5, 3) := by decide +kernel
theorem dX4_isRest_22 : decode cX4_isRest 22 = .ok (.iconst 0, 1) := by decide +kernel
theorem dX4_isRest_23 : decode cX4_isRest 23 = .ok (.ireturn, 1) := by decide +kernel
theorem dX4_isRest_24 : decode cX4_isRest 24 = .ok (.iinc 1 1, 3) := by decide +kernel
theorem dX4_isRest_27 : decode cX4_isRest 27 = .ok (.goto (-25), 3) := by decide +kernel
theorem dX4_isRest_30 : decode cX4_isRest 30 = .ok (.iconst 1, 1) := by decide +kernel
theorem dX4_isRest_31 : decode cX4_isRest 31 = .ok (.ireturn, 1) := by decide +kernel
theorem dX4_isWish_0 : decode cX4_isWish 0 = .ok (.iload_n 1, 1) := by decide +kernel
theorem dX4_isWish_1 : decode cX4_isWish 1 = .ok (.iconst 2, 1) := by decide +kernel
theorem dX4_isWish_2 : decode cX4_isWish 2 = .ok (.if_icmp .lt 17, 3) := by decide +kernel
theorem dX4_isWish_5 : decode cX4_isWish 5 = .ok (.iload_n 1, 1) := by decide +kernel
theorem dX4_isWish_6 : decode cX4_isWish 6 = .ok (.bipush 7, 2) := by decide +kernel
theorem dX4_isWish_8 : decode cX4_isWish 8 = .ok (.if_icmp .gt 11, 3) := by decide +kernel
theorem dX4_isWish_11 : decode cX4_isWish 11 = .ok (.aload_n 0, 1) := by decide +kernel
theorem dX4_isWish_12 : decode cX4_isWish 12 = .ok (.iload_n 1, 1) := by decide +kernel
theorem dX4_isWish_13 : decode cX4_isWish 13 = .ok (.iconst 1, 1) := by decide +kernel
theorem dX4_isWish_14 : decode cX4_isWish 14 = .ok (.isub, 1) := by decide +kernel
theorem dX4_isWish_15 : decode cX4_isWish 15 = .ok (.iaload, 1) := by decide +kernel
theorem dX4_isWish_16 : decode cX4_isWish 16 = .ok (.ifCond .eq 5, 3) := by decide +kernel
theorem dX4_isWish_19 : decode cX4_isWish 19 = .ok (.iconst 0, 1) := by decide +kernel
theorem dX4_isWish_20 : decode cX4_isWish 20 = .ok (.ireturn, 1) := by decide +kernel
theorem dX4_isWish_21 : decode cX4_isWish 21 = .ok (.iconst 0, 1) := by decide +kernel
theorem dX4_isWish_22 : decode cX4_isWish 22 = .ok (.istore_n 2, 1) := by decide +kernel
theorem dX4_isWish_23 : decode cX4_isWish 23 = .ok (.iconst 0, 1) := by decide +kernel
theorem dX4_isWish_24 : decode cX4_isWish 24 = .ok (.istore_n 3, 1) := by decide +kernel
theorem dX4_isWish_25 : decode cX4_isWish 25 = .ok (.iload_n 3, 1) := by decide +kernel
theorem dX4_isWish_26 : decode cX4_isWish 26 = .ok (.iload_n 1, 1) := by decide +kernel
theorem dX4_isWish_27 : decode cX4_isWish 27 = .ok (.if_icmp .ge 37, 3) := by decide +kernel
theorem dX4_isWish_30 : decode cX4_isWish 30 = .ok (.aload_n 0, 1) := by decide +kernel
theorem dX4_isWish_31 : decode cX4_isWish 31 = .ok (.iload_n 3, 1) := by decide +kernel
theorem dX4_isWish_32 : decode cX4_isWish 32 = .ok (.iaload, 1) := by decide +kernel
theorem dX4_isWish_33 : decode cX4_isWish 33 = .ok (.bipush 7, 2) := by decide +kernel
theorem dX4_isWish_35 : decode cX4_isWish 35 = .ok (.if_icmp .ge 13, 3) := by decide +kernel
theorem dX4_isWish_38 : decode cX4_isWish 38 = .ok (.iload_n 2, 1) := by decide +kernel
theorem dX4_isWish_39 : decode cX4_isWish 39 = .ok (.aload_n 0, 1) := by decide +kernel
theorem dX4_isWish_40 : decode cX4_isWish 40 = .ok (.iload_n 3, 1) := by decide +kernel
theorem dX4_isWish_41 : decode cX4_isWish 41 = .ok (.iaload, 1) := by decide +kernel
theorem dX4_isWish_42 : decode cX4_isWish 42 = .ok (.ishr, 1) := by decide +kernel
theorem dX4_isWish_43 : decode cX4_isWish 43 = .ok (.iconst 1, 1) := by decide +kernel
theorem dX4_isWish_44 : decode cX4_isWish 44 = .ok (.iand, 1) := by decide +kernel
theorem dX4_isWish_45 : decode cX4_isWish 45 = .ok (.ifCond .eq 5, 3) := by decide +kernel
theorem dX4_isWish_48 : decode cX4_isWish 48 = .ok (.iconst 0, 1) := by decide +kernel
theorem dX4_isWish_49 : decode cX4_isWish 49 = .ok (.ireturn, 1) := by decide +kernel
theorem dX4_isWish_50 : decode cX4_isWish 50 = .ok (.iload_n 2, 1) := by decide +kernel
theorem dX4_isWish_51 : decode cX4_isWish 51 = .ok (.iconst 1, 1) := by decide +kernel
theorem dX4_isWish_52 : decode cX4_isWish 52 = .ok (.aload_n 0, 1) := by decide +kernel
theorem dX4_isWish_53 : decode cX4_isWish 53 = .ok (.iload_n 3, 1) := by decide +kernel
theorem dX4_isWish_54 : decode cX4_isWish 54 = .ok (.iaload, 1) := by decide +kernel
theorem dX4_isWish_55 : decode cX4_isWish 55 = .ok (.ishl, 1) := by decide +kernel
theorem dX4_isWish_56 : decode cX4_isWish 56 = .ok (.ior, 1) := by decide +kernel
theorem dX4_isWish_57 : decode cX4_isWish 57 = .ok (.istore_n 2, 1) := by decide +kernel
theorem dX4_isWish_58 : decode cX4_isWish 58 = .ok (.iinc 3 1, 3) := by decide +kernel
theorem dX4_isWish_61 : decode cX4_isWish 61 = .ok (.goto (-36), 3) := by decide +kernel
theorem dX4_isWish_64 : decode cX4_isWish 64 = .ok (.iconst 1, 1) := by decide +kernel
theorem dX4_isWish_65 : decode cX4_isWish 65 = .ok (.ireturn, 1) := by decide +kernel
theorem dX4_unfold_0 : decode cX4_unfold 0 = .ok (.iconst 1, 1) := by decide +kernel
theorem dX4_unfold_1 : decode cX4_unfold 1 = .ok (.istore_n 2, 1) := by decide +kernel
theorem dX4_unfold_2 : decode cX4_unfold 2 = .ok (.iload_n 2, 1) := by decide +kernel
theorem dX4_unfold_3 : decode cX4_unfold 3 = .ok (.bipush 7, 2) := by decide +kernel
theorem dX4_unfold_5 : decode cX4_unfold 5 = .ok (.if_icmp .ge 21, 3) := by decide +kernel
theorem dX4_unfold_8 : decode cX4_unfold 8 = .ok (.aload_n 0, 1) := by decide +kernel
theorem dX4_unfold_9 : decode cX4_unfold 9 = .ok (.getfield 30, 3) := by decide +kernel
theorem dX4_unfold_12 : decode cX4_unfold 12 = .ok (.iload_n 2, 1) := by decide +kernel
theorem dX4_unfold_13 : decode cX4_unfold 13 = .ok (.aload_n 0, 1) := by decide +kernel
theorem dX4_unfold_14 : decode cX4_unfold 14 = .ok (.iload_n 1, 1) := by decide +kernel
theorem dX4_unfold_15 : decode cX4_unfold 15 = .ok (.iload_n 2, 1) := by decide +kernel
theorem dX4_unfold_16 : decode cX4_unfold 16 = .ok (.invokevirtual 75, 3) := by decide +kernel
theorem dX4_unfold_19 : decode cX4_unfold 19 = .ok (.iastore, 1) := by decide +kernel
theorem dX4_unfold_20 : decode cX4_unfold 20 = .ok (.iinc 2 1, 3) := by decide +kernel
theorem dX4_unfold_23 : decode cX4_unfold 23 = .ok (.goto (-21), 3) := by decide +kernel
theorem dX4_unfold_26 : decode cX4_unfold 26 = .ok (.return_, 1) := by decide +kernel
theorem dX6_beginsPiece_0 : decode cX6_beginsPiece 0 = .ok (.iload_n 0, 1) := by decide +kernel
theorem dX6_beginsPiece_1 : decode cX6_beginsPiece 1 = .ok (.bipush (-2), 2) := by decide +kernel
theorem dX6_beginsPiece_3 : decode cX6_beginsPiece 3 = .ok (.if_icmp .eq 16, 3) := by decide +kernel
theorem dX6_beginsPiece_6 : decode cX6_beginsPiece 6 = .ok (.iload_n 0, 1) := by decide +kernel
theorem dX6_beginsPiece_7 : decode cX6_beginsPiece 7 = .ok (.bipush 7, 2) := by decide +kernel
theorem dX6_beginsPiece_9 : decode cX6_beginsPiece 9 = .ok (.if_icmp .eq 10, 3) := by decide +kernel
theorem dX6_beginsPiece_12 : decode cX6_beginsPiece 12 = .ok (.iload_n 0, 1) := by decide +kernel
theorem dX6_beginsPiece_13 : decode cX6_beginsPiece 13 = .ok (.sipush 1040, 3) := by decide +kernel
theorem dX6_beginsPiece_16 : decode cX6_beginsPiece 16 = .ok (.if_icmp .ne 7, 3) := by decide +kernel
theorem dX6_beginsPiece_19 : decode cX6_beginsPiece 19 = .ok (.iconst 1, 1) := by decide +kernel
theorem dX6_beginsPiece_20 : decode cX6_beginsPiece 20 = .ok (.goto 4, 3) := by decide +kernel
theorem dX6_beginsPiece_23 : decode cX6_beginsPiece 23 = .ok (.iconst 0, 1) := by decide +kernel
theorem dX6_beginsPiece_24 : decode cX6_beginsPiece 24 = .ok (.ireturn, 1) := by decide +kernel
theorem dX6_expect_0 : decode cX6_expect 0 = .ok (.aload_n 0, 1) := by decide +kernel
theorem dX6_expect_1 : decode cX6_expect 1 = .ok (.iload_n 1, 1) := by decide +kernel
theorem dX6_expect_2 : decode cX6_expect 2 = .ok (.invokevirtual 120, 3) := by decide +kernel
theorem dX6_expect_5 : decode cX6_expect 5 = .ok (.ifCond .ne 8, 3) := by decide +kernel
theorem dX6_expect_8 : decode cX6_expect 8 = .ok (.aload_n 0, 1) := by decide +kernel
theorem dX6_expect_9 : decode cX6_expect 9 = .ok (.iconst 2, 1) := by decide +kernel
theorem dX6_expect_10 : decode cX6_expect 10 = .ok (.invokevirtual 123, 3) := by decide +kernel
theorem dX6_expect_13 : decode cX6_expect 13 = .ok (.return_, 1) := by decide +kernel
theorem dX6_fail_0 : decode cX6_fail 0 = .ok (.aload_n 0, 1) := by decide +kernel
theorem dX6_fail_1 : decode cX6_fail 1 = .ok (.getfield 37, 3) := by decide +kernel
theorem dX6_fail_4 : decode cX6_fail 4 = .ok (.ifCond .ne 39, 3) := by decide +kernel
theorem dX6_fail_7 : decode cX6_fail 7 = .ok (.aload_n 0, 1) := by decide +kernel
theorem dX6_fail_8 : decode cX6_fail 8 = .ok (.aload_n 0, 1) := by decide +kernel
theorem dX6_fail_9 : decode cX6_fail 9 = .ok (.getfield 9, 3) := by decide +kernel
theorem dX6_fail_12 : decode cX6_fail 12 = .ok (.aload_n 0, 1) := by decide +kernel
theorem dX6_fail_13 : decode cX6_fail 13 = .ok (.getfield 63, 3) := by decide +kernel
theorem dX6_fail_16 : decode cX6_fail 16 = .ok (.iaload, 1) := by decide +kernel
theorem dX6_fail_17 : decode cX6_fail 17 = .ok (.bipush (-3), 2) := by decide +kernel
theorem dX6_fail_19 : decode cX6_fail 19 = .ok (.if_icmp .ne 7, 3) := by decide +kernel
theorem dX6_fail_22 : decode cX6_fail 22 = .ok (.iconst 1, 1) := by decide +kernel
theorem dX6_fail_23 : decode cX6_fail 23 = .ok (.goto 4, 3) := by decide +kernel
theorem dX6_fail_26 : decode cX6_fail 26 = .ok (.iload_n 1, 1) := by decide +kernel
theorem dX6_fail_27 : decode cX6_fail 27 = .ok (.putfield 37, 3) := by decide +kernel
theorem dX6_fail_30 : decode cX6_fail 30 = .ok (.aload_n 0, 1) := by decide +kernel
theorem dX6_fail_31 : decode cX6_fail 31 = .ok (.aload_n 0, 1) := by decide +kernel
theorem dX6_fail_32 : decode cX6_fail 32 = .ok (.getfield 18, 3) := by decide +kernel
theorem dX6_fail_35 : decode cX6_fail 35 = .ok (.aload_n 0, 1) := by decide +kernel
theorem dX6_fail_36 : decode cX6_fail 36 = .ok (.getfield 63, 3) := by decide +kernel
theorem dX6_fail_39 : decode cX6_fail 39 = .ok (.iaload, 1) := by decide +kernel
theorem dX6_fail_40 : decode cX6_fail 40 = .ok (.putfield 41, 3) := by decide +kernel
theorem dX6_fail_43 : decode cX6_fail 43 = .ok (.aload_n 0, 1) := by decide +kernel
theorem dX6_fail_44 : decode cX6_fail 44 = .ok (.aload_n 0, 1) := by decide +kernel
theorem dX6_fail_45 : decode cX6_fail 45 = .ok (.getfield 83, 3) := by decide +kernel
theorem dX6_fail_48 : decode cX6_fail 48 = .ok (.putfield 63, 3) := by decide +kernel
theorem dX6_fail_51 : decode cX6_fail 51 = .ok (.return_, 1) := by decide +kernel
theorem dX6_isAct_0 : decode cX6_isAct 0 = .ok (.iload_n 0, 1) := by decide +kernel
theorem dX6_isAct_1 : decode cX6_isAct 1 = .ok (.bipush 12, 2) := by decide +kernel
theorem dX6_isAct_3 : decode cX6_isAct 3 = .ok (.if_icmp .eq 21, 3) := by decide +kernel
theorem dX6_isAct_6 : decode cX6_isAct 6 = .ok (.iload_n 0, 1) := by decide +kernel
theorem dX6_isAct_7 : decode cX6_isAct 7 = .ok (.bipush 13, 2) := by decide +kernel
theorem dX6_isAct_9 : decode cX6_isAct 9 = .ok (.if_icmp .eq 15, 3) := by decide +kernel
theorem dX6_isAct_12 : decode cX6_isAct 12 = .ok (.iload_n 0, 1) := by decide +kernel
theorem dX6_isAct_13 : decode cX6_isAct 13 = .ok (.bipush 23, 2) := by decide +kernel
theorem dX6_isAct_15 : decode cX6_isAct 15 = .ok (.if_icmp .lt 13, 3) := by decide +kernel
theorem dX6_isAct_18 : decode cX6_isAct 18 = .ok (.iload_n 0, 1) := by decide +kernel
theorem dX6_isAct_19 : decode cX6_isAct 19 = .ok (.bipush 28, 2) := by decide +kernel
theorem dX6_isAct_21 : decode cX6_isAct 21 = .ok (.if_icmp .gt 7, 3) := by decide +kernel
theorem dX6_isAct_24 : decode cX6_isAct 24 = .ok (.iconst 1, 1) := by decide +kernel
theorem dX6_isAct_25 : decode cX6_isAct 25 = .ok (.goto 4, 3) := by decide +kernel
theorem dX6_isAct_28 : decode cX6_isAct 28 = .ok (.iconst 0, 1) := by decide +kernel
theorem dX6_isAct_29 : decode cX6_isAct 29 = .ok (.ireturn, 1) := by decide +kernel
theorem dX6_isFigure_0 : decode cX6_isFigure 0 = .ok (.iload_n 0, 1) := by decide +kernel
theorem dX6_isFigure_1 : decode cX6_isFigure 1 = .ok (.bipush 48, 2) := by decide +kernel
theorem dX6_isFigure_3 : decode cX6_isFigure 3 = .ok (.if_icmp .lt 13, 3) := by decide +kernel
theorem dX6_isFigure_6 : decode cX6_isFigure 6 = .ok (.iload_n 0, 1) := by decide +kernel
theorem dX6_isFigure_7 : decode cX6_isFigure 7 = .ok (.bipush 57, 2) := by decide +kernel
theorem dX6_isFigure_9 : decode cX6_isFigure 9 = .ok (.if_icmp .gt 7, 3) := by decide +kernel
theorem dX6_isFigure_12 : decode cX6_isFigure 12 = .ok (.iconst 1, 1) := by decide +kernel
theorem dX6_isFigure_13 : decode cX6_isFigure 13 = .ok (.goto 4, 3) := by decide +kernel
theorem dX6_isFigure_16 : decode cX6_isFigure 16 = .ok (.iconst 0, 1) := by decide +kernel
theorem dX6_isFigure_17 : decode cX6_isFigure 17 = .ok (.ireturn, 1) := by decide +kernel
theorem dX6_isLetter_0 : decode cX6_isLetter 0 = .ok (.iload_n 0, 1) := by decide +kernel
theorem dX6_isLetter_1 : decode cX6_isLetter 1 = .ok (.bipush 97, 2) := by decide +kernel
theorem dX6_isLetter_3 : decode cX6_isLetter 3 = .ok (.if_icmp .lt 13, 3) := by decide +kernel
theorem dX6_isLetter_6 : decode cX6_isLetter 6 = .ok (.iload_n 0, 1) := by decide +kernel
theorem dX6_isLetter_7 : decode cX6_isLetter 7 = .ok (.bipush 122, 2) := by decide +kernel
theorem dX6_isLetter_9 : decode cX6_isLetter 9 = .ok (.if_icmp .gt 7, 3) := by decide +kernel
theorem dX6_isLetter_12 : decode cX6_isLetter 12 = .ok (.iconst 1, 1) := by decide +kernel
theorem dX6_isLetter_13 : decode cX6_isLetter 13 = .ok (.goto 4, 3) := by decide +kernel
theorem dX6_isLetter_16 : decode cX6_isLetter 16 = .ok (.iconst 0, 1) := by decide +kernel
theorem dX6_isLetter_17 : decode cX6_isLetter 17 = .ok (.ireturn, 1) := by decide +kernel
theorem dX6_isTest_0 : decode cX6_isTest 0 = .ok (.iload_n 0, 1) := by decide +kernel
theorem dX6_isTest_1 : decode cX6_isTest 1 = .ok (.iconst 4, 1) := by decide +kernel
theorem dX6_isTest_2 : decode cX6_isTest 2 = .ok (.if_icmp .eq 21, 3) := by decide +kernel
theorem dX6_isTest_5 : decode cX6_isTest 5 = .ok (.iload_n 0, 1) := by decide +kernel
theorem dX6_isTest_6 : decode cX6_isTest 6 = .ok (.bipush 6, 2) := by decide +kernel
theorem dX6_isTest_8 : decode cX6_isTest 8 = .ok (.if_icmp .eq 15, 3) := by decide +kernel
theorem dX6_isTest_11 : decode cX6_isTest 11 = .ok (.iload_n 0, 1) := by decide +kernel
theorem dX6_isTest_12 : decode cX6_isTest 12 = .ok (.bipush 8, 2) := by decide +kernel
theorem dX6_isTest_14 : decode cX6_isTest 14 = .ok (.if_icmp .lt 13, 3) := by decide +kernel
theorem dX6_isTest_17 : decode cX6_isTest 17 = .ok (.iload_n 0, 1) := by decide +kernel
theorem dX6_isTest_18 : decode cX6_isTest 18 = .ok (.bipush 15, 2) := by decide +kernel
theorem dX6_isTest_20 : decode cX6_isTest 20 = .ok (.if_icmp .gt 7, 3) := by decide +kernel
theorem dX6_isTest_23 : decode cX6_isTest 23 = .ok (.iconst 1, 1) := by decide +kernel
theorem dX6_isTest_24 : decode cX6_isTest 24 = .ok (.goto 4, 3) := by decide +kernel
theorem dX6_isTest_27 : decode cX6_isTest 27 = .ok (.iconst 0, 1) := by decide +kernel
theorem dX6_isTest_28 : decode cX6_isTest 28 = .ok (.ireturn, 1) := by decide +kernel
theorem dX6_join_0 : decode cX6_join 0 = .ok (.iconst 0, 1) := by decide +kernel
theorem dX6_join_1 : decode cX6_join 1 = .ok (.istore 5, 2) := by decide +kernel
theorem dX6_join_3 : decode cX6_join 3 = .ok (.iload 5, 2) := by decide +kernel
theorem dX6_join_5 : decode cX6_join 5 = .ok (.aload_n 0, 1) := by decide +kernel
theorem dX6_join_6 : decode cX6_join 6 = .ok (.getfield 50, 3) := by decide +kernel
theorem dX6_join_9 : decode cX6_join 9 = .ok (.if_icmp .ge 31, 3) := by decide +kernel
theorem dX6_join_12 : decode cX6_join 12 = .ok (.lload_n 1, 1) := by decide +kernel
theorem dX6_join_13 : decode cX6_join 13 = .ok (.iload 5, 2) := by decide +kernel
theorem dX6_join_15 : decode cX6_join 15 = .ok (.lushr, 1) := by decide +kernel
theorem dX6_join_16 : decode cX6_join 16 = .ok (.lconst 1, 1) := by decide +kernel
theorem dX6_join_17 : decode cX6_join 17 = .ok (.land, 1) := by decide +kernel
theorem dX6_join_18 : decode cX6_join 18 = .ok (.lconst 0, 1) := by decide +kernel
theorem dX6_join_19 : decode cX6_join 19 = .ok (.lcmp, 1) := by decide +kernel
theorem dX6_join_20 : decode cX6_join 20 = .ok (.ifCond .eq 14, 3) := by decide +kernel
theorem dX6_join_23 : decode cX6_join 23 = .ok (.aload_n 0, 1) := by decide +kernel
theorem dX6_join_24 : decode cX6_join 24 = .ok (.getfield 27, 3) := by decide +kernel
theorem dX6_join_27 : decode cX6_join 27 = .ok (.iload 5, 2) := by decide +kernel
theorem dX6_join_29 : decode cX6_join 29 = .ok (.dup2, 1) := by decide +kernel
theorem dX6_join_30 : decode cX6_join 30 = .ok (.laload, 1) := by decide +kernel
theorem dX6_join_31 : decode cX6_join 31 = .ok (.lload_n 3, 1) := by decide +kernel
theorem dX6_join_32 : decode cX6_join 32 = .ok (.lor, 1) := by decide +kernel
theorem dX6_join_33 : decode cX6_join 33 = .ok (.lastore, 1) := by decide +kernel
theorem dX6_join_34 : decode cX6_join 34 = .ok (.iinc 5 1, 3) := by decide +kernel
theorem dX6_join_37 : decode cX6_join 37 = .ok (.goto (-34), 3) := by decide +kernel
theorem dX6_join_40 : decode cX6_join 40 = .ok (.return_, 1) := by decide +kernel
theorem dX6_number_0 : decode cX6_number 0 = .ok (.aload_n 0, 1) := by decide +kernel
theorem dX6_number_1 : decode cX6_number 1 = .ok (.getfield 9, 3) := by decide +kernel
theorem dX6_number_4 : decode cX6_number 4 = .ok (.aload_n 0, 1) := by decide +kernel
theorem dX6_number_5 : decode cX6_number 5 = .ok (.getfield 63, 3) := by decide +kernel
theorem dX6_number_8 : decode cX6_number 8 = .ok (.iaload, 1) := by decide +kernel
theorem dX6_number_9 : decode cX6_number 9 = .ok (.bipush (-2), 2) := by decide +kernel
theorem dX6_number_11 : decode cX6_number 11 = .ok (.if_icmp .eq 10, 3) := by decide +kernel
theorem dX6_number_14 : decode cX6_number 14 = .ok (.aload_n 0, 1) := by decide +kernel
theorem dX6_number_15 : decode cX6_number 15 = .ok (.iconst 2, 1) := by decide +kernel
theorem dX6_number_16 : decode cX6_number 16 = .ok (.invokevirtual 123, 3) := by decide +kernel
theorem dX6_number_19 : decode cX6_number 19 = .ok (.iconst 0, 1) := by decide +kernel
theorem dX6_number_20 : decode cX6_number 20 = .ok (.ireturn, 1) := by decide +kernel
theorem dX6_number_21 : decode cX6_number 21 = .ok (.aload_n 0, 1) := by decide +kernel
theorem dX6_number_22 : decode cX6_number 22 = .ok (.getfield 15, 3) := by decide +kernel
theorem dX6_number_25 : decode cX6_number 25 = .ok (.aload_n 0, 1) := by decide +kernel
theorem dX6_number_26 : decode cX6_number 26 = .ok (.getfield 63, 3) := by decide +kernel
theorem dX6_number_29 : decode cX6_number 29 = .ok (.iaload, 1) := by decide +kernel
theorem dX6_number_30 : decode cX6_number 30 = .ok (.istore_n 3, 1) := by decide +kernel
theorem dX6_number_31 : decode cX6_number 31 = .ok (.iload_n 3, 1) := by decide +kernel
theorem dX6_number_32 : decode cX6_number 32 = .ok (.iload_n 1, 1) := by decide +kernel
theorem dX6_number_33 : decode cX6_number 33 = .ok (.if_icmp .lt 8, 3) := by decide +kernel
theorem dX6_number_36 : decode cX6_number 36 = .ok (.iload_n 3, 1) := by decide +kernel
theorem dX6_number_37 : decode cX6_number 37 = .ok (.iload_n 2, 1) := by decide +kernel
theorem dX6_number_38 : decode cX6_number 38 = .ok (.if_icmp .le 10, 3) := by decide +kernel
theorem dX6_number_41 : decode cX6_number 41 = .ok (.aload_n 0, 1) := by decide +kernel
theorem dX6_number_42 : decode cX6_number 42 = .ok (.iconst 3, 1) := by decide +kernel
theorem dX6_number_43 : decode cX6_number 43 = .ok (.invokevirtual 123, 3) := by decide +kernel
theorem dX6_number_46 : decode cX6_number 46 = .ok (.iconst 0, 1) := by decide +kernel
theorem dX6_number_47 : decode cX6_number 47 = .ok (.ireturn, 1) := by decide +kernel
theorem dX6_number_48 : decode cX6_number 48 = .ok (.aload_n 0, 1) := by decide +kernel
theorem dX6_number_49 : decode cX6_number 49 = .ok (.invokevirtual 117, 3) := by decide +kernel
theorem dX6_number_52 : decode cX6_number 52 = .ok (.iload_n 3, 1) := by decide +kernel
theorem dX6_number_53 : decode cX6_number 53 = .ok (.ireturn, 1) := by decide +kernel
theorem dX6_oneOf_0 : decode cX6_oneOf 0 = .ok (.aload_n 0, 1) := by decide +kernel
theorem dX6_oneOf_1 : decode cX6_oneOf 1 = .ok (.getfield 9, 3) := by decide +kernel
theorem dX6_oneOf_4 : decode cX6_oneOf 4 = .ok (.aload_n 0, 1) := by decide +kernel
theorem dX6_oneOf_5 : decode cX6_oneOf 5 = .ok (.getfield 63, 3) := by decide +kernel
theorem dX6_oneOf_8 : decode cX6_oneOf 8 = .ok (.iaload, 1) := by decide +kernel
theorem dX6_oneOf_9 : decode cX6_oneOf 9 = .ok (.istore_n 3, 1) := by decide +kernel
theorem dX6_oneOf_10 : decode cX6_oneOf 10 = .ok (.iload_n 3, 1) := by decide +kernel
theorem dX6_oneOf_11 : decode cX6_oneOf 11 = .ok (.iload_n 1, 1) := by decide +kernel
theorem dX6_oneOf_12 : decode cX6_oneOf 12 = .ok (.if_icmp .lt 8, 3) := by decide +kernel
theorem dX6_oneOf_15 : decode cX6_oneOf 15 = .ok (.iload_n 3, 1) := by decide +kernel
theorem dX6_oneOf_16 : decode cX6_oneOf 16 = .ok (.iload_n 2, 1) := by decide +kernel
theorem dX6_oneOf_17 : decode cX6_oneOf 17 = .ok (.if_icmp .le 10, 3) := by decide +kernel
theorem dX6_oneOf_20 : decode cX6_oneOf 20 = .ok (.aload_n 0, 1) := by decide +kernel
theorem dX6_oneOf_21 : decode cX6_oneOf 21 = .ok (.iconst 2, 1) := by decide +kernel
theorem dX6_oneOf_22 : decode cX6_oneOf 22 = .ok (.invokevirtual 123, 3) := by decide +kernel
theorem dX6_oneOf_25 : decode cX6_oneOf 25 = .ok (.iload_n 1, 1) := by decide +kernel
theorem dX6_oneOf_26 : decode cX6_oneOf 26 = .ok (.ireturn, 1) := by decide +kernel
theorem dX6_oneOf_27 : decode cX6_oneOf 27 = .ok (.aload_n 0, 1) := by decide +kernel
theorem dX6_oneOf_28 : decode cX6_oneOf 28 = .ok (.invokevirtual 117, 3) := by decide +kernel
theorem dX6_oneOf_31 : decode cX6_oneOf 31 = .ok (.iload_n 3, 1) := by decide +kernel
theorem dX6_oneOf_32 : decode cX6_oneOf 32 = .ok (.ireturn, 1) := by decide +kernel
theorem dX6_put_0 : decode cX6_put 0 = .ok (.aload_n 0, 1) := by decide +kernel
theorem dX6_put_1 : decode cX6_put 1 = .ok (.getfield 47, 3) := by decide +kernel
theorem dX6_put_4 : decode cX6_put 4 = .ok (.sipush 2000, 3) := by decide +kernel
theorem dX6_put_7 : decode cX6_put 7 = .ok (.if_icmp .ge 23, 3) := by decide +kernel
theorem dX6_put_10 : decode cX6_put 10 = .ok (.aload_n 0, 1) := by decide +kernel
theorem dX6_put_11 : decode cX6_put 11 = .ok (.getfield 21, 3) := by decide +kernel
theorem dX6_put_14 : decode cX6_put 14 = .ok (.aload_n 0, 1) := by decide +kernel
theorem dX6_put_15 : decode cX6_put 15 = .ok (.getfield 47, 3) := by decide +kernel
theorem dX6_put_18 : decode cX6_put 18 = .ok (.iload_n 1, 1) := by decide +kernel
theorem dX6_put_19 : decode cX6_put 19 = .ok (.iastore, 1) := by decide +kernel
theorem dX6_put_20 : decode cX6_put 20 = .ok (.aload_n 0, 1) := by decide +kernel
theorem dX6_put_21 : decode cX6_put 21 = .ok (.dup, 1) := by decide +kernel
theorem dX6_put_22 : decode cX6_put 22 = .ok (.getfield 47, 3) := by decide +kernel
theorem dX6_put_25 : decode cX6_put 25 = .ok (.iconst 1, 1) := by decide +kernel
theorem dX6_put_26 : decode cX6_put 26 = .ok (.iadd, 1) := by decide +kernel
theorem dX6_put_27 : decode cX6_put 27 = .ok (.putfield 47, 3) := by decide +kernel
theorem dX6_put_30 : decode cX6_put 30 = .ok (.return_, 1) := by decide +kernel
theorem dX6_putTest_0 : decode cX6_putTest 0 = .ok (.aload_n 0, 1) := by decide +kernel
theorem dX6_putTest_1 : decode cX6_putTest 1 = .ok (.iload_n 1, 1) := by decide +kernel
theorem dX6_putTest_2 : decode cX6_putTest 2 = .ok (.invokevirtual 130, 3) := by decide +kernel
theorem dX6_putTest_5 : decode cX6_putTest 5 = .ok (.aload_n 0, 1) := by decide +kernel
theorem dX6_putTest_6 : decode cX6_putTest 6 = .ok (.iload_n 2, 1) := by decide +kernel
theorem dX6_putTest_7 : decode cX6_putTest 7 = .ok (.invokevirtual 130, 3) := by decide +kernel
theorem dX6_putTest_10 : decode cX6_putTest 10 = .ok (.aload_n 0, 1) := by decide +kernel
theorem dX6_putTest_11 : decode cX6_putTest 11 = .ok (.iload_n 3, 1) := by decide +kernel
theorem dX6_putTest_12 : decode cX6_putTest 12 = .ok (.invokevirtual 130, 3) := by decide +kernel
theorem dX6_putTest_15 : decode cX6_putTest 15 = .ok (.aload_n 0, 1) := by decide +kernel
theorem dX6_putTest_16 : decode cX6_putTest 16 = .ok (.iload 4, 2) := by decide +kernel
theorem dX6_putTest_18 : decode cX6_putTest 18 = .ok (.invokevirtual 130, 3) := by decide +kernel
theorem dX6_putTest_21 : decode cX6_putTest 21 = .ok (.aload_n 0, 1) := by decide +kernel
theorem dX6_putTest_22 : decode cX6_putTest 22 = .ok (.iload 5, 2) := by decide +kernel
theorem dX6_putTest_24 : decode cX6_putTest 24 = .ok (.invokevirtual 130, 3) := by decide +kernel
theorem dX6_putTest_27 : decode cX6_putTest 27 = .ok (.return_, 1) := by decide +kernel
theorem dX6_putToken_0 : decode cX6_putToken 0 = .ok (.aload_n 0, 1) := by decide +kernel
theorem dX6_putToken_1 : decode cX6_putToken 1 = .ok (.getfield 83, 3) := by decide +kernel
theorem dX6_putToken_4 : decode cX6_putToken 4 = .ok (.sipush 1000, 3) := by decide +kernel
theorem dX6_putToken_7 : decode cX6_putToken 7 = .ok (.if_icmp .ge 43, 3) := by decide +kernel
theorem dX6_putToken_10 : decode cX6_putToken 10 = .ok (.aload_n 0, 1) := by decide +kernel
theorem dX6_putToken_11 : decode cX6_putToken 11 = .ok (.getfield 9, 3) := by decide +kernel
theorem dX6_putToken_14 : decode cX6_putToken 14 = .ok (.aload_n 0, 1) := by decide +kernel
theorem dX6_putToken_15 : decode cX6_putToken 15 = .ok (.getfield 83, 3) := by decide +kernel
theorem dX6_putToken_18 : decode cX6_putToken 18 = .ok (.iload_n 1, 1) := by decide +kernel
theorem dX6_putToken_19 : decode cX6_putToken 19 = .ok (.iastore, 1) := by decide +kernel
theorem dX6_putToken_20 : decode cX6_putToken 20 = .ok (.aload_n 0, 1) := by decide +kernel
theorem dX6_putToken_21 : decode cX6_putToken 21 = .ok (.getfield 15, 3) := by decide +kernel
theorem dX6_putToken_24 : decode cX6_putToken 24 = .ok (.aload_n 0, 1) := by decide +kernel
theorem dX6_putToken_25 : decode cX6_putToken 25 = .ok (.getfield 83, 3) := by decide +kernel
theorem dX6_putToken_28 : decode cX6_putToken 28 = .ok (.iload_n 2, 1) := by decide +kernel
theorem dX6_putToken_29 : decode cX6_putToken 29 = .ok (.iastore, 1) := by decide +kernel
theorem dX6_putToken_30 : decode cX6_putToken 30 = .ok (.aload_n 0, 1) := by decide +kernel
theorem dX6_putToken_31 : decode cX6_putToken 31 = .ok (.getfield 18, 3) := by decide +kernel
theorem dX6_putToken_34 : decode cX6_putToken 34 = .ok (.aload_n 0, 1) := by decide +kernel
theorem dX6_putToken_35 : decode cX6_putToken 35 = .ok (.getfield 83, 3) := by decide +kernel
theorem dX6_putToken_38 : decode cX6_putToken 38 = .ok (.iload_n 3, 1) := by decide +kernel
theorem dX6_putToken_39 : decode cX6_putToken 39 = .ok (.iastore, 1) := by decide +kernel
theorem dX6_putToken_40 : decode cX6_putToken 40 = .ok (.aload_n 0, 1) := by decide +kernel
theorem dX6_putToken_41 : decode cX6_putToken 41 = .ok (.dup, 1) := by decide +kernel
theorem dX6_putToken_42 : decode cX6_putToken 42 = .ok (.getfield 83, 3) := by decide +kernel
theorem dX6_putToken_45 : decode cX6_putToken 45 = .ok (.iconst 1, 1) := by decide +kernel
theorem dX6_putToken_46 : decode cX6_putToken 46 = .ok (.iadd, 1) := by decide +kernel
theorem dX6_putToken_47 : decode cX6_putToken 47 = .ok (.putfield 83, 3) := by decide +kernel
theorem dX6_putToken_50 : decode cX6_putToken 50 = .ok (.return_, 1) := by decide +kernel
theorem dX6_readPlace_0 : decode cX6_readPlace 0 = .ok (.aload_n 0, 1) := by decide +kernel
theorem dX6_readPlace_1 : decode cX6_readPlace 1 = .ok (.getfield 9, 3) := by decide +kernel
theorem dX6_readPlace_4 : decode cX6_readPlace 4 = .ok (.aload_n 0, 1) := by decide +kernel
theorem dX6_readPlace_5 : decode cX6_readPlace 5 = .ok (.getfield 63, 3) := by decide +kernel
theorem dX6_readPlace_8 : decode cX6_readPlace 8 = .ok (.iaload, 1) := by decide +kernel
theorem dX6_readPlace_9 : decode cX6_readPlace 9 = .ok (.bipush (-2), 2) := by decide +kernel
theorem dX6_readPlace_11 : decode cX6_readPlace 11 = .ok (.if_icmp .ne 7, 3) := by decide +kernel
theorem dX6_readPlace_14 : decode cX6_readPlace 14 = .ok (.iconst 1, 1) := by decide +kernel
theorem dX6_readPlace_15 : decode cX6_readPlace 15 = .ok (.goto 4, 3) := by decide +kernel
theorem dX6_readPlace_18 : decode cX6_readPlace 18 = .ok (.iconst 0, 1) := by decide +kernel
theorem dX6_readPlace_19 : decode cX6_readPlace 19 = .ok (.istore_n 1, 1) := by decide +kernel
theorem dX6_readPlace_20 : decode cX6_readPlace 20 = .ok (.iload_n 1, 1) := by decide +kernel
theorem dX6_readPlace_21 : decode cX6_readPlace 21 = .ok (.ifCond .eq 23, 3) := by decide +kernel
theorem dX6_readPlace_24 : decode cX6_readPlace 24 = .ok (.aload_n 0, 1) := by decide +kernel
theorem dX6_readPlace_25 : decode cX6_readPlace 25 = .ok (.getfield 15, 3) := by decide +kernel
theorem dX6_readPlace_28 : decode cX6_readPlace 28 = .ok (.aload_n 0, 1) := by decide +kernel
theorem dX6_readPlace_29 : decode cX6_readPlace 29 = .ok (.getfield 63, 3) := by decide +kernel
theorem dX6_readPlace_32 : decode cX6_readPlace 32 = .ok (.iaload, 1) := by decide +kernel
theorem dX6_readPlace_33 : decode cX6_readPlace 33 = .ok (.ldc 147, 2) := by decide +kernel
theorem dX6_readPlace_35 : decode cX6_readPlace 35 = .ok (.if_icmp .le 9, 3) := by decide +kernel
theorem dX6_readPlace_38 : decode cX6_readPlace 38 = .ok (.aload_n 0, 1) := by decide +kernel
theorem dX6_readPlace_39 : decode cX6_readPlace 39 = .ok (.iconst 3, 1) := by decide +kernel
theorem dX6_readPlace_40 : decode cX6_readPlace 40 = .ok (.invokevirtual 123, 3) := by decide +kernel
theorem dX6_readPlace_43 : decode cX6_readPlace 43 = .ok (.return_, 1) := by decide +kernel
theorem dX6_readPlace_44 : decode cX6_readPlace 44 = .ok (.aload_n 0, 1) := by decide +kernel
theorem dX6_readPlace_45 : decode cX6_readPlace 45 = .ok (.getfield 50, 3) := by decide +kernel
theorem dX6_readPlace_48 : decode cX6_readPlace 48 = .ok (.bipush 40, 2) := by decide +kernel
theorem dX6_readPlace_50 : decode cX6_readPlace 50 = .ok (.if_icmp .lt 9, 3) := by decide +kernel
theorem dX6_readPlace_53 : decode cX6_readPlace 53 = .ok (.aload_n 0, 1) := by decide +kernel
theorem dX6_readPlace_54 : decode cX6_readPlace 54 = .ok (.iconst 4, 1) := by decide +kernel
theorem dX6_readPlace_55 : decode cX6_readPlace 55 = .ok (.invokevirtual 123, 3) := by decide +kernel
theorem dX6_readPlace_58 : decode cX6_readPlace 58 = .ok (.return_, 1) := by decide +kernel
theorem dX6_readPlace_59 : decode cX6_readPlace 59 = .ok (.aload_n 0, 1) := by decide +kernel
theorem dX6_readPlace_60 : decode cX6_readPlace 60 = .ok (.getfield 24, 3) := by decide +kernel
theorem dX6_readPlace_63 : decode cX6_readPlace 63 = .ok (.aload_n 0, 1) := by decide +kernel
theorem dX6_readPlace_64 : decode cX6_readPlace 64 = .ok (.getfield 50, 3) := by decide +kernel
theorem dX6_readPlace_67 : decode cX6_readPlace 67 = .ok (.iload_n 1, 1) := by decide +kernel
theorem dX6_readPlace_68 : decode cX6_readPlace 68 = .ok (.ifCond .eq 15, 3) := by decide +kernel
theorem dX6_readPlace_71 : decode cX6_readPlace 71 = .ok (.aload_n 0, 1) := by decide +kernel
theorem dX6_readPlace_72 : decode cX6_readPlace 72 = .ok (.getfield 15, 3) := by decide +kernel
theorem dX6_readPlace_75 : decode cX6_readPlace 75 = .ok (.aload_n 0, 1) := by decide +kernel
theorem dX6_readPlace_76 : decode cX6_readPlace 76 = .ok (.getfield 63, 3) := by decide +kernel
theorem dX6_readPlace_79 : decode cX6_readPlace 79 = .ok (.iaload, 1) := by decide +kernel
theorem dX6_readPlace_80 : decode cX6_readPlace 80 = .ok (.goto 4, 3) := by decide +kernel
theorem dX6_readPlace_83 : decode cX6_readPlace 83 = .ok (.iconst (-1), 1) := by decide +kernel
theorem dX6_readPlace_84 : decode cX6_readPlace 84 = .ok (.iastore, 1) := by decide +kernel
theorem dX6_readPlace_85 : decode cX6_readPlace 85 = .ok (.aload_n 0, 1) := by decide +kernel
theorem dX6_readPlace_86 : decode cX6_readPlace 86 = .ok (.getfield 27, 3) := by decide +kernel
theorem dX6_readPlace_89 : decode cX6_readPlace 89 = .ok (.aload_n 0, 1) := by decide +kernel
theorem dX6_readPlace_90 : decode cX6_readPlace 90 = .ok (.getfield 50, 3) := by decide +kernel
theorem dX6_readPlace_93 : decode cX6_readPlace 93 = .ok (.lconst 0, 1) := by decide +kernel
theorem dX6_readPlace_94 : decode cX6_readPlace 94 = .ok (.lastore, 1) := by decide +kernel
theorem dX6_readPlace_95 : decode cX6_readPlace 95 = .ok (.aload_n 0, 1) := by decide +kernel
theorem dX6_readPlace_96 : decode cX6_readPlace 96 = .ok (.iconst 0, 1) := by decide +kernel
theorem dX6_readPlace_97 : decode cX6_readPlace 97 = .ok (.putfield 186, 3) := by decide +kernel
theorem dX6_readPlace_100 : decode cX6_readPlace 100 = .ok (.aload_n 0, 1) := by decide +kernel
theorem dX6_readPlace_101 : decode cX6_readPlace 101 = .ok (.lconst 1, 1) := by decide +kernel
theorem dX6_readPlace_102 : decode cX6_readPlace 102 = .ok (.aload_n 0, 1) := by decide +kernel
theorem dX6_readPlace_103 : decode cX6_readPlace 103 = .ok (.getfield 50, 3) := by decide +kernel
theorem dX6_readPlace_106 : decode cX6_readPlace 106 = .ok (.lshl, 1) := by decide +kernel
theorem dX6_readPlace_107 : decode cX6_readPlace 107 = .ok (.putfield 179, 3) := by decide +kernel
theorem dX6_readPlace_110 : decode cX6_readPlace 110 = .ok (.aload_n 0, 1) := by decide +kernel
theorem dX6_readPlace_111 : decode cX6_readPlace 111 = .ok (.aload_n 0, 1) := by decide +kernel
theorem dX6_readPlace_112 : decode cX6_readPlace 112 = .ok (.getfield 179, 3) := by decide +kernel
theorem dX6_readPlace_115 : decode cX6_readPlace 115 = .ok (.putfield 183, 3) := by decide +kernel
theorem dX6_readPlace_118 : decode cX6_readPlace 118 = .ok (.aload_n 0, 1) := by decide +kernel
theorem dX6_readPlace_119 : decode cX6_readPlace 119 = .ok (.dup, 1) := by decide +kernel
theorem dX6_readPlace_120 : decode cX6_readPlace 120 = .ok (.getfield 50, 3) := by decide +kernel
theorem dX6_readPlace_123 : decode cX6_readPlace 123 = .ok (.iconst 1, 1) := by decide +kernel
theorem dX6_readPlace_124 : decode cX6_readPlace 124 = .ok (.iadd, 1) := by decide +kernel
theorem dX6_readPlace_125 : decode cX6_readPlace 125 = .ok (.putfield 50, 3) := by decide +kernel
theorem dX6_readPlace_128 : decode cX6_readPlace 128 = .ok (.aload_n 0, 1) := by decide +kernel
theorem dX6_readPlace_129 : decode cX6_readPlace 129 = .ok (.invokevirtual 117, 3) := by decide +kernel
theorem dX6_readPlace_132 : decode cX6_readPlace 132 = .ok (.return_, 1) := by decide +kernel
theorem dX6_readRepeat_0 : decode cX6_readRepeat 0 = .ok (.aload_n 0, 1) := by decide +kernel
theorem dX6_readRepeat_1 : decode cX6_readRepeat 1 = .ok (.getfield 9, 3) := by decide +kernel
theorem dX6_readRepeat_4 : decode cX6_readRepeat 4 = .ok (.aload_n 0, 1) := by decide +kernel
theorem dX6_readRepeat_5 : decode cX6_readRepeat 5 = .ok (.getfield 63, 3) := by decide +kernel
theorem dX6_readRepeat_8 : decode cX6_readRepeat 8 = .ok (.iaload, 1) := by decide +kernel
theorem dX6_readRepeat_9 : decode cX6_readRepeat 9 = .ok (.sipush 1042, 3) := by decide +kernel
theorem dX6_readRepeat_12 : decode cX6_readRepeat 12 = .ok (.if_icmp .ne 7, 3) := by decide +kernel
theorem dX6_readRepeat_15 : decode cX6_readRepeat 15 = .ok (.iconst 1, 1) := by decide +kernel
theorem dX6_readRepeat_16 : decode cX6_readRepeat 16 = .ok (.goto 4, 3) := by decide +kernel
theorem dX6_readRepeat_19 : decode cX6_readRepeat 19 = .ok (.iconst 0, 1) := by decide +kernel
theorem dX6_readRepeat_20 : decode cX6_readRepeat 20 = .ok (.istore_n 1, 1) := by decide +kernel
theorem dX6_readRepeat_21 : decode cX6_readRepeat 21 = .ok (.aload_n 0, 1) := by decide +kernel
theorem dX6_readRepeat_22 : decode cX6_readRepeat 22 = .ok (.getfield 9, 3) := by decide +kernel
theorem dX6_readRepeat_25 : decode cX6_readRepeat 25 = .ok (.aload_n 0, 1) := by decide +kernel
theorem dX6_readRepeat_26 : decode cX6_readRepeat 26 = .ok (.getfield 63, 3) := by decide +kernel
theorem dX6_readRepeat_29 : decode cX6_readRepeat 29 = .ok (.iaload, 1) := by decide +kernel
theorem dX6_readRepeat_30 : decode cX6_readRepeat 30 = .ok (.sipush 1043, 3) := by decide +kernel
theorem dX6_readRepeat_33 : decode cX6_readRepeat 33 = .ok (.if_icmp .ne 7, 3) := by decide +kernel
theorem dX6_readRepeat_36 : decode cX6_readRepeat 36 = .ok (.iconst 1, 1) := by decide +kernel
theorem dX6_readRepeat_37 : decode cX6_readRepeat 37 = .ok (.goto 4, 3) := by decide +kernel
theorem dX6_readRepeat_40 : decode cX6_readRepeat 40 = .ok (.iconst 0, 1) := by decide +kernel
theorem dX6_readRepeat_41 : decode cX6_readRepeat 41 = .ok (.istore_n 2, 1) := by decide +kernel
theorem dX6_readRepeat_42 : decode cX6_readRepeat 42 = .ok (.aload_n 0, 1) := by decide +kernel
theorem dX6_readRepeat_43 : decode cX6_readRepeat 43 = .ok (.getfield 9, 3) := by decide +kernel
theorem dX6_readRepeat_46 : decode cX6_readRepeat 46 = .ok (.aload_n 0, 1) := by decide +kernel
theorem dX6_readRepeat_47 : decode cX6_readRepeat 47 = .ok (.getfield 63, 3) := by decide +kernel
theorem dX6_readRepeat_50 : decode cX6_readRepeat 50 = .ok (.iaload, 1) := by decide +kernel
theorem dX6_readRepeat_51 : decode cX6_readRepeat 51 = .ok (.sipush 1063, 3) := by decide +kernel
theorem dX6_readRepeat_54 : decode cX6_readRepeat 54 = .ok (.if_icmp .ne 7, 3) := by decide +kernel
theorem dX6_readRepeat_57 : decode cX6_readRepeat 57 = .ok (.iconst 1, 1) := by decide +kernel
theorem dX6_readRepeat_58 : decode cX6_readRepeat 58 = .ok (.goto 4, 3) := by decide +kernel
theorem dX6_readRepeat_61 : decode cX6_readRepeat 61 = .ok (.iconst 0, 1) := by decide +kernel
theorem dX6_readRepeat_62 : decode cX6_readRepeat 62 = .ok (.istore_n 3, 1) := by decide +kernel
theorem dX6_readRepeat_63 : decode cX6_readRepeat 63 = .ok (.iload_n 1, 1) := by decide +kernel
theorem dX6_readRepeat_64 : decode cX6_readRepeat 64 = .ok (.ifCond .ne 7, 3) := by decide +kernel
theorem dX6_readRepeat_67 : decode cX6_readRepeat 67 = .ok (.iload_n 2, 1) := by decide +kernel
theorem dX6_readRepeat_68 : decode cX6_readRepeat 68 = .ok (.ifCond .eq 15, 3) := by decide +kernel
theorem dX6_readRepeat_71 : decode cX6_readRepeat 71 = .ok (.aload_n 0, 1) := by decide +kernel
theorem dX6_readRepeat_72 : decode cX6_readRepeat 72 = .ok (.aload_n 0, 1) := by decide +kernel
theorem dX6_readRepeat_73 : decode cX6_readRepeat 73 = .ok (.getfield 183, 3) := by decide +kernel
theorem dX6_readRepeat_76 : decode cX6_readRepeat 76 = .ok (.aload_n 0, 1) := by decide +kernel
theorem dX6_readRepeat_77 : decode cX6_readRepeat 77 = .ok (.getfield 179, 3) := by decide +kernel
theorem dX6_readRepeat_80 : decode cX6_readRepeat 80 = .ok (.invokevirtual 202, 3) := by decide +kernel
theorem dX6_readRepeat_83 : decode cX6_readRepeat 83 = .ok (.iload_n 1, 1) := by decide +kernel
theorem dX6_readRepeat_84 : decode cX6_readRepeat 84 = .ok (.ifCond .ne 11, 3) := by decide +kernel
theorem dX6_readRepeat_87 : decode cX6_readRepeat 87 = .ok (.iload_n 2, 1) := by decide +kernel
theorem dX6_readRepeat_88 : decode cX6_readRepeat 88 = .ok (.ifCond .ne 7, 3) := by decide +kernel
theorem dX6_readRepeat_91 : decode cX6_readRepeat 91 = .ok (.iload_n 3, 1) := by decide +kernel
theorem dX6_readRepeat_92 : decode cX6_readRepeat 92 = .ok (.ifCond .eq 7, 3) := by decide +kernel
theorem dX6_readRepeat_95 : decode cX6_readRepeat 95 = .ok (.aload_n 0, 1) := by decide +kernel
theorem dX6_readRepeat_96 : decode cX6_readRepeat 96 = .ok (.invokevirtual 117, 3) := by decide +kernel
theorem dX6_readRepeat_99 : decode cX6_readRepeat 99 = .ok (.aload_n 0, 1) := by decide +kernel
theorem dX6_readRepeat_100 : decode cX6_readRepeat 100 = .ok (.aload_n 0, 1) := by decide +kernel
theorem dX6_readRepeat_101 : decode cX6_readRepeat 101 = .ok (.getfield 186, 3) := by decide +kernel
theorem dX6_readRepeat_104 : decode cX6_readRepeat 104 = .ok (.ifCond .ne 11, 3) := by decide +kernel
theorem dX6_readRepeat_107 : decode cX6_readRepeat 107 = .ok (.iload_n 1, 1) := by decide +kernel
theorem dX6_readRepeat_108 : decode cX6_readRepeat 108 = .ok (.ifCond .ne 7, 3) := by decide +kernel
theorem dX6_readRepeat_111 : decode cX6_readRepeat 111 = .ok (.iload_n 3, 1) := by decide +kernel
theorem dX6_readRepeat_112 : decode cX6_readRepeat 112 = .ok (.ifCond .eq 7, 3) := by decide +kernel
theorem dX6_readRepeat_115 : decode cX6_readRepeat 115 = .ok (.iconst 1, 1) := by decide +kernel
theorem dX6_readRepeat_116 : decode cX6_readRepeat 116 = .ok (.goto 4, 3) := by decide +kernel
theorem dX6_readRepeat_119 : decode cX6_readRepeat 119 = .ok (.iconst 0, 1) := by decide +kernel
theorem dX6_readRepeat_120 : decode cX6_readRepeat 120 = .ok (.putfield 186, 3) := by decide +kernel
theorem dX6_readRepeat_123 : decode cX6_readRepeat 123 = .ok (.return_, 1) := by decide +kernel
theorem dX6_relation_0 : decode cX6_relation 0 = .ok (.aload_n 0, 1) := by decide +kernel
theorem dX6_relation_1 : decode cX6_relation 1 = .ok (.getfield 9, 3) := by decide +kernel
theorem dX6_relation_4 : decode cX6_relation 4 = .ok (.aload_n 0, 1) := by decide +kernel
theorem dX6_relation_5 : decode cX6_relation 5 = .ok (.getfield 63, 3) := by decide +kernel
theorem dX6_relation_8 : decode cX6_relation 8 = .ok (.iaload, 1) := by decide +kernel
theorem dX6_relation_9 : decode cX6_relation 9 = .ok (.istore_n 1, 1) := by decide +kernel
theorem dX6_relation_10 : decode cX6_relation 10 = .ok (.iload_n 1, 1) := by decide +kernel
theorem dX6_relation_11 : decode cX6_relation 11 = .ok (.sipush 1060, 3) := by decide +kernel
theorem dX6_relation_14 : decode cX6_relation 14 = .ok (.if_icmp .eq 24, 3) := by decide +kernel
theorem dX6_relation_17 : decode cX6_relation 17 = .ok (.iload_n 1, 1) := by decide +kernel
theorem dX6_relation_18 : decode cX6_relation 18 = .ok (.sipush 1061, 3) := by decide +kernel
theorem dX6_relation_21 : decode cX6_relation 21 = .ok (.if_icmp .eq 17, 3) := by decide +kernel
theorem dX6_relation_24 : decode cX6_relation 24 = .ok (.iload_n 1, 1) := by decide +kernel
theorem dX6_relation_25 : decode cX6_relation 25 = .ok (.sipush 1062, 3) := by decide +kernel
theorem dX6_relation_28 : decode cX6_relation 28 = .ok (.if_icmp .eq 10, 3) := by decide +kernel
theorem dX6_relation_31 : decode cX6_relation 31 = .ok (.aload_n 0, 1) := by decide +kernel
theorem dX6_relation_32 : decode cX6_relation 32 = .ok (.iconst 2, 1) := by decide +kernel
theorem dX6_relation_33 : decode cX6_relation 33 = .ok (.invokevirtual 123, 3) := by decide +kernel
theorem dX6_relation_36 : decode cX6_relation 36 = .ok (.iconst 0, 1) := by decide +kernel
theorem dX6_relation_37 : decode cX6_relation 37 = .ok (.ireturn, 1) := by decide +kernel
theorem dX6_relation_38 : decode cX6_relation 38 = .ok (.aload_n 0, 1) := by decide +kernel
theorem dX6_relation_39 : decode cX6_relation 39 = .ok (.invokevirtual 117, 3) := by decide +kernel
theorem dX6_relation_42 : decode cX6_relation 42 = .ok (.iload_n 1, 1) := by decide +kernel
theorem dX6_relation_43 : decode cX6_relation 43 = .ok (.sipush 1000, 3) := by decide +kernel
theorem dX6_relation_46 : decode cX6_relation 46 = .ok (.isub, 1) := by decide +kernel
theorem dX6_relation_47 : decode cX6_relation 47 = .ok (.bipush 60, 2) := by decide +kernel
theorem dX6_relation_49 : decode cX6_relation 49 = .ok (.isub, 1) := by decide +kernel
theorem dX6_relation_50 : decode cX6_relation 50 = .ok (.ireturn, 1) := by decide +kernel
theorem dX6_step_0 : decode cX6_step 0 = .ok (.aload_n 0, 1) := by decide +kernel
theorem dX6_step_1 : decode cX6_step 1 = .ok (.getfield 63, 3) := by decide +kernel
theorem dX6_step_4 : decode cX6_step 4 = .ok (.aload_n 0, 1) := by decide +kernel
theorem dX6_step_5 : decode cX6_step 5 = .ok (.getfield 83, 3) := by decide +kernel
theorem dX6_step_8 : decode cX6_step 8 = .ok (.if_icmp .ge 13, 3) := by decide +kernel
theorem dX6_step_11 : decode cX6_step 11 = .ok (.aload_n 0, 1) := by decide +kernel
theorem dX6_step_12 : decode cX6_step 12 = .ok (.dup, 1) := by decide +kernel
theorem dX6_step_13 : decode cX6_step 13 = .ok (.getfield 63, 3) := by decide +kernel
theorem dX6_step_16 : decode cX6_step 16 = .ok (.iconst 1, 1) := by decide +kernel
theorem dX6_step_17 : decode cX6_step 17 = .ok (.iadd, 1) := by decide +kernel
theorem dX6_step_18 : decode cX6_step 18 = .ok (.putfield 63, 3) := by decide +kernel
theorem dX6_step_21 : decode cX6_step 21 = .ok (.return_, 1) := by decide +kernel
theorem dX6_take_0 : decode cX6_take 0 = .ok (.aload_n 0, 1) := by decide +kernel
theorem dX6_take_1 : decode cX6_take 1 = .ok (.getfield 9, 3) := by decide +kernel
theorem dX6_take_4 : decode cX6_take 4 = .ok (.aload_n 0, 1) := by decide +kernel
theorem dX6_take_5 : decode cX6_take 5 = .ok (.getfield 63, 3) := by decide +kernel
theorem dX6_take_8 : decode cX6_take 8 = .ok (.iaload, 1) := by decide +kernel
theorem dX6_take_9 : decode cX6_take 9 = .ok (.iload_n 1, 1) := by decide +kernel
theorem dX6_take_10 : decode cX6_take 10 = .ok (.if_icmp .eq 5, 3) := by decide +kernel
theorem dX6_take_13 : decode cX6_take 13 = .ok (.iconst 0, 1) := by decide +kernel
theorem dX6_take_14 : decode cX6_take 14 = .ok (.ireturn, 1) := by decide +kernel
theorem dX6_take_15 : decode cX6_take 15 = .ok (.aload_n 0, 1) := by decide +kernel
theorem dX6_take_16 : decode cX6_take 16 = .ok (.invokevirtual 117, 3) := by decide +kernel
theorem dX6_take_19 : decode cX6_take 19 = .ok (.iconst 1, 1) := by decide +kernel
theorem dX6_take_20 : decode cX6_take 20 = .ok (.ireturn, 1) := by decide +kernel
theorem dX6_verdictOf_0 : decode cX6_verdictOf 0 = .ok (.iload_n 0, 1) := by decide +kernel
theorem dX6_verdictOf_1 : decode cX6_verdictOf 1 = .ok (.bipush 20, 2) := by decide +kernel
theorem dX6_verdictOf_3 : decode cX6_verdictOf 3 = .ok (.if_icmp .ne 5, 3) := by decide +kernel
theorem dX6_verdictOf_6 : decode cX6_verdictOf 6 = .ok (.iconst 1, 1) := by decide +kernel
theorem dX6_verdictOf_7 : decode cX6_verdictOf 7 = .ok (.ireturn, 1) := by decide +kernel
theorem dX6_verdictOf_8 : decode cX6_verdictOf 8 = .ok (.iload_n 0, 1) := by decide +kernel
theorem dX6_verdictOf_9 : decode cX6_verdictOf 9 = .ok (.bipush 21, 2) := by decide +kernel
theorem dX6_verdictOf_11 : decode cX6_verdictOf 11 = .ok (.if_icmp .ne 7, 3) := by decide +kernel
theorem dX6_verdictOf_14 : decode cX6_verdictOf 14 = .ok (.iconst 2, 1) := by decide +kernel
theorem dX6_verdictOf_15 : decode cX6_verdictOf 15 = .ok (.goto 4, 3) := by decide +kernel
theorem dX6_verdictOf_18 : decode cX6_verdictOf 18 = .ok (.iconst 0, 1) := by decide +kernel
theorem dX6_verdictOf_19 : decode cX6_verdictOf 19 = .ok (.ireturn, 1) := by decide +kernel
theorem dX7_addMark_0 : decode cX7_addMark 0 = .ok (.iconst 0, 1) := by decide +kernel
theorem dX7_addMark_1 : decode cX7_addMark 1 = .ok (.istore_n 2, 1) := by decide +kernel
theorem dX7_addMark_2 : decode cX7_addMark 2 = .ok (.iload_n 2, 1) := by decide +kernel
theorem dX7_addMark_3 : decode cX7_addMark 3 = .ok (.aload_n 0, 1) := by decide +kernel
theorem dX7_addMark_4 : decode cX7_addMark 4 = .ok (.getfield 41, 3) := by decide +kernel
theorem dX7_addMark_7 : decode cX7_addMark 7 = .ok (.if_icmp .ge 19, 3) := by decide +kernel
theorem dX7_addMark_10 : decode cX7_addMark 10 = .ok (.aload_n 0, 1) := by decide +kernel
theorem dX7_addMark_11 : decode cX7_addMark 11 = .ok (.getfield 15, 3) := by decide +kernel
theorem dX7_addMark_14 : decode cX7_addMark 14 = .ok (.iload_n 2, 1) := by decide +kernel
theorem dX7_addMark_15 : decode cX7_addMark 15 = .ok (.iaload, 1) := by decide +kernel
theorem dX7_addMark_16 : decode cX7_addMark 16 = .ok (.iload_n 1, 1) := by decide +kernel
theorem dX7_addMark_17 : decode cX7_addMark 17 = .ok (.if_icmp .ge 9, 3) := by decide +kernel
theorem dX7_addMark_20 : decode cX7_addMark 20 = .ok (.iinc 2 1, 3) := by decide +kernel
theorem dX7_addMark_23 : decode cX7_addMark 23 = .ok (.goto (-21), 3) := by decide +kernel
theorem dX7_addMark_26 : decode cX7_addMark 26 = .ok (.iload_n 2, 1) := by decide +kernel
theorem dX7_addMark_27 : decode cX7_addMark 27 = .ok (.aload_n 0, 1) := by decide +kernel
theorem dX7_addMark_28 : decode cX7_addMark 28 = .ok (.getfield 41, 3) := by decide +kernel
theorem dX7_addMark_31 : decode cX7_addMark 31 = .ok (.if_icmp .ge 17, 3) := by decide +kernel
theorem dX7_addMark_34 : decode cX7_addMark 34 = .ok (.aload_n 0, 1) := by decide +kernel
theorem dX7_addMark_35 : decode cX7_addMark 35 = .ok (.getfield 15, 3) := by decide +kernel
theorem dX7_addMark_38 : decode cX7_addMark 38 = .ok (.iload_n 2, 1) := by decide +kernel
theorem dX7_addMark_39 : decode cX7_addMark 39 = .ok (.iaload, 1) := by decide +kernel
theorem dX7_addMark_40 : decode cX7_addMark 40 = .ok (.iload_n 1, 1) := by decide +kernel
theorem dX7_addMark_41 : decode cX7_addMark 41 = .ok (.if_icmp .ne 7, 3) := by decide +kernel
theorem dX7_addMark_44 : decode cX7_addMark 44 = .ok (.iconst 1, 1) := by decide +kernel
theorem dX7_addMark_45 : decode cX7_addMark 45 = .ok (.goto 4, 3) := by decide +kernel
theorem dX7_addMark_48 : decode cX7_addMark 48 = .ok (.iconst 0, 1) := by decide +kernel
theorem dX7_addMark_49 : decode cX7_addMark 49 = .ok (.istore_n 3, 1) := by decide +kernel
theorem dX7_addMark_50 : decode cX7_addMark 50 = .ok (.iload_n 3, 1) := by decide +kernel
theorem dX7_addMark_51 : decode cX7_addMark 51 = .ok (.ifCond .ne 12, 3) := by decide +kernel
theorem dX7_addMark_54 : decode cX7_addMark 54 = .ok (.aload_n 0, 1) := by decide +kernel
theorem dX7_addMark_55 : decode cX7_addMark 55 = .ok (.getfield 41, 3) := by decide +kernel
theorem dX7_addMark_58 : decode cX7_addMark 58 = .ok (.bipush 8, 2) := by decide +kernel
theorem dX7_addMark_60 : decode cX7_addMark 60 = .ok (.if_icmp .lt 4, 3) := by decide +kernel
theorem dX7_addMark_63 : decode cX7_addMark 63 = .ok (.return_, 1) := by decide +kernel
theorem dX7_addMark_64 : decode cX7_addMark 64 = .ok (.aload_n 0, 1) := by decide +kernel
theorem dX7_addMark_65 : decode cX7_addMark 65 = .ok (.getfield 41, 3) := by decide +kernel
theorem dX7_addMark_68 : decode cX7_addMark 68 = .ok (.istore 4, 2) := by decide +kernel
theorem dX7_addMark_70 : decode cX7_addMark 70 = .ok (.iload 4, 2) := by decide +kernel
theorem dX7_addMark_72 : decode cX7_addMark 72 = .ok (.iload_n 2, 1) := by decide +kernel
theorem dX7_addMark_73 : decode cX7_addMark 73 = .ok (.if_icmp .le 25, 3) := by decide +kernel
theorem dX7_addMark_76 : decode cX7_addMark 76 = .ok (.aload_n 0, 1) := by decide +kernel
theorem dX7_addMark_77 : decode cX7_addMark 77 = .ok (.getfield 15, 3) := by decide +kernel
theorem dX7_addMark_80 : decode cX7_addMark 80 = .ok (.iload 4, 2) := by decide +kernel
theorem dX7_addMark_82 : decode cX7_addMark 82 = .ok (.aload_n 0, 1) := by decide +kernel
theorem dX7_addMark_83 : decode cX7_addMark 83 = .ok (.getfield 15, 3) := by decide +kernel
theorem dX7_addMark_86 : decode cX7_addMark 86 = .ok (.iload 4, 2) := by decide +kernel
theorem dX7_addMark_88 : decode cX7_addMark 88 = .ok (.iconst 1, 1) := by decide +kernel
theorem dX7_addMark_89 : decode cX7_addMark 89 = .ok (.isub, 1) := by decide +kernel
theorem dX7_addMark_90 : decode cX7_addMark 90 = .ok (.iaload, 1) := by decide +kernel
theorem dX7_addMark_91 : decode cX7_addMark 91 = .ok (.iastore, 1) := by decide +kernel
theorem dX7_addMark_92 : decode cX7_addMark 92 = .ok (.iinc 4 (-1), 3) := by decide +kernel
theorem dX7_addMark_95 : decode cX7_addMark 95 = .ok (.goto (-25), 3) := by decide +kernel
theorem dX7_addMark_98 : decode cX7_addMark 98 = .ok (.aload_n 0, 1) := by decide +kernel
theorem dX7_addMark_99 : decode cX7_addMark 99 = .ok (.getfield 15, 3) := by decide +kernel
theorem dX7_addMark_102 : decode cX7_addMark 102 = .ok (.iload_n 2, 1) := by decide +kernel
theorem dX7_addMark_103 : decode cX7_addMark 103 = .ok (.iload_n 1, 1) := by decide +kernel
theorem dX7_addMark_104 : decode cX7_addMark 104 = .ok (.iastore, 1) := by decide +kernel
theorem dX7_addMark_105 : decode cX7_addMark 105 = .ok (.aload_n 0, 1) := by decide +kernel
theorem dX7_addMark_106 : decode cX7_addMark 106 = .ok (.dup, 1) := by decide +kernel
theorem dX7_addMark_107 : decode cX7_addMark 107 = .ok (.getfield 41, 3) := by decide +kernel
theorem dX7_addMark_110 : decode cX7_addMark 110 = .ok (.iconst 1, 1) := by decide +kernel
theorem dX7_addMark_111 : decode cX7_addMark 111 = .ok (.iadd, 1) := by decide +kernel
theorem dX7_addMark_112 : decode cX7_addMark 112 = .ok (.putfield 41, 3) := by decide +kernel
theorem dX7_addMark_115 : decode cX7_addMark 115 = .ok (.return_, 1) := by decide +kernel
theorem dX7_become_0 : decode cX7_become 0 = .ok (.aload_n 0, 1) := by decide +kernel
theorem dX7_become_1 : decode cX7_become 1 = .ok (.aload_n 1, 1) := by decide +kernel
theorem dX7_become_2 : decode cX7_become 2 = .ok (.getfield 22, 3) := by decide +kernel
theorem dX7_become_5 : decode cX7_become 5 = .ok (.putfield 22, 3) := by decide +kernel
theorem dX7_become_8 : decode cX7_become 8 = .ok (.aload_n 0, 1) := by decide +kernel
theorem dX7_become_9 : decode cX7_become 9 = .ok (.aload_n 1, 1) := by decide +kernel
theorem dX7_become_10 : decode cX7_become 10 = .ok (.getfield 26, 3) := by decide +kernel
theorem dX7_become_13 : decode cX7_become 13 = .ok (.putfield 26, 3) := by decide +kernel
theorem dX7_become_16 : decode cX7_become 16 = .ok (.aload_n 0, 1) := by decide +kernel
theorem dX7_become_17 : decode cX7_become 17 = .ok (.aload_n 1, 1) := by decide +kernel
theorem dX7_become_18 : decode cX7_become 18 = .ok (.getfield 29, 3) := by decide +kernel
theorem dX7_become_21 : decode cX7_become 21 = .ok (.putfield 29, 3) := by decide +kernel
theorem dX7_become_24 : decode cX7_become 24 = .ok (.aload_n 0, 1) := by decide +kernel
theorem dX7_become_25 : decode cX7_become 25 = .ok (.aload_n 1, 1) := by decide +kernel
theorem dX7_become_26 : decode cX7_become 26 = .ok (.getfield 32, 3) := by decide +kernel
theorem dX7_become_29 : decode cX7_become 29 = .ok (.putfield 32, 3) := by decide +kernel
theorem dX7_become_32 : decode cX7_become 32 = .ok (.aload_n 0, 1) := by decide +kernel
theorem dX7_become_33 : decode cX7_become 33 = .ok (.aload_n 1, 1) := by decide +kernel
theorem dX7_become_34 : decode cX7_become 34 = .ok (.getfield 35, 3) := by decide +kernel
theorem dX7_become_37 : decode cX7_become 37 = .ok (.putfield 35, 3) := by decide +kernel
theorem dX7_become_40 : decode cX7_become 40 = .ok (.aload_n 0, 1) := by decide +kernel
theorem dX7_become_41 : decode cX7_become 41 = .ok (.aload_n 1, 1) := by decide +kernel
theorem dX7_become_42 : decode cX7_become 42 = .ok (.getfield 38, 3) := by decide +kernel
theorem dX7_become_45 : decode cX7_become 45 = .ok (.putfield 38, 3) := by decide +kernel
theorem dX7_become_48 : decode cX7_become 48 = .ok (.aload_n 0, 1) := by decide +kernel
theorem dX7_become_49 : decode cX7_become 49 = .ok (.aload_n 1, 1) := by decide +kernel
theorem dX7_become_50 : decode cX7_become 50 = .ok (.getfield 41, 3) := by decide +kernel
theorem dX7_become_53 : decode cX7_become 53 = .ok (.putfield 41, 3) := by decide +kernel
theorem dX7_become_56 : decode cX7_become 56 = .ok (.aload_n 1, 1) := by decide +kernel
theorem dX7_become_57 : decode cX7_become 57 = .ok (.getfield 9, 3) := by decide +kernel
theorem dX7_become_60 : decode cX7_become 60 = .ok (.iconst 0, 1) := by decide +kernel
theorem dX7_become_61 : decode cX7_become 61 = .ok (.aload_n 0, 1) := by decide +kernel
theorem dX7_become_62 : decode cX7_become 62 = .ok (.getfield 9, 3) := by decide +kernel
theorem dX7_become_65 : decode cX7_become 65 = .ok (.iconst 0, 1) := by decide +kernel
theorem dX7_become_66 : decode cX7_become 66 = .ok (.aload_n 1, 1) := by decide +kernel
theorem dX7_become_67 : decode cX7_become 67 = .ok (.getfield 38, 3) := by decide +kernel
theorem dX7_become_70 : decode cX7_become 70 = .ok (.invokestatic 44, 3) := by decide +kernel
theorem dX7_become_73 : decode cX7_become 73 = .ok (.aload_n 1, 1) := by decide +kernel
theorem dX7_become_74 : decode cX7_become 74 = .ok (.getfield 15, 3) := by decide +kernel
theorem dX7_become_77 : decode cX7_become 77 = .ok (.iconst 0, 1) := by decide +kernel
theorem dX7_become_78 : decode cX7_become 78 = .ok (.aload_n 0, 1) := by decide +kernel
theorem dX7_become_79 : decode cX7_become 79 = .ok (.getfield 15, 3) := by decide +kernel
theorem dX7_become_82 : decode cX7_become 82 = .ok (.iconst 0, 1) := by decide +kernel
theorem dX7_become_83 : decode cX7_become 83 = .ok (.aload_n 1, 1) := by decide +kernel
theorem dX7_become_84 : decode cX7_become 84 = .ok (.getfield 41, 3) := by decide +kernel
theorem dX7_become_87 : decode cX7_become 87 = .ok (.invokestatic 44, 3) := by decide +kernel
theorem dX7_become_90 : decode cX7_become 90 = .ok (.return_, 1) := by decide +kernel
theorem dX7_begin_0 : decode cX7_begin 0 = .ok (.aload_n 0, 1) := by decide +kernel
theorem dX7_begin_1 : decode cX7_begin 1 = .ok (.iconst 1, 1) := by decide +kernel
theorem dX7_begin_2 : decode cX7_begin 2 = .ok (.putfield 22, 3) := by decide +kernel
theorem dX7_begin_5 : decode cX7_begin 5 = .ok (.aload_n 0, 1) := by decide +kernel
theorem dX7_begin_6 : decode cX7_begin 6 = .ok (.iload_n 1, 1) := by decide +kernel
theorem dX7_begin_7 : decode cX7_begin 7 = .ok (.putfield 26, 3) := by decide +kernel
theorem dX7_begin_10 : decode cX7_begin 10 = .ok (.aload_n 0, 1) := by decide +kernel
theorem dX7_begin_11 : decode cX7_begin 11 = .ok (.bipush 100, 2) := by decide +kernel
theorem dX7_begin_13 : decode cX7_begin 13 = .ok (.putfield 29, 3) := by decide +kernel
theorem dX7_begin_16 : decode cX7_begin 16 = .ok (.aload_n 0, 1) := by decide +kernel
theorem dX7_begin_17 : decode cX7_begin 17 = .ok (.iload_n 2, 1) := by decide +kernel
theorem dX7_begin_18 : decode cX7_begin 18 = .ok (.putfield 32, 3) := by decide +kernel
theorem dX7_begin_21 : decode cX7_begin 21 = .ok (.aload_n 0, 1) := by decide +kernel
theorem dX7_begin_22 : decode cX7_begin 22 = .ok (.iconst 0, 1) := by decide +kernel
theorem dX7_begin_23 : decode cX7_begin 23 = .ok (.putfield 35, 3) := by decide +kernel
theorem dX7_begin_26 : decode cX7_begin 26 = .ok (.aload_n 0, 1) := by decide +kernel
theorem dX7_begin_27 : decode cX7_begin 27 = .ok (.iconst 0, 1) := by decide +kernel
theorem dX7_begin_28 : decode cX7_begin 28 = .ok (.putfield 38, 3) := by decide +kernel
theorem dX7_begin_31 : decode cX7_begin 31 = .ok (.aload_n 0, 1) := by decide +kernel
theorem dX7_begin_32 : decode cX7_begin 32 = .ok (.iconst 0, 1) := by decide +kernel
theorem dX7_begin_33 : decode cX7_begin 33 = .ok (.putfield 41, 3) := by decide +kernel
theorem dX7_begin_36 : decode cX7_begin 36 = .ok (.return_, 1) := by decide +kernel
theorem dX7_dropMark_0 : decode cX7_dropMark 0 = .ok (.iconst 0, 1) := by decide +kernel
theorem dX7_dropMark_1 : decode cX7_dropMark 1 = .ok (.istore_n 2, 1) := by decide +kernel
theorem dX7_dropMark_2 : decode cX7_dropMark 2 = .ok (.iconst 0, 1) := by decide +kernel
theorem dX7_dropMark_3 : decode cX7_dropMark 3 = .ok (.istore_n 3, 1) := by decide +kernel
theorem dX7_dropMark_4 : decode cX7_dropMark 4 = .ok (.iload_n 3, 1) := by decide +kernel
theorem dX7_dropMark_5 : decode cX7_dropMark 5 = .ok (.aload_n 0, 1) := by decide +kernel
theorem dX7_dropMark_6 : decode cX7_dropMark 6 = .ok (.getfield 41, 3) := by decide +kernel
theorem dX7_dropMark_9 : decode cX7_dropMark 9 = .ok (.if_icmp .ge 34, 3) := by decide +kernel
theorem dX7_dropMark_12 : decode cX7_dropMark 12 = .ok (.aload_n 0, 1) := by decide +kernel
theorem dX7_dropMark_13 : decode cX7_dropMark 13 = .ok (.getfield 15, 3) := by decide +kernel
theorem dX7_dropMark_16 : decode cX7_dropMark 16 = .ok (.iload_n 3, 1) := by decide +kernel
theorem dX7_dropMark_17 : decode cX7_dropMark 17 = .ok (.iaload, 1) := by decide +kernel
theorem dX7_dropMark_18 : decode cX7_dropMark 18 = .ok (.iload_n 1, 1) := by decide +kernel
theorem dX7_dropMark_19 : decode cX7_dropMark 19 = .ok (.if_icmp .eq 18, 3) := by decide +kernel
theorem dX7_dropMark_22 : decode cX7_dropMark 22 = .ok (.aload_n 0, 1) := by decide +kernel
theorem dX7_dropMark_23 : decode cX7_dropMark 23 = .ok (.getfield 15, 3) := by decide +kernel
theorem dX7_dropMark_26 : decode cX7_dropMark 26 = .ok (.iload_n 2, 1) := by decide +kernel
theorem dX7_dropMark_27 : decode cX7_dropMark 27 = .ok (.aload_n 0, 1) := by decide +kernel
theorem dX7_dropMark_28 : decode cX7_dropMark 28 = .ok (.getfield 15, 3) := by decide +kernel
theorem dX7_dropMark_31 : decode cX7_dropMark 31 = .ok (.iload_n 3, 1) := by decide +kernel
theorem dX7_dropMark_32 : decode cX7_dropMark 32 = .ok (.iaload, 1) := by decide +kernel
theorem dX7_dropMark_33 : decode cX7_dropMark 33 = .ok (.iastore, 1) := by decide +kernel
theorem dX7_dropMark_34 : decode cX7_dropMark 34 = .ok (.iinc 2 1, 3) := by decide +kernel
theorem dX7_dropMark_37 : decode cX7_dropMark 37 = .ok (.iinc 3 1, 3) := by decide +kernel
theorem dX7_dropMark_40 : decode cX7_dropMark 40 = .ok (.goto (-36), 3) := by decide +kernel
theorem dX7_dropMark_43 : decode cX7_dropMark 43 = .ok (.aload_n 0, 1) := by decide +kernel
theorem dX7_dropMark_44 : decode cX7_dropMark 44 = .ok (.iload_n 2, 1) := by decide +kernel
theorem dX7_dropMark_45 : decode cX7_dropMark 45 = .ok (.putfield 41, 3) := by decide +kernel
theorem dX7_dropMark_48 : decode cX7_dropMark 48 = .ok (.return_, 1) := by decide +kernel
theorem dX7_hasMark_0 : decode cX7_hasMark 0 = .ok (.iconst 0, 1) := by decide +kernel
theorem dX7_hasMark_1 : decode cX7_hasMark 1 = .ok (.istore_n 2, 1) := by decide +kernel
theorem dX7_hasMark_2 : decode cX7_hasMark 2 = .ok (.iload_n 2, 1) := by decide +kernel
theorem dX7_hasMark_3 : decode cX7_hasMark 3 = .ok (.aload_n 0, 1) := by decide +kernel
theorem dX7_hasMark_4 : decode cX7_hasMark 4 = .ok (.getfield 41, 3) := by decide +kernel
theorem dX7_hasMark_7 : decode cX7_hasMark 7 = .ok (.if_icmp .ge 21, 3) := by decide +kernel
theorem dX7_hasMark_10 : decode cX7_hasMark 10 = .ok (.aload_n 0, 1) := by decide +kernel
theorem dX7_hasMark_11 : decode cX7_hasMark 11 = .ok (.getfield 15, 3) := by decide +kernel
theorem dX7_hasMark_14 : decode cX7_hasMark 14 = .ok (.iload_n 2, 1) := by decide +kernel
theorem dX7_hasMark_15 : decode cX7_hasMark 15 = .ok (.iaload, 1) := by decide +kernel
theorem dX7_hasMark_16 : decode cX7_hasMark 16 = .ok (.iload_n 1, 1) := by decide +kernel
theorem dX7_hasMark_17 : decode cX7_hasMark 17 = .ok (.if_icmp .ne 5, 3) := by decide +kernel
theorem dX7_hasMark_20 : decode cX7_hasMark 20 = .ok (.iconst 1, 1) := by decide +kernel
theorem dX7_hasMark_21 : decode cX7_hasMark 21 = .ok (.ireturn, 1) := by decide +kernel
theorem dX7_hasMark_22 : decode cX7_hasMark 22 = .ok (.iinc 2 1, 3) := by decide +kernel
theorem dX7_hasMark_25 : decode cX7_hasMark 25 = .ok (.goto (-23), 3) := by decide +kernel
theorem dX7_hasMark_28 : decode cX7_hasMark 28 = .ok (.iconst 0, 1) := by decide +kernel
theorem dX7_hasMark_29 : decode cX7_hasMark 29 = .ok (.ireturn, 1) := by decide +kernel
theorem dX7_isAlike_0 : decode cX7_isAlike 0 = .ok (.aload_n 0, 1) := by decide +kernel
theorem dX7_isAlike_1 : decode cX7_isAlike 1 = .ok (.getfield 22, 3) := by decide +kernel
theorem dX7_isAlike_4 : decode cX7_isAlike 4 = .ok (.ifCond .eq 10, 3) := by decide +kernel
theorem dX7_isAlike_7 : decode cX7_isAlike 7 = .ok (.aload_n 1, 1) := by decide +kernel
theorem dX7_isAlike_8 : decode cX7_isAlike 8 = .ok (.getfield 22, 3) := by decide +kernel
theorem dX7_isAlike_11 : decode cX7_isAlike 11 = .ok (.ifCond .ne 20, 3) := by decide +kernel
theorem dX7_isAlike_14 : decode cX7_isAlike 14 = .ok (.aload_n 0, 1) := by decide +kernel
theorem dX7_isAlike_15 : decode cX7_isAlike 15 = .ok (.getfield 22, 3) := by decide +kernel
theorem dX7_isAlike_18 : decode cX7_isAlike 18 = .ok (.aload_n 1, 1) := by decide +kernel
theorem dX7_isAlike_19 : decode cX7_isAlike 19 = .ok (.getfield 22, 3) := by decide +kernel
theorem dX7_isAlike_22 : decode cX7_isAlike 22 = .ok (.if_icmp .ne 7, 3) := by decide +kernel
theorem dX7_isAlike_25 : decode cX7_isAlike 25 = .ok (.iconst 1, 1) := by decide +kernel
theorem dX7_isAlike_26 : decode cX7_isAlike 26 = .ok (.goto 4, 3) := by decide +kernel
theorem dX7_isAlike_29 : decode cX7_isAlike 29 = .ok (.iconst 0, 1) := by decide +kernel
theorem dX7_isAlike_30 : decode cX7_isAlike 30 = .ok (.ireturn, 1) := by decide +kernel
theorem dX7_isAlike_31 : decode cX7_isAlike 31 = .ok (.aload_n 0, 1) := by decide +kernel
theorem dX7_isAlike_32 : decode cX7_isAlike 32 = .ok (.getfield 29, 3) := by decide +kernel
theorem dX7_isAlike_35 : decode cX7_isAlike 35 = .ok (.aload_n 1, 1) := by decide +kernel
theorem dX7_isAlike_36 : decode cX7_isAlike 36 = .ok (.getfield 29, 3) := by decide +kernel
theorem dX7_isAlike_39 : decode cX7_isAlike 39 = .ok (.if_icmp .ne 25, 3) := by decide +kernel
theorem dX7_isAlike_42 : decode cX7_isAlike 42 = .ok (.aload_n 0, 1) := by decide +kernel
theorem dX7_isAlike_43 : decode cX7_isAlike 43 = .ok (.getfield 32, 3) := by decide +kernel
theorem dX7_isAlike_46 : decode cX7_isAlike 46 = .ok (.aload_n 1, 1) := by decide +kernel
theorem dX7_isAlike_47 : decode cX7_isAlike 47 = .ok (.getfield 32, 3) := by decide +kernel
theorem dX7_isAlike_50 : decode cX7_isAlike 50 = .ok (.if_icmp .ne 14, 3) := by decide +kernel
theorem dX7_isAlike_53 : decode cX7_isAlike 53 = .ok (.aload_n 0, 1) := by decide +kernel
theorem dX7_isAlike_54 : decode cX7_isAlike 54 = .ok (.getfield 35, 3) := by decide +kernel
theorem dX7_isAlike_57 : decode cX7_isAlike 57 = .ok (.aload_n 1, 1) := by decide +kernel
theorem dX7_isAlike_58 : decode cX7_isAlike 58 = .ok (.getfield 35, 3) := by decide +kernel
theorem dX7_isAlike_61 : decode cX7_isAlike 61 = .ok (.if_icmp .eq 5, 3) := by decide +kernel
theorem dX7_isAlike_64 : decode cX7_isAlike 64 = .ok (.iconst 0, 1) := by decide +kernel
theorem dX7_isAlike_65 : decode cX7_isAlike 65 = .ok (.ireturn, 1) := by decide +kernel
theorem dX7_isAlike_66 : decode cX7_isAlike 66 = .ok (.aload_n 0, 1) := by decide +kernel
theorem dX7_isAlike_67 : decode cX7_isAlike 67 = .ok (.getfield 38, 3) := by decide +kernel
theorem dX7_isAlike_70 : decode cX7_isAlike 70 = .ok (.aload_n 1, 1) := by decide +kernel
theorem dX7_isAlike_71 : decode cX7_isAlike 71 = .ok (.getfield 38, 3) := by decide +kernel
theorem dX7_isAlike_74 : decode cX7_isAlike 74 = .ok (.if_icmp .ne 14, 3) := by decide +kernel
theorem dX7_isAlike_77 : decode cX7_isAlike 77 = .ok (.aload_n 0, 1) := by decide +kernel
theorem dX7_isAlike_78 : decode cX7_isAlike 78 = .ok (.getfield 41, 3) := by decide +kernel
theorem dX7_isAlike_81 : decode cX7_isAlike 81 = .ok (.aload_n 1, 1) := by decide +kernel
theorem dX7_isAlike_82 : decode cX7_isAlike 82 = .ok (.getfield 41, 3) := by decide +kernel
theorem dX7_isAlike_85 : decode cX7_isAlike 85 = .ok (.if_icmp .eq 5, 3) := by decide +kernel
theorem dX7_isAlike_88 : decode cX7_isAlike 88 = .ok (.iconst 0, 1) := by decide +kernel
theorem dX7_isAlike_89 : decode cX7_isAlike 89 = .ok (.ireturn, 1) := by decide +kernel
theorem dX7_isAlike_90 : decode cX7_isAlike 90 = .ok (.iconst 0, 1) := by decide +kernel
theorem dX7_isAlike_91 : decode cX7_isAlike 91 = .ok (.istore_n 2, 1) := by decide +kernel
theorem dX7_isAlike_92 : decode cX7_isAlike 92 = .ok (.iload_n 2, 1) := by decide +kernel
theorem dX7_isAlike_93 : decode cX7_isAlike 93 = .ok (.aload_n 0, 1) := by decide +kernel
theorem dX7_isAlike_94 : decode cX7_isAlike 94 = .ok (.getfield 38, 3) := by decide +kernel
theorem dX7_isAlike_97 : decode cX7_isAlike 97 = .ok (.if_icmp .ge 26, 3) := by decide +kernel
theorem dX7_isAlike_100 : decode cX7_isAlike 100 = .ok (.aload_n 0, 1) := by decide +kernel
theorem dX7_isAlike_101 : decode cX7_isAlike 101 = .ok (.getfield 9, 3) := by decide +kernel
theorem dX7_isAlike_104 : decode cX7_isAlike 104 = .ok (.iload_n 2, 1) := by decide +kernel
theorem dX7_isAlike_105 : decode cX7_isAlike 105 = .ok (.iaload, 1) := by decide +kernel
theorem dX7_isAlike_106 : decode cX7_isAlike 106 = .ok (.aload_n 1, 1) := by decide +kernel
theorem dX7_isAlike_107 : decode cX7_isAlike 107 = .ok (.getfield 9, 3) := by decide +kernel
theorem dX7_isAlike_110 : decode cX7_isAlike 110 = .ok (.iload_n 2, 1) := by decide +kernel
theorem dX7_isAlike_111 : decode cX7_isAlike 111 = .ok (.iaload, 1) := by decide +kernel
theorem dX7_isAlike_112 : decode cX7_isAlike 112 = .ok (.if_icmp .eq 5, 3) := by decide +kernel
theorem dX7_isAlike_115 : decode cX7_isAlike 115 = .ok (.iconst 0, 1) := by decide +kernel
theorem dX7_isAlike_116 : decode cX7_isAlike 116 = .ok (.ireturn, 1) := by decide +kernel
theorem dX7_isAlike_117 : decode cX7_isAlike 117 = .ok (.iinc 2 1, 3) := by decide +kernel
theorem dX7_isAlike_120 : decode cX7_isAlike 120 = .ok (.goto (-28), 3) := by decide +kernel
theorem dX7_isAlike_123 : decode cX7_isAlike 123 = .ok (.iconst 0, 1) := by decide +kernel
theorem dX7_isAlike_124 : decode cX7_isAlike 124 = .ok (.istore_n 2, 1) := by decide +kernel
theorem dX7_isAlike_125 : decode cX7_isAlike 125 = .ok (.iload_n 2, 1) := by decide +kernel
theorem dX7_isAlike_126 : decode cX7_isAlike 126 = .ok (.aload_n 0, 1) := by decide +kernel
theorem dX7_isAlike_127 : decode cX7_isAlike 127 = .ok (.getfield 41, 3) := by decide +kernel
theorem dX7_isAlike_130 : decode cX7_isAlike 130 = .ok (.if_icmp .ge 26, 3) := by decide +kernel
theorem dX7_isAlike_133 : decode cX7_isAlike 133 = .ok (.aload_n 0, 1) := by decide +kernel
theorem dX7_isAlike_134 : decode cX7_isAlike 134 = .ok (.getfield 15, 3) := by decide +kernel
theorem dX7_isAlike_137 : decode cX7_isAlike 137 = .ok (.iload_n 2, 1) := by decide +kernel
theorem dX7_isAlike_138 : decode cX7_isAlike 138 = .ok (.iaload, 1) := by decide +kernel
theorem dX7_isAlike_139 : decode cX7_isAlike 139 = .ok (.aload_n 1, 1) := by decide +kernel
theorem dX7_isAlike_140 : decode cX7_isAlike 140 = .ok (.getfield 15, 3) := by decide +kernel
theorem dX7_isAlike_143 : decode cX7_isAlike 143 = .ok (.iload_n 2, 1) := by decide +kernel
theorem dX7_isAlike_144 : decode cX7_isAlike 144 = .ok (.iaload, 1) := by decide +kernel
theorem dX7_isAlike_145 : decode cX7_isAlike 145 = .ok (.if_icmp .eq 5, 3) := by decide +kernel
theorem dX7_isAlike_148 : decode cX7_isAlike 148 = .ok (.iconst 0, 1) := by decide +kernel
theorem dX7_isAlike_149 : decode cX7_isAlike 149 = .ok (.ireturn, 1) := by decide +kernel
theorem dX7_isAlike_150 : decode cX7_isAlike 150 = .ok (.iinc 2 1, 3) := by decide +kernel
theorem dX7_isAlike_153 : decode cX7_isAlike 153 = .ok (.goto (-28), 3) := by decide +kernel
theorem dX7_isAlike_156 : decode cX7_isAlike 156 = .ok (.iconst 1, 1) := by decide +kernel
theorem dX7_isAlike_157 : decode cX7_isAlike 157 = .ok (.ireturn, 1) := by decide +kernel
theorem dX7_passes_0 : decode cX7_passes 0 = .ok (.iconst 0, 1) := by decide +kernel
theorem dX7_passes_1 : decode cX7_passes 1 = .ok (.istore_n 2, 1) := by decide +kernel
theorem dX7_passes_2 : decode cX7_passes 2 = .ok (.iload_n 2, 1) := by decide +kernel
theorem dX7_passes_3 : decode cX7_passes 3 = .ok (.aload_n 0, 1) := by decide +kernel
theorem dX7_passes_4 : decode cX7_passes 4 = .ok (.getfield 38, 3) := by decide +kernel
theorem dX7_passes_7 : decode cX7_passes 7 = .ok (.if_icmp .ge 21, 3) := by decide +kernel
theorem dX7_passes_10 : decode cX7_passes 10 = .ok (.aload_n 0, 1) := by decide +kernel
theorem dX7_passes_11 : decode cX7_passes 11 = .ok (.getfield 9, 3) := by decide +kernel
theorem dX7_passes_14 : decode cX7_passes 14 = .ok (.iload_n 2, 1) := by decide +kernel
theorem dX7_passes_15 : decode cX7_passes 15 = .ok (.iaload, 1) := by decide +kernel
theorem dX7_passes_16 : decode cX7_passes 16 = .ok (.iload_n 1, 1) := by decide +kernel
theorem dX7_passes_17 : decode cX7_passes 17 = .ok (.if_icmp .ne 5, 3) := by decide +kernel
theorem dX7_passes_20 : decode cX7_passes 20 = .ok (.iconst 1, 1) := by decide +kernel
theorem dX7_passes_21 : decode cX7_passes 21 = .ok (.ireturn, 1) := by decide +kernel
theorem dX7_passes_22 : decode cX7_passes 22 = .ok (.iinc 2 1, 3) := by decide +kernel
theorem dX7_passes_25 : decode cX7_passes 25 = .ok (.goto (-23), 3) := by decide +kernel
theorem dX7_passes_28 : decode cX7_passes 28 = .ok (.iconst 0, 1) := by decide +kernel
theorem dX7_passes_29 : decode cX7_passes 29 = .ok (.ireturn, 1) := by decide +kernel
theorem dX7_putInFront_0 : decode cX7_putInFront 0 = .ok (.iload_n 2, 1) := by decide +kernel
theorem dX7_putInFront_1 : decode cX7_putInFront 1 = .ok (.ifCond .lt 14, 3) := by decide +kernel
theorem dX7_putInFront_4 : decode cX7_putInFront 4 = .ok (.aload_n 0, 1) := by decide +kernel
theorem dX7_putInFront_5 : decode cX7_putInFront 5 = .ok (.getfield 38, 3) := by decide +kernel
theorem dX7_putInFront_8 : decode cX7_putInFront 8 = .ok (.iload_n 2, 1) := by decide +kernel
theorem dX7_putInFront_9 : decode cX7_putInFront 9 = .ok (.iadd, 1) := by decide +kernel
theorem dX7_putInFront_10 : decode cX7_putInFront 10 = .ok (.bipush 20, 2) := by decide +kernel
theorem dX7_putInFront_12 : decode cX7_putInFront 12 = .ok (.if_icmp .le 5, 3) := by decide +kernel
theorem dX7_putInFront_15 : decode cX7_putInFront 15 = .ok (.iconst 0, 1) := by decide +kernel
theorem dX7_putInFront_16 : decode cX7_putInFront 16 = .ok (.ireturn, 1) := by decide +kernel
theorem dX7_putInFront_17 : decode cX7_putInFront 17 = .ok (.aload_n 0, 1) := by decide +kernel
theorem dX7_putInFront_18 : decode cX7_putInFront 18 = .ok (.getfield 38, 3) := by decide +kernel
theorem dX7_putInFront_21 : decode cX7_putInFront 21 = .ok (.iconst 1, 1) := by decide +kernel
theorem dX7_putInFront_22 : decode cX7_putInFront 22 = .ok (.isub, 1) := by decide +kernel
theorem dX7_putInFront_23 : decode cX7_putInFront 23 = .ok (.istore_n 3, 1) := by decide +kernel
theorem dX7_putInFront_24 : decode cX7_putInFront 24 = .ok (.iload_n 3, 1) := by decide +kernel
theorem dX7_putInFront_25 : decode cX7_putInFront 25 = .ok (.ifCond .lt 23, 3) := by decide +kernel
theorem dX7_putInFront_28 : decode cX7_putInFront 28 = .ok (.aload_n 0, 1) := by decide +kernel
theorem dX7_putInFront_29 : decode cX7_putInFront 29 = .ok (.getfield 9, 3) := by decide +kernel
theorem dX7_putInFront_32 : decode cX7_putInFront 32 = .ok (.iload_n 3, 1) := by decide +kernel
theorem dX7_putInFront_33 : decode cX7_putInFront 33 = .ok (.iload_n 2, 1) := by decide +kernel
theorem dX7_putInFront_34 : decode cX7_putInFront 34 = .ok (.iadd, 1) := by decide +kernel
theorem dX7_putInFront_35 : decode cX7_putInFront 35 = .ok (.aload_n 0, 1) := by decide +kernel
theorem dX7_putInFront_36 : decode cX7_putInFront 36 = .ok (.getfield 9, 3) := by decide +kernel
theorem dX7_putInFront_39 : decode cX7_putInFront 39 = .ok (.iload_n 3, 1) := by decide +kernel
theorem dX7_putInFront_40 : decode cX7_putInFront 40 = .ok (.iaload, 1) := by decide +kernel
theorem dX7_putInFront_41 : decode cX7_putInFront 41 = .ok (.iastore, 1) := by decide +kernel
theorem dX7_putInFront_42 : decode cX7_putInFront 42 = .ok (.iinc 3 (-1), 3) := by decide +kernel
theorem dX7_putInFront_45 : decode cX7_putInFront 45 = .ok (.goto (-21), 3) := by decide +kernel
theorem dX7_putInFront_48 : decode cX7_putInFront 48 = .ok (.iconst 0, 1) := by decide +kernel
theorem dX7_putInFront_49 : decode cX7_putInFront 49 = .ok (.istore_n 3, 1) := by decide +kernel
theorem dX7_putInFront_50 : decode cX7_putInFront 50 = .ok (.iload_n 3, 1) := by decide +kernel
theorem dX7_putInFront_51 : decode cX7_putInFront 51 = .ok (.iload_n 2, 1) := by decide +kernel
theorem dX7_putInFront_52 : decode cX7_putInFront 52 = .ok (.if_icmp .ge 16, 3) := by decide +kernel
theorem dX7_putInFront_55 : decode cX7_putInFront 55 = .ok (.aload_n 0, 1) := by decide +kernel
theorem dX7_putInFront_56 : decode cX7_putInFront 56 = .ok (.getfield 9, 3) := by decide +kernel
theorem dX7_putInFront_59 : decode cX7_putInFront 59 = .ok (.iload_n 3, 1) := by decide +kernel
theorem dX7_putInFront_60 : decode cX7_putInFront 60 = .ok (.iload_n 1, 1) := by decide +kernel
theorem dX7_putInFront_61 : decode cX7_putInFront 61 = .ok (.iastore, 1) := by decide +kernel
theorem dX7_putInFront_62 : decode cX7_putInFront 62 = .ok (.iinc 3 1, 3) := by decide +kernel
theorem dX7_putInFront_65 : decode cX7_putInFront 65 = .ok (.goto (-15), 3) := by decide +kernel
theorem dX7_putInFront_68 : decode cX7_putInFront 68 = .ok (.aload_n 0, 1) := by decide +kernel
theorem dX7_putInFront_69 : decode cX7_putInFront 69 = .ok (.dup, 1) := by decide +kernel
theorem dX7_putInFront_70 : decode cX7_putInFront 70 = .ok (.getfield 38, 3) := by decide +kernel
theorem dX7_putInFront_73 : decode cX7_putInFront 73 = .ok (.iload_n 2, 1) := by decide +kernel
theorem dX7_putInFront_74 : decode cX7_putInFront 74 = .ok (.iadd, 1) := by decide +kernel
theorem dX7_putInFront_75 : decode cX7_putInFront 75 = .ok (.putfield 38, 3) := by decide +kernel
theorem dX7_putInFront_78 : decode cX7_putInFront 78 = .ok (.iconst 1, 1) := by decide +kernel
theorem dX7_putInFront_79 : decode cX7_putInFront 79 = .ok (.ireturn, 1) := by decide +kernel
theorem dX7_sharesFirst_0 : decode cX7_sharesFirst 0 = .ok (.aload_n 0, 1) := by decide +kernel
theorem dX7_sharesFirst_1 : decode cX7_sharesFirst 1 = .ok (.getfield 38, 3) := by decide +kernel
theorem dX7_sharesFirst_4 : decode cX7_sharesFirst 4 = .ok (.ifCond .le 29, 3) := by decide +kernel
theorem dX7_sharesFirst_7 : decode cX7_sharesFirst 7 = .ok (.aload_n 1, 1) := by decide +kernel
theorem dX7_sharesFirst_8 : decode cX7_sharesFirst 8 = .ok (.getfield 38, 3) := by decide +kernel
theorem dX7_sharesFirst_11 : decode cX7_sharesFirst 11 = .ok (.ifCond .le 22, 3) := by decide +kernel
theorem dX7_sharesFirst_14 : decode cX7_sharesFirst 14 = .ok (.aload_n 0, 1) := by decide +kernel
theorem dX7_sharesFirst_15 : decode cX7_sharesFirst 15 = .ok (.getfield 9, 3) := by decide +kernel
theorem dX7_sharesFirst_18 : decode cX7_sharesFirst 18 = .ok (.iconst 0, 1) := by decide +kernel
theorem dX7_sharesFirst_19 : decode cX7_sharesFirst 19 = .ok (.iaload, 1) := by decide +kernel
theorem dX7_sharesFirst_20 : decode cX7_sharesFirst 20 = .ok (.aload_n 1, 1) := by decide +kernel
theorem dX7_sharesFirst_21 : decode cX7_sharesFirst 21 = .ok (.getfield 9, 3) := by decide +kernel
theorem dX7_sharesFirst_24 : decode cX7_sharesFirst 24 = .ok (.iconst 0, 1) := by decide +kernel
theorem dX7_sharesFirst_25 : decode cX7_sharesFirst 25 = .ok (.iaload, 1) := by decide +kernel
theorem dX7_sharesFirst_26 : decode cX7_sharesFirst 26 = .ok (.if_icmp .ne 7, 3) := by decide +kernel
theorem dX7_sharesFirst_29 : decode cX7_sharesFirst 29 = .ok (.iconst 1, 1) := by decide +kernel
theorem dX7_sharesFirst_30 : decode cX7_sharesFirst 30 = .ok (.goto 4, 3) := by decide +kernel
theorem dX7_sharesFirst_33 : decode cX7_sharesFirst 33 = .ok (.iconst 0, 1) := by decide +kernel
theorem dX7_sharesFirst_34 : decode cX7_sharesFirst 34 = .ok (.ireturn, 1) := by decide +kernel
theorem dX7_vanish_0 : decode cX7_vanish 0 = .ok (.aload_n 0, 1) := by decide +kernel
theorem dX7_vanish_1 : decode cX7_vanish 1 = .ok (.iconst 0, 1) := by decide +kernel
theorem dX7_vanish_2 : decode cX7_vanish 2 = .ok (.putfield 22, 3) := by decide +kernel
theorem dX7_vanish_5 : decode cX7_vanish 5 = .ok (.aload_n 0, 1) := by decide +kernel
theorem dX7_vanish_6 : decode cX7_vanish 6 = .ok (.iconst (-1), 1) := by decide +kernel
theorem dX7_vanish_7 : decode cX7_vanish 7 = .ok (.putfield 18, 3) := by decide +kernel
theorem dX7_vanish_10 : decode cX7_vanish 10 = .ok (.return_, 1) := by decide +kernel
theorem dX8_bestOfGroup_0 : decode cX8_bestOfGroup 0 = .ok (.iload_n 2, 1) := by decide +kernel
theorem dX8_bestOfGroup_1 : decode cX8_bestOfGroup 1 = .ok (.istore_n 3, 1) := by decide +kernel
theorem dX8_bestOfGroup_2 : decode cX8_bestOfGroup 2 = .ok (.iload_n 2, 1) := by decide +kernel
theorem dX8_bestOfGroup_3 : decode cX8_bestOfGroup 3 = .ok (.iconst 1, 1) := by decide +kernel
theorem dX8_bestOfGroup_4 : decode cX8_bestOfGroup 4 = .ok (.iadd, 1) := by decide +kernel
theorem dX8_bestOfGroup_5 : decode cX8_bestOfGroup 5 = .ok (.istore 4, 2) := by decide +kernel
theorem dX8_bestOfGroup_7 : decode cX8_bestOfGroup 7 = .ok (.iload 4, 2) := by decide +kernel
theorem dX8_bestOfGroup_9 : decode cX8_bestOfGroup 9 = .ok (.aload_n 0, 1) := by decide +kernel
theorem dX8_bestOfGroup_10 : decode cX8_bestOfGroup 10 = .ok (.getfield 200, 3) := by decide +kernel
theorem dX8_bestOfGroup_13 : decode cX8_bestOfGroup 13 = .ok (.if_icmp .ge 51, 3) := by decide +kernel
theorem dX8_bestOfGroup_16 : decode cX8_bestOfGroup 16 = .ok (.aload_n 0, 1) := by decide +kernel
theorem dX8_bestOfGroup_17 : decode cX8_bestOfGroup 17 = .ok (.getfield 34, 3) := by decide +kernel
theorem dX8_bestOfGroup_20 : decode cX8_bestOfGroup 20 = .ok (.iload 4, 2) := by decide +kernel
theorem dX8_bestOfGroup_22 : decode cX8_bestOfGroup 22 = .ok (.aaload, 1) := by decide +kernel
theorem dX8_bestOfGroup_23 : decode cX8_bestOfGroup 23 = .ok (.aload_n 0, 1) := by decide +kernel
theorem dX8_bestOfGroup_24 : decode cX8_bestOfGroup 24 = .ok (.getfield 34, 3) := by decide +kernel
theorem dX8_bestOfGroup_27 : decode cX8_bestOfGroup 27 = .ok (.iload_n 2, 1) := by decide +kernel
theorem dX8_bestOfGroup_28 : decode cX8_bestOfGroup 28 = .ok (.aaload, 1) := by decide +kernel
theorem dX8_bestOfGroup_29 : decode cX8_bestOfGroup 29 = .ok (.invokevirtual 239, 3) := by decide +kernel
theorem dX8_bestOfGroup_32 : decode cX8_bestOfGroup 32 = .ok (.ifCond .eq 26, 3) := by decide +kernel
theorem dX8_bestOfGroup_35 : decode cX8_bestOfGroup 35 = .ok (.aload_n 1, 1) := by decide +kernel
theorem dX8_bestOfGroup_36 : decode cX8_bestOfGroup 36 = .ok (.aload_n 0, 1) := by decide +kernel
theorem dX8_bestOfGroup_37 : decode cX8_bestOfGroup 37 = .ok (.getfield 34, 3) := by decide +kernel
theorem dX8_bestOfGroup_40 : decode cX8_bestOfGroup 40 = .ok (.iload 4, 2) := by decide +kernel
theorem dX8_bestOfGroup_42 : decode cX8_bestOfGroup 42 = .ok (.aaload, 1) := by decide +kernel
theorem dX8_bestOfGroup_43 : decode cX8_bestOfGroup 43 = .ok (.aload_n 0, 1) := by decide +kernel
theorem dX8_bestOfGroup_44 : decode cX8_bestOfGroup 44 = .ok (.getfield 34, 3) := by decide +kernel
theorem dX8_bestOfGroup_47 : decode cX8_bestOfGroup 47 = .ok (.iload_n 3, 1) := by decide +kernel
theorem dX8_bestOfGroup_48 : decode cX8_bestOfGroup 48 = .ok (.aaload, 1) := by decide +kernel
theorem dX8_bestOfGroup_49 : decode cX8_bestOfGroup 49 = .ok (.invokevirtual 235, 3) := by decide +kernel
theorem dX8_bestOfGroup_52 : decode cX8_bestOfGroup 52 = .ok (.ifCond .eq 6, 3) := by decide +kernel
theorem dX8_bestOfGroup_55 : decode cX8_bestOfGroup 55 = .ok (.iload 4, 2) := by decide +kernel
theorem dX8_bestOfGroup_57 : decode cX8_bestOfGroup 57 = .ok (.istore_n 3, 1) := by decide +kernel
theorem dX8_bestOfGroup_58 : decode cX8_bestOfGroup 58 = .ok (.iinc 4 1, 3) := by decide +kernel
theorem dX8_bestOfGroup_61 : decode cX8_bestOfGroup 61 = .ok (.goto (-54), 3) := by decide +kernel
theorem dX8_bestOfGroup_64 : decode cX8_bestOfGroup 64 = .ok (.iload_n 3, 1) := by decide +kernel
theorem dX8_bestOfGroup_65 : decode cX8_bestOfGroup 65 = .ok (.ireturn, 1) := by decide +kernel
theorem dX8_cancel_0 : decode cX8_cancel 0 = .ok (.aload_n 0, 1) := by decide +kernel
theorem dX8_cancel_1 : decode cX8_cancel 1 = .ok (.getfield 23, 3) := by decide +kernel
theorem dX8_cancel_4 : decode cX8_cancel 4 = .ok (.iload_n 1, 1) := by decide +kernel
theorem dX8_cancel_5 : decode cX8_cancel 5 = .ok (.iaload, 1) := by decide +kernel
theorem dX8_cancel_6 : decode cX8_cancel 6 = .ok (.iconst (-1), 1) := by decide +kernel
theorem dX8_cancel_7 : decode cX8_cancel 7 = .ok (.if_icmp .ne 4, 3) := by decide +kernel
theorem dX8_cancel_10 : decode cX8_cancel 10 = .ok (.return_, 1) := by decide +kernel
theorem dX8_cancel_11 : decode cX8_cancel 11 = .ok (.aload_n 0, 1) := by decide +kernel
theorem dX8_cancel_12 : decode cX8_cancel 12 = .ok (.getfield 23, 3) := by decide +kernel
theorem dX8_cancel_15 : decode cX8_cancel 15 = .ok (.iload_n 1, 1) := by decide +kernel
theorem dX8_cancel_16 : decode cX8_cancel 16 = .ok (.iconst (-1), 1) := by decide +kernel
theorem dX8_cancel_17 : decode cX8_cancel 17 = .ok (.iastore, 1) := by decide +kernel
theorem dX8_cancel_18 : decode cX8_cancel 18 = .ok (.iconst 0, 1) := by decide +kernel
theorem dX8_cancel_19 : decode cX8_cancel 19 = .ok (.istore_n 2, 1) := by decide +kernel
theorem dX8_cancel_20 : decode cX8_cancel 20 = .ok (.iload_n 2, 1) := by decide +kernel
theorem dX8_cancel_21 : decode cX8_cancel 21 = .ok (.aload_n 0, 1) := by decide +kernel
theorem dX8_cancel_22 : decode cX8_cancel 22 = .ok (.getfield 52, 3) := by decide +kernel
theorem dX8_cancel_25 : decode cX8_cancel 25 = .ok (.if_icmp .ge 19, 3) := by decide +kernel
theorem dX8_cancel_28 : decode cX8_cancel 28 = .ok (.aload_n 0, 1) := by decide +kernel
theorem dX8_cancel_29 : decode cX8_cancel 29 = .ok (.getfield 19, 3) := by decide +kernel
theorem dX8_cancel_32 : decode cX8_cancel 32 = .ok (.iload_n 2, 1) := by decide +kernel
theorem dX8_cancel_33 : decode cX8_cancel 33 = .ok (.iaload, 1) := by decide +kernel
theorem dX8_cancel_34 : decode cX8_cancel 34 = .ok (.iload_n 1, 1) := by decide +kernel
theorem dX8_cancel_35 : decode cX8_cancel 35 = .ok (.if_icmp .eq 9, 3) := by decide +kernel
theorem dX8_cancel_38 : decode cX8_cancel 38 = .ok (.iinc 2 1, 3) := by decide +kernel
theorem dX8_cancel_41 : decode cX8_cancel 41 = .ok (.goto (-21), 3) := by decide +kernel
theorem dX8_cancel_44 : decode cX8_cancel 44 = .ok (.iload_n 2, 1) := by decide +kernel
theorem dX8_cancel_45 : decode cX8_cancel 45 = .ok (.aload_n 0, 1) := by decide +kernel
theorem dX8_cancel_46 : decode cX8_cancel 46 = .ok (.getfield 52, 3) := by decide +kernel
theorem dX8_cancel_49 : decode cX8_cancel 49 = .ok (.if_icmp .ge 34, 3) := by decide +kernel
theorem dX8_cancel_52 : decode cX8_cancel 52 = .ok (.aload_n 0, 1) := by decide +kernel
theorem dX8_cancel_53 : decode cX8_cancel 53 = .ok (.dup, 1) := by decide +kernel
theorem dX8_cancel_54 : decode cX8_cancel 54 = .ok (.getfield 52, 3) := by decide +kernel
theorem dX8_cancel_57 : decode cX8_cancel 57 = .ok (.iconst 1, 1) := by decide +kernel
theorem dX8_cancel_58 : decode cX8_cancel 58 = .ok (.isub, 1) := by decide +kernel
theorem dX8_cancel_59 : decode cX8_cancel 59 = .ok (.putfield 52, 3) := by decide +kernel
theorem dX8_cancel_62 : decode cX8_cancel 62 = .ok (.aload_n 0, 1) := by decide +kernel
theorem dX8_cancel_63 : decode cX8_cancel 63 = .ok (.getfield 19, 3) := by decide +kernel
theorem dX8_cancel_66 : decode cX8_cancel 66 = .ok (.iload_n 2, 1) := by decide +kernel
theorem dX8_cancel_67 : decode cX8_cancel 67 = .ok (.iconst 1, 1) := by decide +kernel
theorem dX8_cancel_68 : decode cX8_cancel 68 = .ok (.iadd, 1) := by decide +kernel
theorem dX8_cancel_69 : decode cX8_cancel 69 = .ok (.aload_n 0, 1) := by decide +kernel
theorem dX8_cancel_70 : decode cX8_cancel 70 = .ok (.getfield 19, 3) := by decide +kernel
theorem dX8_cancel_73 : decode cX8_cancel 73 = .ok (.iload_n 2, 1) := by decide +kernel
theorem dX8_cancel_74 : decode cX8_cancel 74 = .ok (.aload_n 0, 1) := by decide +kernel
theorem dX8_cancel_75 : decode cX8_cancel 75 = .ok (.getfield 52, 3) := by decide +kernel
theorem dX8_cancel_78 : decode cX8_cancel 78 = .ok (.iload_n 2, 1) := by decide +kernel
theorem dX8_cancel_79 : decode cX8_cancel 79 = .ok (.isub, 1) := by decide +kernel
theorem dX8_cancel_80 : decode cX8_cancel 80 = .ok (.invokestatic 56, 3) := by decide +kernel
theorem dX8_cancel_83 : decode cX8_cancel 83 = .ok (.return_, 1) := by decide +kernel
theorem dX8_candidateOver_0 : decode cX8_candidateOver 0 = .ok (.iconst 0, 1) := by decide +kernel
theorem dX8_candidateOver_1 : decode cX8_candidateOver 1 = .ok (.istore_n 2, 1) := by decide +kernel
theorem dX8_candidateOver_2 : decode cX8_candidateOver 2 = .ok (.iload_n 2, 1) := by decide +kernel
theorem dX8_candidateOver_3 : decode cX8_candidateOver 3 = .ok (.aload_n 0, 1) := by decide +kernel
theorem dX8_candidateOver_4 : decode cX8_candidateOver 4 = .ok (.getfield 200, 3) := by decide +kernel
theorem dX8_candidateOver_7 : decode cX8_candidateOver 7 = .ok (.if_icmp .ge 24, 3) := by decide +kernel
theorem dX8_candidateOver_10 : decode cX8_candidateOver 10 = .ok (.aload_n 0, 1) := by decide +kernel
theorem dX8_candidateOver_11 : decode cX8_candidateOver 11 = .ok (.getfield 34, 3) := by decide +kernel
theorem dX8_candidateOver_14 : decode cX8_candidateOver 14 = .ok (.iload_n 2, 1) := by decide +kernel
theorem dX8_candidateOver_15 : decode cX8_candidateOver 15 = .ok (.aaload, 1) := by decide +kernel
theorem dX8_candidateOver_16 : decode cX8_candidateOver 16 = .ok (.getfield 188, 3) := by decide +kernel
theorem dX8_candidateOver_19 : decode cX8_candidateOver 19 = .ok (.iload_n 1, 1) := by decide +kernel
theorem dX8_candidateOver_20 : decode cX8_candidateOver 20 = .ok (.if_icmp .ne 5, 3) := by decide +kernel
theorem dX8_candidateOver_23 : decode cX8_candidateOver 23 = .ok (.iload_n 2, 1) := by decide +kernel
theorem dX8_candidateOver_24 : decode cX8_candidateOver 24 = .ok (.ireturn, 1) := by decide +kernel
theorem dX8_candidateOver_25 : decode cX8_candidateOver 25 = .ok (.iinc 2 1, 3) := by decide +kernel
theorem dX8_candidateOver_28 : decode cX8_candidateOver 28 = .ok (.goto (-26), 3) := by decide +kernel
theorem dX8_candidateOver_31 : decode cX8_candidateOver 31 = .ok (.iconst (-1), 1) := by decide +kernel
theorem dX8_candidateOver_32 : decode cX8_candidateOver 32 = .ok (.ireturn, 1) := by decide +kernel
theorem dX8_groupOrder_0 : decode cX8_groupOrder 0 = .ok (.aload_n 0, 1) := by decide +kernel
theorem dX8_groupOrder_1 : decode cX8_groupOrder 1 = .ok (.getfield 34, 3) := by decide +kernel
theorem dX8_groupOrder_4 : decode cX8_groupOrder 4 = .ok (.iload_n 1, 1) := by decide +kernel
theorem dX8_groupOrder_5 : decode cX8_groupOrder 5 = .ok (.aaload, 1) := by decide +kernel
theorem dX8_groupOrder_6 : decode cX8_groupOrder 6 = .ok (.getfield 246, 3) := by decide +kernel
theorem dX8_groupOrder_9 : decode cX8_groupOrder 9 = .ok (.ifCond .ne 9, 3) := by decide +kernel
theorem dX8_groupOrder_12 : decode cX8_groupOrder 12 = .ok (.ldc2_w 249, 3) := by decide +kernel
theorem dX8_groupOrder_15 : decode cX8_groupOrder 15 = .ok (.goto 19, 3) := by decide +kernel
theorem dX8_groupOrder_18 : decode cX8_groupOrder 18 = .ok (.aload_n 0, 1) := by decide +kernel
theorem dX8_groupOrder_19 : decode cX8_groupOrder 19 = .ok (.getfield 34, 3) := by decide +kernel
theorem dX8_groupOrder_22 : decode cX8_groupOrder 22 = .ok (.iload_n 1, 1) := by decide +kernel
theorem dX8_groupOrder_23 : decode cX8_groupOrder 23 = .ok (.aaload, 1) := by decide +kernel
theorem dX8_groupOrder_24 : decode cX8_groupOrder 24 = .ok (.getfield 251, 3) := by decide +kernel
theorem dX8_groupOrder_27 : decode cX8_groupOrder 27 = .ok (.iconst 0, 1) := by decide +kernel
theorem dX8_groupOrder_28 : decode cX8_groupOrder 28 = .ok (.iaload, 1) := by decide +kernel
theorem dX8_groupOrder_29 : decode cX8_groupOrder 29 = .ok (.i2l, 1) := by decide +kernel
theorem dX8_groupOrder_30 : decode cX8_groupOrder 30 = .ok (.ldc2_w 254, 3) := by decide +kernel
theorem dX8_groupOrder_33 : decode cX8_groupOrder 33 = .ok (.land, 1) := by decide +kernel
theorem dX8_groupOrder_34 : decode cX8_groupOrder 34 = .ok (.lreturn, 1) := by decide +kernel
theorem dX8_insertWinner_0 : decode cX8_insertWinner 0 = .ok (.iload_n 1, 1) := by decide +kernel
theorem dX8_insertWinner_1 : decode cX8_insertWinner 1 = .ok (.istore_n 3, 1) := by decide +kernel
theorem dX8_insertWinner_2 : decode cX8_insertWinner 2 = .ok (.iload_n 3, 1) := by decide +kernel
theorem dX8_insertWinner_3 : decode cX8_insertWinner 3 = .ok (.ifCond .le 44, 3) := by decide +kernel
theorem dX8_insertWinner_6 : decode cX8_insertWinner 6 = .ok (.aload_n 0, 1) := by decide +kernel
theorem dX8_insertWinner_7 : decode cX8_insertWinner 7 = .ok (.aload_n 0, 1) := by decide +kernel
theorem dX8_insertWinner_8 : decode cX8_insertWinner 8 = .ok (.getfield 39, 3) := by decide +kernel
theorem dX8_insertWinner_11 : decode cX8_insertWinner 11 = .ok (.iload_n 3, 1) := by decide +kernel
theorem dX8_insertWinner_12 : decode cX8_insertWinner 12 = .ok (.iconst 1, 1) := by decide +kernel
theorem dX8_insertWinner_13 : decode cX8_insertWinner 13 = .ok (.isub, 1) := by decide +kernel
theorem dX8_insertWinner_14 : decode cX8_insertWinner 14 = .ok (.iaload, 1) := by decide +kernel
theorem dX8_insertWinner_15 : decode cX8_insertWinner 15 = .ok (.invokevirtual 242, 3) := by decide +kernel
theorem dX8_insertWinner_18 : decode cX8_insertWinner 18 = .ok (.aload_n 0, 1) := by decide +kernel
theorem dX8_insertWinner_19 : decode cX8_insertWinner 19 = .ok (.iload_n 2, 1) := by decide +kernel
theorem dX8_insertWinner_20 : decode cX8_insertWinner 20 = .ok (.invokevirtual 242, 3) := by decide +kernel
theorem dX8_insertWinner_23 : decode cX8_insertWinner 23 = .ok (.lcmp, 1) := by decide +kernel
theorem dX8_insertWinner_24 : decode cX8_insertWinner 24 = .ok (.ifCond .le 23, 3) := by decide +kernel
theorem dX8_insertWinner_27 : decode cX8_insertWinner 27 = .ok (.aload_n 0, 1) := by decide +kernel
theorem dX8_insertWinner_28 : decode cX8_insertWinner 28 = .ok (.getfield 39, 3) := by decide +kernel
theorem dX8_insertWinner_31 : decode cX8_insertWinner 31 = .ok (.iload_n 3, 1) := by decide +kernel
theorem dX8_insertWinner_32 : decode cX8_insertWinner 32 = .ok (.aload_n 0, 1) := by decide +kernel
theorem dX8_insertWinner_33 : decode cX8_insertWinner 33 = .ok (.getfield 39, 3) := by decide +kernel
theorem dX8_insertWinner_36 : decode cX8_insertWinner 36 = .ok (.iload_n 3, 1) := by decide +kernel
theorem dX8_insertWinner_37 : decode cX8_insertWinner 37 = .ok (.iconst 1, 1) := by decide +kernel
theorem dX8_insertWinner_38 : decode cX8_insertWinner 38 = .ok (.isub, 1) := by decide +kernel
theorem dX8_insertWinner_39 : decode cX8_insertWinner 39 = .ok (.iaload, 1) := by decide +kernel
theorem dX8_insertWinner_40 : decode cX8_insertWinner 40 = .ok (.iastore, 1) := by decide +kernel
theorem dX8_insertWinner_41 : decode cX8_insertWinner 41 = .ok (.iinc 3 (-1), 3) := by decide +kernel
theorem dX8_insertWinner_44 : decode cX8_insertWinner 44 = .ok (.goto (-42), 3) := by decide +kernel
theorem dX8_insertWinner_47 : decode cX8_insertWinner 47 = .ok (.aload_n 0, 1) := by decide +kernel
theorem dX8_insertWinner_48 : decode cX8_insertWinner 48 = .ok (.getfield 39, 3) := by decide +kernel
theorem dX8_insertWinner_51 : decode cX8_insertWinner 51 = .ok (.iload_n 3, 1) := by decide +kernel
theorem dX8_insertWinner_52 : decode cX8_insertWinner 52 = .ok (.iload_n 2, 1) := by decide +kernel
theorem dX8_insertWinner_53 : decode cX8_insertWinner 53 = .ok (.iastore, 1) := by decide +kernel
theorem dX8_insertWinner_54 : decode cX8_insertWinner 54 = .ok (.return_, 1) := by decide +kernel
theorem dX8_isFirstOfGroup_0 : decode cX8_isFirstOfGroup 0 = .ok (.iconst 0, 1) := by decide +kernel
theorem dX8_isFirstOfGroup_1 : decode cX8_isFirstOfGroup 1 = .ok (.istore_n 2, 1) := by decide +kernel
theorem dX8_isFirstOfGroup_2 : decode cX8_isFirstOfGroup 2 = .ok (.iload_n 2, 1) := by decide +kernel
theorem dX8_isFirstOfGroup_3 : decode cX8_isFirstOfGroup 3 = .ok (.iload_n 1, 1) := by decide +kernel
theorem dX8_isFirstOfGroup_4 : decode cX8_isFirstOfGroup 4 = .ok (.if_icmp .ge 29, 3) := by decide +kernel
theorem dX8_isFirstOfGroup_7 : decode cX8_isFirstOfGroup 7 = .ok (.aload_n 0, 1) := by decide +kernel
theorem dX8_isFirstOfGroup_8 : decode cX8_isFirstOfGroup 8 = .ok (.getfield 34, 3) := by decide +kernel
theorem dX8_isFirstOfGroup_11 : decode cX8_isFirstOfGroup 11 = .ok (.iload_n 2, 1) := by decide +kernel
theorem dX8_isFirstOfGroup_12 : decode cX8_isFirstOfGroup 12 = .ok (.aaload, 1) := by decide +kernel
theorem dX8_isFirstOfGroup_13 : decode cX8_isFirstOfGroup 13 = .ok (.aload_n 0, 1) := by decide +kernel
theorem dX8_isFirstOfGroup_14 : decode cX8_isFirstOfGroup 14 = .ok (.getfield 34, 3) := by decide +kernel
theorem dX8_isFirstOfGroup_17 : decode cX8_isFirstOfGroup 17 = .ok (.iload_n 1, 1) := by decide +kernel
theorem dX8_isFirstOfGroup_18 : decode cX8_isFirstOfGroup 18 = .ok (.aaload, 1) := by decide +kernel
theorem dX8_isFirstOfGroup_19 : decode cX8_isFirstOfGroup 19 = .ok (.invokevirtual 239, 3) := by decide +kernel
theorem dX8_isFirstOfGroup_22 : decode cX8_isFirstOfGroup 22 = .ok (.ifCond .eq 5, 3) := by decide +kernel
theorem dX8_isFirstOfGroup_25 : decode cX8_isFirstOfGroup 25 = .ok (.iconst 0, 1) := by decide +kernel
theorem dX8_isFirstOfGroup_26 : decode cX8_isFirstOfGroup 26 = .ok (.ireturn, 1) := by decide +kernel
theorem dX8_isFirstOfGroup_27 : decode cX8_isFirstOfGroup 27 = .ok (.iinc 2 1, 3) := by decide +kernel
theorem dX8_isFirstOfGroup_30 : decode cX8_isFirstOfGroup 30 = .ok (.goto (-28), 3) := by decide +kernel
theorem dX8_isFirstOfGroup_33 : decode cX8_isFirstOfGroup 33 = .ok (.iconst 1, 1) := by decide +kernel
theorem dX8_isFirstOfGroup_34 : decode cX8_isFirstOfGroup 34 = .ok (.ireturn, 1) := by decide +kernel
theorem dX8_lastStanding_0 : decode cX8_lastStanding 0 = .ok (.iload_n 2, 1) := by decide +kernel
theorem dX8_lastStanding_1 : decode cX8_lastStanding 1 = .ok (.ifCond .le 12, 3) := by decide +kernel
theorem dX8_lastStanding_4 : decode cX8_lastStanding 4 = .ok (.aload_n 0, 1) := by decide +kernel
theorem dX8_lastStanding_5 : decode cX8_lastStanding 5 = .ok (.getfield 39, 3) := by decide +kernel
theorem dX8_lastStanding_8 : decode cX8_lastStanding 8 = .ok (.iconst 0, 1) := by decide +kernel
theorem dX8_lastStanding_9 : decode cX8_lastStanding 9 = .ok (.iaload, 1) := by decide +kernel
theorem dX8_lastStanding_10 : decode cX8_lastStanding 10 = .ok (.goto 4, 3) := by decide +kernel
theorem dX8_lastStanding_13 : decode cX8_lastStanding 13 = .ok (.iconst (-1), 1) := by decide +kernel
theorem dX8_lastStanding_14 : decode cX8_lastStanding 14 = .ok (.istore_n 3, 1) := by decide +kernel
theorem dX8_lastStanding_15 : decode cX8_lastStanding 15 = .ok (.iconst 1, 1) := by decide +kernel
theorem dX8_lastStanding_16 : decode cX8_lastStanding 16 = .ok (.istore 4, 2) := by decide +kernel
theorem dX8_lastStanding_18 : decode cX8_lastStanding 18 = .ok (.iload 4, 2) := by decide +kernel
theorem dX8_lastStanding_20 : decode cX8_lastStanding 20 = .ok (.iload_n 2, 1) := by decide +kernel
theorem dX8_lastStanding_21 : decode cX8_lastStanding 21 = .ok (.if_icmp .ge 42, 3) := by decide +kernel
theorem dX8_lastStanding_24 : decode cX8_lastStanding 24 = .ok (.aload_n 1, 1) := by decide +kernel
theorem dX8_lastStanding_25 : decode cX8_lastStanding 25 = .ok (.aload_n 0, 1) := by decide +kernel
theorem dX8_lastStanding_26 : decode cX8_lastStanding 26 = .ok (.getfield 34, 3) := by decide +kernel
theorem dX8_lastStanding_29 : decode cX8_lastStanding 29 = .ok (.aload_n 0, 1) := by decide +kernel
theorem dX8_lastStanding_30 : decode cX8_lastStanding 30 = .ok (.getfield 39, 3) := by decide +kernel
theorem dX8_lastStanding_33 : decode cX8_lastStanding 33 = .ok (.iload 4, 2) := by decide +kernel
theorem dX8_lastStanding_35 : decode cX8_lastStanding 35 = .ok (.iaload, 1) := by decide +kernel
theorem dX8_lastStanding_36 : decode cX8_lastStanding 36 = .ok (.aaload, 1) := by decide +kernel
theorem dX8_lastStanding_37 : decode cX8_lastStanding 37 = .ok (.aload_n 0, 1) := by decide +kernel
theorem dX8_lastStanding_38 : decode cX8_lastStanding 38 = .ok (.getfield 34, 3) := by decide +kernel
theorem dX8_lastStanding_41 : decode cX8_lastStanding 41 = .ok (.iload_n 3, 1) := by decide +kernel
theorem dX8_lastStanding_42 : decode cX8_lastStanding 42 = .ok (.aaload, 1) := by decide +kernel
theorem dX8_lastStanding_43 : decode cX8_lastStanding 43 = .ok (.invokevirtual 235, 3) := by decide +kernel
theorem dX8_lastStanding_46 : decode cX8_lastStanding 46 = .ok (.ifCond .eq 11, 3) := by decide +kernel
theorem dX8_lastStanding_49 : decode cX8_lastStanding 49 = .ok (.aload_n 0, 1) := by decide +kernel
theorem dX8_lastStanding_50 : decode cX8_lastStanding 50 = .ok (.getfield 39, 3) := by decide +kernel
theorem dX8_lastStanding_53 : decode cX8_lastStanding 53 = .ok (.iload 4, 2) := by decide +kernel
theorem dX8_lastStanding_55 : decode cX8_lastStanding 55 = .ok (.iaload, 1) := by decide +kernel
theorem dX8_lastStanding_56 : decode cX8_lastStanding 56 = .ok (.istore_n 3, 1) := by decide +kernel
theorem dX8_lastStanding_57 : decode cX8_lastStanding 57 = .ok (.iinc 4 1, 3) := by decide +kernel
theorem dX8_lastStanding_60 : decode cX8_lastStanding 60 = .ok (.goto (-42), 3) := by decide +kernel
theorem dX8_lastStanding_63 : decode cX8_lastStanding 63 = .ok (.iload_n 3, 1) := by decide +kernel
theorem dX8_lastStanding_64 : decode cX8_lastStanding 64 = .ok (.ireturn, 1) := by decide +kernel
theorem dX8_passTo_0 : decode cX8_passTo 0 = .ok (.aload_n 0, 1) := by decide +kernel
theorem dX8_passTo_1 : decode cX8_passTo 1 = .ok (.getfield 52, 3) := by decide +kernel
theorem dX8_passTo_4 : decode cX8_passTo 4 = .ok (.ifCond .eq 18, 3) := by decide +kernel
theorem dX8_passTo_7 : decode cX8_passTo 7 = .ok (.aload_n 0, 1) := by decide +kernel
theorem dX8_passTo_8 : decode cX8_passTo 8 = .ok (.getfield 23, 3) := by decide +kernel
theorem dX8_passTo_11 : decode cX8_passTo 11 = .ok (.aload_n 0, 1) := by decide +kernel
theorem dX8_passTo_12 : decode cX8_passTo 12 = .ok (.getfield 19, 3) := by decide +kernel
theorem dX8_passTo_15 : decode cX8_passTo 15 = .ok (.iconst 0, 1) := by decide +kernel
theorem dX8_passTo_16 : decode cX8_passTo 16 = .ok (.iaload, 1) := by decide +kernel
theorem dX8_passTo_17 : decode cX8_passTo 17 = .ok (.iaload, 1) := by decide +kernel
theorem dX8_passTo_18 : decode cX8_passTo 18 = .ok (.iload_n 1, 1) := by decide +kernel
theorem dX8_passTo_19 : decode cX8_passTo 19 = .ok (.if_icmp .le 8, 3) := by decide +kernel
theorem dX8_passTo_22 : decode cX8_passTo 22 = .ok (.aload_n 0, 1) := by decide +kernel
theorem dX8_passTo_23 : decode cX8_passTo 23 = .ok (.iload_n 1, 1) := by decide +kernel
theorem dX8_passTo_24 : decode cX8_passTo 24 = .ok (.putfield 62, 3) := by decide +kernel
theorem dX8_passTo_27 : decode cX8_passTo 27 = .ok (.return_, 1) := by decide +kernel
theorem dX8_pickGrouped_0 : decode cX8_pickGrouped 0 = .ok (.iconst 0, 1) := by decide +kernel
theorem dX8_pickGrouped_1 : decode cX8_pickGrouped 1 = .ok (.istore_n 2, 1) := by decide +kernel
theorem dX8_pickGrouped_2 : decode cX8_pickGrouped 2 = .ok (.iconst 0, 1) := by decide +kernel
theorem dX8_pickGrouped_3 : decode cX8_pickGrouped 3 = .ok (.istore_n 3, 1) := by decide +kernel
theorem dX8_pickGrouped_4 : decode cX8_pickGrouped 4 = .ok (.iload_n 3, 1) := by decide +kernel
theorem dX8_pickGrouped_5 : decode cX8_pickGrouped 5 = .ok (.aload_n 0, 1) := by decide +kernel
theorem dX8_pickGrouped_6 : decode cX8_pickGrouped 6 = .ok (.getfield 200, 3) := by decide +kernel
theorem dX8_pickGrouped_9 : decode cX8_pickGrouped 9 = .ok (.if_icmp .ge 31, 3) := by decide +kernel
theorem dX8_pickGrouped_12 : decode cX8_pickGrouped 12 = .ok (.aload_n 0, 1) := by decide +kernel
theorem dX8_pickGrouped_13 : decode cX8_pickGrouped 13 = .ok (.iload_n 3, 1) := by decide +kernel
theorem dX8_pickGrouped_14 : decode cX8_pickGrouped 14 = .ok (.invokevirtual 226, 3) := by decide +kernel
theorem dX8_pickGrouped_17 : decode cX8_pickGrouped 17 = .ok (.ifCond .eq 17, 3) := by decide +kernel
theorem dX8_pickGrouped_20 : decode cX8_pickGrouped 20 = .ok (.aload_n 0, 1) := by decide +kernel
theorem dX8_pickGrouped_21 : decode cX8_pickGrouped 21 = .ok (.iload_n 2, 1) := by decide +kernel
theorem dX8_pickGrouped_22 : decode cX8_pickGrouped 22 = .ok (.aload_n 0, 1) := by decide +kernel
theorem dX8_pickGrouped_23 : decode cX8_pickGrouped 23 = .ok (.aload_n 1, 1) := by decide +kernel
theorem dX8_pickGrouped_24 : decode cX8_pickGrouped 24 = .ok (.iload_n 3, 1) := by decide +kernel
theorem dX8_pickGrouped_25 : decode cX8_pickGrouped 25 = .ok (.invokevirtual 229, 3) := by decide +kernel
theorem dX8_pickGrouped_28 : decode cX8_pickGrouped 28 = .ok (.invokevirtual 232, 3) := by decide +kernel
theorem dX8_pickGrouped_31 : decode cX8_pickGrouped 31 = .ok (.iinc 2 1, 3) := by decide +kernel
theorem dX8_pickGrouped_34 : decode cX8_pickGrouped 34 = .ok (.iinc 3 1, 3) := by decide +kernel
theorem dX8_pickGrouped_37 : decode cX8_pickGrouped 37 = .ok (.goto (-33), 3) := by decide +kernel
theorem dX8_pickGrouped_40 : decode cX8_pickGrouped 40 = .ok (.aload_n 0, 1) := by decide +kernel
theorem dX8_pickGrouped_41 : decode cX8_pickGrouped 41 = .ok (.aload_n 1, 1) := by decide +kernel
theorem dX8_pickGrouped_42 : decode cX8_pickGrouped 42 = .ok (.iload_n 2, 1) := by decide +kernel
theorem dX8_pickGrouped_43 : decode cX8_pickGrouped 43 = .ok (.invokevirtual 222, 3) := by decide +kernel
theorem dX8_pickGrouped_46 : decode cX8_pickGrouped 46 = .ok (.ireturn, 1) := by decide +kernel
theorem dX8_pickPlain_0 : decode cX8_pickPlain 0 = .ok (.iconst 0, 1) := by decide +kernel
theorem dX8_pickPlain_1 : decode cX8_pickPlain 1 = .ok (.istore_n 2, 1) := by decide +kernel
theorem dX8_pickPlain_2 : decode cX8_pickPlain 2 = .ok (.iload_n 2, 1) := by decide +kernel
theorem dX8_pickPlain_3 : decode cX8_pickPlain 3 = .ok (.aload_n 0, 1) := by decide +kernel
theorem dX8_pickPlain_4 : decode cX8_pickPlain 4 = .ok (.getfield 200, 3) := by decide +kernel
theorem dX8_pickPlain_7 : decode cX8_pickPlain 7 = .ok (.if_icmp .ge 16, 3) := by decide +kernel
theorem dX8_pickPlain_10 : decode cX8_pickPlain 10 = .ok (.aload_n 0, 1) := by decide +kernel
theorem dX8_pickPlain_11 : decode cX8_pickPlain 11 = .ok (.getfield 39, 3) := by decide +kernel
theorem dX8_pickPlain_14 : decode cX8_pickPlain 14 = .ok (.iload_n 2, 1) := by decide +kernel
theorem dX8_pickPlain_15 : decode cX8_pickPlain 15 = .ok (.iload_n 2, 1) := by decide +kernel
theorem dX8_pickPlain_16 : decode cX8_pickPlain 16 = .ok (.iastore, 1) := by decide +kernel
theorem dX8_pickPlain_17 : decode cX8_pickPlain 17 = .ok (.iinc 2 1, 3) := by decide +kernel
theorem dX8_pickPlain_20 : decode cX8_pickPlain 20 = .ok (.goto (-18), 3) := by decide +kernel
theorem dX8_pickPlain_23 : decode cX8_pickPlain 23 = .ok (.aload_n 0, 1) := by decide +kernel
theorem dX8_pickPlain_24 : decode cX8_pickPlain 24 = .ok (.aload_n 1, 1) := by decide +kernel
theorem dX8_pickPlain_25 : decode cX8_pickPlain 25 = .ok (.aload_n 0, 1) := by decide +kernel
theorem dX8_pickPlain_26 : decode cX8_pickPlain 26 = .ok (.getfield 200, 3) := by decide +kernel
theorem dX8_pickPlain_29 : decode cX8_pickPlain 29 = .ok (.invokevirtual 222, 3) := by decide +kernel
theorem dX8_pickPlain_32 : decode cX8_pickPlain 32 = .ok (.ireturn, 1) := by decide +kernel
theorem dX8_schedule_0 : decode cX8_schedule 0 = .ok (.aload_n 0, 1) := by decide +kernel
theorem dX8_schedule_1 : decode cX8_schedule 1 = .ok (.getfield 52, 3) := by decide +kernel
theorem dX8_schedule_4 : decode cX8_schedule 4 = .ok (.sipush 800, 3) := by decide +kernel
theorem dX8_schedule_7 : decode cX8_schedule 7 = .ok (.if_icmp .lt 4, 3) := by decide +kernel
theorem dX8_schedule_10 : decode cX8_schedule 10 = .ok (.return_, 1) := by decide +kernel
theorem dX8_schedule_11 : decode cX8_schedule 11 = .ok (.aload_n 0, 1) := by decide +kernel
theorem dX8_schedule_12 : decode cX8_schedule 12 = .ok (.getfield 52, 3) := by decide +kernel
theorem dX8_schedule_15 : decode cX8_schedule 15 = .ok (.istore_n 3, 1) := by decide +kernel
theorem dX8_schedule_16 : decode cX8_schedule 16 = .ok (.iload_n 3, 1) := by decide +kernel
theorem dX8_schedule_17 : decode cX8_schedule 17 = .ok (.ifCond .le 26, 3) := by decide +kernel
theorem dX8_schedule_20 : decode cX8_schedule 20 = .ok (.aload_n 0, 1) := by decide +kernel
theorem dX8_schedule_21 : decode cX8_schedule 21 = .ok (.getfield 23, 3) := by decide +kernel
theorem dX8_schedule_24 : decode cX8_schedule 24 = .ok (.aload_n 0, 1) := by decide +kernel
theorem dX8_schedule_25 : decode cX8_schedule 25 = .ok (.getfield 19, 3) := by decide +kernel
theorem dX8_schedule_28 : decode cX8_schedule 28 = .ok (.iload_n 3, 1) := by decide +kernel
theorem dX8_schedule_29 : decode cX8_schedule 29 = .ok (.iconst 1, 1) := by decide +kernel
theorem dX8_schedule_30 : decode cX8_schedule 30 = .ok (.isub, 1) := by decide +kernel
theorem dX8_schedule_31 : decode cX8_schedule 31 = .ok (.iaload, 1) := by decide +kernel
theorem dX8_schedule_32 : decode cX8_schedule 32 = .ok (.iaload, 1) := by decide +kernel
theorem dX8_schedule_33 : decode cX8_schedule 33 = .ok (.iload_n 2, 1) := by decide +kernel
theorem dX8_schedule_34 : decode cX8_schedule 34 = .ok (.if_icmp .le 9, 3) := by decide +kernel
theorem dX8_schedule_37 : decode cX8_schedule 37 = .ok (.iinc 3 (-1), 3) := by decide +kernel
theorem dX8_schedule_40 : decode cX8_schedule 40 = .ok (.goto (-24), 3) := by decide +kernel
theorem dX8_schedule_43 : decode cX8_schedule 43 = .ok (.aload_n 0, 1) := by decide +kernel
theorem dX8_schedule_44 : decode cX8_schedule 44 = .ok (.getfield 19, 3) := by decide +kernel
theorem dX8_schedule_47 : decode cX8_schedule 47 = .ok (.iload_n 3, 1) := by decide +kernel
theorem dX8_schedule_48 : decode cX8_schedule 48 = .ok (.aload_n 0, 1) := by decide +kernel
theorem dX8_schedule_49 : decode cX8_schedule 49 = .ok (.getfield 19, 3) := by decide +kernel
theorem dX8_schedule_52 : decode cX8_schedule 52 = .ok (.iload_n 3, 1) := by decide +kernel
theorem dX8_schedule_53 : decode cX8_schedule 53 = .ok (.iconst 1, 1) := by decide +kernel
theorem dX8_schedule_54 : decode cX8_schedule 54 = .ok (.iadd, 1) := by decide +kernel
theorem dX8_schedule_55 : decode cX8_schedule 55 = .ok (.aload_n 0, 1) := by decide +kernel
theorem dX8_schedule_56 : decode cX8_schedule 56 = .ok (.getfield 52, 3) := by decide +kernel
theorem dX8_schedule_59 : decode cX8_schedule 59 = .ok (.iload_n 3, 1) := by decide +kernel
theorem dX8_schedule_60 : decode cX8_schedule 60 = .ok (.isub, 1) := by decide +kernel
theorem dX8_schedule_61 : decode cX8_schedule 61 = .ok (.invokestatic 56, 3) := by decide +kernel
theorem dX8_schedule_64 : decode cX8_schedule 64 = .ok (.aload_n 0, 1) := by decide +kernel
theorem dX8_schedule_65 : decode cX8_schedule 65 = .ok (.getfield 19, 3) := by decide +kernel
theorem dX8_schedule_68 : decode cX8_schedule 68 = .ok (.iload_n 3, 1) := by decide +kernel
theorem dX8_schedule_69 : decode cX8_schedule 69 = .ok (.iload_n 1, 1) := by decide +kernel
theorem dX8_schedule_70 : decode cX8_schedule 70 = .ok (.iastore, 1) := by decide +kernel
theorem dX8_schedule_71 : decode cX8_schedule 71 = .ok (.aload_n 0, 1) := by decide +kernel
theorem dX8_schedule_72 : decode cX8_schedule 72 = .ok (.getfield 23, 3) := by decide +kernel
theorem dX8_schedule_75 : decode cX8_schedule 75 = .ok (.iload_n 1, 1) := by decide +kernel
theorem dX8_schedule_76 : decode cX8_schedule 76 = .ok (.iload_n 2, 1) := by decide +kernel
theorem dX8_schedule_77 : decode cX8_schedule 77 = .ok (.iastore, 1) := by decide +kernel
theorem dX8_schedule_78 : decode cX8_schedule 78 = .ok (.aload_n 0, 1) := by decide +kernel
theorem dX8_schedule_79 : decode cX8_schedule 79 = .ok (.dup, 1) := by decide +kernel
theorem dX8_schedule_80 : decode cX8_schedule 80 = .ok (.getfield 52, 3) := by decide +kernel
theorem dX8_schedule_83 : decode cX8_schedule 83 = .ok (.iconst 1, 1) := by decide +kernel
theorem dX8_schedule_84 : decode cX8_schedule 84 = .ok (.iadd, 1) := by decide +kernel
theorem dX8_schedule_85 : decode cX8_schedule 85 = .ok (.putfield 52, 3) := by decide +kernel
theorem dX8_schedule_88 : decode cX8_schedule 88 = .ok (.return_, 1) := by decide +kernel
theorem dX8_slotOf_0 : decode cX8_slotOf 0 = .ok (.iload_n 0, 1) := by decide +kernel
theorem dX8_slotOf_1 : decode cX8_slotOf 1 = .ok (.iconst 2, 1) := by decide +kernel
theorem dX8_slotOf_2 : decode cX8_slotOf 2 = .ok (.imul, 1) := by decide +kernel
theorem dX8_slotOf_3 : decode cX8_slotOf 3 = .ok (.iload_n 1, 1) := by decide +kernel
theorem dX8_slotOf_4 : decode cX8_slotOf 4 = .ok (.iadd, 1) := by decide +kernel
theorem dX8_slotOf_5 : decode cX8_slotOf 5 = .ok (.bipush 10, 2) := by decide +kernel
theorem dX8_slotOf_7 : decode cX8_slotOf 7 = .ok (.imul, 1) := by decide +kernel
theorem dX8_slotOf_8 : decode cX8_slotOf 8 = .ok (.iload_n 2, 1) := by decide +kernel
theorem dX8_slotOf_9 : decode cX8_slotOf 9 = .ok (.iadd, 1) := by decide +kernel
theorem dX8_slotOf_10 : decode cX8_slotOf 10 = .ok (.iconst 2, 1) := by decide +kernel
theorem dX8_slotOf_11 : decode cX8_slotOf 11 = .ok (.imul, 1) := by decide +kernel
theorem dX8_slotOf_12 : decode cX8_slotOf 12 = .ok (.iload_n 3, 1) := by decide +kernel
theorem dX8_slotOf_13 : decode cX8_slotOf 13 = .ok (.iadd, 1) := by decide +kernel
theorem dX8_slotOf_14 : decode cX8_slotOf 14 = .ok (.ireturn, 1) := by decide +kernel
theorem dX9_end_0 : decode cX9_end 0 = .ok (.iload_n 1, 1) := by decide +kernel
theorem dX9_end_1 : decode cX9_end 1 = .ok (.ifCond .ne 10, 3) := by decide +kernel
theorem dX9_end_4 : decode cX9_end 4 = .ok (.aload_n 0, 1) := by decide +kernel
theorem dX9_end_5 : decode cX9_end 5 = .ok (.getfield 9, 3) := by decide +kernel
theorem dX9_end_8 : decode cX9_end 8 = .ok (.goto 7, 3) := by decide +kernel
theorem dX9_end_11 : decode cX9_end 11 = .ok (.aload_n 0, 1) := by decide +kernel
theorem dX9_end_12 : decode cX9_end 12 = .ok (.getfield 15, 3) := by decide +kernel
theorem dX9_end_15 : decode cX9_end 15 = .ok (.ireturn, 1) := by decide +kernel
theorem dX9_partnerRole_0 : decode cX9_partnerRole 0 = .ok (.aload_n 0, 1) := by decide +kernel
theorem dX9_partnerRole_1 : decode cX9_partnerRole 1 = .ok (.getfield 18, 3) := by decide +kernel
theorem dX9_partnerRole_4 : decode cX9_partnerRole 4 = .ok (.iconst 1, 1) := by decide +kernel
theorem dX9_partnerRole_5 : decode cX9_partnerRole 5 = .ok (.if_icmp .ne 5, 3) := by decide +kernel
theorem dX9_partnerRole_8 : decode cX9_partnerRole 8 = .ok (.iconst 2, 1) := by decide +kernel
theorem dX9_partnerRole_9 : decode cX9_partnerRole 9 = .ok (.ireturn, 1) := by decide +kernel
theorem dX9_partnerRole_10 : decode cX9_partnerRole 10 = .ok (.aload_n 0, 1) := by decide +kernel
theorem dX9_partnerRole_11 : decode cX9_partnerRole 11 = .ok (.getfield 18, 3) := by decide +kernel
theorem dX9_partnerRole_14 : decode cX9_partnerRole 14 = .ok (.iconst 2, 1) := by decide +kernel
theorem dX9_partnerRole_15 : decode cX9_partnerRole 15 = .ok (.if_icmp .ne 5, 3) := by decide +kernel
theorem dX9_partnerRole_18 : decode cX9_partnerRole 18 = .ok (.iconst 3, 1) := by decide +kernel
theorem dX9_partnerRole_19 : decode cX9_partnerRole 19 = .ok (.ireturn, 1) := by decide +kernel
theorem dX9_partnerRole_20 : decode cX9_partnerRole 20 = .ok (.iload_n 1, 1) := by decide +kernel
theorem dX9_partnerRole_21 : decode cX9_partnerRole 21 = .ok (.ifCond .ne 7, 3) := by decide +kernel
theorem dX9_partnerRole_24 : decode cX9_partnerRole 24 = .ok (.iconst 0, 1) := by decide +kernel
theorem dX9_partnerRole_25 : decode cX9_partnerRole 25 = .ok (.goto 4, 3) := by decide +kernel
theorem dX9_partnerRole_28 : decode cX9_partnerRole 28 = .ok (.iconst 1, 1) := by decide +kernel
theorem dX9_partnerRole_29 : decode cX9_partnerRole 29 = .ok (.ireturn, 1) := by decide +kernel
theorem dX9_placeOf_0 : decode cX9_placeOf 0 = .ok (.iload_n 0, 1) := by decide +kernel
theorem dX9_placeOf_1 : decode cX9_placeOf 1 = .ok (.bipush 10, 2) := by decide +kernel
theorem dX9_placeOf_3 : decode cX9_placeOf 3 = .ok (.imul, 1) := by decide +kernel
theorem dX9_placeOf_4 : decode cX9_placeOf 4 = .ok (.iload_n 1, 1) := by decide +kernel
theorem dX9_placeOf_5 : decode cX9_placeOf 5 = .ok (.iadd, 1) := by decide +kernel
theorem dX9_placeOf_6 : decode cX9_placeOf 6 = .ok (.ireturn, 1) := by decide +kernel
theorem dX9_sideOf_0 : decode cX9_sideOf 0 = .ok (.iload_n 1, 1) := by decide +kernel
theorem dX9_sideOf_1 : decode cX9_sideOf 1 = .ok (.aload_n 0, 1) := by decide +kernel
theorem dX9_sideOf_2 : decode cX9_sideOf 2 = .ok (.getfield 9, 3) := by decide +kernel
theorem dX9_sideOf_5 : decode cX9_sideOf 5 = .ok (.if_icmp .ne 5, 3) := by decide +kernel
theorem dX9_sideOf_8 : decode cX9_sideOf 8 = .ok (.iconst 0, 1) := by decide +kernel
theorem dX9_sideOf_9 : decode cX9_sideOf 9 = .ok (.ireturn, 1) := by decide +kernel
theorem dX9_sideOf_10 : decode cX9_sideOf 10 = .ok (.iload_n 1, 1) := by decide +kernel
theorem dX9_sideOf_11 : decode cX9_sideOf 11 = .ok (.aload_n 0, 1) := by decide +kernel
theorem dX9_sideOf_12 : decode cX9_sideOf 12 = .ok (.getfield 15, 3) := by decide +kernel
theorem dX9_sideOf_15 : decode cX9_sideOf 15 = .ok (.if_icmp .ne 7, 3) := by decide +kernel
theorem dX9_sideOf_18 : decode cX9_sideOf 18 = .ok (.iconst 1, 1) := by decide +kernel
theorem dX9_sideOf_19 : decode cX9_sideOf 19 = .ok (.goto 4, 3) := by decide +kernel
theorem dX9_sideOf_22 : decode cX9_sideOf 22 = .ok (.iconst (-1), 1) := by decide +kernel
theorem dX9_sideOf_23 : decode cX9_sideOf 23 = .ok (.ireturn, 1) := by decide +kernel
