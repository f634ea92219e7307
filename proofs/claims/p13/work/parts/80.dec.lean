theorem dJ_bits_0 : decode cJ_bits 0 = .ok (.iload_n 0, 1) := by decide +kernel
theorem dJ_bits_1 : decode cJ_bits 1 = .ok (.iload_n 0, 1) := by decide +kernel
theorem dJ_bits_2 : decode cJ_bits 2 = .ok (.iconst 1, 1) := by decide +kernel
theorem dJ_bits_3 : decode cJ_bits 3 = .ok (.iushr, 1) := by decide +kernel
theorem dJ_bits_4 : decode cJ_bits 4 = .ok (.ldc_w 265, 3) := by decide +kernel
theorem dJ_bits_7 : decode cJ_bits 7 = .ok (.iand, 1) := by decide +kernel
theorem dJ_bits_8 : decode cJ_bits 8 = .ok (.isub, 1) := by decide +kernel
theorem dJ_bits_9 : decode cJ_bits 9 = .ok (.istore_n 0, 1) := by decide +kernel
theorem dJ_bits_10 : decode cJ_bits 10 = .ok (.iload_n 0, 1) := by decide +kernel
theorem dJ_bits_11 : decode cJ_bits 11 = .ok (.ldc_w 266, 3) := by decide +kernel
theorem dJ_bits_14 : decode cJ_bits 14 = .ok (.iand, 1) := by decide +kernel
theorem dJ_bits_15 : decode cJ_bits 15 = .ok (.iload_n 0, 1) := by decide +kernel
theorem dJ_bits_16 : decode cJ_bits 16 = .ok (.iconst 2, 1) := by decide +kernel
theorem dJ_bits_17 : decode cJ_bits 17 = .ok (.iushr, 1) := by decide +kernel
theorem dJ_bits_18 : decode cJ_bits 18 = .ok (.ldc_w 266, 3) := by decide +kernel
theorem dJ_bits_21 : decode cJ_bits 21 = .ok (.iand, 1) := by decide +kernel
theorem dJ_bits_22 : decode cJ_bits 22 = .ok (.iadd, 1) := by decide +kernel
theorem dJ_bits_23 : decode cJ_bits 23 = .ok (.istore_n 0, 1) := by decide +kernel
theorem dJ_bits_24 : decode cJ_bits 24 = .ok (.iload_n 0, 1) := by decide +kernel
theorem dJ_bits_25 : decode cJ_bits 25 = .ok (.iload_n 0, 1) := by decide +kernel
theorem dJ_bits_26 : decode cJ_bits 26 = .ok (.iconst 4, 1) := by decide +kernel
theorem dJ_bits_27 : decode cJ_bits 27 = .ok (.iushr, 1) := by decide +kernel
theorem dJ_bits_28 : decode cJ_bits 28 = .ok (.iadd, 1) := by decide +kernel
theorem dJ_bits_29 : decode cJ_bits 29 = .ok (.ldc_w 267, 3) := by decide +kernel
theorem dJ_bits_32 : decode cJ_bits 32 = .ok (.iand, 1) := by decide +kernel
theorem dJ_bits_33 : decode cJ_bits 33 = .ok (.istore_n 0, 1) := by decide +kernel
theorem dJ_bits_34 : decode cJ_bits 34 = .ok (.iload_n 0, 1) := by decide +kernel
theorem dJ_bits_35 : decode cJ_bits 35 = .ok (.iload_n 0, 1) := by decide +kernel
theorem dJ_bits_36 : decode cJ_bits 36 = .ok (.bipush 8, 2) := by decide +kernel
theorem dJ_bits_38 : decode cJ_bits 38 = .ok (.iushr, 1) := by decide +kernel
theorem dJ_bits_39 : decode cJ_bits 39 = .ok (.iadd, 1) := by decide +kernel
theorem dJ_bits_40 : decode cJ_bits 40 = .ok (.istore_n 0, 1) := by decide +kernel
theorem dJ_bits_41 : decode cJ_bits 41 = .ok (.iload_n 0, 1) := by decide +kernel
theorem dJ_bits_42 : decode cJ_bits 42 = .ok (.iload_n 0, 1) := by decide +kernel
theorem dJ_bits_43 : decode cJ_bits 43 = .ok (.bipush 16, 2) := by decide +kernel
theorem dJ_bits_45 : decode cJ_bits 45 = .ok (.iushr, 1) := by decide +kernel
theorem dJ_bits_46 : decode cJ_bits 46 = .ok (.iadd, 1) := by decide +kernel
theorem dJ_bits_47 : decode cJ_bits 47 = .ok (.istore_n 0, 1) := by decide +kernel
theorem dJ_bits_48 : decode cJ_bits 48 = .ok (.iload_n 0, 1) := by decide +kernel
theorem dJ_bits_49 : decode cJ_bits 49 = .ok (.bipush 63, 2) := by decide +kernel
theorem dJ_bits_51 : decode cJ_bits 51 = .ok (.iand, 1) := by decide +kernel
theorem dJ_bits_52 : decode cJ_bits 52 = .ok (.ireturn, 1) := by decide +kernel
theorem dX11_cone_0 : decode cX11_cone 0 = .ok (.aload_n 0, 1) := by decide +kernel
theorem dX11_cone_1 : decode cX11_cone 1 = .ok (.iload_n 1, 1) := by decide +kernel
theorem dX11_cone_2 : decode cX11_cone 2 = .ok (.invokevirtual 105, 3) := by decide +kernel
theorem dX11_cone_5 : decode cX11_cone 5 = .ok (.ifCond .eq 16, 3) := by decide +kernel
theorem dX11_cone_8 : decode cX11_cone 8 = .ok (.iload_n 2, 1) := by decide +kernel
theorem dX11_cone_9 : decode cX11_cone 9 = .ok (.iconst (-1), 1) := by decide +kernel
theorem dX11_cone_10 : decode cX11_cone 10 = .ok (.if_icmp .eq 13, 3) := by decide +kernel
theorem dX11_cone_13 : decode cX11_cone 13 = .ok (.aload_n 0, 1) := by decide +kernel
theorem dX11_cone_14 : decode cX11_cone 14 = .ok (.iload_n 2, 1) := by decide +kernel
theorem dX11_cone_15 : decode cX11_cone 15 = .ok (.invokevirtual 105, 3) := by decide +kernel
theorem dX11_cone_18 : decode cX11_cone 18 = .ok (.ifCond .ne 5, 3) := by decide +kernel
theorem dX11_cone_21 : decode cX11_cone 21 = .ok (.iconst (-1), 1) := by decide +kernel
theorem dX11_cone_22 : decode cX11_cone 22 = .ok (.ireturn, 1) := by decide +kernel
theorem dX11_cone_23 : decode cX11_cone 23 = .ok (.aload_n 0, 1) := by decide +kernel
theorem dX11_cone_24 : decode cX11_cone 24 = .ok (.getfield 26, 3) := by decide +kernel
theorem dX11_cone_27 : decode cX11_cone 27 = .ok (.iload_n 1, 1) := by decide +kernel
theorem dX11_cone_28 : decode cX11_cone 28 = .ok (.invokevirtual 154, 3) := by decide +kernel
theorem dX11_cone_31 : decode cX11_cone 31 = .ok (.istore_n 3, 1) := by decide +kernel
theorem dX11_cone_32 : decode cX11_cone 32 = .ok (.iload_n 2, 1) := by decide +kernel
theorem dX11_cone_33 : decode cX11_cone 33 = .ok (.iconst (-1), 1) := by decide +kernel
theorem dX11_cone_34 : decode cX11_cone 34 = .ok (.if_icmp .ne 10, 3) := by decide +kernel
theorem dX11_cone_37 : decode cX11_cone 37 = .ok (.iload_n 3, 1) := by decide +kernel
theorem dX11_cone_38 : decode cX11_cone 38 = .ok (.invokestatic 157, 3) := by decide +kernel
theorem dX11_cone_41 : decode cX11_cone 41 = .ok (.goto 8, 3) := by decide +kernel
theorem dX11_cone_44 : decode cX11_cone 44 = .ok (.iload_n 3, 1) := by decide +kernel
theorem dX11_cone_45 : decode cX11_cone 45 = .ok (.iload_n 2, 1) := by decide +kernel
theorem dX11_cone_46 : decode cX11_cone 46 = .ok (.ishr, 1) := by decide +kernel
theorem dX11_cone_47 : decode cX11_cone 47 = .ok (.iconst 1, 1) := by decide +kernel
theorem dX11_cone_48 : decode cX11_cone 48 = .ok (.iand, 1) := by decide +kernel
theorem dX11_cone_49 : decode cX11_cone 49 = .ok (.ireturn, 1) := by decide +kernel
theorem dX11_judge_0 : decode cX11_judge 0 = .ok (.iload_n 1, 1) := by decide +kernel
theorem dX11_judge_1 : decode cX11_judge 1 = .ok (.ifCond .lt 30, 3) := by decide +kernel
theorem dX11_judge_4 : decode cX11_judge 4 = .ok (.iload_n 1, 1) := by decide +kernel
theorem dX11_judge_5 : decode cX11_judge 5 = .ok (.aload_n 0, 1) := by decide +kernel
theorem dX11_judge_6 : decode cX11_judge 6 = .ok (.getfield 35, 3) := by decide +kernel
theorem dX11_judge_9 : decode cX11_judge 9 = .ok (.getfield 205, 3) := by decide +kernel
theorem dX11_judge_12 : decode cX11_judge 12 = .ok (.if_icmp .ge 19, 3) := by decide +kernel
theorem dX11_judge_15 : decode cX11_judge 15 = .ok (.aload_n 0, 1) := by decide +kernel
theorem dX11_judge_16 : decode cX11_judge 16 = .ok (.iload_n 2, 1) := by decide +kernel
theorem dX11_judge_17 : decode cX11_judge 17 = .ok (.invokevirtual 105, 3) := by decide +kernel
theorem dX11_judge_20 : decode cX11_judge 20 = .ok (.ifCond .eq 11, 3) := by decide +kernel
theorem dX11_judge_23 : decode cX11_judge 23 = .ok (.aload_n 0, 1) := by decide +kernel
theorem dX11_judge_24 : decode cX11_judge 24 = .ok (.iload_n 3, 1) := by decide +kernel
theorem dX11_judge_25 : decode cX11_judge 25 = .ok (.invokevirtual 105, 3) := by decide +kernel
theorem dX11_judge_28 : decode cX11_judge 28 = .ok (.ifCond .ne 5, 3) := by decide +kernel
theorem dX11_judge_31 : decode cX11_judge 31 = .ok (.iconst (-1), 1) := by decide +kernel
theorem dX11_judge_32 : decode cX11_judge 32 = .ok (.ireturn, 1) := by decide +kernel
theorem dX11_judge_33 : decode cX11_judge 33 = .ok (.aload_n 0, 1) := by decide +kernel
theorem dX11_judge_34 : decode cX11_judge 34 = .ok (.getfield 26, 3) := by decide +kernel
theorem dX11_judge_37 : decode cX11_judge 37 = .ok (.iload_n 2, 1) := by decide +kernel
theorem dX11_judge_38 : decode cX11_judge 38 = .ok (.iload_n 3, 1) := by decide +kernel
theorem dX11_judge_39 : decode cX11_judge 39 = .ok (.invokevirtual 109, 3) := by decide +kernel
theorem dX11_judge_42 : decode cX11_judge 42 = .ok (.istore 4, 2) := by decide +kernel
theorem dX11_judge_44 : decode cX11_judge 44 = .ok (.iload 4, 2) := by decide +kernel
theorem dX11_judge_46 : decode cX11_judge 46 = .ok (.ifCond .ge 5, 3) := by decide +kernel
theorem dX11_judge_49 : decode cX11_judge 49 = .ok (.iconst (-1), 1) := by decide +kernel
theorem dX11_judge_50 : decode cX11_judge 50 = .ok (.ireturn, 1) := by decide +kernel
theorem dX11_judge_51 : decode cX11_judge 51 = .ok (.aload_n 0, 1) := by decide +kernel
theorem dX11_judge_52 : decode cX11_judge 52 = .ok (.getfield 19, 3) := by decide +kernel
theorem dX11_judge_55 : decode cX11_judge 55 = .ok (.getfield 246, 3) := by decide +kernel
theorem dX11_judge_58 : decode cX11_judge 58 = .ok (.ifCond .ne 6, 3) := by decide +kernel
theorem dX11_judge_61 : decode cX11_judge 61 = .ok (.bipush (-2), 2) := by decide +kernel
theorem dX11_judge_63 : decode cX11_judge 63 = .ok (.ireturn, 1) := by decide +kernel
theorem dX11_judge_64 : decode cX11_judge 64 = .ok (.aload_n 0, 1) := by decide +kernel
theorem dX11_judge_65 : decode cX11_judge 65 = .ok (.getfield 26, 3) := by decide +kernel
theorem dX11_judge_68 : decode cX11_judge 68 = .ok (.getfield 122, 3) := by decide +kernel
theorem dX11_judge_71 : decode cX11_judge 71 = .ok (.iload 4, 2) := by decide +kernel
theorem dX11_judge_73 : decode cX11_judge 73 = .ok (.aaload, 1) := by decide +kernel
theorem dX11_judge_74 : decode cX11_judge 74 = .ok (.astore 5, 2) := by decide +kernel
theorem dX11_judge_76 : decode cX11_judge 76 = .ok (.aload_n 0, 1) := by decide +kernel
theorem dX11_judge_77 : decode cX11_judge 77 = .ok (.getfield 35, 3) := by decide +kernel
theorem dX11_judge_80 : decode cX11_judge 80 = .ok (.iload_n 1, 1) := by decide +kernel
theorem dX11_judge_81 : decode cX11_judge 81 = .ok (.aload_n 0, 1) := by decide +kernel
theorem dX11_judge_82 : decode cX11_judge 82 = .ok (.getfield 19, 3) := by decide +kernel
theorem dX11_judge_85 : decode cX11_judge 85 = .ok (.aload 5, 2) := by decide +kernel
theorem dX11_judge_87 : decode cX11_judge 87 = .ok (.aload 5, 2) := by decide +kernel
theorem dX11_judge_89 : decode cX11_judge 89 = .ok (.iload_n 2, 1) := by decide +kernel
theorem dX11_judge_90 : decode cX11_judge 90 = .ok (.invokevirtual 249, 3) := by decide +kernel
theorem dX11_judge_93 : decode cX11_judge 93 = .ok (.invokevirtual 252, 3) := by decide +kernel
theorem dX11_judge_96 : decode cX11_judge 96 = .ok (.ifCond .eq 7, 3) := by decide +kernel
theorem dX11_judge_99 : decode cX11_judge 99 = .ok (.iconst 1, 1) := by decide +kernel
theorem dX11_judge_100 : decode cX11_judge 100 = .ok (.goto 4, 3) := by decide +kernel
theorem dX11_judge_103 : decode cX11_judge 103 = .ok (.iconst 0, 1) := by decide +kernel
theorem dX11_judge_104 : decode cX11_judge 104 = .ok (.ireturn, 1) := by decide +kernel
theorem dX11_least_0 : decode cX11_least 0 = .ok (.aload_n 0, 1) := by decide +kernel
theorem dX11_least_1 : decode cX11_least 1 = .ok (.iload_n 1, 1) := by decide +kernel
theorem dX11_least_2 : decode cX11_least 2 = .ok (.invokevirtual 105, 3) := by decide +kernel
theorem dX11_least_5 : decode cX11_least 5 = .ok (.ifCond .eq 14, 3) := by decide +kernel
theorem dX11_least_8 : decode cX11_least 8 = .ok (.aload_n 0, 1) := by decide +kernel
theorem dX11_least_9 : decode cX11_least 9 = .ok (.getfield 65, 3) := by decide +kernel
theorem dX11_least_12 : decode cX11_least 12 = .ok (.iload_n 1, 1) := by decide +kernel
theorem dX11_least_13 : decode cX11_least 13 = .ok (.invokevirtual 385, 3) := by decide +kernel
theorem dX11_least_16 : decode cX11_least 16 = .ok (.goto 4, 3) := by decide +kernel
theorem dX11_least_19 : decode cX11_least 19 = .ok (.iconst (-1), 1) := by decide +kernel
theorem dX11_least_20 : decode cX11_least 20 = .ok (.ireturn, 1) := by decide +kernel
theorem dX11_message_0 : decode cX11_message 0 = .ok (.aload_n 0, 1) := by decide +kernel
theorem dX11_message_1 : decode cX11_message 1 = .ok (.getfield 58, 3) := by decide +kernel
theorem dX11_message_4 : decode cX11_message 4 = .ok (.aload_n 0, 1) := by decide +kernel
theorem dX11_message_5 : decode cX11_message 5 = .ok (.getfield 9, 3) := by decide +kernel
theorem dX11_message_8 : decode cX11_message 8 = .ok (.aload_n 0, 1) := by decide +kernel
theorem dX11_message_9 : decode cX11_message 9 = .ok (.getfield 76, 3) := by decide +kernel
theorem dX11_message_12 : decode cX11_message 12 = .ok (.invokevirtual 339, 3) := by decide +kernel
theorem dX11_message_15 : decode cX11_message 15 = .ok (.istore_n 1, 1) := by decide +kernel
theorem dX11_message_16 : decode cX11_message 16 = .ok (.aload_n 0, 1) := by decide +kernel
theorem dX11_message_17 : decode cX11_message 17 = .ok (.iconst 0, 1) := by decide +kernel
theorem dX11_message_18 : decode cX11_message 18 = .ok (.putfield 76, 3) := by decide +kernel
theorem dX11_message_21 : decode cX11_message 21 = .ok (.iload_n 1, 1) := by decide +kernel
theorem dX11_message_22 : decode cX11_message 22 = .ok (.ireturn, 1) := by decide +kernel
theorem dX2_leastBelow_0 : decode cX2_leastBelow 0 = .ok (.iload_n 3, 1) := by decide +kernel
theorem dX2_leastBelow_1 : decode cX2_leastBelow 1 = .ok (.bipush 32, 2) := by decide +kernel
theorem dX2_leastBelow_3 : decode cX2_leastBelow 3 = .ok (.if_icmp .ge 13, 3) := by decide +kernel
theorem dX2_leastBelow_6 : decode cX2_leastBelow 6 = .ok (.aload_n 0, 1) := by decide +kernel
theorem dX2_leastBelow_7 : decode cX2_leastBelow 7 = .ok (.iload_n 1, 1) := by decide +kernel
theorem dX2_leastBelow_8 : decode cX2_leastBelow 8 = .ok (.iload_n 2, 1) := by decide +kernel
theorem dX2_leastBelow_9 : decode cX2_leastBelow 9 = .ok (.iload_n 3, 1) := by decide +kernel
theorem dX2_leastBelow_10 : decode cX2_leastBelow 10 = .ok (.invokevirtual 106, 3) := by decide +kernel
theorem dX2_leastBelow_13 : decode cX2_leastBelow 13 = .ok (.ifCond .ne 13, 3) := by decide +kernel
theorem dX2_leastBelow_16 : decode cX2_leastBelow 16 = .ok (.aload_n 0, 1) := by decide +kernel
theorem dX2_leastBelow_17 : decode cX2_leastBelow 17 = .ok (.iload_n 1, 1) := by decide +kernel
theorem dX2_leastBelow_18 : decode cX2_leastBelow 18 = .ok (.iload_n 2, 1) := by decide +kernel
theorem dX2_leastBelow_19 : decode cX2_leastBelow 19 = .ok (.invokevirtual 60, 3) := by decide +kernel
theorem dX2_leastBelow_22 : decode cX2_leastBelow 22 = .ok (.invokestatic 110, 3) := by decide +kernel
theorem dX2_leastBelow_25 : decode cX2_leastBelow 25 = .ok (.ireturn, 1) := by decide +kernel
theorem dX2_leastBelow_26 : decode cX2_leastBelow 26 = .ok (.aload_n 0, 1) := by decide +kernel
theorem dX2_leastBelow_27 : decode cX2_leastBelow 27 = .ok (.iload_n 1, 1) := by decide +kernel
theorem dX2_leastBelow_28 : decode cX2_leastBelow 28 = .ok (.iload_n 2, 1) := by decide +kernel
theorem dX2_leastBelow_29 : decode cX2_leastBelow 29 = .ok (.iload_n 3, 1) := by decide +kernel
theorem dX2_leastBelow_30 : decode cX2_leastBelow 30 = .ok (.iconst 1, 1) := by decide +kernel
theorem dX2_leastBelow_31 : decode cX2_leastBelow 31 = .ok (.iadd, 1) := by decide +kernel
theorem dX2_leastBelow_32 : decode cX2_leastBelow 32 = .ok (.invokevirtual 101, 3) := by decide +kernel
theorem dX2_leastBelow_35 : decode cX2_leastBelow 35 = .ok (.istore 4, 2) := by decide +kernel
theorem dX2_leastBelow_37 : decode cX2_leastBelow 37 = .ok (.aload_n 0, 1) := by decide +kernel
theorem dX2_leastBelow_38 : decode cX2_leastBelow 38 = .ok (.iload_n 1, 1) := by decide +kernel
theorem dX2_leastBelow_39 : decode cX2_leastBelow 39 = .ok (.iload_n 2, 1) := by decide +kernel
theorem dX2_leastBelow_40 : decode cX2_leastBelow 40 = .ok (.iconst 1, 1) := by decide +kernel
theorem dX2_leastBelow_41 : decode cX2_leastBelow 41 = .ok (.bipush 31, 2) := by decide +kernel
theorem dX2_leastBelow_43 : decode cX2_leastBelow 43 = .ok (.iload_n 3, 1) := by decide +kernel
theorem dX2_leastBelow_44 : decode cX2_leastBelow 44 = .ok (.isub, 1) := by decide +kernel
theorem dX2_leastBelow_45 : decode cX2_leastBelow 45 = .ok (.ishl, 1) := by decide +kernel
theorem dX2_leastBelow_46 : decode cX2_leastBelow 46 = .ok (.ior, 1) := by decide +kernel
theorem dX2_leastBelow_47 : decode cX2_leastBelow 47 = .ok (.iload_n 3, 1) := by decide +kernel
theorem dX2_leastBelow_48 : decode cX2_leastBelow 48 = .ok (.iconst 1, 1) := by decide +kernel
theorem dX2_leastBelow_49 : decode cX2_leastBelow 49 = .ok (.iadd, 1) := by decide +kernel
theorem dX2_leastBelow_50 : decode cX2_leastBelow 50 = .ok (.invokevirtual 101, 3) := by decide +kernel
theorem dX2_leastBelow_53 : decode cX2_leastBelow 53 = .ok (.istore 5, 2) := by decide +kernel
theorem dX2_leastBelow_55 : decode cX2_leastBelow 55 = .ok (.iload 4, 2) := by decide +kernel
theorem dX2_leastBelow_57 : decode cX2_leastBelow 57 = .ok (.iload 5, 2) := by decide +kernel
theorem dX2_leastBelow_59 : decode cX2_leastBelow 59 = .ok (.iand, 1) := by decide +kernel
theorem dX2_leastBelow_60 : decode cX2_leastBelow 60 = .ok (.ifCond .eq 9, 3) := by decide +kernel
theorem dX2_leastBelow_63 : decode cX2_leastBelow 63 = .ok (.iload 4, 2) := by decide +kernel
theorem dX2_leastBelow_65 : decode cX2_leastBelow 65 = .ok (.iload 5, 2) := by decide +kernel
theorem dX2_leastBelow_67 : decode cX2_leastBelow 67 = .ok (.iand, 1) := by decide +kernel
theorem dX2_leastBelow_68 : decode cX2_leastBelow 68 = .ok (.ireturn, 1) := by decide +kernel
theorem dX2_leastBelow_69 : decode cX2_leastBelow 69 = .ok (.aload_n 0, 1) := by decide +kernel
theorem dX2_leastBelow_70 : decode cX2_leastBelow 70 = .ok (.dup, 1) := by decide +kernel
theorem dX2_leastBelow_71 : decode cX2_leastBelow 71 = .ok (.getfield 98, 3) := by decide +kernel
theorem dX2_leastBelow_74 : decode cX2_leastBelow 74 = .ok (.iconst 1, 1) := by decide +kernel
theorem dX2_leastBelow_75 : decode cX2_leastBelow 75 = .ok (.iadd, 1) := by decide +kernel
theorem dX2_leastBelow_76 : decode cX2_leastBelow 76 = .ok (.putfield 98, 3) := by decide +kernel
theorem dX2_leastBelow_79 : decode cX2_leastBelow 79 = .ok (.iload 4, 2) := by decide +kernel
theorem dX2_leastBelow_81 : decode cX2_leastBelow 81 = .ok (.iload 5, 2) := by decide +kernel
theorem dX2_leastBelow_83 : decode cX2_leastBelow 83 = .ok (.ior, 1) := by decide +kernel
theorem dX2_leastBelow_84 : decode cX2_leastBelow 84 = .ok (.ireturn, 1) := by decide +kernel
theorem dX2_leastTable_0 : decode cX2_leastTable 0 = .ok (.aload_n 0, 1) := by decide +kernel
theorem dX2_leastTable_1 : decode cX2_leastTable 1 = .ok (.iconst 0, 1) := by decide +kernel
theorem dX2_leastTable_2 : decode cX2_leastTable 2 = .ok (.putfield 98, 3) := by decide +kernel
theorem dX2_leastTable_5 : decode cX2_leastTable 5 = .ok (.aload_n 0, 1) := by decide +kernel
theorem dX2_leastTable_6 : decode cX2_leastTable 6 = .ok (.iload_n 1, 1) := by decide +kernel
theorem dX2_leastTable_7 : decode cX2_leastTable 7 = .ok (.iconst 0, 1) := by decide +kernel
theorem dX2_leastTable_8 : decode cX2_leastTable 8 = .ok (.iconst 0, 1) := by decide +kernel
theorem dX2_leastTable_9 : decode cX2_leastTable 9 = .ok (.invokevirtual 101, 3) := by decide +kernel
theorem dX2_leastTable_12 : decode cX2_leastTable 12 = .ok (.istore_n 2, 1) := by decide +kernel
theorem dX2_leastTable_13 : decode cX2_leastTable 13 = .ok (.iload_n 2, 1) := by decide +kernel
theorem dX2_leastTable_14 : decode cX2_leastTable 14 = .ok (.ldc 105, 2) := by decide +kernel
theorem dX2_leastTable_16 : decode cX2_leastTable 16 = .ok (.iand, 1) := by decide +kernel
theorem dX2_leastTable_17 : decode cX2_leastTable 17 = .ok (.ifCond .eq 10, 3) := by decide +kernel
theorem dX2_leastTable_20 : decode cX2_leastTable 20 = .ok (.aload_n 0, 1) := by decide +kernel
theorem dX2_leastTable_21 : decode cX2_leastTable 21 = .ok (.getfield 98, 3) := by decide +kernel
theorem dX2_leastTable_24 : decode cX2_leastTable 24 = .ok (.goto 9, 3) := by decide +kernel
theorem dX2_leastTable_27 : decode cX2_leastTable 27 = .ok (.aload_n 0, 1) := by decide +kernel
theorem dX2_leastTable_28 : decode cX2_leastTable 28 = .ok (.getfield 98, 3) := by decide +kernel
theorem dX2_leastTable_31 : decode cX2_leastTable 31 = .ok (.iconst 1, 1) := by decide +kernel
theorem dX2_leastTable_32 : decode cX2_leastTable 32 = .ok (.iadd, 1) := by decide +kernel
theorem dX2_leastTable_33 : decode cX2_leastTable 33 = .ok (.ireturn, 1) := by decide +kernel
theorem dX3_carry_0 : decode cX3_carry 0 = .ok (.iload_n 1, 1) := by decide +kernel
theorem dX3_carry_1 : decode cX3_carry 1 = .ok (.sipush 192, 3) := by decide +kernel
theorem dX3_carry_4 : decode cX3_carry 4 = .ok (.iand, 1) := by decide +kernel
theorem dX3_carry_5 : decode cX3_carry 5 = .ok (.sipush 192, 3) := by decide +kernel
theorem dX3_carry_8 : decode cX3_carry 8 = .ok (.if_icmp .ne 23, 3) := by decide +kernel
theorem dX3_carry_11 : decode cX3_carry 11 = .ok (.aload_n 0, 1) := by decide +kernel
theorem dX3_carry_12 : decode cX3_carry 12 = .ok (.getfield 15, 3) := by decide +kernel
theorem dX3_carry_15 : decode cX3_carry 15 = .ok (.aload_n 0, 1) := by decide +kernel
theorem dX3_carry_16 : decode cX3_carry 16 = .ok (.getfield 79, 3) := by decide +kernel
theorem dX3_carry_19 : decode cX3_carry 19 = .ok (.iload_n 2, 1) := by decide +kernel
theorem dX3_carry_20 : decode cX3_carry 20 = .ok (.iastore, 1) := by decide +kernel
theorem dX3_carry_21 : decode cX3_carry 21 = .ok (.aload_n 0, 1) := by decide +kernel
theorem dX3_carry_22 : decode cX3_carry 22 = .ok (.dup, 1) := by decide +kernel
theorem dX3_carry_23 : decode cX3_carry 23 = .ok (.getfield 79, 3) := by decide +kernel
theorem dX3_carry_26 : decode cX3_carry 26 = .ok (.iconst 1, 1) := by decide +kernel
theorem dX3_carry_27 : decode cX3_carry 27 = .ok (.iadd, 1) := by decide +kernel
theorem dX3_carry_28 : decode cX3_carry 28 = .ok (.putfield 79, 3) := by decide +kernel
theorem dX3_carry_31 : decode cX3_carry 31 = .ok (.return_, 1) := by decide +kernel
theorem dX3_read_0 : decode cX3_read 0 = .ok (.aload_n 0, 1) := by decide +kernel
theorem dX3_read_1 : decode cX3_read 1 = .ok (.aload_n 1, 1) := by decide +kernel
theorem dX3_read_2 : decode cX3_read 2 = .ok (.putfield 41, 3) := by decide +kernel
theorem dX3_read_5 : decode cX3_read 5 = .ok (.aload_n 0, 1) := by decide +kernel
theorem dX3_read_6 : decode cX3_read 6 = .ok (.invokevirtual 44, 3) := by decide +kernel
theorem dX3_read_9 : decode cX3_read 9 = .ok (.aload_n 0, 1) := by decide +kernel
theorem dX3_read_10 : decode cX3_read 10 = .ok (.iload_n 2, 1) := by decide +kernel
theorem dX3_read_11 : decode cX3_read 11 = .ok (.invokevirtual 47, 3) := by decide +kernel
theorem dX3_read_14 : decode cX3_read 14 = .ok (.aload_n 0, 1) := by decide +kernel
theorem dX3_read_15 : decode cX3_read 15 = .ok (.getfield 22, 3) := by decide +kernel
theorem dX3_read_18 : decode cX3_read 18 = .ok (.iconst 1, 1) := by decide +kernel
theorem dX3_read_19 : decode cX3_read 19 = .ok (.iaload, 1) := by decide +kernel
theorem dX3_read_20 : decode cX3_read 20 = .ok (.ldc 21, 2) := by decide +kernel
theorem dX3_read_22 : decode cX3_read 22 = .ok (.if_icmp .eq 5, 3) := by decide +kernel
theorem dX3_read_25 : decode cX3_read 25 = .ok (.iconst 1, 1) := by decide +kernel
theorem dX3_read_26 : decode cX3_read 26 = .ok (.ireturn, 1) := by decide +kernel
theorem dX3_read_27 : decode cX3_read 27 = .ok (.aload_n 0, 1) := by decide +kernel
theorem dX3_read_28 : decode cX3_read 28 = .ok (.iconst 1, 1) := by decide +kernel
theorem dX3_read_29 : decode cX3_read 29 = .ok (.putfield 51, 3) := by decide +kernel
theorem dX3_read_32 : decode cX3_read 32 = .ok (.aload_n 0, 1) := by decide +kernel
theorem dX3_read_33 : decode cX3_read 33 = .ok (.getfield 28, 3) := by decide +kernel
theorem dX3_read_36 : decode cX3_read 36 = .ok (.iconst 0, 1) := by decide +kernel
theorem dX3_read_37 : decode cX3_read 37 = .ok (.putfield 55, 3) := by decide +kernel
theorem dX3_read_40 : decode cX3_read 40 = .ok (.iconst 0, 1) := by decide +kernel
theorem dX3_read_41 : decode cX3_read 41 = .ok (.istore_n 3, 1) := by decide +kernel
theorem dX3_read_42 : decode cX3_read 42 = .ok (.iload_n 3, 1) := by decide +kernel
theorem dX3_read_43 : decode cX3_read 43 = .ok (.aload_n 0, 1) := by decide +kernel
theorem dX3_read_44 : decode cX3_read 44 = .ok (.getfield 59, 3) := by decide +kernel
theorem dX3_read_47 : decode cX3_read 47 = .ok (.if_icmp .ge 22, 3) := by decide +kernel
theorem dX3_read_50 : decode cX3_read 50 = .ok (.aload_n 0, 1) := by decide +kernel
theorem dX3_read_51 : decode cX3_read 51 = .ok (.getfield 28, 3) := by decide +kernel
theorem dX3_read_54 : decode cX3_read 54 = .ok (.aload_n 0, 1) := by decide +kernel
theorem dX3_read_55 : decode cX3_read 55 = .ok (.getfield 18, 3) := by decide +kernel
theorem dX3_read_58 : decode cX3_read 58 = .ok (.iload_n 3, 1) := by decide +kernel
theorem dX3_read_59 : decode cX3_read 59 = .ok (.iaload, 1) := by decide +kernel
theorem dX3_read_60 : decode cX3_read 60 = .ok (.invokevirtual 60, 3) := by decide +kernel
theorem dX3_read_63 : decode cX3_read 63 = .ok (.iinc 3 1, 3) := by decide +kernel
theorem dX3_read_66 : decode cX3_read 66 = .ok (.goto (-24), 3) := by decide +kernel
theorem dX3_read_69 : decode cX3_read 69 = .ok (.aload_n 0, 1) := by decide +kernel
theorem dX3_read_70 : decode cX3_read 70 = .ok (.getfield 22, 3) := by decide +kernel
theorem dX3_read_73 : decode cX3_read 73 = .ok (.iconst 2, 1) := by decide +kernel
theorem dX3_read_74 : decode cX3_read 74 = .ok (.iaload, 1) := by decide +kernel
theorem dX3_read_75 : decode cX3_read 75 = .ok (.ldc 21, 2) := by decide +kernel
theorem dX3_read_77 : decode cX3_read 77 = .ok (.if_icmp .eq 23, 3) := by decide +kernel
theorem dX3_read_80 : decode cX3_read 80 = .ok (.aload_n 0, 1) := by decide +kernel
theorem dX3_read_81 : decode cX3_read 81 = .ok (.dup, 1) := by decide +kernel
theorem dX3_read_82 : decode cX3_read 82 = .ok (.getfield 63, 3) := by decide +kernel
theorem dX3_read_85 : decode cX3_read 85 = .ok (.aload_n 0, 1) := by decide +kernel
theorem dX3_read_86 : decode cX3_read 86 = .ok (.getfield 66, 3) := by decide +kernel
theorem dX3_read_89 : decode cX3_read 89 = .ok (.iadd, 1) := by decide +kernel
theorem dX3_read_90 : decode cX3_read 90 = .ok (.putfield 63, 3) := by decide +kernel
theorem dX3_read_93 : decode cX3_read 93 = .ok (.aload_n 0, 1) := by decide +kernel
theorem dX3_read_94 : decode cX3_read 94 = .ok (.iconst 0, 1) := by decide +kernel
theorem dX3_read_95 : decode cX3_read 95 = .ok (.putfield 66, 3) := by decide +kernel
theorem dX3_read_98 : decode cX3_read 98 = .ok (.iconst 2, 1) := by decide +kernel
theorem dX3_read_99 : decode cX3_read 99 = .ok (.ireturn, 1) := by decide +kernel
theorem dX3_read_100 : decode cX3_read 100 = .ok (.aload_n 0, 1) := by decide +kernel
theorem dX3_read_101 : decode cX3_read 101 = .ok (.getfield 22, 3) := by decide +kernel
theorem dX3_read_104 : decode cX3_read 104 = .ok (.iconst 3, 1) := by decide +kernel
theorem dX3_read_105 : decode cX3_read 105 = .ok (.iaload, 1) := by decide +kernel
theorem dX3_read_106 : decode cX3_read 106 = .ok (.ldc 21, 2) := by decide +kernel
theorem dX3_read_108 : decode cX3_read 108 = .ok (.if_icmp .eq 7, 3) := by decide +kernel
theorem dX3_read_111 : decode cX3_read 111 = .ok (.iconst 3, 1) := by decide +kernel
theorem dX3_read_112 : decode cX3_read 112 = .ok (.goto 4, 3) := by decide +kernel
theorem dX3_read_115 : decode cX3_read 115 = .ok (.iconst 0, 1) := by decide +kernel
theorem dX3_read_116 : decode cX3_read 116 = .ok (.ireturn, 1) := by decide +kernel
theorem dX3_readAttribute_0 : decode cX3_readAttribute 0 = .ok (.aload_n 0, 1) := by decide +kernel
theorem dX3_readAttribute_1 : decode cX3_readAttribute 1 = .ok (.getfield 41, 3) := by decide +kernel
theorem dX3_readAttribute_4 : decode cX3_readAttribute 4 = .ok (.iload_n 1, 1) := by decide +kernel
theorem dX3_readAttribute_5 : decode cX3_readAttribute 5 = .ok (.iaload, 1) := by decide +kernel
theorem dX3_readAttribute_6 : decode cX3_readAttribute 6 = .ok (.istore 4, 2) := by decide +kernel
theorem dX3_readAttribute_8 : decode cX3_readAttribute 8 = .ok (.iload 4, 2) := by decide +kernel
theorem dX3_readAttribute_10 : decode cX3_readAttribute 10 = .ok (.sipush 207, 3) := by decide +kernel
theorem dX3_readAttribute_13 : decode cX3_readAttribute 13 = .ok (.iand, 1) := by decide +kernel
theorem dX3_readAttribute_14 : decode cX3_readAttribute 14 = .ok (.istore 5, 2) := by decide +kernel
theorem dX3_readAttribute_16 : decode cX3_readAttribute 16 = .ok (.aload_n 0, 1) := by decide +kernel
theorem dX3_readAttribute_17 : decode cX3_readAttribute 17 = .ok (.getfield 41, 3) := by decide +kernel
theorem dX3_readAttribute_20 : decode cX3_readAttribute 20 = .ok (.iload_n 1, 1) := by decide +kernel
theorem dX3_readAttribute_21 : decode cX3_readAttribute 21 = .ok (.iconst 1, 1) := by decide +kernel
theorem dX3_readAttribute_22 : decode cX3_readAttribute 22 = .ok (.iadd, 1) := by decide +kernel
theorem dX3_readAttribute_23 : decode cX3_readAttribute 23 = .ok (.iaload, 1) := by decide +kernel
theorem dX3_readAttribute_24 : decode cX3_readAttribute 24 = .ok (.istore 6, 2) := by decide +kernel
theorem dX3_readAttribute_26 : decode cX3_readAttribute 26 = .ok (.aload_n 0, 1) := by decide +kernel
theorem dX3_readAttribute_27 : decode cX3_readAttribute 27 = .ok (.getfield 11, 3) := by decide +kernel
theorem dX3_readAttribute_30 : decode cX3_readAttribute 30 = .ok (.iload 6, 2) := by decide +kernel
theorem dX3_readAttribute_32 : decode cX3_readAttribute 32 = .ok (.iaload, 1) := by decide +kernel
theorem dX3_readAttribute_33 : decode cX3_readAttribute 33 = .ok (.ifCond .eq 10, 3) := by decide +kernel
theorem dX3_readAttribute_36 : decode cX3_readAttribute 36 = .ok (.aload_n 0, 1) := by decide +kernel
theorem dX3_readAttribute_37 : decode cX3_readAttribute 37 = .ok (.iconst 3, 1) := by decide +kernel
theorem dX3_readAttribute_38 : decode cX3_readAttribute 38 = .ok (.iload_n 1, 1) := by decide +kernel
theorem dX3_readAttribute_39 : decode cX3_readAttribute 39 = .ok (.invokevirtual 92, 3) := by decide +kernel
theorem dX3_readAttribute_42 : decode cX3_readAttribute 42 = .ok (.return_, 1) := by decide +kernel
theorem dX3_readAttribute_43 : decode cX3_readAttribute 43 = .ok (.aload_n 0, 1) := by decide +kernel
theorem dX3_readAttribute_44 : decode cX3_readAttribute 44 = .ok (.getfield 11, 3) := by decide +kernel
theorem dX3_readAttribute_47 : decode cX3_readAttribute 47 = .ok (.iload 6, 2) := by decide +kernel
theorem dX3_readAttribute_49 : decode cX3_readAttribute 49 = .ok (.iconst 1, 1) := by decide +kernel
theorem dX3_readAttribute_50 : decode cX3_readAttribute 50 = .ok (.iastore, 1) := by decide +kernel
theorem dX3_readAttribute_51 : decode cX3_readAttribute 51 = .ok (.iload 6, 2) := by decide +kernel
theorem dX3_readAttribute_53 : decode cX3_readAttribute 53 = .ok (.tableswitch 169 1 8 #[47, 81, 169, 115, 169, 169, 169, 142], 47) := by decide +kernel
theorem dX3_readAttribute_100 : decode cX3_readAttribute 100 = .ok (.aload_n 0, 1) := by decide +kernel
theorem dX3_readAttribute_101 : decode cX3_readAttribute 101 = .ok (.iload 5, 2) := by decide +kernel
theorem dX3_readAttribute_103 : decode cX3_readAttribute 103 = .ok (.bipush 64, 2) := by decide +kernel
theorem dX3_readAttribute_105 : decode cX3_readAttribute 105 = .ok (.if_icmp .ne 16, 3) := by decide +kernel
theorem dX3_readAttribute_108 : decode cX3_readAttribute 108 = .ok (.aload_n 0, 1) := by decide +kernel
theorem dX3_readAttribute_109 : decode cX3_readAttribute 109 = .ok (.iload_n 2, 1) := by decide +kernel
theorem dX3_readAttribute_110 : decode cX3_readAttribute 110 = .ok (.iload_n 3, 1) := by decide +kernel
theorem dX3_readAttribute_111 : decode cX3_readAttribute 111 = .ok (.invokevirtual 111, 3) := by decide +kernel
theorem dX3_readAttribute_114 : decode cX3_readAttribute 114 = .ok (.ifCond .eq 7, 3) := by decide +kernel
theorem dX3_readAttribute_117 : decode cX3_readAttribute 117 = .ok (.iconst 1, 1) := by decide +kernel
theorem dX3_readAttribute_118 : decode cX3_readAttribute 118 = .ok (.goto 4, 3) := by decide +kernel
theorem dX3_readAttribute_121 : decode cX3_readAttribute 121 = .ok (.iconst 0, 1) := by decide +kernel
theorem dX3_readAttribute_122 : decode cX3_readAttribute 122 = .ok (.putfield 82, 3) := by decide +kernel
theorem dX3_readAttribute_125 : decode cX3_readAttribute 125 = .ok (.aload_n 0, 1) := by decide +kernel
theorem dX3_readAttribute_126 : decode cX3_readAttribute 126 = .ok (.getfield 82, 3) := by decide +kernel
theorem dX3_readAttribute_129 : decode cX3_readAttribute 129 = .ok (.istore 7, 2) := by decide +kernel
theorem dX3_readAttribute_131 : decode cX3_readAttribute 131 = .ok (.goto 115, 3) := by decide +kernel
theorem dX3_readAttribute_134 : decode cX3_readAttribute 134 = .ok (.aload_n 0, 1) := by decide +kernel
theorem dX3_readAttribute_135 : decode cX3_readAttribute 135 = .ok (.iload 5, 2) := by decide +kernel
theorem dX3_readAttribute_137 : decode cX3_readAttribute 137 = .ok (.bipush 64, 2) := by decide +kernel
theorem dX3_readAttribute_139 : decode cX3_readAttribute 139 = .ok (.if_icmp .ne 16, 3) := by decide +kernel
theorem dX3_readAttribute_142 : decode cX3_readAttribute 142 = .ok (.aload_n 0, 1) := by decide +kernel
theorem dX3_readAttribute_143 : decode cX3_readAttribute 143 = .ok (.iload_n 2, 1) := by decide +kernel
theorem dX3_readAttribute_144 : decode cX3_readAttribute 144 = .ok (.iload_n 3, 1) := by decide +kernel
theorem dX3_readAttribute_145 : decode cX3_readAttribute 145 = .ok (.invokevirtual 115, 3) := by decide +kernel
theorem dX3_readAttribute_148 : decode cX3_readAttribute 148 = .ok (.ifCond .eq 7, 3) := by decide +kernel
theorem dX3_readAttribute_151 : decode cX3_readAttribute 151 = .ok (.iconst 1, 1) := by decide +kernel
theorem dX3_readAttribute_152 : decode cX3_readAttribute 152 = .ok (.goto 4, 3) := by decide +kernel
theorem dX3_readAttribute_155 : decode cX3_readAttribute 155 = .ok (.iconst 0, 1) := by decide +kernel
theorem dX3_readAttribute_156 : decode cX3_readAttribute 156 = .ok (.putfield 85, 3) := by decide +kernel
theorem dX3_readAttribute_159 : decode cX3_readAttribute 159 = .ok (.aload_n 0, 1) := by decide +kernel
theorem dX3_readAttribute_160 : decode cX3_readAttribute 160 = .ok (.getfield 85, 3) := by decide +kernel
theorem dX3_readAttribute_163 : decode cX3_readAttribute 163 = .ok (.istore 7, 2) := by decide +kernel
theorem dX3_readAttribute_165 : decode cX3_readAttribute 165 = .ok (.goto 81, 3) := by decide +kernel
theorem dX3_readAttribute_168 : decode cX3_readAttribute 168 = .ok (.iload 5, 2) := by decide +kernel
theorem dX3_readAttribute_170 : decode cX3_readAttribute 170 = .ok (.sipush 128, 3) := by decide +kernel
theorem dX3_readAttribute_173 : decode cX3_readAttribute 173 = .ok (.if_icmp .ne 16, 3) := by decide +kernel
theorem dX3_readAttribute_176 : decode cX3_readAttribute 176 = .ok (.aload_n 0, 1) := by decide +kernel
theorem dX3_readAttribute_177 : decode cX3_readAttribute 177 = .ok (.iload_n 2, 1) := by decide +kernel
theorem dX3_readAttribute_178 : decode cX3_readAttribute 178 = .ok (.iload_n 3, 1) := by decide +kernel
theorem dX3_readAttribute_179 : decode cX3_readAttribute 179 = .ok (.invokevirtual 118, 3) := by decide +kernel
theorem dX3_readAttribute_182 : decode cX3_readAttribute 182 = .ok (.ifCond .eq 7, 3) := by decide +kernel
theorem dX3_readAttribute_185 : decode cX3_readAttribute 185 = .ok (.iconst 1, 1) := by decide +kernel
theorem dX3_readAttribute_186 : decode cX3_readAttribute 186 = .ok (.goto 4, 3) := by decide +kernel
theorem dX3_readAttribute_189 : decode cX3_readAttribute 189 = .ok (.iconst 0, 1) := by decide +kernel
theorem dX3_readAttribute_190 : decode cX3_readAttribute 190 = .ok (.istore 7, 2) := by decide +kernel
theorem dX3_readAttribute_192 : decode cX3_readAttribute 192 = .ok (.goto 54, 3) := by decide +kernel
theorem dX3_readAttribute_195 : decode cX3_readAttribute 195 = .ok (.iload 5, 2) := by decide +kernel
theorem dX3_readAttribute_197 : decode cX3_readAttribute 197 = .ok (.sipush 192, 3) := by decide +kernel
theorem dX3_readAttribute_200 : decode cX3_readAttribute 200 = .ok (.if_icmp .ne 16, 3) := by decide +kernel
theorem dX3_readAttribute_203 : decode cX3_readAttribute 203 = .ok (.aload_n 0, 1) := by decide +kernel
theorem dX3_readAttribute_204 : decode cX3_readAttribute 204 = .ok (.iload_n 2, 1) := by decide +kernel
theorem dX3_readAttribute_205 : decode cX3_readAttribute 205 = .ok (.iload_n 3, 1) := by decide +kernel
theorem dX3_readAttribute_206 : decode cX3_readAttribute 206 = .ok (.invokevirtual 121, 3) := by decide +kernel
theorem dX3_readAttribute_209 : decode cX3_readAttribute 209 = .ok (.ifCond .eq 7, 3) := by decide +kernel
theorem dX3_readAttribute_212 : decode cX3_readAttribute 212 = .ok (.iconst 1, 1) := by decide +kernel
theorem dX3_readAttribute_213 : decode cX3_readAttribute 213 = .ok (.goto 4, 3) := by decide +kernel
theorem dX3_readAttribute_216 : decode cX3_readAttribute 216 = .ok (.iconst 0, 1) := by decide +kernel
theorem dX3_readAttribute_217 : decode cX3_readAttribute 217 = .ok (.istore 7, 2) := by decide +kernel
theorem dX3_readAttribute_219 : decode cX3_readAttribute 219 = .ok (.goto 27, 3) := by decide +kernel
theorem dX3_readAttribute_222 : decode cX3_readAttribute 222 = .ok (.iload 4, 2) := by decide +kernel
theorem dX3_readAttribute_224 : decode cX3_readAttribute 224 = .ok (.sipush 128, 3) := by decide +kernel
theorem dX3_readAttribute_227 : decode cX3_readAttribute 227 = .ok (.iand, 1) := by decide +kernel
theorem dX3_readAttribute_228 : decode cX3_readAttribute 228 = .ok (.ifCond .eq 7, 3) := by decide +kernel
theorem dX3_readAttribute_231 : decode cX3_readAttribute 231 = .ok (.iconst 1, 1) := by decide +kernel
theorem dX3_readAttribute_232 : decode cX3_readAttribute 232 = .ok (.goto 4, 3) := by decide +kernel
theorem dX3_readAttribute_235 : decode cX3_readAttribute 235 = .ok (.iconst 0, 1) := by decide +kernel
theorem dX3_readAttribute_236 : decode cX3_readAttribute 236 = .ok (.istore 7, 2) := by decide +kernel
theorem dX3_readAttribute_238 : decode cX3_readAttribute 238 = .ok (.aload_n 0, 1) := by decide +kernel
theorem dX3_readAttribute_239 : decode cX3_readAttribute 239 = .ok (.iload 4, 2) := by decide +kernel
theorem dX3_readAttribute_241 : decode cX3_readAttribute 241 = .ok (.iload 6, 2) := by decide +kernel
theorem dX3_readAttribute_243 : decode cX3_readAttribute 243 = .ok (.invokevirtual 124, 3) := by decide +kernel
theorem dX3_readAttribute_246 : decode cX3_readAttribute 246 = .ok (.iload 7, 2) := by decide +kernel
theorem dX3_readAttribute_248 : decode cX3_readAttribute 248 = .ok (.ifCond .ne 9, 3) := by decide +kernel
theorem dX3_readAttribute_251 : decode cX3_readAttribute 251 = .ok (.aload_n 0, 1) := by decide +kernel
theorem dX3_readAttribute_252 : decode cX3_readAttribute 252 = .ok (.iconst 2, 1) := by decide +kernel
theorem dX3_readAttribute_253 : decode cX3_readAttribute 253 = .ok (.iload_n 1, 1) := by decide +kernel
theorem dX3_readAttribute_254 : decode cX3_readAttribute 254 = .ok (.invokevirtual 92, 3) := by decide +kernel
theorem dX3_readAttribute_257 : decode cX3_readAttribute 257 = .ok (.return_, 1) := by decide +kernel
theorem dX3_readAttributes_0 : decode cX3_readAttributes 0 = .ok (.iload_n 1, 1) := by decide +kernel
theorem dX3_readAttributes_1 : decode cX3_readAttributes 1 = .ok (.istore_n 3, 1) := by decide +kernel
theorem dX3_readAttributes_2 : decode cX3_readAttributes 2 = .ok (.iload_n 3, 1) := by decide +kernel
theorem dX3_readAttributes_3 : decode cX3_readAttributes 3 = .ok (.iload_n 2, 1) := by decide +kernel
theorem dX3_readAttributes_4 : decode cX3_readAttributes 4 = .ok (.if_icmp .ge 108, 3) := by decide +kernel
theorem dX3_readAttributes_7 : decode cX3_readAttributes 7 = .ok (.aload_n 0, 1) := by decide +kernel
theorem dX3_readAttributes_8 : decode cX3_readAttributes 8 = .ok (.getfield 41, 3) := by decide +kernel
theorem dX3_readAttributes_11 : decode cX3_readAttributes 11 = .ok (.iload_n 3, 1) := by decide +kernel
theorem dX3_readAttributes_12 : decode cX3_readAttributes 12 = .ok (.iaload, 1) := by decide +kernel
theorem dX3_readAttributes_13 : decode cX3_readAttributes 13 = .ok (.bipush 16, 2) := by decide +kernel
theorem dX3_readAttributes_15 : decode cX3_readAttributes 15 = .ok (.iand, 1) := by decide +kernel
theorem dX3_readAttributes_16 : decode cX3_readAttributes 16 = .ok (.ifCond .eq 7, 3) := by decide +kernel
theorem dX3_readAttributes_19 : decode cX3_readAttributes 19 = .ok (.iconst 1, 1) := by decide +kernel
theorem dX3_readAttributes_20 : decode cX3_readAttributes 20 = .ok (.goto 4, 3) := by decide +kernel
theorem dX3_readAttributes_23 : decode cX3_readAttributes 23 = .ok (.iconst 0, 1) := by decide +kernel
theorem dX3_readAttributes_24 : decode cX3_readAttributes 24 = .ok (.istore 4, 2) := by decide +kernel
theorem dX3_readAttributes_26 : decode cX3_readAttributes 26 = .ok (.iload_n 3, 1) := by decide +kernel
theorem dX3_readAttributes_27 : decode cX3_readAttributes 27 = .ok (.iload 4, 2) := by decide +kernel
theorem dX3_readAttributes_29 : decode cX3_readAttributes 29 = .ok (.ifCond .eq 7, 3) := by decide +kernel
theorem dX3_readAttributes_32 : decode cX3_readAttributes 32 = .ok (.iconst 4, 1) := by decide +kernel
theorem dX3_readAttributes_33 : decode cX3_readAttributes 33 = .ok (.goto 4, 3) := by decide +kernel
theorem dX3_readAttributes_36 : decode cX3_readAttributes 36 = .ok (.iconst 3, 1) := by decide +kernel
theorem dX3_readAttributes_37 : decode cX3_readAttributes 37 = .ok (.iadd, 1) := by decide +kernel
theorem dX3_readAttributes_38 : decode cX3_readAttributes 38 = .ok (.istore 5, 2) := by decide +kernel
theorem dX3_readAttributes_40 : decode cX3_readAttributes 40 = .ok (.iload 5, 2) := by decide +kernel
theorem dX3_readAttributes_42 : decode cX3_readAttributes 42 = .ok (.iload_n 2, 1) := by decide +kernel
theorem dX3_readAttributes_43 : decode cX3_readAttributes 43 = .ok (.if_icmp .le 10, 3) := by decide +kernel
theorem dX3_readAttributes_46 : decode cX3_readAttributes 46 = .ok (.aload_n 0, 1) := by decide +kernel
theorem dX3_readAttributes_47 : decode cX3_readAttributes 47 = .ok (.iconst 2, 1) := by decide +kernel
theorem dX3_readAttributes_48 : decode cX3_readAttributes 48 = .ok (.iload_n 3, 1) := by decide +kernel
theorem dX3_readAttributes_49 : decode cX3_readAttributes 49 = .ok (.invokevirtual 92, 3) := by decide +kernel
theorem dX3_readAttributes_52 : decode cX3_readAttributes 52 = .ok (.return_, 1) := by decide +kernel
theorem dX3_readAttributes_53 : decode cX3_readAttributes 53 = .ok (.iload 4, 2) := by decide +kernel
theorem dX3_readAttributes_55 : decode cX3_readAttributes 55 = .ok (.ifCond .eq 13, 3) := by decide +kernel
theorem dX3_readAttributes_58 : decode cX3_readAttributes 58 = .ok (.aload_n 0, 1) := by decide +kernel
theorem dX3_readAttributes_59 : decode cX3_readAttributes 59 = .ok (.iload_n 3, 1) := by decide +kernel
theorem dX3_readAttributes_60 : decode cX3_readAttributes 60 = .ok (.iconst 2, 1) := by decide +kernel
theorem dX3_readAttributes_61 : decode cX3_readAttributes 61 = .ok (.iadd, 1) := by decide +kernel
theorem dX3_readAttributes_62 : decode cX3_readAttributes 62 = .ok (.invokevirtual 88, 3) := by decide +kernel
theorem dX3_readAttributes_65 : decode cX3_readAttributes 65 = .ok (.goto 11, 3) := by decide +kernel
theorem dX3_readAttributes_68 : decode cX3_readAttributes 68 = .ok (.aload_n 0, 1) := by decide +kernel
theorem dX3_readAttributes_69 : decode cX3_readAttributes 69 = .ok (.getfield 41, 3) := by decide +kernel
theorem dX3_readAttributes_72 : decode cX3_readAttributes 72 = .ok (.iload_n 3, 1) := by decide +kernel
theorem dX3_readAttributes_73 : decode cX3_readAttributes 73 = .ok (.iconst 2, 1) := by decide +kernel
theorem dX3_readAttributes_74 : decode cX3_readAttributes 74 = .ok (.iadd, 1) := by decide +kernel
theorem dX3_readAttributes_75 : decode cX3_readAttributes 75 = .ok (.iaload, 1) := by decide +kernel
theorem dX3_readAttributes_76 : decode cX3_readAttributes 76 = .ok (.istore 6, 2) := by decide +kernel
theorem dX3_readAttributes_78 : decode cX3_readAttributes 78 = .ok (.iload 5, 2) := by decide +kernel
theorem dX3_readAttributes_80 : decode cX3_readAttributes 80 = .ok (.iload 6, 2) := by decide +kernel
theorem dX3_readAttributes_82 : decode cX3_readAttributes 82 = .ok (.iadd, 1) := by decide +kernel
theorem dX3_readAttributes_83 : decode cX3_readAttributes 83 = .ok (.iload_n 2, 1) := by decide +kernel
theorem dX3_readAttributes_84 : decode cX3_readAttributes 84 = .ok (.if_icmp .le 10, 3) := by decide +kernel
theorem dX3_readAttributes_87 : decode cX3_readAttributes 87 = .ok (.aload_n 0, 1) := by decide +kernel
theorem dX3_readAttributes_88 : decode cX3_readAttributes 88 = .ok (.iconst 2, 1) := by decide +kernel
theorem dX3_readAttributes_89 : decode cX3_readAttributes 89 = .ok (.iload_n 3, 1) := by decide +kernel
theorem dX3_readAttributes_90 : decode cX3_readAttributes 90 = .ok (.invokevirtual 92, 3) := by decide +kernel
theorem dX3_readAttributes_93 : decode cX3_readAttributes 93 = .ok (.return_, 1) := by decide +kernel
theorem dX3_readAttributes_94 : decode cX3_readAttributes 94 = .ok (.aload_n 0, 1) := by decide +kernel
theorem dX3_readAttributes_95 : decode cX3_readAttributes 95 = .ok (.iload_n 3, 1) := by decide +kernel
theorem dX3_readAttributes_96 : decode cX3_readAttributes 96 = .ok (.iload 5, 2) := by decide +kernel
theorem dX3_readAttributes_98 : decode cX3_readAttributes 98 = .ok (.iload 6, 2) := by decide +kernel
theorem dX3_readAttributes_100 : decode cX3_readAttributes 100 = .ok (.invokevirtual 107, 3) := by decide +kernel
theorem dX3_readAttributes_103 : decode cX3_readAttributes 103 = .ok (.iload 5, 2) := by decide +kernel
theorem dX3_readAttributes_105 : decode cX3_readAttributes 105 = .ok (.iload 6, 2) := by decide +kernel
theorem dX3_readAttributes_107 : decode cX3_readAttributes 107 = .ok (.iadd, 1) := by decide +kernel
theorem dX3_readAttributes_108 : decode cX3_readAttributes 108 = .ok (.istore_n 3, 1) := by decide +kernel
theorem dX3_readAttributes_109 : decode cX3_readAttributes 109 = .ok (.goto (-107), 3) := by decide +kernel
theorem dX3_readAttributes_112 : decode cX3_readAttributes 112 = .ok (.return_, 1) := by decide +kernel
theorem dX3_readParts_0 : decode cX3_readParts 0 = .ok (.iconst 2, 1) := by decide +kernel
theorem dX3_readParts_1 : decode cX3_readParts 1 = .ok (.istore_n 2, 1) := by decide +kernel
theorem dX3_readParts_2 : decode cX3_readParts 2 = .ok (.iload_n 1, 1) := by decide +kernel
theorem dX3_readParts_3 : decode cX3_readParts 3 = .ok (.iconst 2, 1) := by decide +kernel
theorem dX3_readParts_4 : decode cX3_readParts 4 = .ok (.if_icmp .lt 11, 3) := by decide +kernel
theorem dX3_readParts_7 : decode cX3_readParts 7 = .ok (.iload_n 2, 1) := by decide +kernel
theorem dX3_readParts_8 : decode cX3_readParts 8 = .ok (.aload_n 0, 1) := by decide +kernel
theorem dX3_readParts_9 : decode cX3_readParts 9 = .ok (.iconst 0, 1) := by decide +kernel
theorem dX3_readParts_10 : decode cX3_readParts 10 = .ok (.invokevirtual 88, 3) := by decide +kernel
theorem dX3_readParts_13 : decode cX3_readParts 13 = .ok (.iadd, 1) := by decide +kernel
theorem dX3_readParts_14 : decode cX3_readParts 14 = .ok (.istore_n 2, 1) := by decide +kernel
theorem dX3_readParts_15 : decode cX3_readParts 15 = .ok (.iload_n 2, 1) := by decide +kernel
theorem dX3_readParts_16 : decode cX3_readParts 16 = .ok (.iload_n 1, 1) := by decide +kernel
theorem dX3_readParts_17 : decode cX3_readParts 17 = .ok (.if_icmp .le 10, 3) := by decide +kernel
theorem dX3_readParts_20 : decode cX3_readParts 20 = .ok (.aload_n 0, 1) := by decide +kernel
theorem dX3_readParts_21 : decode cX3_readParts 21 = .ok (.iconst 1, 1) := by decide +kernel
theorem dX3_readParts_22 : decode cX3_readParts 22 = .ok (.iconst 0, 1) := by decide +kernel
theorem dX3_readParts_23 : decode cX3_readParts 23 = .ok (.invokevirtual 92, 3) := by decide +kernel
theorem dX3_readParts_26 : decode cX3_readParts 26 = .ok (.return_, 1) := by decide +kernel
theorem dX3_readParts_27 : decode cX3_readParts 27 = .ok (.aload_n 0, 1) := by decide +kernel
theorem dX3_readParts_28 : decode cX3_readParts 28 = .ok (.aload_n 0, 1) := by decide +kernel
theorem dX3_readParts_29 : decode cX3_readParts 29 = .ok (.iconst 2, 1) := by decide +kernel
theorem dX3_readParts_30 : decode cX3_readParts 30 = .ok (.iload_n 2, 1) := by decide +kernel
theorem dX3_readParts_31 : decode cX3_readParts 31 = .ok (.iconst 0, 1) := by decide +kernel
theorem dX3_readParts_32 : decode cX3_readParts 32 = .ok (.invokevirtual 95, 3) := by decide +kernel
theorem dX3_readParts_35 : decode cX3_readParts 35 = .ok (.putfield 63, 3) := by decide +kernel
theorem dX3_readParts_38 : decode cX3_readParts 38 = .ok (.iload_n 2, 1) := by decide +kernel
theorem dX3_readParts_39 : decode cX3_readParts 39 = .ok (.iconst 2, 1) := by decide +kernel
theorem dX3_readParts_40 : decode cX3_readParts 40 = .ok (.iadd, 1) := by decide +kernel
theorem dX3_readParts_41 : decode cX3_readParts 41 = .ok (.istore_n 3, 1) := by decide +kernel
theorem dX3_readParts_42 : decode cX3_readParts 42 = .ok (.iload_n 3, 1) := by decide +kernel
theorem dX3_readParts_43 : decode cX3_readParts 43 = .ok (.iload_n 1, 1) := by decide +kernel
theorem dX3_readParts_44 : decode cX3_readParts 44 = .ok (.if_icmp .gt 11, 3) := by decide +kernel
theorem dX3_readParts_47 : decode cX3_readParts 47 = .ok (.iload_n 3, 1) := by decide +kernel
theorem dX3_readParts_48 : decode cX3_readParts 48 = .ok (.aload_n 0, 1) := by decide +kernel
theorem dX3_readParts_49 : decode cX3_readParts 49 = .ok (.iload_n 2, 1) := by decide +kernel
theorem dX3_readParts_50 : decode cX3_readParts 50 = .ok (.invokevirtual 88, 3) := by decide +kernel
theorem dX3_readParts_53 : decode cX3_readParts 53 = .ok (.iadd, 1) := by decide +kernel
theorem dX3_readParts_54 : decode cX3_readParts 54 = .ok (.istore_n 3, 1) := by decide +kernel
theorem dX3_readParts_55 : decode cX3_readParts 55 = .ok (.iload_n 3, 1) := by decide +kernel
theorem dX3_readParts_56 : decode cX3_readParts 56 = .ok (.iload_n 1, 1) := by decide +kernel
theorem dX3_readParts_57 : decode cX3_readParts 57 = .ok (.if_icmp .le 10, 3) := by decide +kernel
theorem dX3_readParts_60 : decode cX3_readParts 60 = .ok (.aload_n 0, 1) := by decide +kernel
theorem dX3_readParts_61 : decode cX3_readParts 61 = .ok (.iconst 1, 1) := by decide +kernel
theorem dX3_readParts_62 : decode cX3_readParts 62 = .ok (.iload_n 2, 1) := by decide +kernel
theorem dX3_readParts_63 : decode cX3_readParts 63 = .ok (.invokevirtual 92, 3) := by decide +kernel
theorem dX3_readParts_66 : decode cX3_readParts 66 = .ok (.return_, 1) := by decide +kernel
theorem dX3_readParts_67 : decode cX3_readParts 67 = .ok (.aload_n 0, 1) := by decide +kernel
theorem dX3_readParts_68 : decode cX3_readParts 68 = .ok (.iload_n 2, 1) := by decide +kernel
theorem dX3_readParts_69 : decode cX3_readParts 69 = .ok (.iconst 2, 1) := by decide +kernel
theorem dX3_readParts_70 : decode cX3_readParts 70 = .ok (.iadd, 1) := by decide +kernel
theorem dX3_readParts_71 : decode cX3_readParts 71 = .ok (.iload_n 3, 1) := by decide +kernel
theorem dX3_readParts_72 : decode cX3_readParts 72 = .ok (.invokevirtual 99, 3) := by decide +kernel
theorem dX3_readParts_75 : decode cX3_readParts 75 = .ok (.aload_n 0, 1) := by decide +kernel
theorem dX3_readParts_76 : decode cX3_readParts 76 = .ok (.aload_n 0, 1) := by decide +kernel
theorem dX3_readParts_77 : decode cX3_readParts 77 = .ok (.iload_n 3, 1) := by decide +kernel
theorem dX3_readParts_78 : decode cX3_readParts 78 = .ok (.iload_n 1, 1) := by decide +kernel
theorem dX3_readParts_79 : decode cX3_readParts 79 = .ok (.aload_n 0, 1) := by decide +kernel
theorem dX3_readParts_80 : decode cX3_readParts 80 = .ok (.getfield 63, 3) := by decide +kernel
theorem dX3_readParts_83 : decode cX3_readParts 83 = .ok (.invokevirtual 95, 3) := by decide +kernel
theorem dX3_readParts_86 : decode cX3_readParts 86 = .ok (.putfield 66, 3) := by decide +kernel
theorem dX3_readParts_89 : decode cX3_readParts 89 = .ok (.aload_n 0, 1) := by decide +kernel
theorem dX3_readParts_90 : decode cX3_readParts 90 = .ok (.getfield 66, 3) := by decide +kernel
theorem dX3_readParts_93 : decode cX3_readParts 93 = .ok (.ifCond .le 23, 3) := by decide +kernel
theorem dX3_readParts_96 : decode cX3_readParts 96 = .ok (.aload_n 0, 1) := by decide +kernel
theorem dX3_readParts_97 : decode cX3_readParts 97 = .ok (.getfield 82, 3) := by decide +kernel
theorem dX3_readParts_100 : decode cX3_readParts 100 = .ok (.ifCond .eq 10, 3) := by decide +kernel
theorem dX3_readParts_103 : decode cX3_readParts 103 = .ok (.aload_n 0, 1) := by decide +kernel
theorem dX3_readParts_104 : decode cX3_readParts 104 = .ok (.getfield 85, 3) := by decide +kernel
theorem dX3_readParts_107 : decode cX3_readParts 107 = .ok (.ifCond .ne 9, 3) := by decide +kernel
theorem dX3_readParts_110 : decode cX3_readParts 110 = .ok (.aload_n 0, 1) := by decide +kernel
theorem dX3_readParts_111 : decode cX3_readParts 111 = .ok (.iconst 2, 1) := by decide +kernel
theorem dX3_readParts_112 : decode cX3_readParts 112 = .ok (.iload_n 3, 1) := by decide +kernel
theorem dX3_readParts_113 : decode cX3_readParts 113 = .ok (.invokevirtual 92, 3) := by decide +kernel
theorem dX3_readParts_116 : decode cX3_readParts 116 = .ok (.return_, 1) := by decide +kernel
