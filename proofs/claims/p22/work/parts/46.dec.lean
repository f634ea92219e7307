section
theorem dX12_acted_0 : decode cX12_acted 0 = .ok (.iconst 0, 1) := dc0 dO_3 (by decide +kernel)
theorem dX12_acted_1 : decode cX12_acted 1 = .ok (.istore_n 2, 1) := dc0 dO_61 (by decide +kernel)
theorem dX12_acted_2 : decode cX12_acted 2 = .ok (.iload_n 2, 1) := dc0 dO_28 (by decide +kernel)
theorem dX12_acted_3 : decode cX12_acted 3 = .ok (.aload_n 0, 1) := dc0 dO_42 (by decide +kernel)
theorem dX12_acted_4 : decode cX12_acted 4 = .ok (.getfield 514, 3) := dcU2 dO_180 (by decide +kernel)
theorem dX12_acted_7 : decode cX12_acted 7 = .ok (.iload_n 1, 1) := dc0 dO_27 (by decide +kernel)
theorem dX12_acted_8 : decode cX12_acted 8 = .ok (.iaload, 1) := dc0 dO_46 (by decide +kernel)
theorem dX12_acted_9 : decode cX12_acted 9 = .ok (.if_icmp .ge 23, 3) := dcS2 dO_162 (by decide +kernel)
theorem dX12_acted_12 : decode cX12_acted 12 = .ok (.aload_n 0, 1) := dc0 dO_42 (by decide +kernel)
theorem dX12_acted_13 : decode cX12_acted 13 = .ok (.iconst 5, 1) := dc0 dO_8 (by decide +kernel)
theorem dX12_acted_14 : decode cX12_acted 14 = .ok (.iload_n 1, 1) := dc0 dO_27 (by decide +kernel)
theorem dX12_acted_15 : decode cX12_acted 15 = .ok (.imul, 1) := dc0 dO_104 (by decide +kernel)
theorem dX12_acted_16 : decode cX12_acted 16 = .ok (.iload_n 2, 1) := dc0 dO_28 (by decide +kernel)
theorem dX12_acted_17 : decode cX12_acted 17 = .ok (.iadd, 1) := dc0 dO_96 (by decide +kernel)
theorem dX12_acted_18 : decode cX12_acted 18 = .ok (.invokevirtual 719, 3) := dcU2 dO_182 (by decide +kernel)
theorem dX12_acted_21 : decode cX12_acted 21 = .ok (.ifCond .eq 5, 3) := dcS2 dO_153 (by decide +kernel)
theorem dX12_acted_24 : decode cX12_acted 24 = .ok (.iload_n 2, 1) := dc0 dO_28 (by decide +kernel)
theorem dX12_acted_25 : decode cX12_acted 25 = .ok (.ireturn, 1) := dc0 dO_172 (by decide +kernel)
theorem dX12_acted_26 : decode cX12_acted 26 = .ok (.iinc 2 1, 3) := dcI dO_132 (by decide +kernel)
theorem dX12_acted_29 : decode cX12_acted 29 = .ok (.goto (-27), 3) := dcS2 dO_167 (by decide +kernel)
theorem dX12_acted_32 : decode cX12_acted 32 = .ok (.aload_n 0, 1) := dc0 dO_42 (by decide +kernel)
theorem dX12_acted_33 : decode cX12_acted 33 = .ok (.getfield 514, 3) := dcU2 dO_180 (by decide +kernel)
theorem dX12_acted_36 : decode cX12_acted 36 = .ok (.iload_n 1, 1) := dc0 dO_27 (by decide +kernel)
theorem dX12_acted_37 : decode cX12_acted 37 = .ok (.iaload, 1) := dc0 dO_46 (by decide +kernel)
theorem dX12_acted_38 : decode cX12_acted 38 = .ok (.ireturn, 1) := dc0 dO_172 (by decide +kernel)
theorem dX12_aim_0 : decode cX12_aim 0 = .ok (.iload_n 0, 1) := dc0 dO_26 (by decide +kernel)
theorem dX12_aim_1 : decode cX12_aim 1 = .ok (.bipush (-4), 2) := dcS1 dO_16 (by decide +kernel)
theorem dX12_aim_3 : decode cX12_aim 3 = .ok (.if_icmp .ne 8, 3) := dcS2 dO_160 (by decide +kernel)
theorem dX12_aim_6 : decode cX12_aim 6 = .ok (.bipush 20, 2) := dcS1 dO_16 (by decide +kernel)
theorem dX12_aim_8 : decode cX12_aim 8 = .ok (.goto 15, 3) := dcS2 dO_167 (by decide +kernel)
theorem dX12_aim_11 : decode cX12_aim 11 = .ok (.iload_n 0, 1) := dc0 dO_26 (by decide +kernel)
theorem dX12_aim_12 : decode cX12_aim 12 = .ok (.ldc 29, 2) := dcU1 dO_18 (by decide +kernel)
theorem dX12_aim_14 : decode cX12_aim 14 = .ok (.if_icmp .ne 8, 3) := dcS2 dO_160 (by decide +kernel)
theorem dX12_aim_17 : decode cX12_aim 17 = .ok (.bipush 21, 2) := dcS1 dO_16 (by decide +kernel)
theorem dX12_aim_19 : decode cX12_aim 19 = .ok (.goto 4, 3) := dcS2 dO_167 (by decide +kernel)
theorem dX12_aim_22 : decode cX12_aim 22 = .ok (.iload_n 0, 1) := dc0 dO_26 (by decide +kernel)
theorem dX12_aim_23 : decode cX12_aim 23 = .ok (.ireturn, 1) := dc0 dO_172 (by decide +kernel)
theorem dX12_beats_0 : decode cX12_beats 0 = .ok (.aload_n 0, 1) := dc0 dO_42 (by decide +kernel)
theorem dX12_beats_1 : decode cX12_beats 1 = .ok (.iload_n 1, 1) := dc0 dO_27 (by decide +kernel)
theorem dX12_beats_2 : decode cX12_beats 2 = .ok (.iconst 4, 1) := dc0 dO_7 (by decide +kernel)
theorem dX12_beats_3 : decode cX12_beats 3 = .ok (.iload_n 2, 1) := dc0 dO_28 (by decide +kernel)
theorem dX12_beats_4 : decode cX12_beats 4 = .ok (.iadd, 1) := dc0 dO_96 (by decide +kernel)
theorem dX12_beats_5 : decode cX12_beats 5 = .ok (.iload_n 2, 1) := dc0 dO_28 (by decide +kernel)
theorem dX12_beats_6 : decode cX12_beats 6 = .ok (.iconst 4, 1) := dc0 dO_7 (by decide +kernel)
theorem dX12_beats_7 : decode cX12_beats 7 = .ok (.iload_n 3, 1) := dc0 dO_29 (by decide +kernel)
theorem dX12_beats_8 : decode cX12_beats 8 = .ok (.iadd, 1) := dc0 dO_96 (by decide +kernel)
theorem dX12_beats_9 : decode cX12_beats 9 = .ok (.iload_n 3, 1) := dc0 dO_29 (by decide +kernel)
theorem dX12_beats_10 : decode cX12_beats 10 = .ok (.iload 4, 2) := dcU1 dO_21 (by decide +kernel)
theorem dX12_beats_12 : decode cX12_beats 12 = .ok (.invokevirtual 549, 3) := dcU2 dO_182 (by decide +kernel)
theorem dX12_beats_15 : decode cX12_beats 15 = .ok (.istore 5, 2) := dcU1 dO_54 (by decide +kernel)
theorem dX12_beats_17 : decode cX12_beats 17 = .ok (.iload 5, 2) := dcU1 dO_21 (by decide +kernel)
theorem dX12_beats_19 : decode cX12_beats 19 = .ok (.ifCond .eq 16, 3) := dcS2 dO_153 (by decide +kernel)
theorem dX12_beats_22 : decode cX12_beats 22 = .ok (.iload 5, 2) := dcU1 dO_21 (by decide +kernel)
theorem dX12_beats_24 : decode cX12_beats 24 = .ok (.ifCond .le 7, 3) := dcS2 dO_158 (by decide +kernel)
theorem dX12_beats_27 : decode cX12_beats 27 = .ok (.iconst 1, 1) := dc0 dO_4 (by decide +kernel)
theorem dX12_beats_28 : decode cX12_beats 28 = .ok (.goto 27, 3) := dcS2 dO_167 (by decide +kernel)
theorem dX12_beats_31 : decode cX12_beats 31 = .ok (.iconst 0, 1) := dc0 dO_3 (by decide +kernel)
theorem dX12_beats_32 : decode cX12_beats 32 = .ok (.goto 23, 3) := dcS2 dO_167 (by decide +kernel)
theorem dX12_beats_35 : decode cX12_beats 35 = .ok (.aload_n 0, 1) := dc0 dO_42 (by decide +kernel)
theorem dX12_beats_36 : decode cX12_beats 36 = .ok (.iload_n 2, 1) := dc0 dO_28 (by decide +kernel)
theorem dX12_beats_37 : decode cX12_beats 37 = .ok (.iload_n 1, 1) := dc0 dO_27 (by decide +kernel)
theorem dX12_beats_38 : decode cX12_beats 38 = .ok (.invokevirtual 553, 3) := dcU2 dO_182 (by decide +kernel)
theorem dX12_beats_41 : decode cX12_beats 41 = .ok (.aload_n 0, 1) := dc0 dO_42 (by decide +kernel)
theorem dX12_beats_42 : decode cX12_beats 42 = .ok (.iload_n 3, 1) := dc0 dO_29 (by decide +kernel)
theorem dX12_beats_43 : decode cX12_beats 43 = .ok (.iload_n 1, 1) := dc0 dO_27 (by decide +kernel)
theorem dX12_beats_44 : decode cX12_beats 44 = .ok (.invokevirtual 553, 3) := dcU2 dO_182 (by decide +kernel)
theorem dX12_beats_47 : decode cX12_beats 47 = .ok (.if_icmp .ge 7, 3) := dcS2 dO_162 (by decide +kernel)
theorem dX12_beats_50 : decode cX12_beats 50 = .ok (.iconst 1, 1) := dc0 dO_4 (by decide +kernel)
theorem dX12_beats_51 : decode cX12_beats 51 = .ok (.goto 4, 3) := dcS2 dO_167 (by decide +kernel)
theorem dX12_beats_54 : decode cX12_beats 54 = .ok (.iconst 0, 1) := dc0 dO_3 (by decide +kernel)
theorem dX12_beats_55 : decode cX12_beats 55 = .ok (.ireturn, 1) := dc0 dO_172 (by decide +kernel)
theorem dX12_best_0 : decode cX12_best 0 = .ok (.ldc 29, 2) := dcU1 dO_18 (by decide +kernel)
theorem dX12_best_2 : decode cX12_best 2 = .ok (.istore_n 3, 1) := dc0 dO_62 (by decide +kernel)
theorem dX12_best_3 : decode cX12_best 3 = .ok (.iconst 0, 1) := dc0 dO_3 (by decide +kernel)
theorem dX12_best_4 : decode cX12_best 4 = .ok (.istore 4, 2) := dcU1 dO_54 (by decide +kernel)
theorem dX12_best_6 : decode cX12_best 6 = .ok (.iload 4, 2) := dcU1 dO_21 (by decide +kernel)
theorem dX12_best_8 : decode cX12_best 8 = .ok (.aload_n 0, 1) := dc0 dO_42 (by decide +kernel)
theorem dX12_best_9 : decode cX12_best 9 = .ok (.getfield 37, 3) := dcU2 dO_180 (by decide +kernel)
theorem dX12_best_12 : decode cX12_best 12 = .ok (.if_icmp .ge 40, 3) := dcS2 dO_162 (by decide +kernel)
theorem dX12_best_15 : decode cX12_best 15 = .ok (.aload_n 0, 1) := dc0 dO_42 (by decide +kernel)
theorem dX12_best_16 : decode cX12_best 16 = .ok (.getfield 457, 3) := dcU2 dO_180 (by decide +kernel)
theorem dX12_best_19 : decode cX12_best 19 = .ok (.iload 4, 2) := dcU1 dO_21 (by decide +kernel)
theorem dX12_best_21 : decode cX12_best 21 = .ok (.baload, 1) := dc0 dO_51 (by decide +kernel)
theorem dX12_best_22 : decode cX12_best 22 = .ok (.ifCond .eq 24, 3) := dcS2 dO_153 (by decide +kernel)
theorem dX12_best_25 : decode cX12_best 25 = .ok (.iload_n 3, 1) := dc0 dO_29 (by decide +kernel)
theorem dX12_best_26 : decode cX12_best 26 = .ok (.ldc 29, 2) := dcU1 dO_18 (by decide +kernel)
theorem dX12_best_28 : decode cX12_best 28 = .ok (.if_icmp .eq 15, 3) := dcS2 dO_159 (by decide +kernel)
theorem dX12_best_31 : decode cX12_best 31 = .ok (.aload_n 0, 1) := dc0 dO_42 (by decide +kernel)
theorem dX12_best_32 : decode cX12_best 32 = .ok (.iload_n 1, 1) := dc0 dO_27 (by decide +kernel)
theorem dX12_best_33 : decode cX12_best 33 = .ok (.iload 4, 2) := dcU1 dO_21 (by decide +kernel)
theorem dX12_best_35 : decode cX12_best 35 = .ok (.iload_n 3, 1) := dc0 dO_29 (by decide +kernel)
theorem dX12_best_36 : decode cX12_best 36 = .ok (.iload_n 2, 1) := dc0 dO_28 (by decide +kernel)
theorem dX12_best_37 : decode cX12_best 37 = .ok (.invokevirtual 568, 3) := dcU2 dO_182 (by decide +kernel)
theorem dX12_best_40 : decode cX12_best 40 = .ok (.ifCond .eq 6, 3) := dcS2 dO_153 (by decide +kernel)
theorem dX12_best_43 : decode cX12_best 43 = .ok (.iload 4, 2) := dcU1 dO_21 (by decide +kernel)
theorem dX12_best_45 : decode cX12_best 45 = .ok (.istore_n 3, 1) := dc0 dO_62 (by decide +kernel)
theorem dX12_best_46 : decode cX12_best 46 = .ok (.iinc 4 1, 3) := dcI dO_132 (by decide +kernel)
theorem dX12_best_49 : decode cX12_best 49 = .ok (.goto (-43), 3) := dcS2 dO_167 (by decide +kernel)
theorem dX12_best_52 : decode cX12_best 52 = .ok (.iload_n 3, 1) := dc0 dO_29 (by decide +kernel)
theorem dX12_best_53 : decode cX12_best 53 = .ok (.ireturn, 1) := dc0 dO_172 (by decide +kernel)
theorem dX12_byteAt_0 : decode cX12_byteAt 0 = .ok (.iload_n 1, 1) := dc0 dO_27 (by decide +kernel)
theorem dX12_byteAt_1 : decode cX12_byteAt 1 = .ok (.aload_n 0, 1) := dc0 dO_42 (by decide +kernel)
theorem dX12_byteAt_2 : decode cX12_byteAt 2 = .ok (.getfield 1, 3) := dcU2 dO_180 (by decide +kernel)
theorem dX12_byteAt_5 : decode cX12_byteAt 5 = .ok (.if_icmp .ge 16, 3) := dcS2 dO_162 (by decide +kernel)
theorem dX12_byteAt_8 : decode cX12_byteAt 8 = .ok (.aload_n 0, 1) := dc0 dO_42 (by decide +kernel)
theorem dX12_byteAt_9 : decode cX12_byteAt 9 = .ok (.getfield 7, 3) := dcU2 dO_180 (by decide +kernel)
theorem dX12_byteAt_12 : decode cX12_byteAt 12 = .ok (.iload_n 1, 1) := dc0 dO_27 (by decide +kernel)
theorem dX12_byteAt_13 : decode cX12_byteAt 13 = .ok (.baload, 1) := dc0 dO_51 (by decide +kernel)
theorem dX12_byteAt_14 : decode cX12_byteAt 14 = .ok (.sipush 255, 3) := dcS2 dO_17 (by decide +kernel)
theorem dX12_byteAt_17 : decode cX12_byteAt 17 = .ok (.iand, 1) := dc0 dO_126 (by decide +kernel)
theorem dX12_byteAt_18 : decode cX12_byteAt 18 = .ok (.goto 4, 3) := dcS2 dO_167 (by decide +kernel)
theorem dX12_byteAt_21 : decode cX12_byteAt 21 = .ok (.iconst (-1), 1) := dc0 dO_2 (by decide +kernel)
theorem dX12_byteAt_22 : decode cX12_byteAt 22 = .ok (.ireturn, 1) := dc0 dO_172 (by decide +kernel)
theorem dX12_clear_0 : decode cX12_clear 0 = .ok (.iconst 0, 1) := dc0 dO_3 (by decide +kernel)
theorem dX12_clear_1 : decode cX12_clear 1 = .ok (.istore_n 1, 1) := dc0 dO_60 (by decide +kernel)
theorem dX12_clear_2 : decode cX12_clear 2 = .ok (.iconst 1, 1) := dc0 dO_4 (by decide +kernel)
theorem dX12_clear_3 : decode cX12_clear 3 = .ok (.istore_n 2, 1) := dc0 dO_61 (by decide +kernel)
theorem dX12_clear_4 : decode cX12_clear 4 = .ok (.iload_n 2, 1) := dc0 dO_28 (by decide +kernel)
theorem dX12_clear_5 : decode cX12_clear 5 = .ok (.bipush 6, 2) := dcS1 dO_16 (by decide +kernel)
theorem dX12_clear_7 : decode cX12_clear 7 = .ok (.if_icmp .gt 25, 3) := dcS2 dO_163 (by decide +kernel)
theorem dX12_clear_10 : decode cX12_clear 10 = .ok (.iload_n 1, 1) := dc0 dO_27 (by decide +kernel)
theorem dX12_clear_11 : decode cX12_clear 11 = .ok (.aload_n 0, 1) := dc0 dO_42 (by decide +kernel)
theorem dX12_clear_12 : decode cX12_clear 12 = .ok (.getfield 514, 3) := dcU2 dO_180 (by decide +kernel)
theorem dX12_clear_15 : decode cX12_clear 15 = .ok (.iload_n 2, 1) := dc0 dO_28 (by decide +kernel)
theorem dX12_clear_16 : decode cX12_clear 16 = .ok (.iaload, 1) := dc0 dO_46 (by decide +kernel)
theorem dX12_clear_17 : decode cX12_clear 17 = .ok (.iadd, 1) := dc0 dO_96 (by decide +kernel)
theorem dX12_clear_18 : decode cX12_clear 18 = .ok (.istore_n 1, 1) := dc0 dO_60 (by decide +kernel)
theorem dX12_clear_19 : decode cX12_clear 19 = .ok (.aload_n 0, 1) := dc0 dO_42 (by decide +kernel)
theorem dX12_clear_20 : decode cX12_clear 20 = .ok (.getfield 514, 3) := dcU2 dO_180 (by decide +kernel)
theorem dX12_clear_23 : decode cX12_clear 23 = .ok (.iload_n 2, 1) := dc0 dO_28 (by decide +kernel)
theorem dX12_clear_24 : decode cX12_clear 24 = .ok (.iconst 0, 1) := dc0 dO_3 (by decide +kernel)
theorem dX12_clear_25 : decode cX12_clear 25 = .ok (.iastore, 1) := dc0 dO_79 (by decide +kernel)
theorem dX12_clear_26 : decode cX12_clear 26 = .ok (.iinc 2 1, 3) := dcI dO_132 (by decide +kernel)
theorem dX12_clear_29 : decode cX12_clear 29 = .ok (.goto (-25), 3) := dcS2 dO_167 (by decide +kernel)
theorem dX12_clear_32 : decode cX12_clear 32 = .ok (.iload_n 1, 1) := dc0 dO_27 (by decide +kernel)
theorem dX12_clear_33 : decode cX12_clear 33 = .ok (.ireturn, 1) := dc0 dO_172 (by decide +kernel)
theorem dX12_costOf_0 : decode cX12_costOf 0 = .ok (.aload_n 0, 1) := dc0 dO_42 (by decide +kernel)
theorem dX12_costOf_1 : decode cX12_costOf 1 = .ok (.iload_n 2, 1) := dc0 dO_28 (by decide +kernel)
theorem dX12_costOf_2 : decode cX12_costOf 2 = .ok (.iload_n 3, 1) := dc0 dO_29 (by decide +kernel)
theorem dX12_costOf_3 : decode cX12_costOf 3 = .ok (.invokevirtual 701, 3) := dcU2 dO_182 (by decide +kernel)
theorem dX12_costOf_6 : decode cX12_costOf 6 = .ok (.istore 5, 2) := dcU1 dO_54 (by decide +kernel)
theorem dX12_costOf_8 : decode cX12_costOf 8 = .ok (.iload 5, 2) := dcU1 dO_21 (by decide +kernel)
theorem dX12_costOf_10 : decode cX12_costOf 10 = .ok (.ldc 29, 2) := dcU1 dO_18 (by decide +kernel)
theorem dX12_costOf_12 : decode cX12_costOf 12 = .ok (.if_icmp .eq 17, 3) := dcS2 dO_159 (by decide +kernel)
theorem dX12_costOf_15 : decode cX12_costOf 15 = .ok (.aload_n 0, 1) := dc0 dO_42 (by decide +kernel)
theorem dX12_costOf_16 : decode cX12_costOf 16 = .ok (.getfield 508, 3) := dcU2 dO_180 (by decide +kernel)
theorem dX12_costOf_19 : decode cX12_costOf 19 = .ok (.bipush 22, 2) := dcS1 dO_16 (by decide +kernel)
theorem dX12_costOf_21 : decode cX12_costOf 21 = .ok (.iload 5, 2) := dcU1 dO_21 (by decide +kernel)
theorem dX12_costOf_23 : decode cX12_costOf 23 = .ok (.imul, 1) := dc0 dO_104 (by decide +kernel)
theorem dX12_costOf_24 : decode cX12_costOf 24 = .ok (.iload 4, 2) := dcU1 dO_21 (by decide +kernel)
theorem dX12_costOf_26 : decode cX12_costOf 26 = .ok (.iadd, 1) := dc0 dO_96 (by decide +kernel)
theorem dX12_costOf_27 : decode cX12_costOf 27 = .ok (.iaload, 1) := dc0 dO_46 (by decide +kernel)
theorem dX12_costOf_28 : decode cX12_costOf 28 = .ok (.ireturn, 1) := dc0 dO_172 (by decide +kernel)
theorem dX12_costOf_29 : decode cX12_costOf 29 = .ok (.aload_n 0, 1) := dc0 dO_42 (by decide +kernel)
theorem dX12_costOf_30 : decode cX12_costOf 30 = .ok (.iload_n 1, 1) := dc0 dO_27 (by decide +kernel)
theorem dX12_costOf_31 : decode cX12_costOf 31 = .ok (.iload_n 2, 1) := dc0 dO_28 (by decide +kernel)
theorem dX12_costOf_32 : decode cX12_costOf 32 = .ok (.invokevirtual 686, 3) := dcU2 dO_182 (by decide +kernel)
theorem dX12_costOf_35 : decode cX12_costOf 35 = .ok (.invokestatic 704, 3) := dcU2 dO_184 (by decide +kernel)
theorem dX12_costOf_38 : decode cX12_costOf 38 = .ok (.iload 4, 2) := dcU1 dO_21 (by decide +kernel)
theorem dX12_costOf_40 : decode cX12_costOf 40 = .ok (.if_icmp .ne 7, 3) := dcS2 dO_160 (by decide +kernel)
theorem dX12_costOf_43 : decode cX12_costOf 43 = .ok (.iconst 0, 1) := dc0 dO_3 (by decide +kernel)
theorem dX12_costOf_44 : decode cX12_costOf 44 = .ok (.goto 4, 3) := dcS2 dO_167 (by decide +kernel)
theorem dX12_costOf_47 : decode cX12_costOf 47 = .ok (.iconst 1, 1) := dc0 dO_4 (by decide +kernel)
theorem dX12_costOf_48 : decode cX12_costOf 48 = .ok (.ireturn, 1) := dc0 dO_172 (by decide +kernel)
theorem dX12_costRight_0 : decode cX12_costRight 0 = .ok (.iload_n 2, 1) := dc0 dO_28 (by decide +kernel)
theorem dX12_costRight_1 : decode cX12_costRight 1 = .ok (.iconst 4, 1) := dc0 dO_7 (by decide +kernel)
theorem dX12_costRight_2 : decode cX12_costRight 2 = .ok (.if_icmp .eq 5, 3) := dcS2 dO_159 (by decide +kernel)
theorem dX12_costRight_5 : decode cX12_costRight 5 = .ok (.iconst 0, 1) := dc0 dO_3 (by decide +kernel)
theorem dX12_costRight_6 : decode cX12_costRight 6 = .ok (.ireturn, 1) := dc0 dO_172 (by decide +kernel)
theorem dX12_costRight_7 : decode cX12_costRight 7 = .ok (.aload_n 0, 1) := dc0 dO_42 (by decide +kernel)
theorem dX12_costRight_8 : decode cX12_costRight 8 = .ok (.iload_n 1, 1) := dc0 dO_27 (by decide +kernel)
theorem dX12_costRight_9 : decode cX12_costRight 9 = .ok (.iconst 4, 1) := dc0 dO_7 (by decide +kernel)
theorem dX12_costRight_10 : decode cX12_costRight 10 = .ok (.invokevirtual 623, 3) := dcU2 dO_182 (by decide +kernel)
theorem dX12_costRight_13 : decode cX12_costRight 13 = .ok (.istore_n 3, 1) := dc0 dO_62 (by decide +kernel)
theorem dX12_costRight_14 : decode cX12_costRight 14 = .ok (.aload_n 0, 1) := dc0 dO_42 (by decide +kernel)
theorem dX12_costRight_15 : decode cX12_costRight 15 = .ok (.getfield 148, 3) := dcU2 dO_180 (by decide +kernel)
theorem dX12_costRight_18 : decode cX12_costRight 18 = .ok (.sipush 963, 3) := dcS2 dO_17 (by decide +kernel)
theorem dX12_costRight_21 : decode cX12_costRight 21 = .ok (.iload_n 3, 1) := dc0 dO_29 (by decide +kernel)
theorem dX12_costRight_22 : decode cX12_costRight 22 = .ok (.ifCond .lt 10, 3) := dcS2 dO_155 (by decide +kernel)
theorem dX12_costRight_25 : decode cX12_costRight 25 = .ok (.iload_n 3, 1) := dc0 dO_29 (by decide +kernel)
theorem dX12_costRight_26 : decode cX12_costRight 26 = .ok (.ldc_w 291, 3) := dcU2 dO_19 (by decide +kernel)
theorem dX12_costRight_29 : decode cX12_costRight 29 = .ok (.if_icmp .le 9, 3) := dcS2 dO_164 (by decide +kernel)
theorem dX12_costRight_32 : decode cX12_costRight 32 = .ok (.ldc_w 291, 3) := dcU2 dO_19 (by decide +kernel)
theorem dX12_costRight_35 : decode cX12_costRight 35 = .ok (.goto 4, 3) := dcS2 dO_167 (by decide +kernel)
theorem dX12_costRight_38 : decode cX12_costRight 38 = .ok (.iload_n 3, 1) := dc0 dO_29 (by decide +kernel)
theorem dX12_costRight_39 : decode cX12_costRight 39 = .ok (.iastore, 1) := dc0 dO_79 (by decide +kernel)
theorem dX12_costRight_40 : decode cX12_costRight 40 = .ok (.iconst 1, 1) := dc0 dO_4 (by decide +kernel)
theorem dX12_costRight_41 : decode cX12_costRight 41 = .ok (.ireturn, 1) := dc0 dO_172 (by decide +kernel)
theorem dX12_count_0 : decode cX12_count 0 = .ok (.iconst 0, 1) := dc0 dO_3 (by decide +kernel)
theorem dX12_count_1 : decode cX12_count 1 = .ok (.istore_n 2, 1) := dc0 dO_61 (by decide +kernel)
theorem dX12_count_2 : decode cX12_count 2 = .ok (.iconst 0, 1) := dc0 dO_3 (by decide +kernel)
theorem dX12_count_3 : decode cX12_count 3 = .ok (.istore_n 3, 1) := dc0 dO_62 (by decide +kernel)
theorem dX12_count_4 : decode cX12_count 4 = .ok (.iload_n 3, 1) := dc0 dO_29 (by decide +kernel)
theorem dX12_count_5 : decode cX12_count 5 = .ok (.sipush 400, 3) := dcS2 dO_17 (by decide +kernel)
theorem dX12_count_8 : decode cX12_count 8 = .ok (.if_icmp .ge 41, 3) := dcS2 dO_162 (by decide +kernel)
theorem dX12_count_11 : decode cX12_count 11 = .ok (.iload_n 2, 1) := dc0 dO_28 (by decide +kernel)
theorem dX12_count_12 : decode cX12_count 12 = .ok (.aload_n 0, 1) := dc0 dO_42 (by decide +kernel)
theorem dX12_count_13 : decode cX12_count 13 = .ok (.getfield 433, 3) := dcU2 dO_180 (by decide +kernel)
theorem dX12_count_16 : decode cX12_count 16 = .ok (.iload_n 3, 1) := dc0 dO_29 (by decide +kernel)
theorem dX12_count_17 : decode cX12_count 17 = .ok (.iaload, 1) := dc0 dO_46 (by decide +kernel)
theorem dX12_count_18 : decode cX12_count 18 = .ok (.ifCond .lt 7, 3) := dcS2 dO_155 (by decide +kernel)
theorem dX12_count_21 : decode cX12_count 21 = .ok (.iconst 1, 1) := dc0 dO_4 (by decide +kernel)
theorem dX12_count_22 : decode cX12_count 22 = .ok (.goto 4, 3) := dcS2 dO_167 (by decide +kernel)
theorem dX12_count_25 : decode cX12_count 25 = .ok (.iconst 0, 1) := dc0 dO_3 (by decide +kernel)
theorem dX12_count_26 : decode cX12_count 26 = .ok (.aload_n 0, 1) := dc0 dO_42 (by decide +kernel)
theorem dX12_count_27 : decode cX12_count 27 = .ok (.getfield 439, 3) := dcU2 dO_180 (by decide +kernel)
theorem dX12_count_30 : decode cX12_count 30 = .ok (.iload_n 3, 1) := dc0 dO_29 (by decide +kernel)
theorem dX12_count_31 : decode cX12_count 31 = .ok (.iaload, 1) := dc0 dO_46 (by decide +kernel)
theorem dX12_count_32 : decode cX12_count 32 = .ok (.ifCond .lt 7, 3) := dcS2 dO_155 (by decide +kernel)
theorem dX12_count_35 : decode cX12_count 35 = .ok (.iconst 1, 1) := dc0 dO_4 (by decide +kernel)
theorem dX12_count_36 : decode cX12_count 36 = .ok (.goto 4, 3) := dcS2 dO_167 (by decide +kernel)
theorem dX12_count_39 : decode cX12_count 39 = .ok (.iconst 0, 1) := dc0 dO_3 (by decide +kernel)
theorem dX12_count_40 : decode cX12_count 40 = .ok (.iadd, 1) := dc0 dO_96 (by decide +kernel)
theorem dX12_count_41 : decode cX12_count 41 = .ok (.iadd, 1) := dc0 dO_96 (by decide +kernel)
theorem dX12_count_42 : decode cX12_count 42 = .ok (.istore_n 2, 1) := dc0 dO_61 (by decide +kernel)
theorem dX12_count_43 : decode cX12_count 43 = .ok (.iinc 3 1, 3) := dcI dO_132 (by decide +kernel)
theorem dX12_count_46 : decode cX12_count 46 = .ok (.goto (-42), 3) := dcS2 dO_167 (by decide +kernel)
theorem dX12_count_49 : decode cX12_count 49 = .ok (.iload_n 1, 1) := dc0 dO_27 (by decide +kernel)
theorem dX12_count_50 : decode cX12_count 50 = .ok (.tableswitch 119 0 11 #[62, 67, 72, 77, 82, 87, 92, 97, 102, 104, 109, 114], 62) := by decide +kernel
theorem dX12_count_112 : decode cX12_count 112 = .ok (.aload_n 0, 1) := dc0 dO_42 (by decide +kernel)
theorem dX12_count_113 : decode cX12_count 113 = .ok (.getfield 15, 3) := dcU2 dO_180 (by decide +kernel)
theorem dX12_count_116 : decode cX12_count 116 = .ok (.ireturn, 1) := dc0 dO_172 (by decide +kernel)
theorem dX12_count_117 : decode cX12_count 117 = .ok (.aload_n 0, 1) := dc0 dO_42 (by decide +kernel)
theorem dX12_count_118 : decode cX12_count 118 = .ok (.getfield 34, 3) := dcU2 dO_180 (by decide +kernel)
theorem dX12_count_121 : decode cX12_count 121 = .ok (.ireturn, 1) := dc0 dO_172 (by decide +kernel)
theorem dX12_count_122 : decode cX12_count 122 = .ok (.aload_n 0, 1) := dc0 dO_42 (by decide +kernel)
theorem dX12_count_123 : decode cX12_count 123 = .ok (.getfield 37, 3) := dcU2 dO_180 (by decide +kernel)
theorem dX12_count_126 : decode cX12_count 126 = .ok (.ireturn, 1) := dc0 dO_172 (by decide +kernel)
theorem dX12_count_127 : decode cX12_count 127 = .ok (.aload_n 0, 1) := dc0 dO_42 (by decide +kernel)
theorem sfx_cX12_count_128 : (cX12_count.data.toList.drop 128).take 67 = [180, 0, 95, 172, 42, 180, 1, 99, 172, 42, 180, 2, 183, 172, 42, 180, 0, 1, 172, 42, 180, 2, 79, 172, 28, 172, 42, 180, 2, 98, 172, 42, 180, 0, 79, 172, 42, 180, 0, 85, 172, 2, 172] := by decide +kernel
theorem dX12_count_128 : decode cX12_count 128 = .ok (.getfield 95, 3) := dcU2 dO_180 (rdU2.ch sfx_cX12_count_128 0 rfl (by decide +kernel))
theorem dX12_count_131 : decode cX12_count 131 = .ok (.ireturn, 1) := dc0 dO_172 (rdB.ch sfx_cX12_count_128 3 rfl (by decide +kernel))
theorem dX12_count_132 : decode cX12_count 132 = .ok (.aload_n 0, 1) := dc0 dO_42 (rdB.ch sfx_cX12_count_128 4 rfl (by decide +kernel))
theorem dX12_count_133 : decode cX12_count 133 = .ok (.getfield 355, 3) := dcU2 dO_180 (rdU2.ch sfx_cX12_count_128 5 rfl (by decide +kernel))
theorem dX12_count_136 : decode cX12_count 136 = .ok (.ireturn, 1) := dc0 dO_172 (rdB.ch sfx_cX12_count_128 8 rfl (by decide +kernel))
theorem dX12_count_137 : decode cX12_count 137 = .ok (.aload_n 0, 1) := dc0 dO_42 (rdB.ch sfx_cX12_count_128 9 rfl (by decide +kernel))
theorem dX12_count_138 : decode cX12_count 138 = .ok (.getfield 695, 3) := dcU2 dO_180 (rdU2.ch sfx_cX12_count_128 10 rfl (by decide +kernel))
theorem dX12_count_141 : decode cX12_count 141 = .ok (.ireturn, 1) := dc0 dO_172 (rdB.ch sfx_cX12_count_128 13 rfl (by decide +kernel))
theorem dX12_count_142 : decode cX12_count 142 = .ok (.aload_n 0, 1) := dc0 dO_42 (rdB.ch sfx_cX12_count_128 14 rfl (by decide +kernel))
theorem dX12_count_143 : decode cX12_count 143 = .ok (.getfield 1, 3) := dcU2 dO_180 (rdU2.ch sfx_cX12_count_128 15 rfl (by decide +kernel))
theorem dX12_count_146 : decode cX12_count 146 = .ok (.ireturn, 1) := dc0 dO_172 (rdB.ch sfx_cX12_count_128 18 rfl (by decide +kernel))
theorem dX12_count_147 : decode cX12_count 147 = .ok (.aload_n 0, 1) := dc0 dO_42 (rdB.ch sfx_cX12_count_128 19 rfl (by decide +kernel))
theorem dX12_count_148 : decode cX12_count 148 = .ok (.getfield 591, 3) := dcU2 dO_180 (rdU2.ch sfx_cX12_count_128 20 rfl (by decide +kernel))
theorem dX12_count_151 : decode cX12_count 151 = .ok (.ireturn, 1) := dc0 dO_172 (rdB.ch sfx_cX12_count_128 23 rfl (by decide +kernel))
theorem dX12_count_152 : decode cX12_count 152 = .ok (.iload_n 2, 1) := dc0 dO_28 (rdB.ch sfx_cX12_count_128 24 rfl (by decide +kernel))
theorem dX12_count_153 : decode cX12_count 153 = .ok (.ireturn, 1) := dc0 dO_172 (rdB.ch sfx_cX12_count_128 25 rfl (by decide +kernel))
theorem dX12_count_154 : decode cX12_count 154 = .ok (.aload_n 0, 1) := dc0 dO_42 (rdB.ch sfx_cX12_count_128 26 rfl (by decide +kernel))
theorem dX12_count_155 : decode cX12_count 155 = .ok (.getfield 610, 3) := dcU2 dO_180 (rdU2.ch sfx_cX12_count_128 27 rfl (by decide +kernel))
theorem dX12_count_158 : decode cX12_count 158 = .ok (.ireturn, 1) := dc0 dO_172 (rdB.ch sfx_cX12_count_128 30 rfl (by decide +kernel))
theorem dX12_count_159 : decode cX12_count 159 = .ok (.aload_n 0, 1) := dc0 dO_42 (rdB.ch sfx_cX12_count_128 31 rfl (by decide +kernel))
theorem dX12_count_160 : decode cX12_count 160 = .ok (.getfield 79, 3) := dcU2 dO_180 (rdU2.ch sfx_cX12_count_128 32 rfl (by decide +kernel))
theorem dX12_count_163 : decode cX12_count 163 = .ok (.ireturn, 1) := dc0 dO_172 (rdB.ch sfx_cX12_count_128 35 rfl (by decide +kernel))
theorem dX12_count_164 : decode cX12_count 164 = .ok (.aload_n 0, 1) := dc0 dO_42 (rdB.ch sfx_cX12_count_128 36 rfl (by decide +kernel))
theorem dX12_count_165 : decode cX12_count 165 = .ok (.getfield 85, 3) := dcU2 dO_180 (rdU2.ch sfx_cX12_count_128 37 rfl (by decide +kernel))
theorem dX12_count_168 : decode cX12_count 168 = .ok (.ireturn, 1) := dc0 dO_172 (rdB.ch sfx_cX12_count_128 40 rfl (by decide +kernel))
theorem dX12_count_169 : decode cX12_count 169 = .ok (.iconst (-1), 1) := dc0 dO_2 (rdB.ch sfx_cX12_count_128 41 rfl (by decide +kernel))
theorem dX12_count_170 : decode cX12_count 170 = .ok (.ireturn, 1) := dc0 dO_172 (rdB.ch sfx_cX12_count_128 42 rfl (by decide +kernel))
theorem dX12_demand_0 : decode cX12_demand 0 = .ok (.aload_n 0, 1) := dc0 dO_42 (by decide +kernel)
theorem dX12_demand_1 : decode cX12_demand 1 = .ok (.iload_n 1, 1) := dc0 dO_27 (by decide +kernel)
theorem dX12_demand_2 : decode cX12_demand 2 = .ok (.invokevirtual 49, 3) := dcU2 dO_182 (by decide +kernel)
theorem dX12_demand_5 : decode cX12_demand 5 = .ok (.ifCond .eq 14, 3) := dcS2 dO_153 (by decide +kernel)
theorem dX12_demand_8 : decode cX12_demand 8 = .ok (.iload_n 3, 1) := dc0 dO_29 (by decide +kernel)
theorem dX12_demand_9 : decode cX12_demand 9 = .ok (.iconst 1, 1) := dc0 dO_4 (by decide +kernel)
theorem dX12_demand_10 : decode cX12_demand 10 = .ok (.ldc_w 291, 3) := dcU2 dO_19 (by decide +kernel)
theorem dX12_demand_13 : decode cX12_demand 13 = .ok (.invokestatic 18, 3) := dcU2 dO_184 (by decide +kernel)
theorem dX12_demand_16 : decode cX12_demand 16 = .ok (.ifCond .ne 5, 3) := dcS2 dO_154 (by decide +kernel)
theorem dX12_demand_19 : decode cX12_demand 19 = .ok (.iconst (-1), 1) := dc0 dO_2 (by decide +kernel)
theorem dX12_demand_20 : decode cX12_demand 20 = .ok (.ireturn, 1) := dc0 dO_172 (by decide +kernel)
theorem dX12_demand_21 : decode cX12_demand 21 = .ok (.aload_n 0, 1) := dc0 dO_42 (by decide +kernel)
theorem dX12_demand_22 : decode cX12_demand 22 = .ok (.getfield 695, 3) := dcU2 dO_180 (by decide +kernel)
theorem dX12_demand_25 : decode cX12_demand 25 = .ok (.bipush 16, 2) := dcS1 dO_16 (by decide +kernel)
theorem dX12_demand_27 : decode cX12_demand 27 = .ok (.if_icmp .ne 6, 3) := dcS2 dO_160 (by decide +kernel)
theorem dX12_demand_30 : decode cX12_demand 30 = .ok (.bipush (-3), 2) := dcS1 dO_16 (by decide +kernel)
theorem dX12_demand_32 : decode cX12_demand 32 = .ok (.ireturn, 1) := dc0 dO_172 (by decide +kernel)
theorem dX12_demand_33 : decode cX12_demand 33 = .ok (.aload_n 0, 1) := dc0 dO_42 (by decide +kernel)
theorem dX12_demand_34 : decode cX12_demand 34 = .ok (.getfield 493, 3) := dcU2 dO_180 (by decide +kernel)
theorem dX12_demand_37 : decode cX12_demand 37 = .ok (.aload_n 0, 1) := dc0 dO_42 (by decide +kernel)
theorem dX12_demand_38 : decode cX12_demand 38 = .ok (.getfield 695, 3) := dcU2 dO_180 (by decide +kernel)
theorem dX12_demand_41 : decode cX12_demand 41 = .ok (.iload_n 1, 1) := dc0 dO_27 (by decide +kernel)
theorem dX12_demand_42 : decode cX12_demand 42 = .ok (.iastore, 1) := dc0 dO_79 (by decide +kernel)
theorem dX12_demand_43 : decode cX12_demand 43 = .ok (.aload_n 0, 1) := dc0 dO_42 (by decide +kernel)
theorem dX12_demand_44 : decode cX12_demand 44 = .ok (.getfield 496, 3) := dcU2 dO_180 (by decide +kernel)
theorem dX12_demand_47 : decode cX12_demand 47 = .ok (.aload_n 0, 1) := dc0 dO_42 (by decide +kernel)
theorem dX12_demand_48 : decode cX12_demand 48 = .ok (.getfield 695, 3) := dcU2 dO_180 (by decide +kernel)
theorem dX12_demand_51 : decode cX12_demand 51 = .ok (.iload_n 2, 1) := dc0 dO_28 (by decide +kernel)
theorem dX12_demand_52 : decode cX12_demand 52 = .ok (.iastore, 1) := dc0 dO_79 (by decide +kernel)
theorem dX12_demand_53 : decode cX12_demand 53 = .ok (.aload_n 0, 1) := dc0 dO_42 (by decide +kernel)
theorem dX12_demand_54 : decode cX12_demand 54 = .ok (.getfield 499, 3) := dcU2 dO_180 (by decide +kernel)
theorem dX12_demand_57 : decode cX12_demand 57 = .ok (.aload_n 0, 1) := dc0 dO_42 (by decide +kernel)
theorem dX12_demand_58 : decode cX12_demand 58 = .ok (.getfield 695, 3) := dcU2 dO_180 (by decide +kernel)
theorem dX12_demand_61 : decode cX12_demand 61 = .ok (.iload_n 3, 1) := dc0 dO_29 (by decide +kernel)
theorem dX12_demand_62 : decode cX12_demand 62 = .ok (.iastore, 1) := dc0 dO_79 (by decide +kernel)
theorem dX12_demand_63 : decode cX12_demand 63 = .ok (.aload_n 0, 1) := dc0 dO_42 (by decide +kernel)
theorem dX12_demand_64 : decode cX12_demand 64 = .ok (.dup, 1) := dc0 dO_89 (by decide +kernel)
theorem dX12_demand_65 : decode cX12_demand 65 = .ok (.getfield 695, 3) := dcU2 dO_180 (by decide +kernel)
theorem dX12_demand_68 : decode cX12_demand 68 = .ok (.iconst 1, 1) := dc0 dO_4 (by decide +kernel)
theorem dX12_demand_69 : decode cX12_demand 69 = .ok (.iadd, 1) := dc0 dO_96 (by decide +kernel)
theorem dX12_demand_70 : decode cX12_demand 70 = .ok (.putfield 695, 3) := dcU2 dO_181 (by decide +kernel)
theorem dX12_demand_73 : decode cX12_demand 73 = .ok (.aload_n 0, 1) := dc0 dO_42 (by decide +kernel)
theorem dX12_demand_74 : decode cX12_demand 74 = .ok (.getfield 695, 3) := dcU2 dO_180 (by decide +kernel)
theorem dX12_demand_77 : decode cX12_demand 77 = .ok (.iconst 1, 1) := dc0 dO_4 (by decide +kernel)
theorem dX12_demand_78 : decode cX12_demand 78 = .ok (.isub, 1) := dc0 dO_100 (by decide +kernel)
theorem dX12_demand_79 : decode cX12_demand 79 = .ok (.ireturn, 1) := dc0 dO_172 (by decide +kernel)
theorem dX12_differ_0 : decode cX12_differ 0 = .ok (.aload_n 0, 1) := dc0 dO_42 (by decide +kernel)
theorem dX12_differ_1 : decode cX12_differ 1 = .ok (.iload_n 1, 1) := dc0 dO_27 (by decide +kernel)
theorem dX12_differ_2 : decode cX12_differ 2 = .ok (.invokevirtual 49, 3) := dcU2 dO_182 (by decide +kernel)
theorem dX12_differ_5 : decode cX12_differ 5 = .ok (.ifCond .eq 11, 3) := dcS2 dO_153 (by decide +kernel)
theorem dX12_differ_8 : decode cX12_differ 8 = .ok (.aload_n 0, 1) := dc0 dO_42 (by decide +kernel)
theorem dX12_differ_9 : decode cX12_differ 9 = .ok (.iload_n 2, 1) := dc0 dO_28 (by decide +kernel)
theorem dX12_differ_10 : decode cX12_differ 10 = .ok (.invokevirtual 49, 3) := dcU2 dO_182 (by decide +kernel)
theorem dX12_differ_13 : decode cX12_differ 13 = .ok (.ifCond .ne 7, 3) := dcS2 dO_154 (by decide +kernel)
theorem dX12_differ_16 : decode cX12_differ 16 = .ok (.ldc2_w 710, 3) := dcU2 dO_20 (by decide +kernel)
theorem dX12_differ_19 : decode cX12_differ 19 = .ok (.lreturn, 1) := dc0 dO_173 (by decide +kernel)
theorem dX12_differ_20 : decode cX12_differ 20 = .ok (.iconst 0, 1) := dc0 dO_3 (by decide +kernel)
theorem dX12_differ_21 : decode cX12_differ 21 = .ok (.istore_n 3, 1) := dc0 dO_62 (by decide +kernel)
theorem dX12_differ_22 : decode cX12_differ 22 = .ok (.aload_n 0, 1) := dc0 dO_42 (by decide +kernel)
theorem dX12_differ_23 : decode cX12_differ 23 = .ok (.getfield 511, 3) := dcU2 dO_180 (by decide +kernel)
theorem dX12_differ_26 : decode cX12_differ 26 = .ok (.iload_n 3, 1) := dc0 dO_29 (by decide +kernel)
theorem dX12_differ_27 : decode cX12_differ 27 = .ok (.iinc 3 1, 3) := dcI dO_132 (by decide +kernel)
theorem dX12_differ_30 : decode cX12_differ 30 = .ok (.lconst 0, 1) := dc0 dO_9 (by decide +kernel)
theorem dX12_differ_31 : decode cX12_differ 31 = .ok (.lastore, 1) := dc0 dO_80 (by decide +kernel)
theorem dX12_differ_32 : decode cX12_differ 32 = .ok (.aload_n 0, 1) := dc0 dO_42 (by decide +kernel)
theorem dX12_differ_33 : decode cX12_differ 33 = .ok (.getfield 511, 3) := dcU2 dO_180 (by decide +kernel)
theorem dX12_differ_36 : decode cX12_differ 36 = .ok (.iload_n 3, 1) := dc0 dO_29 (by decide +kernel)
theorem dX12_differ_37 : decode cX12_differ 37 = .ok (.iinc 3 1, 3) := dcI dO_132 (by decide +kernel)
theorem dX12_differ_40 : decode cX12_differ 40 = .ok (.ldc2_w 712, 3) := dcU2 dO_20 (by decide +kernel)
theorem dX12_differ_43 : decode cX12_differ 43 = .ok (.lastore, 1) := dc0 dO_80 (by decide +kernel)
theorem dX12_differ_44 : decode cX12_differ 44 = .ok (.iconst 0, 1) := dc0 dO_3 (by decide +kernel)
theorem dX12_differ_45 : decode cX12_differ 45 = .ok (.istore 4, 2) := dcU1 dO_54 (by decide +kernel)
theorem dX12_differ_47 : decode cX12_differ 47 = .ok (.iload 4, 2) := dcU1 dO_21 (by decide +kernel)
theorem dX12_differ_49 : decode cX12_differ 49 = .ok (.aload_n 0, 1) := dc0 dO_42 (by decide +kernel)
theorem dX12_differ_50 : decode cX12_differ 50 = .ok (.getfield 15, 3) := dcU2 dO_180 (by decide +kernel)
theorem dX12_differ_53 : decode cX12_differ 53 = .ok (.if_icmp .ge 58, 3) := dcS2 dO_162 (by decide +kernel)
theorem dX12_differ_56 : decode cX12_differ 56 = .ok (.aload_n 0, 1) := dc0 dO_42 (by decide +kernel)
theorem dX12_differ_57 : decode cX12_differ 57 = .ok (.getfield 22, 3) := dcU2 dO_180 (by decide +kernel)
theorem dX12_differ_60 : decode cX12_differ 60 = .ok (.iload 4, 2) := dcU1 dO_21 (by decide +kernel)
theorem dX12_differ_62 : decode cX12_differ 62 = .ok (.iaload, 1) := dc0 dO_46 (by decide +kernel)
theorem dX12_differ_63 : decode cX12_differ 63 = .ok (.i2l, 1) := dc0 dO_133 (by decide +kernel)
theorem dX12_differ_64 : decode cX12_differ 64 = .ok (.ldc2_w 714, 3) := dcU2 dO_20 (by decide +kernel)
theorem dX12_differ_67 : decode cX12_differ 67 = .ok (.land, 1) := dc0 dO_127 (by decide +kernel)
theorem dX12_differ_68 : decode cX12_differ 68 = .ok (.lstore 5, 2) := dcU1 dO_55 (by decide +kernel)
theorem dX12_differ_70 : decode cX12_differ 70 = .ok (.aload_n 0, 1) := dc0 dO_42 (by decide +kernel)
theorem dX12_differ_71 : decode cX12_differ 71 = .ok (.getfield 511, 3) := dcU2 dO_180 (by decide +kernel)
theorem dX12_differ_74 : decode cX12_differ 74 = .ok (.iload_n 3, 1) := dc0 dO_29 (by decide +kernel)
theorem dX12_differ_75 : decode cX12_differ 75 = .ok (.iinc 3 1, 3) := dcI dO_132 (by decide +kernel)
theorem dX12_differ_78 : decode cX12_differ 78 = .ok (.lload 5, 2) := dcU1 dO_22 (by decide +kernel)
theorem dX12_differ_80 : decode cX12_differ 80 = .ok (.lastore, 1) := dc0 dO_80 (by decide +kernel)
theorem dX12_differ_81 : decode cX12_differ 81 = .ok (.aload_n 0, 1) := dc0 dO_42 (by decide +kernel)
theorem dX12_differ_82 : decode cX12_differ 82 = .ok (.getfield 511, 3) := dcU2 dO_180 (by decide +kernel)
theorem dX12_differ_85 : decode cX12_differ 85 = .ok (.iload_n 3, 1) := dc0 dO_29 (by decide +kernel)
theorem dX12_differ_86 : decode cX12_differ 86 = .ok (.iinc 3 1, 3) := dcI dO_132 (by decide +kernel)
theorem dX12_differ_89 : decode cX12_differ 89 = .ok (.lload 5, 2) := dcU1 dO_22 (by decide +kernel)
theorem dX12_differ_91 : decode cX12_differ 91 = .ok (.lconst 1, 1) := dc0 dO_10 (by decide +kernel)
theorem dX12_differ_92 : decode cX12_differ 92 = .ok (.bipush 32, 2) := dcS1 dO_16 (by decide +kernel)
theorem dX12_differ_94 : decode cX12_differ 94 = .ok (.aload_n 0, 1) := dc0 dO_42 (by decide +kernel)
theorem dX12_differ_95 : decode cX12_differ 95 = .ok (.getfield 26, 3) := dcU2 dO_180 (by decide +kernel)
theorem dX12_differ_98 : decode cX12_differ 98 = .ok (.iload 4, 2) := dcU1 dO_21 (by decide +kernel)
theorem dX12_differ_100 : decode cX12_differ 100 = .ok (.iaload, 1) := dc0 dO_46 (by decide +kernel)
theorem dX12_differ_101 : decode cX12_differ 101 = .ok (.isub, 1) := dc0 dO_100 (by decide +kernel)
theorem dX12_differ_102 : decode cX12_differ 102 = .ok (.lshl, 1) := dc0 dO_121 (by decide +kernel)
theorem dX12_differ_103 : decode cX12_differ 103 = .ok (.ladd, 1) := dc0 dO_97 (by decide +kernel)
theorem dX12_differ_104 : decode cX12_differ 104 = .ok (.lastore, 1) := dc0 dO_80 (by decide +kernel)
theorem dX12_differ_105 : decode cX12_differ 105 = .ok (.iinc 4 1, 3) := dcI dO_132 (by decide +kernel)
theorem dX12_differ_108 : decode cX12_differ 108 = .ok (.goto (-61), 3) := dcS2 dO_167 (by decide +kernel)
theorem dX12_differ_111 : decode cX12_differ 111 = .ok (.iconst 1, 1) := dc0 dO_4 (by decide +kernel)
theorem dX12_differ_112 : decode cX12_differ 112 = .ok (.istore 4, 2) := dcU1 dO_54 (by decide +kernel)
theorem dX12_differ_114 : decode cX12_differ 114 = .ok (.iload 4, 2) := dcU1 dO_21 (by decide +kernel)
theorem dX12_differ_116 : decode cX12_differ 116 = .ok (.iload_n 3, 1) := dc0 dO_29 (by decide +kernel)
theorem dX12_differ_117 : decode cX12_differ 117 = .ok (.if_icmp .ge 80, 3) := dcS2 dO_162 (by decide +kernel)
theorem dX12_differ_120 : decode cX12_differ 120 = .ok (.iload 4, 2) := dcU1 dO_21 (by decide +kernel)
theorem dX12_differ_122 : decode cX12_differ 122 = .ok (.istore 5, 2) := dcU1 dO_54 (by decide +kernel)
theorem dX12_differ_124 : decode cX12_differ 124 = .ok (.iload 5, 2) := dcU1 dO_21 (by decide +kernel)
theorem dX12_differ_126 : decode cX12_differ 126 = .ok (.ifCond .le 65, 3) := dcS2 dO_158 (by decide +kernel)
theorem sfx_cX12_differ_128 : (cX12_differ.data.toList.drop 128).take 67 = [65, 42, 180, 1, 255, 21, 5, 47, 42, 180, 1, 255, 21, 5, 4, 100, 47, 148, 156, 0, 45, 42, 180, 1, 255, 21, 5, 47, 55, 6, 42, 180, 1, 255, 21, 5, 42, 180, 1, 255, 21, 5, 4, 100, 47, 80, 42, 180, 1, 255, 21, 5, 4, 100, 22, 6, 80, 132, 5, 255, 167, 255, 192, 132, 4, 1, 167] := by decide +kernel
theorem dX12_differ_129 : decode cX12_differ 129 = .ok (.aload_n 0, 1) := dc0 dO_42 (rdB.ch sfx_cX12_differ_128 1 rfl (by decide +kernel))
theorem dX12_differ_130 : decode cX12_differ 130 = .ok (.getfield 511, 3) := dcU2 dO_180 (rdU2.ch sfx_cX12_differ_128 2 rfl (by decide +kernel))
theorem dX12_differ_133 : decode cX12_differ 133 = .ok (.iload 5, 2) := dcU1 dO_21 (rdU1.ch sfx_cX12_differ_128 5 rfl (by decide +kernel))
theorem dX12_differ_135 : decode cX12_differ 135 = .ok (.laload, 1) := dc0 dO_47 (rdB.ch sfx_cX12_differ_128 7 rfl (by decide +kernel))
theorem dX12_differ_136 : decode cX12_differ 136 = .ok (.aload_n 0, 1) := dc0 dO_42 (rdB.ch sfx_cX12_differ_128 8 rfl (by decide +kernel))
theorem dX12_differ_137 : decode cX12_differ 137 = .ok (.getfield 511, 3) := dcU2 dO_180 (rdU2.ch sfx_cX12_differ_128 9 rfl (by decide +kernel))
theorem dX12_differ_140 : decode cX12_differ 140 = .ok (.iload 5, 2) := dcU1 dO_21 (rdU1.ch sfx_cX12_differ_128 12 rfl (by decide +kernel))
theorem dX12_differ_142 : decode cX12_differ 142 = .ok (.iconst 1, 1) := dc0 dO_4 (rdB.ch sfx_cX12_differ_128 14 rfl (by decide +kernel))
theorem dX12_differ_143 : decode cX12_differ 143 = .ok (.isub, 1) := dc0 dO_100 (rdB.ch sfx_cX12_differ_128 15 rfl (by decide +kernel))
theorem dX12_differ_144 : decode cX12_differ 144 = .ok (.laload, 1) := dc0 dO_47 (rdB.ch sfx_cX12_differ_128 16 rfl (by decide +kernel))
theorem dX12_differ_145 : decode cX12_differ 145 = .ok (.lcmp, 1) := dc0 dO_148 (rdB.ch sfx_cX12_differ_128 17 rfl (by decide +kernel))
theorem dX12_differ_146 : decode cX12_differ 146 = .ok (.ifCond .ge 45, 3) := dcS2 dO_156 (rdS2.ch sfx_cX12_differ_128 18 rfl (by decide +kernel))
theorem dX12_differ_149 : decode cX12_differ 149 = .ok (.aload_n 0, 1) := dc0 dO_42 (rdB.ch sfx_cX12_differ_128 21 rfl (by decide +kernel))
theorem dX12_differ_150 : decode cX12_differ 150 = .ok (.getfield 511, 3) := dcU2 dO_180 (rdU2.ch sfx_cX12_differ_128 22 rfl (by decide +kernel))
theorem dX12_differ_153 : decode cX12_differ 153 = .ok (.iload 5, 2) := dcU1 dO_21 (rdU1.ch sfx_cX12_differ_128 25 rfl (by decide +kernel))
theorem dX12_differ_155 : decode cX12_differ 155 = .ok (.laload, 1) := dc0 dO_47 (rdB.ch sfx_cX12_differ_128 27 rfl (by decide +kernel))
theorem dX12_differ_156 : decode cX12_differ 156 = .ok (.lstore 6, 2) := dcU1 dO_55 (rdU1.ch sfx_cX12_differ_128 28 rfl (by decide +kernel))
theorem dX12_differ_158 : decode cX12_differ 158 = .ok (.aload_n 0, 1) := dc0 dO_42 (rdB.ch sfx_cX12_differ_128 30 rfl (by decide +kernel))
theorem dX12_differ_159 : decode cX12_differ 159 = .ok (.getfield 511, 3) := dcU2 dO_180 (rdU2.ch sfx_cX12_differ_128 31 rfl (by decide +kernel))
theorem dX12_differ_162 : decode cX12_differ 162 = .ok (.iload 5, 2) := dcU1 dO_21 (rdU1.ch sfx_cX12_differ_128 34 rfl (by decide +kernel))
theorem dX12_differ_164 : decode cX12_differ 164 = .ok (.aload_n 0, 1) := dc0 dO_42 (rdB.ch sfx_cX12_differ_128 36 rfl (by decide +kernel))
theorem dX12_differ_165 : decode cX12_differ 165 = .ok (.getfield 511, 3) := dcU2 dO_180 (rdU2.ch sfx_cX12_differ_128 37 rfl (by decide +kernel))
theorem dX12_differ_168 : decode cX12_differ 168 = .ok (.iload 5, 2) := dcU1 dO_21 (rdU1.ch sfx_cX12_differ_128 40 rfl (by decide +kernel))
theorem dX12_differ_170 : decode cX12_differ 170 = .ok (.iconst 1, 1) := dc0 dO_4 (rdB.ch sfx_cX12_differ_128 42 rfl (by decide +kernel))
theorem dX12_differ_171 : decode cX12_differ 171 = .ok (.isub, 1) := dc0 dO_100 (rdB.ch sfx_cX12_differ_128 43 rfl (by decide +kernel))
theorem dX12_differ_172 : decode cX12_differ 172 = .ok (.laload, 1) := dc0 dO_47 (rdB.ch sfx_cX12_differ_128 44 rfl (by decide +kernel))
theorem dX12_differ_173 : decode cX12_differ 173 = .ok (.lastore, 1) := dc0 dO_80 (rdB.ch sfx_cX12_differ_128 45 rfl (by decide +kernel))
theorem dX12_differ_174 : decode cX12_differ 174 = .ok (.aload_n 0, 1) := dc0 dO_42 (rdB.ch sfx_cX12_differ_128 46 rfl (by decide +kernel))
theorem dX12_differ_175 : decode cX12_differ 175 = .ok (.getfield 511, 3) := dcU2 dO_180 (rdU2.ch sfx_cX12_differ_128 47 rfl (by decide +kernel))
theorem dX12_differ_178 : decode cX12_differ 178 = .ok (.iload 5, 2) := dcU1 dO_21 (rdU1.ch sfx_cX12_differ_128 50 rfl (by decide +kernel))
theorem dX12_differ_180 : decode cX12_differ 180 = .ok (.iconst 1, 1) := dc0 dO_4 (rdB.ch sfx_cX12_differ_128 52 rfl (by decide +kernel))
theorem dX12_differ_181 : decode cX12_differ 181 = .ok (.isub, 1) := dc0 dO_100 (rdB.ch sfx_cX12_differ_128 53 rfl (by decide +kernel))
theorem dX12_differ_182 : decode cX12_differ 182 = .ok (.lload 6, 2) := dcU1 dO_22 (rdU1.ch sfx_cX12_differ_128 54 rfl (by decide +kernel))
theorem dX12_differ_184 : decode cX12_differ 184 = .ok (.lastore, 1) := dc0 dO_80 (rdB.ch sfx_cX12_differ_128 56 rfl (by decide +kernel))
theorem dX12_differ_185 : decode cX12_differ 185 = .ok (.iinc 5 (-1), 3) := dcI dO_132 (rdI.ch sfx_cX12_differ_128 57 rfl (by decide +kernel))
theorem dX12_differ_188 : decode cX12_differ 188 = .ok (.goto (-64), 3) := dcS2 dO_167 (rdS2.ch sfx_cX12_differ_128 60 rfl (by decide +kernel))
theorem dX12_differ_191 : decode cX12_differ 191 = .ok (.iinc 4 1, 3) := dcI dO_132 (rdI.ch sfx_cX12_differ_128 63 rfl (by decide +kernel))
theorem sfx_cX12_differ_192 : (cX12_differ.data.toList.drop 192).take 67 = [4, 1, 167, 255, 176, 9, 55, 4, 3, 54, 6, 21, 6, 4, 96, 29, 162, 0, 138, 42, 180, 1, 255, 21, 6, 47, 42, 180, 1, 255, 21, 6, 4, 96, 47, 148, 154, 0, 6, 167, 0, 109, 42, 27, 42, 180, 1, 255, 21, 6, 47, 136, 182, 2, 174, 54, 7, 42, 28, 42, 180, 1, 255, 21, 6, 47, 136] := by decide +kernel
theorem dX12_differ_194 : decode cX12_differ 194 = .ok (.goto (-80), 3) := dcS2 dO_167 (rdS2.ch sfx_cX12_differ_192 2 rfl (by decide +kernel))
theorem dX12_differ_197 : decode cX12_differ 197 = .ok (.lconst 0, 1) := dc0 dO_9 (rdB.ch sfx_cX12_differ_192 5 rfl (by decide +kernel))
theorem dX12_differ_198 : decode cX12_differ 198 = .ok (.lstore 4, 2) := dcU1 dO_55 (rdU1.ch sfx_cX12_differ_192 6 rfl (by decide +kernel))
theorem dX12_differ_200 : decode cX12_differ 200 = .ok (.iconst 0, 1) := dc0 dO_3 (rdB.ch sfx_cX12_differ_192 8 rfl (by decide +kernel))
theorem dX12_differ_201 : decode cX12_differ 201 = .ok (.istore 6, 2) := dcU1 dO_54 (rdU1.ch sfx_cX12_differ_192 9 rfl (by decide +kernel))
theorem dX12_differ_203 : decode cX12_differ 203 = .ok (.iload 6, 2) := dcU1 dO_21 (rdU1.ch sfx_cX12_differ_192 11 rfl (by decide +kernel))
theorem dX12_differ_205 : decode cX12_differ 205 = .ok (.iconst 1, 1) := dc0 dO_4 (rdB.ch sfx_cX12_differ_192 13 rfl (by decide +kernel))
theorem dX12_differ_206 : decode cX12_differ 206 = .ok (.iadd, 1) := dc0 dO_96 (rdB.ch sfx_cX12_differ_192 14 rfl (by decide +kernel))
theorem dX12_differ_207 : decode cX12_differ 207 = .ok (.iload_n 3, 1) := dc0 dO_29 (rdB.ch sfx_cX12_differ_192 15 rfl (by decide +kernel))
theorem dX12_differ_208 : decode cX12_differ 208 = .ok (.if_icmp .ge 138, 3) := dcS2 dO_162 (rdS2.ch sfx_cX12_differ_192 16 rfl (by decide +kernel))
theorem dX12_differ_211 : decode cX12_differ 211 = .ok (.aload_n 0, 1) := dc0 dO_42 (rdB.ch sfx_cX12_differ_192 19 rfl (by decide +kernel))
theorem dX12_differ_212 : decode cX12_differ 212 = .ok (.getfield 511, 3) := dcU2 dO_180 (rdU2.ch sfx_cX12_differ_192 20 rfl (by decide +kernel))
theorem dX12_differ_215 : decode cX12_differ 215 = .ok (.iload 6, 2) := dcU1 dO_21 (rdU1.ch sfx_cX12_differ_192 23 rfl (by decide +kernel))
theorem dX12_differ_217 : decode cX12_differ 217 = .ok (.laload, 1) := dc0 dO_47 (rdB.ch sfx_cX12_differ_192 25 rfl (by decide +kernel))
theorem dX12_differ_218 : decode cX12_differ 218 = .ok (.aload_n 0, 1) := dc0 dO_42 (rdB.ch sfx_cX12_differ_192 26 rfl (by decide +kernel))
theorem dX12_differ_219 : decode cX12_differ 219 = .ok (.getfield 511, 3) := dcU2 dO_180 (rdU2.ch sfx_cX12_differ_192 27 rfl (by decide +kernel))
theorem dX12_differ_222 : decode cX12_differ 222 = .ok (.iload 6, 2) := dcU1 dO_21 (rdU1.ch sfx_cX12_differ_192 30 rfl (by decide +kernel))
theorem dX12_differ_224 : decode cX12_differ 224 = .ok (.iconst 1, 1) := dc0 dO_4 (rdB.ch sfx_cX12_differ_192 32 rfl (by decide +kernel))
theorem dX12_differ_225 : decode cX12_differ 225 = .ok (.iadd, 1) := dc0 dO_96 (rdB.ch sfx_cX12_differ_192 33 rfl (by decide +kernel))
theorem dX12_differ_226 : decode cX12_differ 226 = .ok (.laload, 1) := dc0 dO_47 (rdB.ch sfx_cX12_differ_192 34 rfl (by decide +kernel))
theorem dX12_differ_227 : decode cX12_differ 227 = .ok (.lcmp, 1) := dc0 dO_148 (rdB.ch sfx_cX12_differ_192 35 rfl (by decide +kernel))
theorem dX12_differ_228 : decode cX12_differ 228 = .ok (.ifCond .ne 6, 3) := dcS2 dO_154 (rdS2.ch sfx_cX12_differ_192 36 rfl (by decide +kernel))
theorem dX12_differ_231 : decode cX12_differ 231 = .ok (.goto 109, 3) := dcS2 dO_167 (rdS2.ch sfx_cX12_differ_192 39 rfl (by decide +kernel))
theorem dX12_differ_234 : decode cX12_differ 234 = .ok (.aload_n 0, 1) := dc0 dO_42 (rdB.ch sfx_cX12_differ_192 42 rfl (by decide +kernel))
theorem dX12_differ_235 : decode cX12_differ 235 = .ok (.iload_n 1, 1) := dc0 dO_27 (rdB.ch sfx_cX12_differ_192 43 rfl (by decide +kernel))
theorem dX12_differ_236 : decode cX12_differ 236 = .ok (.aload_n 0, 1) := dc0 dO_42 (rdB.ch sfx_cX12_differ_192 44 rfl (by decide +kernel))
theorem dX12_differ_237 : decode cX12_differ 237 = .ok (.getfield 511, 3) := dcU2 dO_180 (rdU2.ch sfx_cX12_differ_192 45 rfl (by decide +kernel))
theorem dX12_differ_240 : decode cX12_differ 240 = .ok (.iload 6, 2) := dcU1 dO_21 (rdU1.ch sfx_cX12_differ_192 48 rfl (by decide +kernel))
theorem dX12_differ_242 : decode cX12_differ 242 = .ok (.laload, 1) := dc0 dO_47 (rdB.ch sfx_cX12_differ_192 50 rfl (by decide +kernel))
theorem dX12_differ_243 : decode cX12_differ 243 = .ok (.l2i, 1) := dc0 dO_136 (rdB.ch sfx_cX12_differ_192 51 rfl (by decide +kernel))
theorem dX12_differ_244 : decode cX12_differ 244 = .ok (.invokevirtual 686, 3) := dcU2 dO_182 (rdU2.ch sfx_cX12_differ_192 52 rfl (by decide +kernel))
theorem dX12_differ_247 : decode cX12_differ 247 = .ok (.istore 7, 2) := dcU1 dO_54 (rdU1.ch sfx_cX12_differ_192 55 rfl (by decide +kernel))
theorem dX12_differ_249 : decode cX12_differ 249 = .ok (.aload_n 0, 1) := dc0 dO_42 (rdB.ch sfx_cX12_differ_192 57 rfl (by decide +kernel))
theorem dX12_differ_250 : decode cX12_differ 250 = .ok (.iload_n 2, 1) := dc0 dO_28 (rdB.ch sfx_cX12_differ_192 58 rfl (by decide +kernel))
theorem dX12_differ_251 : decode cX12_differ 251 = .ok (.aload_n 0, 1) := dc0 dO_42 (rdB.ch sfx_cX12_differ_192 59 rfl (by decide +kernel))
theorem dX12_differ_252 : decode cX12_differ 252 = .ok (.getfield 511, 3) := dcU2 dO_180 (rdU2.ch sfx_cX12_differ_192 60 rfl (by decide +kernel))
theorem dX12_differ_255 : decode cX12_differ 255 = .ok (.iload 6, 2) := dcU1 dO_21 (rdU1.ch sfx_cX12_differ_192 63 rfl (by decide +kernel))
theorem sfx_cX12_differ_256 : (cX12_differ.data.toList.drop 256).take 67 = [6, 47, 136, 182, 2, 174, 54, 8, 21, 7, 155, 0, 8, 21, 8, 156, 0, 18, 21, 7, 21, 8, 160, 0, 7, 4, 167, 0, 29, 3, 167, 0, 25, 42, 21, 7, 27, 182, 2, 41, 42, 21, 8, 28, 182, 2, 41, 160, 0, 7, 4, 167, 0, 4, 3, 54, 9, 21, 9, 154, 0, 25, 22, 4, 42, 180, 1] := by decide +kernel
theorem dX12_differ_257 : decode cX12_differ 257 = .ok (.laload, 1) := dc0 dO_47 (rdB.ch sfx_cX12_differ_256 1 rfl (by decide +kernel))
theorem dX12_differ_258 : decode cX12_differ 258 = .ok (.l2i, 1) := dc0 dO_136 (rdB.ch sfx_cX12_differ_256 2 rfl (by decide +kernel))
theorem dX12_differ_259 : decode cX12_differ 259 = .ok (.invokevirtual 686, 3) := dcU2 dO_182 (rdU2.ch sfx_cX12_differ_256 3 rfl (by decide +kernel))
theorem dX12_differ_262 : decode cX12_differ 262 = .ok (.istore 8, 2) := dcU1 dO_54 (rdU1.ch sfx_cX12_differ_256 6 rfl (by decide +kernel))
theorem dX12_differ_264 : decode cX12_differ 264 = .ok (.iload 7, 2) := dcU1 dO_21 (rdU1.ch sfx_cX12_differ_256 8 rfl (by decide +kernel))
theorem dX12_differ_266 : decode cX12_differ 266 = .ok (.ifCond .lt 8, 3) := dcS2 dO_155 (rdS2.ch sfx_cX12_differ_256 10 rfl (by decide +kernel))
theorem dX12_differ_269 : decode cX12_differ 269 = .ok (.iload 8, 2) := dcU1 dO_21 (rdU1.ch sfx_cX12_differ_256 13 rfl (by decide +kernel))
theorem dX12_differ_271 : decode cX12_differ 271 = .ok (.ifCond .ge 18, 3) := dcS2 dO_156 (rdS2.ch sfx_cX12_differ_256 15 rfl (by decide +kernel))
theorem dX12_differ_274 : decode cX12_differ 274 = .ok (.iload 7, 2) := dcU1 dO_21 (rdU1.ch sfx_cX12_differ_256 18 rfl (by decide +kernel))
theorem dX12_differ_276 : decode cX12_differ 276 = .ok (.iload 8, 2) := dcU1 dO_21 (rdU1.ch sfx_cX12_differ_256 20 rfl (by decide +kernel))
theorem dX12_differ_278 : decode cX12_differ 278 = .ok (.if_icmp .ne 7, 3) := dcS2 dO_160 (rdS2.ch sfx_cX12_differ_256 22 rfl (by decide +kernel))
theorem dX12_differ_281 : decode cX12_differ 281 = .ok (.iconst 1, 1) := dc0 dO_4 (rdB.ch sfx_cX12_differ_256 25 rfl (by decide +kernel))
theorem dX12_differ_282 : decode cX12_differ 282 = .ok (.goto 29, 3) := dcS2 dO_167 (rdS2.ch sfx_cX12_differ_256 26 rfl (by decide +kernel))
theorem dX12_differ_285 : decode cX12_differ 285 = .ok (.iconst 0, 1) := dc0 dO_3 (rdB.ch sfx_cX12_differ_256 29 rfl (by decide +kernel))
theorem dX12_differ_286 : decode cX12_differ 286 = .ok (.goto 25, 3) := dcS2 dO_167 (rdS2.ch sfx_cX12_differ_256 30 rfl (by decide +kernel))
theorem dX12_differ_289 : decode cX12_differ 289 = .ok (.aload_n 0, 1) := dc0 dO_42 (rdB.ch sfx_cX12_differ_256 33 rfl (by decide +kernel))
theorem dX12_differ_290 : decode cX12_differ 290 = .ok (.iload 7, 2) := dcU1 dO_21 (rdU1.ch sfx_cX12_differ_256 34 rfl (by decide +kernel))
theorem dX12_differ_292 : decode cX12_differ 292 = .ok (.iload_n 1, 1) := dc0 dO_27 (rdB.ch sfx_cX12_differ_256 36 rfl (by decide +kernel))
theorem dX12_differ_293 : decode cX12_differ 293 = .ok (.invokevirtual 553, 3) := dcU2 dO_182 (rdU2.ch sfx_cX12_differ_256 37 rfl (by decide +kernel))
theorem dX12_differ_296 : decode cX12_differ 296 = .ok (.aload_n 0, 1) := dc0 dO_42 (rdB.ch sfx_cX12_differ_256 40 rfl (by decide +kernel))
theorem dX12_differ_297 : decode cX12_differ 297 = .ok (.iload 8, 2) := dcU1 dO_21 (rdU1.ch sfx_cX12_differ_256 41 rfl (by decide +kernel))
theorem dX12_differ_299 : decode cX12_differ 299 = .ok (.iload_n 2, 1) := dc0 dO_28 (rdB.ch sfx_cX12_differ_256 43 rfl (by decide +kernel))
theorem dX12_differ_300 : decode cX12_differ 300 = .ok (.invokevirtual 553, 3) := dcU2 dO_182 (rdU2.ch sfx_cX12_differ_256 44 rfl (by decide +kernel))
theorem dX12_differ_303 : decode cX12_differ 303 = .ok (.if_icmp .ne 7, 3) := dcS2 dO_160 (rdS2.ch sfx_cX12_differ_256 47 rfl (by decide +kernel))
theorem dX12_differ_306 : decode cX12_differ 306 = .ok (.iconst 1, 1) := dc0 dO_4 (rdB.ch sfx_cX12_differ_256 50 rfl (by decide +kernel))
theorem dX12_differ_307 : decode cX12_differ 307 = .ok (.goto 4, 3) := dcS2 dO_167 (rdS2.ch sfx_cX12_differ_256 51 rfl (by decide +kernel))
theorem dX12_differ_310 : decode cX12_differ 310 = .ok (.iconst 0, 1) := dc0 dO_3 (rdB.ch sfx_cX12_differ_256 54 rfl (by decide +kernel))
theorem dX12_differ_311 : decode cX12_differ 311 = .ok (.istore 9, 2) := dcU1 dO_54 (rdU1.ch sfx_cX12_differ_256 55 rfl (by decide +kernel))
theorem dX12_differ_313 : decode cX12_differ 313 = .ok (.iload 9, 2) := dcU1 dO_21 (rdU1.ch sfx_cX12_differ_256 57 rfl (by decide +kernel))
theorem dX12_differ_315 : decode cX12_differ 315 = .ok (.ifCond .ne 25, 3) := dcS2 dO_154 (rdS2.ch sfx_cX12_differ_256 59 rfl (by decide +kernel))
theorem dX12_differ_318 : decode cX12_differ 318 = .ok (.lload 4, 2) := dcU1 dO_22 (rdU1.ch sfx_cX12_differ_256 62 rfl (by decide +kernel))
theorem sfx_cX12_differ_320 : (cX12_differ.data.toList.drop 320).take 67 = [42, 180, 1, 255, 21, 6, 4, 96, 47, 42, 180, 1, 255, 21, 6, 47, 101, 97, 55, 4, 132, 6, 1, 167, 255, 116, 22, 4, 173] := by decide +kernel
theorem dX12_differ_320 : decode cX12_differ 320 = .ok (.aload_n 0, 1) := dc0 dO_42 (rdB.ch sfx_cX12_differ_320 0 rfl (by decide +kernel))
theorem dX12_differ_321 : decode cX12_differ 321 = .ok (.getfield 511, 3) := dcU2 dO_180 (rdU2.ch sfx_cX12_differ_320 1 rfl (by decide +kernel))
theorem dX12_differ_324 : decode cX12_differ 324 = .ok (.iload 6, 2) := dcU1 dO_21 (rdU1.ch sfx_cX12_differ_320 4 rfl (by decide +kernel))
theorem dX12_differ_326 : decode cX12_differ 326 = .ok (.iconst 1, 1) := dc0 dO_4 (rdB.ch sfx_cX12_differ_320 6 rfl (by decide +kernel))
theorem dX12_differ_327 : decode cX12_differ 327 = .ok (.iadd, 1) := dc0 dO_96 (rdB.ch sfx_cX12_differ_320 7 rfl (by decide +kernel))
theorem dX12_differ_328 : decode cX12_differ 328 = .ok (.laload, 1) := dc0 dO_47 (rdB.ch sfx_cX12_differ_320 8 rfl (by decide +kernel))
theorem dX12_differ_329 : decode cX12_differ 329 = .ok (.aload_n 0, 1) := dc0 dO_42 (rdB.ch sfx_cX12_differ_320 9 rfl (by decide +kernel))
theorem dX12_differ_330 : decode cX12_differ 330 = .ok (.getfield 511, 3) := dcU2 dO_180 (rdU2.ch sfx_cX12_differ_320 10 rfl (by decide +kernel))
theorem dX12_differ_333 : decode cX12_differ 333 = .ok (.iload 6, 2) := dcU1 dO_21 (rdU1.ch sfx_cX12_differ_320 13 rfl (by decide +kernel))
theorem dX12_differ_335 : decode cX12_differ 335 = .ok (.laload, 1) := dc0 dO_47 (rdB.ch sfx_cX12_differ_320 15 rfl (by decide +kernel))
theorem dX12_differ_336 : decode cX12_differ 336 = .ok (.lsub, 1) := dc0 dO_101 (rdB.ch sfx_cX12_differ_320 16 rfl (by decide +kernel))
theorem dX12_differ_337 : decode cX12_differ 337 = .ok (.ladd, 1) := dc0 dO_97 (rdB.ch sfx_cX12_differ_320 17 rfl (by decide +kernel))
theorem dX12_differ_338 : decode cX12_differ 338 = .ok (.lstore 4, 2) := dcU1 dO_55 (rdU1.ch sfx_cX12_differ_320 18 rfl (by decide +kernel))
theorem dX12_differ_340 : decode cX12_differ 340 = .ok (.iinc 6 1, 3) := dcI dO_132 (rdI.ch sfx_cX12_differ_320 20 rfl (by decide +kernel))
theorem dX12_differ_343 : decode cX12_differ 343 = .ok (.goto (-140), 3) := dcS2 dO_167 (rdS2.ch sfx_cX12_differ_320 23 rfl (by decide +kernel))
theorem dX12_differ_346 : decode cX12_differ 346 = .ok (.lload 4, 2) := dcU1 dO_22 (rdU1.ch sfx_cX12_differ_320 26 rfl (by decide +kernel))
theorem dX12_differ_348 : decode cX12_differ 348 = .ok (.lreturn, 1) := dc0 dO_173 (rdB.ch sfx_cX12_differ_320 28 rfl (by decide +kernel))
theorem dX12_endRow_0 : decode cX12_endRow 0 = .ok (.aload_n 0, 1) := dc0 dO_42 (by decide +kernel)
theorem dX12_endRow_1 : decode cX12_endRow 1 = .ok (.getfield 254, 3) := dcU2 dO_180 (by decide +kernel)
theorem dX12_endRow_4 : decode cX12_endRow 4 = .ok (.iconst 1, 1) := dc0 dO_4 (by decide +kernel)
theorem dX12_endRow_5 : decode cX12_endRow 5 = .ok (.isub, 1) := dc0 dO_100 (by decide +kernel)
theorem dX12_endRow_6 : decode cX12_endRow 6 = .ok (.istore_n 1, 1) := dc0 dO_60 (by decide +kernel)
theorem dX12_endRow_7 : decode cX12_endRow 7 = .ok (.aload_n 0, 1) := dc0 dO_42 (by decide +kernel)
theorem dX12_endRow_8 : decode cX12_endRow 8 = .ok (.getfield 250, 3) := dcU2 dO_180 (by decide +kernel)
theorem dX12_endRow_11 : decode cX12_endRow 11 = .ok (.iload_n 1, 1) := dc0 dO_27 (by decide +kernel)
theorem dX12_endRow_12 : decode cX12_endRow 12 = .ok (.dup2, 1) := dc0 dO_92 (by decide +kernel)
theorem dX12_endRow_13 : decode cX12_endRow 13 = .ok (.laload, 1) := dc0 dO_47 (by decide +kernel)
theorem dX12_endRow_14 : decode cX12_endRow 14 = .ok (.aload_n 0, 1) := dc0 dO_42 (by decide +kernel)
theorem dX12_endRow_15 : decode cX12_endRow 15 = .ok (.getfield 266, 3) := dcU2 dO_180 (by decide +kernel)
theorem dX12_endRow_18 : decode cX12_endRow 18 = .ok (.iload_n 1, 1) := dc0 dO_27 (by decide +kernel)
theorem dX12_endRow_19 : decode cX12_endRow 19 = .ok (.laload, 1) := dc0 dO_47 (by decide +kernel)
theorem dX12_endRow_20 : decode cX12_endRow 20 = .ok (.lor, 1) := dc0 dO_129 (by decide +kernel)
theorem dX12_endRow_21 : decode cX12_endRow 21 = .ok (.lastore, 1) := dc0 dO_80 (by decide +kernel)
theorem dX12_endRow_22 : decode cX12_endRow 22 = .ok (.aload_n 0, 1) := dc0 dO_42 (by decide +kernel)
theorem dX12_endRow_23 : decode cX12_endRow 23 = .ok (.getfield 257, 3) := dcU2 dO_180 (by decide +kernel)
theorem dX12_endRow_26 : decode cX12_endRow 26 = .ok (.iload_n 1, 1) := dc0 dO_27 (by decide +kernel)
theorem dX12_endRow_27 : decode cX12_endRow 27 = .ok (.dup2, 1) := dc0 dO_92 (by decide +kernel)
theorem dX12_endRow_28 : decode cX12_endRow 28 = .ok (.laload, 1) := dc0 dO_47 (by decide +kernel)
theorem dX12_endRow_29 : decode cX12_endRow 29 = .ok (.aload_n 0, 1) := dc0 dO_42 (by decide +kernel)
theorem dX12_endRow_30 : decode cX12_endRow 30 = .ok (.getfield 269, 3) := dcU2 dO_180 (by decide +kernel)
theorem dX12_endRow_33 : decode cX12_endRow 33 = .ok (.iload_n 1, 1) := dc0 dO_27 (by decide +kernel)
theorem dX12_endRow_34 : decode cX12_endRow 34 = .ok (.laload, 1) := dc0 dO_47 (by decide +kernel)
theorem dX12_endRow_35 : decode cX12_endRow 35 = .ok (.lor, 1) := dc0 dO_129 (by decide +kernel)
theorem dX12_endRow_36 : decode cX12_endRow 36 = .ok (.lastore, 1) := dc0 dO_80 (by decide +kernel)
theorem dX12_endRow_37 : decode cX12_endRow 37 = .ok (.aload_n 0, 1) := dc0 dO_42 (by decide +kernel)
theorem dX12_endRow_38 : decode cX12_endRow 38 = .ok (.getfield 260, 3) := dcU2 dO_180 (by decide +kernel)
theorem dX12_endRow_41 : decode cX12_endRow 41 = .ok (.iload_n 1, 1) := dc0 dO_27 (by decide +kernel)
theorem dX12_endRow_42 : decode cX12_endRow 42 = .ok (.aload_n 0, 1) := dc0 dO_42 (by decide +kernel)
theorem dX12_endRow_43 : decode cX12_endRow 43 = .ok (.getfield 260, 3) := dcU2 dO_180 (by decide +kernel)
theorem dX12_endRow_46 : decode cX12_endRow 46 = .ok (.iload_n 1, 1) := dc0 dO_27 (by decide +kernel)
theorem dX12_endRow_47 : decode cX12_endRow 47 = .ok (.baload, 1) := dc0 dO_51 (by decide +kernel)
theorem dX12_endRow_48 : decode cX12_endRow 48 = .ok (.ifCond .ne 12, 3) := dcS2 dO_154 (by decide +kernel)
theorem dX12_endRow_51 : decode cX12_endRow 51 = .ok (.aload_n 0, 1) := dc0 dO_42 (by decide +kernel)
theorem dX12_endRow_52 : decode cX12_endRow 52 = .ok (.getfield 272, 3) := dcU2 dO_180 (by decide +kernel)
theorem dX12_endRow_55 : decode cX12_endRow 55 = .ok (.iload_n 1, 1) := dc0 dO_27 (by decide +kernel)
theorem dX12_endRow_56 : decode cX12_endRow 56 = .ok (.baload, 1) := dc0 dO_51 (by decide +kernel)
theorem dX12_endRow_57 : decode cX12_endRow 57 = .ok (.ifCond .eq 7, 3) := dcS2 dO_153 (by decide +kernel)
theorem dX12_endRow_60 : decode cX12_endRow 60 = .ok (.iconst 1, 1) := dc0 dO_4 (by decide +kernel)
theorem dX12_endRow_61 : decode cX12_endRow 61 = .ok (.goto 4, 3) := dcS2 dO_167 (by decide +kernel)
theorem dX12_endRow_64 : decode cX12_endRow 64 = .ok (.iconst 0, 1) := dc0 dO_3 (by decide +kernel)
theorem dX12_endRow_65 : decode cX12_endRow 65 = .ok (.bastore, 1) := dc0 dO_84 (by decide +kernel)
theorem dX12_endRow_66 : decode cX12_endRow 66 = .ok (.return_, 1) := dc0 dO_177 (by decide +kernel)
theorem dX12_eventAt_0 : decode cX12_eventAt 0 = .ok (.iload_n 1, 1) := dc0 dO_27 (by decide +kernel)
theorem dX12_eventAt_1 : decode cX12_eventAt 1 = .ok (.sipush 400, 3) := dcS2 dO_17 (by decide +kernel)
theorem dX12_eventAt_4 : decode cX12_eventAt 4 = .ok (.if_icmp .ge 12, 3) := dcS2 dO_162 (by decide +kernel)
theorem dX12_eventAt_7 : decode cX12_eventAt 7 = .ok (.aload_n 0, 1) := dc0 dO_42 (by decide +kernel)
theorem dX12_eventAt_8 : decode cX12_eventAt 8 = .ok (.getfield 433, 3) := dcU2 dO_180 (by decide +kernel)
theorem dX12_eventAt_11 : decode cX12_eventAt 11 = .ok (.iload_n 1, 1) := dc0 dO_27 (by decide +kernel)
theorem dX12_eventAt_12 : decode cX12_eventAt 12 = .ok (.iaload, 1) := dc0 dO_46 (by decide +kernel)
theorem dX12_eventAt_13 : decode cX12_eventAt 13 = .ok (.goto 13, 3) := dcS2 dO_167 (by decide +kernel)
theorem dX12_eventAt_16 : decode cX12_eventAt 16 = .ok (.aload_n 0, 1) := dc0 dO_42 (by decide +kernel)
theorem dX12_eventAt_17 : decode cX12_eventAt 17 = .ok (.getfield 439, 3) := dcU2 dO_180 (by decide +kernel)
theorem dX12_eventAt_20 : decode cX12_eventAt 20 = .ok (.iload_n 1, 1) := dc0 dO_27 (by decide +kernel)
theorem dX12_eventAt_21 : decode cX12_eventAt 21 = .ok (.sipush 400, 3) := dcS2 dO_17 (by decide +kernel)
theorem dX12_eventAt_24 : decode cX12_eventAt 24 = .ok (.isub, 1) := dc0 dO_100 (by decide +kernel)
theorem dX12_eventAt_25 : decode cX12_eventAt 25 = .ok (.iaload, 1) := dc0 dO_46 (by decide +kernel)
theorem dX12_eventAt_26 : decode cX12_eventAt 26 = .ok (.ireturn, 1) := dc0 dO_172 (by decide +kernel)
theorem dX12_fails_0 : decode cX12_fails 0 = .ok (.aload_n 0, 1) := dc0 dO_42 (by decide +kernel)
theorem dX12_fails_1 : decode cX12_fails 1 = .ok (.getfield 478, 3) := dcU2 dO_180 (by decide +kernel)
theorem dX12_fails_4 : decode cX12_fails 4 = .ok (.iload_n 1, 1) := dc0 dO_27 (by decide +kernel)
theorem dX12_fails_5 : decode cX12_fails 5 = .ok (.iaload, 1) := dc0 dO_46 (by decide +kernel)
theorem dX12_fails_6 : decode cX12_fails 6 = .ok (.ldc 29, 2) := dcU1 dO_18 (by decide +kernel)
theorem dX12_fails_8 : decode cX12_fails 8 = .ok (.if_icmp .ne 10, 3) := dcS2 dO_160 (by decide +kernel)
theorem dX12_fails_11 : decode cX12_fails 11 = .ok (.aload_n 0, 1) := dc0 dO_42 (by decide +kernel)
theorem dX12_fails_12 : decode cX12_fails 12 = .ok (.getfield 478, 3) := dcU2 dO_180 (by decide +kernel)
theorem dX12_fails_15 : decode cX12_fails 15 = .ok (.iload_n 1, 1) := dc0 dO_27 (by decide +kernel)
theorem dX12_fails_16 : decode cX12_fails 16 = .ok (.iload_n 2, 1) := dc0 dO_28 (by decide +kernel)
theorem dX12_fails_17 : decode cX12_fails 17 = .ok (.iastore, 1) := dc0 dO_79 (by decide +kernel)
theorem dX12_fails_18 : decode cX12_fails 18 = .ok (.return_, 1) := dc0 dO_177 (by decide +kernel)
theorem dX12_fault_0 : decode cX12_fault 0 = .ok (.aload_n 0, 1) := dc0 dO_42 (by decide +kernel)
theorem dX12_fault_1 : decode cX12_fault 1 = .ok (.getfield 376, 3) := dcU2 dO_180 (by decide +kernel)
theorem dX12_fault_4 : decode cX12_fault 4 = .ok (.ireturn, 1) := dc0 dO_172 (by decide +kernel)
theorem dX12_follows_0 : decode cX12_follows 0 = .ok (.iconst 0, 1) := dc0 dO_3 (by decide +kernel)
theorem dX12_follows_1 : decode cX12_follows 1 = .ok (.istore 5, 2) := dcU1 dO_54 (by decide +kernel)
theorem dX12_follows_3 : decode cX12_follows 3 = .ok (.iload 5, 2) := dcU1 dO_21 (by decide +kernel)
theorem dX12_follows_5 : decode cX12_follows 5 = .ok (.bipush 41, 2) := dcS1 dO_16 (by decide +kernel)
theorem dX12_follows_7 : decode cX12_follows 7 = .ok (.if_icmp .ge 39, 3) := dcS2 dO_162 (by decide +kernel)
theorem dX12_follows_10 : decode cX12_follows 10 = .ok (.lload_n 1, 1) := dc0 dO_31 (by decide +kernel)
theorem dX12_follows_11 : decode cX12_follows 11 = .ok (.iload 5, 2) := dcU1 dO_21 (by decide +kernel)
theorem dX12_follows_13 : decode cX12_follows 13 = .ok (.lshr, 1) := dc0 dO_123 (by decide +kernel)
theorem dX12_follows_14 : decode cX12_follows 14 = .ok (.lconst 1, 1) := dc0 dO_10 (by decide +kernel)
theorem dX12_follows_15 : decode cX12_follows 15 = .ok (.land, 1) := dc0 dO_127 (by decide +kernel)
theorem dX12_follows_16 : decode cX12_follows 16 = .ok (.lconst 1, 1) := dc0 dO_10 (by decide +kernel)
theorem dX12_follows_17 : decode cX12_follows 17 = .ok (.lcmp, 1) := dc0 dO_148 (by decide +kernel)
theorem dX12_follows_18 : decode cX12_follows 18 = .ok (.ifCond .ne 22, 3) := dcS2 dO_154 (by decide +kernel)
theorem dX12_follows_21 : decode cX12_follows 21 = .ok (.aload_n 0, 1) := dc0 dO_42 (by decide +kernel)
theorem dX12_follows_22 : decode cX12_follows 22 = .ok (.getfield 275, 3) := dcU2 dO_180 (by decide +kernel)
theorem dX12_follows_25 : decode cX12_follows 25 = .ok (.bipush 41, 2) := dcS1 dO_16 (by decide +kernel)
theorem dX12_follows_27 : decode cX12_follows 27 = .ok (.aload_n 0, 1) := dc0 dO_42 (by decide +kernel)
theorem dX12_follows_28 : decode cX12_follows 28 = .ok (.getfield 278, 3) := dcU2 dO_180 (by decide +kernel)
theorem dX12_follows_31 : decode cX12_follows 31 = .ok (.imul, 1) := dc0 dO_104 (by decide +kernel)
theorem dX12_follows_32 : decode cX12_follows 32 = .ok (.iload 5, 2) := dcU1 dO_21 (by decide +kernel)
theorem dX12_follows_34 : decode cX12_follows 34 = .ok (.iadd, 1) := dc0 dO_96 (by decide +kernel)
theorem dX12_follows_35 : decode cX12_follows 35 = .ok (.dup2, 1) := dc0 dO_92 (by decide +kernel)
theorem dX12_follows_36 : decode cX12_follows 36 = .ok (.laload, 1) := dc0 dO_47 (by decide +kernel)
theorem dX12_follows_37 : decode cX12_follows 37 = .ok (.lload_n 3, 1) := dc0 dO_33 (by decide +kernel)
theorem dX12_follows_38 : decode cX12_follows 38 = .ok (.lor, 1) := dc0 dO_129 (by decide +kernel)
theorem dX12_follows_39 : decode cX12_follows 39 = .ok (.lastore, 1) := dc0 dO_80 (by decide +kernel)
theorem dX12_follows_40 : decode cX12_follows 40 = .ok (.iinc 5 1, 3) := dcI dO_132 (by decide +kernel)
theorem dX12_follows_43 : decode cX12_follows 43 = .ok (.goto (-40), 3) := dcS2 dO_167 (by decide +kernel)
theorem dX12_follows_46 : decode cX12_follows 46 = .ok (.return_, 1) := dc0 dO_177 (by decide +kernel)
theorem dX12_freshRow_0 : decode cX12_freshRow 0 = .ok (.aload_n 0, 1) := dc0 dO_42 (by decide +kernel)
theorem dX12_freshRow_1 : decode cX12_freshRow 1 = .ok (.getfield 266, 3) := dcU2 dO_180 (by decide +kernel)
theorem dX12_freshRow_4 : decode cX12_freshRow 4 = .ok (.aload_n 0, 1) := dc0 dO_42 (by decide +kernel)
theorem dX12_freshRow_5 : decode cX12_freshRow 5 = .ok (.getfield 254, 3) := dcU2 dO_180 (by decide +kernel)
theorem dX12_freshRow_8 : decode cX12_freshRow 8 = .ok (.lconst 0, 1) := dc0 dO_9 (by decide +kernel)
theorem dX12_freshRow_9 : decode cX12_freshRow 9 = .ok (.lastore, 1) := dc0 dO_80 (by decide +kernel)
theorem dX12_freshRow_10 : decode cX12_freshRow 10 = .ok (.aload_n 0, 1) := dc0 dO_42 (by decide +kernel)
theorem dX12_freshRow_11 : decode cX12_freshRow 11 = .ok (.getfield 269, 3) := dcU2 dO_180 (by decide +kernel)
theorem dX12_freshRow_14 : decode cX12_freshRow 14 = .ok (.aload_n 0, 1) := dc0 dO_42 (by decide +kernel)
theorem dX12_freshRow_15 : decode cX12_freshRow 15 = .ok (.getfield 254, 3) := dcU2 dO_180 (by decide +kernel)
theorem dX12_freshRow_18 : decode cX12_freshRow 18 = .ok (.lconst 0, 1) := dc0 dO_9 (by decide +kernel)
theorem dX12_freshRow_19 : decode cX12_freshRow 19 = .ok (.lastore, 1) := dc0 dO_80 (by decide +kernel)
theorem dX12_freshRow_20 : decode cX12_freshRow 20 = .ok (.aload_n 0, 1) := dc0 dO_42 (by decide +kernel)
theorem dX12_freshRow_21 : decode cX12_freshRow 21 = .ok (.getfield 272, 3) := dcU2 dO_180 (by decide +kernel)
theorem dX12_freshRow_24 : decode cX12_freshRow 24 = .ok (.aload_n 0, 1) := dc0 dO_42 (by decide +kernel)
theorem dX12_freshRow_25 : decode cX12_freshRow 25 = .ok (.getfield 254, 3) := dcU2 dO_180 (by decide +kernel)
theorem dX12_freshRow_28 : decode cX12_freshRow 28 = .ok (.iconst 1, 1) := dc0 dO_4 (by decide +kernel)
theorem dX12_freshRow_29 : decode cX12_freshRow 29 = .ok (.bastore, 1) := dc0 dO_84 (by decide +kernel)
theorem dX12_freshRow_30 : decode cX12_freshRow 30 = .ok (.return_, 1) := dc0 dO_177 (by decide +kernel)
theorem dX12_hand_0 : decode cX12_hand 0 = .ok (.aload_n 0, 1) := dc0 dO_42 (by decide +kernel)
theorem dX12_hand_1 : decode cX12_hand 1 = .ok (.getfield 411, 3) := dcU2 dO_180 (by decide +kernel)
theorem dX12_hand_4 : decode cX12_hand 4 = .ok (.ifCond .eq 7, 3) := dcS2 dO_153 (by decide +kernel)
theorem dX12_hand_7 : decode cX12_hand 7 = .ok (.iload_n 1, 1) := dc0 dO_27 (by decide +kernel)
theorem dX12_hand_8 : decode cX12_hand 8 = .ok (.ifCond .ge 6, 3) := dcS2 dO_156 (by decide +kernel)
theorem dX12_hand_11 : decode cX12_hand 11 = .ok (.ldc 29, 2) := dcU1 dO_18 (by decide +kernel)
theorem dX12_hand_13 : decode cX12_hand 13 = .ok (.ireturn, 1) := dc0 dO_172 (by decide +kernel)
theorem dX12_hand_14 : decode cX12_hand 14 = .ok (.iload_n 1, 1) := dc0 dO_27 (by decide +kernel)
theorem dX12_hand_15 : decode cX12_hand 15 = .ok (.iconst 5, 1) := dc0 dO_8 (by decide +kernel)
theorem dX12_hand_16 : decode cX12_hand 16 = .ok (.if_icmp .gt 10, 3) := dcS2 dO_163 (by decide +kernel)
theorem dX12_hand_19 : decode cX12_hand 19 = .ok (.aload_n 0, 1) := dc0 dO_42 (by decide +kernel)
theorem dX12_hand_20 : decode cX12_hand 20 = .ok (.getfield 148, 3) := dcU2 dO_180 (by decide +kernel)
theorem dX12_hand_23 : decode cX12_hand 23 = .ok (.iload_n 1, 1) := dc0 dO_27 (by decide +kernel)
theorem dX12_hand_24 : decode cX12_hand 24 = .ok (.iaload, 1) := dc0 dO_46 (by decide +kernel)
theorem dX12_hand_25 : decode cX12_hand 25 = .ok (.ireturn, 1) := dc0 dO_172 (by decide +kernel)
theorem dX12_hand_26 : decode cX12_hand 26 = .ok (.iload_n 1, 1) := dc0 dO_27 (by decide +kernel)
theorem dX12_hand_27 : decode cX12_hand 27 = .ok (.bipush 10, 2) := dcS1 dO_16 (by decide +kernel)
theorem dX12_hand_29 : decode cX12_hand 29 = .ok (.if_icmp .lt 29, 3) := dcS2 dO_161 (by decide +kernel)
theorem dX12_hand_32 : decode cX12_hand 32 = .ok (.iload_n 1, 1) := dc0 dO_27 (by decide +kernel)
theorem dX12_hand_33 : decode cX12_hand 33 = .ok (.bipush 10, 2) := dcS1 dO_16 (by decide +kernel)
theorem dX12_hand_35 : decode cX12_hand 35 = .ok (.isub, 1) := dc0 dO_100 (by decide +kernel)
theorem dX12_hand_36 : decode cX12_hand 36 = .ok (.aload_n 0, 1) := dc0 dO_42 (by decide +kernel)
theorem dX12_hand_37 : decode cX12_hand 37 = .ok (.getfield 148, 3) := dcU2 dO_180 (by decide +kernel)
theorem dX12_hand_40 : decode cX12_hand 40 = .ok (.iconst 4, 1) := dc0 dO_7 (by decide +kernel)
theorem dX12_hand_41 : decode cX12_hand 41 = .ok (.iaload, 1) := dc0 dO_46 (by decide +kernel)
theorem dX12_hand_42 : decode cX12_hand 42 = .ok (.if_icmp .ge 16, 3) := dcS2 dO_162 (by decide +kernel)
theorem dX12_hand_45 : decode cX12_hand 45 = .ok (.aload_n 0, 1) := dc0 dO_42 (by decide +kernel)
theorem dX12_hand_46 : decode cX12_hand 46 = .ok (.getfield 148, 3) := dcU2 dO_180 (by decide +kernel)
theorem dX12_hand_49 : decode cX12_hand 49 = .ok (.bipush 6, 2) := dcS1 dO_16 (by decide +kernel)
theorem dX12_hand_51 : decode cX12_hand 51 = .ok (.iload_n 1, 1) := dc0 dO_27 (by decide +kernel)
theorem dX12_hand_52 : decode cX12_hand 52 = .ok (.iadd, 1) := dc0 dO_96 (by decide +kernel)
theorem dX12_hand_53 : decode cX12_hand 53 = .ok (.bipush 10, 2) := dcS1 dO_16 (by decide +kernel)
theorem dX12_hand_55 : decode cX12_hand 55 = .ok (.isub, 1) := dc0 dO_100 (by decide +kernel)
theorem dX12_hand_56 : decode cX12_hand 56 = .ok (.iaload, 1) := dc0 dO_46 (by decide +kernel)
theorem dX12_hand_57 : decode cX12_hand 57 = .ok (.ireturn, 1) := dc0 dO_172 (by decide +kernel)
theorem dX12_hand_58 : decode cX12_hand 58 = .ok (.iload_n 1, 1) := dc0 dO_27 (by decide +kernel)
theorem dX12_hand_59 : decode cX12_hand 59 = .ok (.bipush 100, 2) := dcS1 dO_16 (by decide +kernel)
theorem dX12_hand_61 : decode cX12_hand 61 = .ok (.if_icmp .lt 31, 3) := dcS2 dO_161 (by decide +kernel)
theorem dX12_hand_64 : decode cX12_hand 64 = .ok (.iload_n 1, 1) := dc0 dO_27 (by decide +kernel)
theorem dX12_hand_65 : decode cX12_hand 65 = .ok (.bipush 100, 2) := dcS1 dO_16 (by decide +kernel)
theorem dX12_hand_67 : decode cX12_hand 67 = .ok (.isub, 1) := dc0 dO_100 (by decide +kernel)
theorem dX12_hand_68 : decode cX12_hand 68 = .ok (.aload_n 0, 1) := dc0 dO_42 (by decide +kernel)
theorem dX12_hand_69 : decode cX12_hand 69 = .ok (.getfield 148, 3) := dcU2 dO_180 (by decide +kernel)
theorem dX12_hand_72 : decode cX12_hand 72 = .ok (.iconst 5, 1) := dc0 dO_8 (by decide +kernel)
theorem dX12_hand_73 : decode cX12_hand 73 = .ok (.iaload, 1) := dc0 dO_46 (by decide +kernel)
theorem dX12_hand_74 : decode cX12_hand 74 = .ok (.if_icmp .ge 18, 3) := dcS2 dO_162 (by decide +kernel)
theorem dX12_hand_77 : decode cX12_hand 77 = .ok (.aload_n 0, 1) := dc0 dO_42 (by decide +kernel)
theorem dX12_hand_78 : decode cX12_hand 78 = .ok (.getfield 148, 3) := dcU2 dO_180 (by decide +kernel)
theorem dX12_hand_81 : decode cX12_hand 81 = .ok (.bipush 26, 2) := dcS1 dO_16 (by decide +kernel)
theorem dX12_hand_83 : decode cX12_hand 83 = .ok (.iload_n 1, 1) := dc0 dO_27 (by decide +kernel)
theorem dX12_hand_84 : decode cX12_hand 84 = .ok (.iadd, 1) := dc0 dO_96 (by decide +kernel)
theorem dX12_hand_85 : decode cX12_hand 85 = .ok (.bipush 100, 2) := dcS1 dO_16 (by decide +kernel)
theorem dX12_hand_87 : decode cX12_hand 87 = .ok (.isub, 1) := dc0 dO_100 (by decide +kernel)
theorem dX12_hand_88 : decode cX12_hand 88 = .ok (.iaload, 1) := dc0 dO_46 (by decide +kernel)
theorem dX12_hand_89 : decode cX12_hand 89 = .ok (.goto 5, 3) := dcS2 dO_167 (by decide +kernel)
theorem dX12_hand_92 : decode cX12_hand 92 = .ok (.ldc 29, 2) := dcU1 dO_18 (by decide +kernel)
theorem dX12_hand_94 : decode cX12_hand 94 = .ok (.ireturn, 1) := dc0 dO_172 (by decide +kernel)
theorem dX12_heard_0 : decode cX12_heard 0 = .ok (.aload_n 0, 1) := dc0 dO_42 (by decide +kernel)
theorem dX12_heard_1 : decode cX12_heard 1 = .ok (.iload_n 1, 1) := dc0 dO_27 (by decide +kernel)
theorem dX12_heard_2 : decode cX12_heard 2 = .ok (.invokevirtual 66, 3) := dcU2 dO_182 (by decide +kernel)
theorem dX12_heard_5 : decode cX12_heard 5 = .ok (.ifCond .eq 30, 3) := dcS2 dO_153 (by decide +kernel)
theorem dX12_heard_8 : decode cX12_heard 8 = .ok (.iload_n 2, 1) := dc0 dO_28 (by decide +kernel)
theorem dX12_heard_9 : decode cX12_heard 9 = .ok (.iconst 0, 1) := dc0 dO_3 (by decide +kernel)
theorem dX12_heard_10 : decode cX12_heard 10 = .ok (.iconst 1, 1) := dc0 dO_4 (by decide +kernel)
theorem dX12_heard_11 : decode cX12_heard 11 = .ok (.invokestatic 18, 3) := dcU2 dO_184 (by decide +kernel)
theorem dX12_heard_14 : decode cX12_heard 14 = .ok (.ifCond .eq 21, 3) := dcS2 dO_153 (by decide +kernel)
theorem dX12_heard_17 : decode cX12_heard 17 = .ok (.aload_n 0, 1) := dc0 dO_42 (by decide +kernel)
theorem dX12_heard_18 : decode cX12_heard 18 = .ok (.iload_n 3, 1) := dc0 dO_29 (by decide +kernel)
theorem dX12_heard_19 : decode cX12_heard 19 = .ok (.invokevirtual 92, 3) := dcU2 dO_182 (by decide +kernel)
theorem dX12_heard_22 : decode cX12_heard 22 = .ok (.ifCond .eq 13, 3) := dcS2 dO_153 (by decide +kernel)
theorem dX12_heard_25 : decode cX12_heard 25 = .ok (.iload 4, 2) := dcU1 dO_21 (by decide +kernel)
theorem dX12_heard_27 : decode cX12_heard 27 = .ok (.iconst 0, 1) := dc0 dO_3 (by decide +kernel)
theorem dX12_heard_28 : decode cX12_heard 28 = .ok (.iconst 1, 1) := dc0 dO_4 (by decide +kernel)
theorem dX12_heard_29 : decode cX12_heard 29 = .ok (.invokestatic 18, 3) := dcU2 dO_184 (by decide +kernel)
theorem dX12_heard_32 : decode cX12_heard 32 = .ok (.ifCond .ne 5, 3) := dcS2 dO_154 (by decide +kernel)
theorem dX12_heard_35 : decode cX12_heard 35 = .ok (.iconst (-1), 1) := dc0 dO_2 (by decide +kernel)
theorem dX12_heard_36 : decode cX12_heard 36 = .ok (.ireturn, 1) := dc0 dO_172 (by decide +kernel)
theorem dX12_heard_37 : decode cX12_heard 37 = .ok (.iload_n 1, 1) := dc0 dO_27 (by decide +kernel)
theorem dX12_heard_38 : decode cX12_heard 38 = .ok (.iload_n 2, 1) := dc0 dO_28 (by decide +kernel)
theorem dX12_heard_39 : decode cX12_heard 39 = .ok (.iload_n 3, 1) := dc0 dO_29 (by decide +kernel)
theorem dX12_heard_40 : decode cX12_heard 40 = .ok (.invokestatic 545, 3) := dcU2 dO_184 (by decide +kernel)
theorem dX12_heard_43 : decode cX12_heard 43 = .ok (.istore 5, 2) := dcU1 dO_54 (by decide +kernel)
theorem dX12_heard_45 : decode cX12_heard 45 = .ok (.iload 4, 2) := dcU1 dO_21 (by decide +kernel)
theorem dX12_heard_47 : decode cX12_heard 47 = .ok (.ifCond .ne 9, 3) := dcS2 dO_154 (by decide +kernel)
theorem dX12_heard_50 : decode cX12_heard 50 = .ok (.sipush 130, 3) := dcS2 dO_17 (by decide +kernel)
theorem dX12_heard_53 : decode cX12_heard 53 = .ok (.goto 6, 3) := dcS2 dO_167 (by decide +kernel)
theorem dX12_heard_56 : decode cX12_heard 56 = .ok (.sipush 530, 3) := dcS2 dO_17 (by decide +kernel)
theorem dX12_heard_59 : decode cX12_heard 59 = .ok (.iload 5, 2) := dcU1 dO_21 (by decide +kernel)
theorem dX12_heard_61 : decode cX12_heard 61 = .ok (.iadd, 1) := dc0 dO_96 (by decide +kernel)
theorem dX12_heard_62 : decode cX12_heard 62 = .ok (.istore 6, 2) := dcU1 dO_54 (by decide +kernel)
theorem dX12_heard_64 : decode cX12_heard 64 = .ok (.aload_n 0, 1) := dc0 dO_42 (by decide +kernel)
theorem dX12_heard_65 : decode cX12_heard 65 = .ok (.iload 6, 2) := dcU1 dO_21 (by decide +kernel)
theorem dX12_heard_67 : decode cX12_heard 67 = .ok (.invokevirtual 151, 3) := dcU2 dO_182 (by decide +kernel)
theorem dX12_heard_70 : decode cX12_heard 70 = .ok (.ifCond .ne 6, 3) := dcS2 dO_154 (by decide +kernel)
theorem dX12_heard_73 : decode cX12_heard 73 = .ok (.ldc 29, 2) := dcU1 dO_18 (by decide +kernel)
theorem dX12_heard_75 : decode cX12_heard 75 = .ok (.ireturn, 1) := dc0 dO_172 (by decide +kernel)
theorem dX12_heard_76 : decode cX12_heard 76 = .ok (.aload_n 0, 1) := dc0 dO_42 (by decide +kernel)
theorem dX12_heard_77 : decode cX12_heard 77 = .ok (.iload 6, 2) := dcU1 dO_21 (by decide +kernel)
theorem dX12_heard_79 : decode cX12_heard 79 = .ok (.iconst 0, 1) := dc0 dO_3 (by decide +kernel)
theorem dX12_heard_80 : decode cX12_heard 80 = .ok (.invokevirtual 559, 3) := dcU2 dO_182 (by decide +kernel)
theorem dX12_heard_83 : decode cX12_heard 83 = .ok (.aload_n 0, 1) := dc0 dO_42 (by decide +kernel)
theorem dX12_heard_84 : decode cX12_heard 84 = .ok (.iconst 1, 1) := dc0 dO_4 (by decide +kernel)
theorem dX12_heard_85 : decode cX12_heard 85 = .ok (.putfield 411, 3) := dcU2 dO_181 (by decide +kernel)
theorem dX12_heard_88 : decode cX12_heard 88 = .ok (.iload 4, 2) := dcU1 dO_21 (by decide +kernel)
theorem dX12_heard_90 : decode cX12_heard 90 = .ok (.ifCond .ne 13, 3) := dcS2 dO_154 (by decide +kernel)
theorem dX12_heard_93 : decode cX12_heard 93 = .ok (.aload_n 0, 1) := dc0 dO_42 (by decide +kernel)
theorem dX12_heard_94 : decode cX12_heard 94 = .ok (.getfield 424, 3) := dcU2 dO_180 (by decide +kernel)
theorem dX12_heard_97 : decode cX12_heard 97 = .ok (.iload 5, 2) := dcU1 dO_21 (by decide +kernel)
theorem dX12_heard_99 : decode cX12_heard 99 = .ok (.iaload, 1) := dc0 dO_46 (by decide +kernel)
theorem dX12_heard_100 : decode cX12_heard 100 = .ok (.goto 10, 3) := dcS2 dO_167 (by decide +kernel)
theorem dX12_heard_103 : decode cX12_heard 103 = .ok (.aload_n 0, 1) := dc0 dO_42 (by decide +kernel)
theorem dX12_heard_104 : decode cX12_heard 104 = .ok (.getfield 430, 3) := dcU2 dO_180 (by decide +kernel)
theorem dX12_heard_107 : decode cX12_heard 107 = .ok (.iload 5, 2) := dcU1 dO_21 (by decide +kernel)
theorem dX12_heard_109 : decode cX12_heard 109 = .ok (.iaload, 1) := dc0 dO_46 (by decide +kernel)
theorem dX12_heard_110 : decode cX12_heard 110 = .ok (.ireturn, 1) := dc0 dO_172 (by decide +kernel)
theorem dX12_isAt_0 : decode cX12_isAt 0 = .ok (.aload_n 0, 1) := dc0 dO_42 (by decide +kernel)
theorem dX12_isAt_1 : decode cX12_isAt 1 = .ok (.getfield 40, 3) := dcU2 dO_180 (by decide +kernel)
theorem dX12_isAt_4 : decode cX12_isAt 4 = .ok (.iconst 2, 1) := dc0 dO_5 (by decide +kernel)
theorem dX12_isAt_5 : decode cX12_isAt 5 = .ok (.iload_n 1, 1) := dc0 dO_27 (by decide +kernel)
theorem dX12_isAt_6 : decode cX12_isAt 6 = .ok (.imul, 1) := dc0 dO_104 (by decide +kernel)
theorem dX12_isAt_7 : decode cX12_isAt 7 = .ok (.iaload, 1) := dc0 dO_46 (by decide +kernel)
theorem dX12_isAt_8 : decode cX12_isAt 8 = .ok (.iload_n 2, 1) := dc0 dO_28 (by decide +kernel)
theorem dX12_isAt_9 : decode cX12_isAt 9 = .ok (.if_icmp .eq 17, 3) := dcS2 dO_159 (by decide +kernel)
theorem dX12_isAt_12 : decode cX12_isAt 12 = .ok (.aload_n 0, 1) := dc0 dO_42 (by decide +kernel)
theorem dX12_isAt_13 : decode cX12_isAt 13 = .ok (.getfield 40, 3) := dcU2 dO_180 (by decide +kernel)
theorem dX12_isAt_16 : decode cX12_isAt 16 = .ok (.iconst 2, 1) := dc0 dO_5 (by decide +kernel)
theorem dX12_isAt_17 : decode cX12_isAt 17 = .ok (.iload_n 1, 1) := dc0 dO_27 (by decide +kernel)
theorem dX12_isAt_18 : decode cX12_isAt 18 = .ok (.imul, 1) := dc0 dO_104 (by decide +kernel)
theorem dX12_isAt_19 : decode cX12_isAt 19 = .ok (.iconst 1, 1) := dc0 dO_4 (by decide +kernel)
theorem dX12_isAt_20 : decode cX12_isAt 20 = .ok (.iadd, 1) := dc0 dO_96 (by decide +kernel)
theorem dX12_isAt_21 : decode cX12_isAt 21 = .ok (.iaload, 1) := dc0 dO_46 (by decide +kernel)
theorem dX12_isAt_22 : decode cX12_isAt 22 = .ok (.iload_n 2, 1) := dc0 dO_28 (by decide +kernel)
theorem dX12_isAt_23 : decode cX12_isAt 23 = .ok (.if_icmp .ne 7, 3) := dcS2 dO_160 (by decide +kernel)
theorem dX12_isAt_26 : decode cX12_isAt 26 = .ok (.iconst 1, 1) := dc0 dO_4 (by decide +kernel)
theorem dX12_isAt_27 : decode cX12_isAt 27 = .ok (.goto 4, 3) := dcS2 dO_167 (by decide +kernel)
theorem dX12_isAt_30 : decode cX12_isAt 30 = .ok (.iconst 0, 1) := dc0 dO_3 (by decide +kernel)
theorem dX12_isAt_31 : decode cX12_isAt 31 = .ok (.ireturn, 1) := dc0 dO_172 (by decide +kernel)
theorem dX12_isOffered_0 : decode cX12_isOffered 0 = .ok (.aload_n 0, 1) := dc0 dO_42 (by decide +kernel)
theorem dX12_isOffered_1 : decode cX12_isOffered 1 = .ok (.getfield 520, 3) := dcU2 dO_180 (by decide +kernel)
theorem dX12_isOffered_4 : decode cX12_isOffered 4 = .ok (.bipush 8, 2) := dcS1 dO_16 (by decide +kernel)
theorem dX12_isOffered_6 : decode cX12_isOffered 6 = .ok (.iload_n 1, 1) := dc0 dO_27 (by decide +kernel)
theorem dX12_isOffered_7 : decode cX12_isOffered 7 = .ok (.imul, 1) := dc0 dO_104 (by decide +kernel)
theorem dX12_isOffered_8 : decode cX12_isOffered 8 = .ok (.iconst 1, 1) := dc0 dO_4 (by decide +kernel)
theorem dX12_isOffered_9 : decode cX12_isOffered 9 = .ok (.iadd, 1) := dc0 dO_96 (by decide +kernel)
theorem dX12_isOffered_10 : decode cX12_isOffered 10 = .ok (.iaload, 1) := dc0 dO_46 (by decide +kernel)
theorem dX12_isOffered_11 : decode cX12_isOffered 11 = .ok (.istore_n 2, 1) := dc0 dO_61 (by decide +kernel)
theorem dX12_isOffered_12 : decode cX12_isOffered 12 = .ok (.iload_n 2, 1) := dc0 dO_28 (by decide +kernel)
theorem dX12_isOffered_13 : decode cX12_isOffered 13 = .ok (.ifCond .ne 19, 3) := dcS2 dO_154 (by decide +kernel)
theorem dX12_isOffered_16 : decode cX12_isOffered 16 = .ok (.aload_n 0, 1) := dc0 dO_42 (by decide +kernel)
theorem dX12_isOffered_17 : decode cX12_isOffered 17 = .ok (.getfield 517, 3) := dcU2 dO_180 (by decide +kernel)
theorem dX12_isOffered_20 : decode cX12_isOffered 20 = .ok (.iload_n 1, 1) := dc0 dO_27 (by decide +kernel)
theorem dX12_isOffered_21 : decode cX12_isOffered 21 = .ok (.iaload, 1) := dc0 dO_46 (by decide +kernel)
theorem dX12_isOffered_22 : decode cX12_isOffered 22 = .ok (.iconst 2, 1) := dc0 dO_5 (by decide +kernel)
theorem dX12_isOffered_23 : decode cX12_isOffered 23 = .ok (.if_icmp .ne 7, 3) := dcS2 dO_160 (by decide +kernel)
theorem dX12_isOffered_26 : decode cX12_isOffered 26 = .ok (.iconst 1, 1) := dc0 dO_4 (by decide +kernel)
theorem dX12_isOffered_27 : decode cX12_isOffered 27 = .ok (.goto 4, 3) := dcS2 dO_167 (by decide +kernel)
theorem dX12_isOffered_30 : decode cX12_isOffered 30 = .ok (.iconst 0, 1) := dc0 dO_3 (by decide +kernel)
theorem dX12_isOffered_31 : decode cX12_isOffered 31 = .ok (.ireturn, 1) := dc0 dO_172 (by decide +kernel)
theorem dX12_isOffered_32 : decode cX12_isOffered 32 = .ok (.aload_n 0, 1) := dc0 dO_42 (by decide +kernel)
theorem dX12_isOffered_33 : decode cX12_isOffered 33 = .ok (.getfield 526, 3) := dcU2 dO_180 (by decide +kernel)
theorem dX12_isOffered_36 : decode cX12_isOffered 36 = .ok (.iload_n 2, 1) := dc0 dO_28 (by decide +kernel)
theorem dX12_isOffered_37 : decode cX12_isOffered 37 = .ok (.iaload, 1) := dc0 dO_46 (by decide +kernel)
theorem dX12_isOffered_38 : decode cX12_isOffered 38 = .ok (.aload_n 0, 1) := dc0 dO_42 (by decide +kernel)
theorem dX12_isOffered_39 : decode cX12_isOffered 39 = .ok (.getfield 514, 3) := dcU2 dO_180 (by decide +kernel)
theorem dX12_isOffered_42 : decode cX12_isOffered 42 = .ok (.iload_n 2, 1) := dc0 dO_28 (by decide +kernel)
theorem dX12_isOffered_43 : decode cX12_isOffered 43 = .ok (.iaload, 1) := dc0 dO_46 (by decide +kernel)
theorem dX12_isOffered_44 : decode cX12_isOffered 44 = .ok (.if_icmp .ne 5, 3) := dcS2 dO_160 (by decide +kernel)
theorem dX12_isOffered_47 : decode cX12_isOffered 47 = .ok (.iconst 0, 1) := dc0 dO_3 (by decide +kernel)
theorem dX12_isOffered_48 : decode cX12_isOffered 48 = .ok (.ireturn, 1) := dc0 dO_172 (by decide +kernel)
theorem dX12_isOffered_49 : decode cX12_isOffered 49 = .ok (.iconst 5, 1) := dc0 dO_8 (by decide +kernel)
theorem dX12_isOffered_50 : decode cX12_isOffered 50 = .ok (.iload_n 2, 1) := dc0 dO_28 (by decide +kernel)
theorem dX12_isOffered_51 : decode cX12_isOffered 51 = .ok (.imul, 1) := dc0 dO_104 (by decide +kernel)
theorem dX12_isOffered_52 : decode cX12_isOffered 52 = .ok (.aload_n 0, 1) := dc0 dO_42 (by decide +kernel)
theorem dX12_isOffered_53 : decode cX12_isOffered 53 = .ok (.getfield 526, 3) := dcU2 dO_180 (by decide +kernel)
theorem dX12_isOffered_56 : decode cX12_isOffered 56 = .ok (.iload_n 2, 1) := dc0 dO_28 (by decide +kernel)
theorem dX12_isOffered_57 : decode cX12_isOffered 57 = .ok (.iaload, 1) := dc0 dO_46 (by decide +kernel)
theorem dX12_isOffered_58 : decode cX12_isOffered 58 = .ok (.iadd, 1) := dc0 dO_96 (by decide +kernel)
theorem dX12_isOffered_59 : decode cX12_isOffered 59 = .ok (.istore_n 3, 1) := dc0 dO_62 (by decide +kernel)
theorem dX12_isOffered_60 : decode cX12_isOffered 60 = .ok (.aload_n 0, 1) := dc0 dO_42 (by decide +kernel)
theorem dX12_isOffered_61 : decode cX12_isOffered 61 = .ok (.getfield 517, 3) := dcU2 dO_180 (by decide +kernel)
theorem dX12_isOffered_64 : decode cX12_isOffered 64 = .ok (.iload_n 3, 1) := dc0 dO_29 (by decide +kernel)
theorem dX12_isOffered_65 : decode cX12_isOffered 65 = .ok (.iaload, 1) := dc0 dO_46 (by decide +kernel)
theorem dX12_isOffered_66 : decode cX12_isOffered 66 = .ok (.aload_n 0, 1) := dc0 dO_42 (by decide +kernel)
theorem dX12_isOffered_67 : decode cX12_isOffered 67 = .ok (.getfield 517, 3) := dcU2 dO_180 (by decide +kernel)
theorem dX12_isOffered_70 : decode cX12_isOffered 70 = .ok (.iload_n 1, 1) := dc0 dO_27 (by decide +kernel)
theorem dX12_isOffered_71 : decode cX12_isOffered 71 = .ok (.iaload, 1) := dc0 dO_46 (by decide +kernel)
theorem dX12_isOffered_72 : decode cX12_isOffered 72 = .ok (.iconst 1, 1) := dc0 dO_4 (by decide +kernel)
theorem dX12_isOffered_73 : decode cX12_isOffered 73 = .ok (.isub, 1) := dc0 dO_100 (by decide +kernel)
theorem dX12_isOffered_74 : decode cX12_isOffered 74 = .ok (.if_icmp .ne 7, 3) := dcS2 dO_160 (by decide +kernel)
theorem dX12_isOffered_77 : decode cX12_isOffered 77 = .ok (.iconst 1, 1) := dc0 dO_4 (by decide +kernel)
theorem dX12_isOffered_78 : decode cX12_isOffered 78 = .ok (.goto 4, 3) := dcS2 dO_167 (by decide +kernel)
theorem dX12_isOffered_81 : decode cX12_isOffered 81 = .ok (.iconst 0, 1) := dc0 dO_3 (by decide +kernel)
theorem dX12_isOffered_82 : decode cX12_isOffered 82 = .ok (.istore 4, 2) := dcU1 dO_54 (by decide +kernel)
theorem dX12_isOffered_84 : decode cX12_isOffered 84 = .ok (.iconst 0, 1) := dc0 dO_3 (by decide +kernel)
theorem dX12_isOffered_85 : decode cX12_isOffered 85 = .ok (.istore 5, 2) := dcU1 dO_54 (by decide +kernel)
theorem dX12_isOffered_87 : decode cX12_isOffered 87 = .ok (.iload 5, 2) := dcU1 dO_21 (by decide +kernel)
theorem dX12_isOffered_89 : decode cX12_isOffered 89 = .ok (.aload_n 0, 1) := dc0 dO_42 (by decide +kernel)
theorem dX12_isOffered_90 : decode cX12_isOffered 90 = .ok (.getfield 517, 3) := dcU2 dO_180 (by decide +kernel)
theorem dX12_isOffered_93 : decode cX12_isOffered 93 = .ok (.iload_n 3, 1) := dc0 dO_29 (by decide +kernel)
theorem dX12_isOffered_94 : decode cX12_isOffered 94 = .ok (.iaload, 1) := dc0 dO_46 (by decide +kernel)
theorem dX12_isOffered_95 : decode cX12_isOffered 95 = .ok (.if_icmp .ge 50, 3) := dcS2 dO_162 (by decide +kernel)
theorem dX12_isOffered_98 : decode cX12_isOffered 98 = .ok (.iload 4, 2) := dcU1 dO_21 (by decide +kernel)
theorem dX12_isOffered_100 : decode cX12_isOffered 100 = .ok (.ifCond .eq 45, 3) := dcS2 dO_153 (by decide +kernel)
theorem dX12_isOffered_103 : decode cX12_isOffered 103 = .ok (.aload_n 0, 1) := dc0 dO_42 (by decide +kernel)
theorem dX12_isOffered_104 : decode cX12_isOffered 104 = .ok (.getfield 520, 3) := dcU2 dO_180 (by decide +kernel)
theorem dX12_isOffered_107 : decode cX12_isOffered 107 = .ok (.bipush 8, 2) := dcS1 dO_16 (by decide +kernel)
theorem dX12_isOffered_109 : decode cX12_isOffered 109 = .ok (.iload_n 3, 1) := dc0 dO_29 (by decide +kernel)
theorem dX12_isOffered_110 : decode cX12_isOffered 110 = .ok (.imul, 1) := dc0 dO_104 (by decide +kernel)
theorem dX12_isOffered_111 : decode cX12_isOffered 111 = .ok (.iload 5, 2) := dcU1 dO_21 (by decide +kernel)
theorem dX12_isOffered_113 : decode cX12_isOffered 113 = .ok (.iadd, 1) := dc0 dO_96 (by decide +kernel)
theorem dX12_isOffered_114 : decode cX12_isOffered 114 = .ok (.iaload, 1) := dc0 dO_46 (by decide +kernel)
theorem dX12_isOffered_115 : decode cX12_isOffered 115 = .ok (.aload_n 0, 1) := dc0 dO_42 (by decide +kernel)
theorem dX12_isOffered_116 : decode cX12_isOffered 116 = .ok (.getfield 520, 3) := dcU2 dO_180 (by decide +kernel)
theorem dX12_isOffered_119 : decode cX12_isOffered 119 = .ok (.bipush 8, 2) := dcS1 dO_16 (by decide +kernel)
theorem dX12_isOffered_121 : decode cX12_isOffered 121 = .ok (.iload_n 1, 1) := dc0 dO_27 (by decide +kernel)
theorem dX12_isOffered_122 : decode cX12_isOffered 122 = .ok (.imul, 1) := dc0 dO_104 (by decide +kernel)
theorem dX12_isOffered_123 : decode cX12_isOffered 123 = .ok (.iload 5, 2) := dcU1 dO_21 (by decide +kernel)
theorem dX12_isOffered_125 : decode cX12_isOffered 125 = .ok (.iadd, 1) := dc0 dO_96 (by decide +kernel)
theorem dX12_isOffered_126 : decode cX12_isOffered 126 = .ok (.iconst 1, 1) := dc0 dO_4 (by decide +kernel)
theorem dX12_isOffered_127 : decode cX12_isOffered 127 = .ok (.iadd, 1) := dc0 dO_96 (by decide +kernel)
theorem sfx_cX12_isOffered_128 : (cX12_isOffered.data.toList.drop 128).take 67 = [46, 160, 0, 7, 4, 167, 0, 4, 3, 54, 4, 132, 5, 1, 167, 255, 201, 21, 4, 172] := by decide +kernel
theorem dX12_isOffered_128 : decode cX12_isOffered 128 = .ok (.iaload, 1) := dc0 dO_46 (rdB.ch sfx_cX12_isOffered_128 0 rfl (by decide +kernel))
theorem dX12_isOffered_129 : decode cX12_isOffered 129 = .ok (.if_icmp .ne 7, 3) := dcS2 dO_160 (rdS2.ch sfx_cX12_isOffered_128 1 rfl (by decide +kernel))
theorem dX12_isOffered_132 : decode cX12_isOffered 132 = .ok (.iconst 1, 1) := dc0 dO_4 (rdB.ch sfx_cX12_isOffered_128 4 rfl (by decide +kernel))
theorem dX12_isOffered_133 : decode cX12_isOffered 133 = .ok (.goto 4, 3) := dcS2 dO_167 (rdS2.ch sfx_cX12_isOffered_128 5 rfl (by decide +kernel))
theorem dX12_isOffered_136 : decode cX12_isOffered 136 = .ok (.iconst 0, 1) := dc0 dO_3 (rdB.ch sfx_cX12_isOffered_128 8 rfl (by decide +kernel))
theorem dX12_isOffered_137 : decode cX12_isOffered 137 = .ok (.istore 4, 2) := dcU1 dO_54 (rdU1.ch sfx_cX12_isOffered_128 9 rfl (by decide +kernel))
theorem dX12_isOffered_139 : decode cX12_isOffered 139 = .ok (.iinc 5 1, 3) := dcI dO_132 (rdI.ch sfx_cX12_isOffered_128 11 rfl (by decide +kernel))
theorem dX12_isOffered_142 : decode cX12_isOffered 142 = .ok (.goto (-55), 3) := dcS2 dO_167 (rdS2.ch sfx_cX12_isOffered_128 14 rfl (by decide +kernel))
theorem dX12_isOffered_145 : decode cX12_isOffered 145 = .ok (.iload 4, 2) := dcU1 dO_21 (rdU1.ch sfx_cX12_isOffered_128 17 rfl (by decide +kernel))
theorem dX12_isOffered_147 : decode cX12_isOffered 147 = .ok (.ireturn, 1) := dc0 dO_172 (rdB.ch sfx_cX12_isOffered_128 19 rfl (by decide +kernel))
theorem dX12_isRest_0 : decode cX12_isRest 0 = .ok (.aload_n 0, 1) := dc0 dO_42 (by decide +kernel)
theorem dX12_isRest_1 : decode cX12_isRest 1 = .ok (.iload_n 1, 1) := dc0 dO_27 (by decide +kernel)
theorem dX12_isRest_2 : decode cX12_isRest 2 = .ok (.invokevirtual 722, 3) := dcU2 dO_182 (by decide +kernel)
theorem dX12_isRest_5 : decode cX12_isRest 5 = .ok (.iconst 1, 1) := dc0 dO_4 (by decide +kernel)
theorem dX12_isRest_6 : decode cX12_isRest 6 = .ok (.istore_n 2, 1) := dc0 dO_61 (by decide +kernel)
theorem dX12_isRest_7 : decode cX12_isRest 7 = .ok (.iconst 1, 1) := dc0 dO_4 (by decide +kernel)
theorem dX12_isRest_8 : decode cX12_isRest 8 = .ok (.istore_n 3, 1) := dc0 dO_62 (by decide +kernel)
theorem dX12_isRest_9 : decode cX12_isRest 9 = .ok (.iload_n 3, 1) := dc0 dO_29 (by decide +kernel)
theorem dX12_isRest_10 : decode cX12_isRest 10 = .ok (.bipush 6, 2) := dcS1 dO_16 (by decide +kernel)
theorem dX12_isRest_12 : decode cX12_isRest 12 = .ok (.if_icmp .gt 33, 3) := dcS2 dO_163 (by decide +kernel)
theorem dX12_isRest_15 : decode cX12_isRest 15 = .ok (.iload_n 2, 1) := dc0 dO_28 (by decide +kernel)
theorem dX12_isRest_16 : decode cX12_isRest 16 = .ok (.ifCond .eq 29, 3) := dcS2 dO_153 (by decide +kernel)
theorem dX12_isRest_19 : decode cX12_isRest 19 = .ok (.aload_n 0, 1) := dc0 dO_42 (by decide +kernel)
theorem dX12_isRest_20 : decode cX12_isRest 20 = .ok (.iload_n 3, 1) := dc0 dO_29 (by decide +kernel)
theorem dX12_isRest_21 : decode cX12_isRest 21 = .ok (.invokevirtual 725, 3) := dcU2 dO_182 (by decide +kernel)
theorem dX12_isRest_24 : decode cX12_isRest 24 = .ok (.aload_n 0, 1) := dc0 dO_42 (by decide +kernel)
theorem dX12_isRest_25 : decode cX12_isRest 25 = .ok (.getfield 526, 3) := dcU2 dO_180 (by decide +kernel)
theorem dX12_isRest_28 : decode cX12_isRest 28 = .ok (.iload_n 3, 1) := dc0 dO_29 (by decide +kernel)
theorem dX12_isRest_29 : decode cX12_isRest 29 = .ok (.iaload, 1) := dc0 dO_46 (by decide +kernel)
theorem dX12_isRest_30 : decode cX12_isRest 30 = .ok (.if_icmp .ne 7, 3) := dcS2 dO_160 (by decide +kernel)
theorem dX12_isRest_33 : decode cX12_isRest 33 = .ok (.iconst 1, 1) := dc0 dO_4 (by decide +kernel)
theorem dX12_isRest_34 : decode cX12_isRest 34 = .ok (.goto 4, 3) := dcS2 dO_167 (by decide +kernel)
theorem dX12_isRest_37 : decode cX12_isRest 37 = .ok (.iconst 0, 1) := dc0 dO_3 (by decide +kernel)
theorem dX12_isRest_38 : decode cX12_isRest 38 = .ok (.istore_n 2, 1) := dc0 dO_61 (by decide +kernel)
theorem dX12_isRest_39 : decode cX12_isRest 39 = .ok (.iinc 3 1, 3) := dcI dO_132 (by decide +kernel)
theorem dX12_isRest_42 : decode cX12_isRest 42 = .ok (.goto (-33), 3) := dcS2 dO_167 (by decide +kernel)
theorem dX12_isRest_45 : decode cX12_isRest 45 = .ok (.iload_n 2, 1) := dc0 dO_28 (by decide +kernel)
theorem dX12_isRest_46 : decode cX12_isRest 46 = .ok (.ireturn, 1) := dc0 dO_172 (by decide +kernel)
theorem dX12_isSign_0 : decode cX12_isSign 0 = .ok (.aload_n 0, 1) := dc0 dO_42 (by decide +kernel)
theorem dX12_isSign_1 : decode cX12_isSign 1 = .ok (.getfield 215, 3) := dcU2 dO_180 (by decide +kernel)
theorem dX12_isSign_4 : decode cX12_isSign 4 = .ok (.ifCond .ne 23, 3) := dcS2 dO_154 (by decide +kernel)
theorem dX12_isSign_7 : decode cX12_isSign 7 = .ok (.aload_n 0, 1) := dc0 dO_42 (by decide +kernel)
theorem dX12_isSign_8 : decode cX12_isSign 8 = .ok (.getfield 230, 3) := dcU2 dO_180 (by decide +kernel)
theorem dX12_isSign_11 : decode cX12_isSign 11 = .ok (.iconst 3, 1) := dc0 dO_6 (by decide +kernel)
theorem dX12_isSign_12 : decode cX12_isSign 12 = .ok (.if_icmp .ne 15, 3) := dcS2 dO_160 (by decide +kernel)
theorem dX12_isSign_15 : decode cX12_isSign 15 = .ok (.aload_n 0, 1) := dc0 dO_42 (by decide +kernel)
theorem dX12_isSign_16 : decode cX12_isSign 16 = .ok (.getfield 233, 3) := dcU2 dO_180 (by decide +kernel)
theorem dX12_isSign_19 : decode cX12_isSign 19 = .ok (.iload_n 1, 1) := dc0 dO_27 (by decide +kernel)
theorem dX12_isSign_20 : decode cX12_isSign 20 = .ok (.if_icmp .ne 7, 3) := dcS2 dO_160 (by decide +kernel)
theorem dX12_isSign_23 : decode cX12_isSign 23 = .ok (.iconst 1, 1) := dc0 dO_4 (by decide +kernel)
theorem dX12_isSign_24 : decode cX12_isSign 24 = .ok (.goto 4, 3) := dcS2 dO_167 (by decide +kernel)
theorem dX12_isSign_27 : decode cX12_isSign 27 = .ok (.iconst 0, 1) := dc0 dO_3 (by decide +kernel)
theorem dX12_isSign_28 : decode cX12_isSign 28 = .ok (.ireturn, 1) := dc0 dO_172 (by decide +kernel)
theorem dX12_isWished_0 : decode cX12_isWished 0 = .ok (.aload_n 0, 1) := dc0 dO_42 (by decide +kernel)
theorem dX12_isWished_1 : decode cX12_isWished 1 = .ok (.getfield 517, 3) := dcU2 dO_180 (by decide +kernel)
theorem dX12_isWished_4 : decode cX12_isWished 4 = .ok (.iconst 5, 1) := dc0 dO_8 (by decide +kernel)
theorem dX12_isWished_5 : decode cX12_isWished 5 = .ok (.iload_n 1, 1) := dc0 dO_27 (by decide +kernel)
theorem dX12_isWished_6 : decode cX12_isWished 6 = .ok (.imul, 1) := dc0 dO_104 (by decide +kernel)
theorem dX12_isWished_7 : decode cX12_isWished 7 = .ok (.iload_n 2, 1) := dc0 dO_28 (by decide +kernel)
theorem dX12_isWished_8 : decode cX12_isWished 8 = .ok (.iadd, 1) := dc0 dO_96 (by decide +kernel)
theorem dX12_isWished_9 : decode cX12_isWished 9 = .ok (.iaload, 1) := dc0 dO_46 (by decide +kernel)
theorem dX12_isWished_10 : decode cX12_isWished 10 = .ok (.aload_n 0, 1) := dc0 dO_42 (by decide +kernel)
theorem dX12_isWished_11 : decode cX12_isWished 11 = .ok (.getfield 79, 3) := dcU2 dO_180 (by decide +kernel)
theorem dX12_isWished_14 : decode cX12_isWished 14 = .ok (.if_icmp .ne 7, 3) := dcS2 dO_160 (by decide +kernel)
theorem dX12_isWished_17 : decode cX12_isWished 17 = .ok (.iconst 1, 1) := dc0 dO_4 (by decide +kernel)
theorem dX12_isWished_18 : decode cX12_isWished 18 = .ok (.goto 4, 3) := dcS2 dO_167 (by decide +kernel)
theorem dX12_isWished_21 : decode cX12_isWished 21 = .ok (.iconst 0, 1) := dc0 dO_3 (by decide +kernel)
theorem dX12_isWished_22 : decode cX12_isWished 22 = .ok (.istore_n 3, 1) := dc0 dO_62 (by decide +kernel)
theorem dX12_isWished_23 : decode cX12_isWished 23 = .ok (.iconst 0, 1) := dc0 dO_3 (by decide +kernel)
theorem dX12_isWished_24 : decode cX12_isWished 24 = .ok (.istore 4, 2) := dcU1 dO_54 (by decide +kernel)
theorem dX12_isWished_26 : decode cX12_isWished 26 = .ok (.iload 4, 2) := dcU1 dO_21 (by decide +kernel)
theorem dX12_isWished_28 : decode cX12_isWished 28 = .ok (.aload_n 0, 1) := dc0 dO_42 (by decide +kernel)
theorem dX12_isWished_29 : decode cX12_isWished 29 = .ok (.getfield 79, 3) := dcU2 dO_180 (by decide +kernel)
theorem dX12_isWished_32 : decode cX12_isWished 32 = .ok (.if_icmp .ge 45, 3) := dcS2 dO_162 (by decide +kernel)
theorem dX12_isWished_35 : decode cX12_isWished 35 = .ok (.iload_n 3, 1) := dc0 dO_29 (by decide +kernel)
theorem dX12_isWished_36 : decode cX12_isWished 36 = .ok (.ifCond .eq 41, 3) := dcS2 dO_153 (by decide +kernel)
theorem dX12_isWished_39 : decode cX12_isWished 39 = .ok (.aload_n 0, 1) := dc0 dO_42 (by decide +kernel)
theorem dX12_isWished_40 : decode cX12_isWished 40 = .ok (.getfield 520, 3) := dcU2 dO_180 (by decide +kernel)
theorem dX12_isWished_43 : decode cX12_isWished 43 = .ok (.bipush 8, 2) := dcS1 dO_16 (by decide +kernel)
theorem dX12_isWished_45 : decode cX12_isWished 45 = .ok (.iconst 5, 1) := dc0 dO_8 (by decide +kernel)
theorem dX12_isWished_46 : decode cX12_isWished 46 = .ok (.iload_n 1, 1) := dc0 dO_27 (by decide +kernel)
theorem dX12_isWished_47 : decode cX12_isWished 47 = .ok (.imul, 1) := dc0 dO_104 (by decide +kernel)
theorem dX12_isWished_48 : decode cX12_isWished 48 = .ok (.iload_n 2, 1) := dc0 dO_28 (by decide +kernel)
theorem dX12_isWished_49 : decode cX12_isWished 49 = .ok (.iadd, 1) := dc0 dO_96 (by decide +kernel)
theorem dX12_isWished_50 : decode cX12_isWished 50 = .ok (.imul, 1) := dc0 dO_104 (by decide +kernel)
theorem dX12_isWished_51 : decode cX12_isWished 51 = .ok (.iload 4, 2) := dcU1 dO_21 (by decide +kernel)
theorem dX12_isWished_53 : decode cX12_isWished 53 = .ok (.iadd, 1) := dc0 dO_96 (by decide +kernel)
theorem dX12_isWished_54 : decode cX12_isWished 54 = .ok (.iaload, 1) := dc0 dO_46 (by decide +kernel)
theorem dX12_isWished_55 : decode cX12_isWished 55 = .ok (.aload_n 0, 1) := dc0 dO_42 (by decide +kernel)
theorem dX12_isWished_56 : decode cX12_isWished 56 = .ok (.getfield 82, 3) := dcU2 dO_180 (by decide +kernel)
theorem dX12_isWished_59 : decode cX12_isWished 59 = .ok (.iload 4, 2) := dcU1 dO_21 (by decide +kernel)
theorem dX12_isWished_61 : decode cX12_isWished 61 = .ok (.iaload, 1) := dc0 dO_46 (by decide +kernel)
theorem dX12_isWished_62 : decode cX12_isWished 62 = .ok (.if_icmp .ne 7, 3) := dcS2 dO_160 (by decide +kernel)
theorem dX12_isWished_65 : decode cX12_isWished 65 = .ok (.iconst 1, 1) := dc0 dO_4 (by decide +kernel)
theorem dX12_isWished_66 : decode cX12_isWished 66 = .ok (.goto 4, 3) := dcS2 dO_167 (by decide +kernel)
theorem dX12_isWished_69 : decode cX12_isWished 69 = .ok (.iconst 0, 1) := dc0 dO_3 (by decide +kernel)
theorem dX12_isWished_70 : decode cX12_isWished 70 = .ok (.istore_n 3, 1) := dc0 dO_62 (by decide +kernel)
theorem dX12_isWished_71 : decode cX12_isWished 71 = .ok (.iinc 4 1, 3) := dcI dO_132 (by decide +kernel)
theorem dX12_isWished_74 : decode cX12_isWished 74 = .ok (.goto (-48), 3) := dcS2 dO_167 (by decide +kernel)
theorem dX12_isWished_77 : decode cX12_isWished 77 = .ok (.iload_n 3, 1) := dc0 dO_29 (by decide +kernel)
theorem dX12_isWished_78 : decode cX12_isWished 78 = .ok (.ireturn, 1) := dc0 dO_172 (by decide +kernel)
theorem dX12_isWord_0 : decode cX12_isWord 0 = .ok (.aload_n 0, 1) := dc0 dO_42 (by decide +kernel)
theorem dX12_isWord_1 : decode cX12_isWord 1 = .ok (.getfield 215, 3) := dcU2 dO_180 (by decide +kernel)
theorem dX12_isWord_4 : decode cX12_isWord 4 = .ok (.ifCond .ne 23, 3) := dcS2 dO_154 (by decide +kernel)
theorem dX12_isWord_7 : decode cX12_isWord 7 = .ok (.aload_n 0, 1) := dc0 dO_42 (by decide +kernel)
theorem dX12_isWord_8 : decode cX12_isWord 8 = .ok (.getfield 230, 3) := dcU2 dO_180 (by decide +kernel)
theorem dX12_isWord_11 : decode cX12_isWord 11 = .ok (.iconst 1, 1) := dc0 dO_4 (by decide +kernel)
theorem dX12_isWord_12 : decode cX12_isWord 12 = .ok (.if_icmp .ne 15, 3) := dcS2 dO_160 (by decide +kernel)
theorem dX12_isWord_15 : decode cX12_isWord 15 = .ok (.aload_n 0, 1) := dc0 dO_42 (by decide +kernel)
theorem dX12_isWord_16 : decode cX12_isWord 16 = .ok (.getfield 233, 3) := dcU2 dO_180 (by decide +kernel)
theorem dX12_isWord_19 : decode cX12_isWord 19 = .ok (.iload_n 1, 1) := dc0 dO_27 (by decide +kernel)
theorem dX12_isWord_20 : decode cX12_isWord 20 = .ok (.if_icmp .ne 7, 3) := dcS2 dO_160 (by decide +kernel)
theorem dX12_isWord_23 : decode cX12_isWord 23 = .ok (.iconst 1, 1) := dc0 dO_4 (by decide +kernel)
theorem dX12_isWord_24 : decode cX12_isWord 24 = .ok (.goto 4, 3) := dcS2 dO_167 (by decide +kernel)
theorem dX12_isWord_27 : decode cX12_isWord 27 = .ok (.iconst 0, 1) := dc0 dO_3 (by decide +kernel)
theorem dX12_isWord_28 : decode cX12_isWord 28 = .ok (.ireturn, 1) := dc0 dO_172 (by decide +kernel)
theorem dX12_least_0 : decode cX12_least 0 = .ok (.aload_n 0, 1) := dc0 dO_42 (by decide +kernel)
theorem dX12_least_1 : decode cX12_least 1 = .ok (.iload_n 1, 1) := dc0 dO_27 (by decide +kernel)
theorem dX12_least_2 : decode cX12_least 2 = .ok (.invokevirtual 49, 3) := dcU2 dO_182 (by decide +kernel)
theorem dX12_least_5 : decode cX12_least 5 = .ok (.ifCond .ne 5, 3) := dcS2 dO_154 (by decide +kernel)
theorem dX12_least_8 : decode cX12_least 8 = .ok (.iconst (-1), 1) := dc0 dO_2 (by decide +kernel)
theorem dX12_least_9 : decode cX12_least 9 = .ok (.ireturn, 1) := dc0 dO_172 (by decide +kernel)
theorem dX12_least_10 : decode cX12_least 10 = .ok (.aload_n 0, 1) := dc0 dO_42 (by decide +kernel)
theorem dX12_least_11 : decode cX12_least 11 = .ok (.iconst 0, 1) := dc0 dO_3 (by decide +kernel)
theorem dX12_least_12 : decode cX12_least 12 = .ok (.putfield 698, 3) := dcU2 dO_181 (by decide +kernel)
theorem dX12_least_15 : decode cX12_least 15 = .ok (.bipush 31, 2) := dcS1 dO_16 (by decide +kernel)
theorem dX12_least_17 : decode cX12_least 17 = .ok (.istore_n 2, 1) := dc0 dO_61 (by decide +kernel)
theorem dX12_least_18 : decode cX12_least 18 = .ok (.iload_n 2, 1) := dc0 dO_28 (by decide +kernel)
theorem dX12_least_19 : decode cX12_least 19 = .ok (.ifCond .lt 268, 3) := dcS2 dO_155 (by decide +kernel)
theorem dX12_least_22 : decode cX12_least 22 = .ok (.iconst 0, 1) := dc0 dO_3 (by decide +kernel)
theorem dX12_least_23 : decode cX12_least 23 = .ok (.istore_n 3, 1) := dc0 dO_62 (by decide +kernel)
theorem dX12_least_24 : decode cX12_least 24 = .ok (.iload_n 3, 1) := dc0 dO_29 (by decide +kernel)
theorem dX12_least_25 : decode cX12_least 25 = .ok (.aload_n 0, 1) := dc0 dO_42 (by decide +kernel)
theorem dX12_least_26 : decode cX12_least 26 = .ok (.getfield 15, 3) := dcU2 dO_180 (by decide +kernel)
theorem dX12_least_29 : decode cX12_least 29 = .ok (.if_icmp .ge 252, 3) := dcS2 dO_162 (by decide +kernel)
theorem dX12_least_32 : decode cX12_least 32 = .ok (.aload_n 0, 1) := dc0 dO_42 (by decide +kernel)
theorem dX12_least_33 : decode cX12_least 33 = .ok (.getfield 445, 3) := dcU2 dO_180 (by decide +kernel)
theorem dX12_least_36 : decode cX12_least 36 = .ok (.bipush 10, 2) := dcS1 dO_16 (by decide +kernel)
theorem dX12_least_38 : decode cX12_least 38 = .ok (.iload_n 1, 1) := dc0 dO_27 (by decide +kernel)
theorem dX12_least_39 : decode cX12_least 39 = .ok (.imul, 1) := dc0 dO_104 (by decide +kernel)
theorem dX12_least_40 : decode cX12_least 40 = .ok (.iload_n 3, 1) := dc0 dO_29 (by decide +kernel)
theorem dX12_least_41 : decode cX12_least 41 = .ok (.iadd, 1) := dc0 dO_96 (by decide +kernel)
theorem dX12_least_42 : decode cX12_least 42 = .ok (.iaload, 1) := dc0 dO_46 (by decide +kernel)
theorem dX12_least_43 : decode cX12_least 43 = .ok (.ldc 29, 2) := dcU1 dO_18 (by decide +kernel)
theorem dX12_least_45 : decode cX12_least 45 = .ok (.if_icmp .eq 230, 3) := dcS2 dO_159 (by decide +kernel)
theorem dX12_least_48 : decode cX12_least 48 = .ok (.aload_n 0, 1) := dc0 dO_42 (by decide +kernel)
theorem dX12_least_49 : decode cX12_least 49 = .ok (.getfield 26, 3) := dcU2 dO_180 (by decide +kernel)
theorem dX12_least_52 : decode cX12_least 52 = .ok (.iload_n 3, 1) := dc0 dO_29 (by decide +kernel)
theorem dX12_least_53 : decode cX12_least 53 = .ok (.iaload, 1) := dc0 dO_46 (by decide +kernel)
theorem dX12_least_54 : decode cX12_least 54 = .ok (.iload_n 2, 1) := dc0 dO_28 (by decide +kernel)
theorem dX12_least_55 : decode cX12_least 55 = .ok (.if_icmp .gt 6, 3) := dcS2 dO_163 (by decide +kernel)
theorem dX12_least_58 : decode cX12_least 58 = .ok (.goto 217, 3) := dcS2 dO_167 (by decide +kernel)
theorem dX12_least_61 : decode cX12_least 61 = .ok (.aload_n 0, 1) := dc0 dO_42 (by decide +kernel)
theorem dX12_least_62 : decode cX12_least 62 = .ok (.getfield 22, 3) := dcU2 dO_180 (by decide +kernel)
theorem dX12_least_65 : decode cX12_least 65 = .ok (.iload_n 3, 1) := dc0 dO_29 (by decide +kernel)
theorem dX12_least_66 : decode cX12_least 66 = .ok (.iaload, 1) := dc0 dO_46 (by decide +kernel)
theorem dX12_least_67 : decode cX12_least 67 = .ok (.iload_n 2, 1) := dc0 dO_28 (by decide +kernel)
theorem dX12_least_68 : decode cX12_least 68 = .ok (.invokestatic 11, 3) := dcU2 dO_184 (by decide +kernel)
theorem dX12_least_71 : decode cX12_least 71 = .ok (.iand, 1) := dc0 dO_126 (by decide +kernel)
theorem dX12_least_72 : decode cX12_least 72 = .ok (.istore 4, 2) := dcU1 dO_54 (by decide +kernel)
theorem dX12_least_74 : decode cX12_least 74 = .ok (.aload_n 0, 1) := dc0 dO_42 (by decide +kernel)
theorem dX12_least_75 : decode cX12_least 75 = .ok (.iload 4, 2) := dcU1 dO_21 (by decide +kernel)
theorem dX12_least_77 : decode cX12_least 77 = .ok (.iload_n 2, 1) := dc0 dO_28 (by decide +kernel)
theorem dX12_least_78 : decode cX12_least 78 = .ok (.invokevirtual 701, 3) := dcU2 dO_182 (by decide +kernel)
theorem dX12_least_81 : decode cX12_least 81 = .ok (.ldc 29, 2) := dcU1 dO_18 (by decide +kernel)
theorem dX12_least_83 : decode cX12_least 83 = .ok (.if_icmp .eq 6, 3) := dcS2 dO_159 (by decide +kernel)
theorem dX12_least_86 : decode cX12_least 86 = .ok (.goto 189, 3) := dcS2 dO_167 (by decide +kernel)
theorem dX12_least_89 : decode cX12_least 89 = .ok (.iload 4, 2) := dcU1 dO_21 (by decide +kernel)
theorem dX12_least_91 : decode cX12_least 91 = .ok (.iconst 1, 1) := dc0 dO_4 (by decide +kernel)
theorem dX12_least_92 : decode cX12_least 92 = .ok (.bipush 31, 2) := dcS1 dO_16 (by decide +kernel)
theorem dX12_least_94 : decode cX12_least 94 = .ok (.iload_n 2, 1) := dc0 dO_28 (by decide +kernel)
theorem dX12_least_95 : decode cX12_least 95 = .ok (.isub, 1) := dc0 dO_100 (by decide +kernel)
theorem dX12_least_96 : decode cX12_least 96 = .ok (.ishl, 1) := dc0 dO_120 (by decide +kernel)
theorem dX12_least_97 : decode cX12_least 97 = .ok (.ior, 1) := dc0 dO_128 (by decide +kernel)
theorem dX12_least_98 : decode cX12_least 98 = .ok (.istore 5, 2) := dcU1 dO_54 (by decide +kernel)
theorem dX12_least_100 : decode cX12_least 100 = .ok (.ldc 29, 2) := dcU1 dO_18 (by decide +kernel)
theorem dX12_least_102 : decode cX12_least 102 = .ok (.istore 6, 2) := dcU1 dO_54 (by decide +kernel)
theorem dX12_least_104 : decode cX12_least 104 = .ok (.iconst 0, 1) := dc0 dO_3 (by decide +kernel)
theorem dX12_least_105 : decode cX12_least 105 = .ok (.istore 7, 2) := dcU1 dO_54 (by decide +kernel)
theorem dX12_least_107 : decode cX12_least 107 = .ok (.iload 7, 2) := dcU1 dO_21 (by decide +kernel)
theorem dX12_least_109 : decode cX12_least 109 = .ok (.bipush 22, 2) := dcS1 dO_16 (by decide +kernel)
theorem dX12_least_111 : decode cX12_least 111 = .ok (.if_icmp .ge 76, 3) := dcS2 dO_162 (by decide +kernel)
theorem dX12_least_114 : decode cX12_least 114 = .ok (.aload_n 0, 1) := dc0 dO_42 (by decide +kernel)
theorem dX12_least_115 : decode cX12_least 115 = .ok (.iload_n 1, 1) := dc0 dO_27 (by decide +kernel)
theorem dX12_least_116 : decode cX12_least 116 = .ok (.iload 4, 2) := dcU1 dO_21 (by decide +kernel)
theorem dX12_least_118 : decode cX12_least 118 = .ok (.iload_n 2, 1) := dc0 dO_28 (by decide +kernel)
theorem dX12_least_119 : decode cX12_least 119 = .ok (.iconst 1, 1) := dc0 dO_4 (by decide +kernel)
theorem dX12_least_120 : decode cX12_least 120 = .ok (.iadd, 1) := dc0 dO_96 (by decide +kernel)
theorem dX12_least_121 : decode cX12_least 121 = .ok (.iload 7, 2) := dcU1 dO_21 (by decide +kernel)
theorem dX12_least_123 : decode cX12_least 123 = .ok (.invokevirtual 707, 3) := dcU2 dO_182 (by decide +kernel)
theorem dX12_least_126 : decode cX12_least 126 = .ok (.aload_n 0, 1) := dc0 dO_42 (by decide +kernel)
theorem dX12_least_127 : decode cX12_least 127 = .ok (.iload_n 1, 1) := dc0 dO_27 (by decide +kernel)
theorem sfx_cX12_least_128 : (cX12_least.data.toList.drop 128).take 67 = [21, 5, 28, 4, 96, 21, 7, 182, 2, 195, 96, 54, 8, 42, 180, 1, 252, 16, 22, 42, 180, 2, 186, 104, 21, 7, 96, 21, 8, 79, 21, 6, 18, 29, 159, 0, 10, 21, 8, 21, 6, 162, 0, 8, 21, 8, 167, 0, 5, 21, 6, 54, 6, 132, 7, 1, 167, 255, 179, 3, 54, 7, 21, 7, 16, 22, 162] := by decide +kernel
theorem dX12_least_128 : decode cX12_least 128 = .ok (.iload 5, 2) := dcU1 dO_21 (rdU1.ch sfx_cX12_least_128 0 rfl (by decide +kernel))
theorem dX12_least_130 : decode cX12_least 130 = .ok (.iload_n 2, 1) := dc0 dO_28 (rdB.ch sfx_cX12_least_128 2 rfl (by decide +kernel))
theorem dX12_least_131 : decode cX12_least 131 = .ok (.iconst 1, 1) := dc0 dO_4 (rdB.ch sfx_cX12_least_128 3 rfl (by decide +kernel))
theorem dX12_least_132 : decode cX12_least 132 = .ok (.iadd, 1) := dc0 dO_96 (rdB.ch sfx_cX12_least_128 4 rfl (by decide +kernel))
theorem dX12_least_133 : decode cX12_least 133 = .ok (.iload 7, 2) := dcU1 dO_21 (rdU1.ch sfx_cX12_least_128 5 rfl (by decide +kernel))
theorem dX12_least_135 : decode cX12_least 135 = .ok (.invokevirtual 707, 3) := dcU2 dO_182 (rdU2.ch sfx_cX12_least_128 7 rfl (by decide +kernel))
theorem dX12_least_138 : decode cX12_least 138 = .ok (.iadd, 1) := dc0 dO_96 (rdB.ch sfx_cX12_least_128 10 rfl (by decide +kernel))
theorem dX12_least_139 : decode cX12_least 139 = .ok (.istore 8, 2) := dcU1 dO_54 (rdU1.ch sfx_cX12_least_128 11 rfl (by decide +kernel))
theorem dX12_least_141 : decode cX12_least 141 = .ok (.aload_n 0, 1) := dc0 dO_42 (rdB.ch sfx_cX12_least_128 13 rfl (by decide +kernel))
theorem dX12_least_142 : decode cX12_least 142 = .ok (.getfield 508, 3) := dcU2 dO_180 (rdU2.ch sfx_cX12_least_128 14 rfl (by decide +kernel))
theorem dX12_least_145 : decode cX12_least 145 = .ok (.bipush 22, 2) := dcS1 dO_16 (rdS1.ch sfx_cX12_least_128 17 rfl (by decide +kernel))
theorem dX12_least_147 : decode cX12_least 147 = .ok (.aload_n 0, 1) := dc0 dO_42 (rdB.ch sfx_cX12_least_128 19 rfl (by decide +kernel))
theorem dX12_least_148 : decode cX12_least 148 = .ok (.getfield 698, 3) := dcU2 dO_180 (rdU2.ch sfx_cX12_least_128 20 rfl (by decide +kernel))
theorem dX12_least_151 : decode cX12_least 151 = .ok (.imul, 1) := dc0 dO_104 (rdB.ch sfx_cX12_least_128 23 rfl (by decide +kernel))
theorem dX12_least_152 : decode cX12_least 152 = .ok (.iload 7, 2) := dcU1 dO_21 (rdU1.ch sfx_cX12_least_128 24 rfl (by decide +kernel))
theorem dX12_least_154 : decode cX12_least 154 = .ok (.iadd, 1) := dc0 dO_96 (rdB.ch sfx_cX12_least_128 26 rfl (by decide +kernel))
theorem dX12_least_155 : decode cX12_least 155 = .ok (.iload 8, 2) := dcU1 dO_21 (rdU1.ch sfx_cX12_least_128 27 rfl (by decide +kernel))
theorem dX12_least_157 : decode cX12_least 157 = .ok (.iastore, 1) := dc0 dO_79 (rdB.ch sfx_cX12_least_128 29 rfl (by decide +kernel))
theorem dX12_least_158 : decode cX12_least 158 = .ok (.iload 6, 2) := dcU1 dO_21 (rdU1.ch sfx_cX12_least_128 30 rfl (by decide +kernel))
theorem dX12_least_160 : decode cX12_least 160 = .ok (.ldc 29, 2) := dcU1 dO_18 (rdU1.ch sfx_cX12_least_128 32 rfl (by decide +kernel))
theorem dX12_least_162 : decode cX12_least 162 = .ok (.if_icmp .eq 10, 3) := dcS2 dO_159 (rdS2.ch sfx_cX12_least_128 34 rfl (by decide +kernel))
theorem dX12_least_165 : decode cX12_least 165 = .ok (.iload 8, 2) := dcU1 dO_21 (rdU1.ch sfx_cX12_least_128 37 rfl (by decide +kernel))
theorem dX12_least_167 : decode cX12_least 167 = .ok (.iload 6, 2) := dcU1 dO_21 (rdU1.ch sfx_cX12_least_128 39 rfl (by decide +kernel))
theorem dX12_least_169 : decode cX12_least 169 = .ok (.if_icmp .ge 8, 3) := dcS2 dO_162 (rdS2.ch sfx_cX12_least_128 41 rfl (by decide +kernel))
theorem dX12_least_172 : decode cX12_least 172 = .ok (.iload 8, 2) := dcU1 dO_21 (rdU1.ch sfx_cX12_least_128 44 rfl (by decide +kernel))
theorem dX12_least_174 : decode cX12_least 174 = .ok (.goto 5, 3) := dcS2 dO_167 (rdS2.ch sfx_cX12_least_128 46 rfl (by decide +kernel))
theorem dX12_least_177 : decode cX12_least 177 = .ok (.iload 6, 2) := dcU1 dO_21 (rdU1.ch sfx_cX12_least_128 49 rfl (by decide +kernel))
theorem dX12_least_179 : decode cX12_least 179 = .ok (.istore 6, 2) := dcU1 dO_54 (rdU1.ch sfx_cX12_least_128 51 rfl (by decide +kernel))
theorem dX12_least_181 : decode cX12_least 181 = .ok (.iinc 7 1, 3) := dcI dO_132 (rdI.ch sfx_cX12_least_128 53 rfl (by decide +kernel))
theorem dX12_least_184 : decode cX12_least 184 = .ok (.goto (-77), 3) := dcS2 dO_167 (rdS2.ch sfx_cX12_least_128 56 rfl (by decide +kernel))
theorem dX12_least_187 : decode cX12_least 187 = .ok (.iconst 0, 1) := dc0 dO_3 (rdB.ch sfx_cX12_least_128 59 rfl (by decide +kernel))
theorem dX12_least_188 : decode cX12_least 188 = .ok (.istore 7, 2) := dcU1 dO_54 (rdU1.ch sfx_cX12_least_128 60 rfl (by decide +kernel))
theorem dX12_least_190 : decode cX12_least 190 = .ok (.iload 7, 2) := dcU1 dO_21 (rdU1.ch sfx_cX12_least_128 62 rfl (by decide +kernel))
theorem sfx_cX12_least_192 : (cX12_least.data.toList.drop 192).take 67 = [16, 22, 162, 0, 50, 42, 180, 1, 252, 16, 22, 42, 180, 2, 186, 104, 21, 7, 96, 46, 21, 6, 4, 96, 164, 0, 22, 42, 180, 1, 252, 16, 22, 42, 180, 2, 186, 104, 21, 7, 96, 21, 6, 4, 96, 79, 132, 7, 1, 167, 255, 205, 42, 180, 1, 246, 42, 180, 2, 186, 21, 4, 79, 42, 180, 1, 249] := by decide +kernel
theorem dX12_least_192 : decode cX12_least 192 = .ok (.bipush 22, 2) := dcS1 dO_16 (rdS1.ch sfx_cX12_least_192 0 rfl (by decide +kernel))
theorem dX12_least_194 : decode cX12_least 194 = .ok (.if_icmp .ge 50, 3) := dcS2 dO_162 (rdS2.ch sfx_cX12_least_192 2 rfl (by decide +kernel))
theorem dX12_least_197 : decode cX12_least 197 = .ok (.aload_n 0, 1) := dc0 dO_42 (rdB.ch sfx_cX12_least_192 5 rfl (by decide +kernel))
theorem dX12_least_198 : decode cX12_least 198 = .ok (.getfield 508, 3) := dcU2 dO_180 (rdU2.ch sfx_cX12_least_192 6 rfl (by decide +kernel))
theorem dX12_least_201 : decode cX12_least 201 = .ok (.bipush 22, 2) := dcS1 dO_16 (rdS1.ch sfx_cX12_least_192 9 rfl (by decide +kernel))
theorem dX12_least_203 : decode cX12_least 203 = .ok (.aload_n 0, 1) := dc0 dO_42 (rdB.ch sfx_cX12_least_192 11 rfl (by decide +kernel))
theorem dX12_least_204 : decode cX12_least 204 = .ok (.getfield 698, 3) := dcU2 dO_180 (rdU2.ch sfx_cX12_least_192 12 rfl (by decide +kernel))
theorem dX12_least_207 : decode cX12_least 207 = .ok (.imul, 1) := dc0 dO_104 (rdB.ch sfx_cX12_least_192 15 rfl (by decide +kernel))
theorem dX12_least_208 : decode cX12_least 208 = .ok (.iload 7, 2) := dcU1 dO_21 (rdU1.ch sfx_cX12_least_192 16 rfl (by decide +kernel))
theorem dX12_least_210 : decode cX12_least 210 = .ok (.iadd, 1) := dc0 dO_96 (rdB.ch sfx_cX12_least_192 18 rfl (by decide +kernel))
theorem dX12_least_211 : decode cX12_least 211 = .ok (.iaload, 1) := dc0 dO_46 (rdB.ch sfx_cX12_least_192 19 rfl (by decide +kernel))
theorem dX12_least_212 : decode cX12_least 212 = .ok (.iload 6, 2) := dcU1 dO_21 (rdU1.ch sfx_cX12_least_192 20 rfl (by decide +kernel))
theorem dX12_least_214 : decode cX12_least 214 = .ok (.iconst 1, 1) := dc0 dO_4 (rdB.ch sfx_cX12_least_192 22 rfl (by decide +kernel))
theorem dX12_least_215 : decode cX12_least 215 = .ok (.iadd, 1) := dc0 dO_96 (rdB.ch sfx_cX12_least_192 23 rfl (by decide +kernel))
theorem dX12_least_216 : decode cX12_least 216 = .ok (.if_icmp .le 22, 3) := dcS2 dO_164 (rdS2.ch sfx_cX12_least_192 24 rfl (by decide +kernel))
theorem dX12_least_219 : decode cX12_least 219 = .ok (.aload_n 0, 1) := dc0 dO_42 (rdB.ch sfx_cX12_least_192 27 rfl (by decide +kernel))
theorem dX12_least_220 : decode cX12_least 220 = .ok (.getfield 508, 3) := dcU2 dO_180 (rdU2.ch sfx_cX12_least_192 28 rfl (by decide +kernel))
theorem dX12_least_223 : decode cX12_least 223 = .ok (.bipush 22, 2) := dcS1 dO_16 (rdS1.ch sfx_cX12_least_192 31 rfl (by decide +kernel))
theorem dX12_least_225 : decode cX12_least 225 = .ok (.aload_n 0, 1) := dc0 dO_42 (rdB.ch sfx_cX12_least_192 33 rfl (by decide +kernel))
theorem dX12_least_226 : decode cX12_least 226 = .ok (.getfield 698, 3) := dcU2 dO_180 (rdU2.ch sfx_cX12_least_192 34 rfl (by decide +kernel))
theorem dX12_least_229 : decode cX12_least 229 = .ok (.imul, 1) := dc0 dO_104 (rdB.ch sfx_cX12_least_192 37 rfl (by decide +kernel))
theorem dX12_least_230 : decode cX12_least 230 = .ok (.iload 7, 2) := dcU1 dO_21 (rdU1.ch sfx_cX12_least_192 38 rfl (by decide +kernel))
theorem dX12_least_232 : decode cX12_least 232 = .ok (.iadd, 1) := dc0 dO_96 (rdB.ch sfx_cX12_least_192 40 rfl (by decide +kernel))
theorem dX12_least_233 : decode cX12_least 233 = .ok (.iload 6, 2) := dcU1 dO_21 (rdU1.ch sfx_cX12_least_192 41 rfl (by decide +kernel))
theorem dX12_least_235 : decode cX12_least 235 = .ok (.iconst 1, 1) := dc0 dO_4 (rdB.ch sfx_cX12_least_192 43 rfl (by decide +kernel))
theorem dX12_least_236 : decode cX12_least 236 = .ok (.iadd, 1) := dc0 dO_96 (rdB.ch sfx_cX12_least_192 44 rfl (by decide +kernel))
theorem dX12_least_237 : decode cX12_least 237 = .ok (.iastore, 1) := dc0 dO_79 (rdB.ch sfx_cX12_least_192 45 rfl (by decide +kernel))
theorem dX12_least_238 : decode cX12_least 238 = .ok (.iinc 7 1, 3) := dcI dO_132 (rdI.ch sfx_cX12_least_192 46 rfl (by decide +kernel))
theorem dX12_least_241 : decode cX12_least 241 = .ok (.goto (-51), 3) := dcS2 dO_167 (rdS2.ch sfx_cX12_least_192 49 rfl (by decide +kernel))
theorem dX12_least_244 : decode cX12_least 244 = .ok (.aload_n 0, 1) := dc0 dO_42 (rdB.ch sfx_cX12_least_192 52 rfl (by decide +kernel))
theorem dX12_least_245 : decode cX12_least 245 = .ok (.getfield 502, 3) := dcU2 dO_180 (rdU2.ch sfx_cX12_least_192 53 rfl (by decide +kernel))
theorem dX12_least_248 : decode cX12_least 248 = .ok (.aload_n 0, 1) := dc0 dO_42 (rdB.ch sfx_cX12_least_192 56 rfl (by decide +kernel))
theorem dX12_least_249 : decode cX12_least 249 = .ok (.getfield 698, 3) := dcU2 dO_180 (rdU2.ch sfx_cX12_least_192 57 rfl (by decide +kernel))
theorem dX12_least_252 : decode cX12_least 252 = .ok (.iload 4, 2) := dcU1 dO_21 (rdU1.ch sfx_cX12_least_192 60 rfl (by decide +kernel))
theorem dX12_least_254 : decode cX12_least 254 = .ok (.iastore, 1) := dc0 dO_79 (rdB.ch sfx_cX12_least_192 62 rfl (by decide +kernel))
theorem dX12_least_255 : decode cX12_least 255 = .ok (.aload_n 0, 1) := dc0 dO_42 (rdB.ch sfx_cX12_least_192 63 rfl (by decide +kernel))
theorem sfx_cX12_least_256 : (cX12_least.data.toList.drop 256).take 67 = [180, 1, 249, 42, 180, 2, 186, 28, 79, 42, 89, 180, 2, 186, 4, 96, 181, 2, 186, 132, 3, 1, 167, 255, 2, 132, 2, 255, 167, 254, 246, 42, 27, 3, 3, 16, 21, 182, 2, 195, 172] := by decide +kernel
theorem dX12_least_256 : decode cX12_least 256 = .ok (.getfield 505, 3) := dcU2 dO_180 (rdU2.ch sfx_cX12_least_256 0 rfl (by decide +kernel))
theorem dX12_least_259 : decode cX12_least 259 = .ok (.aload_n 0, 1) := dc0 dO_42 (rdB.ch sfx_cX12_least_256 3 rfl (by decide +kernel))
theorem dX12_least_260 : decode cX12_least 260 = .ok (.getfield 698, 3) := dcU2 dO_180 (rdU2.ch sfx_cX12_least_256 4 rfl (by decide +kernel))
theorem dX12_least_263 : decode cX12_least 263 = .ok (.iload_n 2, 1) := dc0 dO_28 (rdB.ch sfx_cX12_least_256 7 rfl (by decide +kernel))
theorem dX12_least_264 : decode cX12_least 264 = .ok (.iastore, 1) := dc0 dO_79 (rdB.ch sfx_cX12_least_256 8 rfl (by decide +kernel))
theorem dX12_least_265 : decode cX12_least 265 = .ok (.aload_n 0, 1) := dc0 dO_42 (rdB.ch sfx_cX12_least_256 9 rfl (by decide +kernel))
theorem dX12_least_266 : decode cX12_least 266 = .ok (.dup, 1) := dc0 dO_89 (rdB.ch sfx_cX12_least_256 10 rfl (by decide +kernel))
theorem dX12_least_267 : decode cX12_least 267 = .ok (.getfield 698, 3) := dcU2 dO_180 (rdU2.ch sfx_cX12_least_256 11 rfl (by decide +kernel))
theorem dX12_least_270 : decode cX12_least 270 = .ok (.iconst 1, 1) := dc0 dO_4 (rdB.ch sfx_cX12_least_256 14 rfl (by decide +kernel))
theorem dX12_least_271 : decode cX12_least 271 = .ok (.iadd, 1) := dc0 dO_96 (rdB.ch sfx_cX12_least_256 15 rfl (by decide +kernel))
theorem dX12_least_272 : decode cX12_least 272 = .ok (.putfield 698, 3) := dcU2 dO_181 (rdU2.ch sfx_cX12_least_256 16 rfl (by decide +kernel))
theorem dX12_least_275 : decode cX12_least 275 = .ok (.iinc 3 1, 3) := dcI dO_132 (rdI.ch sfx_cX12_least_256 19 rfl (by decide +kernel))
theorem dX12_least_278 : decode cX12_least 278 = .ok (.goto (-254), 3) := dcS2 dO_167 (rdS2.ch sfx_cX12_least_256 22 rfl (by decide +kernel))
theorem dX12_least_281 : decode cX12_least 281 = .ok (.iinc 2 (-1), 3) := dcI dO_132 (rdI.ch sfx_cX12_least_256 25 rfl (by decide +kernel))
theorem dX12_least_284 : decode cX12_least 284 = .ok (.goto (-266), 3) := dcS2 dO_167 (rdS2.ch sfx_cX12_least_256 28 rfl (by decide +kernel))
theorem dX12_least_287 : decode cX12_least 287 = .ok (.aload_n 0, 1) := dc0 dO_42 (rdB.ch sfx_cX12_least_256 31 rfl (by decide +kernel))
theorem dX12_least_288 : decode cX12_least 288 = .ok (.iload_n 1, 1) := dc0 dO_27 (rdB.ch sfx_cX12_least_256 32 rfl (by decide +kernel))
theorem dX12_least_289 : decode cX12_least 289 = .ok (.iconst 0, 1) := dc0 dO_3 (rdB.ch sfx_cX12_least_256 33 rfl (by decide +kernel))
theorem dX12_least_290 : decode cX12_least 290 = .ok (.iconst 0, 1) := dc0 dO_3 (rdB.ch sfx_cX12_least_256 34 rfl (by decide +kernel))
theorem dX12_least_291 : decode cX12_least 291 = .ok (.bipush 21, 2) := dcS1 dO_16 (rdS1.ch sfx_cX12_least_256 35 rfl (by decide +kernel))
theorem dX12_least_293 : decode cX12_least 293 = .ok (.invokevirtual 707, 3) := dcU2 dO_182 (rdU2.ch sfx_cX12_least_256 37 rfl (by decide +kernel))
theorem dX12_least_296 : decode cX12_least 296 = .ok (.ireturn, 1) := dc0 dO_172 (rdB.ch sfx_cX12_least_256 40 rfl (by decide +kernel))
theorem dX12_led_0 : decode cX12_led 0 = .ok (.iload_n 1, 1) := dc0 dO_27 (by decide +kernel)
theorem dX12_led_1 : decode cX12_led 1 = .ok (.iconst 0, 1) := dc0 dO_3 (by decide +kernel)
theorem dX12_led_2 : decode cX12_led 2 = .ok (.aload_n 0, 1) := dc0 dO_42 (by decide +kernel)
theorem dX12_led_3 : decode cX12_led 3 = .ok (.getfield 692, 3) := dcU2 dO_180 (by decide +kernel)
theorem dX12_led_6 : decode cX12_led 6 = .ok (.iconst 1, 1) := dc0 dO_4 (by decide +kernel)
theorem dX12_led_7 : decode cX12_led 7 = .ok (.isub, 1) := dc0 dO_100 (by decide +kernel)
theorem dX12_led_8 : decode cX12_led 8 = .ok (.invokestatic 18, 3) := dcU2 dO_184 (by decide +kernel)
theorem dX12_led_11 : decode cX12_led 11 = .ok (.ifCond .eq 12, 3) := dcS2 dO_153 (by decide +kernel)
theorem dX12_led_14 : decode cX12_led 14 = .ok (.aload_n 0, 1) := dc0 dO_42 (by decide +kernel)
theorem dX12_led_15 : decode cX12_led 15 = .ok (.getfield 490, 3) := dcU2 dO_180 (by decide +kernel)
theorem dX12_led_18 : decode cX12_led 18 = .ok (.iload_n 1, 1) := dc0 dO_27 (by decide +kernel)
theorem dX12_led_19 : decode cX12_led 19 = .ok (.iaload, 1) := dc0 dO_46 (by decide +kernel)
theorem dX12_led_20 : decode cX12_led 20 = .ok (.goto 5, 3) := dcS2 dO_167 (by decide +kernel)
theorem dX12_led_23 : decode cX12_led 23 = .ok (.ldc 29, 2) := dcU1 dO_18 (by decide +kernel)
theorem dX12_led_25 : decode cX12_led 25 = .ok (.ireturn, 1) := dc0 dO_172 (by decide +kernel)
theorem dX12_marksRight_0 : decode cX12_marksRight 0 = .ok (.iload_n 2, 1) := dc0 dO_28 (by decide +kernel)
theorem dX12_marksRight_1 : decode cX12_marksRight 1 = .ok (.iconst 4, 1) := dc0 dO_7 (by decide +kernel)
theorem dX12_marksRight_2 : decode cX12_marksRight 2 = .ok (.irem, 1) := dc0 dO_112 (by decide +kernel)
theorem dX12_marksRight_3 : decode cX12_marksRight 3 = .ok (.ifCond .eq 5, 3) := dcS2 dO_153 (by decide +kernel)
theorem dX12_marksRight_6 : decode cX12_marksRight 6 = .ok (.iconst 0, 1) := dc0 dO_3 (by decide +kernel)
theorem dX12_marksRight_7 : decode cX12_marksRight 7 = .ok (.ireturn, 1) := dc0 dO_172 (by decide +kernel)
theorem dX12_marksRight_8 : decode cX12_marksRight 8 = .ok (.iconst 0, 1) := dc0 dO_3 (by decide +kernel)
theorem dX12_marksRight_9 : decode cX12_marksRight 9 = .ok (.istore_n 3, 1) := dc0 dO_62 (by decide +kernel)
theorem dX12_marksRight_10 : decode cX12_marksRight 10 = .ok (.iload_n 3, 1) := dc0 dO_29 (by decide +kernel)
theorem dX12_marksRight_11 : decode cX12_marksRight 11 = .ok (.iload_n 2, 1) := dc0 dO_28 (by decide +kernel)
theorem dX12_marksRight_12 : decode cX12_marksRight 12 = .ok (.if_icmp .ge 70, 3) := dcS2 dO_162 (by decide +kernel)
theorem dX12_marksRight_15 : decode cX12_marksRight 15 = .ok (.aload_n 0, 1) := dc0 dO_42 (by decide +kernel)
theorem dX12_marksRight_16 : decode cX12_marksRight 16 = .ok (.iload_n 1, 1) := dc0 dO_27 (by decide +kernel)
theorem dX12_marksRight_17 : decode cX12_marksRight 17 = .ok (.iload_n 3, 1) := dc0 dO_29 (by decide +kernel)
theorem dX12_marksRight_18 : decode cX12_marksRight 18 = .ok (.iadd, 1) := dc0 dO_96 (by decide +kernel)
theorem dX12_marksRight_19 : decode cX12_marksRight 19 = .ok (.iconst 2, 1) := dc0 dO_5 (by decide +kernel)
theorem dX12_marksRight_20 : decode cX12_marksRight 20 = .ok (.iadd, 1) := dc0 dO_96 (by decide +kernel)
theorem dX12_marksRight_21 : decode cX12_marksRight 21 = .ok (.iconst 2, 1) := dc0 dO_5 (by decide +kernel)
theorem dX12_marksRight_22 : decode cX12_marksRight 22 = .ok (.invokevirtual 623, 3) := dcU2 dO_182 (by decide +kernel)
theorem dX12_marksRight_25 : decode cX12_marksRight 25 = .ok (.istore 4, 2) := dcU1 dO_54 (by decide +kernel)
theorem dX12_marksRight_27 : decode cX12_marksRight 27 = .ok (.aload_n 0, 1) := dc0 dO_42 (by decide +kernel)
theorem dX12_marksRight_28 : decode cX12_marksRight 28 = .ok (.getfield 637, 3) := dcU2 dO_180 (by decide +kernel)
theorem dX12_marksRight_31 : decode cX12_marksRight 31 = .ok (.bipush 8, 2) := dcS1 dO_16 (by decide +kernel)
theorem dX12_marksRight_33 : decode cX12_marksRight 33 = .ok (.if_icmp .ge 43, 3) := dcS2 dO_162 (by decide +kernel)
theorem dX12_marksRight_36 : decode cX12_marksRight 36 = .ok (.aload_n 0, 1) := dc0 dO_42 (by decide +kernel)
theorem dX12_marksRight_37 : decode cX12_marksRight 37 = .ok (.bipush 24, 2) := dcS1 dO_16 (by decide +kernel)
theorem dX12_marksRight_39 : decode cX12_marksRight 39 = .ok (.iload 4, 2) := dcU1 dO_21 (by decide +kernel)
theorem dX12_marksRight_41 : decode cX12_marksRight 41 = .ok (.invokevirtual 154, 3) := dcU2 dO_182 (by decide +kernel)
theorem dX12_marksRight_44 : decode cX12_marksRight 44 = .ok (.ifCond .ne 32, 3) := dcS2 dO_154 (by decide +kernel)
theorem dX12_marksRight_47 : decode cX12_marksRight 47 = .ok (.aload_n 0, 1) := dc0 dO_42 (by decide +kernel)
theorem dX12_marksRight_48 : decode cX12_marksRight 48 = .ok (.bipush 24, 2) := dcS1 dO_16 (by decide +kernel)
theorem dX12_marksRight_50 : decode cX12_marksRight 50 = .ok (.iload 4, 2) := dcU1 dO_21 (by decide +kernel)
theorem dX12_marksRight_52 : decode cX12_marksRight 52 = .ok (.invokevirtual 401, 3) := dcU2 dO_182 (by decide +kernel)
theorem dX12_marksRight_55 : decode cX12_marksRight 55 = .ok (.aload_n 0, 1) := dc0 dO_42 (by decide +kernel)
theorem dX12_marksRight_56 : decode cX12_marksRight 56 = .ok (.getfield 481, 3) := dcU2 dO_180 (by decide +kernel)
theorem dX12_marksRight_59 : decode cX12_marksRight 59 = .ok (.aload_n 0, 1) := dc0 dO_42 (by decide +kernel)
theorem dX12_marksRight_60 : decode cX12_marksRight 60 = .ok (.getfield 637, 3) := dcU2 dO_180 (by decide +kernel)
theorem dX12_marksRight_63 : decode cX12_marksRight 63 = .ok (.iload 4, 2) := dcU1 dO_21 (by decide +kernel)
theorem dX12_marksRight_65 : decode cX12_marksRight 65 = .ok (.iastore, 1) := dc0 dO_79 (by decide +kernel)
theorem dX12_marksRight_66 : decode cX12_marksRight 66 = .ok (.aload_n 0, 1) := dc0 dO_42 (by decide +kernel)
theorem dX12_marksRight_67 : decode cX12_marksRight 67 = .ok (.dup, 1) := dc0 dO_89 (by decide +kernel)
theorem dX12_marksRight_68 : decode cX12_marksRight 68 = .ok (.getfield 637, 3) := dcU2 dO_180 (by decide +kernel)
theorem dX12_marksRight_71 : decode cX12_marksRight 71 = .ok (.iconst 1, 1) := dc0 dO_4 (by decide +kernel)
theorem dX12_marksRight_72 : decode cX12_marksRight 72 = .ok (.iadd, 1) := dc0 dO_96 (by decide +kernel)
theorem dX12_marksRight_73 : decode cX12_marksRight 73 = .ok (.putfield 637, 3) := dcU2 dO_181 (by decide +kernel)
theorem dX12_marksRight_76 : decode cX12_marksRight 76 = .ok (.iinc 3 4, 3) := dcI dO_132 (by decide +kernel)
theorem dX12_marksRight_79 : decode cX12_marksRight 79 = .ok (.goto (-69), 3) := dcS2 dO_167 (by decide +kernel)
theorem dX12_marksRight_82 : decode cX12_marksRight 82 = .ok (.iconst 1, 1) := dc0 dO_4 (by decide +kernel)
theorem dX12_marksRight_83 : decode cX12_marksRight 83 = .ok (.ireturn, 1) := dc0 dO_172 (by decide +kernel)
theorem dX12_nextEvent_0 : decode cX12_nextEvent 0 = .ok (.ldc 29, 2) := dcU1 dO_18 (by decide +kernel)
theorem dX12_nextEvent_2 : decode cX12_nextEvent 2 = .ok (.istore_n 1, 1) := dc0 dO_60 (by decide +kernel)
theorem dX12_nextEvent_3 : decode cX12_nextEvent 3 = .ok (.iconst 0, 1) := dc0 dO_3 (by decide +kernel)
theorem dX12_nextEvent_4 : decode cX12_nextEvent 4 = .ok (.istore_n 2, 1) := dc0 dO_61 (by decide +kernel)
theorem dX12_nextEvent_5 : decode cX12_nextEvent 5 = .ok (.iconst 0, 1) := dc0 dO_3 (by decide +kernel)
theorem dX12_nextEvent_6 : decode cX12_nextEvent 6 = .ok (.istore_n 3, 1) := dc0 dO_62 (by decide +kernel)
theorem dX12_nextEvent_7 : decode cX12_nextEvent 7 = .ok (.iconst 0, 1) := dc0 dO_3 (by decide +kernel)
theorem dX12_nextEvent_8 : decode cX12_nextEvent 8 = .ok (.istore 4, 2) := dcU1 dO_54 (by decide +kernel)
theorem dX12_nextEvent_10 : decode cX12_nextEvent 10 = .ok (.iload 4, 2) := dcU1 dO_21 (by decide +kernel)
theorem dX12_nextEvent_12 : decode cX12_nextEvent 12 = .ok (.sipush 800, 3) := dcS2 dO_17 (by decide +kernel)
theorem dX12_nextEvent_15 : decode cX12_nextEvent 15 = .ok (.if_icmp .ge 117, 3) := dcS2 dO_162 (by decide +kernel)
theorem dX12_nextEvent_18 : decode cX12_nextEvent 18 = .ok (.iload 4, 2) := dcU1 dO_21 (by decide +kernel)
theorem dX12_nextEvent_20 : decode cX12_nextEvent 20 = .ok (.sipush 400, 3) := dcS2 dO_17 (by decide +kernel)
theorem dX12_nextEvent_23 : decode cX12_nextEvent 23 = .ok (.if_icmp .ge 13, 3) := dcS2 dO_162 (by decide +kernel)
theorem dX12_nextEvent_26 : decode cX12_nextEvent 26 = .ok (.aload_n 0, 1) := dc0 dO_42 (by decide +kernel)
theorem dX12_nextEvent_27 : decode cX12_nextEvent 27 = .ok (.getfield 433, 3) := dcU2 dO_180 (by decide +kernel)
theorem dX12_nextEvent_30 : decode cX12_nextEvent 30 = .ok (.iload 4, 2) := dcU1 dO_21 (by decide +kernel)
theorem dX12_nextEvent_32 : decode cX12_nextEvent 32 = .ok (.iaload, 1) := dc0 dO_46 (by decide +kernel)
theorem dX12_nextEvent_33 : decode cX12_nextEvent 33 = .ok (.goto 14, 3) := dcS2 dO_167 (by decide +kernel)
theorem dX12_nextEvent_36 : decode cX12_nextEvent 36 = .ok (.aload_n 0, 1) := dc0 dO_42 (by decide +kernel)
theorem dX12_nextEvent_37 : decode cX12_nextEvent 37 = .ok (.getfield 439, 3) := dcU2 dO_180 (by decide +kernel)
theorem dX12_nextEvent_40 : decode cX12_nextEvent 40 = .ok (.iload 4, 2) := dcU1 dO_21 (by decide +kernel)
theorem dX12_nextEvent_42 : decode cX12_nextEvent 42 = .ok (.sipush 400, 3) := dcS2 dO_17 (by decide +kernel)
theorem dX12_nextEvent_45 : decode cX12_nextEvent 45 = .ok (.isub, 1) := dc0 dO_100 (by decide +kernel)
theorem dX12_nextEvent_46 : decode cX12_nextEvent 46 = .ok (.iaload, 1) := dc0 dO_46 (by decide +kernel)
theorem dX12_nextEvent_47 : decode cX12_nextEvent 47 = .ok (.istore 5, 2) := dcU1 dO_54 (by decide +kernel)
theorem dX12_nextEvent_49 : decode cX12_nextEvent 49 = .ok (.iload 4, 2) := dcU1 dO_21 (by decide +kernel)
theorem dX12_nextEvent_51 : decode cX12_nextEvent 51 = .ok (.sipush 400, 3) := dcS2 dO_17 (by decide +kernel)
theorem dX12_nextEvent_54 : decode cX12_nextEvent 54 = .ok (.if_icmp .ge 13, 3) := dcS2 dO_162 (by decide +kernel)
theorem dX12_nextEvent_57 : decode cX12_nextEvent 57 = .ok (.aload_n 0, 1) := dc0 dO_42 (by decide +kernel)
theorem dX12_nextEvent_58 : decode cX12_nextEvent 58 = .ok (.getfield 436, 3) := dcU2 dO_180 (by decide +kernel)
theorem dX12_nextEvent_61 : decode cX12_nextEvent 61 = .ok (.iload 4, 2) := dcU1 dO_21 (by decide +kernel)
theorem dX12_nextEvent_63 : decode cX12_nextEvent 63 = .ok (.iaload, 1) := dc0 dO_46 (by decide +kernel)
theorem dX12_nextEvent_64 : decode cX12_nextEvent 64 = .ok (.goto 14, 3) := dcS2 dO_167 (by decide +kernel)
theorem dX12_nextEvent_67 : decode cX12_nextEvent 67 = .ok (.aload_n 0, 1) := dc0 dO_42 (by decide +kernel)
theorem dX12_nextEvent_68 : decode cX12_nextEvent 68 = .ok (.getfield 442, 3) := dcU2 dO_180 (by decide +kernel)
theorem dX12_nextEvent_71 : decode cX12_nextEvent 71 = .ok (.iload 4, 2) := dcU1 dO_21 (by decide +kernel)
theorem dX12_nextEvent_73 : decode cX12_nextEvent 73 = .ok (.sipush 400, 3) := dcS2 dO_17 (by decide +kernel)
theorem dX12_nextEvent_76 : decode cX12_nextEvent 76 = .ok (.isub, 1) := dc0 dO_100 (by decide +kernel)
theorem dX12_nextEvent_77 : decode cX12_nextEvent 77 = .ok (.iaload, 1) := dc0 dO_46 (by decide +kernel)
theorem dX12_nextEvent_78 : decode cX12_nextEvent 78 = .ok (.istore 6, 2) := dcU1 dO_54 (by decide +kernel)
theorem dX12_nextEvent_80 : decode cX12_nextEvent 80 = .ok (.iload 5, 2) := dcU1 dO_21 (by decide +kernel)
theorem dX12_nextEvent_82 : decode cX12_nextEvent 82 = .ok (.ifCond .lt 44, 3) := dcS2 dO_155 (by decide +kernel)
theorem dX12_nextEvent_85 : decode cX12_nextEvent 85 = .ok (.iload 5, 2) := dcU1 dO_21 (by decide +kernel)
theorem dX12_nextEvent_87 : decode cX12_nextEvent 87 = .ok (.ldc_w 606, 3) := dcU2 dO_19 (by decide +kernel)
theorem dX12_nextEvent_90 : decode cX12_nextEvent 90 = .ok (.if_icmp .gt 36, 3) := dcS2 dO_163 (by decide +kernel)
theorem dX12_nextEvent_93 : decode cX12_nextEvent 93 = .ok (.iload_n 1, 1) := dc0 dO_27 (by decide +kernel)
theorem dX12_nextEvent_94 : decode cX12_nextEvent 94 = .ok (.ldc 29, 2) := dcU1 dO_18 (by decide +kernel)
theorem dX12_nextEvent_96 : decode cX12_nextEvent 96 = .ok (.if_icmp .eq 21, 3) := dcS2 dO_159 (by decide +kernel)
theorem dX12_nextEvent_99 : decode cX12_nextEvent 99 = .ok (.iload 5, 2) := dcU1 dO_21 (by decide +kernel)
theorem dX12_nextEvent_101 : decode cX12_nextEvent 101 = .ok (.iload_n 2, 1) := dc0 dO_28 (by decide +kernel)
theorem dX12_nextEvent_102 : decode cX12_nextEvent 102 = .ok (.if_icmp .lt 15, 3) := dcS2 dO_161 (by decide +kernel)
theorem dX12_nextEvent_105 : decode cX12_nextEvent 105 = .ok (.iload 5, 2) := dcU1 dO_21 (by decide +kernel)
theorem dX12_nextEvent_107 : decode cX12_nextEvent 107 = .ok (.iload_n 2, 1) := dc0 dO_28 (by decide +kernel)
theorem dX12_nextEvent_108 : decode cX12_nextEvent 108 = .ok (.if_icmp .ne 18, 3) := dcS2 dO_160 (by decide +kernel)
theorem dX12_nextEvent_111 : decode cX12_nextEvent 111 = .ok (.iload 6, 2) := dcU1 dO_21 (by decide +kernel)
theorem dX12_nextEvent_113 : decode cX12_nextEvent 113 = .ok (.iload_n 3, 1) := dc0 dO_29 (by decide +kernel)
theorem dX12_nextEvent_114 : decode cX12_nextEvent 114 = .ok (.if_icmp .ge 12, 3) := dcS2 dO_162 (by decide +kernel)
theorem dX12_nextEvent_117 : decode cX12_nextEvent 117 = .ok (.iload 4, 2) := dcU1 dO_21 (by decide +kernel)
theorem dX12_nextEvent_119 : decode cX12_nextEvent 119 = .ok (.istore_n 1, 1) := dc0 dO_60 (by decide +kernel)
theorem dX12_nextEvent_120 : decode cX12_nextEvent 120 = .ok (.iload 5, 2) := dcU1 dO_21 (by decide +kernel)
theorem dX12_nextEvent_122 : decode cX12_nextEvent 122 = .ok (.istore_n 2, 1) := dc0 dO_61 (by decide +kernel)
theorem dX12_nextEvent_123 : decode cX12_nextEvent 123 = .ok (.iload 6, 2) := dcU1 dO_21 (by decide +kernel)
theorem dX12_nextEvent_125 : decode cX12_nextEvent 125 = .ok (.istore_n 3, 1) := dc0 dO_62 (by decide +kernel)
theorem dX12_nextEvent_126 : decode cX12_nextEvent 126 = .ok (.iinc 4 1, 3) := dcI dO_132 (by decide +kernel)
theorem sfx_cX12_nextEvent_128 : (cX12_nextEvent.data.toList.drop 128).take 67 = [1, 167, 255, 137, 27, 172] := by decide +kernel
theorem dX12_nextEvent_129 : decode cX12_nextEvent 129 = .ok (.goto (-119), 3) := dcS2 dO_167 (rdS2.ch sfx_cX12_nextEvent_128 1 rfl (by decide +kernel))
theorem dX12_nextEvent_132 : decode cX12_nextEvent 132 = .ok (.iload_n 1, 1) := dc0 dO_27 (rdB.ch sfx_cX12_nextEvent_128 4 rfl (by decide +kernel))
theorem dX12_nextEvent_133 : decode cX12_nextEvent 133 = .ok (.ireturn, 1) := dc0 dO_172 (rdB.ch sfx_cX12_nextEvent_128 5 rfl (by decide +kernel))
theorem dX12_nodeOf_0 : decode cX12_nodeOf 0 = .ok (.iconst 0, 1) := dc0 dO_3 (by decide +kernel)
theorem dX12_nodeOf_1 : decode cX12_nodeOf 1 = .ok (.istore_n 3, 1) := dc0 dO_62 (by decide +kernel)
theorem dX12_nodeOf_2 : decode cX12_nodeOf 2 = .ok (.iload_n 3, 1) := dc0 dO_29 (by decide +kernel)
theorem dX12_nodeOf_3 : decode cX12_nodeOf 3 = .ok (.aload_n 0, 1) := dc0 dO_42 (by decide +kernel)
theorem dX12_nodeOf_4 : decode cX12_nodeOf 4 = .ok (.getfield 698, 3) := dcU2 dO_180 (by decide +kernel)
theorem dX12_nodeOf_7 : decode cX12_nodeOf 7 = .ok (.if_icmp .ge 31, 3) := dcS2 dO_162 (by decide +kernel)
theorem dX12_nodeOf_10 : decode cX12_nodeOf 10 = .ok (.aload_n 0, 1) := dc0 dO_42 (by decide +kernel)
theorem dX12_nodeOf_11 : decode cX12_nodeOf 11 = .ok (.getfield 502, 3) := dcU2 dO_180 (by decide +kernel)
theorem dX12_nodeOf_14 : decode cX12_nodeOf 14 = .ok (.iload_n 3, 1) := dc0 dO_29 (by decide +kernel)
theorem dX12_nodeOf_15 : decode cX12_nodeOf 15 = .ok (.iaload, 1) := dc0 dO_46 (by decide +kernel)
theorem dX12_nodeOf_16 : decode cX12_nodeOf 16 = .ok (.iload_n 1, 1) := dc0 dO_27 (by decide +kernel)
theorem dX12_nodeOf_17 : decode cX12_nodeOf 17 = .ok (.if_icmp .ne 15, 3) := dcS2 dO_160 (by decide +kernel)
theorem dX12_nodeOf_20 : decode cX12_nodeOf 20 = .ok (.aload_n 0, 1) := dc0 dO_42 (by decide +kernel)
theorem dX12_nodeOf_21 : decode cX12_nodeOf 21 = .ok (.getfield 505, 3) := dcU2 dO_180 (by decide +kernel)
theorem dX12_nodeOf_24 : decode cX12_nodeOf 24 = .ok (.iload_n 3, 1) := dc0 dO_29 (by decide +kernel)
theorem dX12_nodeOf_25 : decode cX12_nodeOf 25 = .ok (.iaload, 1) := dc0 dO_46 (by decide +kernel)
theorem dX12_nodeOf_26 : decode cX12_nodeOf 26 = .ok (.iload_n 2, 1) := dc0 dO_28 (by decide +kernel)
theorem dX12_nodeOf_27 : decode cX12_nodeOf 27 = .ok (.if_icmp .ne 5, 3) := dcS2 dO_160 (by decide +kernel)
theorem dX12_nodeOf_30 : decode cX12_nodeOf 30 = .ok (.iload_n 3, 1) := dc0 dO_29 (by decide +kernel)
theorem dX12_nodeOf_31 : decode cX12_nodeOf 31 = .ok (.ireturn, 1) := dc0 dO_172 (by decide +kernel)
theorem dX12_nodeOf_32 : decode cX12_nodeOf 32 = .ok (.iinc 3 1, 3) := dcI dO_132 (by decide +kernel)
theorem dX12_nodeOf_35 : decode cX12_nodeOf 35 = .ok (.goto (-33), 3) := dcS2 dO_167 (by decide +kernel)
theorem dX12_nodeOf_38 : decode cX12_nodeOf 38 = .ok (.ldc 29, 2) := dcU1 dO_18 (by decide +kernel)
theorem dX12_nodeOf_40 : decode cX12_nodeOf 40 = .ok (.ireturn, 1) := dc0 dO_172 (by decide +kernel)
theorem dX12_number_0 : decode cX12_number 0 = .ok (.iconst 0, 1) := dc0 dO_3 (by decide +kernel)
theorem dX12_number_1 : decode cX12_number 1 = .ok (.istore_n 3, 1) := dc0 dO_62 (by decide +kernel)
theorem dX12_number_2 : decode cX12_number 2 = .ok (.iconst 0, 1) := dc0 dO_3 (by decide +kernel)
theorem dX12_number_3 : decode cX12_number 3 = .ok (.istore 4, 2) := dcU1 dO_54 (by decide +kernel)
theorem dX12_number_5 : decode cX12_number 5 = .ok (.iload 4, 2) := dcU1 dO_21 (by decide +kernel)
theorem dX12_number_7 : decode cX12_number 7 = .ok (.iload_n 2, 1) := dc0 dO_28 (by decide +kernel)
theorem dX12_number_8 : decode cX12_number 8 = .ok (.if_icmp .ge 23, 3) := dcS2 dO_162 (by decide +kernel)
theorem dX12_number_11 : decode cX12_number 11 = .ok (.iload_n 3, 1) := dc0 dO_29 (by decide +kernel)
theorem dX12_number_12 : decode cX12_number 12 = .ok (.bipush 8, 2) := dcS1 dO_16 (by decide +kernel)
theorem dX12_number_14 : decode cX12_number 14 = .ok (.ishl, 1) := dc0 dO_120 (by decide +kernel)
theorem dX12_number_15 : decode cX12_number 15 = .ok (.aload_n 0, 1) := dc0 dO_42 (by decide +kernel)
theorem dX12_number_16 : decode cX12_number 16 = .ok (.iload_n 1, 1) := dc0 dO_27 (by decide +kernel)
theorem dX12_number_17 : decode cX12_number 17 = .ok (.iload 4, 2) := dcU1 dO_21 (by decide +kernel)
theorem dX12_number_19 : decode cX12_number 19 = .ok (.iadd, 1) := dc0 dO_96 (by decide +kernel)
theorem dX12_number_20 : decode cX12_number 20 = .ok (.invokevirtual 227, 3) := dcU2 dO_182 (by decide +kernel)
theorem dX12_number_23 : decode cX12_number 23 = .ok (.ior, 1) := dc0 dO_128 (by decide +kernel)
theorem dX12_number_24 : decode cX12_number 24 = .ok (.istore_n 3, 1) := dc0 dO_62 (by decide +kernel)
theorem dX12_number_25 : decode cX12_number 25 = .ok (.iinc 4 1, 3) := dcI dO_132 (by decide +kernel)
theorem dX12_number_28 : decode cX12_number 28 = .ok (.goto (-23), 3) := dcS2 dO_167 (by decide +kernel)
theorem dX12_number_31 : decode cX12_number 31 = .ok (.iload_n 3, 1) := dc0 dO_29 (by decide +kernel)
theorem dX12_number_32 : decode cX12_number 32 = .ok (.ireturn, 1) := dc0 dO_172 (by decide +kernel)
theorem dX12_octet_0 : decode cX12_octet 0 = .ok (.iload_n 1, 1) := dc0 dO_27 (by decide +kernel)
theorem dX12_octet_1 : decode cX12_octet 1 = .ok (.iconst 0, 1) := dc0 dO_3 (by decide +kernel)
theorem dX12_octet_2 : decode cX12_octet 2 = .ok (.aload_n 0, 1) := dc0 dO_42 (by decide +kernel)
theorem dX12_octet_3 : decode cX12_octet 3 = .ok (.getfield 671, 3) := dcU2 dO_180 (by decide +kernel)
theorem dX12_octet_6 : decode cX12_octet 6 = .ok (.iconst 1, 1) := dc0 dO_4 (by decide +kernel)
theorem dX12_octet_7 : decode cX12_octet 7 = .ok (.isub, 1) := dc0 dO_100 (by decide +kernel)
theorem dX12_octet_8 : decode cX12_octet 8 = .ok (.invokestatic 18, 3) := dcU2 dO_184 (by decide +kernel)
theorem dX12_octet_11 : decode cX12_octet 11 = .ok (.ifCond .eq 12, 3) := dcS2 dO_153 (by decide +kernel)
theorem dX12_octet_14 : decode cX12_octet 14 = .ok (.aload_n 0, 1) := dc0 dO_42 (by decide +kernel)
theorem dX12_octet_15 : decode cX12_octet 15 = .ok (.getfield 484, 3) := dcU2 dO_180 (by decide +kernel)
theorem dX12_octet_18 : decode cX12_octet 18 = .ok (.iload_n 1, 1) := dc0 dO_27 (by decide +kernel)
theorem dX12_octet_19 : decode cX12_octet 19 = .ok (.iaload, 1) := dc0 dO_46 (by decide +kernel)
theorem dX12_octet_20 : decode cX12_octet 20 = .ok (.goto 5, 3) := dcS2 dO_167 (by decide +kernel)
theorem dX12_octet_23 : decode cX12_octet 23 = .ok (.ldc 29, 2) := dcU1 dO_18 (by decide +kernel)
theorem dX12_octet_25 : decode cX12_octet 25 = .ok (.ireturn, 1) := dc0 dO_172 (by decide +kernel)
theorem dX12_octet1_0 : decode cX12_octet1 0 = .ok (.aload_n 0, 1) := dc0 dO_42 (by decide +kernel)
theorem dX12_octet1_1 : decode cX12_octet1 1 = .ok (.getfield 484, 3) := dcU2 dO_180 (by decide +kernel)
theorem dX12_octet1_4 : decode cX12_octet1 4 = .ok (.aload_n 0, 1) := dc0 dO_42 (by decide +kernel)
theorem dX12_octet1_5 : decode cX12_octet1 5 = .ok (.getfield 671, 3) := dcU2 dO_180 (by decide +kernel)
theorem dX12_octet1_8 : decode cX12_octet1 8 = .ok (.iload_n 1, 1) := dc0 dO_27 (by decide +kernel)
theorem dX12_octet1_9 : decode cX12_octet1 9 = .ok (.sipush 255, 3) := dcS2 dO_17 (by decide +kernel)
theorem dX12_octet1_12 : decode cX12_octet1 12 = .ok (.iand, 1) := dc0 dO_126 (by decide +kernel)
theorem dX12_octet1_13 : decode cX12_octet1 13 = .ok (.iastore, 1) := dc0 dO_79 (by decide +kernel)
theorem dX12_octet1_14 : decode cX12_octet1 14 = .ok (.aload_n 0, 1) := dc0 dO_42 (by decide +kernel)
theorem dX12_octet1_15 : decode cX12_octet1 15 = .ok (.dup, 1) := dc0 dO_89 (by decide +kernel)
theorem dX12_octet1_16 : decode cX12_octet1 16 = .ok (.getfield 671, 3) := dcU2 dO_180 (by decide +kernel)
theorem dX12_octet1_19 : decode cX12_octet1 19 = .ok (.iconst 1, 1) := dc0 dO_4 (by decide +kernel)
theorem dX12_octet1_20 : decode cX12_octet1 20 = .ok (.iadd, 1) := dc0 dO_96 (by decide +kernel)
theorem dX12_octet1_21 : decode cX12_octet1 21 = .ok (.putfield 671, 3) := dcU2 dO_181 (by decide +kernel)
theorem dX12_octet1_24 : decode cX12_octet1 24 = .ok (.return_, 1) := dc0 dO_177 (by decide +kernel)
theorem dX12_octet4_0 : decode cX12_octet4 0 = .ok (.bipush 24, 2) := dcS1 dO_16 (by decide +kernel)
theorem dX12_octet4_2 : decode cX12_octet4 2 = .ok (.istore_n 2, 1) := dc0 dO_61 (by decide +kernel)
theorem dX12_octet4_3 : decode cX12_octet4 3 = .ok (.iload_n 2, 1) := dc0 dO_28 (by decide +kernel)
theorem dX12_octet4_4 : decode cX12_octet4 4 = .ok (.ifCond .lt 16, 3) := dcS2 dO_155 (by decide +kernel)
theorem dX12_octet4_7 : decode cX12_octet4 7 = .ok (.aload_n 0, 1) := dc0 dO_42 (by decide +kernel)
theorem dX12_octet4_8 : decode cX12_octet4 8 = .ok (.iload_n 1, 1) := dc0 dO_27 (by decide +kernel)
theorem dX12_octet4_9 : decode cX12_octet4 9 = .ok (.iload_n 2, 1) := dc0 dO_28 (by decide +kernel)
theorem dX12_octet4_10 : decode cX12_octet4 10 = .ok (.ishr, 1) := dc0 dO_122 (by decide +kernel)
theorem dX12_octet4_11 : decode cX12_octet4 11 = .ok (.invokevirtual 674, 3) := dcU2 dO_182 (by decide +kernel)
theorem dX12_octet4_14 : decode cX12_octet4 14 = .ok (.iinc 2 (-8), 3) := dcI dO_132 (by decide +kernel)
theorem dX12_octet4_17 : decode cX12_octet4 17 = .ok (.goto (-14), 3) := dcS2 dO_167 (by decide +kernel)
theorem dX12_octet4_20 : decode cX12_octet4 20 = .ok (.return_, 1) := dc0 dO_177 (by decide +kernel)
theorem dX12_open_0 : decode cX12_open 0 = .ok (.iconst 1, 1) := dc0 dO_4 (by decide +kernel)
theorem dX12_open_1 : decode cX12_open 1 = .ok (.istore_n 2, 1) := dc0 dO_61 (by decide +kernel)
theorem dX12_open_2 : decode cX12_open 2 = .ok (.iload_n 2, 1) := dc0 dO_28 (by decide +kernel)
theorem dX12_open_3 : decode cX12_open 3 = .ok (.bipush 6, 2) := dcS1 dO_16 (by decide +kernel)
theorem dX12_open_5 : decode cX12_open 5 = .ok (.if_icmp .gt 32, 3) := dcS2 dO_163 (by decide +kernel)
theorem dX12_open_8 : decode cX12_open 8 = .ok (.aload_n 0, 1) := dc0 dO_42 (by decide +kernel)
theorem dX12_open_9 : decode cX12_open 9 = .ok (.getfield 526, 3) := dcU2 dO_180 (by decide +kernel)
theorem dX12_open_12 : decode cX12_open 12 = .ok (.iload_n 2, 1) := dc0 dO_28 (by decide +kernel)
theorem dX12_open_13 : decode cX12_open 13 = .ok (.iload_n 1, 1) := dc0 dO_27 (by decide +kernel)
theorem dX12_open_14 : decode cX12_open 14 = .ok (.aload_n 0, 1) := dc0 dO_42 (by decide +kernel)
theorem dX12_open_15 : decode cX12_open 15 = .ok (.getfield 523, 3) := dcU2 dO_180 (by decide +kernel)
theorem dX12_open_18 : decode cX12_open 18 = .ok (.iload_n 2, 1) := dc0 dO_28 (by decide +kernel)
theorem dX12_open_19 : decode cX12_open 19 = .ok (.iaload, 1) := dc0 dO_46 (by decide +kernel)
theorem dX12_open_20 : decode cX12_open 20 = .ok (.idiv, 1) := dc0 dO_108 (by decide +kernel)
theorem dX12_open_21 : decode cX12_open 21 = .ok (.aload_n 0, 1) := dc0 dO_42 (by decide +kernel)
theorem dX12_open_22 : decode cX12_open 22 = .ok (.getfield 514, 3) := dcU2 dO_180 (by decide +kernel)
theorem dX12_open_25 : decode cX12_open 25 = .ok (.iload_n 2, 1) := dc0 dO_28 (by decide +kernel)
theorem dX12_open_26 : decode cX12_open 26 = .ok (.iaload, 1) := dc0 dO_46 (by decide +kernel)
theorem dX12_open_27 : decode cX12_open 27 = .ok (.iconst 1, 1) := dc0 dO_4 (by decide +kernel)
theorem dX12_open_28 : decode cX12_open 28 = .ok (.iadd, 1) := dc0 dO_96 (by decide +kernel)
theorem dX12_open_29 : decode cX12_open 29 = .ok (.irem, 1) := dc0 dO_112 (by decide +kernel)
theorem dX12_open_30 : decode cX12_open 30 = .ok (.iastore, 1) := dc0 dO_79 (by decide +kernel)
theorem dX12_open_31 : decode cX12_open 31 = .ok (.iinc 2 1, 3) := dcI dO_132 (by decide +kernel)
theorem dX12_open_34 : decode cX12_open 34 = .ok (.goto (-32), 3) := dcS2 dO_167 (by decide +kernel)
theorem dX12_open_37 : decode cX12_open 37 = .ok (.return_, 1) := dc0 dO_177 (by decide +kernel)
theorem dX12_openLevel_0 : decode cX12_openLevel 0 = .ok (.aload_n 0, 1) := dc0 dO_42 (by decide +kernel)
theorem dX12_openLevel_1 : decode cX12_openLevel 1 = .ok (.getfield 250, 3) := dcU2 dO_180 (by decide +kernel)
theorem dX12_openLevel_4 : decode cX12_openLevel 4 = .ok (.aload_n 0, 1) := dc0 dO_42 (by decide +kernel)
theorem dX12_openLevel_5 : decode cX12_openLevel 5 = .ok (.getfield 254, 3) := dcU2 dO_180 (by decide +kernel)
theorem dX12_openLevel_8 : decode cX12_openLevel 8 = .ok (.lconst 0, 1) := dc0 dO_9 (by decide +kernel)
theorem dX12_openLevel_9 : decode cX12_openLevel 9 = .ok (.lastore, 1) := dc0 dO_80 (by decide +kernel)
theorem dX12_openLevel_10 : decode cX12_openLevel 10 = .ok (.aload_n 0, 1) := dc0 dO_42 (by decide +kernel)
theorem dX12_openLevel_11 : decode cX12_openLevel 11 = .ok (.getfield 257, 3) := dcU2 dO_180 (by decide +kernel)
theorem dX12_openLevel_14 : decode cX12_openLevel 14 = .ok (.aload_n 0, 1) := dc0 dO_42 (by decide +kernel)
theorem dX12_openLevel_15 : decode cX12_openLevel 15 = .ok (.getfield 254, 3) := dcU2 dO_180 (by decide +kernel)
theorem dX12_openLevel_18 : decode cX12_openLevel 18 = .ok (.lconst 0, 1) := dc0 dO_9 (by decide +kernel)
theorem dX12_openLevel_19 : decode cX12_openLevel 19 = .ok (.lastore, 1) := dc0 dO_80 (by decide +kernel)
theorem dX12_openLevel_20 : decode cX12_openLevel 20 = .ok (.aload_n 0, 1) := dc0 dO_42 (by decide +kernel)
theorem dX12_openLevel_21 : decode cX12_openLevel 21 = .ok (.getfield 260, 3) := dcU2 dO_180 (by decide +kernel)
theorem dX12_openLevel_24 : decode cX12_openLevel 24 = .ok (.aload_n 0, 1) := dc0 dO_42 (by decide +kernel)
theorem dX12_openLevel_25 : decode cX12_openLevel 25 = .ok (.getfield 254, 3) := dcU2 dO_180 (by decide +kernel)
theorem dX12_openLevel_28 : decode cX12_openLevel 28 = .ok (.iconst 0, 1) := dc0 dO_3 (by decide +kernel)
theorem dX12_openLevel_29 : decode cX12_openLevel 29 = .ok (.bastore, 1) := dc0 dO_84 (by decide +kernel)
theorem dX12_openLevel_30 : decode cX12_openLevel 30 = .ok (.aload_n 0, 1) := dc0 dO_42 (by decide +kernel)
theorem dX12_openLevel_31 : decode cX12_openLevel 31 = .ok (.invokevirtual 263, 3) := dcU2 dO_182 (by decide +kernel)
theorem dX12_openLevel_34 : decode cX12_openLevel 34 = .ok (.aload_n 0, 1) := dc0 dO_42 (by decide +kernel)
theorem dX12_openLevel_35 : decode cX12_openLevel 35 = .ok (.dup, 1) := dc0 dO_89 (by decide +kernel)
theorem dX12_openLevel_36 : decode cX12_openLevel 36 = .ok (.getfield 254, 3) := dcU2 dO_180 (by decide +kernel)
theorem dX12_openLevel_39 : decode cX12_openLevel 39 = .ok (.iconst 1, 1) := dc0 dO_4 (by decide +kernel)
theorem dX12_openLevel_40 : decode cX12_openLevel 40 = .ok (.iadd, 1) := dc0 dO_96 (by decide +kernel)
theorem dX12_openLevel_41 : decode cX12_openLevel 41 = .ok (.putfield 254, 3) := dcU2 dO_181 (by decide +kernel)
theorem dX12_openLevel_44 : decode cX12_openLevel 44 = .ok (.return_, 1) := dc0 dO_177 (by decide +kernel)
theorem dX12_originRight_0 : decode cX12_originRight 0 = .ok (.iload_n 2, 1) := dc0 dO_28 (by decide +kernel)
theorem dX12_originRight_1 : decode cX12_originRight 1 = .ok (.iconst 1, 1) := dc0 dO_4 (by decide +kernel)
theorem dX12_originRight_2 : decode cX12_originRight 2 = .ok (.if_icmp .ne 12, 3) := dcS2 dO_160 (by decide +kernel)
theorem dX12_originRight_5 : decode cX12_originRight 5 = .ok (.aload_n 0, 1) := dc0 dO_42 (by decide +kernel)
theorem dX12_originRight_6 : decode cX12_originRight 6 = .ok (.iload_n 1, 1) := dc0 dO_27 (by decide +kernel)
theorem dX12_originRight_7 : decode cX12_originRight 7 = .ok (.invokevirtual 227, 3) := dcU2 dO_182 (by decide +kernel)
theorem dX12_originRight_10 : decode cX12_originRight 10 = .ok (.iconst 2, 1) := dc0 dO_5 (by decide +kernel)
theorem dX12_originRight_11 : decode cX12_originRight 11 = .ok (.if_icmp .le 5, 3) := dcS2 dO_164 (by decide +kernel)
theorem dX12_originRight_14 : decode cX12_originRight 14 = .ok (.iconst 0, 1) := dc0 dO_3 (by decide +kernel)
theorem dX12_originRight_15 : decode cX12_originRight 15 = .ok (.ireturn, 1) := dc0 dO_172 (by decide +kernel)
theorem dX12_originRight_16 : decode cX12_originRight 16 = .ok (.aload_n 0, 1) := dc0 dO_42 (by decide +kernel)
theorem dX12_originRight_17 : decode cX12_originRight 17 = .ok (.getfield 148, 3) := dcU2 dO_180 (by decide +kernel)
theorem dX12_originRight_20 : decode cX12_originRight 20 = .ok (.sipush 962, 3) := dcS2 dO_17 (by decide +kernel)
theorem dX12_originRight_23 : decode cX12_originRight 23 = .ok (.aload_n 0, 1) := dc0 dO_42 (by decide +kernel)
theorem dX12_originRight_24 : decode cX12_originRight 24 = .ok (.iload_n 1, 1) := dc0 dO_27 (by decide +kernel)
theorem dX12_originRight_25 : decode cX12_originRight 25 = .ok (.invokevirtual 227, 3) := dcU2 dO_182 (by decide +kernel)
theorem dX12_originRight_28 : decode cX12_originRight 28 = .ok (.iastore, 1) := dc0 dO_79 (by decide +kernel)
theorem dX12_originRight_29 : decode cX12_originRight 29 = .ok (.aload_n 0, 1) := dc0 dO_42 (by decide +kernel)
theorem dX12_originRight_30 : decode cX12_originRight 30 = .ok (.iconst 1, 1) := dc0 dO_4 (by decide +kernel)
theorem dX12_originRight_31 : decode cX12_originRight 31 = .ok (.putfield 631, 3) := dcU2 dO_181 (by decide +kernel)
theorem dX12_originRight_34 : decode cX12_originRight 34 = .ok (.iconst 1, 1) := dc0 dO_4 (by decide +kernel)
theorem dX12_originRight_35 : decode cX12_originRight 35 = .ok (.ireturn, 1) := dc0 dO_172 (by decide +kernel)
theorem dX12_part_0 : decode cX12_part 0 = .ok (.aload_n 0, 1) := dc0 dO_42 (by decide +kernel)
theorem dX12_part_1 : decode cX12_part 1 = .ok (.getfield 655, 3) := dcU2 dO_180 (by decide +kernel)
theorem dX12_part_4 : decode cX12_part 4 = .ok (.ifCond .ne 6, 3) := dcS2 dO_154 (by decide +kernel)
theorem dX12_part_7 : decode cX12_part 7 = .ok (.ldc 29, 2) := dcU1 dO_18 (by decide +kernel)
theorem dX12_part_9 : decode cX12_part 9 = .ok (.ireturn, 1) := dc0 dO_172 (by decide +kernel)
theorem dX12_part_10 : decode cX12_part 10 = .ok (.iload_n 1, 1) := dc0 dO_27 (by decide +kernel)
theorem dX12_part_11 : decode cX12_part 11 = .ok (.ifCond .ne 25, 3) := dcS2 dO_154 (by decide +kernel)
theorem dX12_part_14 : decode cX12_part 14 = .ok (.aload_n 0, 1) := dc0 dO_42 (by decide +kernel)
theorem dX12_part_15 : decode cX12_part 15 = .ok (.getfield 668, 3) := dcU2 dO_180 (by decide +kernel)
theorem dX12_part_18 : decode cX12_part 18 = .ok (.ifCond .ne 8, 3) := dcS2 dO_154 (by decide +kernel)
theorem dX12_part_21 : decode cX12_part 21 = .ok (.ldc 29, 2) := dcU1 dO_18 (by decide +kernel)
theorem dX12_part_23 : decode cX12_part 23 = .ok (.goto 12, 3) := dcS2 dO_167 (by decide +kernel)
theorem dX12_part_26 : decode cX12_part 26 = .ok (.aload_n 0, 1) := dc0 dO_42 (by decide +kernel)
theorem dX12_part_27 : decode cX12_part 27 = .ok (.getfield 478, 3) := dcU2 dO_180 (by decide +kernel)
theorem dX12_part_30 : decode cX12_part 30 = .ok (.aload_n 0, 1) := dc0 dO_42 (by decide +kernel)
theorem dX12_part_31 : decode cX12_part 31 = .ok (.getfield 668, 3) := dcU2 dO_180 (by decide +kernel)
theorem dX12_part_34 : decode cX12_part 34 = .ok (.iaload, 1) := dc0 dO_46 (by decide +kernel)
theorem dX12_part_35 : decode cX12_part 35 = .ok (.ireturn, 1) := dc0 dO_172 (by decide +kernel)
theorem dX12_part_36 : decode cX12_part 36 = .ok (.aload_n 0, 1) := dc0 dO_42 (by decide +kernel)
theorem dX12_part_37 : decode cX12_part 37 = .ok (.getfield 665, 3) := dcU2 dO_180 (by decide +kernel)
theorem dX12_part_40 : decode cX12_part 40 = .ok (.ifCond .ne 7, 3) := dcS2 dO_154 (by decide +kernel)
theorem dX12_part_43 : decode cX12_part 43 = .ok (.iload_n 1, 1) := dc0 dO_27 (by decide +kernel)
theorem dX12_part_44 : decode cX12_part 44 = .ok (.ifCond .ge 6, 3) := dcS2 dO_156 (by decide +kernel)
theorem dX12_part_47 : decode cX12_part 47 = .ok (.ldc 29, 2) := dcU1 dO_18 (by decide +kernel)
theorem dX12_part_49 : decode cX12_part 49 = .ok (.ireturn, 1) := dc0 dO_172 (by decide +kernel)
theorem dX12_part_50 : decode cX12_part 50 = .ok (.sipush 960, 3) := dcS2 dO_17 (by decide +kernel)
theorem dX12_part_53 : decode cX12_part 53 = .ok (.istore_n 2, 1) := dc0 dO_61 (by decide +kernel)
theorem dX12_part_54 : decode cX12_part 54 = .ok (.iload_n 1, 1) := dc0 dO_27 (by decide +kernel)
theorem dX12_part_55 : decode cX12_part 55 = .ok (.iconst 1, 1) := dc0 dO_4 (by decide +kernel)
theorem dX12_part_56 : decode cX12_part 56 = .ok (.if_icmp .ne 8, 3) := dcS2 dO_160 (by decide +kernel)
theorem dX12_part_59 : decode cX12_part 59 = .ok (.aload_n 0, 1) := dc0 dO_42 (by decide +kernel)
theorem dX12_part_60 : decode cX12_part 60 = .ok (.getfield 625, 3) := dcU2 dO_180 (by decide +kernel)
theorem dX12_part_63 : decode cX12_part 63 = .ok (.ireturn, 1) := dc0 dO_172 (by decide +kernel)
theorem dX12_part_64 : decode cX12_part 64 = .ok (.iload_n 1, 1) := dc0 dO_27 (by decide +kernel)
theorem dX12_part_65 : decode cX12_part 65 = .ok (.iconst 2, 1) := dc0 dO_5 (by decide +kernel)
theorem dX12_part_66 : decode cX12_part 66 = .ok (.if_icmp .ne 8, 3) := dcS2 dO_160 (by decide +kernel)
theorem dX12_part_69 : decode cX12_part 69 = .ok (.aload_n 0, 1) := dc0 dO_42 (by decide +kernel)
theorem dX12_part_70 : decode cX12_part 70 = .ok (.getfield 628, 3) := dcU2 dO_180 (by decide +kernel)
theorem dX12_part_73 : decode cX12_part 73 = .ok (.ireturn, 1) := dc0 dO_172 (by decide +kernel)
theorem dX12_part_74 : decode cX12_part 74 = .ok (.iload_n 1, 1) := dc0 dO_27 (by decide +kernel)
theorem dX12_part_75 : decode cX12_part 75 = .ok (.iconst 3, 1) := dc0 dO_6 (by decide +kernel)
theorem dX12_part_76 : decode cX12_part 76 = .ok (.if_icmp .ne 8, 3) := dcS2 dO_160 (by decide +kernel)
theorem dX12_part_79 : decode cX12_part 79 = .ok (.aload_n 0, 1) := dc0 dO_42 (by decide +kernel)
theorem dX12_part_80 : decode cX12_part 80 = .ok (.getfield 652, 3) := dcU2 dO_180 (by decide +kernel)
theorem dX12_part_83 : decode cX12_part 83 = .ok (.ireturn, 1) := dc0 dO_172 (by decide +kernel)
theorem dX12_part_84 : decode cX12_part 84 = .ok (.iload_n 1, 1) := dc0 dO_27 (by decide +kernel)
theorem dX12_part_85 : decode cX12_part 85 = .ok (.iconst 4, 1) := dc0 dO_7 (by decide +kernel)
theorem dX12_part_86 : decode cX12_part 86 = .ok (.if_icmp .ne 12, 3) := dcS2 dO_160 (by decide +kernel)
theorem dX12_part_89 : decode cX12_part 89 = .ok (.aload_n 0, 1) := dc0 dO_42 (by decide +kernel)
theorem dX12_part_90 : decode cX12_part 90 = .ok (.getfield 148, 3) := dcU2 dO_180 (by decide +kernel)
theorem dX12_part_93 : decode cX12_part 93 = .ok (.iload_n 2, 1) := dc0 dO_28 (by decide +kernel)
theorem dX12_part_94 : decode cX12_part 94 = .ok (.iconst 2, 1) := dc0 dO_5 (by decide +kernel)
theorem dX12_part_95 : decode cX12_part 95 = .ok (.iadd, 1) := dc0 dO_96 (by decide +kernel)
theorem dX12_part_96 : decode cX12_part 96 = .ok (.iaload, 1) := dc0 dO_46 (by decide +kernel)
theorem dX12_part_97 : decode cX12_part 97 = .ok (.ireturn, 1) := dc0 dO_172 (by decide +kernel)
theorem dX12_part_98 : decode cX12_part 98 = .ok (.iload_n 1, 1) := dc0 dO_27 (by decide +kernel)
theorem dX12_part_99 : decode cX12_part 99 = .ok (.iconst 5, 1) := dc0 dO_8 (by decide +kernel)
theorem dX12_part_100 : decode cX12_part 100 = .ok (.if_icmp .ne 12, 3) := dcS2 dO_160 (by decide +kernel)
theorem dX12_part_103 : decode cX12_part 103 = .ok (.aload_n 0, 1) := dc0 dO_42 (by decide +kernel)
theorem dX12_part_104 : decode cX12_part 104 = .ok (.getfield 148, 3) := dcU2 dO_180 (by decide +kernel)
theorem dX12_part_107 : decode cX12_part 107 = .ok (.iload_n 2, 1) := dc0 dO_28 (by decide +kernel)
theorem dX12_part_108 : decode cX12_part 108 = .ok (.iconst 3, 1) := dc0 dO_6 (by decide +kernel)
theorem dX12_part_109 : decode cX12_part 109 = .ok (.iadd, 1) := dc0 dO_96 (by decide +kernel)
theorem dX12_part_110 : decode cX12_part 110 = .ok (.iaload, 1) := dc0 dO_46 (by decide +kernel)
theorem dX12_part_111 : decode cX12_part 111 = .ok (.ireturn, 1) := dc0 dO_172 (by decide +kernel)
theorem dX12_part_112 : decode cX12_part 112 = .ok (.iload_n 1, 1) := dc0 dO_27 (by decide +kernel)
theorem dX12_part_113 : decode cX12_part 113 = .ok (.bipush 6, 2) := dcS1 dO_16 (by decide +kernel)
theorem dX12_part_115 : decode cX12_part 115 = .ok (.if_icmp .ne 12, 3) := dcS2 dO_160 (by decide +kernel)
theorem dX12_part_118 : decode cX12_part 118 = .ok (.aload_n 0, 1) := dc0 dO_42 (by decide +kernel)
theorem dX12_part_119 : decode cX12_part 119 = .ok (.getfield 148, 3) := dcU2 dO_180 (by decide +kernel)
theorem dX12_part_122 : decode cX12_part 122 = .ok (.iload_n 2, 1) := dc0 dO_28 (by decide +kernel)
theorem dX12_part_123 : decode cX12_part 123 = .ok (.iconst 4, 1) := dc0 dO_7 (by decide +kernel)
theorem dX12_part_124 : decode cX12_part 124 = .ok (.iadd, 1) := dc0 dO_96 (by decide +kernel)
theorem dX12_part_125 : decode cX12_part 125 = .ok (.iaload, 1) := dc0 dO_46 (by decide +kernel)
theorem dX12_part_126 : decode cX12_part 126 = .ok (.ireturn, 1) := dc0 dO_172 (by decide +kernel)
theorem dX12_part_127 : decode cX12_part 127 = .ok (.iload_n 1, 1) := dc0 dO_27 (by decide +kernel)
theorem sfx_cX12_part_128 : (cX12_part.data.toList.drop 128).take 67 = [16, 7, 160, 0, 8, 42, 180, 2, 125, 172, 27, 16, 100, 112, 62, 27, 16, 100, 108, 54, 4, 21, 4, 4, 159, 0, 9, 21, 4, 5, 160, 0, 38, 29, 42, 180, 2, 113, 162, 0, 27, 21, 4, 4, 160, 0, 12, 42, 180, 1, 204, 29, 46, 167, 0, 14, 42, 180, 1, 207, 29, 46, 167, 0, 5, 18, 29] := by decide +kernel
theorem dX12_part_128 : decode cX12_part 128 = .ok (.bipush 7, 2) := dcS1 dO_16 (rdS1.ch sfx_cX12_part_128 0 rfl (by decide +kernel))
theorem dX12_part_130 : decode cX12_part 130 = .ok (.if_icmp .ne 8, 3) := dcS2 dO_160 (rdS2.ch sfx_cX12_part_128 2 rfl (by decide +kernel))
theorem dX12_part_133 : decode cX12_part 133 = .ok (.aload_n 0, 1) := dc0 dO_42 (rdB.ch sfx_cX12_part_128 5 rfl (by decide +kernel))
theorem dX12_part_134 : decode cX12_part 134 = .ok (.getfield 637, 3) := dcU2 dO_180 (rdU2.ch sfx_cX12_part_128 6 rfl (by decide +kernel))
theorem dX12_part_137 : decode cX12_part 137 = .ok (.ireturn, 1) := dc0 dO_172 (rdB.ch sfx_cX12_part_128 9 rfl (by decide +kernel))
theorem dX12_part_138 : decode cX12_part 138 = .ok (.iload_n 1, 1) := dc0 dO_27 (rdB.ch sfx_cX12_part_128 10 rfl (by decide +kernel))
theorem dX12_part_139 : decode cX12_part 139 = .ok (.bipush 100, 2) := dcS1 dO_16 (rdS1.ch sfx_cX12_part_128 11 rfl (by decide +kernel))
theorem dX12_part_141 : decode cX12_part 141 = .ok (.irem, 1) := dc0 dO_112 (rdB.ch sfx_cX12_part_128 13 rfl (by decide +kernel))
theorem dX12_part_142 : decode cX12_part 142 = .ok (.istore_n 3, 1) := dc0 dO_62 (rdB.ch sfx_cX12_part_128 14 rfl (by decide +kernel))
theorem dX12_part_143 : decode cX12_part 143 = .ok (.iload_n 1, 1) := dc0 dO_27 (rdB.ch sfx_cX12_part_128 15 rfl (by decide +kernel))
theorem dX12_part_144 : decode cX12_part 144 = .ok (.bipush 100, 2) := dcS1 dO_16 (rdS1.ch sfx_cX12_part_128 16 rfl (by decide +kernel))
theorem dX12_part_146 : decode cX12_part 146 = .ok (.idiv, 1) := dc0 dO_108 (rdB.ch sfx_cX12_part_128 18 rfl (by decide +kernel))
theorem dX12_part_147 : decode cX12_part 147 = .ok (.istore 4, 2) := dcU1 dO_54 (rdU1.ch sfx_cX12_part_128 19 rfl (by decide +kernel))
theorem dX12_part_149 : decode cX12_part 149 = .ok (.iload 4, 2) := dcU1 dO_21 (rdU1.ch sfx_cX12_part_128 21 rfl (by decide +kernel))
theorem dX12_part_151 : decode cX12_part 151 = .ok (.iconst 1, 1) := dc0 dO_4 (rdB.ch sfx_cX12_part_128 23 rfl (by decide +kernel))
theorem dX12_part_152 : decode cX12_part 152 = .ok (.if_icmp .eq 9, 3) := dcS2 dO_159 (rdS2.ch sfx_cX12_part_128 24 rfl (by decide +kernel))
theorem dX12_part_155 : decode cX12_part 155 = .ok (.iload 4, 2) := dcU1 dO_21 (rdU1.ch sfx_cX12_part_128 27 rfl (by decide +kernel))
theorem dX12_part_157 : decode cX12_part 157 = .ok (.iconst 2, 1) := dc0 dO_5 (rdB.ch sfx_cX12_part_128 29 rfl (by decide +kernel))
theorem dX12_part_158 : decode cX12_part 158 = .ok (.if_icmp .ne 38, 3) := dcS2 dO_160 (rdS2.ch sfx_cX12_part_128 30 rfl (by decide +kernel))
theorem dX12_part_161 : decode cX12_part 161 = .ok (.iload_n 3, 1) := dc0 dO_29 (rdB.ch sfx_cX12_part_128 33 rfl (by decide +kernel))
theorem dX12_part_162 : decode cX12_part 162 = .ok (.aload_n 0, 1) := dc0 dO_42 (rdB.ch sfx_cX12_part_128 34 rfl (by decide +kernel))
theorem dX12_part_163 : decode cX12_part 163 = .ok (.getfield 625, 3) := dcU2 dO_180 (rdU2.ch sfx_cX12_part_128 35 rfl (by decide +kernel))
theorem dX12_part_166 : decode cX12_part 166 = .ok (.if_icmp .ge 27, 3) := dcS2 dO_162 (rdS2.ch sfx_cX12_part_128 38 rfl (by decide +kernel))
theorem dX12_part_169 : decode cX12_part 169 = .ok (.iload 4, 2) := dcU1 dO_21 (rdU1.ch sfx_cX12_part_128 41 rfl (by decide +kernel))
theorem dX12_part_171 : decode cX12_part 171 = .ok (.iconst 1, 1) := dc0 dO_4 (rdB.ch sfx_cX12_part_128 43 rfl (by decide +kernel))
theorem dX12_part_172 : decode cX12_part 172 = .ok (.if_icmp .ne 12, 3) := dcS2 dO_160 (rdS2.ch sfx_cX12_part_128 44 rfl (by decide +kernel))
theorem dX12_part_175 : decode cX12_part 175 = .ok (.aload_n 0, 1) := dc0 dO_42 (rdB.ch sfx_cX12_part_128 47 rfl (by decide +kernel))
theorem dX12_part_176 : decode cX12_part 176 = .ok (.getfield 460, 3) := dcU2 dO_180 (rdU2.ch sfx_cX12_part_128 48 rfl (by decide +kernel))
theorem dX12_part_179 : decode cX12_part 179 = .ok (.iload_n 3, 1) := dc0 dO_29 (rdB.ch sfx_cX12_part_128 51 rfl (by decide +kernel))
theorem dX12_part_180 : decode cX12_part 180 = .ok (.iaload, 1) := dc0 dO_46 (rdB.ch sfx_cX12_part_128 52 rfl (by decide +kernel))
theorem dX12_part_181 : decode cX12_part 181 = .ok (.goto 14, 3) := dcS2 dO_167 (rdS2.ch sfx_cX12_part_128 53 rfl (by decide +kernel))
theorem dX12_part_184 : decode cX12_part 184 = .ok (.aload_n 0, 1) := dc0 dO_42 (rdB.ch sfx_cX12_part_128 56 rfl (by decide +kernel))
theorem dX12_part_185 : decode cX12_part 185 = .ok (.getfield 463, 3) := dcU2 dO_180 (rdU2.ch sfx_cX12_part_128 57 rfl (by decide +kernel))
theorem dX12_part_188 : decode cX12_part 188 = .ok (.iload_n 3, 1) := dc0 dO_29 (rdB.ch sfx_cX12_part_128 60 rfl (by decide +kernel))
theorem dX12_part_189 : decode cX12_part 189 = .ok (.iaload, 1) := dc0 dO_46 (rdB.ch sfx_cX12_part_128 61 rfl (by decide +kernel))
theorem dX12_part_190 : decode cX12_part 190 = .ok (.goto 5, 3) := dcS2 dO_167 (rdS2.ch sfx_cX12_part_128 62 rfl (by decide +kernel))
theorem sfx_cX12_part_192 : (cX12_part.data.toList.drop 192).take 67 = [5, 18, 29, 172, 21, 4, 6, 159, 0, 9, 21, 4, 7, 160, 0, 38, 29, 42, 180, 2, 116, 162, 0, 27, 21, 4, 6, 160, 0, 12, 42, 180, 1, 210, 29, 46, 167, 0, 14, 42, 180, 1, 213, 29, 46, 167, 0, 5, 18, 29, 172, 21, 4, 8, 160, 0, 32, 29, 42, 180, 0, 148, 28, 7, 96, 46, 162] := by decide +kernel
theorem dX12_part_193 : decode cX12_part 193 = .ok (.ldc 29, 2) := dcU1 dO_18 (rdU1.ch sfx_cX12_part_192 1 rfl (by decide +kernel))
theorem dX12_part_195 : decode cX12_part 195 = .ok (.ireturn, 1) := dc0 dO_172 (rdB.ch sfx_cX12_part_192 3 rfl (by decide +kernel))
theorem dX12_part_196 : decode cX12_part 196 = .ok (.iload 4, 2) := dcU1 dO_21 (rdU1.ch sfx_cX12_part_192 4 rfl (by decide +kernel))
theorem dX12_part_198 : decode cX12_part 198 = .ok (.iconst 3, 1) := dc0 dO_6 (rdB.ch sfx_cX12_part_192 6 rfl (by decide +kernel))
theorem dX12_part_199 : decode cX12_part 199 = .ok (.if_icmp .eq 9, 3) := dcS2 dO_159 (rdS2.ch sfx_cX12_part_192 7 rfl (by decide +kernel))
theorem dX12_part_202 : decode cX12_part 202 = .ok (.iload 4, 2) := dcU1 dO_21 (rdU1.ch sfx_cX12_part_192 10 rfl (by decide +kernel))
theorem dX12_part_204 : decode cX12_part 204 = .ok (.iconst 4, 1) := dc0 dO_7 (rdB.ch sfx_cX12_part_192 12 rfl (by decide +kernel))
theorem dX12_part_205 : decode cX12_part 205 = .ok (.if_icmp .ne 38, 3) := dcS2 dO_160 (rdS2.ch sfx_cX12_part_192 13 rfl (by decide +kernel))
theorem dX12_part_208 : decode cX12_part 208 = .ok (.iload_n 3, 1) := dc0 dO_29 (rdB.ch sfx_cX12_part_192 16 rfl (by decide +kernel))
theorem dX12_part_209 : decode cX12_part 209 = .ok (.aload_n 0, 1) := dc0 dO_42 (rdB.ch sfx_cX12_part_192 17 rfl (by decide +kernel))
theorem dX12_part_210 : decode cX12_part 210 = .ok (.getfield 628, 3) := dcU2 dO_180 (rdU2.ch sfx_cX12_part_192 18 rfl (by decide +kernel))
theorem dX12_part_213 : decode cX12_part 213 = .ok (.if_icmp .ge 27, 3) := dcS2 dO_162 (rdS2.ch sfx_cX12_part_192 21 rfl (by decide +kernel))
theorem dX12_part_216 : decode cX12_part 216 = .ok (.iload 4, 2) := dcU1 dO_21 (rdU1.ch sfx_cX12_part_192 24 rfl (by decide +kernel))
theorem dX12_part_218 : decode cX12_part 218 = .ok (.iconst 3, 1) := dc0 dO_6 (rdB.ch sfx_cX12_part_192 26 rfl (by decide +kernel))
theorem dX12_part_219 : decode cX12_part 219 = .ok (.if_icmp .ne 12, 3) := dcS2 dO_160 (rdS2.ch sfx_cX12_part_192 27 rfl (by decide +kernel))
theorem dX12_part_222 : decode cX12_part 222 = .ok (.aload_n 0, 1) := dc0 dO_42 (rdB.ch sfx_cX12_part_192 30 rfl (by decide +kernel))
theorem dX12_part_223 : decode cX12_part 223 = .ok (.getfield 466, 3) := dcU2 dO_180 (rdU2.ch sfx_cX12_part_192 31 rfl (by decide +kernel))
theorem dX12_part_226 : decode cX12_part 226 = .ok (.iload_n 3, 1) := dc0 dO_29 (rdB.ch sfx_cX12_part_192 34 rfl (by decide +kernel))
theorem dX12_part_227 : decode cX12_part 227 = .ok (.iaload, 1) := dc0 dO_46 (rdB.ch sfx_cX12_part_192 35 rfl (by decide +kernel))
theorem dX12_part_228 : decode cX12_part 228 = .ok (.goto 14, 3) := dcS2 dO_167 (rdS2.ch sfx_cX12_part_192 36 rfl (by decide +kernel))
theorem dX12_part_231 : decode cX12_part 231 = .ok (.aload_n 0, 1) := dc0 dO_42 (rdB.ch sfx_cX12_part_192 39 rfl (by decide +kernel))
theorem dX12_part_232 : decode cX12_part 232 = .ok (.getfield 469, 3) := dcU2 dO_180 (rdU2.ch sfx_cX12_part_192 40 rfl (by decide +kernel))
theorem dX12_part_235 : decode cX12_part 235 = .ok (.iload_n 3, 1) := dc0 dO_29 (rdB.ch sfx_cX12_part_192 43 rfl (by decide +kernel))
theorem dX12_part_236 : decode cX12_part 236 = .ok (.iaload, 1) := dc0 dO_46 (rdB.ch sfx_cX12_part_192 44 rfl (by decide +kernel))
theorem dX12_part_237 : decode cX12_part 237 = .ok (.goto 5, 3) := dcS2 dO_167 (rdS2.ch sfx_cX12_part_192 45 rfl (by decide +kernel))
theorem dX12_part_240 : decode cX12_part 240 = .ok (.ldc 29, 2) := dcU1 dO_18 (rdU1.ch sfx_cX12_part_192 48 rfl (by decide +kernel))
theorem dX12_part_242 : decode cX12_part 242 = .ok (.ireturn, 1) := dc0 dO_172 (rdB.ch sfx_cX12_part_192 50 rfl (by decide +kernel))
theorem dX12_part_243 : decode cX12_part 243 = .ok (.iload 4, 2) := dcU1 dO_21 (rdU1.ch sfx_cX12_part_192 51 rfl (by decide +kernel))
theorem dX12_part_245 : decode cX12_part 245 = .ok (.iconst 5, 1) := dc0 dO_8 (rdB.ch sfx_cX12_part_192 53 rfl (by decide +kernel))
theorem dX12_part_246 : decode cX12_part 246 = .ok (.if_icmp .ne 32, 3) := dcS2 dO_160 (rdS2.ch sfx_cX12_part_192 54 rfl (by decide +kernel))
theorem dX12_part_249 : decode cX12_part 249 = .ok (.iload_n 3, 1) := dc0 dO_29 (rdB.ch sfx_cX12_part_192 57 rfl (by decide +kernel))
theorem dX12_part_250 : decode cX12_part 250 = .ok (.aload_n 0, 1) := dc0 dO_42 (rdB.ch sfx_cX12_part_192 58 rfl (by decide +kernel))
theorem dX12_part_251 : decode cX12_part 251 = .ok (.getfield 148, 3) := dcU2 dO_180 (rdU2.ch sfx_cX12_part_192 59 rfl (by decide +kernel))
theorem dX12_part_254 : decode cX12_part 254 = .ok (.iload_n 2, 1) := dc0 dO_28 (rdB.ch sfx_cX12_part_192 62 rfl (by decide +kernel))
theorem dX12_part_255 : decode cX12_part 255 = .ok (.iconst 4, 1) := dc0 dO_7 (rdB.ch sfx_cX12_part_192 63 rfl (by decide +kernel))
theorem sfx_cX12_part_256 : (cX12_part.data.toList.drop 256).take 67 = [96, 46, 162, 0, 17, 42, 180, 0, 148, 28, 16, 6, 96, 29, 96, 46, 167, 0, 5, 18, 29, 172, 21, 4, 16, 6, 160, 0, 23, 29, 42, 180, 2, 125, 162, 0, 12, 42, 180, 1, 225, 29, 46, 167, 0, 5, 18, 29, 172, 21, 4, 16, 7, 160, 0, 20, 29, 42, 180, 2, 140, 162, 0, 12, 42, 180, 1] := by decide +kernel
theorem dX12_part_256 : decode cX12_part 256 = .ok (.iadd, 1) := dc0 dO_96 (rdB.ch sfx_cX12_part_256 0 rfl (by decide +kernel))
theorem dX12_part_257 : decode cX12_part 257 = .ok (.iaload, 1) := dc0 dO_46 (rdB.ch sfx_cX12_part_256 1 rfl (by decide +kernel))
theorem dX12_part_258 : decode cX12_part 258 = .ok (.if_icmp .ge 17, 3) := dcS2 dO_162 (rdS2.ch sfx_cX12_part_256 2 rfl (by decide +kernel))
theorem dX12_part_261 : decode cX12_part 261 = .ok (.aload_n 0, 1) := dc0 dO_42 (rdB.ch sfx_cX12_part_256 5 rfl (by decide +kernel))
theorem dX12_part_262 : decode cX12_part 262 = .ok (.getfield 148, 3) := dcU2 dO_180 (rdU2.ch sfx_cX12_part_256 6 rfl (by decide +kernel))
theorem dX12_part_265 : decode cX12_part 265 = .ok (.iload_n 2, 1) := dc0 dO_28 (rdB.ch sfx_cX12_part_256 9 rfl (by decide +kernel))
theorem dX12_part_266 : decode cX12_part 266 = .ok (.bipush 6, 2) := dcS1 dO_16 (rdS1.ch sfx_cX12_part_256 10 rfl (by decide +kernel))
theorem dX12_part_268 : decode cX12_part 268 = .ok (.iadd, 1) := dc0 dO_96 (rdB.ch sfx_cX12_part_256 12 rfl (by decide +kernel))
theorem dX12_part_269 : decode cX12_part 269 = .ok (.iload_n 3, 1) := dc0 dO_29 (rdB.ch sfx_cX12_part_256 13 rfl (by decide +kernel))
theorem dX12_part_270 : decode cX12_part 270 = .ok (.iadd, 1) := dc0 dO_96 (rdB.ch sfx_cX12_part_256 14 rfl (by decide +kernel))
theorem dX12_part_271 : decode cX12_part 271 = .ok (.iaload, 1) := dc0 dO_46 (rdB.ch sfx_cX12_part_256 15 rfl (by decide +kernel))
theorem dX12_part_272 : decode cX12_part 272 = .ok (.goto 5, 3) := dcS2 dO_167 (rdS2.ch sfx_cX12_part_256 16 rfl (by decide +kernel))
theorem dX12_part_275 : decode cX12_part 275 = .ok (.ldc 29, 2) := dcU1 dO_18 (rdU1.ch sfx_cX12_part_256 19 rfl (by decide +kernel))
theorem dX12_part_277 : decode cX12_part 277 = .ok (.ireturn, 1) := dc0 dO_172 (rdB.ch sfx_cX12_part_256 21 rfl (by decide +kernel))
theorem dX12_part_278 : decode cX12_part 278 = .ok (.iload 4, 2) := dcU1 dO_21 (rdU1.ch sfx_cX12_part_256 22 rfl (by decide +kernel))
theorem dX12_part_280 : decode cX12_part 280 = .ok (.bipush 6, 2) := dcS1 dO_16 (rdS1.ch sfx_cX12_part_256 24 rfl (by decide +kernel))
theorem dX12_part_282 : decode cX12_part 282 = .ok (.if_icmp .ne 23, 3) := dcS2 dO_160 (rdS2.ch sfx_cX12_part_256 26 rfl (by decide +kernel))
theorem dX12_part_285 : decode cX12_part 285 = .ok (.iload_n 3, 1) := dc0 dO_29 (rdB.ch sfx_cX12_part_256 29 rfl (by decide +kernel))
theorem dX12_part_286 : decode cX12_part 286 = .ok (.aload_n 0, 1) := dc0 dO_42 (rdB.ch sfx_cX12_part_256 30 rfl (by decide +kernel))
theorem dX12_part_287 : decode cX12_part 287 = .ok (.getfield 637, 3) := dcU2 dO_180 (rdU2.ch sfx_cX12_part_256 31 rfl (by decide +kernel))
theorem dX12_part_290 : decode cX12_part 290 = .ok (.if_icmp .ge 12, 3) := dcS2 dO_162 (rdS2.ch sfx_cX12_part_256 34 rfl (by decide +kernel))
theorem dX12_part_293 : decode cX12_part 293 = .ok (.aload_n 0, 1) := dc0 dO_42 (rdB.ch sfx_cX12_part_256 37 rfl (by decide +kernel))
theorem dX12_part_294 : decode cX12_part 294 = .ok (.getfield 481, 3) := dcU2 dO_180 (rdU2.ch sfx_cX12_part_256 38 rfl (by decide +kernel))
theorem dX12_part_297 : decode cX12_part 297 = .ok (.iload_n 3, 1) := dc0 dO_29 (rdB.ch sfx_cX12_part_256 41 rfl (by decide +kernel))
theorem dX12_part_298 : decode cX12_part 298 = .ok (.iaload, 1) := dc0 dO_46 (rdB.ch sfx_cX12_part_256 42 rfl (by decide +kernel))
theorem dX12_part_299 : decode cX12_part 299 = .ok (.goto 5, 3) := dcS2 dO_167 (rdS2.ch sfx_cX12_part_256 43 rfl (by decide +kernel))
theorem dX12_part_302 : decode cX12_part 302 = .ok (.ldc 29, 2) := dcU1 dO_18 (rdU1.ch sfx_cX12_part_256 46 rfl (by decide +kernel))
theorem dX12_part_304 : decode cX12_part 304 = .ok (.ireturn, 1) := dc0 dO_172 (rdB.ch sfx_cX12_part_256 48 rfl (by decide +kernel))
theorem dX12_part_305 : decode cX12_part 305 = .ok (.iload 4, 2) := dcU1 dO_21 (rdU1.ch sfx_cX12_part_256 49 rfl (by decide +kernel))
theorem dX12_part_307 : decode cX12_part 307 = .ok (.bipush 7, 2) := dcS1 dO_16 (rdS1.ch sfx_cX12_part_256 51 rfl (by decide +kernel))
theorem dX12_part_309 : decode cX12_part 309 = .ok (.if_icmp .ne 20, 3) := dcS2 dO_160 (rdS2.ch sfx_cX12_part_256 53 rfl (by decide +kernel))
theorem dX12_part_312 : decode cX12_part 312 = .ok (.iload_n 3, 1) := dc0 dO_29 (rdB.ch sfx_cX12_part_256 56 rfl (by decide +kernel))
theorem dX12_part_313 : decode cX12_part 313 = .ok (.aload_n 0, 1) := dc0 dO_42 (rdB.ch sfx_cX12_part_256 57 rfl (by decide +kernel))
theorem dX12_part_314 : decode cX12_part 314 = .ok (.getfield 652, 3) := dcU2 dO_180 (rdU2.ch sfx_cX12_part_256 58 rfl (by decide +kernel))
theorem dX12_part_317 : decode cX12_part 317 = .ok (.if_icmp .ge 12, 3) := dcS2 dO_162 (rdS2.ch sfx_cX12_part_256 61 rfl (by decide +kernel))
theorem sfx_cX12_part_320 : (cX12_part.data.toList.drop 320).take 67 = [42, 180, 1, 216, 29, 46, 167, 0, 5, 18, 29, 172] := by decide +kernel
theorem dX12_part_320 : decode cX12_part 320 = .ok (.aload_n 0, 1) := dc0 dO_42 (rdB.ch sfx_cX12_part_320 0 rfl (by decide +kernel))
theorem dX12_part_321 : decode cX12_part 321 = .ok (.getfield 472, 3) := dcU2 dO_180 (rdU2.ch sfx_cX12_part_320 1 rfl (by decide +kernel))
theorem dX12_part_324 : decode cX12_part 324 = .ok (.iload_n 3, 1) := dc0 dO_29 (rdB.ch sfx_cX12_part_320 4 rfl (by decide +kernel))
theorem dX12_part_325 : decode cX12_part 325 = .ok (.iaload, 1) := dc0 dO_46 (rdB.ch sfx_cX12_part_320 5 rfl (by decide +kernel))
theorem dX12_part_326 : decode cX12_part 326 = .ok (.goto 5, 3) := dcS2 dO_167 (rdS2.ch sfx_cX12_part_320 6 rfl (by decide +kernel))
theorem dX12_part_329 : decode cX12_part 329 = .ok (.ldc 29, 2) := dcU1 dO_18 (rdU1.ch sfx_cX12_part_320 9 rfl (by decide +kernel))
theorem dX12_part_331 : decode cX12_part 331 = .ok (.ireturn, 1) := dc0 dO_172 (rdB.ch sfx_cX12_part_320 11 rfl (by decide +kernel))
theorem dX12_partOf_0 : decode cX12_partOf 0 = .ok (.iload_n 1, 1) := dc0 dO_27 (by decide +kernel)
theorem dX12_partOf_1 : decode cX12_partOf 1 = .ok (.istore 4, 2) := dcU1 dO_54 (by decide +kernel)
theorem dX12_partOf_3 : decode cX12_partOf 3 = .ok (.iload 4, 2) := dcU1 dO_21 (by decide +kernel)
theorem dX12_partOf_5 : decode cX12_partOf 5 = .ok (.iload_n 2, 1) := dc0 dO_28 (by decide +kernel)
theorem dX12_partOf_6 : decode cX12_partOf 6 = .ok (.if_icmp .ge 171, 3) := dcS2 dO_162 (by decide +kernel)
theorem dX12_partOf_9 : decode cX12_partOf 9 = .ok (.aload_n 0, 1) := dc0 dO_42 (by decide +kernel)
theorem dX12_partOf_10 : decode cX12_partOf 10 = .ok (.iload 4, 2) := dcU1 dO_21 (by decide +kernel)
theorem dX12_partOf_12 : decode cX12_partOf 12 = .ok (.invokevirtual 227, 3) := dcU2 dO_182 (by decide +kernel)
theorem dX12_partOf_15 : decode cX12_partOf 15 = .ok (.istore 5, 2) := dcU1 dO_54 (by decide +kernel)
theorem dX12_partOf_17 : decode cX12_partOf 17 = .ok (.iload 5, 2) := dcU1 dO_21 (by decide +kernel)
theorem dX12_partOf_19 : decode cX12_partOf 19 = .ok (.bipush 7, 2) := dcS1 dO_16 (by decide +kernel)
theorem dX12_partOf_21 : decode cX12_partOf 21 = .ok (.iadd, 1) := dc0 dO_96 (by decide +kernel)
theorem dX12_partOf_22 : decode cX12_partOf 22 = .ok (.bipush 8, 2) := dcS1 dO_16 (by decide +kernel)
theorem dX12_partOf_24 : decode cX12_partOf 24 = .ok (.idiv, 1) := dc0 dO_108 (by decide +kernel)
theorem dX12_partOf_25 : decode cX12_partOf 25 = .ok (.istore 6, 2) := dcU1 dO_54 (by decide +kernel)
theorem dX12_partOf_27 : decode cX12_partOf 27 = .ok (.iload 5, 2) := dcU1 dO_21 (by decide +kernel)
theorem dX12_partOf_29 : decode cX12_partOf 29 = .ok (.bipush 32, 2) := dcS1 dO_16 (by decide +kernel)
theorem dX12_partOf_31 : decode cX12_partOf 31 = .ok (.if_icmp .gt 14, 3) := dcS2 dO_163 (by decide +kernel)
theorem dX12_partOf_34 : decode cX12_partOf 34 = .ok (.iload 4, 2) := dcU1 dO_21 (by decide +kernel)
theorem dX12_partOf_36 : decode cX12_partOf 36 = .ok (.iconst 1, 1) := dc0 dO_4 (by decide +kernel)
theorem dX12_partOf_37 : decode cX12_partOf 37 = .ok (.iadd, 1) := dc0 dO_96 (by decide +kernel)
theorem dX12_partOf_38 : decode cX12_partOf 38 = .ok (.iload 6, 2) := dcU1 dO_21 (by decide +kernel)
theorem dX12_partOf_40 : decode cX12_partOf 40 = .ok (.iadd, 1) := dc0 dO_96 (by decide +kernel)
theorem dX12_partOf_41 : decode cX12_partOf 41 = .ok (.iload_n 2, 1) := dc0 dO_28 (by decide +kernel)
theorem dX12_partOf_42 : decode cX12_partOf 42 = .ok (.if_icmp .le 12, 3) := dcS2 dO_164 (by decide +kernel)
theorem dX12_partOf_45 : decode cX12_partOf 45 = .ok (.aload_n 0, 1) := dc0 dO_42 (by decide +kernel)
theorem dX12_partOf_46 : decode cX12_partOf 46 = .ok (.iconst 1, 1) := dc0 dO_4 (by decide +kernel)
theorem dX12_partOf_47 : decode cX12_partOf 47 = .ok (.iload 4, 2) := dcU1 dO_21 (by decide +kernel)
theorem dX12_partOf_49 : decode cX12_partOf 49 = .ok (.invokevirtual 620, 3) := dcU2 dO_182 (by decide +kernel)
theorem dX12_partOf_52 : decode cX12_partOf 52 = .ok (.iconst 0, 1) := dc0 dO_3 (by decide +kernel)
theorem dX12_partOf_53 : decode cX12_partOf 53 = .ok (.ireturn, 1) := dc0 dO_172 (by decide +kernel)
theorem dX12_partOf_54 : decode cX12_partOf 54 = .ok (.iload 6, 2) := dcU1 dO_21 (by decide +kernel)
theorem dX12_partOf_56 : decode cX12_partOf 56 = .ok (.ifCond .ne 7, 3) := dcS2 dO_154 (by decide +kernel)
theorem dX12_partOf_59 : decode cX12_partOf 59 = .ok (.iconst 0, 1) := dc0 dO_3 (by decide +kernel)
theorem dX12_partOf_60 : decode cX12_partOf 60 = .ok (.goto 22, 3) := dcS2 dO_167 (by decide +kernel)
theorem dX12_partOf_63 : decode cX12_partOf 63 = .ok (.aload_n 0, 1) := dc0 dO_42 (by decide +kernel)
theorem dX12_partOf_64 : decode cX12_partOf 64 = .ok (.iload 4, 2) := dcU1 dO_21 (by decide +kernel)
theorem dX12_partOf_66 : decode cX12_partOf 66 = .ok (.iconst 1, 1) := dc0 dO_4 (by decide +kernel)
theorem dX12_partOf_67 : decode cX12_partOf 67 = .ok (.iadd, 1) := dc0 dO_96 (by decide +kernel)
theorem dX12_partOf_68 : decode cX12_partOf 68 = .ok (.iload 6, 2) := dcU1 dO_21 (by decide +kernel)
theorem dX12_partOf_70 : decode cX12_partOf 70 = .ok (.invokevirtual 623, 3) := dcU2 dO_182 (by decide +kernel)
theorem dX12_partOf_73 : decode cX12_partOf 73 = .ok (.bipush 32, 2) := dcS1 dO_16 (by decide +kernel)
theorem dX12_partOf_75 : decode cX12_partOf 75 = .ok (.bipush 8, 2) := dcS1 dO_16 (by decide +kernel)
theorem dX12_partOf_77 : decode cX12_partOf 77 = .ok (.iload 6, 2) := dcU1 dO_21 (by decide +kernel)
theorem dX12_partOf_79 : decode cX12_partOf 79 = .ok (.imul, 1) := dc0 dO_104 (by decide +kernel)
theorem dX12_partOf_80 : decode cX12_partOf 80 = .ok (.isub, 1) := dc0 dO_100 (by decide +kernel)
theorem dX12_partOf_81 : decode cX12_partOf 81 = .ok (.ishl, 1) := dc0 dO_120 (by decide +kernel)
theorem dX12_partOf_82 : decode cX12_partOf 82 = .ok (.istore 7, 2) := dcU1 dO_54 (by decide +kernel)
theorem dX12_partOf_84 : decode cX12_partOf 84 = .ok (.iload 7, 2) := dcU1 dO_21 (by decide +kernel)
theorem dX12_partOf_86 : decode cX12_partOf 86 = .ok (.iload 5, 2) := dcU1 dO_21 (by decide +kernel)
theorem dX12_partOf_88 : decode cX12_partOf 88 = .ok (.invokestatic 11, 3) := dcU2 dO_184 (by decide +kernel)
theorem dX12_partOf_91 : decode cX12_partOf 91 = .ok (.iand, 1) := dc0 dO_126 (by decide +kernel)
theorem dX12_partOf_92 : decode cX12_partOf 92 = .ok (.istore 7, 2) := dcU1 dO_54 (by decide +kernel)
theorem dX12_partOf_94 : decode cX12_partOf 94 = .ok (.iload_n 3, 1) := dc0 dO_29 (by decide +kernel)
theorem dX12_partOf_95 : decode cX12_partOf 95 = .ok (.ifCond .eq 38, 3) := dcS2 dO_153 (by decide +kernel)
theorem dX12_partOf_98 : decode cX12_partOf 98 = .ok (.aload_n 0, 1) := dc0 dO_42 (by decide +kernel)
theorem dX12_partOf_99 : decode cX12_partOf 99 = .ok (.getfield 460, 3) := dcU2 dO_180 (by decide +kernel)
theorem dX12_partOf_102 : decode cX12_partOf 102 = .ok (.aload_n 0, 1) := dc0 dO_42 (by decide +kernel)
theorem dX12_partOf_103 : decode cX12_partOf 103 = .ok (.getfield 625, 3) := dcU2 dO_180 (by decide +kernel)
theorem dX12_partOf_106 : decode cX12_partOf 106 = .ok (.iload 7, 2) := dcU1 dO_21 (by decide +kernel)
theorem dX12_partOf_108 : decode cX12_partOf 108 = .ok (.iastore, 1) := dc0 dO_79 (by decide +kernel)
theorem dX12_partOf_109 : decode cX12_partOf 109 = .ok (.aload_n 0, 1) := dc0 dO_42 (by decide +kernel)
theorem dX12_partOf_110 : decode cX12_partOf 110 = .ok (.getfield 463, 3) := dcU2 dO_180 (by decide +kernel)
theorem dX12_partOf_113 : decode cX12_partOf 113 = .ok (.aload_n 0, 1) := dc0 dO_42 (by decide +kernel)
theorem dX12_partOf_114 : decode cX12_partOf 114 = .ok (.getfield 625, 3) := dcU2 dO_180 (by decide +kernel)
theorem dX12_partOf_117 : decode cX12_partOf 117 = .ok (.iload 5, 2) := dcU1 dO_21 (by decide +kernel)
theorem dX12_partOf_119 : decode cX12_partOf 119 = .ok (.iastore, 1) := dc0 dO_79 (by decide +kernel)
theorem dX12_partOf_120 : decode cX12_partOf 120 = .ok (.aload_n 0, 1) := dc0 dO_42 (by decide +kernel)
theorem dX12_partOf_121 : decode cX12_partOf 121 = .ok (.dup, 1) := dc0 dO_89 (by decide +kernel)
theorem dX12_partOf_122 : decode cX12_partOf 122 = .ok (.getfield 625, 3) := dcU2 dO_180 (by decide +kernel)
theorem dX12_partOf_125 : decode cX12_partOf 125 = .ok (.iconst 1, 1) := dc0 dO_4 (by decide +kernel)
theorem dX12_partOf_126 : decode cX12_partOf 126 = .ok (.iadd, 1) := dc0 dO_96 (by decide +kernel)
theorem dX12_partOf_127 : decode cX12_partOf 127 = .ok (.putfield 625, 3) := dcU2 dO_181 (by decide +kernel)
theorem sfx_cX12_partOf_128 : (cX12_partOf.data.toList.drop 128).take 67 = [2, 113, 167, 0, 35, 42, 180, 1, 210, 42, 180, 2, 116, 21, 7, 79, 42, 180, 1, 213, 42, 180, 2, 116, 21, 5, 79, 42, 89, 180, 2, 116, 4, 96, 181, 2, 116, 21, 4, 4, 21, 6, 96, 96, 54, 4, 167, 255, 85, 4, 172] := by decide +kernel
theorem dX12_partOf_130 : decode cX12_partOf 130 = .ok (.goto 35, 3) := dcS2 dO_167 (rdS2.ch sfx_cX12_partOf_128 2 rfl (by decide +kernel))
theorem dX12_partOf_133 : decode cX12_partOf 133 = .ok (.aload_n 0, 1) := dc0 dO_42 (rdB.ch sfx_cX12_partOf_128 5 rfl (by decide +kernel))
theorem dX12_partOf_134 : decode cX12_partOf 134 = .ok (.getfield 466, 3) := dcU2 dO_180 (rdU2.ch sfx_cX12_partOf_128 6 rfl (by decide +kernel))
theorem dX12_partOf_137 : decode cX12_partOf 137 = .ok (.aload_n 0, 1) := dc0 dO_42 (rdB.ch sfx_cX12_partOf_128 9 rfl (by decide +kernel))
theorem dX12_partOf_138 : decode cX12_partOf 138 = .ok (.getfield 628, 3) := dcU2 dO_180 (rdU2.ch sfx_cX12_partOf_128 10 rfl (by decide +kernel))
theorem dX12_partOf_141 : decode cX12_partOf 141 = .ok (.iload 7, 2) := dcU1 dO_21 (rdU1.ch sfx_cX12_partOf_128 13 rfl (by decide +kernel))
theorem dX12_partOf_143 : decode cX12_partOf 143 = .ok (.iastore, 1) := dc0 dO_79 (rdB.ch sfx_cX12_partOf_128 15 rfl (by decide +kernel))
theorem dX12_partOf_144 : decode cX12_partOf 144 = .ok (.aload_n 0, 1) := dc0 dO_42 (rdB.ch sfx_cX12_partOf_128 16 rfl (by decide +kernel))
theorem dX12_partOf_145 : decode cX12_partOf 145 = .ok (.getfield 469, 3) := dcU2 dO_180 (rdU2.ch sfx_cX12_partOf_128 17 rfl (by decide +kernel))
theorem dX12_partOf_148 : decode cX12_partOf 148 = .ok (.aload_n 0, 1) := dc0 dO_42 (rdB.ch sfx_cX12_partOf_128 20 rfl (by decide +kernel))
theorem dX12_partOf_149 : decode cX12_partOf 149 = .ok (.getfield 628, 3) := dcU2 dO_180 (rdU2.ch sfx_cX12_partOf_128 21 rfl (by decide +kernel))
theorem dX12_partOf_152 : decode cX12_partOf 152 = .ok (.iload 5, 2) := dcU1 dO_21 (rdU1.ch sfx_cX12_partOf_128 24 rfl (by decide +kernel))
theorem dX12_partOf_154 : decode cX12_partOf 154 = .ok (.iastore, 1) := dc0 dO_79 (rdB.ch sfx_cX12_partOf_128 26 rfl (by decide +kernel))
theorem dX12_partOf_155 : decode cX12_partOf 155 = .ok (.aload_n 0, 1) := dc0 dO_42 (rdB.ch sfx_cX12_partOf_128 27 rfl (by decide +kernel))
theorem dX12_partOf_156 : decode cX12_partOf 156 = .ok (.dup, 1) := dc0 dO_89 (rdB.ch sfx_cX12_partOf_128 28 rfl (by decide +kernel))
theorem dX12_partOf_157 : decode cX12_partOf 157 = .ok (.getfield 628, 3) := dcU2 dO_180 (rdU2.ch sfx_cX12_partOf_128 29 rfl (by decide +kernel))
theorem dX12_partOf_160 : decode cX12_partOf 160 = .ok (.iconst 1, 1) := dc0 dO_4 (rdB.ch sfx_cX12_partOf_128 32 rfl (by decide +kernel))
theorem dX12_partOf_161 : decode cX12_partOf 161 = .ok (.iadd, 1) := dc0 dO_96 (rdB.ch sfx_cX12_partOf_128 33 rfl (by decide +kernel))
theorem dX12_partOf_162 : decode cX12_partOf 162 = .ok (.putfield 628, 3) := dcU2 dO_181 (rdU2.ch sfx_cX12_partOf_128 34 rfl (by decide +kernel))
theorem dX12_partOf_165 : decode cX12_partOf 165 = .ok (.iload 4, 2) := dcU1 dO_21 (rdU1.ch sfx_cX12_partOf_128 37 rfl (by decide +kernel))
theorem dX12_partOf_167 : decode cX12_partOf 167 = .ok (.iconst 1, 1) := dc0 dO_4 (rdB.ch sfx_cX12_partOf_128 39 rfl (by decide +kernel))
theorem dX12_partOf_168 : decode cX12_partOf 168 = .ok (.iload 6, 2) := dcU1 dO_21 (rdU1.ch sfx_cX12_partOf_128 40 rfl (by decide +kernel))
theorem dX12_partOf_170 : decode cX12_partOf 170 = .ok (.iadd, 1) := dc0 dO_96 (rdB.ch sfx_cX12_partOf_128 42 rfl (by decide +kernel))
theorem dX12_partOf_171 : decode cX12_partOf 171 = .ok (.iadd, 1) := dc0 dO_96 (rdB.ch sfx_cX12_partOf_128 43 rfl (by decide +kernel))
theorem dX12_partOf_172 : decode cX12_partOf 172 = .ok (.istore 4, 2) := dcU1 dO_54 (rdU1.ch sfx_cX12_partOf_128 44 rfl (by decide +kernel))
theorem dX12_partOf_174 : decode cX12_partOf 174 = .ok (.goto (-171), 3) := dcS2 dO_167 (rdS2.ch sfx_cX12_partOf_128 46 rfl (by decide +kernel))
theorem dX12_partOf_177 : decode cX12_partOf 177 = .ok (.iconst 1, 1) := dc0 dO_4 (rdB.ch sfx_cX12_partOf_128 49 rfl (by decide +kernel))
theorem dX12_partOf_178 : decode cX12_partOf 178 = .ok (.ireturn, 1) := dc0 dO_172 (rdB.ch sfx_cX12_partOf_128 50 rfl (by decide +kernel))
theorem dX12_partnerOf_0 : decode cX12_partnerOf 0 = .ok (.aload_n 0, 1) := dc0 dO_42 (by decide +kernel)
theorem dX12_partnerOf_1 : decode cX12_partnerOf 1 = .ok (.getfield 40, 3) := dcU2 dO_180 (by decide +kernel)
theorem dX12_partnerOf_4 : decode cX12_partnerOf 4 = .ok (.iconst 2, 1) := dc0 dO_5 (by decide +kernel)
theorem dX12_partnerOf_5 : decode cX12_partnerOf 5 = .ok (.iload_n 1, 1) := dc0 dO_27 (by decide +kernel)
theorem dX12_partnerOf_6 : decode cX12_partnerOf 6 = .ok (.imul, 1) := dc0 dO_104 (by decide +kernel)
theorem dX12_partnerOf_7 : decode cX12_partnerOf 7 = .ok (.iconst 1, 1) := dc0 dO_4 (by decide +kernel)
theorem dX12_partnerOf_8 : decode cX12_partnerOf 8 = .ok (.iadd, 1) := dc0 dO_96 (by decide +kernel)
theorem dX12_partnerOf_9 : decode cX12_partnerOf 9 = .ok (.aload_n 0, 1) := dc0 dO_42 (by decide +kernel)
theorem dX12_partnerOf_10 : decode cX12_partnerOf 10 = .ok (.iload_n 1, 1) := dc0 dO_27 (by decide +kernel)
theorem dX12_partnerOf_11 : decode cX12_partnerOf 11 = .ok (.iload_n 2, 1) := dc0 dO_28 (by decide +kernel)
theorem dX12_partnerOf_12 : decode cX12_partnerOf 12 = .ok (.invokevirtual 542, 3) := dcU2 dO_182 (by decide +kernel)
theorem dX12_partnerOf_15 : decode cX12_partnerOf 15 = .ok (.isub, 1) := dc0 dO_100 (by decide +kernel)
theorem dX12_partnerOf_16 : decode cX12_partnerOf 16 = .ok (.iaload, 1) := dc0 dO_46 (by decide +kernel)
theorem dX12_partnerOf_17 : decode cX12_partnerOf 17 = .ok (.ireturn, 1) := dc0 dO_172 (by decide +kernel)
theorem dX12_picked_0 : decode cX12_picked 0 = .ok (.aload_n 0, 1) := dc0 dO_42 (by decide +kernel)
theorem dX12_picked_1 : decode cX12_picked 1 = .ok (.iload_n 1, 1) := dc0 dO_27 (by decide +kernel)
theorem dX12_picked_2 : decode cX12_picked 2 = .ok (.invokevirtual 49, 3) := dcU2 dO_182 (by decide +kernel)
theorem dX12_picked_5 : decode cX12_picked 5 = .ok (.ifCond .eq 11, 3) := dcS2 dO_153 (by decide +kernel)
theorem dX12_picked_8 : decode cX12_picked 8 = .ok (.aload_n 0, 1) := dc0 dO_42 (by decide +kernel)
theorem dX12_picked_9 : decode cX12_picked 9 = .ok (.iload_n 2, 1) := dc0 dO_28 (by decide +kernel)
theorem dX12_picked_10 : decode cX12_picked 10 = .ok (.invokevirtual 92, 3) := dcU2 dO_182 (by decide +kernel)
theorem dX12_picked_13 : decode cX12_picked 13 = .ok (.ifCond .ne 5, 3) := dcS2 dO_154 (by decide +kernel)
theorem dX12_picked_16 : decode cX12_picked 16 = .ok (.iconst (-1), 1) := dc0 dO_2 (by decide +kernel)
theorem dX12_picked_17 : decode cX12_picked 17 = .ok (.ireturn, 1) := dc0 dO_172 (by decide +kernel)
theorem dX12_picked_18 : decode cX12_picked 18 = .ok (.bipush 10, 2) := dcS1 dO_16 (by decide +kernel)
theorem dX12_picked_20 : decode cX12_picked 20 = .ok (.iload_n 1, 1) := dc0 dO_27 (by decide +kernel)
theorem dX12_picked_21 : decode cX12_picked 21 = .ok (.imul, 1) := dc0 dO_104 (by decide +kernel)
theorem dX12_picked_22 : decode cX12_picked 22 = .ok (.iload_n 2, 1) := dc0 dO_28 (by decide +kernel)
theorem dX12_picked_23 : decode cX12_picked 23 = .ok (.iadd, 1) := dc0 dO_96 (by decide +kernel)
theorem dX12_picked_24 : decode cX12_picked 24 = .ok (.istore_n 3, 1) := dc0 dO_62 (by decide +kernel)
theorem dX12_picked_25 : decode cX12_picked 25 = .ok (.aload_n 0, 1) := dc0 dO_42 (by decide +kernel)
theorem dX12_picked_26 : decode cX12_picked 26 = .ok (.getfield 445, 3) := dcU2 dO_180 (by decide +kernel)
theorem dX12_picked_29 : decode cX12_picked 29 = .ok (.iload_n 3, 1) := dc0 dO_29 (by decide +kernel)
theorem dX12_picked_30 : decode cX12_picked 30 = .ok (.iaload, 1) := dc0 dO_46 (by decide +kernel)
theorem dX12_picked_31 : decode cX12_picked 31 = .ok (.ldc 29, 2) := dcU1 dO_18 (by decide +kernel)
theorem dX12_picked_33 : decode cX12_picked 33 = .ok (.if_icmp .ne 6, 3) := dcS2 dO_160 (by decide +kernel)
theorem dX12_picked_36 : decode cX12_picked 36 = .ok (.ldc 29, 2) := dcU1 dO_18 (by decide +kernel)
theorem dX12_picked_38 : decode cX12_picked 38 = .ok (.ireturn, 1) := dc0 dO_172 (by decide +kernel)
theorem dX12_picked_39 : decode cX12_picked 39 = .ok (.aload_n 0, 1) := dc0 dO_42 (by decide +kernel)
theorem dX12_picked_40 : decode cX12_picked 40 = .ok (.bipush 30, 2) := dcS1 dO_16 (by decide +kernel)
theorem dX12_picked_42 : decode cX12_picked 42 = .ok (.iload_n 3, 1) := dc0 dO_29 (by decide +kernel)
theorem dX12_picked_43 : decode cX12_picked 43 = .ok (.iadd, 1) := dc0 dO_96 (by decide +kernel)
theorem dX12_picked_44 : decode cX12_picked 44 = .ok (.iconst 0, 1) := dc0 dO_3 (by decide +kernel)
theorem dX12_picked_45 : decode cX12_picked 45 = .ok (.invokevirtual 559, 3) := dcU2 dO_182 (by decide +kernel)
theorem dX12_picked_48 : decode cX12_picked 48 = .ok (.aload_n 0, 1) := dc0 dO_42 (by decide +kernel)
theorem dX12_picked_49 : decode cX12_picked 49 = .ok (.iconst 1, 1) := dc0 dO_4 (by decide +kernel)
theorem dX12_picked_50 : decode cX12_picked 50 = .ok (.putfield 411, 3) := dcU2 dO_181 (by decide +kernel)
theorem dX12_picked_53 : decode cX12_picked 53 = .ok (.aload_n 0, 1) := dc0 dO_42 (by decide +kernel)
theorem dX12_picked_54 : decode cX12_picked 54 = .ok (.getfield 445, 3) := dcU2 dO_180 (by decide +kernel)
theorem dX12_picked_57 : decode cX12_picked 57 = .ok (.iload_n 3, 1) := dc0 dO_29 (by decide +kernel)
theorem dX12_picked_58 : decode cX12_picked 58 = .ok (.iaload, 1) := dc0 dO_46 (by decide +kernel)
theorem dX12_picked_59 : decode cX12_picked 59 = .ok (.ireturn, 1) := dc0 dO_172 (by decide +kernel)
theorem dX12_prefixOut_0 : decode cX12_prefixOut 0 = .ok (.aload_n 0, 1) := dc0 dO_42 (by decide +kernel)
theorem dX12_prefixOut_1 : decode cX12_prefixOut 1 = .ok (.aload_n 0, 1) := dc0 dO_42 (by decide +kernel)
theorem dX12_prefixOut_2 : decode cX12_prefixOut 2 = .ok (.getfield 26, 3) := dcU2 dO_180 (by decide +kernel)
theorem dX12_prefixOut_5 : decode cX12_prefixOut 5 = .ok (.iload_n 1, 1) := dc0 dO_27 (by decide +kernel)
theorem dX12_prefixOut_6 : decode cX12_prefixOut 6 = .ok (.iaload, 1) := dc0 dO_46 (by decide +kernel)
theorem dX12_prefixOut_7 : decode cX12_prefixOut 7 = .ok (.invokevirtual 674, 3) := dcU2 dO_182 (by decide +kernel)
theorem dX12_prefixOut_10 : decode cX12_prefixOut 10 = .ok (.iconst 0, 1) := dc0 dO_3 (by decide +kernel)
theorem dX12_prefixOut_11 : decode cX12_prefixOut 11 = .ok (.istore_n 2, 1) := dc0 dO_61 (by decide +kernel)
theorem dX12_prefixOut_12 : decode cX12_prefixOut 12 = .ok (.iload_n 2, 1) := dc0 dO_28 (by decide +kernel)
theorem dX12_prefixOut_13 : decode cX12_prefixOut 13 = .ok (.aload_n 0, 1) := dc0 dO_42 (by decide +kernel)
theorem dX12_prefixOut_14 : decode cX12_prefixOut 14 = .ok (.getfield 26, 3) := dcU2 dO_180 (by decide +kernel)
theorem dX12_prefixOut_17 : decode cX12_prefixOut 17 = .ok (.iload_n 1, 1) := dc0 dO_27 (by decide +kernel)
theorem dX12_prefixOut_18 : decode cX12_prefixOut 18 = .ok (.iaload, 1) := dc0 dO_46 (by decide +kernel)
theorem dX12_prefixOut_19 : decode cX12_prefixOut 19 = .ok (.bipush 7, 2) := dcS1 dO_16 (by decide +kernel)
theorem dX12_prefixOut_21 : decode cX12_prefixOut 21 = .ok (.iadd, 1) := dc0 dO_96 (by decide +kernel)
theorem dX12_prefixOut_22 : decode cX12_prefixOut 22 = .ok (.bipush 8, 2) := dcS1 dO_16 (by decide +kernel)
theorem dX12_prefixOut_24 : decode cX12_prefixOut 24 = .ok (.idiv, 1) := dc0 dO_108 (by decide +kernel)
theorem dX12_prefixOut_25 : decode cX12_prefixOut 25 = .ok (.if_icmp .ge 27, 3) := dcS2 dO_162 (by decide +kernel)
theorem dX12_prefixOut_28 : decode cX12_prefixOut 28 = .ok (.aload_n 0, 1) := dc0 dO_42 (by decide +kernel)
theorem dX12_prefixOut_29 : decode cX12_prefixOut 29 = .ok (.aload_n 0, 1) := dc0 dO_42 (by decide +kernel)
theorem dX12_prefixOut_30 : decode cX12_prefixOut 30 = .ok (.getfield 22, 3) := dcU2 dO_180 (by decide +kernel)
theorem dX12_prefixOut_33 : decode cX12_prefixOut 33 = .ok (.iload_n 1, 1) := dc0 dO_27 (by decide +kernel)
theorem dX12_prefixOut_34 : decode cX12_prefixOut 34 = .ok (.iaload, 1) := dc0 dO_46 (by decide +kernel)
theorem dX12_prefixOut_35 : decode cX12_prefixOut 35 = .ok (.bipush 24, 2) := dcS1 dO_16 (by decide +kernel)
theorem dX12_prefixOut_37 : decode cX12_prefixOut 37 = .ok (.bipush 8, 2) := dcS1 dO_16 (by decide +kernel)
theorem dX12_prefixOut_39 : decode cX12_prefixOut 39 = .ok (.iload_n 2, 1) := dc0 dO_28 (by decide +kernel)
theorem dX12_prefixOut_40 : decode cX12_prefixOut 40 = .ok (.imul, 1) := dc0 dO_104 (by decide +kernel)
theorem dX12_prefixOut_41 : decode cX12_prefixOut 41 = .ok (.isub, 1) := dc0 dO_100 (by decide +kernel)
theorem dX12_prefixOut_42 : decode cX12_prefixOut 42 = .ok (.ishr, 1) := dc0 dO_122 (by decide +kernel)
theorem dX12_prefixOut_43 : decode cX12_prefixOut 43 = .ok (.invokevirtual 674, 3) := dcU2 dO_182 (by decide +kernel)
theorem dX12_prefixOut_46 : decode cX12_prefixOut 46 = .ok (.iinc 2 1, 3) := dcI dO_132 (by decide +kernel)
theorem dX12_prefixOut_49 : decode cX12_prefixOut 49 = .ok (.goto (-37), 3) := dcS2 dO_167 (by decide +kernel)
theorem dX12_prefixOut_52 : decode cX12_prefixOut 52 = .ok (.return_, 1) := dc0 dO_177 (by decide +kernel)
theorem dX12_related_0 : decode cX12_related 0 = .ok (.iload_n 2, 1) := dc0 dO_28 (by decide +kernel)
theorem dX12_related_1 : decode cX12_related 1 = .ok (.bipush 60, 2) := dcS1 dO_16 (by decide +kernel)
theorem dX12_related_3 : decode cX12_related 3 = .ok (.if_icmp .ne 16, 3) := dcS2 dO_160 (by decide +kernel)
theorem dX12_related_6 : decode cX12_related 6 = .ok (.iload_n 1, 1) := dc0 dO_27 (by decide +kernel)
theorem dX12_related_7 : decode cX12_related 7 = .ok (.iload_n 3, 1) := dc0 dO_29 (by decide +kernel)
theorem dX12_related_8 : decode cX12_related 8 = .ok (.if_icmp .ge 7, 3) := dcS2 dO_162 (by decide +kernel)
theorem dX12_related_11 : decode cX12_related 11 = .ok (.iconst 1, 1) := dc0 dO_4 (by decide +kernel)
theorem dX12_related_12 : decode cX12_related 12 = .ok (.goto 36, 3) := dcS2 dO_167 (by decide +kernel)
theorem dX12_related_15 : decode cX12_related 15 = .ok (.iconst 0, 1) := dc0 dO_3 (by decide +kernel)
theorem dX12_related_16 : decode cX12_related 16 = .ok (.goto 32, 3) := dcS2 dO_167 (by decide +kernel)
theorem dX12_related_19 : decode cX12_related 19 = .ok (.iload_n 2, 1) := dc0 dO_28 (by decide +kernel)
theorem dX12_related_20 : decode cX12_related 20 = .ok (.bipush 61, 2) := dcS1 dO_16 (by decide +kernel)
theorem dX12_related_22 : decode cX12_related 22 = .ok (.if_icmp .ne 16, 3) := dcS2 dO_160 (by decide +kernel)
theorem dX12_related_25 : decode cX12_related 25 = .ok (.iload_n 1, 1) := dc0 dO_27 (by decide +kernel)
theorem dX12_related_26 : decode cX12_related 26 = .ok (.iload_n 3, 1) := dc0 dO_29 (by decide +kernel)
theorem dX12_related_27 : decode cX12_related 27 = .ok (.if_icmp .ne 7, 3) := dcS2 dO_160 (by decide +kernel)
theorem dX12_related_30 : decode cX12_related 30 = .ok (.iconst 1, 1) := dc0 dO_4 (by decide +kernel)
theorem dX12_related_31 : decode cX12_related 31 = .ok (.goto 17, 3) := dcS2 dO_167 (by decide +kernel)
theorem dX12_related_34 : decode cX12_related 34 = .ok (.iconst 0, 1) := dc0 dO_3 (by decide +kernel)
theorem dX12_related_35 : decode cX12_related 35 = .ok (.goto 13, 3) := dcS2 dO_167 (by decide +kernel)
theorem dX12_related_38 : decode cX12_related 38 = .ok (.iload_n 1, 1) := dc0 dO_27 (by decide +kernel)
theorem dX12_related_39 : decode cX12_related 39 = .ok (.iload_n 3, 1) := dc0 dO_29 (by decide +kernel)
theorem dX12_related_40 : decode cX12_related 40 = .ok (.if_icmp .le 7, 3) := dcS2 dO_164 (by decide +kernel)
theorem dX12_related_43 : decode cX12_related 43 = .ok (.iconst 1, 1) := dc0 dO_4 (by decide +kernel)
theorem dX12_related_44 : decode cX12_related 44 = .ok (.goto 4, 3) := dcS2 dO_167 (by decide +kernel)
theorem dX12_related_47 : decode cX12_related 47 = .ok (.iconst 0, 1) := dc0 dO_3 (by decide +kernel)
theorem dX12_related_48 : decode cX12_related 48 = .ok (.ireturn, 1) := dc0 dO_172 (by decide +kernel)
theorem dX12_rest_0 : decode cX12_rest 0 = .ok (.iload_n 1, 1) := dc0 dO_27 (by decide +kernel)
theorem dX12_rest_1 : decode cX12_rest 1 = .ok (.ifCond .lt 13, 3) := dcS2 dO_155 (by decide +kernel)
theorem dX12_rest_4 : decode cX12_rest 4 = .ok (.iload_n 2, 1) := dc0 dO_28 (by decide +kernel)
theorem dX12_rest_5 : decode cX12_rest 5 = .ok (.iconst 1, 1) := dc0 dO_4 (by decide +kernel)
theorem dX12_rest_6 : decode cX12_rest 6 = .ok (.bipush 6, 2) := dcS1 dO_16 (by decide +kernel)
theorem dX12_rest_8 : decode cX12_rest 8 = .ok (.invokestatic 18, 3) := dcU2 dO_184 (by decide +kernel)
theorem dX12_rest_11 : decode cX12_rest 11 = .ok (.ifCond .ne 5, 3) := dcS2 dO_154 (by decide +kernel)
theorem dX12_rest_14 : decode cX12_rest 14 = .ok (.iconst (-1), 1) := dc0 dO_2 (by decide +kernel)
theorem dX12_rest_15 : decode cX12_rest 15 = .ok (.ireturn, 1) := dc0 dO_172 (by decide +kernel)
theorem dX12_rest_16 : decode cX12_rest 16 = .ok (.aload_n 0, 1) := dc0 dO_42 (by decide +kernel)
theorem dX12_rest_17 : decode cX12_rest 17 = .ok (.invokevirtual 728, 3) := dcU2 dO_182 (by decide +kernel)
theorem dX12_rest_20 : decode cX12_rest 20 = .ok (.istore_n 3, 1) := dc0 dO_62 (by decide +kernel)
theorem dX12_rest_21 : decode cX12_rest 21 = .ok (.iload_n 1, 1) := dc0 dO_27 (by decide +kernel)
theorem dX12_rest_22 : decode cX12_rest 22 = .ok (.istore 4, 2) := dcU1 dO_54 (by decide +kernel)
theorem dX12_rest_24 : decode cX12_rest 24 = .ok (.iconst 0, 1) := dc0 dO_3 (by decide +kernel)
theorem dX12_rest_25 : decode cX12_rest 25 = .ok (.istore 5, 2) := dcU1 dO_54 (by decide +kernel)
theorem dX12_rest_27 : decode cX12_rest 27 = .ok (.iload 5, 2) := dcU1 dO_21 (by decide +kernel)
theorem dX12_rest_29 : decode cX12_rest 29 = .ok (.iload_n 3, 1) := dc0 dO_29 (by decide +kernel)
theorem dX12_rest_30 : decode cX12_rest 30 = .ok (.if_icmp .ge 62, 3) := dcS2 dO_162 (by decide +kernel)
theorem dX12_rest_33 : decode cX12_rest 33 = .ok (.aload_n 0, 1) := dc0 dO_42 (by decide +kernel)
theorem dX12_rest_34 : decode cX12_rest 34 = .ok (.iload 5, 2) := dcU1 dO_21 (by decide +kernel)
theorem dX12_rest_36 : decode cX12_rest 36 = .ok (.invokevirtual 731, 3) := dcU2 dO_182 (by decide +kernel)
theorem dX12_rest_39 : decode cX12_rest 39 = .ok (.ifCond .ne 6, 3) := dcS2 dO_154 (by decide +kernel)
theorem dX12_rest_42 : decode cX12_rest 42 = .ok (.goto 44, 3) := dcS2 dO_167 (by decide +kernel)
theorem dX12_rest_45 : decode cX12_rest 45 = .ok (.iload 4, 2) := dcU1 dO_21 (by decide +kernel)
theorem dX12_rest_47 : decode cX12_rest 47 = .ok (.ifCond .ne 36, 3) := dcS2 dO_154 (by decide +kernel)
theorem dX12_rest_50 : decode cX12_rest 50 = .ok (.aload_n 0, 1) := dc0 dO_42 (by decide +kernel)
theorem dX12_rest_51 : decode cX12_rest 51 = .ok (.iload 5, 2) := dcU1 dO_21 (by decide +kernel)
theorem dX12_rest_53 : decode cX12_rest 53 = .ok (.invokevirtual 722, 3) := dcU2 dO_182 (by decide +kernel)
theorem dX12_rest_56 : decode cX12_rest 56 = .ok (.aload_n 0, 1) := dc0 dO_42 (by decide +kernel)
theorem dX12_rest_57 : decode cX12_rest 57 = .ok (.getfield 526, 3) := dcU2 dO_180 (by decide +kernel)
theorem dX12_rest_60 : decode cX12_rest 60 = .ok (.iload_n 2, 1) := dc0 dO_28 (by decide +kernel)
theorem dX12_rest_61 : decode cX12_rest 61 = .ok (.iaload, 1) := dc0 dO_46 (by decide +kernel)
theorem dX12_rest_62 : decode cX12_rest 62 = .ok (.aload_n 0, 1) := dc0 dO_42 (by decide +kernel)
theorem dX12_rest_63 : decode cX12_rest 63 = .ok (.getfield 514, 3) := dcU2 dO_180 (by decide +kernel)
theorem dX12_rest_66 : decode cX12_rest 66 = .ok (.iload_n 2, 1) := dc0 dO_28 (by decide +kernel)
theorem dX12_rest_67 : decode cX12_rest 67 = .ok (.iaload, 1) := dc0 dO_46 (by decide +kernel)
theorem dX12_rest_68 : decode cX12_rest 68 = .ok (.if_icmp .ne 8, 3) := dcS2 dO_160 (by decide +kernel)
theorem dX12_rest_71 : decode cX12_rest 71 = .ok (.bipush (-4), 2) := dcS1 dO_16 (by decide +kernel)
theorem dX12_rest_73 : decode cX12_rest 73 = .ok (.goto 9, 3) := dcS2 dO_167 (by decide +kernel)
theorem dX12_rest_76 : decode cX12_rest 76 = .ok (.aload_n 0, 1) := dc0 dO_42 (by decide +kernel)
theorem dX12_rest_77 : decode cX12_rest 77 = .ok (.getfield 526, 3) := dcU2 dO_180 (by decide +kernel)
theorem dX12_rest_80 : decode cX12_rest 80 = .ok (.iload_n 2, 1) := dc0 dO_28 (by decide +kernel)
theorem dX12_rest_81 : decode cX12_rest 81 = .ok (.iaload, 1) := dc0 dO_46 (by decide +kernel)
theorem dX12_rest_82 : decode cX12_rest 82 = .ok (.ireturn, 1) := dc0 dO_172 (by decide +kernel)
theorem dX12_rest_83 : decode cX12_rest 83 = .ok (.iinc 4 (-1), 3) := dcI dO_132 (by decide +kernel)
theorem dX12_rest_86 : decode cX12_rest 86 = .ok (.iinc 5 1, 3) := dcI dO_132 (by decide +kernel)
theorem dX12_rest_89 : decode cX12_rest 89 = .ok (.goto (-62), 3) := dcS2 dO_167 (by decide +kernel)
theorem dX12_rest_92 : decode cX12_rest 92 = .ok (.iconst (-1), 1) := dc0 dO_2 (by decide +kernel)
theorem dX12_rest_93 : decode cX12_rest 93 = .ok (.ireturn, 1) := dc0 dO_172 (by decide +kernel)
theorem dX12_rests_0 : decode cX12_rests 0 = .ok (.aload_n 0, 1) := dc0 dO_42 (by decide +kernel)
theorem dX12_rests_1 : decode cX12_rests 1 = .ok (.invokevirtual 728, 3) := dcU2 dO_182 (by decide +kernel)
theorem dX12_rests_4 : decode cX12_rests 4 = .ok (.istore_n 1, 1) := dc0 dO_60 (by decide +kernel)
theorem dX12_rests_5 : decode cX12_rests 5 = .ok (.iconst 0, 1) := dc0 dO_3 (by decide +kernel)
theorem dX12_rests_6 : decode cX12_rests 6 = .ok (.istore_n 2, 1) := dc0 dO_61 (by decide +kernel)
theorem dX12_rests_7 : decode cX12_rests 7 = .ok (.iconst 0, 1) := dc0 dO_3 (by decide +kernel)
theorem dX12_rests_8 : decode cX12_rests 8 = .ok (.istore_n 3, 1) := dc0 dO_62 (by decide +kernel)
theorem dX12_rests_9 : decode cX12_rests 9 = .ok (.iload_n 3, 1) := dc0 dO_29 (by decide +kernel)
theorem dX12_rests_10 : decode cX12_rests 10 = .ok (.iload_n 1, 1) := dc0 dO_27 (by decide +kernel)
theorem dX12_rests_11 : decode cX12_rests 11 = .ok (.if_icmp .ge 25, 3) := dcS2 dO_162 (by decide +kernel)
theorem dX12_rests_14 : decode cX12_rests 14 = .ok (.iload_n 2, 1) := dc0 dO_28 (by decide +kernel)
theorem dX12_rests_15 : decode cX12_rests 15 = .ok (.aload_n 0, 1) := dc0 dO_42 (by decide +kernel)
theorem dX12_rests_16 : decode cX12_rests 16 = .ok (.iload_n 3, 1) := dc0 dO_29 (by decide +kernel)
theorem dX12_rests_17 : decode cX12_rests 17 = .ok (.invokevirtual 731, 3) := dcU2 dO_182 (by decide +kernel)
theorem dX12_rests_20 : decode cX12_rests 20 = .ok (.ifCond .eq 7, 3) := dcS2 dO_153 (by decide +kernel)
theorem dX12_rests_23 : decode cX12_rests 23 = .ok (.iconst 1, 1) := dc0 dO_4 (by decide +kernel)
theorem dX12_rests_24 : decode cX12_rests 24 = .ok (.goto 4, 3) := dcS2 dO_167 (by decide +kernel)
theorem dX12_rests_27 : decode cX12_rests 27 = .ok (.iconst 0, 1) := dc0 dO_3 (by decide +kernel)
theorem dX12_rests_28 : decode cX12_rests 28 = .ok (.iadd, 1) := dc0 dO_96 (by decide +kernel)
theorem dX12_rests_29 : decode cX12_rests 29 = .ok (.istore_n 2, 1) := dc0 dO_61 (by decide +kernel)
theorem dX12_rests_30 : decode cX12_rests 30 = .ok (.iinc 3 1, 3) := dcI dO_132 (by decide +kernel)
theorem dX12_rests_33 : decode cX12_rests 33 = .ok (.goto (-24), 3) := dcS2 dO_167 (by decide +kernel)
theorem dX12_rests_36 : decode cX12_rests 36 = .ok (.iload_n 2, 1) := dc0 dO_28 (by decide +kernel)
theorem dX12_rests_37 : decode cX12_rests 37 = .ok (.ireturn, 1) := dc0 dO_172 (by decide +kernel)
theorem dX12_route_0 : decode cX12_route 0 = .ok (.aload_n 0, 1) := dc0 dO_42 (by decide +kernel)
theorem dX12_route_1 : decode cX12_route 1 = .ok (.iload_n 1, 1) := dc0 dO_27 (by decide +kernel)
theorem dX12_route_2 : decode cX12_route 2 = .ok (.invokevirtual 92, 3) := dcU2 dO_182 (by decide +kernel)
theorem dX12_route_5 : decode cX12_route 5 = .ok (.ifCond .eq 35, 3) := dcS2 dO_153 (by decide +kernel)
theorem dX12_route_8 : decode cX12_route 8 = .ok (.iload_n 2, 1) := dc0 dO_28 (by decide +kernel)
theorem dX12_route_9 : decode cX12_route 9 = .ok (.iconst 0, 1) := dc0 dO_3 (by decide +kernel)
theorem dX12_route_10 : decode cX12_route 10 = .ok (.sipush 1000, 3) := dcS2 dO_17 (by decide +kernel)
theorem dX12_route_13 : decode cX12_route 13 = .ok (.invokestatic 18, 3) := dcU2 dO_184 (by decide +kernel)
theorem dX12_route_16 : decode cX12_route 16 = .ok (.ifCond .eq 24, 3) := dcS2 dO_153 (by decide +kernel)
theorem dX12_route_19 : decode cX12_route 19 = .ok (.iload_n 3, 1) := dc0 dO_29 (by decide +kernel)
theorem dX12_route_20 : decode cX12_route 20 = .ok (.iconst 0, 1) := dc0 dO_3 (by decide +kernel)
theorem dX12_route_21 : decode cX12_route 21 = .ok (.iconst 2, 1) := dc0 dO_5 (by decide +kernel)
theorem dX12_route_22 : decode cX12_route 22 = .ok (.invokestatic 18, 3) := dcU2 dO_184 (by decide +kernel)
theorem dX12_route_25 : decode cX12_route 25 = .ok (.ifCond .eq 15, 3) := dcS2 dO_153 (by decide +kernel)
theorem dX12_route_28 : decode cX12_route 28 = .ok (.iload 4, 2) := dcU1 dO_21 (by decide +kernel)
theorem dX12_route_30 : decode cX12_route 30 = .ok (.iconst 0, 1) := dc0 dO_3 (by decide +kernel)
theorem dX12_route_31 : decode cX12_route 31 = .ok (.ldc_w 291, 3) := dcU2 dO_19 (by decide +kernel)
theorem dX12_route_34 : decode cX12_route 34 = .ok (.invokestatic 18, 3) := dcU2 dO_184 (by decide +kernel)
theorem dX12_route_37 : decode cX12_route 37 = .ok (.ifCond .ne 5, 3) := dcS2 dO_154 (by decide +kernel)
theorem dX12_route_40 : decode cX12_route 40 = .ok (.iconst (-1), 1) := dc0 dO_2 (by decide +kernel)
theorem dX12_route_41 : decode cX12_route 41 = .ok (.ireturn, 1) := dc0 dO_172 (by decide +kernel)
theorem dX12_route_42 : decode cX12_route 42 = .ok (.aload_n 0, 1) := dc0 dO_42 (by decide +kernel)
theorem dX12_route_43 : decode cX12_route 43 = .ok (.getfield 148, 3) := dcU2 dO_180 (by decide +kernel)
theorem dX12_route_46 : decode cX12_route 46 = .ok (.iconst 0, 1) := dc0 dO_3 (by decide +kernel)
theorem dX12_route_47 : decode cX12_route 47 = .ok (.iload_n 1, 1) := dc0 dO_27 (by decide +kernel)
theorem dX12_route_48 : decode cX12_route 48 = .ok (.iastore, 1) := dc0 dO_79 (by decide +kernel)
theorem dX12_route_49 : decode cX12_route 49 = .ok (.aload_n 0, 1) := dc0 dO_42 (by decide +kernel)
theorem dX12_route_50 : decode cX12_route 50 = .ok (.getfield 148, 3) := dcU2 dO_180 (by decide +kernel)
theorem dX12_route_53 : decode cX12_route 53 = .ok (.iconst 1, 1) := dc0 dO_4 (by decide +kernel)
theorem dX12_route_54 : decode cX12_route 54 = .ok (.iload_n 2, 1) := dc0 dO_28 (by decide +kernel)
theorem dX12_route_55 : decode cX12_route 55 = .ok (.iastore, 1) := dc0 dO_79 (by decide +kernel)
theorem dX12_route_56 : decode cX12_route 56 = .ok (.aload_n 0, 1) := dc0 dO_42 (by decide +kernel)
theorem dX12_route_57 : decode cX12_route 57 = .ok (.getfield 148, 3) := dcU2 dO_180 (by decide +kernel)
theorem dX12_route_60 : decode cX12_route 60 = .ok (.iconst 2, 1) := dc0 dO_5 (by decide +kernel)
theorem dX12_route_61 : decode cX12_route 61 = .ok (.iload_n 3, 1) := dc0 dO_29 (by decide +kernel)
theorem dX12_route_62 : decode cX12_route 62 = .ok (.iastore, 1) := dc0 dO_79 (by decide +kernel)
theorem dX12_route_63 : decode cX12_route 63 = .ok (.aload_n 0, 1) := dc0 dO_42 (by decide +kernel)
theorem dX12_route_64 : decode cX12_route 64 = .ok (.getfield 148, 3) := dcU2 dO_180 (by decide +kernel)
theorem dX12_route_67 : decode cX12_route 67 = .ok (.iconst 3, 1) := dc0 dO_6 (by decide +kernel)
theorem dX12_route_68 : decode cX12_route 68 = .ok (.iload 4, 2) := dcU1 dO_21 (by decide +kernel)
theorem dX12_route_70 : decode cX12_route 70 = .ok (.iastore, 1) := dc0 dO_79 (by decide +kernel)
theorem dX12_route_71 : decode cX12_route 71 = .ok (.aload_n 0, 1) := dc0 dO_42 (by decide +kernel)
theorem dX12_route_72 : decode cX12_route 72 = .ok (.getfield 148, 3) := dcU2 dO_180 (by decide +kernel)
theorem dX12_route_75 : decode cX12_route 75 = .ok (.iconst 4, 1) := dc0 dO_7 (by decide +kernel)
theorem dX12_route_76 : decode cX12_route 76 = .ok (.aload_n 0, 1) := dc0 dO_42 (by decide +kernel)
theorem dX12_route_77 : decode cX12_route 77 = .ok (.getfield 79, 3) := dcU2 dO_180 (by decide +kernel)
theorem dX12_route_80 : decode cX12_route 80 = .ok (.iastore, 1) := dc0 dO_79 (by decide +kernel)
theorem dX12_route_81 : decode cX12_route 81 = .ok (.aload_n 0, 1) := dc0 dO_42 (by decide +kernel)
theorem dX12_route_82 : decode cX12_route 82 = .ok (.getfield 148, 3) := dcU2 dO_180 (by decide +kernel)
theorem dX12_route_85 : decode cX12_route 85 = .ok (.iconst 5, 1) := dc0 dO_8 (by decide +kernel)
theorem dX12_route_86 : decode cX12_route 86 = .ok (.iconst 0, 1) := dc0 dO_3 (by decide +kernel)
theorem dX12_route_87 : decode cX12_route 87 = .ok (.iastore, 1) := dc0 dO_79 (by decide +kernel)
theorem dX12_route_88 : decode cX12_route 88 = .ok (.iconst 0, 1) := dc0 dO_3 (by decide +kernel)
theorem dX12_route_89 : decode cX12_route 89 = .ok (.istore 5, 2) := dcU1 dO_54 (by decide +kernel)
theorem dX12_route_91 : decode cX12_route 91 = .ok (.iload 5, 2) := dcU1 dO_21 (by decide +kernel)
theorem dX12_route_93 : decode cX12_route 93 = .ok (.aload_n 0, 1) := dc0 dO_42 (by decide +kernel)
theorem dX12_route_94 : decode cX12_route 94 = .ok (.getfield 79, 3) := dcU2 dO_180 (by decide +kernel)
theorem dX12_route_97 : decode cX12_route 97 = .ok (.if_icmp .ge 26, 3) := dcS2 dO_162 (by decide +kernel)
theorem dX12_route_100 : decode cX12_route 100 = .ok (.aload_n 0, 1) := dc0 dO_42 (by decide +kernel)
theorem dX12_route_101 : decode cX12_route 101 = .ok (.getfield 148, 3) := dcU2 dO_180 (by decide +kernel)
theorem dX12_route_104 : decode cX12_route 104 = .ok (.bipush 6, 2) := dcS1 dO_16 (by decide +kernel)
theorem dX12_route_106 : decode cX12_route 106 = .ok (.iload 5, 2) := dcU1 dO_21 (by decide +kernel)
theorem dX12_route_108 : decode cX12_route 108 = .ok (.iadd, 1) := dc0 dO_96 (by decide +kernel)
theorem dX12_route_109 : decode cX12_route 109 = .ok (.aload_n 0, 1) := dc0 dO_42 (by decide +kernel)
theorem dX12_route_110 : decode cX12_route 110 = .ok (.getfield 82, 3) := dcU2 dO_180 (by decide +kernel)
theorem dX12_route_113 : decode cX12_route 113 = .ok (.iload 5, 2) := dcU1 dO_21 (by decide +kernel)
theorem dX12_route_115 : decode cX12_route 115 = .ok (.iaload, 1) := dc0 dO_46 (by decide +kernel)
theorem dX12_route_116 : decode cX12_route 116 = .ok (.iastore, 1) := dc0 dO_79 (by decide +kernel)
theorem dX12_route_117 : decode cX12_route 117 = .ok (.iinc 5 1, 3) := dcI dO_132 (by decide +kernel)
theorem dX12_route_120 : decode cX12_route 120 = .ok (.goto (-29), 3) := dcS2 dO_167 (by decide +kernel)
theorem dX12_route_123 : decode cX12_route 123 = .ok (.aload_n 0, 1) := dc0 dO_42 (by decide +kernel)
theorem dX12_route_124 : decode cX12_route 124 = .ok (.iconst 1, 1) := dc0 dO_4 (by decide +kernel)
theorem dX12_route_125 : decode cX12_route 125 = .ok (.putfield 411, 3) := dcU2 dO_181 (by decide +kernel)
theorem sfx_cX12_route_128 : (cX12_route.data.toList.drop 128).take 67 = [3, 172] := by decide +kernel
theorem dX12_route_128 : decode cX12_route 128 = .ok (.iconst 0, 1) := dc0 dO_3 (rdB.ch sfx_cX12_route_128 0 rfl (by decide +kernel))
theorem dX12_route_129 : decode cX12_route 129 = .ok (.ireturn, 1) := dc0 dO_172 (rdB.ch sfx_cX12_route_128 1 rfl (by decide +kernel))
theorem dX12_sends_0 : decode cX12_sends 0 = .ok (.ldc 29, 2) := dcU1 dO_18 (by decide +kernel)
theorem dX12_sends_2 : decode cX12_sends 2 = .ok (.istore_n 3, 1) := dc0 dO_62 (by decide +kernel)
theorem dX12_sends_3 : decode cX12_sends 3 = .ok (.iconst 0, 1) := dc0 dO_3 (by decide +kernel)
theorem dX12_sends_4 : decode cX12_sends 4 = .ok (.istore 4, 2) := dcU1 dO_54 (by decide +kernel)
theorem dX12_sends_6 : decode cX12_sends 6 = .ok (.iload 4, 2) := dcU1 dO_21 (by decide +kernel)
theorem dX12_sends_8 : decode cX12_sends 8 = .ok (.aload_n 0, 1) := dc0 dO_42 (by decide +kernel)
theorem dX12_sends_9 : decode cX12_sends 9 = .ok (.getfield 15, 3) := dcU2 dO_180 (by decide +kernel)
theorem dX12_sends_12 : decode cX12_sends 12 = .ok (.if_icmp .ge 75, 3) := dcS2 dO_162 (by decide +kernel)
theorem dX12_sends_15 : decode cX12_sends 15 = .ok (.aload_n 0, 1) := dc0 dO_42 (by decide +kernel)
theorem dX12_sends_16 : decode cX12_sends 16 = .ok (.getfield 445, 3) := dcU2 dO_180 (by decide +kernel)
theorem dX12_sends_19 : decode cX12_sends 19 = .ok (.bipush 10, 2) := dcS1 dO_16 (by decide +kernel)
theorem dX12_sends_21 : decode cX12_sends 21 = .ok (.iload_n 1, 1) := dc0 dO_27 (by decide +kernel)
theorem dX12_sends_22 : decode cX12_sends 22 = .ok (.imul, 1) := dc0 dO_104 (by decide +kernel)
theorem dX12_sends_23 : decode cX12_sends 23 = .ok (.iload 4, 2) := dcU1 dO_21 (by decide +kernel)
theorem dX12_sends_25 : decode cX12_sends 25 = .ok (.iadd, 1) := dc0 dO_96 (by decide +kernel)
theorem dX12_sends_26 : decode cX12_sends 26 = .ok (.iaload, 1) := dc0 dO_46 (by decide +kernel)
theorem dX12_sends_27 : decode cX12_sends 27 = .ok (.ldc 29, 2) := dcU1 dO_18 (by decide +kernel)
theorem dX12_sends_29 : decode cX12_sends 29 = .ok (.if_icmp .eq 52, 3) := dcS2 dO_159 (by decide +kernel)
theorem dX12_sends_32 : decode cX12_sends 32 = .ok (.aload_n 0, 1) := dc0 dO_42 (by decide +kernel)
theorem dX12_sends_33 : decode cX12_sends 33 = .ok (.getfield 22, 3) := dcU2 dO_180 (by decide +kernel)
theorem dX12_sends_36 : decode cX12_sends 36 = .ok (.iload 4, 2) := dcU1 dO_21 (by decide +kernel)
theorem dX12_sends_38 : decode cX12_sends 38 = .ok (.iaload, 1) := dc0 dO_46 (by decide +kernel)
theorem dX12_sends_39 : decode cX12_sends 39 = .ok (.aload_n 0, 1) := dc0 dO_42 (by decide +kernel)
theorem dX12_sends_40 : decode cX12_sends 40 = .ok (.getfield 26, 3) := dcU2 dO_180 (by decide +kernel)
theorem dX12_sends_43 : decode cX12_sends 43 = .ok (.iload 4, 2) := dcU1 dO_21 (by decide +kernel)
theorem dX12_sends_45 : decode cX12_sends 45 = .ok (.iaload, 1) := dc0 dO_46 (by decide +kernel)
theorem dX12_sends_46 : decode cX12_sends 46 = .ok (.iload_n 2, 1) := dc0 dO_28 (by decide +kernel)
theorem dX12_sends_47 : decode cX12_sends 47 = .ok (.invokestatic 142, 3) := dcU2 dO_184 (by decide +kernel)
theorem dX12_sends_50 : decode cX12_sends 50 = .ok (.ifCond .ne 6, 3) := dcS2 dO_154 (by decide +kernel)
theorem dX12_sends_53 : decode cX12_sends 53 = .ok (.goto 28, 3) := dcS2 dO_167 (by decide +kernel)
theorem dX12_sends_56 : decode cX12_sends 56 = .ok (.iload_n 3, 1) := dc0 dO_29 (by decide +kernel)
theorem dX12_sends_57 : decode cX12_sends 57 = .ok (.ldc 29, 2) := dcU1 dO_18 (by decide +kernel)
theorem dX12_sends_59 : decode cX12_sends 59 = .ok (.if_icmp .eq 19, 3) := dcS2 dO_159 (by decide +kernel)
theorem dX12_sends_62 : decode cX12_sends 62 = .ok (.aload_n 0, 1) := dc0 dO_42 (by decide +kernel)
theorem dX12_sends_63 : decode cX12_sends 63 = .ok (.getfield 26, 3) := dcU2 dO_180 (by decide +kernel)
theorem dX12_sends_66 : decode cX12_sends 66 = .ok (.iload 4, 2) := dcU1 dO_21 (by decide +kernel)
theorem dX12_sends_68 : decode cX12_sends 68 = .ok (.iaload, 1) := dc0 dO_46 (by decide +kernel)
theorem dX12_sends_69 : decode cX12_sends 69 = .ok (.aload_n 0, 1) := dc0 dO_42 (by decide +kernel)
theorem dX12_sends_70 : decode cX12_sends 70 = .ok (.getfield 26, 3) := dcU2 dO_180 (by decide +kernel)
theorem dX12_sends_73 : decode cX12_sends 73 = .ok (.iload_n 3, 1) := dc0 dO_29 (by decide +kernel)
theorem dX12_sends_74 : decode cX12_sends 74 = .ok (.iaload, 1) := dc0 dO_46 (by decide +kernel)
theorem dX12_sends_75 : decode cX12_sends 75 = .ok (.if_icmp .le 6, 3) := dcS2 dO_164 (by decide +kernel)
theorem dX12_sends_78 : decode cX12_sends 78 = .ok (.iload 4, 2) := dcU1 dO_21 (by decide +kernel)
theorem dX12_sends_80 : decode cX12_sends 80 = .ok (.istore_n 3, 1) := dc0 dO_62 (by decide +kernel)
theorem dX12_sends_81 : decode cX12_sends 81 = .ok (.iinc 4 1, 3) := dcI dO_132 (by decide +kernel)
theorem dX12_sends_84 : decode cX12_sends 84 = .ok (.goto (-78), 3) := dcS2 dO_167 (by decide +kernel)
theorem dX12_sends_87 : decode cX12_sends 87 = .ok (.iload_n 3, 1) := dc0 dO_29 (by decide +kernel)
theorem dX12_sends_88 : decode cX12_sends 88 = .ok (.ldc 29, 2) := dcU1 dO_18 (by decide +kernel)
theorem dX12_sends_90 : decode cX12_sends 90 = .ok (.if_icmp .ne 8, 3) := dcS2 dO_160 (by decide +kernel)
theorem dX12_sends_93 : decode cX12_sends 93 = .ok (.ldc 29, 2) := dcU1 dO_18 (by decide +kernel)
theorem dX12_sends_95 : decode cX12_sends 95 = .ok (.goto 14, 3) := dcS2 dO_167 (by decide +kernel)
theorem dX12_sends_98 : decode cX12_sends 98 = .ok (.aload_n 0, 1) := dc0 dO_42 (by decide +kernel)
theorem dX12_sends_99 : decode cX12_sends 99 = .ok (.getfield 445, 3) := dcU2 dO_180 (by decide +kernel)
theorem dX12_sends_102 : decode cX12_sends 102 = .ok (.bipush 10, 2) := dcS1 dO_16 (by decide +kernel)
theorem dX12_sends_104 : decode cX12_sends 104 = .ok (.iload_n 1, 1) := dc0 dO_27 (by decide +kernel)
theorem dX12_sends_105 : decode cX12_sends 105 = .ok (.imul, 1) := dc0 dO_104 (by decide +kernel)
theorem dX12_sends_106 : decode cX12_sends 106 = .ok (.iload_n 3, 1) := dc0 dO_29 (by decide +kernel)
theorem dX12_sends_107 : decode cX12_sends 107 = .ok (.iadd, 1) := dc0 dO_96 (by decide +kernel)
theorem dX12_sends_108 : decode cX12_sends 108 = .ok (.iaload, 1) := dc0 dO_46 (by decide +kernel)
theorem dX12_sends_109 : decode cX12_sends 109 = .ok (.ireturn, 1) := dc0 dO_172 (by decide +kernel)
theorem dX12_sideOf_0 : decode cX12_sideOf 0 = .ok (.aload_n 0, 1) := dc0 dO_42 (by decide +kernel)
theorem dX12_sideOf_1 : decode cX12_sideOf 1 = .ok (.getfield 40, 3) := dcU2 dO_180 (by decide +kernel)
theorem dX12_sideOf_4 : decode cX12_sideOf 4 = .ok (.iconst 2, 1) := dc0 dO_5 (by decide +kernel)
theorem dX12_sideOf_5 : decode cX12_sideOf 5 = .ok (.iload_n 1, 1) := dc0 dO_27 (by decide +kernel)
theorem dX12_sideOf_6 : decode cX12_sideOf 6 = .ok (.imul, 1) := dc0 dO_104 (by decide +kernel)
theorem dX12_sideOf_7 : decode cX12_sideOf 7 = .ok (.iaload, 1) := dc0 dO_46 (by decide +kernel)
theorem dX12_sideOf_8 : decode cX12_sideOf 8 = .ok (.iload_n 2, 1) := dc0 dO_28 (by decide +kernel)
theorem dX12_sideOf_9 : decode cX12_sideOf 9 = .ok (.if_icmp .ne 7, 3) := dcS2 dO_160 (by decide +kernel)
theorem dX12_sideOf_12 : decode cX12_sideOf 12 = .ok (.iconst 0, 1) := dc0 dO_3 (by decide +kernel)
theorem dX12_sideOf_13 : decode cX12_sideOf 13 = .ok (.goto 4, 3) := dcS2 dO_167 (by decide +kernel)
theorem dX12_sideOf_16 : decode cX12_sideOf 16 = .ok (.iconst 1, 1) := dc0 dO_4 (by decide +kernel)
theorem dX12_sideOf_17 : decode cX12_sideOf 17 = .ok (.ireturn, 1) := dc0 dO_172 (by decide +kernel)
theorem dX12_slot_0 : decode cX12_slot 0 = .ok (.iconst 2, 1) := dc0 dO_5 (by decide +kernel)
theorem dX12_slot_1 : decode cX12_slot 1 = .ok (.iload_n 0, 1) := dc0 dO_26 (by decide +kernel)
theorem dX12_slot_2 : decode cX12_slot 2 = .ok (.imul, 1) := dc0 dO_104 (by decide +kernel)
theorem dX12_slot_3 : decode cX12_slot 3 = .ok (.iload_n 1, 1) := dc0 dO_27 (by decide +kernel)
theorem dX12_slot_4 : decode cX12_slot 4 = .ok (.iadd, 1) := dc0 dO_96 (by decide +kernel)
theorem dX12_slot_5 : decode cX12_slot 5 = .ok (.bipush 10, 2) := dcS1 dO_16 (by decide +kernel)
theorem dX12_slot_7 : decode cX12_slot 7 = .ok (.imul, 1) := dc0 dO_104 (by decide +kernel)
theorem dX12_slot_8 : decode cX12_slot 8 = .ok (.iload_n 2, 1) := dc0 dO_28 (by decide +kernel)
theorem dX12_slot_9 : decode cX12_slot 9 = .ok (.iadd, 1) := dc0 dO_96 (by decide +kernel)
theorem dX12_slot_10 : decode cX12_slot 10 = .ok (.ireturn, 1) := dc0 dO_172 (by decide +kernel)
theorem dX12_states_0 : decode cX12_states 0 = .ok (.iconst 1, 1) := dc0 dO_4 (by decide +kernel)
theorem dX12_states_1 : decode cX12_states 1 = .ok (.istore_n 1, 1) := dc0 dO_60 (by decide +kernel)
theorem dX12_states_2 : decode cX12_states 2 = .ok (.bipush 6, 2) := dcS1 dO_16 (by decide +kernel)
theorem dX12_states_4 : decode cX12_states 4 = .ok (.istore_n 2, 1) := dc0 dO_61 (by decide +kernel)
theorem dX12_states_5 : decode cX12_states 5 = .ok (.iload_n 2, 1) := dc0 dO_28 (by decide +kernel)
theorem dX12_states_6 : decode cX12_states 6 = .ok (.iconst 1, 1) := dc0 dO_4 (by decide +kernel)
theorem dX12_states_7 : decode cX12_states 7 = .ok (.if_icmp .lt 27, 3) := dcS2 dO_161 (by decide +kernel)
theorem dX12_states_10 : decode cX12_states 10 = .ok (.aload_n 0, 1) := dc0 dO_42 (by decide +kernel)
theorem dX12_states_11 : decode cX12_states 11 = .ok (.getfield 523, 3) := dcU2 dO_180 (by decide +kernel)
theorem dX12_states_14 : decode cX12_states 14 = .ok (.iload_n 2, 1) := dc0 dO_28 (by decide +kernel)
theorem dX12_states_15 : decode cX12_states 15 = .ok (.iload_n 1, 1) := dc0 dO_27 (by decide +kernel)
theorem dX12_states_16 : decode cX12_states 16 = .ok (.iastore, 1) := dc0 dO_79 (by decide +kernel)
theorem dX12_states_17 : decode cX12_states 17 = .ok (.iload_n 1, 1) := dc0 dO_27 (by decide +kernel)
theorem dX12_states_18 : decode cX12_states 18 = .ok (.aload_n 0, 1) := dc0 dO_42 (by decide +kernel)
theorem dX12_states_19 : decode cX12_states 19 = .ok (.getfield 514, 3) := dcU2 dO_180 (by decide +kernel)
theorem dX12_states_22 : decode cX12_states 22 = .ok (.iload_n 2, 1) := dc0 dO_28 (by decide +kernel)
theorem dX12_states_23 : decode cX12_states 23 = .ok (.iaload, 1) := dc0 dO_46 (by decide +kernel)
theorem dX12_states_24 : decode cX12_states 24 = .ok (.iconst 1, 1) := dc0 dO_4 (by decide +kernel)
theorem dX12_states_25 : decode cX12_states 25 = .ok (.iadd, 1) := dc0 dO_96 (by decide +kernel)
theorem dX12_states_26 : decode cX12_states 26 = .ok (.imul, 1) := dc0 dO_104 (by decide +kernel)
theorem dX12_states_27 : decode cX12_states 27 = .ok (.istore_n 1, 1) := dc0 dO_60 (by decide +kernel)
theorem dX12_states_28 : decode cX12_states 28 = .ok (.iinc 2 (-1), 3) := dcI dO_132 (by decide +kernel)
theorem dX12_states_31 : decode cX12_states 31 = .ok (.goto (-26), 3) := dcS2 dO_167 (by decide +kernel)
theorem dX12_states_34 : decode cX12_states 34 = .ok (.iload_n 1, 1) := dc0 dO_27 (by decide +kernel)
theorem dX12_states_35 : decode cX12_states 35 = .ok (.ireturn, 1) := dc0 dO_172 (by decide +kernel)
theorem dX12_unlike_0 : decode cX12_unlike 0 = .ok (.iconst 0, 1) := dc0 dO_3 (by decide +kernel)
theorem dX12_unlike_1 : decode cX12_unlike 1 = .ok (.istore 7, 2) := dcU1 dO_54 (by decide +kernel)
theorem dX12_unlike_3 : decode cX12_unlike 3 = .ok (.iload 7, 2) := dcU1 dO_21 (by decide +kernel)
theorem dX12_unlike_5 : decode cX12_unlike 5 = .ok (.bipush 6, 2) := dcS1 dO_16 (by decide +kernel)
theorem dX12_unlike_7 : decode cX12_unlike 7 = .ok (.if_icmp .ge 277, 3) := dcS2 dO_162 (by decide +kernel)
theorem dX12_unlike_10 : decode cX12_unlike 10 = .ok (.aload_n 0, 1) := dc0 dO_42 (by decide +kernel)
theorem dX12_unlike_11 : decode cX12_unlike 11 = .ok (.getfield 451, 3) := dcU2 dO_180 (by decide +kernel)
theorem dX12_unlike_14 : decode cX12_unlike 14 = .ok (.bipush 6, 2) := dcS1 dO_16 (by decide +kernel)
theorem dX12_unlike_16 : decode cX12_unlike 16 = .ok (.iload_n 1, 1) := dc0 dO_27 (by decide +kernel)
theorem dX12_unlike_17 : decode cX12_unlike 17 = .ok (.imul, 1) := dc0 dO_104 (by decide +kernel)
theorem dX12_unlike_18 : decode cX12_unlike 18 = .ok (.iload 7, 2) := dcU1 dO_21 (by decide +kernel)
theorem dX12_unlike_20 : decode cX12_unlike 20 = .ok (.iadd, 1) := dc0 dO_96 (by decide +kernel)
theorem dX12_unlike_21 : decode cX12_unlike 21 = .ok (.iaload, 1) := dc0 dO_46 (by decide +kernel)
theorem dX12_unlike_22 : decode cX12_unlike 22 = .ok (.istore 8, 2) := dcU1 dO_54 (by decide +kernel)
theorem dX12_unlike_24 : decode cX12_unlike 24 = .ok (.iconst 0, 1) := dc0 dO_3 (by decide +kernel)
theorem dX12_unlike_25 : decode cX12_unlike 25 = .ok (.istore 9, 2) := dcU1 dO_54 (by decide +kernel)
theorem dX12_unlike_27 : decode cX12_unlike 27 = .ok (.bipush 40, 2) := dcS1 dO_16 (by decide +kernel)
theorem dX12_unlike_29 : decode cX12_unlike 29 = .ok (.iload_n 2, 1) := dc0 dO_28 (by decide +kernel)
theorem dX12_unlike_30 : decode cX12_unlike 30 = .ok (.imul, 1) := dc0 dO_104 (by decide +kernel)
theorem dX12_unlike_31 : decode cX12_unlike 31 = .ok (.istore 10, 2) := dcU1 dO_54 (by decide +kernel)
theorem dX12_unlike_33 : decode cX12_unlike 33 = .ok (.bipush 40, 2) := dcS1 dO_16 (by decide +kernel)
theorem dX12_unlike_35 : decode cX12_unlike 35 = .ok (.iload 4, 2) := dcU1 dO_21 (by decide +kernel)
theorem dX12_unlike_37 : decode cX12_unlike 37 = .ok (.imul, 1) := dc0 dO_104 (by decide +kernel)
theorem dX12_unlike_38 : decode cX12_unlike 38 = .ok (.istore 11, 2) := dcU1 dO_54 (by decide +kernel)
theorem dX12_unlike_40 : decode cX12_unlike 40 = .ok (.aload_n 0, 1) := dc0 dO_42 (by decide +kernel)
theorem dX12_unlike_41 : decode cX12_unlike 41 = .ok (.getfield 148, 3) := dcU2 dO_180 (by decide +kernel)
theorem dX12_unlike_44 : decode cX12_unlike 44 = .ok (.iload 10, 2) := dcU1 dO_21 (by decide +kernel)
theorem dX12_unlike_46 : decode cX12_unlike 46 = .ok (.iconst 4, 1) := dc0 dO_7 (by decide +kernel)
theorem dX12_unlike_47 : decode cX12_unlike 47 = .ok (.iadd, 1) := dc0 dO_96 (by decide +kernel)
theorem dX12_unlike_48 : decode cX12_unlike 48 = .ok (.iaload, 1) := dc0 dO_46 (by decide +kernel)
theorem dX12_unlike_49 : decode cX12_unlike 49 = .ok (.ifCond .le 42, 3) := dcS2 dO_158 (by decide +kernel)
theorem dX12_unlike_52 : decode cX12_unlike 52 = .ok (.aload_n 0, 1) := dc0 dO_42 (by decide +kernel)
theorem dX12_unlike_53 : decode cX12_unlike 53 = .ok (.getfield 148, 3) := dcU2 dO_180 (by decide +kernel)
theorem dX12_unlike_56 : decode cX12_unlike 56 = .ok (.iload 11, 2) := dcU1 dO_21 (by decide +kernel)
theorem dX12_unlike_58 : decode cX12_unlike 58 = .ok (.iconst 4, 1) := dc0 dO_7 (by decide +kernel)
theorem dX12_unlike_59 : decode cX12_unlike 59 = .ok (.iadd, 1) := dc0 dO_96 (by decide +kernel)
theorem dX12_unlike_60 : decode cX12_unlike 60 = .ok (.iaload, 1) := dc0 dO_46 (by decide +kernel)
theorem dX12_unlike_61 : decode cX12_unlike 61 = .ok (.ifCond .le 30, 3) := dcS2 dO_158 (by decide +kernel)
theorem dX12_unlike_64 : decode cX12_unlike 64 = .ok (.aload_n 0, 1) := dc0 dO_42 (by decide +kernel)
theorem dX12_unlike_65 : decode cX12_unlike 65 = .ok (.getfield 148, 3) := dcU2 dO_180 (by decide +kernel)
theorem dX12_unlike_68 : decode cX12_unlike 68 = .ok (.iload 10, 2) := dcU1 dO_21 (by decide +kernel)
theorem dX12_unlike_70 : decode cX12_unlike 70 = .ok (.bipush 6, 2) := dcS1 dO_16 (by decide +kernel)
theorem dX12_unlike_72 : decode cX12_unlike 72 = .ok (.iadd, 1) := dc0 dO_96 (by decide +kernel)
theorem dX12_unlike_73 : decode cX12_unlike 73 = .ok (.iaload, 1) := dc0 dO_46 (by decide +kernel)
theorem dX12_unlike_74 : decode cX12_unlike 74 = .ok (.aload_n 0, 1) := dc0 dO_42 (by decide +kernel)
theorem dX12_unlike_75 : decode cX12_unlike 75 = .ok (.getfield 148, 3) := dcU2 dO_180 (by decide +kernel)
theorem dX12_unlike_78 : decode cX12_unlike 78 = .ok (.iload 11, 2) := dcU1 dO_21 (by decide +kernel)
theorem dX12_unlike_80 : decode cX12_unlike 80 = .ok (.bipush 6, 2) := dcS1 dO_16 (by decide +kernel)
theorem dX12_unlike_82 : decode cX12_unlike 82 = .ok (.iadd, 1) := dc0 dO_96 (by decide +kernel)
theorem dX12_unlike_83 : decode cX12_unlike 83 = .ok (.iaload, 1) := dc0 dO_46 (by decide +kernel)
theorem dX12_unlike_84 : decode cX12_unlike 84 = .ok (.if_icmp .ne 7, 3) := dcS2 dO_160 (by decide +kernel)
theorem dX12_unlike_87 : decode cX12_unlike 87 = .ok (.iconst 1, 1) := dc0 dO_4 (by decide +kernel)
theorem dX12_unlike_88 : decode cX12_unlike 88 = .ok (.goto 4, 3) := dcS2 dO_167 (by decide +kernel)
theorem dX12_unlike_91 : decode cX12_unlike 91 = .ok (.iconst 0, 1) := dc0 dO_3 (by decide +kernel)
theorem dX12_unlike_92 : decode cX12_unlike 92 = .ok (.istore 12, 2) := dcU1 dO_54 (by decide +kernel)
theorem dX12_unlike_94 : decode cX12_unlike 94 = .ok (.iload 8, 2) := dcU1 dO_21 (by decide +kernel)
theorem dX12_unlike_96 : decode cX12_unlike 96 = .ok (.iconst 1, 1) := dc0 dO_4 (by decide +kernel)
theorem dX12_unlike_97 : decode cX12_unlike 97 = .ok (.if_icmp .ne 24, 3) := dcS2 dO_160 (by decide +kernel)
theorem dX12_unlike_100 : decode cX12_unlike 100 = .ok (.aload_n 0, 1) := dc0 dO_42 (by decide +kernel)
theorem dX12_unlike_101 : decode cX12_unlike 101 = .ok (.getfield 148, 3) := dcU2 dO_180 (by decide +kernel)
theorem dX12_unlike_104 : decode cX12_unlike 104 = .ok (.iload 11, 2) := dcU1 dO_21 (by decide +kernel)
theorem dX12_unlike_106 : decode cX12_unlike 106 = .ok (.iconst 1, 1) := dc0 dO_4 (by decide +kernel)
theorem dX12_unlike_107 : decode cX12_unlike 107 = .ok (.iadd, 1) := dc0 dO_96 (by decide +kernel)
theorem dX12_unlike_108 : decode cX12_unlike 108 = .ok (.iaload, 1) := dc0 dO_46 (by decide +kernel)
theorem dX12_unlike_109 : decode cX12_unlike 109 = .ok (.aload_n 0, 1) := dc0 dO_42 (by decide +kernel)
theorem dX12_unlike_110 : decode cX12_unlike 110 = .ok (.getfield 148, 3) := dcU2 dO_180 (by decide +kernel)
theorem dX12_unlike_113 : decode cX12_unlike 113 = .ok (.iload 10, 2) := dcU1 dO_21 (by decide +kernel)
theorem dX12_unlike_115 : decode cX12_unlike 115 = .ok (.iconst 1, 1) := dc0 dO_4 (by decide +kernel)
theorem dX12_unlike_116 : decode cX12_unlike 116 = .ok (.iadd, 1) := dc0 dO_96 (by decide +kernel)
theorem dX12_unlike_117 : decode cX12_unlike 117 = .ok (.iaload, 1) := dc0 dO_46 (by decide +kernel)
theorem dX12_unlike_118 : decode cX12_unlike 118 = .ok (.isub, 1) := dc0 dO_100 (by decide +kernel)
theorem dX12_unlike_119 : decode cX12_unlike 119 = .ok (.istore 9, 2) := dcU1 dO_54 (by decide +kernel)
theorem dX12_unlike_121 : decode cX12_unlike 121 = .ok (.iload 8, 2) := dcU1 dO_21 (by decide +kernel)
theorem dX12_unlike_123 : decode cX12_unlike 123 = .ok (.iconst 2, 1) := dc0 dO_5 (by decide +kernel)
theorem dX12_unlike_124 : decode cX12_unlike 124 = .ok (.if_icmp .ne 24, 3) := dcS2 dO_160 (by decide +kernel)
theorem dX12_unlike_127 : decode cX12_unlike 127 = .ok (.aload_n 0, 1) := dc0 dO_42 (by decide +kernel)
theorem sfx_cX12_unlike_128 : (cX12_unlike.data.toList.drop 128).take 67 = [180, 0, 148, 21, 10, 7, 96, 46, 42, 180, 0, 148, 21, 11, 7, 96, 46, 100, 54, 9, 21, 8, 6, 160, 0, 24, 42, 180, 0, 148, 21, 10, 5, 96, 46, 42, 180, 0, 148, 21, 11, 5, 96, 46, 100, 54, 9, 21, 8, 7, 160, 0, 8, 21, 12, 154, 0, 10, 21, 8, 16, 6, 160, 0, 24, 42, 180] := by decide +kernel
theorem dX12_unlike_128 : decode cX12_unlike 128 = .ok (.getfield 148, 3) := dcU2 dO_180 (rdU2.ch sfx_cX12_unlike_128 0 rfl (by decide +kernel))
theorem dX12_unlike_131 : decode cX12_unlike 131 = .ok (.iload 10, 2) := dcU1 dO_21 (rdU1.ch sfx_cX12_unlike_128 3 rfl (by decide +kernel))
theorem dX12_unlike_133 : decode cX12_unlike 133 = .ok (.iconst 4, 1) := dc0 dO_7 (rdB.ch sfx_cX12_unlike_128 5 rfl (by decide +kernel))
theorem dX12_unlike_134 : decode cX12_unlike 134 = .ok (.iadd, 1) := dc0 dO_96 (rdB.ch sfx_cX12_unlike_128 6 rfl (by decide +kernel))
theorem dX12_unlike_135 : decode cX12_unlike 135 = .ok (.iaload, 1) := dc0 dO_46 (rdB.ch sfx_cX12_unlike_128 7 rfl (by decide +kernel))
theorem dX12_unlike_136 : decode cX12_unlike 136 = .ok (.aload_n 0, 1) := dc0 dO_42 (rdB.ch sfx_cX12_unlike_128 8 rfl (by decide +kernel))
theorem dX12_unlike_137 : decode cX12_unlike 137 = .ok (.getfield 148, 3) := dcU2 dO_180 (rdU2.ch sfx_cX12_unlike_128 9 rfl (by decide +kernel))
theorem dX12_unlike_140 : decode cX12_unlike 140 = .ok (.iload 11, 2) := dcU1 dO_21 (rdU1.ch sfx_cX12_unlike_128 12 rfl (by decide +kernel))
theorem dX12_unlike_142 : decode cX12_unlike 142 = .ok (.iconst 4, 1) := dc0 dO_7 (rdB.ch sfx_cX12_unlike_128 14 rfl (by decide +kernel))
theorem dX12_unlike_143 : decode cX12_unlike 143 = .ok (.iadd, 1) := dc0 dO_96 (rdB.ch sfx_cX12_unlike_128 15 rfl (by decide +kernel))
theorem dX12_unlike_144 : decode cX12_unlike 144 = .ok (.iaload, 1) := dc0 dO_46 (rdB.ch sfx_cX12_unlike_128 16 rfl (by decide +kernel))
theorem dX12_unlike_145 : decode cX12_unlike 145 = .ok (.isub, 1) := dc0 dO_100 (rdB.ch sfx_cX12_unlike_128 17 rfl (by decide +kernel))
theorem dX12_unlike_146 : decode cX12_unlike 146 = .ok (.istore 9, 2) := dcU1 dO_54 (rdU1.ch sfx_cX12_unlike_128 18 rfl (by decide +kernel))
theorem dX12_unlike_148 : decode cX12_unlike 148 = .ok (.iload 8, 2) := dcU1 dO_21 (rdU1.ch sfx_cX12_unlike_128 20 rfl (by decide +kernel))
theorem dX12_unlike_150 : decode cX12_unlike 150 = .ok (.iconst 3, 1) := dc0 dO_6 (rdB.ch sfx_cX12_unlike_128 22 rfl (by decide +kernel))
theorem dX12_unlike_151 : decode cX12_unlike 151 = .ok (.if_icmp .ne 24, 3) := dcS2 dO_160 (rdS2.ch sfx_cX12_unlike_128 23 rfl (by decide +kernel))
theorem dX12_unlike_154 : decode cX12_unlike 154 = .ok (.aload_n 0, 1) := dc0 dO_42 (rdB.ch sfx_cX12_unlike_128 26 rfl (by decide +kernel))
theorem dX12_unlike_155 : decode cX12_unlike 155 = .ok (.getfield 148, 3) := dcU2 dO_180 (rdU2.ch sfx_cX12_unlike_128 27 rfl (by decide +kernel))
theorem dX12_unlike_158 : decode cX12_unlike 158 = .ok (.iload 10, 2) := dcU1 dO_21 (rdU1.ch sfx_cX12_unlike_128 30 rfl (by decide +kernel))
theorem dX12_unlike_160 : decode cX12_unlike 160 = .ok (.iconst 2, 1) := dc0 dO_5 (rdB.ch sfx_cX12_unlike_128 32 rfl (by decide +kernel))
theorem dX12_unlike_161 : decode cX12_unlike 161 = .ok (.iadd, 1) := dc0 dO_96 (rdB.ch sfx_cX12_unlike_128 33 rfl (by decide +kernel))
theorem dX12_unlike_162 : decode cX12_unlike 162 = .ok (.iaload, 1) := dc0 dO_46 (rdB.ch sfx_cX12_unlike_128 34 rfl (by decide +kernel))
theorem dX12_unlike_163 : decode cX12_unlike 163 = .ok (.aload_n 0, 1) := dc0 dO_42 (rdB.ch sfx_cX12_unlike_128 35 rfl (by decide +kernel))
theorem dX12_unlike_164 : decode cX12_unlike 164 = .ok (.getfield 148, 3) := dcU2 dO_180 (rdU2.ch sfx_cX12_unlike_128 36 rfl (by decide +kernel))
theorem dX12_unlike_167 : decode cX12_unlike 167 = .ok (.iload 11, 2) := dcU1 dO_21 (rdU1.ch sfx_cX12_unlike_128 39 rfl (by decide +kernel))
theorem dX12_unlike_169 : decode cX12_unlike 169 = .ok (.iconst 2, 1) := dc0 dO_5 (rdB.ch sfx_cX12_unlike_128 41 rfl (by decide +kernel))
theorem dX12_unlike_170 : decode cX12_unlike 170 = .ok (.iadd, 1) := dc0 dO_96 (rdB.ch sfx_cX12_unlike_128 42 rfl (by decide +kernel))
theorem dX12_unlike_171 : decode cX12_unlike 171 = .ok (.iaload, 1) := dc0 dO_46 (rdB.ch sfx_cX12_unlike_128 43 rfl (by decide +kernel))
theorem dX12_unlike_172 : decode cX12_unlike 172 = .ok (.isub, 1) := dc0 dO_100 (rdB.ch sfx_cX12_unlike_128 44 rfl (by decide +kernel))
theorem dX12_unlike_173 : decode cX12_unlike 173 = .ok (.istore 9, 2) := dcU1 dO_54 (rdU1.ch sfx_cX12_unlike_128 45 rfl (by decide +kernel))
theorem dX12_unlike_175 : decode cX12_unlike 175 = .ok (.iload 8, 2) := dcU1 dO_21 (rdU1.ch sfx_cX12_unlike_128 47 rfl (by decide +kernel))
theorem dX12_unlike_177 : decode cX12_unlike 177 = .ok (.iconst 4, 1) := dc0 dO_7 (rdB.ch sfx_cX12_unlike_128 49 rfl (by decide +kernel))
theorem dX12_unlike_178 : decode cX12_unlike 178 = .ok (.if_icmp .ne 8, 3) := dcS2 dO_160 (rdS2.ch sfx_cX12_unlike_128 50 rfl (by decide +kernel))
theorem dX12_unlike_181 : decode cX12_unlike 181 = .ok (.iload 12, 2) := dcU1 dO_21 (rdU1.ch sfx_cX12_unlike_128 53 rfl (by decide +kernel))
theorem dX12_unlike_183 : decode cX12_unlike 183 = .ok (.ifCond .ne 10, 3) := dcS2 dO_154 (rdS2.ch sfx_cX12_unlike_128 55 rfl (by decide +kernel))
theorem dX12_unlike_186 : decode cX12_unlike 186 = .ok (.iload 8, 2) := dcU1 dO_21 (rdU1.ch sfx_cX12_unlike_128 58 rfl (by decide +kernel))
theorem dX12_unlike_188 : decode cX12_unlike 188 = .ok (.bipush 6, 2) := dcS1 dO_16 (rdS1.ch sfx_cX12_unlike_128 60 rfl (by decide +kernel))
theorem dX12_unlike_190 : decode cX12_unlike 190 = .ok (.if_icmp .ne 24, 3) := dcS2 dO_160 (rdS2.ch sfx_cX12_unlike_128 62 rfl (by decide +kernel))
theorem sfx_cX12_unlike_192 : (cX12_unlike.data.toList.drop 192).take 67 = [24, 42, 180, 0, 148, 21, 10, 6, 96, 46, 42, 180, 0, 148, 21, 11, 6, 96, 46, 100, 54, 9, 21, 8, 8, 160, 0, 42, 42, 180, 1, 168, 29, 42, 29, 27, 182, 2, 30, 21, 6, 184, 2, 33, 46, 42, 180, 1, 168, 21, 5, 42, 21, 5, 27, 182, 2, 30, 21, 6, 184, 2, 33, 46, 100, 54, 9] := by decide +kernel
theorem dX12_unlike_193 : decode cX12_unlike 193 = .ok (.aload_n 0, 1) := dc0 dO_42 (rdB.ch sfx_cX12_unlike_192 1 rfl (by decide +kernel))
theorem dX12_unlike_194 : decode cX12_unlike 194 = .ok (.getfield 148, 3) := dcU2 dO_180 (rdU2.ch sfx_cX12_unlike_192 2 rfl (by decide +kernel))
theorem dX12_unlike_197 : decode cX12_unlike 197 = .ok (.iload 10, 2) := dcU1 dO_21 (rdU1.ch sfx_cX12_unlike_192 5 rfl (by decide +kernel))
theorem dX12_unlike_199 : decode cX12_unlike 199 = .ok (.iconst 3, 1) := dc0 dO_6 (rdB.ch sfx_cX12_unlike_192 7 rfl (by decide +kernel))
theorem dX12_unlike_200 : decode cX12_unlike 200 = .ok (.iadd, 1) := dc0 dO_96 (rdB.ch sfx_cX12_unlike_192 8 rfl (by decide +kernel))
theorem dX12_unlike_201 : decode cX12_unlike 201 = .ok (.iaload, 1) := dc0 dO_46 (rdB.ch sfx_cX12_unlike_192 9 rfl (by decide +kernel))
theorem dX12_unlike_202 : decode cX12_unlike 202 = .ok (.aload_n 0, 1) := dc0 dO_42 (rdB.ch sfx_cX12_unlike_192 10 rfl (by decide +kernel))
theorem dX12_unlike_203 : decode cX12_unlike 203 = .ok (.getfield 148, 3) := dcU2 dO_180 (rdU2.ch sfx_cX12_unlike_192 11 rfl (by decide +kernel))
theorem dX12_unlike_206 : decode cX12_unlike 206 = .ok (.iload 11, 2) := dcU1 dO_21 (rdU1.ch sfx_cX12_unlike_192 14 rfl (by decide +kernel))
theorem dX12_unlike_208 : decode cX12_unlike 208 = .ok (.iconst 3, 1) := dc0 dO_6 (rdB.ch sfx_cX12_unlike_192 16 rfl (by decide +kernel))
theorem dX12_unlike_209 : decode cX12_unlike 209 = .ok (.iadd, 1) := dc0 dO_96 (rdB.ch sfx_cX12_unlike_192 17 rfl (by decide +kernel))
theorem dX12_unlike_210 : decode cX12_unlike 210 = .ok (.iaload, 1) := dc0 dO_46 (rdB.ch sfx_cX12_unlike_192 18 rfl (by decide +kernel))
theorem dX12_unlike_211 : decode cX12_unlike 211 = .ok (.isub, 1) := dc0 dO_100 (rdB.ch sfx_cX12_unlike_192 19 rfl (by decide +kernel))
theorem dX12_unlike_212 : decode cX12_unlike 212 = .ok (.istore 9, 2) := dcU1 dO_54 (rdU1.ch sfx_cX12_unlike_192 20 rfl (by decide +kernel))
theorem dX12_unlike_214 : decode cX12_unlike 214 = .ok (.iload 8, 2) := dcU1 dO_21 (rdU1.ch sfx_cX12_unlike_192 22 rfl (by decide +kernel))
theorem dX12_unlike_216 : decode cX12_unlike 216 = .ok (.iconst 5, 1) := dc0 dO_8 (rdB.ch sfx_cX12_unlike_192 24 rfl (by decide +kernel))
theorem dX12_unlike_217 : decode cX12_unlike 217 = .ok (.if_icmp .ne 42, 3) := dcS2 dO_160 (rdS2.ch sfx_cX12_unlike_192 25 rfl (by decide +kernel))
theorem dX12_unlike_220 : decode cX12_unlike 220 = .ok (.aload_n 0, 1) := dc0 dO_42 (rdB.ch sfx_cX12_unlike_192 28 rfl (by decide +kernel))
theorem dX12_unlike_221 : decode cX12_unlike 221 = .ok (.getfield 424, 3) := dcU2 dO_180 (rdU2.ch sfx_cX12_unlike_192 29 rfl (by decide +kernel))
theorem dX12_unlike_224 : decode cX12_unlike 224 = .ok (.iload_n 3, 1) := dc0 dO_29 (rdB.ch sfx_cX12_unlike_192 32 rfl (by decide +kernel))
theorem dX12_unlike_225 : decode cX12_unlike 225 = .ok (.aload_n 0, 1) := dc0 dO_42 (rdB.ch sfx_cX12_unlike_192 33 rfl (by decide +kernel))
theorem dX12_unlike_226 : decode cX12_unlike 226 = .ok (.iload_n 3, 1) := dc0 dO_29 (rdB.ch sfx_cX12_unlike_192 34 rfl (by decide +kernel))
theorem dX12_unlike_227 : decode cX12_unlike 227 = .ok (.iload_n 1, 1) := dc0 dO_27 (rdB.ch sfx_cX12_unlike_192 35 rfl (by decide +kernel))
theorem dX12_unlike_228 : decode cX12_unlike 228 = .ok (.invokevirtual 542, 3) := dcU2 dO_182 (rdU2.ch sfx_cX12_unlike_192 36 rfl (by decide +kernel))
theorem dX12_unlike_231 : decode cX12_unlike 231 = .ok (.iload 6, 2) := dcU1 dO_21 (rdU1.ch sfx_cX12_unlike_192 39 rfl (by decide +kernel))
theorem dX12_unlike_233 : decode cX12_unlike 233 = .ok (.invokestatic 545, 3) := dcU2 dO_184 (rdU2.ch sfx_cX12_unlike_192 41 rfl (by decide +kernel))
theorem dX12_unlike_236 : decode cX12_unlike 236 = .ok (.iaload, 1) := dc0 dO_46 (rdB.ch sfx_cX12_unlike_192 44 rfl (by decide +kernel))
theorem dX12_unlike_237 : decode cX12_unlike 237 = .ok (.aload_n 0, 1) := dc0 dO_42 (rdB.ch sfx_cX12_unlike_192 45 rfl (by decide +kernel))
theorem dX12_unlike_238 : decode cX12_unlike 238 = .ok (.getfield 424, 3) := dcU2 dO_180 (rdU2.ch sfx_cX12_unlike_192 46 rfl (by decide +kernel))
theorem dX12_unlike_241 : decode cX12_unlike 241 = .ok (.iload 5, 2) := dcU1 dO_21 (rdU1.ch sfx_cX12_unlike_192 49 rfl (by decide +kernel))
theorem dX12_unlike_243 : decode cX12_unlike 243 = .ok (.aload_n 0, 1) := dc0 dO_42 (rdB.ch sfx_cX12_unlike_192 51 rfl (by decide +kernel))
theorem dX12_unlike_244 : decode cX12_unlike 244 = .ok (.iload 5, 2) := dcU1 dO_21 (rdU1.ch sfx_cX12_unlike_192 52 rfl (by decide +kernel))
theorem dX12_unlike_246 : decode cX12_unlike 246 = .ok (.iload_n 1, 1) := dc0 dO_27 (rdB.ch sfx_cX12_unlike_192 54 rfl (by decide +kernel))
theorem dX12_unlike_247 : decode cX12_unlike 247 = .ok (.invokevirtual 542, 3) := dcU2 dO_182 (rdU2.ch sfx_cX12_unlike_192 55 rfl (by decide +kernel))
theorem dX12_unlike_250 : decode cX12_unlike 250 = .ok (.iload 6, 2) := dcU1 dO_21 (rdU1.ch sfx_cX12_unlike_192 58 rfl (by decide +kernel))
theorem dX12_unlike_252 : decode cX12_unlike 252 = .ok (.invokestatic 545, 3) := dcU2 dO_184 (rdU2.ch sfx_cX12_unlike_192 60 rfl (by decide +kernel))
theorem dX12_unlike_255 : decode cX12_unlike 255 = .ok (.iaload, 1) := dc0 dO_46 (rdB.ch sfx_cX12_unlike_192 63 rfl (by decide +kernel))
theorem sfx_cX12_unlike_256 : (cX12_unlike.data.toList.drop 256).take 67 = [100, 54, 9, 21, 9, 153, 0, 17, 21, 9, 156, 0, 8, 21, 8, 167, 0, 6, 21, 8, 116, 172, 132, 7, 1, 167, 254, 234, 3, 172] := by decide +kernel
theorem dX12_unlike_256 : decode cX12_unlike 256 = .ok (.isub, 1) := dc0 dO_100 (rdB.ch sfx_cX12_unlike_256 0 rfl (by decide +kernel))
theorem dX12_unlike_257 : decode cX12_unlike 257 = .ok (.istore 9, 2) := dcU1 dO_54 (rdU1.ch sfx_cX12_unlike_256 1 rfl (by decide +kernel))
theorem dX12_unlike_259 : decode cX12_unlike 259 = .ok (.iload 9, 2) := dcU1 dO_21 (rdU1.ch sfx_cX12_unlike_256 3 rfl (by decide +kernel))
theorem dX12_unlike_261 : decode cX12_unlike 261 = .ok (.ifCond .eq 17, 3) := dcS2 dO_153 (rdS2.ch sfx_cX12_unlike_256 5 rfl (by decide +kernel))
theorem dX12_unlike_264 : decode cX12_unlike 264 = .ok (.iload 9, 2) := dcU1 dO_21 (rdU1.ch sfx_cX12_unlike_256 8 rfl (by decide +kernel))
theorem dX12_unlike_266 : decode cX12_unlike 266 = .ok (.ifCond .ge 8, 3) := dcS2 dO_156 (rdS2.ch sfx_cX12_unlike_256 10 rfl (by decide +kernel))
theorem dX12_unlike_269 : decode cX12_unlike 269 = .ok (.iload 8, 2) := dcU1 dO_21 (rdU1.ch sfx_cX12_unlike_256 13 rfl (by decide +kernel))
theorem dX12_unlike_271 : decode cX12_unlike 271 = .ok (.goto 6, 3) := dcS2 dO_167 (rdS2.ch sfx_cX12_unlike_256 15 rfl (by decide +kernel))
theorem dX12_unlike_274 : decode cX12_unlike 274 = .ok (.iload 8, 2) := dcU1 dO_21 (rdU1.ch sfx_cX12_unlike_256 18 rfl (by decide +kernel))
theorem dX12_unlike_276 : decode cX12_unlike 276 = .ok (.ineg, 1) := dc0 dO_116 (rdB.ch sfx_cX12_unlike_256 20 rfl (by decide +kernel))
theorem dX12_unlike_277 : decode cX12_unlike 277 = .ok (.ireturn, 1) := dc0 dO_172 (rdB.ch sfx_cX12_unlike_256 21 rfl (by decide +kernel))
theorem dX12_unlike_278 : decode cX12_unlike 278 = .ok (.iinc 7 1, 3) := dcI dO_132 (rdI.ch sfx_cX12_unlike_256 22 rfl (by decide +kernel))
theorem dX12_unlike_281 : decode cX12_unlike 281 = .ok (.goto (-278), 3) := dcS2 dO_167 (rdS2.ch sfx_cX12_unlike_256 25 rfl (by decide +kernel))
theorem dX12_unlike_284 : decode cX12_unlike 284 = .ok (.iconst 0, 1) := dc0 dO_3 (rdB.ch sfx_cX12_unlike_256 28 rfl (by decide +kernel))
theorem dX12_unlike_285 : decode cX12_unlike 285 = .ok (.ireturn, 1) := dc0 dO_172 (rdB.ch sfx_cX12_unlike_256 29 rfl (by decide +kernel))
theorem dX12_waysMatch_0 : decode cX12_waysMatch 0 = .ok (.aload_n 0, 1) := dc0 dO_42 (by decide +kernel)
theorem dX12_waysMatch_1 : decode cX12_waysMatch 1 = .ok (.getfield 305, 3) := dcU2 dO_180 (by decide +kernel)
theorem dX12_waysMatch_4 : decode cX12_waysMatch 4 = .ok (.iload_n 2, 1) := dc0 dO_28 (by decide +kernel)
theorem dX12_waysMatch_5 : decode cX12_waysMatch 5 = .ok (.laload, 1) := dc0 dO_47 (by decide +kernel)
theorem dX12_waysMatch_6 : decode cX12_waysMatch 6 = .ok (.lstore 4, 2) := dcU1 dO_55 (by decide +kernel)
theorem dX12_waysMatch_8 : decode cX12_waysMatch 8 = .ok (.aload_n 0, 1) := dc0 dO_42 (by decide +kernel)
theorem dX12_waysMatch_9 : decode cX12_waysMatch 9 = .ok (.getfield 148, 3) := dcU2 dO_180 (by decide +kernel)
theorem dX12_waysMatch_12 : decode cX12_waysMatch 12 = .ok (.bipush 40, 2) := dcS1 dO_16 (by decide +kernel)
theorem dX12_waysMatch_14 : decode cX12_waysMatch 14 = .ok (.iload_n 3, 1) := dc0 dO_29 (by decide +kernel)
theorem dX12_waysMatch_15 : decode cX12_waysMatch 15 = .ok (.imul, 1) := dc0 dO_104 (by decide +kernel)
theorem dX12_waysMatch_16 : decode cX12_waysMatch 16 = .ok (.iconst 4, 1) := dc0 dO_7 (by decide +kernel)
theorem dX12_waysMatch_17 : decode cX12_waysMatch 17 = .ok (.iadd, 1) := dc0 dO_96 (by decide +kernel)
theorem dX12_waysMatch_18 : decode cX12_waysMatch 18 = .ok (.iaload, 1) := dc0 dO_46 (by decide +kernel)
theorem dX12_waysMatch_19 : decode cX12_waysMatch 19 = .ok (.istore 6, 2) := dcU1 dO_54 (by decide +kernel)
theorem dX12_waysMatch_21 : decode cX12_waysMatch 21 = .ok (.iload 6, 2) := dcU1 dO_21 (by decide +kernel)
theorem dX12_waysMatch_23 : decode cX12_waysMatch 23 = .ok (.ifCond .ne 10, 3) := dcS2 dO_154 (by decide +kernel)
theorem dX12_waysMatch_26 : decode cX12_waysMatch 26 = .ok (.aload_n 0, 1) := dc0 dO_42 (by decide +kernel)
theorem dX12_waysMatch_27 : decode cX12_waysMatch 27 = .ok (.getfield 311, 3) := dcU2 dO_180 (by decide +kernel)
theorem dX12_waysMatch_30 : decode cX12_waysMatch 30 = .ok (.iload_n 2, 1) := dc0 dO_28 (by decide +kernel)
theorem dX12_waysMatch_31 : decode cX12_waysMatch 31 = .ok (.baload, 1) := dc0 dO_51 (by decide +kernel)
theorem dX12_waysMatch_32 : decode cX12_waysMatch 32 = .ok (.ireturn, 1) := dc0 dO_172 (by decide +kernel)
theorem dX12_waysMatch_33 : decode cX12_waysMatch 33 = .ok (.lconst 0, 1) := dc0 dO_9 (by decide +kernel)
theorem dX12_waysMatch_34 : decode cX12_waysMatch 34 = .ok (.lstore 7, 2) := dcU1 dO_55 (by decide +kernel)
theorem dX12_waysMatch_36 : decode cX12_waysMatch 36 = .ok (.iconst 0, 1) := dc0 dO_3 (by decide +kernel)
theorem dX12_waysMatch_37 : decode cX12_waysMatch 37 = .ok (.istore 9, 2) := dcU1 dO_54 (by decide +kernel)
theorem dX12_waysMatch_39 : decode cX12_waysMatch 39 = .ok (.iload 9, 2) := dcU1 dO_21 (by decide +kernel)
theorem dX12_waysMatch_41 : decode cX12_waysMatch 41 = .ok (.iload 6, 2) := dcU1 dO_21 (by decide +kernel)
theorem dX12_waysMatch_43 : decode cX12_waysMatch 43 = .ok (.if_icmp .ge 150, 3) := dcS2 dO_162 (by decide +kernel)
theorem dX12_waysMatch_46 : decode cX12_waysMatch 46 = .ok (.lconst 0, 1) := dc0 dO_9 (by decide +kernel)
theorem dX12_waysMatch_47 : decode cX12_waysMatch 47 = .ok (.lstore 7, 2) := dcU1 dO_55 (by decide +kernel)
theorem dX12_waysMatch_49 : decode cX12_waysMatch 49 = .ok (.iconst 0, 1) := dc0 dO_3 (by decide +kernel)
theorem dX12_waysMatch_50 : decode cX12_waysMatch 50 = .ok (.istore 10, 2) := dcU1 dO_54 (by decide +kernel)
theorem dX12_waysMatch_52 : decode cX12_waysMatch 52 = .ok (.iload 10, 2) := dcU1 dO_21 (by decide +kernel)
theorem dX12_waysMatch_54 : decode cX12_waysMatch 54 = .ok (.aload_n 0, 1) := dc0 dO_42 (by decide +kernel)
theorem dX12_waysMatch_55 : decode cX12_waysMatch 55 = .ok (.getfield 292, 3) := dcU2 dO_180 (by decide +kernel)
theorem dX12_waysMatch_58 : decode cX12_waysMatch 58 = .ok (.iload_n 1, 1) := dc0 dO_27 (by decide +kernel)
theorem dX12_waysMatch_59 : decode cX12_waysMatch 59 = .ok (.iaload, 1) := dc0 dO_46 (by decide +kernel)
theorem dX12_waysMatch_60 : decode cX12_waysMatch 60 = .ok (.if_icmp .ge 75, 3) := dcS2 dO_162 (by decide +kernel)
theorem dX12_waysMatch_63 : decode cX12_waysMatch 63 = .ok (.lload 4, 2) := dcU1 dO_22 (by decide +kernel)
theorem dX12_waysMatch_65 : decode cX12_waysMatch 65 = .ok (.iload 10, 2) := dcU1 dO_21 (by decide +kernel)
theorem dX12_waysMatch_67 : decode cX12_waysMatch 67 = .ok (.lshr, 1) := dc0 dO_123 (by decide +kernel)
theorem dX12_waysMatch_68 : decode cX12_waysMatch 68 = .ok (.lconst 1, 1) := dc0 dO_10 (by decide +kernel)
theorem dX12_waysMatch_69 : decode cX12_waysMatch 69 = .ok (.land, 1) := dc0 dO_127 (by decide +kernel)
theorem dX12_waysMatch_70 : decode cX12_waysMatch 70 = .ok (.lconst 1, 1) := dc0 dO_10 (by decide +kernel)
theorem dX12_waysMatch_71 : decode cX12_waysMatch 71 = .ok (.lcmp, 1) := dc0 dO_148 (by decide +kernel)
theorem dX12_waysMatch_72 : decode cX12_waysMatch 72 = .ok (.ifCond .ne 57, 3) := dcS2 dO_154 (by decide +kernel)
theorem dX12_waysMatch_75 : decode cX12_waysMatch 75 = .ok (.aload_n 0, 1) := dc0 dO_42 (by decide +kernel)
theorem dX12_waysMatch_76 : decode cX12_waysMatch 76 = .ok (.getfield 295, 3) := dcU2 dO_180 (by decide +kernel)
theorem dX12_waysMatch_79 : decode cX12_waysMatch 79 = .ok (.bipush 41, 2) := dcS1 dO_16 (by decide +kernel)
theorem dX12_waysMatch_81 : decode cX12_waysMatch 81 = .ok (.iload_n 1, 1) := dc0 dO_27 (by decide +kernel)
theorem dX12_waysMatch_82 : decode cX12_waysMatch 82 = .ok (.imul, 1) := dc0 dO_104 (by decide +kernel)
theorem dX12_waysMatch_83 : decode cX12_waysMatch 83 = .ok (.iload 10, 2) := dcU1 dO_21 (by decide +kernel)
theorem dX12_waysMatch_85 : decode cX12_waysMatch 85 = .ok (.iadd, 1) := dc0 dO_96 (by decide +kernel)
theorem dX12_waysMatch_86 : decode cX12_waysMatch 86 = .ok (.iaload, 1) := dc0 dO_46 (by decide +kernel)
theorem dX12_waysMatch_87 : decode cX12_waysMatch 87 = .ok (.ifCond .lt 33, 3) := dcS2 dO_155 (by decide +kernel)
theorem dX12_waysMatch_90 : decode cX12_waysMatch 90 = .ok (.aload_n 0, 1) := dc0 dO_42 (by decide +kernel)
theorem dX12_waysMatch_91 : decode cX12_waysMatch 91 = .ok (.getfield 295, 3) := dcU2 dO_180 (by decide +kernel)
theorem dX12_waysMatch_94 : decode cX12_waysMatch 94 = .ok (.bipush 41, 2) := dcS1 dO_16 (by decide +kernel)
theorem dX12_waysMatch_96 : decode cX12_waysMatch 96 = .ok (.iload_n 1, 1) := dc0 dO_27 (by decide +kernel)
theorem dX12_waysMatch_97 : decode cX12_waysMatch 97 = .ok (.imul, 1) := dc0 dO_104 (by decide +kernel)
theorem dX12_waysMatch_98 : decode cX12_waysMatch 98 = .ok (.iload 10, 2) := dcU1 dO_21 (by decide +kernel)
theorem dX12_waysMatch_100 : decode cX12_waysMatch 100 = .ok (.iadd, 1) := dc0 dO_96 (by decide +kernel)
theorem dX12_waysMatch_101 : decode cX12_waysMatch 101 = .ok (.iaload, 1) := dc0 dO_46 (by decide +kernel)
theorem dX12_waysMatch_102 : decode cX12_waysMatch 102 = .ok (.aload_n 0, 1) := dc0 dO_42 (by decide +kernel)
theorem dX12_waysMatch_103 : decode cX12_waysMatch 103 = .ok (.getfield 148, 3) := dcU2 dO_180 (by decide +kernel)
theorem dX12_waysMatch_106 : decode cX12_waysMatch 106 = .ok (.bipush 40, 2) := dcS1 dO_16 (by decide +kernel)
theorem dX12_waysMatch_108 : decode cX12_waysMatch 108 = .ok (.iload_n 3, 1) := dc0 dO_29 (by decide +kernel)
theorem dX12_waysMatch_109 : decode cX12_waysMatch 109 = .ok (.imul, 1) := dc0 dO_104 (by decide +kernel)
theorem dX12_waysMatch_110 : decode cX12_waysMatch 110 = .ok (.bipush 6, 2) := dcS1 dO_16 (by decide +kernel)
theorem dX12_waysMatch_112 : decode cX12_waysMatch 112 = .ok (.iadd, 1) := dc0 dO_96 (by decide +kernel)
theorem dX12_waysMatch_113 : decode cX12_waysMatch 113 = .ok (.iload 9, 2) := dcU1 dO_21 (by decide +kernel)
theorem dX12_waysMatch_115 : decode cX12_waysMatch 115 = .ok (.iadd, 1) := dc0 dO_96 (by decide +kernel)
theorem dX12_waysMatch_116 : decode cX12_waysMatch 116 = .ok (.iaload, 1) := dc0 dO_46 (by decide +kernel)
theorem dX12_waysMatch_117 : decode cX12_waysMatch 117 = .ok (.if_icmp .ne 12, 3) := dcS2 dO_160 (by decide +kernel)
theorem dX12_waysMatch_120 : decode cX12_waysMatch 120 = .ok (.lload 7, 2) := dcU1 dO_22 (by decide +kernel)
theorem dX12_waysMatch_122 : decode cX12_waysMatch 122 = .ok (.lconst 1, 1) := dc0 dO_10 (by decide +kernel)
theorem dX12_waysMatch_123 : decode cX12_waysMatch 123 = .ok (.iload 10, 2) := dcU1 dO_21 (by decide +kernel)
theorem dX12_waysMatch_125 : decode cX12_waysMatch 125 = .ok (.lshl, 1) := dc0 dO_121 (by decide +kernel)
theorem dX12_waysMatch_126 : decode cX12_waysMatch 126 = .ok (.lor, 1) := dc0 dO_129 (by decide +kernel)
theorem dX12_waysMatch_127 : decode cX12_waysMatch 127 = .ok (.lstore 7, 2) := dcU1 dO_55 (by decide +kernel)
theorem sfx_cX12_waysMatch_128 : (cX12_waysMatch.data.toList.drop 128).take 67 = [7, 132, 10, 1, 167, 255, 176, 9, 55, 4, 3, 54, 10, 21, 10, 42, 180, 1, 36, 27, 46, 162, 0, 38, 22, 7, 21, 10, 123, 10, 127, 10, 148, 154, 0, 20, 22, 4, 42, 180, 1, 19, 16, 41, 27, 104, 21, 10, 96, 47, 129, 55, 4, 132, 10, 1, 167, 255, 213, 132, 9, 1, 167, 255, 105, 22, 7] := by decide +kernel
theorem dX12_waysMatch_129 : decode cX12_waysMatch 129 = .ok (.iinc 10 1, 3) := dcI dO_132 (rdI.ch sfx_cX12_waysMatch_128 1 rfl (by decide +kernel))
theorem dX12_waysMatch_132 : decode cX12_waysMatch 132 = .ok (.goto (-80), 3) := dcS2 dO_167 (rdS2.ch sfx_cX12_waysMatch_128 4 rfl (by decide +kernel))
theorem dX12_waysMatch_135 : decode cX12_waysMatch 135 = .ok (.lconst 0, 1) := dc0 dO_9 (rdB.ch sfx_cX12_waysMatch_128 7 rfl (by decide +kernel))
theorem dX12_waysMatch_136 : decode cX12_waysMatch 136 = .ok (.lstore 4, 2) := dcU1 dO_55 (rdU1.ch sfx_cX12_waysMatch_128 8 rfl (by decide +kernel))
theorem dX12_waysMatch_138 : decode cX12_waysMatch 138 = .ok (.iconst 0, 1) := dc0 dO_3 (rdB.ch sfx_cX12_waysMatch_128 10 rfl (by decide +kernel))
theorem dX12_waysMatch_139 : decode cX12_waysMatch 139 = .ok (.istore 10, 2) := dcU1 dO_54 (rdU1.ch sfx_cX12_waysMatch_128 11 rfl (by decide +kernel))
theorem dX12_waysMatch_141 : decode cX12_waysMatch 141 = .ok (.iload 10, 2) := dcU1 dO_21 (rdU1.ch sfx_cX12_waysMatch_128 13 rfl (by decide +kernel))
theorem dX12_waysMatch_143 : decode cX12_waysMatch 143 = .ok (.aload_n 0, 1) := dc0 dO_42 (rdB.ch sfx_cX12_waysMatch_128 15 rfl (by decide +kernel))
theorem dX12_waysMatch_144 : decode cX12_waysMatch 144 = .ok (.getfield 292, 3) := dcU2 dO_180 (rdU2.ch sfx_cX12_waysMatch_128 16 rfl (by decide +kernel))
theorem dX12_waysMatch_147 : decode cX12_waysMatch 147 = .ok (.iload_n 1, 1) := dc0 dO_27 (rdB.ch sfx_cX12_waysMatch_128 19 rfl (by decide +kernel))
theorem dX12_waysMatch_148 : decode cX12_waysMatch 148 = .ok (.iaload, 1) := dc0 dO_46 (rdB.ch sfx_cX12_waysMatch_128 20 rfl (by decide +kernel))
theorem dX12_waysMatch_149 : decode cX12_waysMatch 149 = .ok (.if_icmp .ge 38, 3) := dcS2 dO_162 (rdS2.ch sfx_cX12_waysMatch_128 21 rfl (by decide +kernel))
theorem dX12_waysMatch_152 : decode cX12_waysMatch 152 = .ok (.lload 7, 2) := dcU1 dO_22 (rdU1.ch sfx_cX12_waysMatch_128 24 rfl (by decide +kernel))
theorem dX12_waysMatch_154 : decode cX12_waysMatch 154 = .ok (.iload 10, 2) := dcU1 dO_21 (rdU1.ch sfx_cX12_waysMatch_128 26 rfl (by decide +kernel))
theorem dX12_waysMatch_156 : decode cX12_waysMatch 156 = .ok (.lshr, 1) := dc0 dO_123 (rdB.ch sfx_cX12_waysMatch_128 28 rfl (by decide +kernel))
theorem dX12_waysMatch_157 : decode cX12_waysMatch 157 = .ok (.lconst 1, 1) := dc0 dO_10 (rdB.ch sfx_cX12_waysMatch_128 29 rfl (by decide +kernel))
theorem dX12_waysMatch_158 : decode cX12_waysMatch 158 = .ok (.land, 1) := dc0 dO_127 (rdB.ch sfx_cX12_waysMatch_128 30 rfl (by decide +kernel))
theorem dX12_waysMatch_159 : decode cX12_waysMatch 159 = .ok (.lconst 1, 1) := dc0 dO_10 (rdB.ch sfx_cX12_waysMatch_128 31 rfl (by decide +kernel))
theorem dX12_waysMatch_160 : decode cX12_waysMatch 160 = .ok (.lcmp, 1) := dc0 dO_148 (rdB.ch sfx_cX12_waysMatch_128 32 rfl (by decide +kernel))
theorem dX12_waysMatch_161 : decode cX12_waysMatch 161 = .ok (.ifCond .ne 20, 3) := dcS2 dO_154 (rdS2.ch sfx_cX12_waysMatch_128 33 rfl (by decide +kernel))
theorem dX12_waysMatch_164 : decode cX12_waysMatch 164 = .ok (.lload 4, 2) := dcU1 dO_22 (rdU1.ch sfx_cX12_waysMatch_128 36 rfl (by decide +kernel))
theorem dX12_waysMatch_166 : decode cX12_waysMatch 166 = .ok (.aload_n 0, 1) := dc0 dO_42 (rdB.ch sfx_cX12_waysMatch_128 38 rfl (by decide +kernel))
theorem dX12_waysMatch_167 : decode cX12_waysMatch 167 = .ok (.getfield 275, 3) := dcU2 dO_180 (rdU2.ch sfx_cX12_waysMatch_128 39 rfl (by decide +kernel))
theorem dX12_waysMatch_170 : decode cX12_waysMatch 170 = .ok (.bipush 41, 2) := dcS1 dO_16 (rdS1.ch sfx_cX12_waysMatch_128 42 rfl (by decide +kernel))
theorem dX12_waysMatch_172 : decode cX12_waysMatch 172 = .ok (.iload_n 1, 1) := dc0 dO_27 (rdB.ch sfx_cX12_waysMatch_128 44 rfl (by decide +kernel))
theorem dX12_waysMatch_173 : decode cX12_waysMatch 173 = .ok (.imul, 1) := dc0 dO_104 (rdB.ch sfx_cX12_waysMatch_128 45 rfl (by decide +kernel))
theorem dX12_waysMatch_174 : decode cX12_waysMatch 174 = .ok (.iload 10, 2) := dcU1 dO_21 (rdU1.ch sfx_cX12_waysMatch_128 46 rfl (by decide +kernel))
theorem dX12_waysMatch_176 : decode cX12_waysMatch 176 = .ok (.iadd, 1) := dc0 dO_96 (rdB.ch sfx_cX12_waysMatch_128 48 rfl (by decide +kernel))
theorem dX12_waysMatch_177 : decode cX12_waysMatch 177 = .ok (.laload, 1) := dc0 dO_47 (rdB.ch sfx_cX12_waysMatch_128 49 rfl (by decide +kernel))
theorem dX12_waysMatch_178 : decode cX12_waysMatch 178 = .ok (.lor, 1) := dc0 dO_129 (rdB.ch sfx_cX12_waysMatch_128 50 rfl (by decide +kernel))
theorem dX12_waysMatch_179 : decode cX12_waysMatch 179 = .ok (.lstore 4, 2) := dcU1 dO_55 (rdU1.ch sfx_cX12_waysMatch_128 51 rfl (by decide +kernel))
theorem dX12_waysMatch_181 : decode cX12_waysMatch 181 = .ok (.iinc 10 1, 3) := dcI dO_132 (rdI.ch sfx_cX12_waysMatch_128 53 rfl (by decide +kernel))
theorem dX12_waysMatch_184 : decode cX12_waysMatch 184 = .ok (.goto (-43), 3) := dcS2 dO_167 (rdS2.ch sfx_cX12_waysMatch_128 56 rfl (by decide +kernel))
theorem dX12_waysMatch_187 : decode cX12_waysMatch 187 = .ok (.iinc 9 1, 3) := dcI dO_132 (rdI.ch sfx_cX12_waysMatch_128 59 rfl (by decide +kernel))
theorem dX12_waysMatch_190 : decode cX12_waysMatch 190 = .ok (.goto (-151), 3) := dcS2 dO_167 (rdS2.ch sfx_cX12_waysMatch_128 62 rfl (by decide +kernel))
theorem sfx_cX12_waysMatch_192 : (cX12_waysMatch.data.toList.drop 192).take 67 = [105, 22, 7, 42, 180, 1, 52, 28, 47, 127, 9, 148, 153, 0, 7, 4, 167, 0, 4, 3, 172] := by decide +kernel
theorem dX12_waysMatch_193 : decode cX12_waysMatch 193 = .ok (.lload 7, 2) := dcU1 dO_22 (rdU1.ch sfx_cX12_waysMatch_192 1 rfl (by decide +kernel))
theorem dX12_waysMatch_195 : decode cX12_waysMatch 195 = .ok (.aload_n 0, 1) := dc0 dO_42 (rdB.ch sfx_cX12_waysMatch_192 3 rfl (by decide +kernel))
theorem dX12_waysMatch_196 : decode cX12_waysMatch 196 = .ok (.getfield 308, 3) := dcU2 dO_180 (rdU2.ch sfx_cX12_waysMatch_192 4 rfl (by decide +kernel))
theorem dX12_waysMatch_199 : decode cX12_waysMatch 199 = .ok (.iload_n 2, 1) := dc0 dO_28 (rdB.ch sfx_cX12_waysMatch_192 7 rfl (by decide +kernel))
theorem dX12_waysMatch_200 : decode cX12_waysMatch 200 = .ok (.laload, 1) := dc0 dO_47 (rdB.ch sfx_cX12_waysMatch_192 8 rfl (by decide +kernel))
theorem dX12_waysMatch_201 : decode cX12_waysMatch 201 = .ok (.land, 1) := dc0 dO_127 (rdB.ch sfx_cX12_waysMatch_192 9 rfl (by decide +kernel))
theorem dX12_waysMatch_202 : decode cX12_waysMatch 202 = .ok (.lconst 0, 1) := dc0 dO_9 (rdB.ch sfx_cX12_waysMatch_192 10 rfl (by decide +kernel))
theorem dX12_waysMatch_203 : decode cX12_waysMatch 203 = .ok (.lcmp, 1) := dc0 dO_148 (rdB.ch sfx_cX12_waysMatch_192 11 rfl (by decide +kernel))
theorem dX12_waysMatch_204 : decode cX12_waysMatch 204 = .ok (.ifCond .eq 7, 3) := dcS2 dO_153 (rdS2.ch sfx_cX12_waysMatch_192 12 rfl (by decide +kernel))
theorem dX12_waysMatch_207 : decode cX12_waysMatch 207 = .ok (.iconst 1, 1) := dc0 dO_4 (rdB.ch sfx_cX12_waysMatch_192 15 rfl (by decide +kernel))
theorem dX12_waysMatch_208 : decode cX12_waysMatch 208 = .ok (.goto 4, 3) := dcS2 dO_167 (rdS2.ch sfx_cX12_waysMatch_192 16 rfl (by decide +kernel))
theorem dX12_waysMatch_211 : decode cX12_waysMatch 211 = .ok (.iconst 0, 1) := dc0 dO_3 (rdB.ch sfx_cX12_waysMatch_192 19 rfl (by decide +kernel))
theorem dX12_waysMatch_212 : decode cX12_waysMatch 212 = .ok (.ireturn, 1) := dc0 dO_172 (rdB.ch sfx_cX12_waysMatch_192 20 rfl (by decide +kernel))
theorem dX12_wordOf_0 : decode cX12_wordOf 0 = .ok (.lload_n 0, 1) := dc0 dO_30 (by decide +kernel)
theorem dX12_wordOf_1 : decode cX12_wordOf 1 = .ok (.ldc2_w 157, 3) := dcU2 dO_20 (by decide +kernel)
theorem dX12_wordOf_4 : decode cX12_wordOf 4 = .ok (.lcmp, 1) := dc0 dO_148 (by decide +kernel)
theorem dX12_wordOf_5 : decode cX12_wordOf 5 = .ok (.ifCond .ne 5, 3) := dcS2 dO_154 (by decide +kernel)
theorem dX12_wordOf_8 : decode cX12_wordOf 8 = .ok (.iconst 0, 1) := dc0 dO_3 (by decide +kernel)
theorem dX12_wordOf_9 : decode cX12_wordOf 9 = .ok (.ireturn, 1) := dc0 dO_172 (by decide +kernel)
theorem dX12_wordOf_10 : decode cX12_wordOf 10 = .ok (.lload_n 0, 1) := dc0 dO_30 (by decide +kernel)
theorem dX12_wordOf_11 : decode cX12_wordOf 11 = .ok (.ldc2_w 159, 3) := dcU2 dO_20 (by decide +kernel)
theorem dX12_wordOf_14 : decode cX12_wordOf 14 = .ok (.lcmp, 1) := dc0 dO_148 (by decide +kernel)
theorem dX12_wordOf_15 : decode cX12_wordOf 15 = .ok (.ifCond .ne 5, 3) := dcS2 dO_154 (by decide +kernel)
theorem dX12_wordOf_18 : decode cX12_wordOf 18 = .ok (.iconst 1, 1) := dc0 dO_4 (by decide +kernel)
theorem dX12_wordOf_19 : decode cX12_wordOf 19 = .ok (.ireturn, 1) := dc0 dO_172 (by decide +kernel)
theorem dX12_wordOf_20 : decode cX12_wordOf 20 = .ok (.lload_n 0, 1) := dc0 dO_30 (by decide +kernel)
theorem dX12_wordOf_21 : decode cX12_wordOf 21 = .ok (.ldc2_w 161, 3) := dcU2 dO_20 (by decide +kernel)
theorem dX12_wordOf_24 : decode cX12_wordOf 24 = .ok (.lcmp, 1) := dc0 dO_148 (by decide +kernel)
theorem dX12_wordOf_25 : decode cX12_wordOf 25 = .ok (.ifCond .ne 5, 3) := dcS2 dO_154 (by decide +kernel)
theorem dX12_wordOf_28 : decode cX12_wordOf 28 = .ok (.iconst 2, 1) := dc0 dO_5 (by decide +kernel)
theorem dX12_wordOf_29 : decode cX12_wordOf 29 = .ok (.ireturn, 1) := dc0 dO_172 (by decide +kernel)
theorem dX12_wordOf_30 : decode cX12_wordOf 30 = .ok (.lload_n 0, 1) := dc0 dO_30 (by decide +kernel)
theorem dX12_wordOf_31 : decode cX12_wordOf 31 = .ok (.ldc2_w 163, 3) := dcU2 dO_20 (by decide +kernel)
theorem dX12_wordOf_34 : decode cX12_wordOf 34 = .ok (.lcmp, 1) := dc0 dO_148 (by decide +kernel)
theorem dX12_wordOf_35 : decode cX12_wordOf 35 = .ok (.ifCond .ne 5, 3) := dcS2 dO_154 (by decide +kernel)
theorem dX12_wordOf_38 : decode cX12_wordOf 38 = .ok (.iconst 3, 1) := dc0 dO_6 (by decide +kernel)
theorem dX12_wordOf_39 : decode cX12_wordOf 39 = .ok (.ireturn, 1) := dc0 dO_172 (by decide +kernel)
theorem dX12_wordOf_40 : decode cX12_wordOf 40 = .ok (.lload_n 0, 1) := dc0 dO_30 (by decide +kernel)
theorem dX12_wordOf_41 : decode cX12_wordOf 41 = .ok (.ldc2_w 165, 3) := dcU2 dO_20 (by decide +kernel)
theorem dX12_wordOf_44 : decode cX12_wordOf 44 = .ok (.lcmp, 1) := dc0 dO_148 (by decide +kernel)
theorem dX12_wordOf_45 : decode cX12_wordOf 45 = .ok (.ifCond .ne 5, 3) := dcS2 dO_154 (by decide +kernel)
theorem dX12_wordOf_48 : decode cX12_wordOf 48 = .ok (.iconst 4, 1) := dc0 dO_7 (by decide +kernel)
theorem dX12_wordOf_49 : decode cX12_wordOf 49 = .ok (.ireturn, 1) := dc0 dO_172 (by decide +kernel)
theorem dX12_wordOf_50 : decode cX12_wordOf 50 = .ok (.lload_n 0, 1) := dc0 dO_30 (by decide +kernel)
theorem dX12_wordOf_51 : decode cX12_wordOf 51 = .ok (.ldc2_w 167, 3) := dcU2 dO_20 (by decide +kernel)
theorem dX12_wordOf_54 : decode cX12_wordOf 54 = .ok (.lcmp, 1) := dc0 dO_148 (by decide +kernel)
theorem dX12_wordOf_55 : decode cX12_wordOf 55 = .ok (.ifCond .ne 5, 3) := dcS2 dO_154 (by decide +kernel)
theorem dX12_wordOf_58 : decode cX12_wordOf 58 = .ok (.iconst 5, 1) := dc0 dO_8 (by decide +kernel)
theorem dX12_wordOf_59 : decode cX12_wordOf 59 = .ok (.ireturn, 1) := dc0 dO_172 (by decide +kernel)
theorem dX12_wordOf_60 : decode cX12_wordOf 60 = .ok (.lload_n 0, 1) := dc0 dO_30 (by decide +kernel)
theorem dX12_wordOf_61 : decode cX12_wordOf 61 = .ok (.ldc2_w 169, 3) := dcU2 dO_20 (by decide +kernel)
theorem dX12_wordOf_64 : decode cX12_wordOf 64 = .ok (.lcmp, 1) := dc0 dO_148 (by decide +kernel)
theorem dX12_wordOf_65 : decode cX12_wordOf 65 = .ok (.ifCond .ne 6, 3) := dcS2 dO_154 (by decide +kernel)
theorem dX12_wordOf_68 : decode cX12_wordOf 68 = .ok (.bipush 6, 2) := dcS1 dO_16 (by decide +kernel)
theorem dX12_wordOf_70 : decode cX12_wordOf 70 = .ok (.ireturn, 1) := dc0 dO_172 (by decide +kernel)
theorem dX12_wordOf_71 : decode cX12_wordOf 71 = .ok (.lload_n 0, 1) := dc0 dO_30 (by decide +kernel)
theorem dX12_wordOf_72 : decode cX12_wordOf 72 = .ok (.ldc2_w 171, 3) := dcU2 dO_20 (by decide +kernel)
theorem dX12_wordOf_75 : decode cX12_wordOf 75 = .ok (.lcmp, 1) := dc0 dO_148 (by decide +kernel)
theorem dX12_wordOf_76 : decode cX12_wordOf 76 = .ok (.ifCond .ne 6, 3) := dcS2 dO_154 (by decide +kernel)
theorem dX12_wordOf_79 : decode cX12_wordOf 79 = .ok (.bipush 7, 2) := dcS1 dO_16 (by decide +kernel)
theorem dX12_wordOf_81 : decode cX12_wordOf 81 = .ok (.ireturn, 1) := dc0 dO_172 (by decide +kernel)
theorem dX12_wordOf_82 : decode cX12_wordOf 82 = .ok (.lload_n 0, 1) := dc0 dO_30 (by decide +kernel)
theorem dX12_wordOf_83 : decode cX12_wordOf 83 = .ok (.ldc2_w 173, 3) := dcU2 dO_20 (by decide +kernel)
theorem dX12_wordOf_86 : decode cX12_wordOf 86 = .ok (.lcmp, 1) := dc0 dO_148 (by decide +kernel)
theorem dX12_wordOf_87 : decode cX12_wordOf 87 = .ok (.ifCond .ne 6, 3) := dcS2 dO_154 (by decide +kernel)
theorem dX12_wordOf_90 : decode cX12_wordOf 90 = .ok (.bipush 8, 2) := dcS1 dO_16 (by decide +kernel)
theorem dX12_wordOf_92 : decode cX12_wordOf 92 = .ok (.ireturn, 1) := dc0 dO_172 (by decide +kernel)
theorem dX12_wordOf_93 : decode cX12_wordOf 93 = .ok (.lload_n 0, 1) := dc0 dO_30 (by decide +kernel)
theorem dX12_wordOf_94 : decode cX12_wordOf 94 = .ok (.ldc2_w 175, 3) := dcU2 dO_20 (by decide +kernel)
theorem dX12_wordOf_97 : decode cX12_wordOf 97 = .ok (.lcmp, 1) := dc0 dO_148 (by decide +kernel)
theorem dX12_wordOf_98 : decode cX12_wordOf 98 = .ok (.ifCond .ne 6, 3) := dcS2 dO_154 (by decide +kernel)
theorem dX12_wordOf_101 : decode cX12_wordOf 101 = .ok (.bipush 9, 2) := dcS1 dO_16 (by decide +kernel)
theorem dX12_wordOf_103 : decode cX12_wordOf 103 = .ok (.ireturn, 1) := dc0 dO_172 (by decide +kernel)
theorem dX12_wordOf_104 : decode cX12_wordOf 104 = .ok (.lload_n 0, 1) := dc0 dO_30 (by decide +kernel)
theorem dX12_wordOf_105 : decode cX12_wordOf 105 = .ok (.ldc2_w 177, 3) := dcU2 dO_20 (by decide +kernel)
theorem dX12_wordOf_108 : decode cX12_wordOf 108 = .ok (.lcmp, 1) := dc0 dO_148 (by decide +kernel)
theorem dX12_wordOf_109 : decode cX12_wordOf 109 = .ok (.ifCond .ne 6, 3) := dcS2 dO_154 (by decide +kernel)
theorem dX12_wordOf_112 : decode cX12_wordOf 112 = .ok (.bipush 10, 2) := dcS1 dO_16 (by decide +kernel)
theorem dX12_wordOf_114 : decode cX12_wordOf 114 = .ok (.ireturn, 1) := dc0 dO_172 (by decide +kernel)
theorem dX12_wordOf_115 : decode cX12_wordOf 115 = .ok (.lload_n 0, 1) := dc0 dO_30 (by decide +kernel)
theorem dX12_wordOf_116 : decode cX12_wordOf 116 = .ok (.ldc2_w 179, 3) := dcU2 dO_20 (by decide +kernel)
theorem dX12_wordOf_119 : decode cX12_wordOf 119 = .ok (.lcmp, 1) := dc0 dO_148 (by decide +kernel)
theorem dX12_wordOf_120 : decode cX12_wordOf 120 = .ok (.ifCond .ne 6, 3) := dcS2 dO_154 (by decide +kernel)
theorem dX12_wordOf_123 : decode cX12_wordOf 123 = .ok (.bipush 11, 2) := dcS1 dO_16 (by decide +kernel)
theorem dX12_wordOf_125 : decode cX12_wordOf 125 = .ok (.ireturn, 1) := dc0 dO_172 (by decide +kernel)
theorem dX12_wordOf_126 : decode cX12_wordOf 126 = .ok (.lload_n 0, 1) := dc0 dO_30 (by decide +kernel)
theorem dX12_wordOf_127 : decode cX12_wordOf 127 = .ok (.ldc2_w 181, 3) := dcU2 dO_20 (by decide +kernel)
theorem sfx_cX12_wordOf_128 : (cX12_wordOf.data.toList.drop 128).take 67 = [0, 181, 148, 154, 0, 6, 16, 12, 172, 30, 20, 0, 183, 148, 154, 0, 6, 16, 13, 172, 30, 20, 0, 185, 148, 154, 0, 6, 16, 14, 172, 30, 20, 0, 187, 148, 154, 0, 6, 16, 15, 172, 30, 20, 0, 189, 148, 154, 0, 6, 16, 16, 172, 30, 20, 0, 191, 148, 154, 0, 6, 16, 17, 172, 30, 20, 0] := by decide +kernel
theorem dX12_wordOf_130 : decode cX12_wordOf 130 = .ok (.lcmp, 1) := dc0 dO_148 (rdB.ch sfx_cX12_wordOf_128 2 rfl (by decide +kernel))
theorem dX12_wordOf_131 : decode cX12_wordOf 131 = .ok (.ifCond .ne 6, 3) := dcS2 dO_154 (rdS2.ch sfx_cX12_wordOf_128 3 rfl (by decide +kernel))
theorem dX12_wordOf_134 : decode cX12_wordOf 134 = .ok (.bipush 12, 2) := dcS1 dO_16 (rdS1.ch sfx_cX12_wordOf_128 6 rfl (by decide +kernel))
theorem dX12_wordOf_136 : decode cX12_wordOf 136 = .ok (.ireturn, 1) := dc0 dO_172 (rdB.ch sfx_cX12_wordOf_128 8 rfl (by decide +kernel))
theorem dX12_wordOf_137 : decode cX12_wordOf 137 = .ok (.lload_n 0, 1) := dc0 dO_30 (rdB.ch sfx_cX12_wordOf_128 9 rfl (by decide +kernel))
theorem dX12_wordOf_138 : decode cX12_wordOf 138 = .ok (.ldc2_w 183, 3) := dcU2 dO_20 (rdU2.ch sfx_cX12_wordOf_128 10 rfl (by decide +kernel))
theorem dX12_wordOf_141 : decode cX12_wordOf 141 = .ok (.lcmp, 1) := dc0 dO_148 (rdB.ch sfx_cX12_wordOf_128 13 rfl (by decide +kernel))
theorem dX12_wordOf_142 : decode cX12_wordOf 142 = .ok (.ifCond .ne 6, 3) := dcS2 dO_154 (rdS2.ch sfx_cX12_wordOf_128 14 rfl (by decide +kernel))
theorem dX12_wordOf_145 : decode cX12_wordOf 145 = .ok (.bipush 13, 2) := dcS1 dO_16 (rdS1.ch sfx_cX12_wordOf_128 17 rfl (by decide +kernel))
theorem dX12_wordOf_147 : decode cX12_wordOf 147 = .ok (.ireturn, 1) := dc0 dO_172 (rdB.ch sfx_cX12_wordOf_128 19 rfl (by decide +kernel))
theorem dX12_wordOf_148 : decode cX12_wordOf 148 = .ok (.lload_n 0, 1) := dc0 dO_30 (rdB.ch sfx_cX12_wordOf_128 20 rfl (by decide +kernel))
theorem dX12_wordOf_149 : decode cX12_wordOf 149 = .ok (.ldc2_w 185, 3) := dcU2 dO_20 (rdU2.ch sfx_cX12_wordOf_128 21 rfl (by decide +kernel))
theorem dX12_wordOf_152 : decode cX12_wordOf 152 = .ok (.lcmp, 1) := dc0 dO_148 (rdB.ch sfx_cX12_wordOf_128 24 rfl (by decide +kernel))
theorem dX12_wordOf_153 : decode cX12_wordOf 153 = .ok (.ifCond .ne 6, 3) := dcS2 dO_154 (rdS2.ch sfx_cX12_wordOf_128 25 rfl (by decide +kernel))
theorem dX12_wordOf_156 : decode cX12_wordOf 156 = .ok (.bipush 14, 2) := dcS1 dO_16 (rdS1.ch sfx_cX12_wordOf_128 28 rfl (by decide +kernel))
theorem dX12_wordOf_158 : decode cX12_wordOf 158 = .ok (.ireturn, 1) := dc0 dO_172 (rdB.ch sfx_cX12_wordOf_128 30 rfl (by decide +kernel))
theorem dX12_wordOf_159 : decode cX12_wordOf 159 = .ok (.lload_n 0, 1) := dc0 dO_30 (rdB.ch sfx_cX12_wordOf_128 31 rfl (by decide +kernel))
theorem dX12_wordOf_160 : decode cX12_wordOf 160 = .ok (.ldc2_w 187, 3) := dcU2 dO_20 (rdU2.ch sfx_cX12_wordOf_128 32 rfl (by decide +kernel))
theorem dX12_wordOf_163 : decode cX12_wordOf 163 = .ok (.lcmp, 1) := dc0 dO_148 (rdB.ch sfx_cX12_wordOf_128 35 rfl (by decide +kernel))
theorem dX12_wordOf_164 : decode cX12_wordOf 164 = .ok (.ifCond .ne 6, 3) := dcS2 dO_154 (rdS2.ch sfx_cX12_wordOf_128 36 rfl (by decide +kernel))
theorem dX12_wordOf_167 : decode cX12_wordOf 167 = .ok (.bipush 15, 2) := dcS1 dO_16 (rdS1.ch sfx_cX12_wordOf_128 39 rfl (by decide +kernel))
theorem dX12_wordOf_169 : decode cX12_wordOf 169 = .ok (.ireturn, 1) := dc0 dO_172 (rdB.ch sfx_cX12_wordOf_128 41 rfl (by decide +kernel))
theorem dX12_wordOf_170 : decode cX12_wordOf 170 = .ok (.lload_n 0, 1) := dc0 dO_30 (rdB.ch sfx_cX12_wordOf_128 42 rfl (by decide +kernel))
theorem dX12_wordOf_171 : decode cX12_wordOf 171 = .ok (.ldc2_w 189, 3) := dcU2 dO_20 (rdU2.ch sfx_cX12_wordOf_128 43 rfl (by decide +kernel))
theorem dX12_wordOf_174 : decode cX12_wordOf 174 = .ok (.lcmp, 1) := dc0 dO_148 (rdB.ch sfx_cX12_wordOf_128 46 rfl (by decide +kernel))
theorem dX12_wordOf_175 : decode cX12_wordOf 175 = .ok (.ifCond .ne 6, 3) := dcS2 dO_154 (rdS2.ch sfx_cX12_wordOf_128 47 rfl (by decide +kernel))
theorem dX12_wordOf_178 : decode cX12_wordOf 178 = .ok (.bipush 16, 2) := dcS1 dO_16 (rdS1.ch sfx_cX12_wordOf_128 50 rfl (by decide +kernel))
theorem dX12_wordOf_180 : decode cX12_wordOf 180 = .ok (.ireturn, 1) := dc0 dO_172 (rdB.ch sfx_cX12_wordOf_128 52 rfl (by decide +kernel))
theorem dX12_wordOf_181 : decode cX12_wordOf 181 = .ok (.lload_n 0, 1) := dc0 dO_30 (rdB.ch sfx_cX12_wordOf_128 53 rfl (by decide +kernel))
theorem dX12_wordOf_182 : decode cX12_wordOf 182 = .ok (.ldc2_w 191, 3) := dcU2 dO_20 (rdU2.ch sfx_cX12_wordOf_128 54 rfl (by decide +kernel))
theorem dX12_wordOf_185 : decode cX12_wordOf 185 = .ok (.lcmp, 1) := dc0 dO_148 (rdB.ch sfx_cX12_wordOf_128 57 rfl (by decide +kernel))
theorem dX12_wordOf_186 : decode cX12_wordOf 186 = .ok (.ifCond .ne 6, 3) := dcS2 dO_154 (rdS2.ch sfx_cX12_wordOf_128 58 rfl (by decide +kernel))
theorem dX12_wordOf_189 : decode cX12_wordOf 189 = .ok (.bipush 17, 2) := dcS1 dO_16 (rdS1.ch sfx_cX12_wordOf_128 61 rfl (by decide +kernel))
theorem dX12_wordOf_191 : decode cX12_wordOf 191 = .ok (.ireturn, 1) := dc0 dO_172 (rdB.ch sfx_cX12_wordOf_128 63 rfl (by decide +kernel))
theorem sfx_cX12_wordOf_192 : (cX12_wordOf.data.toList.drop 192).take 67 = [30, 20, 0, 193, 148, 154, 0, 6, 16, 18, 172, 30, 20, 0, 195, 148, 154, 0, 6, 16, 19, 172, 30, 20, 0, 197, 148, 154, 0, 6, 16, 20, 172, 30, 20, 0, 199, 148, 154, 0, 6, 16, 21, 172, 30, 20, 0, 201, 148, 154, 0, 6, 16, 22, 172, 30, 20, 0, 203, 148, 154, 0, 6, 16, 23, 172, 30] := by decide +kernel
theorem dX12_wordOf_192 : decode cX12_wordOf 192 = .ok (.lload_n 0, 1) := dc0 dO_30 (rdB.ch sfx_cX12_wordOf_192 0 rfl (by decide +kernel))
theorem dX12_wordOf_193 : decode cX12_wordOf 193 = .ok (.ldc2_w 193, 3) := dcU2 dO_20 (rdU2.ch sfx_cX12_wordOf_192 1 rfl (by decide +kernel))
theorem dX12_wordOf_196 : decode cX12_wordOf 196 = .ok (.lcmp, 1) := dc0 dO_148 (rdB.ch sfx_cX12_wordOf_192 4 rfl (by decide +kernel))
theorem dX12_wordOf_197 : decode cX12_wordOf 197 = .ok (.ifCond .ne 6, 3) := dcS2 dO_154 (rdS2.ch sfx_cX12_wordOf_192 5 rfl (by decide +kernel))
theorem dX12_wordOf_200 : decode cX12_wordOf 200 = .ok (.bipush 18, 2) := dcS1 dO_16 (rdS1.ch sfx_cX12_wordOf_192 8 rfl (by decide +kernel))
theorem dX12_wordOf_202 : decode cX12_wordOf 202 = .ok (.ireturn, 1) := dc0 dO_172 (rdB.ch sfx_cX12_wordOf_192 10 rfl (by decide +kernel))
theorem dX12_wordOf_203 : decode cX12_wordOf 203 = .ok (.lload_n 0, 1) := dc0 dO_30 (rdB.ch sfx_cX12_wordOf_192 11 rfl (by decide +kernel))
theorem dX12_wordOf_204 : decode cX12_wordOf 204 = .ok (.ldc2_w 195, 3) := dcU2 dO_20 (rdU2.ch sfx_cX12_wordOf_192 12 rfl (by decide +kernel))
theorem dX12_wordOf_207 : decode cX12_wordOf 207 = .ok (.lcmp, 1) := dc0 dO_148 (rdB.ch sfx_cX12_wordOf_192 15 rfl (by decide +kernel))
theorem dX12_wordOf_208 : decode cX12_wordOf 208 = .ok (.ifCond .ne 6, 3) := dcS2 dO_154 (rdS2.ch sfx_cX12_wordOf_192 16 rfl (by decide +kernel))
theorem dX12_wordOf_211 : decode cX12_wordOf 211 = .ok (.bipush 19, 2) := dcS1 dO_16 (rdS1.ch sfx_cX12_wordOf_192 19 rfl (by decide +kernel))
theorem dX12_wordOf_213 : decode cX12_wordOf 213 = .ok (.ireturn, 1) := dc0 dO_172 (rdB.ch sfx_cX12_wordOf_192 21 rfl (by decide +kernel))
theorem dX12_wordOf_214 : decode cX12_wordOf 214 = .ok (.lload_n 0, 1) := dc0 dO_30 (rdB.ch sfx_cX12_wordOf_192 22 rfl (by decide +kernel))
theorem dX12_wordOf_215 : decode cX12_wordOf 215 = .ok (.ldc2_w 197, 3) := dcU2 dO_20 (rdU2.ch sfx_cX12_wordOf_192 23 rfl (by decide +kernel))
theorem dX12_wordOf_218 : decode cX12_wordOf 218 = .ok (.lcmp, 1) := dc0 dO_148 (rdB.ch sfx_cX12_wordOf_192 26 rfl (by decide +kernel))
theorem dX12_wordOf_219 : decode cX12_wordOf 219 = .ok (.ifCond .ne 6, 3) := dcS2 dO_154 (rdS2.ch sfx_cX12_wordOf_192 27 rfl (by decide +kernel))
theorem dX12_wordOf_222 : decode cX12_wordOf 222 = .ok (.bipush 20, 2) := dcS1 dO_16 (rdS1.ch sfx_cX12_wordOf_192 30 rfl (by decide +kernel))
theorem dX12_wordOf_224 : decode cX12_wordOf 224 = .ok (.ireturn, 1) := dc0 dO_172 (rdB.ch sfx_cX12_wordOf_192 32 rfl (by decide +kernel))
theorem dX12_wordOf_225 : decode cX12_wordOf 225 = .ok (.lload_n 0, 1) := dc0 dO_30 (rdB.ch sfx_cX12_wordOf_192 33 rfl (by decide +kernel))
theorem dX12_wordOf_226 : decode cX12_wordOf 226 = .ok (.ldc2_w 199, 3) := dcU2 dO_20 (rdU2.ch sfx_cX12_wordOf_192 34 rfl (by decide +kernel))
theorem dX12_wordOf_229 : decode cX12_wordOf 229 = .ok (.lcmp, 1) := dc0 dO_148 (rdB.ch sfx_cX12_wordOf_192 37 rfl (by decide +kernel))
theorem dX12_wordOf_230 : decode cX12_wordOf 230 = .ok (.ifCond .ne 6, 3) := dcS2 dO_154 (rdS2.ch sfx_cX12_wordOf_192 38 rfl (by decide +kernel))
theorem dX12_wordOf_233 : decode cX12_wordOf 233 = .ok (.bipush 21, 2) := dcS1 dO_16 (rdS1.ch sfx_cX12_wordOf_192 41 rfl (by decide +kernel))
theorem dX12_wordOf_235 : decode cX12_wordOf 235 = .ok (.ireturn, 1) := dc0 dO_172 (rdB.ch sfx_cX12_wordOf_192 43 rfl (by decide +kernel))
theorem dX12_wordOf_236 : decode cX12_wordOf 236 = .ok (.lload_n 0, 1) := dc0 dO_30 (rdB.ch sfx_cX12_wordOf_192 44 rfl (by decide +kernel))
theorem dX12_wordOf_237 : decode cX12_wordOf 237 = .ok (.ldc2_w 201, 3) := dcU2 dO_20 (rdU2.ch sfx_cX12_wordOf_192 45 rfl (by decide +kernel))
theorem dX12_wordOf_240 : decode cX12_wordOf 240 = .ok (.lcmp, 1) := dc0 dO_148 (rdB.ch sfx_cX12_wordOf_192 48 rfl (by decide +kernel))
theorem dX12_wordOf_241 : decode cX12_wordOf 241 = .ok (.ifCond .ne 6, 3) := dcS2 dO_154 (rdS2.ch sfx_cX12_wordOf_192 49 rfl (by decide +kernel))
theorem dX12_wordOf_244 : decode cX12_wordOf 244 = .ok (.bipush 22, 2) := dcS1 dO_16 (rdS1.ch sfx_cX12_wordOf_192 52 rfl (by decide +kernel))
theorem dX12_wordOf_246 : decode cX12_wordOf 246 = .ok (.ireturn, 1) := dc0 dO_172 (rdB.ch sfx_cX12_wordOf_192 54 rfl (by decide +kernel))
theorem dX12_wordOf_247 : decode cX12_wordOf 247 = .ok (.lload_n 0, 1) := dc0 dO_30 (rdB.ch sfx_cX12_wordOf_192 55 rfl (by decide +kernel))
theorem dX12_wordOf_248 : decode cX12_wordOf 248 = .ok (.ldc2_w 203, 3) := dcU2 dO_20 (rdU2.ch sfx_cX12_wordOf_192 56 rfl (by decide +kernel))
theorem dX12_wordOf_251 : decode cX12_wordOf 251 = .ok (.lcmp, 1) := dc0 dO_148 (rdB.ch sfx_cX12_wordOf_192 59 rfl (by decide +kernel))
theorem dX12_wordOf_252 : decode cX12_wordOf 252 = .ok (.ifCond .ne 6, 3) := dcS2 dO_154 (rdS2.ch sfx_cX12_wordOf_192 60 rfl (by decide +kernel))
theorem dX12_wordOf_255 : decode cX12_wordOf 255 = .ok (.bipush 23, 2) := dcS1 dO_16 (rdS1.ch sfx_cX12_wordOf_192 63 rfl (by decide +kernel))
theorem sfx_cX12_wordOf_256 : (cX12_wordOf.data.toList.drop 256).take 67 = [23, 172, 30, 20, 0, 205, 148, 154, 0, 6, 16, 24, 172, 30, 20, 0, 207, 148, 154, 0, 6, 16, 25, 172, 30, 20, 0, 209, 148, 154, 0, 6, 16, 26, 172, 30, 20, 0, 211, 148, 154, 0, 6, 16, 27, 172, 30, 20, 0, 213, 148, 154, 0, 6, 16, 28, 172, 2, 172] := by decide +kernel
theorem dX12_wordOf_257 : decode cX12_wordOf 257 = .ok (.ireturn, 1) := dc0 dO_172 (rdB.ch sfx_cX12_wordOf_256 1 rfl (by decide +kernel))
theorem dX12_wordOf_258 : decode cX12_wordOf 258 = .ok (.lload_n 0, 1) := dc0 dO_30 (rdB.ch sfx_cX12_wordOf_256 2 rfl (by decide +kernel))
theorem dX12_wordOf_259 : decode cX12_wordOf 259 = .ok (.ldc2_w 205, 3) := dcU2 dO_20 (rdU2.ch sfx_cX12_wordOf_256 3 rfl (by decide +kernel))
theorem dX12_wordOf_262 : decode cX12_wordOf 262 = .ok (.lcmp, 1) := dc0 dO_148 (rdB.ch sfx_cX12_wordOf_256 6 rfl (by decide +kernel))
theorem dX12_wordOf_263 : decode cX12_wordOf 263 = .ok (.ifCond .ne 6, 3) := dcS2 dO_154 (rdS2.ch sfx_cX12_wordOf_256 7 rfl (by decide +kernel))
theorem dX12_wordOf_266 : decode cX12_wordOf 266 = .ok (.bipush 24, 2) := dcS1 dO_16 (rdS1.ch sfx_cX12_wordOf_256 10 rfl (by decide +kernel))
theorem dX12_wordOf_268 : decode cX12_wordOf 268 = .ok (.ireturn, 1) := dc0 dO_172 (rdB.ch sfx_cX12_wordOf_256 12 rfl (by decide +kernel))
theorem dX12_wordOf_269 : decode cX12_wordOf 269 = .ok (.lload_n 0, 1) := dc0 dO_30 (rdB.ch sfx_cX12_wordOf_256 13 rfl (by decide +kernel))
theorem dX12_wordOf_270 : decode cX12_wordOf 270 = .ok (.ldc2_w 207, 3) := dcU2 dO_20 (rdU2.ch sfx_cX12_wordOf_256 14 rfl (by decide +kernel))
theorem dX12_wordOf_273 : decode cX12_wordOf 273 = .ok (.lcmp, 1) := dc0 dO_148 (rdB.ch sfx_cX12_wordOf_256 17 rfl (by decide +kernel))
theorem dX12_wordOf_274 : decode cX12_wordOf 274 = .ok (.ifCond .ne 6, 3) := dcS2 dO_154 (rdS2.ch sfx_cX12_wordOf_256 18 rfl (by decide +kernel))
theorem dX12_wordOf_277 : decode cX12_wordOf 277 = .ok (.bipush 25, 2) := dcS1 dO_16 (rdS1.ch sfx_cX12_wordOf_256 21 rfl (by decide +kernel))
theorem dX12_wordOf_279 : decode cX12_wordOf 279 = .ok (.ireturn, 1) := dc0 dO_172 (rdB.ch sfx_cX12_wordOf_256 23 rfl (by decide +kernel))
theorem dX12_wordOf_280 : decode cX12_wordOf 280 = .ok (.lload_n 0, 1) := dc0 dO_30 (rdB.ch sfx_cX12_wordOf_256 24 rfl (by decide +kernel))
theorem dX12_wordOf_281 : decode cX12_wordOf 281 = .ok (.ldc2_w 209, 3) := dcU2 dO_20 (rdU2.ch sfx_cX12_wordOf_256 25 rfl (by decide +kernel))
theorem dX12_wordOf_284 : decode cX12_wordOf 284 = .ok (.lcmp, 1) := dc0 dO_148 (rdB.ch sfx_cX12_wordOf_256 28 rfl (by decide +kernel))
theorem dX12_wordOf_285 : decode cX12_wordOf 285 = .ok (.ifCond .ne 6, 3) := dcS2 dO_154 (rdS2.ch sfx_cX12_wordOf_256 29 rfl (by decide +kernel))
theorem dX12_wordOf_288 : decode cX12_wordOf 288 = .ok (.bipush 26, 2) := dcS1 dO_16 (rdS1.ch sfx_cX12_wordOf_256 32 rfl (by decide +kernel))
theorem dX12_wordOf_290 : decode cX12_wordOf 290 = .ok (.ireturn, 1) := dc0 dO_172 (rdB.ch sfx_cX12_wordOf_256 34 rfl (by decide +kernel))
theorem dX12_wordOf_291 : decode cX12_wordOf 291 = .ok (.lload_n 0, 1) := dc0 dO_30 (rdB.ch sfx_cX12_wordOf_256 35 rfl (by decide +kernel))
theorem dX12_wordOf_292 : decode cX12_wordOf 292 = .ok (.ldc2_w 211, 3) := dcU2 dO_20 (rdU2.ch sfx_cX12_wordOf_256 36 rfl (by decide +kernel))
theorem dX12_wordOf_295 : decode cX12_wordOf 295 = .ok (.lcmp, 1) := dc0 dO_148 (rdB.ch sfx_cX12_wordOf_256 39 rfl (by decide +kernel))
theorem dX12_wordOf_296 : decode cX12_wordOf 296 = .ok (.ifCond .ne 6, 3) := dcS2 dO_154 (rdS2.ch sfx_cX12_wordOf_256 40 rfl (by decide +kernel))
theorem dX12_wordOf_299 : decode cX12_wordOf 299 = .ok (.bipush 27, 2) := dcS1 dO_16 (rdS1.ch sfx_cX12_wordOf_256 43 rfl (by decide +kernel))
theorem dX12_wordOf_301 : decode cX12_wordOf 301 = .ok (.ireturn, 1) := dc0 dO_172 (rdB.ch sfx_cX12_wordOf_256 45 rfl (by decide +kernel))
theorem dX12_wordOf_302 : decode cX12_wordOf 302 = .ok (.lload_n 0, 1) := dc0 dO_30 (rdB.ch sfx_cX12_wordOf_256 46 rfl (by decide +kernel))
theorem dX12_wordOf_303 : decode cX12_wordOf 303 = .ok (.ldc2_w 213, 3) := dcU2 dO_20 (rdU2.ch sfx_cX12_wordOf_256 47 rfl (by decide +kernel))
theorem dX12_wordOf_306 : decode cX12_wordOf 306 = .ok (.lcmp, 1) := dc0 dO_148 (rdB.ch sfx_cX12_wordOf_256 50 rfl (by decide +kernel))
theorem dX12_wordOf_307 : decode cX12_wordOf 307 = .ok (.ifCond .ne 6, 3) := dcS2 dO_154 (rdS2.ch sfx_cX12_wordOf_256 51 rfl (by decide +kernel))
theorem dX12_wordOf_310 : decode cX12_wordOf 310 = .ok (.bipush 28, 2) := dcS1 dO_16 (rdS1.ch sfx_cX12_wordOf_256 54 rfl (by decide +kernel))
theorem dX12_wordOf_312 : decode cX12_wordOf 312 = .ok (.ireturn, 1) := dc0 dO_172 (rdB.ch sfx_cX12_wordOf_256 56 rfl (by decide +kernel))
theorem dX12_wordOf_313 : decode cX12_wordOf 313 = .ok (.iconst (-1), 1) := dc0 dO_2 (rdB.ch sfx_cX12_wordOf_256 57 rfl (by decide +kernel))
theorem dX12_wordOf_314 : decode cX12_wordOf 314 = .ok (.ireturn, 1) := dc0 dO_172 (rdB.ch sfx_cX12_wordOf_256 58 rfl (by decide +kernel))
theorem dX12_write_0 : decode cX12_write 0 = .ok (.aload_n 0, 1) := dc0 dO_42 (by decide +kernel)
theorem dX12_write_1 : decode cX12_write 1 = .ok (.iload_n 1, 1) := dc0 dO_27 (by decide +kernel)
theorem dX12_write_2 : decode cX12_write 2 = .ok (.invokevirtual 66, 3) := dcU2 dO_182 (by decide +kernel)
theorem dX12_write_5 : decode cX12_write 5 = .ok (.ifCond .eq 20, 3) := dcS2 dO_153 (by decide +kernel)
theorem dX12_write_8 : decode cX12_write 8 = .ok (.iload_n 2, 1) := dc0 dO_28 (by decide +kernel)
theorem dX12_write_9 : decode cX12_write 9 = .ok (.iconst 0, 1) := dc0 dO_3 (by decide +kernel)
theorem dX12_write_10 : decode cX12_write 10 = .ok (.iconst 1, 1) := dc0 dO_4 (by decide +kernel)
theorem dX12_write_11 : decode cX12_write 11 = .ok (.invokestatic 18, 3) := dcU2 dO_184 (by decide +kernel)
theorem dX12_write_14 : decode cX12_write 14 = .ok (.ifCond .eq 11, 3) := dcS2 dO_153 (by decide +kernel)
theorem dX12_write_17 : decode cX12_write 17 = .ok (.aload_n 0, 1) := dc0 dO_42 (by decide +kernel)
theorem dX12_write_18 : decode cX12_write 18 = .ok (.iload_n 3, 1) := dc0 dO_29 (by decide +kernel)
theorem dX12_write_19 : decode cX12_write 19 = .ok (.invokevirtual 92, 3) := dcU2 dO_182 (by decide +kernel)
theorem dX12_write_22 : decode cX12_write 22 = .ok (.ifCond .ne 5, 3) := dcS2 dO_154 (by decide +kernel)
theorem dX12_write_25 : decode cX12_write 25 = .ok (.iconst (-1), 1) := dc0 dO_2 (by decide +kernel)
theorem dX12_write_26 : decode cX12_write 26 = .ok (.ireturn, 1) := dc0 dO_172 (by decide +kernel)
theorem dX12_write_27 : decode cX12_write 27 = .ok (.bipush 40, 2) := dcS1 dO_16 (by decide +kernel)
theorem dX12_write_29 : decode cX12_write 29 = .ok (.sipush 530, 3) := dcS2 dO_17 (by decide +kernel)
theorem dX12_write_32 : decode cX12_write 32 = .ok (.iload_n 1, 1) := dc0 dO_27 (by decide +kernel)
theorem dX12_write_33 : decode cX12_write 33 = .ok (.iload_n 2, 1) := dc0 dO_28 (by decide +kernel)
theorem dX12_write_34 : decode cX12_write 34 = .ok (.iload_n 3, 1) := dc0 dO_29 (by decide +kernel)
theorem dX12_write_35 : decode cX12_write 35 = .ok (.invokestatic 545, 3) := dcU2 dO_184 (by decide +kernel)
theorem dX12_write_38 : decode cX12_write 38 = .ok (.iadd, 1) := dc0 dO_96 (by decide +kernel)
theorem dX12_write_39 : decode cX12_write 39 = .ok (.imul, 1) := dc0 dO_104 (by decide +kernel)
theorem dX12_write_40 : decode cX12_write 40 = .ok (.istore 4, 2) := dcU1 dO_54 (by decide +kernel)
theorem dX12_write_42 : decode cX12_write 42 = .ok (.aload_n 0, 1) := dc0 dO_42 (by decide +kernel)
theorem dX12_write_43 : decode cX12_write 43 = .ok (.iconst 0, 1) := dc0 dO_3 (by decide +kernel)
theorem dX12_write_44 : decode cX12_write 44 = .ok (.putfield 671, 3) := dcU2 dO_181 (by decide +kernel)
theorem dX12_write_47 : decode cX12_write 47 = .ok (.aload_n 0, 1) := dc0 dO_42 (by decide +kernel)
theorem dX12_write_48 : decode cX12_write 48 = .ok (.getfield 148, 3) := dcU2 dO_180 (by decide +kernel)
theorem dX12_write_51 : decode cX12_write 51 = .ok (.iload 4, 2) := dcU1 dO_21 (by decide +kernel)
theorem dX12_write_53 : decode cX12_write 53 = .ok (.iaload, 1) := dc0 dO_46 (by decide +kernel)
theorem dX12_write_54 : decode cX12_write 54 = .ok (.ifCond .ge 46, 3) := dcS2 dO_156 (by decide +kernel)
theorem dX12_write_57 : decode cX12_write 57 = .ok (.aload_n 0, 1) := dc0 dO_42 (by decide +kernel)
theorem dX12_write_58 : decode cX12_write 58 = .ok (.iconst 0, 1) := dc0 dO_3 (by decide +kernel)
theorem dX12_write_59 : decode cX12_write 59 = .ok (.invokevirtual 674, 3) := dcU2 dO_182 (by decide +kernel)
theorem dX12_write_62 : decode cX12_write 62 = .ok (.aload_n 0, 1) := dc0 dO_42 (by decide +kernel)
theorem dX12_write_63 : decode cX12_write 63 = .ok (.iconst 1, 1) := dc0 dO_4 (by decide +kernel)
theorem dX12_write_64 : decode cX12_write 64 = .ok (.aload_n 0, 1) := dc0 dO_42 (by decide +kernel)
theorem dX12_write_65 : decode cX12_write 65 = .ok (.getfield 26, 3) := dcU2 dO_180 (by decide +kernel)
theorem dX12_write_68 : decode cX12_write 68 = .ok (.iload_n 3, 1) := dc0 dO_29 (by decide +kernel)
theorem dX12_write_69 : decode cX12_write 69 = .ok (.iaload, 1) := dc0 dO_46 (by decide +kernel)
theorem dX12_write_70 : decode cX12_write 70 = .ok (.bipush 7, 2) := dcS1 dO_16 (by decide +kernel)
theorem dX12_write_72 : decode cX12_write 72 = .ok (.iadd, 1) := dc0 dO_96 (by decide +kernel)
theorem dX12_write_73 : decode cX12_write 73 = .ok (.bipush 8, 2) := dcS1 dO_16 (by decide +kernel)
theorem dX12_write_75 : decode cX12_write 75 = .ok (.idiv, 1) := dc0 dO_108 (by decide +kernel)
theorem dX12_write_76 : decode cX12_write 76 = .ok (.iadd, 1) := dc0 dO_96 (by decide +kernel)
theorem dX12_write_77 : decode cX12_write 77 = .ok (.invokevirtual 674, 3) := dcU2 dO_182 (by decide +kernel)
theorem dX12_write_80 : decode cX12_write 80 = .ok (.aload_n 0, 1) := dc0 dO_42 (by decide +kernel)
theorem dX12_write_81 : decode cX12_write 81 = .ok (.iload_n 3, 1) := dc0 dO_29 (by decide +kernel)
theorem dX12_write_82 : decode cX12_write 82 = .ok (.invokevirtual 677, 3) := dcU2 dO_182 (by decide +kernel)
theorem dX12_write_85 : decode cX12_write 85 = .ok (.aload_n 0, 1) := dc0 dO_42 (by decide +kernel)
theorem dX12_write_86 : decode cX12_write 86 = .ok (.iconst 0, 1) := dc0 dO_3 (by decide +kernel)
theorem dX12_write_87 : decode cX12_write 87 = .ok (.invokevirtual 674, 3) := dcU2 dO_182 (by decide +kernel)
theorem dX12_write_90 : decode cX12_write 90 = .ok (.aload_n 0, 1) := dc0 dO_42 (by decide +kernel)
theorem dX12_write_91 : decode cX12_write 91 = .ok (.iconst 0, 1) := dc0 dO_3 (by decide +kernel)
theorem dX12_write_92 : decode cX12_write 92 = .ok (.invokevirtual 674, 3) := dcU2 dO_182 (by decide +kernel)
theorem dX12_write_95 : decode cX12_write 95 = .ok (.aload_n 0, 1) := dc0 dO_42 (by decide +kernel)
theorem dX12_write_96 : decode cX12_write 96 = .ok (.getfield 671, 3) := dcU2 dO_180 (by decide +kernel)
theorem dX12_write_99 : decode cX12_write 99 = .ok (.ireturn, 1) := dc0 dO_172 (by decide +kernel)
theorem dX12_write_100 : decode cX12_write 100 = .ok (.aload_n 0, 1) := dc0 dO_42 (by decide +kernel)
theorem dX12_write_101 : decode cX12_write 101 = .ok (.getfield 148, 3) := dcU2 dO_180 (by decide +kernel)
theorem dX12_write_104 : decode cX12_write 104 = .ok (.iload 4, 2) := dcU1 dO_21 (by decide +kernel)
theorem dX12_write_106 : decode cX12_write 106 = .ok (.iconst 4, 1) := dc0 dO_7 (by decide +kernel)
theorem dX12_write_107 : decode cX12_write 107 = .ok (.iadd, 1) := dc0 dO_96 (by decide +kernel)
theorem dX12_write_108 : decode cX12_write 108 = .ok (.iaload, 1) := dc0 dO_46 (by decide +kernel)
theorem dX12_write_109 : decode cX12_write 109 = .ok (.istore 5, 2) := dcU1 dO_54 (by decide +kernel)
theorem dX12_write_111 : decode cX12_write 111 = .ok (.aload_n 0, 1) := dc0 dO_42 (by decide +kernel)
theorem dX12_write_112 : decode cX12_write 112 = .ok (.getfield 148, 3) := dcU2 dO_180 (by decide +kernel)
theorem dX12_write_115 : decode cX12_write 115 = .ok (.iload 4, 2) := dcU1 dO_21 (by decide +kernel)
theorem dX12_write_117 : decode cX12_write 117 = .ok (.iconst 5, 1) := dc0 dO_8 (by decide +kernel)
theorem dX12_write_118 : decode cX12_write 118 = .ok (.iadd, 1) := dc0 dO_96 (by decide +kernel)
theorem dX12_write_119 : decode cX12_write 119 = .ok (.iaload, 1) := dc0 dO_46 (by decide +kernel)
theorem dX12_write_120 : decode cX12_write 120 = .ok (.istore 6, 2) := dcU1 dO_54 (by decide +kernel)
theorem dX12_write_122 : decode cX12_write 122 = .ok (.iload 5, 2) := dcU1 dO_21 (by decide +kernel)
theorem dX12_write_124 : decode cX12_write 124 = .ok (.ifCond .ne 7, 3) := dcS2 dO_154 (by decide +kernel)
theorem dX12_write_127 : decode cX12_write 127 = .ok (.iconst 0, 1) := dc0 dO_3 (by decide +kernel)
theorem sfx_cX12_write_128 : (cX12_write.data.toList.drop 128).take 67 = [167, 0, 9, 5, 7, 21, 5, 104, 96, 54, 7, 16, 7, 21, 7, 96, 42, 180, 0, 148, 21, 4, 6, 96, 46, 158, 0, 8, 16, 7, 167, 0, 4, 3, 96, 21, 6, 158, 0, 12, 6, 7, 21, 6, 104, 96, 167, 0, 4, 3, 96, 54, 8, 42, 3, 182, 2, 162, 42, 3, 182, 2, 162, 42, 21, 8, 16] := by decide +kernel
theorem dX12_write_128 : decode cX12_write 128 = .ok (.goto 9, 3) := dcS2 dO_167 (rdS2.ch sfx_cX12_write_128 0 rfl (by decide +kernel))
theorem dX12_write_131 : decode cX12_write 131 = .ok (.iconst 2, 1) := dc0 dO_5 (rdB.ch sfx_cX12_write_128 3 rfl (by decide +kernel))
theorem dX12_write_132 : decode cX12_write 132 = .ok (.iconst 4, 1) := dc0 dO_7 (rdB.ch sfx_cX12_write_128 4 rfl (by decide +kernel))
theorem dX12_write_133 : decode cX12_write 133 = .ok (.iload 5, 2) := dcU1 dO_21 (rdU1.ch sfx_cX12_write_128 5 rfl (by decide +kernel))
theorem dX12_write_135 : decode cX12_write 135 = .ok (.imul, 1) := dc0 dO_104 (rdB.ch sfx_cX12_write_128 7 rfl (by decide +kernel))
theorem dX12_write_136 : decode cX12_write 136 = .ok (.iadd, 1) := dc0 dO_96 (rdB.ch sfx_cX12_write_128 8 rfl (by decide +kernel))
theorem dX12_write_137 : decode cX12_write 137 = .ok (.istore 7, 2) := dcU1 dO_54 (rdU1.ch sfx_cX12_write_128 9 rfl (by decide +kernel))
theorem dX12_write_139 : decode cX12_write 139 = .ok (.bipush 7, 2) := dcS1 dO_16 (rdS1.ch sfx_cX12_write_128 11 rfl (by decide +kernel))
theorem dX12_write_141 : decode cX12_write 141 = .ok (.iload 7, 2) := dcU1 dO_21 (rdU1.ch sfx_cX12_write_128 13 rfl (by decide +kernel))
theorem dX12_write_143 : decode cX12_write 143 = .ok (.iadd, 1) := dc0 dO_96 (rdB.ch sfx_cX12_write_128 15 rfl (by decide +kernel))
theorem dX12_write_144 : decode cX12_write 144 = .ok (.aload_n 0, 1) := dc0 dO_42 (rdB.ch sfx_cX12_write_128 16 rfl (by decide +kernel))
theorem dX12_write_145 : decode cX12_write 145 = .ok (.getfield 148, 3) := dcU2 dO_180 (rdU2.ch sfx_cX12_write_128 17 rfl (by decide +kernel))
theorem dX12_write_148 : decode cX12_write 148 = .ok (.iload 4, 2) := dcU1 dO_21 (rdU1.ch sfx_cX12_write_128 20 rfl (by decide +kernel))
theorem dX12_write_150 : decode cX12_write 150 = .ok (.iconst 3, 1) := dc0 dO_6 (rdB.ch sfx_cX12_write_128 22 rfl (by decide +kernel))
theorem dX12_write_151 : decode cX12_write 151 = .ok (.iadd, 1) := dc0 dO_96 (rdB.ch sfx_cX12_write_128 23 rfl (by decide +kernel))
theorem dX12_write_152 : decode cX12_write 152 = .ok (.iaload, 1) := dc0 dO_46 (rdB.ch sfx_cX12_write_128 24 rfl (by decide +kernel))
theorem dX12_write_153 : decode cX12_write 153 = .ok (.ifCond .le 8, 3) := dcS2 dO_158 (rdS2.ch sfx_cX12_write_128 25 rfl (by decide +kernel))
theorem dX12_write_156 : decode cX12_write 156 = .ok (.bipush 7, 2) := dcS1 dO_16 (rdS1.ch sfx_cX12_write_128 28 rfl (by decide +kernel))
theorem dX12_write_158 : decode cX12_write 158 = .ok (.goto 4, 3) := dcS2 dO_167 (rdS2.ch sfx_cX12_write_128 30 rfl (by decide +kernel))
theorem dX12_write_161 : decode cX12_write 161 = .ok (.iconst 0, 1) := dc0 dO_3 (rdB.ch sfx_cX12_write_128 33 rfl (by decide +kernel))
theorem dX12_write_162 : decode cX12_write 162 = .ok (.iadd, 1) := dc0 dO_96 (rdB.ch sfx_cX12_write_128 34 rfl (by decide +kernel))
theorem dX12_write_163 : decode cX12_write 163 = .ok (.iload 6, 2) := dcU1 dO_21 (rdU1.ch sfx_cX12_write_128 35 rfl (by decide +kernel))
theorem dX12_write_165 : decode cX12_write 165 = .ok (.ifCond .le 12, 3) := dcS2 dO_158 (rdS2.ch sfx_cX12_write_128 37 rfl (by decide +kernel))
theorem dX12_write_168 : decode cX12_write 168 = .ok (.iconst 3, 1) := dc0 dO_6 (rdB.ch sfx_cX12_write_128 40 rfl (by decide +kernel))
theorem dX12_write_169 : decode cX12_write 169 = .ok (.iconst 4, 1) := dc0 dO_7 (rdB.ch sfx_cX12_write_128 41 rfl (by decide +kernel))
theorem dX12_write_170 : decode cX12_write 170 = .ok (.iload 6, 2) := dcU1 dO_21 (rdU1.ch sfx_cX12_write_128 42 rfl (by decide +kernel))
theorem dX12_write_172 : decode cX12_write 172 = .ok (.imul, 1) := dc0 dO_104 (rdB.ch sfx_cX12_write_128 44 rfl (by decide +kernel))
theorem dX12_write_173 : decode cX12_write 173 = .ok (.iadd, 1) := dc0 dO_96 (rdB.ch sfx_cX12_write_128 45 rfl (by decide +kernel))
theorem dX12_write_174 : decode cX12_write 174 = .ok (.goto 4, 3) := dcS2 dO_167 (rdS2.ch sfx_cX12_write_128 46 rfl (by decide +kernel))
theorem dX12_write_177 : decode cX12_write 177 = .ok (.iconst 0, 1) := dc0 dO_3 (rdB.ch sfx_cX12_write_128 49 rfl (by decide +kernel))
theorem dX12_write_178 : decode cX12_write 178 = .ok (.iadd, 1) := dc0 dO_96 (rdB.ch sfx_cX12_write_128 50 rfl (by decide +kernel))
theorem dX12_write_179 : decode cX12_write 179 = .ok (.istore 8, 2) := dcU1 dO_54 (rdU1.ch sfx_cX12_write_128 51 rfl (by decide +kernel))
theorem dX12_write_181 : decode cX12_write 181 = .ok (.aload_n 0, 1) := dc0 dO_42 (rdB.ch sfx_cX12_write_128 53 rfl (by decide +kernel))
theorem dX12_write_182 : decode cX12_write 182 = .ok (.iconst 0, 1) := dc0 dO_3 (rdB.ch sfx_cX12_write_128 54 rfl (by decide +kernel))
theorem dX12_write_183 : decode cX12_write 183 = .ok (.invokevirtual 674, 3) := dcU2 dO_182 (rdU2.ch sfx_cX12_write_128 55 rfl (by decide +kernel))
theorem dX12_write_186 : decode cX12_write 186 = .ok (.aload_n 0, 1) := dc0 dO_42 (rdB.ch sfx_cX12_write_128 58 rfl (by decide +kernel))
theorem dX12_write_187 : decode cX12_write 187 = .ok (.iconst 0, 1) := dc0 dO_3 (rdB.ch sfx_cX12_write_128 59 rfl (by decide +kernel))
theorem dX12_write_188 : decode cX12_write 188 = .ok (.invokevirtual 674, 3) := dcU2 dO_182 (rdU2.ch sfx_cX12_write_128 60 rfl (by decide +kernel))
theorem dX12_write_191 : decode cX12_write 191 = .ok (.aload_n 0, 1) := dc0 dO_42 (rdB.ch sfx_cX12_write_128 63 rfl (by decide +kernel))
theorem sfx_cX12_write_192 : (cX12_write.data.toList.drop 192).take 67 = [21, 8, 16, 8, 122, 182, 2, 162, 42, 21, 8, 182, 2, 162, 42, 16, 64, 182, 2, 162, 42, 4, 182, 2, 162, 42, 4, 182, 2, 162, 42, 42, 180, 0, 148, 21, 4, 5, 96, 46, 182, 2, 162, 42, 16, 64, 182, 2, 162, 42, 5, 182, 2, 162, 42, 21, 7, 182, 2, 162, 21, 5, 158, 0, 47, 42, 5] := by decide +kernel
theorem dX12_write_192 : decode cX12_write 192 = .ok (.iload 8, 2) := dcU1 dO_21 (rdU1.ch sfx_cX12_write_192 0 rfl (by decide +kernel))
theorem dX12_write_194 : decode cX12_write 194 = .ok (.bipush 8, 2) := dcS1 dO_16 (rdS1.ch sfx_cX12_write_192 2 rfl (by decide +kernel))
theorem dX12_write_196 : decode cX12_write 196 = .ok (.ishr, 1) := dc0 dO_122 (rdB.ch sfx_cX12_write_192 4 rfl (by decide +kernel))
theorem dX12_write_197 : decode cX12_write 197 = .ok (.invokevirtual 674, 3) := dcU2 dO_182 (rdU2.ch sfx_cX12_write_192 5 rfl (by decide +kernel))
theorem dX12_write_200 : decode cX12_write 200 = .ok (.aload_n 0, 1) := dc0 dO_42 (rdB.ch sfx_cX12_write_192 8 rfl (by decide +kernel))
theorem dX12_write_201 : decode cX12_write 201 = .ok (.iload 8, 2) := dcU1 dO_21 (rdU1.ch sfx_cX12_write_192 9 rfl (by decide +kernel))
theorem dX12_write_203 : decode cX12_write 203 = .ok (.invokevirtual 674, 3) := dcU2 dO_182 (rdU2.ch sfx_cX12_write_192 11 rfl (by decide +kernel))
theorem dX12_write_206 : decode cX12_write 206 = .ok (.aload_n 0, 1) := dc0 dO_42 (rdB.ch sfx_cX12_write_192 14 rfl (by decide +kernel))
theorem dX12_write_207 : decode cX12_write 207 = .ok (.bipush 64, 2) := dcS1 dO_16 (rdS1.ch sfx_cX12_write_192 15 rfl (by decide +kernel))
theorem dX12_write_209 : decode cX12_write 209 = .ok (.invokevirtual 674, 3) := dcU2 dO_182 (rdU2.ch sfx_cX12_write_192 17 rfl (by decide +kernel))
theorem dX12_write_212 : decode cX12_write 212 = .ok (.aload_n 0, 1) := dc0 dO_42 (rdB.ch sfx_cX12_write_192 20 rfl (by decide +kernel))
theorem dX12_write_213 : decode cX12_write 213 = .ok (.iconst 1, 1) := dc0 dO_4 (rdB.ch sfx_cX12_write_192 21 rfl (by decide +kernel))
theorem dX12_write_214 : decode cX12_write 214 = .ok (.invokevirtual 674, 3) := dcU2 dO_182 (rdU2.ch sfx_cX12_write_192 22 rfl (by decide +kernel))
theorem dX12_write_217 : decode cX12_write 217 = .ok (.aload_n 0, 1) := dc0 dO_42 (rdB.ch sfx_cX12_write_192 25 rfl (by decide +kernel))
theorem dX12_write_218 : decode cX12_write 218 = .ok (.iconst 1, 1) := dc0 dO_4 (rdB.ch sfx_cX12_write_192 26 rfl (by decide +kernel))
theorem dX12_write_219 : decode cX12_write 219 = .ok (.invokevirtual 674, 3) := dcU2 dO_182 (rdU2.ch sfx_cX12_write_192 27 rfl (by decide +kernel))
theorem dX12_write_222 : decode cX12_write 222 = .ok (.aload_n 0, 1) := dc0 dO_42 (rdB.ch sfx_cX12_write_192 30 rfl (by decide +kernel))
theorem dX12_write_223 : decode cX12_write 223 = .ok (.aload_n 0, 1) := dc0 dO_42 (rdB.ch sfx_cX12_write_192 31 rfl (by decide +kernel))
theorem dX12_write_224 : decode cX12_write 224 = .ok (.getfield 148, 3) := dcU2 dO_180 (rdU2.ch sfx_cX12_write_192 32 rfl (by decide +kernel))
theorem dX12_write_227 : decode cX12_write 227 = .ok (.iload 4, 2) := dcU1 dO_21 (rdU1.ch sfx_cX12_write_192 35 rfl (by decide +kernel))
theorem dX12_write_229 : decode cX12_write 229 = .ok (.iconst 2, 1) := dc0 dO_5 (rdB.ch sfx_cX12_write_192 37 rfl (by decide +kernel))
theorem dX12_write_230 : decode cX12_write 230 = .ok (.iadd, 1) := dc0 dO_96 (rdB.ch sfx_cX12_write_192 38 rfl (by decide +kernel))
theorem dX12_write_231 : decode cX12_write 231 = .ok (.iaload, 1) := dc0 dO_46 (rdB.ch sfx_cX12_write_192 39 rfl (by decide +kernel))
theorem dX12_write_232 : decode cX12_write 232 = .ok (.invokevirtual 674, 3) := dcU2 dO_182 (rdU2.ch sfx_cX12_write_192 40 rfl (by decide +kernel))
theorem dX12_write_235 : decode cX12_write 235 = .ok (.aload_n 0, 1) := dc0 dO_42 (rdB.ch sfx_cX12_write_192 43 rfl (by decide +kernel))
theorem dX12_write_236 : decode cX12_write 236 = .ok (.bipush 64, 2) := dcS1 dO_16 (rdS1.ch sfx_cX12_write_192 44 rfl (by decide +kernel))
theorem dX12_write_238 : decode cX12_write 238 = .ok (.invokevirtual 674, 3) := dcU2 dO_182 (rdU2.ch sfx_cX12_write_192 46 rfl (by decide +kernel))
theorem dX12_write_241 : decode cX12_write 241 = .ok (.aload_n 0, 1) := dc0 dO_42 (rdB.ch sfx_cX12_write_192 49 rfl (by decide +kernel))
theorem dX12_write_242 : decode cX12_write 242 = .ok (.iconst 2, 1) := dc0 dO_5 (rdB.ch sfx_cX12_write_192 50 rfl (by decide +kernel))
theorem dX12_write_243 : decode cX12_write 243 = .ok (.invokevirtual 674, 3) := dcU2 dO_182 (rdU2.ch sfx_cX12_write_192 51 rfl (by decide +kernel))
theorem dX12_write_246 : decode cX12_write 246 = .ok (.aload_n 0, 1) := dc0 dO_42 (rdB.ch sfx_cX12_write_192 54 rfl (by decide +kernel))
theorem dX12_write_247 : decode cX12_write 247 = .ok (.iload 7, 2) := dcU1 dO_21 (rdU1.ch sfx_cX12_write_192 55 rfl (by decide +kernel))
theorem dX12_write_249 : decode cX12_write 249 = .ok (.invokevirtual 674, 3) := dcU2 dO_182 (rdU2.ch sfx_cX12_write_192 57 rfl (by decide +kernel))
theorem dX12_write_252 : decode cX12_write 252 = .ok (.iload 5, 2) := dcU1 dO_21 (rdU1.ch sfx_cX12_write_192 60 rfl (by decide +kernel))
theorem dX12_write_254 : decode cX12_write 254 = .ok (.ifCond .le 47, 3) := dcS2 dO_158 (rdS2.ch sfx_cX12_write_192 62 rfl (by decide +kernel))
theorem sfx_cX12_write_256 : (cX12_write.data.toList.drop 256).take 67 = [47, 42, 5, 182, 2, 162, 42, 21, 5, 182, 2, 162, 3, 54, 9, 21, 9, 21, 5, 162, 0, 26, 42, 42, 180, 0, 148, 21, 4, 16, 6, 96, 21, 9, 96, 46, 182, 2, 168, 132, 9, 1, 167, 255, 229, 42, 180, 0, 148, 21, 4, 6, 96, 46, 158, 0, 33, 42, 17, 0, 128, 182, 2, 162, 42, 7, 182] := by decide +kernel
theorem dX12_write_257 : decode cX12_write 257 = .ok (.aload_n 0, 1) := dc0 dO_42 (rdB.ch sfx_cX12_write_256 1 rfl (by decide +kernel))
theorem dX12_write_258 : decode cX12_write 258 = .ok (.iconst 2, 1) := dc0 dO_5 (rdB.ch sfx_cX12_write_256 2 rfl (by decide +kernel))
theorem dX12_write_259 : decode cX12_write 259 = .ok (.invokevirtual 674, 3) := dcU2 dO_182 (rdU2.ch sfx_cX12_write_256 3 rfl (by decide +kernel))
theorem dX12_write_262 : decode cX12_write 262 = .ok (.aload_n 0, 1) := dc0 dO_42 (rdB.ch sfx_cX12_write_256 6 rfl (by decide +kernel))
theorem dX12_write_263 : decode cX12_write 263 = .ok (.iload 5, 2) := dcU1 dO_21 (rdU1.ch sfx_cX12_write_256 7 rfl (by decide +kernel))
theorem dX12_write_265 : decode cX12_write 265 = .ok (.invokevirtual 674, 3) := dcU2 dO_182 (rdU2.ch sfx_cX12_write_256 9 rfl (by decide +kernel))
theorem dX12_write_268 : decode cX12_write 268 = .ok (.iconst 0, 1) := dc0 dO_3 (rdB.ch sfx_cX12_write_256 12 rfl (by decide +kernel))
theorem dX12_write_269 : decode cX12_write 269 = .ok (.istore 9, 2) := dcU1 dO_54 (rdU1.ch sfx_cX12_write_256 13 rfl (by decide +kernel))
theorem dX12_write_271 : decode cX12_write 271 = .ok (.iload 9, 2) := dcU1 dO_21 (rdU1.ch sfx_cX12_write_256 15 rfl (by decide +kernel))
theorem dX12_write_273 : decode cX12_write 273 = .ok (.iload 5, 2) := dcU1 dO_21 (rdU1.ch sfx_cX12_write_256 17 rfl (by decide +kernel))
theorem dX12_write_275 : decode cX12_write 275 = .ok (.if_icmp .ge 26, 3) := dcS2 dO_162 (rdS2.ch sfx_cX12_write_256 19 rfl (by decide +kernel))
theorem dX12_write_278 : decode cX12_write 278 = .ok (.aload_n 0, 1) := dc0 dO_42 (rdB.ch sfx_cX12_write_256 22 rfl (by decide +kernel))
theorem dX12_write_279 : decode cX12_write 279 = .ok (.aload_n 0, 1) := dc0 dO_42 (rdB.ch sfx_cX12_write_256 23 rfl (by decide +kernel))
theorem dX12_write_280 : decode cX12_write 280 = .ok (.getfield 148, 3) := dcU2 dO_180 (rdU2.ch sfx_cX12_write_256 24 rfl (by decide +kernel))
theorem dX12_write_283 : decode cX12_write 283 = .ok (.iload 4, 2) := dcU1 dO_21 (rdU1.ch sfx_cX12_write_256 27 rfl (by decide +kernel))
theorem dX12_write_285 : decode cX12_write 285 = .ok (.bipush 6, 2) := dcS1 dO_16 (rdS1.ch sfx_cX12_write_256 29 rfl (by decide +kernel))
theorem dX12_write_287 : decode cX12_write 287 = .ok (.iadd, 1) := dc0 dO_96 (rdB.ch sfx_cX12_write_256 31 rfl (by decide +kernel))
theorem dX12_write_288 : decode cX12_write 288 = .ok (.iload 9, 2) := dcU1 dO_21 (rdU1.ch sfx_cX12_write_256 32 rfl (by decide +kernel))
theorem dX12_write_290 : decode cX12_write 290 = .ok (.iadd, 1) := dc0 dO_96 (rdB.ch sfx_cX12_write_256 34 rfl (by decide +kernel))
theorem dX12_write_291 : decode cX12_write 291 = .ok (.iaload, 1) := dc0 dO_46 (rdB.ch sfx_cX12_write_256 35 rfl (by decide +kernel))
theorem dX12_write_292 : decode cX12_write 292 = .ok (.invokevirtual 680, 3) := dcU2 dO_182 (rdU2.ch sfx_cX12_write_256 36 rfl (by decide +kernel))
theorem dX12_write_295 : decode cX12_write 295 = .ok (.iinc 9 1, 3) := dcI dO_132 (rdI.ch sfx_cX12_write_256 39 rfl (by decide +kernel))
theorem dX12_write_298 : decode cX12_write 298 = .ok (.goto (-27), 3) := dcS2 dO_167 (rdS2.ch sfx_cX12_write_256 42 rfl (by decide +kernel))
theorem dX12_write_301 : decode cX12_write 301 = .ok (.aload_n 0, 1) := dc0 dO_42 (rdB.ch sfx_cX12_write_256 45 rfl (by decide +kernel))
theorem dX12_write_302 : decode cX12_write 302 = .ok (.getfield 148, 3) := dcU2 dO_180 (rdU2.ch sfx_cX12_write_256 46 rfl (by decide +kernel))
theorem dX12_write_305 : decode cX12_write 305 = .ok (.iload 4, 2) := dcU1 dO_21 (rdU1.ch sfx_cX12_write_256 49 rfl (by decide +kernel))
theorem dX12_write_307 : decode cX12_write 307 = .ok (.iconst 3, 1) := dc0 dO_6 (rdB.ch sfx_cX12_write_256 51 rfl (by decide +kernel))
theorem dX12_write_308 : decode cX12_write 308 = .ok (.iadd, 1) := dc0 dO_96 (rdB.ch sfx_cX12_write_256 52 rfl (by decide +kernel))
theorem dX12_write_309 : decode cX12_write 309 = .ok (.iaload, 1) := dc0 dO_46 (rdB.ch sfx_cX12_write_256 53 rfl (by decide +kernel))
theorem dX12_write_310 : decode cX12_write 310 = .ok (.ifCond .le 33, 3) := dcS2 dO_158 (rdS2.ch sfx_cX12_write_256 54 rfl (by decide +kernel))
theorem dX12_write_313 : decode cX12_write 313 = .ok (.aload_n 0, 1) := dc0 dO_42 (rdB.ch sfx_cX12_write_256 57 rfl (by decide +kernel))
theorem dX12_write_314 : decode cX12_write 314 = .ok (.sipush 128, 3) := dcS2 dO_17 (rdS2.ch sfx_cX12_write_256 58 rfl (by decide +kernel))
theorem dX12_write_317 : decode cX12_write 317 = .ok (.invokevirtual 674, 3) := dcU2 dO_182 (rdU2.ch sfx_cX12_write_256 61 rfl (by decide +kernel))
theorem sfx_cX12_write_320 : (cX12_write.data.toList.drop 320).take 67 = [42, 7, 182, 2, 162, 42, 7, 182, 2, 162, 42, 42, 180, 0, 148, 21, 4, 6, 96, 46, 182, 2, 168, 21, 6, 158, 0, 57, 42, 17, 0, 192, 182, 2, 162, 42, 16, 8, 182, 2, 162, 42, 7, 21, 6, 104, 182, 2, 162, 3, 54, 9, 21, 9, 21, 6, 162, 0, 26, 42, 42, 180, 0, 148, 21, 4, 16] := by decide +kernel
theorem dX12_write_320 : decode cX12_write 320 = .ok (.aload_n 0, 1) := dc0 dO_42 (rdB.ch sfx_cX12_write_320 0 rfl (by decide +kernel))
theorem dX12_write_321 : decode cX12_write 321 = .ok (.iconst 4, 1) := dc0 dO_7 (rdB.ch sfx_cX12_write_320 1 rfl (by decide +kernel))
theorem dX12_write_322 : decode cX12_write 322 = .ok (.invokevirtual 674, 3) := dcU2 dO_182 (rdU2.ch sfx_cX12_write_320 2 rfl (by decide +kernel))
theorem dX12_write_325 : decode cX12_write 325 = .ok (.aload_n 0, 1) := dc0 dO_42 (rdB.ch sfx_cX12_write_320 5 rfl (by decide +kernel))
theorem dX12_write_326 : decode cX12_write 326 = .ok (.iconst 4, 1) := dc0 dO_7 (rdB.ch sfx_cX12_write_320 6 rfl (by decide +kernel))
theorem dX12_write_327 : decode cX12_write 327 = .ok (.invokevirtual 674, 3) := dcU2 dO_182 (rdU2.ch sfx_cX12_write_320 7 rfl (by decide +kernel))
theorem dX12_write_330 : decode cX12_write 330 = .ok (.aload_n 0, 1) := dc0 dO_42 (rdB.ch sfx_cX12_write_320 10 rfl (by decide +kernel))
theorem dX12_write_331 : decode cX12_write 331 = .ok (.aload_n 0, 1) := dc0 dO_42 (rdB.ch sfx_cX12_write_320 11 rfl (by decide +kernel))
theorem dX12_write_332 : decode cX12_write 332 = .ok (.getfield 148, 3) := dcU2 dO_180 (rdU2.ch sfx_cX12_write_320 12 rfl (by decide +kernel))
theorem dX12_write_335 : decode cX12_write 335 = .ok (.iload 4, 2) := dcU1 dO_21 (rdU1.ch sfx_cX12_write_320 15 rfl (by decide +kernel))
theorem dX12_write_337 : decode cX12_write 337 = .ok (.iconst 3, 1) := dc0 dO_6 (rdB.ch sfx_cX12_write_320 17 rfl (by decide +kernel))
theorem dX12_write_338 : decode cX12_write 338 = .ok (.iadd, 1) := dc0 dO_96 (rdB.ch sfx_cX12_write_320 18 rfl (by decide +kernel))
theorem dX12_write_339 : decode cX12_write 339 = .ok (.iaload, 1) := dc0 dO_46 (rdB.ch sfx_cX12_write_320 19 rfl (by decide +kernel))
theorem dX12_write_340 : decode cX12_write 340 = .ok (.invokevirtual 680, 3) := dcU2 dO_182 (rdU2.ch sfx_cX12_write_320 20 rfl (by decide +kernel))
theorem dX12_write_343 : decode cX12_write 343 = .ok (.iload 6, 2) := dcU1 dO_21 (rdU1.ch sfx_cX12_write_320 23 rfl (by decide +kernel))
theorem dX12_write_345 : decode cX12_write 345 = .ok (.ifCond .le 57, 3) := dcS2 dO_158 (rdS2.ch sfx_cX12_write_320 25 rfl (by decide +kernel))
theorem dX12_write_348 : decode cX12_write 348 = .ok (.aload_n 0, 1) := dc0 dO_42 (rdB.ch sfx_cX12_write_320 28 rfl (by decide +kernel))
theorem dX12_write_349 : decode cX12_write 349 = .ok (.sipush 192, 3) := dcS2 dO_17 (rdS2.ch sfx_cX12_write_320 29 rfl (by decide +kernel))
theorem dX12_write_352 : decode cX12_write 352 = .ok (.invokevirtual 674, 3) := dcU2 dO_182 (rdU2.ch sfx_cX12_write_320 32 rfl (by decide +kernel))
theorem dX12_write_355 : decode cX12_write 355 = .ok (.aload_n 0, 1) := dc0 dO_42 (rdB.ch sfx_cX12_write_320 35 rfl (by decide +kernel))
theorem dX12_write_356 : decode cX12_write 356 = .ok (.bipush 8, 2) := dcS1 dO_16 (rdS1.ch sfx_cX12_write_320 36 rfl (by decide +kernel))
theorem dX12_write_358 : decode cX12_write 358 = .ok (.invokevirtual 674, 3) := dcU2 dO_182 (rdU2.ch sfx_cX12_write_320 38 rfl (by decide +kernel))
theorem dX12_write_361 : decode cX12_write 361 = .ok (.aload_n 0, 1) := dc0 dO_42 (rdB.ch sfx_cX12_write_320 41 rfl (by decide +kernel))
theorem dX12_write_362 : decode cX12_write 362 = .ok (.iconst 4, 1) := dc0 dO_7 (rdB.ch sfx_cX12_write_320 42 rfl (by decide +kernel))
theorem dX12_write_363 : decode cX12_write 363 = .ok (.iload 6, 2) := dcU1 dO_21 (rdU1.ch sfx_cX12_write_320 43 rfl (by decide +kernel))
theorem dX12_write_365 : decode cX12_write 365 = .ok (.imul, 1) := dc0 dO_104 (rdB.ch sfx_cX12_write_320 45 rfl (by decide +kernel))
theorem dX12_write_366 : decode cX12_write 366 = .ok (.invokevirtual 674, 3) := dcU2 dO_182 (rdU2.ch sfx_cX12_write_320 46 rfl (by decide +kernel))
theorem dX12_write_369 : decode cX12_write 369 = .ok (.iconst 0, 1) := dc0 dO_3 (rdB.ch sfx_cX12_write_320 49 rfl (by decide +kernel))
theorem dX12_write_370 : decode cX12_write 370 = .ok (.istore 9, 2) := dcU1 dO_54 (rdU1.ch sfx_cX12_write_320 50 rfl (by decide +kernel))
theorem dX12_write_372 : decode cX12_write 372 = .ok (.iload 9, 2) := dcU1 dO_21 (rdU1.ch sfx_cX12_write_320 52 rfl (by decide +kernel))
theorem dX12_write_374 : decode cX12_write 374 = .ok (.iload 6, 2) := dcU1 dO_21 (rdU1.ch sfx_cX12_write_320 54 rfl (by decide +kernel))
theorem dX12_write_376 : decode cX12_write 376 = .ok (.if_icmp .ge 26, 3) := dcS2 dO_162 (rdS2.ch sfx_cX12_write_320 56 rfl (by decide +kernel))
theorem dX12_write_379 : decode cX12_write 379 = .ok (.aload_n 0, 1) := dc0 dO_42 (rdB.ch sfx_cX12_write_320 59 rfl (by decide +kernel))
theorem dX12_write_380 : decode cX12_write 380 = .ok (.aload_n 0, 1) := dc0 dO_42 (rdB.ch sfx_cX12_write_320 60 rfl (by decide +kernel))
theorem dX12_write_381 : decode cX12_write 381 = .ok (.getfield 148, 3) := dcU2 dO_180 (rdU2.ch sfx_cX12_write_320 61 rfl (by decide +kernel))
theorem sfx_cX12_write_384 : (cX12_write.data.toList.drop 384).take 67 = [21, 4, 16, 26, 96, 21, 9, 96, 46, 182, 2, 168, 132, 9, 1, 167, 255, 229, 42, 29, 182, 2, 165, 42, 180, 2, 159, 172] := by decide +kernel
theorem dX12_write_384 : decode cX12_write 384 = .ok (.iload 4, 2) := dcU1 dO_21 (rdU1.ch sfx_cX12_write_384 0 rfl (by decide +kernel))
theorem dX12_write_386 : decode cX12_write 386 = .ok (.bipush 26, 2) := dcS1 dO_16 (rdS1.ch sfx_cX12_write_384 2 rfl (by decide +kernel))
theorem dX12_write_388 : decode cX12_write 388 = .ok (.iadd, 1) := dc0 dO_96 (rdB.ch sfx_cX12_write_384 4 rfl (by decide +kernel))
theorem dX12_write_389 : decode cX12_write 389 = .ok (.iload 9, 2) := dcU1 dO_21 (rdU1.ch sfx_cX12_write_384 5 rfl (by decide +kernel))
theorem dX12_write_391 : decode cX12_write 391 = .ok (.iadd, 1) := dc0 dO_96 (rdB.ch sfx_cX12_write_384 7 rfl (by decide +kernel))
theorem dX12_write_392 : decode cX12_write 392 = .ok (.iaload, 1) := dc0 dO_46 (rdB.ch sfx_cX12_write_384 8 rfl (by decide +kernel))
theorem dX12_write_393 : decode cX12_write 393 = .ok (.invokevirtual 680, 3) := dcU2 dO_182 (rdU2.ch sfx_cX12_write_384 9 rfl (by decide +kernel))
theorem dX12_write_396 : decode cX12_write 396 = .ok (.iinc 9 1, 3) := dcI dO_132 (rdI.ch sfx_cX12_write_384 12 rfl (by decide +kernel))
theorem dX12_write_399 : decode cX12_write 399 = .ok (.goto (-27), 3) := dcS2 dO_167 (rdS2.ch sfx_cX12_write_384 15 rfl (by decide +kernel))
theorem dX12_write_402 : decode cX12_write 402 = .ok (.aload_n 0, 1) := dc0 dO_42 (rdB.ch sfx_cX12_write_384 18 rfl (by decide +kernel))
theorem dX12_write_403 : decode cX12_write 403 = .ok (.iload_n 3, 1) := dc0 dO_29 (rdB.ch sfx_cX12_write_384 19 rfl (by decide +kernel))
theorem dX12_write_404 : decode cX12_write 404 = .ok (.invokevirtual 677, 3) := dcU2 dO_182 (rdU2.ch sfx_cX12_write_384 20 rfl (by decide +kernel))
theorem dX12_write_407 : decode cX12_write 407 = .ok (.aload_n 0, 1) := dc0 dO_42 (rdB.ch sfx_cX12_write_384 23 rfl (by decide +kernel))
theorem dX12_write_408 : decode cX12_write 408 = .ok (.getfield 671, 3) := dcU2 dO_180 (rdU2.ch sfx_cX12_write_384 24 rfl (by decide +kernel))
theorem dX12_write_411 : decode cX12_write 411 = .ok (.ireturn, 1) := dc0 dO_172 (rdB.ch sfx_cX12_write_384 27 rfl (by decide +kernel))
theorem dX12_wrong_0 : decode cX12_wrong 0 = .ok (.aload_n 0, 1) := dc0 dO_42 (by decide +kernel)
theorem dX12_wrong_1 : decode cX12_wrong 1 = .ok (.getfield 215, 3) := dcU2 dO_180 (by decide +kernel)
theorem dX12_wrong_4 : decode cX12_wrong 4 = .ok (.ifCond .ne 16, 3) := dcS2 dO_154 (by decide +kernel)
theorem dX12_wrong_7 : decode cX12_wrong 7 = .ok (.aload_n 0, 1) := dc0 dO_42 (by decide +kernel)
theorem dX12_wrong_8 : decode cX12_wrong 8 = .ok (.iload_n 1, 1) := dc0 dO_27 (by decide +kernel)
theorem dX12_wrong_9 : decode cX12_wrong 9 = .ok (.putfield 215, 3) := dcU2 dO_181 (by decide +kernel)
theorem dX12_wrong_12 : decode cX12_wrong 12 = .ok (.aload_n 0, 1) := dc0 dO_42 (by decide +kernel)
theorem dX12_wrong_13 : decode cX12_wrong 13 = .ok (.aload_n 0, 1) := dc0 dO_42 (by decide +kernel)
theorem dX12_wrong_14 : decode cX12_wrong 14 = .ok (.getfield 218, 3) := dcU2 dO_180 (by decide +kernel)
theorem dX12_wrong_17 : decode cX12_wrong 17 = .ok (.putfield 221, 3) := dcU2 dO_181 (by decide +kernel)
theorem dX12_wrong_20 : decode cX12_wrong 20 = .ok (.return_, 1) := dc0 dO_177 (by decide +kernel)
end
section
theorem vc_X12_slot_1 {p1 p2 p3 : Int} (h0 : 0 ≤ p1 ∧ p1 ≤ 20) (h1 : 0 ≤ p2 ∧ p2 ≤ 2) (h2 : 0 ≤ p3 ∧ p3 ≤ 9) : ((((2 * p1) + p2) * 10) + p3) = 20 * p1 + 10 * p2 + p3 := by omega
set_option maxRecDepth 4000 in
set_option maxHeartbeats 4000000 in
theorem c_X12_slot {l : Launch} {D : va_G} {c : Nat → ClassId} {H0 : Heap} {sa : Nat × Nat × (Nat → Int32)} {w : mW} {μ : mM} (hw : mWF w) (hT : mT w μ) {p1 : Int} (hp1 : 0 ≤ p1 ∧ p1 ≤ 20) {p2 : Int} (hp2 : 0 ≤ p2 ∧ p2 ≤ 2) {p3 : Int} (hp3 : 0 ≤ p3 ∧ p3 ≤ 9) : sC (gG l D c H0 sa) mX12_slot 1 0 0 [iv p1, iv p2, iv p3] (mk w μ) (qP w μ (fun z => (0 ≤ z ∧ z ≤ 449) ∧ (z = 20 * p1 + 10 * p2 + p3) ∧ True)) := by
  refine sC.of rfl (by decide) (le_t rfl) ?_
  refine mr_lvE (lv' := [(0, iv p1), (1, iv p2), (2, iv p3)]) rfl ?_
  refine mr_iconst (pc := 0) (z := 2) dX12_slot_0 ?_
  refine mr_iload_n (pc := 1) (z := p1) dX12_slot_1 rfl rfl ?_
  refine mr_imul (pc := 2) (x := 2) (y := p1) dX12_slot_2 ?_
  refine mr_iload_n (pc := 3) (z := p2) dX12_slot_3 rfl rfl ?_
  refine mr_iadd (pc := 4) (x := (2 * p1)) (y := p2) dX12_slot_4 ?_
  refine mr_bipush (pc := 5) (z := 10) dX12_slot_5 (by decide) ?_
  refine mr_imul (pc := 7) (x := ((2 * p1) + p2)) (y := 10) dX12_slot_7 ?_
  refine mr_iload_n (pc := 8) (z := p3) dX12_slot_8 rfl rfl ?_
  refine mr_iadd (pc := 9) (x := (((2 * p1) + p2) * 10)) (y := p3) dX12_slot_9 ?_
  exact mr_iretP dX12_slot_10 rfl (le_t rfl) (le_t rfl) ⟨(rW (c := 0) (d := 449) (rAdd (e := 0) (f := 429) (rMulR (n := 10) (e := 0) (f := 420) (rAdd (e := 0) (f := 42) (rMulL (n := 2) (e := 0) (f := 40) hp1 rfl) hp2 rfl) rfl) hp3 rfl) rfl), (vc_X12_slot_1 hp1 hp2 hp3), trivial⟩
theorem vc_X12_sideOf_1 {f_e0 p2 : Int} (h0 : ¬ f_e0 = p2) (h1 : 0 ≤ f_e0 ∧ f_e0 ≤ 9) (h2 : (-2147483648) ≤ p2 ∧ p2 ≤ 2147483647) : (1 : Int) = 0 → f_e0 = p2 := by omega
theorem vc_X12_sideOf_2 {f_e0 p2 : Int} (h0 : ¬ f_e0 = p2) (h1 : 0 ≤ f_e0 ∧ f_e0 ≤ 9) (h2 : (-2147483648) ≤ p2 ∧ p2 ≤ 2147483647) : (1 : Int) = 1 → ¬ f_e0 = p2 := by omega
theorem vc_X12_sideOf_3 {f_e0 p2 : Int} (h0 : f_e0 = p2) (h1 : 0 ≤ f_e0 ∧ f_e0 ≤ 9) (h2 : (-2147483648) ≤ p2 ∧ p2 ≤ 2147483647) : 0 ≤ p2 ∧ p2 ≤ 9 := by omega
theorem vc_X12_sideOf_4 {f_e0 p2 : Int} (h0 : f_e0 = p2) (h1 : 0 ≤ f_e0 ∧ f_e0 ≤ 9) (h2 : 0 ≤ p2 ∧ p2 ≤ 9) : (0 : Int) = 0 → f_e0 = p2 := by omega
theorem vc_X12_sideOf_5 {f_e0 p2 : Int} (h0 : f_e0 = p2) (h1 : 0 ≤ f_e0 ∧ f_e0 ≤ 9) (h2 : 0 ≤ p2 ∧ p2 ≤ 9) : (0 : Int) = 1 → ¬ f_e0 = p2 := by omega
set_option maxRecDepth 4000 in
set_option maxHeartbeats 4000000 in
theorem c_X12_sideOf {l : Launch} {D : va_G} {c : Nat → ClassId} {H0 : Heap} {sa : Nat × Nat × (Nat → Int32)} {w : mW} {μ : mM} (hw : mWF w) (hT : mT w μ) {p1 : Int} (hp1 : 0 ≤ p1 ∧ p1 ≤ 19) {p2 : Int} (hp2 : (-2147483648) ≤ p2 ∧ p2 ≤ 2147483647) {f_e0 : Int} (q_f_e0 : μ 110 ((2 * p1).toNat) = f_e0) : sC (gG l D c H0 sa) mX12_sideOf 1 0 0 [.ref 106, iv p1, iv p2] (mk w μ) (qP w μ (fun z => (0 ≤ z ∧ z ≤ 1) ∧ (z = 0 → f_e0 = p2) ∧ (z = 1 → ¬ f_e0 = p2) ∧ True)) := by
  refine sC.of rfl (by decide) (le_t rfl) ?_
  have ht_f_e0 : (0 ≤ f_e0 ∧ f_e0 ≤ 9) := by rw [← q_f_e0]; exact hT 110 110 (A_110 hw) ((2 * p1).toNat)
  refine mr_lvE (lv' := [(0, .ref 106), (1, iv p1), (2, iv p2)]) rfl ?_
  refine sv_aload_n (pc := 0) dX12_sideOf_0 rfl rfl ?_
  refine gf_X12_7 (pc := 1) dX12_sideOf_1 wF_X12_40 (A_106 hw) hT ?_
  refine mr_iconst (pc := 4) (z := 2) dX12_sideOf_4 ?_
  refine mr_iload_n (pc := 5) (z := p1) dX12_sideOf_5 rfl rfl ?_
  refine mr_imul (pc := 6) (x := 2) (y := p1) dX12_sideOf_6 ?_
  refine lk_110 (pc := 7) dX12_sideOf_7 (A_110 hw) (rIx (n := 40) (rMulL (n := 2) (e := 0) (f := 38) hp1 rfl) rfl) q_f_e0 ?_
  refine mr_iload_n (pc := 8) (z := p2) dX12_sideOf_8 rfl rfl ?_
  refine mr_icmp_ne (pc := 9) (tgt := 16) dX12_sideOf_9 (by decide) (r32 ht_f_e0 rfl) hp2 (fun h5 => ?_) (fun h5 => ?_)
  · refine mr_iconst (pc := 16) (z := 1) dX12_sideOf_16 ?_
    exact mr_iretP dX12_sideOf_17 rfl (le_t rfl) (le_t rfl) ⟨(rW (c := 0) (d := 1) (rR (x := 1)) rfl), (vc_X12_sideOf_1 h5 ht_f_e0 hp2), (vc_X12_sideOf_2 h5 ht_f_e0 hp2), trivial⟩
  have h6 : 0 ≤ p2 ∧ p2 ≤ 9 := (vc_X12_sideOf_3 h5 ht_f_e0 hp2)
  refine mr_iconst (pc := 12) (z := 0) dX12_sideOf_12 ?_
  refine sv_goto (pc := 13) (tgt := 17) dX12_sideOf_13 (by decide) ?_
  exact mr_iretP dX12_sideOf_17 rfl (le_t rfl) (le_t rfl) ⟨(rW (c := 0) (d := 1) (rR (x := 0)) rfl), (vc_X12_sideOf_4 h5 ht_f_e0 h6), (vc_X12_sideOf_5 h5 ht_f_e0 h6), trivial⟩
theorem vc_X12_isAt_2 {f_e0 f_e1 p2 : Int} (h0 : f_e0 = p2) (h1 : 0 ≤ f_e0 ∧ f_e0 ≤ 9) (h2 : 0 ≤ f_e1 ∧ f_e1 ≤ 9) (h3 : 0 ≤ p2 ∧ p2 ≤ 9) : (1 : Int) = 1 → f_e0 = p2 ∨ f_e1 = p2 := by omega
theorem vc_X12_isAt_3 {f_e0 f_e1 p2 : Int} (h0 : f_e0 = p2) (h1 : 0 ≤ f_e0 ∧ f_e0 ≤ 9) (h2 : 0 ≤ f_e1 ∧ f_e1 ≤ 9) (h3 : 0 ≤ p2 ∧ p2 ≤ 9) : (1 : Int) = 0 → ¬ f_e0 = p2 ∧ ¬ f_e1 = p2 := by omega
theorem vc_X12_isAt_4 {f_e0 f_e1 p2 : Int} (h0 : ¬ f_e0 = p2) (h1 : ¬ f_e1 = p2) (h2 : 0 ≤ f_e0 ∧ f_e0 ≤ 9) (h3 : 0 ≤ f_e1 ∧ f_e1 ≤ 9) (h4 : (-2147483648) ≤ p2 ∧ p2 ≤ 2147483647) : (0 : Int) = 1 → f_e0 = p2 ∨ f_e1 = p2 := by omega
theorem vc_X12_isAt_5 {f_e0 f_e1 p2 : Int} (h0 : ¬ f_e0 = p2) (h1 : ¬ f_e1 = p2) (h2 : 0 ≤ f_e0 ∧ f_e0 ≤ 9) (h3 : 0 ≤ f_e1 ∧ f_e1 ≤ 9) (h4 : (-2147483648) ≤ p2 ∧ p2 ≤ 2147483647) : (0 : Int) = 0 → ¬ f_e0 = p2 ∧ ¬ f_e1 = p2 := by omega
theorem vc_X12_isAt_6 {f_e0 f_e1 p2 : Int} (h0 : f_e1 = p2) (h1 : ¬ f_e0 = p2) (h2 : 0 ≤ f_e0 ∧ f_e0 ≤ 9) (h3 : 0 ≤ f_e1 ∧ f_e1 ≤ 9) (h4 : (-2147483648) ≤ p2 ∧ p2 ≤ 2147483647) : 0 ≤ p2 ∧ p2 ≤ 9 := by omega
theorem vc_X12_isAt_7 {f_e0 f_e1 p2 : Int} (h0 : ¬ f_e0 = p2) (h1 : f_e1 = p2) (h2 : 0 ≤ f_e0 ∧ f_e0 ≤ 9) (h3 : 0 ≤ f_e1 ∧ f_e1 ≤ 9) (h4 : 0 ≤ p2 ∧ p2 ≤ 9) : (1 : Int) = 1 → f_e0 = p2 ∨ f_e1 = p2 := by omega
theorem vc_X12_isAt_8 {f_e0 f_e1 p2 : Int} (h0 : ¬ f_e0 = p2) (h1 : f_e1 = p2) (h2 : 0 ≤ f_e0 ∧ f_e0 ≤ 9) (h3 : 0 ≤ f_e1 ∧ f_e1 ≤ 9) (h4 : 0 ≤ p2 ∧ p2 ≤ 9) : (1 : Int) = 0 → ¬ f_e0 = p2 ∧ ¬ f_e1 = p2 := by omega
set_option maxRecDepth 4000 in
set_option maxHeartbeats 4000000 in
theorem c_X12_isAt {l : Launch} {D : va_G} {c : Nat → ClassId} {H0 : Heap} {sa : Nat × Nat × (Nat → Int32)} {w : mW} {μ : mM} (hw : mWF w) (hT : mT w μ) {p1 : Int} (hp1 : 0 ≤ p1 ∧ p1 ≤ 19) {p2 : Int} (hp2 : (-2147483648) ≤ p2 ∧ p2 ≤ 2147483647) {f_e0 : Int} (q_f_e0 : μ 110 ((2 * p1).toNat) = f_e0) {f_e1 : Int} (q_f_e1 : μ 110 (((2 * p1) + 1).toNat) = f_e1) : sC (gG l D c H0 sa) mX12_isAt 1 0 0 [.ref 106, iv p1, iv p2] (mk w μ) (qP w μ (fun z => (0 ≤ z ∧ z ≤ 1) ∧ (z = 1 → f_e0 = p2 ∨ f_e1 = p2) ∧ (z = 0 → ¬ f_e0 = p2 ∧ ¬ f_e1 = p2) ∧ True)) := by
  refine sC.of rfl (by decide) (le_t rfl) ?_
  have ht_f_e0 : (0 ≤ f_e0 ∧ f_e0 ≤ 9) := by rw [← q_f_e0]; exact hT 110 110 (A_110 hw) ((2 * p1).toNat)
  have ht_f_e1 : (0 ≤ f_e1 ∧ f_e1 ≤ 9) := by rw [← q_f_e1]; exact hT 110 110 (A_110 hw) (((2 * p1) + 1).toNat)
  refine mr_lvE (lv' := [(0, .ref 106), (1, iv p1), (2, iv p2)]) rfl ?_
  refine sv_aload_n (pc := 0) dX12_isAt_0 rfl rfl ?_
  refine gf_X12_7 (pc := 1) dX12_isAt_1 wF_X12_40 (A_106 hw) hT ?_
  refine mr_iconst (pc := 4) (z := 2) dX12_isAt_4 ?_
  refine mr_iload_n (pc := 5) (z := p1) dX12_isAt_5 rfl rfl ?_
  refine mr_imul (pc := 6) (x := 2) (y := p1) dX12_isAt_6 ?_
  refine lk_110 (pc := 7) dX12_isAt_7 (A_110 hw) (rIx (n := 40) (rMulL (n := 2) (e := 0) (f := 38) hp1 rfl) rfl) q_f_e0 ?_
  refine mr_iload_n (pc := 8) (z := p2) dX12_isAt_8 rfl rfl ?_
  refine mr_icmp_eq (pc := 9) (tgt := 26) dX12_isAt_9 (by decide) (r32 ht_f_e0 rfl) hp2 (fun h9 => ?_) (fun h9 => ?_)
  · have h10 : 0 ≤ p2 ∧ p2 ≤ 9 := (vc_X12_sideOf_3 h9 ht_f_e0 hp2)
    refine mr_iconst (pc := 26) (z := 1) dX12_isAt_26 ?_
    refine sv_goto (pc := 27) (tgt := 31) dX12_isAt_27 (by decide) ?_
    exact mr_zretP dX12_isAt_31 rfl (rW (c := 0) (d := 1) (rR (x := 1)) rfl) (le_t rfl) (le_t rfl) ⟨(rW (c := 0) (d := 1) (rR (x := 1)) rfl), (vc_X12_isAt_2 h9 ht_f_e0 ht_f_e1 h10), (vc_X12_isAt_3 h9 ht_f_e0 ht_f_e1 h10), trivial⟩
  refine sv_aload_n (pc := 12) dX12_isAt_12 rfl rfl ?_
  refine gf_X12_7 (pc := 13) dX12_isAt_13 wF_X12_40 (A_106 hw) hT ?_
  refine mr_iconst (pc := 16) (z := 2) dX12_isAt_16 ?_
  refine mr_iload_n (pc := 17) (z := p1) dX12_isAt_17 rfl rfl ?_
  refine mr_imul (pc := 18) (x := 2) (y := p1) dX12_isAt_18 ?_
  refine mr_iconst (pc := 19) (z := 1) dX12_isAt_19 ?_
  refine mr_iadd (pc := 20) (x := (2 * p1)) (y := 1) dX12_isAt_20 ?_
  refine lk_110 (pc := 21) dX12_isAt_21 (A_110 hw) (rIx (n := 40) (rAdd (e := 1) (f := 39) (rMulL (n := 2) (e := 0) (f := 38) hp1 rfl) (rR (x := 1)) rfl) rfl) q_f_e1 ?_
  refine mr_iload_n (pc := 22) (z := p2) dX12_isAt_22 rfl rfl ?_
  refine mr_icmp_ne (pc := 23) (tgt := 30) dX12_isAt_23 (by decide) (r32 ht_f_e1 rfl) hp2 (fun h12 => ?_) (fun h12 => ?_)
  · refine mr_iconst (pc := 30) (z := 0) dX12_isAt_30 ?_
    exact mr_zretP dX12_isAt_31 rfl (rW (c := 0) (d := 1) (rR (x := 0)) rfl) (le_t rfl) (le_t rfl) ⟨(rW (c := 0) (d := 1) (rR (x := 0)) rfl), (vc_X12_isAt_4 h9 h12 ht_f_e0 ht_f_e1 hp2), (vc_X12_isAt_5 h9 h12 ht_f_e0 ht_f_e1 hp2), trivial⟩
  have h13 : 0 ≤ p2 ∧ p2 ≤ 9 := (vc_X12_isAt_6 h12 h9 ht_f_e0 ht_f_e1 hp2)
  refine mr_iconst (pc := 26) (z := 1) dX12_isAt_26 ?_
  refine sv_goto (pc := 27) (tgt := 31) dX12_isAt_27 (by decide) ?_
  exact mr_zretP dX12_isAt_31 rfl (rW (c := 0) (d := 1) (rR (x := 1)) rfl) (le_t rfl) (le_t rfl) ⟨(rW (c := 0) (d := 1) (rR (x := 1)) rfl), (vc_X12_isAt_7 h9 h12 ht_f_e0 ht_f_e1 h13), (vc_X12_isAt_8 h9 h12 ht_f_e0 ht_f_e1 h13), trivial⟩
set_option maxRecDepth 4000 in
set_option maxHeartbeats 4000000 in
theorem c_X12_partnerOf {l : Launch} {D : va_G} {c : Nat → ClassId} {H0 : Heap} {sa : Nat × Nat × (Nat → Int32)} {w : mW} {μ : mM} (hw : mWF w) (hT : mT w μ) {p1 : Int} (hp1 : 0 ≤ p1 ∧ p1 ≤ 19) {p2 : Int} (hp2 : (-2147483648) ≤ p2 ∧ p2 ≤ 2147483647) : sC (gG l D c H0 sa) mX12_partnerOf 2 0 0 [.ref 106, iv p1, iv p2] (mk w μ) (qP w μ (fun z => (0 ≤ z ∧ z ≤ 9) ∧ True)) := by
  refine sC.of rfl (by decide) (le_t rfl) ?_
  refine mr_lvE (lv' := [(0, .ref 106), (1, iv p1), (2, iv p2)]) rfl ?_
  refine sv_aload_n (pc := 0) dX12_partnerOf_0 rfl rfl ?_
  refine gf_X12_7 (pc := 1) dX12_partnerOf_1 wF_X12_40 (A_106 hw) hT ?_
  refine mr_iconst (pc := 4) (z := 2) dX12_partnerOf_4 ?_
  refine mr_iload_n (pc := 5) (z := p1) dX12_partnerOf_5 rfl rfl ?_
  refine mr_imul (pc := 6) (x := 2) (y := p1) dX12_partnerOf_6 ?_
  refine mr_iconst (pc := 7) (z := 1) dX12_partnerOf_7 ?_
  refine mr_iadd (pc := 8) (x := (2 * p1)) (y := 1) dX12_partnerOf_8 ?_
  refine sv_aload_n (pc := 9) dX12_partnerOf_9 rfl rfl ?_
  refine mr_iload_n (pc := 10) (z := p1) dX12_partnerOf_10 rfl rfl ?_
  refine mr_iload_n (pc := 11) (z := p2) dX12_partnerOf_11 rfl rfl ?_
  obtain ⟨z1, q2⟩ : ∃ z, μ 110 ((2 * p1).toNat) = z := ⟨_, rfl⟩
  have h3 : (0 ≤ z1 ∧ z1 ≤ 9) := by rw [← q2]; exact hT 110 110 (A_110 hw) ((2 * p1).toNat)
  refine mr_cVP (pc := 12) (c_X12_sideOf hw hT hp1 hp2 q2) (gOk _ _ _ _ _) dX12_partnerOf_12 (tX12_sideOf _ _ _ _ _) ⟨wV_X12_sideOf, wL_X12_sideOf⟩ wM_X12_542 (gCX12 _ _ _ _ _) rfl (A_106 hw) rfl ⟨le_t rfl, le_t rfl⟩ ⟨le_t rfl, le_t rfl⟩ rfl (le_t rfl) fun z8 h7 => ?_
  refine mr_isub (pc := 15) (x := ((2 * p1) + 1)) (y := z8) dX12_partnerOf_15 ?_
  refine la_110 (pc := 16) dX12_partnerOf_16 (A_110 hw) hT (rIx (n := 40) (rSub (e := 0) (f := 39) (rAdd (e := 1) (f := 39) (rMulL (n := 2) (e := 0) (f := 38) hp1 rfl) (rR (x := 1)) rfl) h7.1 rfl) rfl) fun z9 q10 h11 => ?_
  exact mr_iretP dX12_partnerOf_17 rfl (le_t rfl) (le_t rfl) ⟨h11, trivial⟩
theorem vc_X12_unlike_7 {z1050 : Int} (h0 : 0 ≤ z1050) (h1 : ¬ z1050 = 0) (h2 : (-2147483648) ≤ z1050 ∧ z1050 ≤ 2147483647) : 0 ≤ z1050 ∧ z1050 ≤ 2147483647 := by omega
theorem vc_X12_unlike_8 {z1050 : Int} (h0 : z1050 < 0) (h1 : ¬ z1050 = 0) (h2 : (-2147483648) ≤ z1050 ∧ z1050 ≤ 2147483647) : (-2147483648) ≤ z1050 ∧ z1050 ≤ (-1) := by omega
theorem vc_X12_unlike_9 {z936 : Int} (h0 : z936 = 5) (h1 : 0 ≤ z936 ∧ z936 ≤ 9) : 5 ≤ z936 ∧ z936 ≤ 5 := by omega
theorem vc_X12_unlike_10 {p1 p3 p6 z1062 z1069 z1074 : Int} (h0 : z1074 = (((20 * p3) + (10 * z1069)) + p6)) (h1 : (z1069 = 0 → z1062 = p1)) (h2 : (z1069 = 1 → ¬ z1062 = p1)) (h3 : 0 ≤ p1 ∧ p1 ≤ 9) (h4 : 0 ≤ p3 ∧ p3 ≤ 19) (h5 : 0 ≤ p6 ∧ p6 ≤ 9) (h6 : 0 ≤ z1062 ∧ z1062 ≤ 9) (h7 : 0 ≤ z1069 ∧ z1069 ≤ 1) (h8 : 0 ≤ z1074 ∧ z1074 ≤ 449) : 0 ≤ z1074 ∧ z1074 ≤ 399 := by omega
theorem vc_X12_unlike_11 {p1 p3 p5 p6 z1069 z1074 z1079 z1086 z1091 : Int} (h0 : z1091 = (((20 * p5) + (10 * z1086)) + p6)) (h1 : z1074 = (((20 * p3) + (10 * z1069)) + p6)) (h2 : (z1086 = 0 → z1079 = p1)) (h3 : (z1086 = 1 → ¬ z1079 = p1)) (h4 : 0 ≤ p1 ∧ p1 ≤ 9) (h5 : 0 ≤ p3 ∧ p3 ≤ 19) (h6 : 0 ≤ p5 ∧ p5 ≤ 19) (h7 : 0 ≤ p6 ∧ p6 ≤ 9) (h8 : 0 ≤ z1069 ∧ z1069 ≤ 1) (h9 : 0 ≤ z1074 ∧ z1074 ≤ 399) (h10 : 0 ≤ z1079 ∧ z1079 ≤ 9) (h11 : 0 ≤ z1086 ∧ z1086 ≤ 1) (h12 : 0 ≤ z1091 ∧ z1091 ≤ 449) : 0 ≤ z1091 ∧ z1091 ≤ 399 := by omega
theorem vc_X12_unlike_12 {z936 : Int} (h0 : z936 = 6) (h1 : ¬ z936 = 4) (h2 : 0 ≤ z936 ∧ z936 ≤ 9) : 6 ≤ z936 ∧ z936 ≤ 6 := by omega
theorem vc_X12_unlike_13 {z936 : Int} (h0 : z936 = 4) (h1 : 0 ≤ z936 ∧ z936 ≤ 9) : 4 ≤ z936 ∧ z936 ≤ 4 := by omega
theorem vc_X12_unlike_16 {z936 : Int} (h0 : z936 = 6) (h1 : 4 ≤ z936 ∧ z936 ≤ 4) : False := by omega
theorem vc_X12_unlike_17 {z936 : Int} (h0 : z936 = 3) (h1 : 0 ≤ z936 ∧ z936 ≤ 9) : 3 ≤ z936 ∧ z936 ≤ 3 := by omega
theorem vc_X12_unlike_18 {z936 : Int} (h0 : z936 = 2) (h1 : 0 ≤ z936 ∧ z936 ≤ 9) : 2 ≤ z936 ∧ z936 ≤ 2 := by omega
theorem vc_X12_unlike_20 {z936 : Int} (h0 : z936 = 1) (h1 : 0 ≤ z936 ∧ z936 ≤ 9) : 1 ≤ z936 ∧ z936 ≤ 1 := by omega
theorem vc_X12_unlike_21 {z939 : Int} (h0 : z939 ≤ 0) (h1 : 0 ≤ z939 ∧ z939 ≤ 20) : 0 ≤ z939 ∧ z939 ≤ 0 := by omega
theorem vc_X12_unlike_22 {z939 : Int} (h0 : 0 < z939) (h1 : 0 ≤ z939 ∧ z939 ≤ 20) : 1 ≤ z939 ∧ z939 ≤ 20 := by omega
set_option maxRecDepth 4000 in
set_option maxHeartbeats 4000000 in
theorem c_X12_unlike {l : Launch} {D : va_G} {c : Nat → ClassId} {H0 : Heap} {sa : Nat × Nat × (Nat → Int32)} {w : mW} {μ : mM} (hw : mWF w) (hT : mT w μ) {p1 : Int} (hp1 : 0 ≤ p1 ∧ p1 ≤ 9) {p2 : Int} (hp2 : 0 ≤ p2 ∧ p2 ≤ 2099) {p3 : Int} (hp3 : 0 ≤ p3 ∧ p3 ≤ 19) {p4 : Int} (hp4 : 0 ≤ p4 ∧ p4 ≤ 2099) {p5 : Int} (hp5 : 0 ≤ p5 ∧ p5 ≤ 19) {p6 : Int} (hp6 : 0 ≤ p6 ∧ p6 ≤ 9) : sC (gG l D c H0 sa) mX12_unlike 2 0 0 [.ref 106, iv p1, iv p2, iv p3, iv p4, iv p5, iv p6] (mk w μ) (qP w μ (fun z => ((-9) ≤ z ∧ z ≤ 9) ∧ True)) := by
  refine sC.of rfl (by decide) (le_t rfl) ?_
  refine mr_lvE (lv' := [(0, .ref 106), (1, iv p1), (2, iv p2), (3, iv p3), (4, iv p4), (5, iv p5), (6, iv p6)]) rfl ?_
  refine mr_iconst (pc := 0) (z := 0) dX12_unlike_0 ?_
  refine mr_istore (pc := 1) (lv' := [(7, iv 0), (0, .ref 106), (1, iv p1), (2, iv p2), (3, iv p3), (4, iv p4), (5, iv p5), (6, iv p6)]) dX12_unlike_1 (by decide) rfl ?_
  have L926 : ∀ (nL926 : Nat) (z925 : Int), True → (0 ≤ z925 ∧ z925 ≤ 6) → (7 - z925) < (nL926 : Int) → sV (gG l D c H0 sa) mX12_unlike (sRm 2 0 0) (sZ (gG l D c H0 sa) 0 0 (qP w μ (fun z => ((-9) ≤ z ∧ z ≤ 9) ∧ True))) 3 [(0, .ref 106), (1, iv p1), (2, iv p2), (3, iv p3), (4, iv p4), (5, iv p5), (6, iv p6), (7, iv z925)] [] (mk w μ) 0 0 := by
    intro nL926
    induction nL926 with
    | zero => intro z925 _ h927 h931; exact ((vc_X12_same_14 h931 h927)).elim
    | succ nL926 ih932 =>
      intro z925 _ h927 h931
      refine mr_iload (pc := 3) (z := z925) dX12_unlike_3 rfl ?_
      refine mr_bipush (pc := 5) (z := 6) dX12_unlike_5 (by decide) ?_
      refine mr_icmp_ge (pc := 7) (tgt := 284) dX12_unlike_7 (by decide) (r32 h927 rfl) (r32 (rR (x := 6)) rfl) (fun h933 => ?_) (fun h933 => ?_)
      · have h934 : 6 ≤ z925 ∧ z925 ≤ 6 := (vc_X12_same_15 h933 h927)
        refine mr_iconst (pc := 284) (z := 0) dX12_unlike_284 ?_
        exact mr_iretP dX12_unlike_285 rfl (le_t rfl) (le_t rfl) ⟨(rW (c := (-9)) (d := 9) (rR (x := 0)) rfl), trivial⟩
      have h935 : 0 ≤ z925 ∧ z925 ≤ 5 := (vc_X12_same_40 h933 h927)
      refine sv_aload_n (pc := 10) dX12_unlike_10 rfl rfl ?_
      refine gf_X12_83 (pc := 11) dX12_unlike_11 wF_X12_451 (A_106 hw) hT ?_
      refine mr_bipush (pc := 14) (z := 6) dX12_unlike_14 (by decide) ?_
      refine mr_iload_n (pc := 16) (z := p1) dX12_unlike_16 rfl rfl ?_
      refine mr_imul (pc := 17) (x := 6) (y := p1) dX12_unlike_17 ?_
      refine mr_iload (pc := 18) (z := z925) dX12_unlike_18 rfl ?_
      refine mr_iadd (pc := 20) (x := (6 * p1)) (y := z925) dX12_unlike_20 ?_
      refine la_163 (pc := 21) dX12_unlike_21 (A_163 hw) hT (rIx (n := 60) (rAdd (e := 0) (f := 59) (rMulL (n := 6) (e := 0) (f := 54) hp1 rfl) h935 rfl) rfl) fun z936 q937 h938 => ?_
      refine mr_istore (pc := 22) (lv' := [(8, iv z936), (0, .ref 106), (1, iv p1), (2, iv p2), (3, iv p3), (4, iv p4), (5, iv p5), (6, iv p6), (7, iv z925)]) dX12_unlike_22 (by decide) rfl ?_
      refine mr_iconst (pc := 24) (z := 0) dX12_unlike_24 ?_
      refine mr_istore (pc := 25) (lv' := [(9, iv 0), (8, iv z936), (0, .ref 106), (1, iv p1), (2, iv p2), (3, iv p3), (4, iv p4), (5, iv p5), (6, iv p6), (7, iv z925)]) dX12_unlike_25 (by decide) rfl ?_
      refine mr_bipush (pc := 27) (z := 40) dX12_unlike_27 (by decide) ?_
      refine mr_iload_n (pc := 29) (z := p2) dX12_unlike_29 rfl rfl ?_
      refine mr_imul (pc := 30) (x := 40) (y := p2) dX12_unlike_30 ?_
      refine mr_istore (pc := 31) (lv' := [(10, iv (40 * p2)), (9, iv 0), (8, iv z936), (0, .ref 106), (1, iv p1), (2, iv p2), (3, iv p3), (4, iv p4), (5, iv p5), (6, iv p6), (7, iv z925)]) dX12_unlike_31 (by decide) rfl ?_
      refine mr_bipush (pc := 33) (z := 40) dX12_unlike_33 (by decide) ?_
      refine mr_iload (pc := 35) (z := p4) dX12_unlike_35 rfl ?_
      refine mr_imul (pc := 37) (x := 40) (y := p4) dX12_unlike_37 ?_
      refine mr_istore (pc := 38) (lv' := [(11, iv (40 * p4)), (10, iv (40 * p2)), (9, iv 0), (8, iv z936), (0, .ref 106), (1, iv p1), (2, iv p2), (3, iv p3), (4, iv p4), (5, iv p5), (6, iv p6), (7, iv z925)]) dX12_unlike_38 (by decide) rfl ?_
      refine sv_aload_n (pc := 40) dX12_unlike_40 rfl rfl ?_
      refine gf_X12_32 (pc := 41) dX12_unlike_41 wF_X12_148 (A_106 hw) hT ?_
      refine mr_iload (pc := 44) (z := (40 * p2)) dX12_unlike_44 rfl ?_
      refine mr_iconst (pc := 46) (z := 4) dX12_unlike_46 ?_
      refine mr_iadd (pc := 47) (x := (40 * p2)) (y := 4) dX12_unlike_47 ?_
      refine la_126 (pc := 48) dX12_unlike_48 (A_126 hw) hT (rIx (n := 84000) (rAdd (e := 4) (f := 83964) (rMulL (n := 40) (e := 0) (f := 83960) hp2 rfl) (rR (x := 4)) rfl) rfl) fun z939 q940 h941 => ?_
      have h942 : 0 ≤ z939 ∧ z939 ≤ 20 := h941.2.2.1 (vc_X12_same_33 hp2)
      have J959 : ∀ (z957 : Int), ((0 ≤ z957 ∧ z957 ≤ 1)) → sV (gG l D c H0 sa) mX12_unlike (sRm 2 0 0) (sZ (gG l D c H0 sa) 0 0 (qP w μ (fun z => ((-9) ≤ z ∧ z ≤ 9) ∧ True))) 92 [(0, .ref 106), (1, iv p1), (2, iv p2), (3, iv p3), (4, iv p4), (5, iv p5), (6, iv p6), (7, iv z925), (8, iv z936), (9, iv 0), (10, iv (40 * p2)), (11, iv (40 * p4))] [iv z957] (mk w μ) 0 0 := by
        intro z957 h958
        refine mr_istore (pc := 92) (lv' := [(12, iv z957), (0, .ref 106), (1, iv p1), (2, iv p2), (3, iv p3), (4, iv p4), (5, iv p5), (6, iv p6), (7, iv z925), (8, iv z936), (9, iv 0), (10, iv (40 * p2)), (11, iv (40 * p4))]) dX12_unlike_92 (by decide) rfl ?_
        refine mr_iload (pc := 94) (z := z936) dX12_unlike_94 rfl ?_
        refine mr_iconst (pc := 96) (z := 1) dX12_unlike_96 ?_
        have J971 : ∀ (z969 : Int), (((-2147483648) ≤ z969 ∧ z969 ≤ 2147483647)) → sV (gG l D c H0 sa) mX12_unlike (sRm 2 0 0) (sZ (gG l D c H0 sa) 0 0 (qP w μ (fun z => ((-9) ≤ z ∧ z ≤ 9) ∧ True))) 121 [(0, .ref 106), (1, iv p1), (2, iv p2), (3, iv p3), (4, iv p4), (5, iv p5), (6, iv p6), (7, iv z925), (8, iv z936), (9, iv z969), (10, iv (40 * p2)), (11, iv (40 * p4)), (12, iv z957)] [] (mk w μ) 0 0 := by
          intro z969 h970
          refine mr_iload (pc := 121) (z := z936) dX12_unlike_121 rfl ?_
          refine mr_iconst (pc := 123) (z := 2) dX12_unlike_123 ?_
          have J979 : ∀ (z977 : Int), (((-2147483648) ≤ z977 ∧ z977 ≤ 2147483647)) → sV (gG l D c H0 sa) mX12_unlike (sRm 2 0 0) (sZ (gG l D c H0 sa) 0 0 (qP w μ (fun z => ((-9) ≤ z ∧ z ≤ 9) ∧ True))) 148 [(0, .ref 106), (1, iv p1), (2, iv p2), (3, iv p3), (4, iv p4), (5, iv p5), (6, iv p6), (7, iv z925), (8, iv z936), (9, iv z977), (10, iv (40 * p2)), (11, iv (40 * p4)), (12, iv z957)] [] (mk w μ) 0 0 := by
            intro z977 h978
            refine mr_iload (pc := 148) (z := z936) dX12_unlike_148 rfl ?_
            refine mr_iconst (pc := 150) (z := 3) dX12_unlike_150 ?_
            have J991 : ∀ (z989 : Int), (((-2147483648) ≤ z989 ∧ z989 ≤ 2147483647)) → sV (gG l D c H0 sa) mX12_unlike (sRm 2 0 0) (sZ (gG l D c H0 sa) 0 0 (qP w μ (fun z => ((-9) ≤ z ∧ z ≤ 9) ∧ True))) 175 [(0, .ref 106), (1, iv p1), (2, iv p2), (3, iv p3), (4, iv p4), (5, iv p5), (6, iv p6), (7, iv z925), (8, iv z936), (9, iv z989), (10, iv (40 * p2)), (11, iv (40 * p4)), (12, iv z957)] [] (mk w μ) 0 0 := by
              intro z989 h990
              refine mr_iload (pc := 175) (z := z936) dX12_unlike_175 rfl ?_
              refine mr_iconst (pc := 177) (z := 4) dX12_unlike_177 ?_
              have J1014 : ∀ (z1012 : Int), (((-2147483648) ≤ z1012 ∧ z1012 ≤ 2147483647)) → sV (gG l D c H0 sa) mX12_unlike (sRm 2 0 0) (sZ (gG l D c H0 sa) 0 0 (qP w μ (fun z => ((-9) ≤ z ∧ z ≤ 9) ∧ True))) 214 [(0, .ref 106), (1, iv p1), (2, iv p2), (3, iv p3), (4, iv p4), (5, iv p5), (6, iv p6), (7, iv z925), (8, iv z936), (9, iv z1012)] [] (mk w μ) 0 0 := by
                intro z1012 h1013
                refine mr_iload (pc := 214) (z := z936) dX12_unlike_214 rfl ?_
                refine mr_iconst (pc := 216) (z := 5) dX12_unlike_216 ?_
                have J1052 : ∀ (z1050 : Int), (((-2147483648) ≤ z1050 ∧ z1050 ≤ 2147483647)) → sV (gG l D c H0 sa) mX12_unlike (sRm 2 0 0) (sZ (gG l D c H0 sa) 0 0 (qP w μ (fun z => ((-9) ≤ z ∧ z ≤ 9) ∧ True))) 259 [(0, .ref 106), (1, iv p1), (2, iv p2), (3, iv p3), (4, iv p4), (5, iv p5), (6, iv p6), (7, iv z925), (8, iv z936), (9, iv z1050)] [] (mk w μ) 0 0 := by
                  intro z1050 h1051
                  refine mr_iload (pc := 259) (z := z1050) dX12_unlike_259 rfl ?_
                  refine mr_if_eq (pc := 261) (tgt := 278) dX12_unlike_261 (by decide) h1051 (fun h1053 => ?_) (fun h1053 => ?_)
                  · have h1054 : 0 ≤ z1050 ∧ z1050 ≤ 0 := (vc_X12_mask_1 h1053 h1051)
                    refine mr_iinc (pc := 278) (lv' := [(7, iv (z925 + 1)), (0, .ref 106), (1, iv p1), (2, iv p2), (3, iv p3), (4, iv p4), (5, iv p5), (6, iv p6), (8, iv z936), (9, iv z1050)]) dX12_unlike_278 rfl (by decide) rfl ?_
                    refine sv_goto (pc := 281) (tgt := 3) dX12_unlike_281 (by decide) ?_
                    refine mr_lvS (lv' := [(0, .ref 106), (1, iv p1), (2, iv p2), (3, iv p3), (4, iv p4), (5, iv p5), (6, iv p6), (7, iv (z925 + 1))]) (List.forall_mem_cons.mpr ⟨rfl, List.forall_mem_cons.mpr ⟨rfl, List.forall_mem_cons.mpr ⟨rfl, List.forall_mem_cons.mpr ⟨rfl, List.forall_mem_cons.mpr ⟨rfl, List.forall_mem_cons.mpr ⟨rfl, List.forall_mem_cons.mpr ⟨rfl, List.forall_mem_cons.mpr ⟨rfl, fun _ h => absurd h List.not_mem_nil⟩⟩⟩⟩⟩⟩⟩⟩) ?_
                    exact ih932 (z925 + 1) trivial (rW (c := 0) (d := 6) (rAdd (e := 1) (f := 6) h935 (rR (x := 1)) rfl) rfl) (vc_X12_same_42 (nS h931) h933 h935)
                  refine mr_iload (pc := 264) (z := z1050) dX12_unlike_264 rfl ?_
                  refine mr_if_ge (pc := 266) (tgt := 274) dX12_unlike_266 (by decide) h1051 (fun h1057 => ?_) (fun h1057 => ?_)
                  · have h1058 : 0 ≤ z1050 ∧ z1050 ≤ 2147483647 := (vc_X12_unlike_7 h1057 h1053 h1051)
                    refine mr_iload (pc := 274) (z := z936) dX12_unlike_274 rfl ?_
                    refine mr_ineg (pc := 276) dX12_unlike_276 ?_
                    refine mr_negS ?_
                    exact mr_iretP dX12_unlike_277 rfl (le_t rfl) (le_t rfl) ⟨(rW (c := (-9)) (d := 9) (rSub (e := (-9)) (f := 0) (rR (x := 0)) h938 rfl) rfl), trivial⟩
                  have h1059 : (-2147483648) ≤ z1050 ∧ z1050 ≤ (-1) := (vc_X12_unlike_8 h1057 h1053 h1051)
                  refine mr_iload (pc := 269) (z := z936) dX12_unlike_269 rfl ?_
                  refine sv_goto (pc := 271) (tgt := 277) dX12_unlike_271 (by decide) ?_
                  exact mr_iretP dX12_unlike_277 rfl (le_t rfl) (le_t rfl) ⟨(rW (c := (-9)) (d := 9) h938 rfl), trivial⟩
                refine mr_icmp_ne (pc := 217) (tgt := 259) dX12_unlike_217 (by decide) (r32 h938 rfl) (r32 (rR (x := 5)) rfl) (fun h1060 => ?_) (fun h1060 => ?_)
                · exact J1052 z1012 h1013
                have h1061 : 5 ≤ z936 ∧ z936 ≤ 5 := (vc_X12_unlike_9 h1060 h938)
                refine sv_aload_n (pc := 220) dX12_unlike_220 rfl rfl ?_
                refine gf_X12_74 (pc := 221) dX12_unlike_221 wF_X12_424 (A_106 hw) hT ?_
                refine mr_iload_n (pc := 224) (z := p3) dX12_unlike_224 rfl rfl ?_
                refine sv_aload_n (pc := 225) dX12_unlike_225 rfl rfl ?_
                refine mr_iload_n (pc := 226) (z := p3) dX12_unlike_226 rfl rfl ?_
                refine mr_iload_n (pc := 227) (z := p1) dX12_unlike_227 rfl rfl ?_
                obtain ⟨z1062, q1063⟩ : ∃ z, μ 110 ((2 * p3).toNat) = z := ⟨_, rfl⟩
                have h1064 : (0 ≤ z1062 ∧ z1062 ≤ 9) := by rw [← q1063]; exact hT 110 110 (A_110 hw) ((2 * p3).toNat)
                refine mr_cVP (pc := 228) (c_X12_sideOf hw hT hp3 (rW (c := (-2147483648)) (d := 2147483647) hp1 rfl) q1063) (gOk _ _ _ _ _) dX12_unlike_228 (tX12_sideOf _ _ _ _ _) ⟨wV_X12_sideOf, wL_X12_sideOf⟩ wM_X12_542 (gCX12 _ _ _ _ _) rfl (A_106 hw) rfl ⟨le_t rfl, le_t rfl⟩ ⟨le_t rfl, le_t rfl⟩ rfl (le_t rfl) fun z1069 h1068 => ?_
                refine mr_iload (pc := 231) (z := p6) dX12_unlike_231 rfl ?_
                refine mr_cSP (pc := 233) (c_X12_slot hw hT (rW (c := 0) (d := 20) hp3 rfl) (rW (c := 0) (d := 2) h1068.1 rfl) hp6) (gOk _ _ _ _ _) dX12_unlike_233 (tX12_slot _ _ _ _ _) wS_X12_slot wM_X12_545 ⟨le_t rfl, le_t rfl⟩ ⟨le_t rfl, le_t rfl⟩ rfl (le_t rfl) fun z1074 h1073 => ?_
                have h1075 : 0 ≤ z1074 ∧ z1074 ≤ 399 := (vc_X12_unlike_10 h1073.2.1 h1068.2.1 h1068.2.2.1 hp1 hp3 hp6 h1064 h1068.1 h1073.1)
                refine la_154 (pc := 236) dX12_unlike_236 (A_154 hw) hT (rIx (n := 400) h1075 rfl) fun z1076 q1077 h1078 => ?_
                refine sv_aload_n (pc := 237) dX12_unlike_237 rfl rfl ?_
                refine gf_X12_74 (pc := 238) dX12_unlike_238 wF_X12_424 (A_106 hw) hT ?_
                refine mr_iload (pc := 241) (z := p5) dX12_unlike_241 rfl ?_
                refine sv_aload_n (pc := 243) dX12_unlike_243 rfl rfl ?_
                refine mr_iload (pc := 244) (z := p5) dX12_unlike_244 rfl ?_
                refine mr_iload_n (pc := 246) (z := p1) dX12_unlike_246 rfl rfl ?_
                obtain ⟨z1079, q1080⟩ : ∃ z, μ 110 ((2 * p5).toNat) = z := ⟨_, rfl⟩
                have h1081 : (0 ≤ z1079 ∧ z1079 ≤ 9) := by rw [← q1080]; exact hT 110 110 (A_110 hw) ((2 * p5).toNat)
                refine mr_cVP (pc := 247) (c_X12_sideOf hw hT hp5 (rW (c := (-2147483648)) (d := 2147483647) hp1 rfl) q1080) (gOk _ _ _ _ _) dX12_unlike_247 (tX12_sideOf _ _ _ _ _) ⟨wV_X12_sideOf, wL_X12_sideOf⟩ wM_X12_542 (gCX12 _ _ _ _ _) rfl (A_106 hw) rfl ⟨le_t rfl, le_t rfl⟩ ⟨le_t rfl, le_t rfl⟩ rfl (le_t rfl) fun z1086 h1085 => ?_
                refine mr_iload (pc := 250) (z := p6) dX12_unlike_250 rfl ?_
                refine mr_cSP (pc := 252) (c_X12_slot hw hT (rW (c := 0) (d := 20) hp5 rfl) (rW (c := 0) (d := 2) h1085.1 rfl) hp6) (gOk _ _ _ _ _) dX12_unlike_252 (tX12_slot _ _ _ _ _) wS_X12_slot wM_X12_545 ⟨le_t rfl, le_t rfl⟩ ⟨le_t rfl, le_t rfl⟩ rfl (le_t rfl) fun z1091 h1090 => ?_
                have h1092 : 0 ≤ z1091 ∧ z1091 ≤ 399 := (vc_X12_unlike_11 h1090.2.1 h1073.2.1 h1085.2.1 h1085.2.2.1 hp1 hp3 hp5 hp6 h1068.1 h1075 h1081 h1085.1 h1090.1)
                refine la_154 (pc := 255) dX12_unlike_255 (A_154 hw) hT (rIx (n := 400) h1092 rfl) fun z1093 q1094 h1095 => ?_
                refine mr_isub (pc := 256) (x := z1076) (y := z1093) dX12_unlike_256 ?_
                refine mr_istore (pc := 257) (lv' := [(9, iv (z1076 - z1093)), (0, .ref 106), (1, iv p1), (2, iv p2), (3, iv p3), (4, iv p4), (5, iv p5), (6, iv p6), (7, iv z925), (8, iv z936)]) dX12_unlike_257 (by decide) rfl ?_
                refine mr_lvS (lv' := [(0, .ref 106), (1, iv p1), (2, iv p2), (3, iv p3), (4, iv p4), (5, iv p5), (6, iv p6), (7, iv z925), (8, iv z936), (9, iv (z1076 - z1093))]) (List.forall_mem_cons.mpr ⟨rfl, List.forall_mem_cons.mpr ⟨rfl, List.forall_mem_cons.mpr ⟨rfl, List.forall_mem_cons.mpr ⟨rfl, List.forall_mem_cons.mpr ⟨rfl, List.forall_mem_cons.mpr ⟨rfl, List.forall_mem_cons.mpr ⟨rfl, List.forall_mem_cons.mpr ⟨rfl, List.forall_mem_cons.mpr ⟨rfl, List.forall_mem_cons.mpr ⟨rfl, fun _ h => absurd h List.not_mem_nil⟩⟩⟩⟩⟩⟩⟩⟩⟩⟩) ?_
                exact J1052 (z1076 - z1093) (rW (c := (-2147483648)) (d := 2147483647) (rSub (e := (-2000000000)) (f := 2000000000) h1078 h1095 rfl) rfl)
              refine mr_icmp_ne (pc := 178) (tgt := 186) dX12_unlike_178 (by decide) (r32 h938 rfl) (r32 (rR (x := 4)) rfl) (fun h1096 => ?_) (fun h1096 => ?_)
              · refine mr_iload (pc := 186) (z := z936) dX12_unlike_186 rfl ?_
                refine mr_bipush (pc := 188) (z := 6) dX12_unlike_188 (by decide) ?_
                refine mr_icmp_ne (pc := 190) (tgt := 214) dX12_unlike_190 (by decide) (r32 h938 rfl) (r32 (rR (x := 6)) rfl) (fun h1097 => ?_) (fun h1097 => ?_)
                · refine mr_lvS (lv' := [(0, .ref 106), (1, iv p1), (2, iv p2), (3, iv p3), (4, iv p4), (5, iv p5), (6, iv p6), (7, iv z925), (8, iv z936), (9, iv z989)]) (List.forall_mem_cons.mpr ⟨rfl, List.forall_mem_cons.mpr ⟨rfl, List.forall_mem_cons.mpr ⟨rfl, List.forall_mem_cons.mpr ⟨rfl, List.forall_mem_cons.mpr ⟨rfl, List.forall_mem_cons.mpr ⟨rfl, List.forall_mem_cons.mpr ⟨rfl, List.forall_mem_cons.mpr ⟨rfl, List.forall_mem_cons.mpr ⟨rfl, List.forall_mem_cons.mpr ⟨rfl, fun _ h => absurd h List.not_mem_nil⟩⟩⟩⟩⟩⟩⟩⟩⟩⟩) ?_
                  exact J1014 z989 h990
                have h1098 : 6 ≤ z936 ∧ z936 ≤ 6 := (vc_X12_unlike_12 h1097 h1096 h938)
                refine sv_aload_n (pc := 193) dX12_unlike_193 rfl rfl ?_
                refine gf_X12_32 (pc := 194) dX12_unlike_194 wF_X12_148 (A_106 hw) hT ?_
                refine mr_iload (pc := 197) (z := (40 * p2)) dX12_unlike_197 rfl ?_
                refine mr_iconst (pc := 199) (z := 3) dX12_unlike_199 ?_
                refine mr_iadd (pc := 200) (x := (40 * p2)) (y := 3) dX12_unlike_200 ?_
                refine la_126 (pc := 201) dX12_unlike_201 (A_126 hw) hT (rIx (n := 84000) (rAdd (e := 3) (f := 83963) (rMulL (n := 40) (e := 0) (f := 83960) hp2 rfl) (rR (x := 3)) rfl) rfl) fun z1099 q1100 h1101 => ?_
                refine sv_aload_n (pc := 202) dX12_unlike_202 rfl rfl ?_
                refine gf_X12_32 (pc := 203) dX12_unlike_203 wF_X12_148 (A_106 hw) hT ?_
                refine mr_iload (pc := 206) (z := (40 * p4)) dX12_unlike_206 rfl ?_
                refine mr_iconst (pc := 208) (z := 3) dX12_unlike_208 ?_
                refine mr_iadd (pc := 209) (x := (40 * p4)) (y := 3) dX12_unlike_209 ?_
                refine la_126 (pc := 210) dX12_unlike_210 (A_126 hw) hT (rIx (n := 84000) (rAdd (e := 3) (f := 83963) (rMulL (n := 40) (e := 0) (f := 83960) hp4 rfl) (rR (x := 3)) rfl) rfl) fun z1102 q1103 h1104 => ?_
                refine mr_isub (pc := 211) (x := z1099) (y := z1102) dX12_unlike_211 ?_
                refine mr_wrap fun z1105 h1106 => ?_
                refine mr_istore (pc := 212) (lv' := [(9, iv z1105), (0, .ref 106), (1, iv p1), (2, iv p2), (3, iv p3), (4, iv p4), (5, iv p5), (6, iv p6), (7, iv z925), (8, iv z936), (10, iv (40 * p2)), (11, iv (40 * p4)), (12, iv z957)]) dX12_unlike_212 (by decide) rfl ?_
                refine mr_lvS (lv' := [(0, .ref 106), (1, iv p1), (2, iv p2), (3, iv p3), (4, iv p4), (5, iv p5), (6, iv p6), (7, iv z925), (8, iv z936), (9, iv z1105)]) (List.forall_mem_cons.mpr ⟨rfl, List.forall_mem_cons.mpr ⟨rfl, List.forall_mem_cons.mpr ⟨rfl, List.forall_mem_cons.mpr ⟨rfl, List.forall_mem_cons.mpr ⟨rfl, List.forall_mem_cons.mpr ⟨rfl, List.forall_mem_cons.mpr ⟨rfl, List.forall_mem_cons.mpr ⟨rfl, List.forall_mem_cons.mpr ⟨rfl, List.forall_mem_cons.mpr ⟨rfl, fun _ h => absurd h List.not_mem_nil⟩⟩⟩⟩⟩⟩⟩⟩⟩⟩) ?_
                exact J1014 z1105 h1106
              have h1107 : 4 ≤ z936 ∧ z936 ≤ 4 := (vc_X12_unlike_13 h1096 h938)
              refine mr_iload (pc := 181) (z := z957) dX12_unlike_181 rfl ?_
              refine mr_if_ne (pc := 183) (tgt := 193) dX12_unlike_183 (by decide) (r32 h958 rfl) (fun h1108 => ?_) (fun h1108 => ?_)
              · have h1109 : 1 ≤ z957 ∧ z957 ≤ 1 := (vc_X12_ring_24 h1108 h958)
                refine sv_aload_n (pc := 193) dX12_unlike_193 rfl rfl ?_
                refine gf_X12_32 (pc := 194) dX12_unlike_194 wF_X12_148 (A_106 hw) hT ?_
                refine mr_iload (pc := 197) (z := (40 * p2)) dX12_unlike_197 rfl ?_
                refine mr_iconst (pc := 199) (z := 3) dX12_unlike_199 ?_
                refine mr_iadd (pc := 200) (x := (40 * p2)) (y := 3) dX12_unlike_200 ?_
                refine la_126 (pc := 201) dX12_unlike_201 (A_126 hw) hT (rIx (n := 84000) (rAdd (e := 3) (f := 83963) (rMulL (n := 40) (e := 0) (f := 83960) hp2 rfl) (rR (x := 3)) rfl) rfl) fun z1110 q1111 h1112 => ?_
                refine sv_aload_n (pc := 202) dX12_unlike_202 rfl rfl ?_
                refine gf_X12_32 (pc := 203) dX12_unlike_203 wF_X12_148 (A_106 hw) hT ?_
                refine mr_iload (pc := 206) (z := (40 * p4)) dX12_unlike_206 rfl ?_
                refine mr_iconst (pc := 208) (z := 3) dX12_unlike_208 ?_
                refine mr_iadd (pc := 209) (x := (40 * p4)) (y := 3) dX12_unlike_209 ?_
                refine la_126 (pc := 210) dX12_unlike_210 (A_126 hw) hT (rIx (n := 84000) (rAdd (e := 3) (f := 83963) (rMulL (n := 40) (e := 0) (f := 83960) hp4 rfl) (rR (x := 3)) rfl) rfl) fun z1113 q1114 h1115 => ?_
                refine mr_isub (pc := 211) (x := z1110) (y := z1113) dX12_unlike_211 ?_
                refine mr_wrap fun z1116 h1117 => ?_
                refine mr_istore (pc := 212) (lv' := [(9, iv z1116), (0, .ref 106), (1, iv p1), (2, iv p2), (3, iv p3), (4, iv p4), (5, iv p5), (6, iv p6), (7, iv z925), (8, iv z936), (10, iv (40 * p2)), (11, iv (40 * p4)), (12, iv z957)]) dX12_unlike_212 (by decide) rfl ?_
                refine mr_lvS (lv' := [(0, .ref 106), (1, iv p1), (2, iv p2), (3, iv p3), (4, iv p4), (5, iv p5), (6, iv p6), (7, iv z925), (8, iv z936), (9, iv z1116)]) (List.forall_mem_cons.mpr ⟨rfl, List.forall_mem_cons.mpr ⟨rfl, List.forall_mem_cons.mpr ⟨rfl, List.forall_mem_cons.mpr ⟨rfl, List.forall_mem_cons.mpr ⟨rfl, List.forall_mem_cons.mpr ⟨rfl, List.forall_mem_cons.mpr ⟨rfl, List.forall_mem_cons.mpr ⟨rfl, List.forall_mem_cons.mpr ⟨rfl, List.forall_mem_cons.mpr ⟨rfl, fun _ h => absurd h List.not_mem_nil⟩⟩⟩⟩⟩⟩⟩⟩⟩⟩) ?_
                exact J1014 z1116 h1117
              have h1118 : 0 ≤ z957 ∧ z957 ≤ 0 := (vc_X12_ring_22 h1108 h958)
              refine mr_iload (pc := 186) (z := z936) dX12_unlike_186 rfl ?_
              refine mr_bipush (pc := 188) (z := 6) dX12_unlike_188 (by decide) ?_
              refine mr_icmp_ne (pc := 190) (tgt := 214) dX12_unlike_190 (by decide) (r32 h1107 rfl) (r32 (rR (x := 6)) rfl) (fun _ => ?_) (fun h => ((vc_X12_unlike_16 h h1107)).elim)
              refine mr_lvS (lv' := [(0, .ref 106), (1, iv p1), (2, iv p2), (3, iv p3), (4, iv p4), (5, iv p5), (6, iv p6), (7, iv z925), (8, iv z936), (9, iv z989)]) (List.forall_mem_cons.mpr ⟨rfl, List.forall_mem_cons.mpr ⟨rfl, List.forall_mem_cons.mpr ⟨rfl, List.forall_mem_cons.mpr ⟨rfl, List.forall_mem_cons.mpr ⟨rfl, List.forall_mem_cons.mpr ⟨rfl, List.forall_mem_cons.mpr ⟨rfl, List.forall_mem_cons.mpr ⟨rfl, List.forall_mem_cons.mpr ⟨rfl, List.forall_mem_cons.mpr ⟨rfl, fun _ h => absurd h List.not_mem_nil⟩⟩⟩⟩⟩⟩⟩⟩⟩⟩) ?_
              exact J1014 z989 h990
            refine mr_icmp_ne (pc := 151) (tgt := 175) dX12_unlike_151 (by decide) (r32 h938 rfl) (r32 (rR (x := 3)) rfl) (fun h1119 => ?_) (fun h1119 => ?_)
            · exact J991 z977 h978
            have h1120 : 3 ≤ z936 ∧ z936 ≤ 3 := (vc_X12_unlike_17 h1119 h938)
            refine sv_aload_n (pc := 154) dX12_unlike_154 rfl rfl ?_
            refine gf_X12_32 (pc := 155) dX12_unlike_155 wF_X12_148 (A_106 hw) hT ?_
            refine mr_iload (pc := 158) (z := (40 * p2)) dX12_unlike_158 rfl ?_
            refine mr_iconst (pc := 160) (z := 2) dX12_unlike_160 ?_
            refine mr_iadd (pc := 161) (x := (40 * p2)) (y := 2) dX12_unlike_161 ?_
            refine la_126 (pc := 162) dX12_unlike_162 (A_126 hw) hT (rIx (n := 84000) (rAdd (e := 2) (f := 83962) (rMulL (n := 40) (e := 0) (f := 83960) hp2 rfl) (rR (x := 2)) rfl) rfl) fun z1121 q1122 h1123 => ?_
            refine sv_aload_n (pc := 163) dX12_unlike_163 rfl rfl ?_
            refine gf_X12_32 (pc := 164) dX12_unlike_164 wF_X12_148 (A_106 hw) hT ?_
            refine mr_iload (pc := 167) (z := (40 * p4)) dX12_unlike_167 rfl ?_
            refine mr_iconst (pc := 169) (z := 2) dX12_unlike_169 ?_
            refine mr_iadd (pc := 170) (x := (40 * p4)) (y := 2) dX12_unlike_170 ?_
            refine la_126 (pc := 171) dX12_unlike_171 (A_126 hw) hT (rIx (n := 84000) (rAdd (e := 2) (f := 83962) (rMulL (n := 40) (e := 0) (f := 83960) hp4 rfl) (rR (x := 2)) rfl) rfl) fun z1124 q1125 h1126 => ?_
            refine mr_isub (pc := 172) (x := z1121) (y := z1124) dX12_unlike_172 ?_
            refine mr_wrap fun z1127 h1128 => ?_
            refine mr_istore (pc := 173) (lv' := [(9, iv z1127), (0, .ref 106), (1, iv p1), (2, iv p2), (3, iv p3), (4, iv p4), (5, iv p5), (6, iv p6), (7, iv z925), (8, iv z936), (10, iv (40 * p2)), (11, iv (40 * p4)), (12, iv z957)]) dX12_unlike_173 (by decide) rfl ?_
            refine mr_lvS (lv' := [(0, .ref 106), (1, iv p1), (2, iv p2), (3, iv p3), (4, iv p4), (5, iv p5), (6, iv p6), (7, iv z925), (8, iv z936), (9, iv z1127), (10, iv (40 * p2)), (11, iv (40 * p4)), (12, iv z957)]) (List.forall_mem_cons.mpr ⟨rfl, List.forall_mem_cons.mpr ⟨rfl, List.forall_mem_cons.mpr ⟨rfl, List.forall_mem_cons.mpr ⟨rfl, List.forall_mem_cons.mpr ⟨rfl, List.forall_mem_cons.mpr ⟨rfl, List.forall_mem_cons.mpr ⟨rfl, List.forall_mem_cons.mpr ⟨rfl, List.forall_mem_cons.mpr ⟨rfl, List.forall_mem_cons.mpr ⟨rfl, List.forall_mem_cons.mpr ⟨rfl, List.forall_mem_cons.mpr ⟨rfl, List.forall_mem_cons.mpr ⟨rfl, fun _ h => absurd h List.not_mem_nil⟩⟩⟩⟩⟩⟩⟩⟩⟩⟩⟩⟩⟩) ?_
            exact J991 z1127 h1128
          refine mr_icmp_ne (pc := 124) (tgt := 148) dX12_unlike_124 (by decide) (r32 h938 rfl) (r32 (rR (x := 2)) rfl) (fun h1129 => ?_) (fun h1129 => ?_)
          · exact J979 z969 h970
          have h1130 : 2 ≤ z936 ∧ z936 ≤ 2 := (vc_X12_unlike_18 h1129 h938)
          refine sv_aload_n (pc := 127) dX12_unlike_127 rfl rfl ?_
          refine gf_X12_32 (pc := 128) dX12_unlike_128 wF_X12_148 (A_106 hw) hT ?_
          refine mr_iload (pc := 131) (z := (40 * p2)) dX12_unlike_131 rfl ?_
          refine mr_iconst (pc := 133) (z := 4) dX12_unlike_133 ?_
          refine mr_iadd (pc := 134) (x := (40 * p2)) (y := 4) dX12_unlike_134 ?_
          refine lk_126 (pc := 135) dX12_unlike_135 (A_126 hw) (rIx (n := 84000) (rAdd (e := 4) (f := 83964) (rMulL (n := 40) (e := 0) (f := 83960) hp2 rfl) (rR (x := 4)) rfl) rfl) q940 ?_
          refine sv_aload_n (pc := 136) dX12_unlike_136 rfl rfl ?_
          refine gf_X12_32 (pc := 137) dX12_unlike_137 wF_X12_148 (A_106 hw) hT ?_
          refine mr_iload (pc := 140) (z := (40 * p4)) dX12_unlike_140 rfl ?_
          refine mr_iconst (pc := 142) (z := 4) dX12_unlike_142 ?_
          refine mr_iadd (pc := 143) (x := (40 * p4)) (y := 4) dX12_unlike_143 ?_
          refine la_126 (pc := 144) dX12_unlike_144 (A_126 hw) hT (rIx (n := 84000) (rAdd (e := 4) (f := 83964) (rMulL (n := 40) (e := 0) (f := 83960) hp4 rfl) (rR (x := 4)) rfl) rfl) fun z1131 q1132 h1133 => ?_
          have h1134 : 0 ≤ z1131 ∧ z1131 ≤ 20 := h1133.2.2.1 (vc_X12_same_33 hp4)
          refine mr_isub (pc := 145) (x := z939) (y := z1131) dX12_unlike_145 ?_
          refine mr_istore (pc := 146) (lv' := [(9, iv (z939 - z1131)), (0, .ref 106), (1, iv p1), (2, iv p2), (3, iv p3), (4, iv p4), (5, iv p5), (6, iv p6), (7, iv z925), (8, iv z936), (10, iv (40 * p2)), (11, iv (40 * p4)), (12, iv z957)]) dX12_unlike_146 (by decide) rfl ?_
          refine mr_lvS (lv' := [(0, .ref 106), (1, iv p1), (2, iv p2), (3, iv p3), (4, iv p4), (5, iv p5), (6, iv p6), (7, iv z925), (8, iv z936), (9, iv (z939 - z1131)), (10, iv (40 * p2)), (11, iv (40 * p4)), (12, iv z957)]) (List.forall_mem_cons.mpr ⟨rfl, List.forall_mem_cons.mpr ⟨rfl, List.forall_mem_cons.mpr ⟨rfl, List.forall_mem_cons.mpr ⟨rfl, List.forall_mem_cons.mpr ⟨rfl, List.forall_mem_cons.mpr ⟨rfl, List.forall_mem_cons.mpr ⟨rfl, List.forall_mem_cons.mpr ⟨rfl, List.forall_mem_cons.mpr ⟨rfl, List.forall_mem_cons.mpr ⟨rfl, List.forall_mem_cons.mpr ⟨rfl, List.forall_mem_cons.mpr ⟨rfl, List.forall_mem_cons.mpr ⟨rfl, fun _ h => absurd h List.not_mem_nil⟩⟩⟩⟩⟩⟩⟩⟩⟩⟩⟩⟩⟩) ?_
          exact J979 (z939 - z1131) (rW (c := (-2147483648)) (d := 2147483647) (rSub (e := (-20)) (f := 20) h942 h1134 rfl) rfl)
        refine mr_icmp_ne (pc := 97) (tgt := 121) dX12_unlike_97 (by decide) (r32 h938 rfl) (r32 (rR (x := 1)) rfl) (fun h1135 => ?_) (fun h1135 => ?_)
        · refine mr_lvS (lv' := [(0, .ref 106), (1, iv p1), (2, iv p2), (3, iv p3), (4, iv p4), (5, iv p5), (6, iv p6), (7, iv z925), (8, iv z936), (9, iv 0), (10, iv (40 * p2)), (11, iv (40 * p4)), (12, iv z957)]) (List.forall_mem_cons.mpr ⟨rfl, List.forall_mem_cons.mpr ⟨rfl, List.forall_mem_cons.mpr ⟨rfl, List.forall_mem_cons.mpr ⟨rfl, List.forall_mem_cons.mpr ⟨rfl, List.forall_mem_cons.mpr ⟨rfl, List.forall_mem_cons.mpr ⟨rfl, List.forall_mem_cons.mpr ⟨rfl, List.forall_mem_cons.mpr ⟨rfl, List.forall_mem_cons.mpr ⟨rfl, List.forall_mem_cons.mpr ⟨rfl, List.forall_mem_cons.mpr ⟨rfl, List.forall_mem_cons.mpr ⟨rfl, fun _ h => absurd h List.not_mem_nil⟩⟩⟩⟩⟩⟩⟩⟩⟩⟩⟩⟩⟩) ?_
          exact J971 0 (rW (c := (-2147483648)) (d := 2147483647) (rR (x := 0)) rfl)
        have h1136 : 1 ≤ z936 ∧ z936 ≤ 1 := (vc_X12_unlike_20 h1135 h938)
        refine sv_aload_n (pc := 100) dX12_unlike_100 rfl rfl ?_
        refine gf_X12_32 (pc := 101) dX12_unlike_101 wF_X12_148 (A_106 hw) hT ?_
        refine mr_iload (pc := 104) (z := (40 * p4)) dX12_unlike_104 rfl ?_
        refine mr_iconst (pc := 106) (z := 1) dX12_unlike_106 ?_
        refine mr_iadd (pc := 107) (x := (40 * p4)) (y := 1) dX12_unlike_107 ?_
        refine la_126 (pc := 108) dX12_unlike_108 (A_126 hw) hT (rIx (n := 84000) (rAdd (e := 1) (f := 83961) (rMulL (n := 40) (e := 0) (f := 83960) hp4 rfl) (rR (x := 1)) rfl) rfl) fun z1137 q1138 h1139 => ?_
        refine sv_aload_n (pc := 109) dX12_unlike_109 rfl rfl ?_
        refine gf_X12_32 (pc := 110) dX12_unlike_110 wF_X12_148 (A_106 hw) hT ?_
        refine mr_iload (pc := 113) (z := (40 * p2)) dX12_unlike_113 rfl ?_
        refine mr_iconst (pc := 115) (z := 1) dX12_unlike_115 ?_
        refine mr_iadd (pc := 116) (x := (40 * p2)) (y := 1) dX12_unlike_116 ?_
        refine la_126 (pc := 117) dX12_unlike_117 (A_126 hw) hT (rIx (n := 84000) (rAdd (e := 1) (f := 83961) (rMulL (n := 40) (e := 0) (f := 83960) hp2 rfl) (rR (x := 1)) rfl) rfl) fun z1140 q1141 h1142 => ?_
        refine mr_isub (pc := 118) (x := z1137) (y := z1140) dX12_unlike_118 ?_
        refine mr_wrap fun z1143 h1144 => ?_
        refine mr_istore (pc := 119) (lv' := [(9, iv z1143), (12, iv z957), (0, .ref 106), (1, iv p1), (2, iv p2), (3, iv p3), (4, iv p4), (5, iv p5), (6, iv p6), (7, iv z925), (8, iv z936), (10, iv (40 * p2)), (11, iv (40 * p4))]) dX12_unlike_119 (by decide) rfl ?_
        refine mr_lvS (lv' := [(0, .ref 106), (1, iv p1), (2, iv p2), (3, iv p3), (4, iv p4), (5, iv p5), (6, iv p6), (7, iv z925), (8, iv z936), (9, iv z1143), (10, iv (40 * p2)), (11, iv (40 * p4)), (12, iv z957)]) (List.forall_mem_cons.mpr ⟨rfl, List.forall_mem_cons.mpr ⟨rfl, List.forall_mem_cons.mpr ⟨rfl, List.forall_mem_cons.mpr ⟨rfl, List.forall_mem_cons.mpr ⟨rfl, List.forall_mem_cons.mpr ⟨rfl, List.forall_mem_cons.mpr ⟨rfl, List.forall_mem_cons.mpr ⟨rfl, List.forall_mem_cons.mpr ⟨rfl, List.forall_mem_cons.mpr ⟨rfl, List.forall_mem_cons.mpr ⟨rfl, List.forall_mem_cons.mpr ⟨rfl, List.forall_mem_cons.mpr ⟨rfl, fun _ h => absurd h List.not_mem_nil⟩⟩⟩⟩⟩⟩⟩⟩⟩⟩⟩⟩⟩) ?_
        exact J971 z1143 h1144
      refine mr_if_le (pc := 49) (tgt := 91) dX12_unlike_49 (by decide) (r32 h942 rfl) (fun h1145 => ?_) (fun h1145 => ?_)
      · have h1146 : 0 ≤ z939 ∧ z939 ≤ 0 := (vc_X12_unlike_21 h1145 h942)
        refine mr_iconst (pc := 91) (z := 0) dX12_unlike_91 ?_
        refine mr_lvS (lv' := [(0, .ref 106), (1, iv p1), (2, iv p2), (3, iv p3), (4, iv p4), (5, iv p5), (6, iv p6), (7, iv z925), (8, iv z936), (9, iv 0), (10, iv (40 * p2)), (11, iv (40 * p4))]) (List.forall_mem_cons.mpr ⟨rfl, List.forall_mem_cons.mpr ⟨rfl, List.forall_mem_cons.mpr ⟨rfl, List.forall_mem_cons.mpr ⟨rfl, List.forall_mem_cons.mpr ⟨rfl, List.forall_mem_cons.mpr ⟨rfl, List.forall_mem_cons.mpr ⟨rfl, List.forall_mem_cons.mpr ⟨rfl, List.forall_mem_cons.mpr ⟨rfl, List.forall_mem_cons.mpr ⟨rfl, List.forall_mem_cons.mpr ⟨rfl, List.forall_mem_cons.mpr ⟨rfl, fun _ h => absurd h List.not_mem_nil⟩⟩⟩⟩⟩⟩⟩⟩⟩⟩⟩⟩) ?_
        exact J959 0 (rW (c := 0) (d := 1) (rR (x := 0)) rfl)
      have h1147 : 1 ≤ z939 ∧ z939 ≤ 20 := (vc_X12_unlike_22 h1145 h942)
      refine sv_aload_n (pc := 52) dX12_unlike_52 rfl rfl ?_
      refine gf_X12_32 (pc := 53) dX12_unlike_53 wF_X12_148 (A_106 hw) hT ?_
      refine mr_iload (pc := 56) (z := (40 * p4)) dX12_unlike_56 rfl ?_
      refine mr_iconst (pc := 58) (z := 4) dX12_unlike_58 ?_
      refine mr_iadd (pc := 59) (x := (40 * p4)) (y := 4) dX12_unlike_59 ?_
      refine la_126 (pc := 60) dX12_unlike_60 (A_126 hw) hT (rIx (n := 84000) (rAdd (e := 4) (f := 83964) (rMulL (n := 40) (e := 0) (f := 83960) hp4 rfl) (rR (x := 4)) rfl) rfl) fun z1148 q1149 h1150 => ?_
      have h1151 : 0 ≤ z1148 ∧ z1148 ≤ 20 := h1150.2.2.1 (vc_X12_same_33 hp4)
      refine mr_if_le (pc := 61) (tgt := 91) dX12_unlike_61 (by decide) (r32 h1151 rfl) (fun h1152 => ?_) (fun h1152 => ?_)
      · have h1153 : 0 ≤ z1148 ∧ z1148 ≤ 0 := (vc_X12_unlike_21 h1152 h1151)
        refine mr_iconst (pc := 91) (z := 0) dX12_unlike_91 ?_
        refine mr_lvS (lv' := [(0, .ref 106), (1, iv p1), (2, iv p2), (3, iv p3), (4, iv p4), (5, iv p5), (6, iv p6), (7, iv z925), (8, iv z936), (9, iv 0), (10, iv (40 * p2)), (11, iv (40 * p4))]) (List.forall_mem_cons.mpr ⟨rfl, List.forall_mem_cons.mpr ⟨rfl, List.forall_mem_cons.mpr ⟨rfl, List.forall_mem_cons.mpr ⟨rfl, List.forall_mem_cons.mpr ⟨rfl, List.forall_mem_cons.mpr ⟨rfl, List.forall_mem_cons.mpr ⟨rfl, List.forall_mem_cons.mpr ⟨rfl, List.forall_mem_cons.mpr ⟨rfl, List.forall_mem_cons.mpr ⟨rfl, List.forall_mem_cons.mpr ⟨rfl, List.forall_mem_cons.mpr ⟨rfl, fun _ h => absurd h List.not_mem_nil⟩⟩⟩⟩⟩⟩⟩⟩⟩⟩⟩⟩) ?_
        exact J959 0 (rW (c := 0) (d := 1) (rR (x := 0)) rfl)
      have h1154 : 1 ≤ z1148 ∧ z1148 ≤ 20 := (vc_X12_unlike_22 h1152 h1151)
      refine sv_aload_n (pc := 64) dX12_unlike_64 rfl rfl ?_
      refine gf_X12_32 (pc := 65) dX12_unlike_65 wF_X12_148 (A_106 hw) hT ?_
      refine mr_iload (pc := 68) (z := (40 * p2)) dX12_unlike_68 rfl ?_
      refine mr_bipush (pc := 70) (z := 6) dX12_unlike_70 (by decide) ?_
      refine mr_iadd (pc := 72) (x := (40 * p2)) (y := 6) dX12_unlike_72 ?_
      refine la_126 (pc := 73) dX12_unlike_73 (A_126 hw) hT (rIx (n := 84000) (rAdd (e := 6) (f := 83966) (rMulL (n := 40) (e := 0) (f := 83960) hp2 rfl) (rR (x := 6)) rfl) rfl) fun z1155 q1156 h1157 => ?_
      refine sv_aload_n (pc := 74) dX12_unlike_74 rfl rfl ?_
      refine gf_X12_32 (pc := 75) dX12_unlike_75 wF_X12_148 (A_106 hw) hT ?_
      refine mr_iload (pc := 78) (z := (40 * p4)) dX12_unlike_78 rfl ?_
      refine mr_bipush (pc := 80) (z := 6) dX12_unlike_80 (by decide) ?_
      refine mr_iadd (pc := 82) (x := (40 * p4)) (y := 6) dX12_unlike_82 ?_
      refine la_126 (pc := 83) dX12_unlike_83 (A_126 hw) hT (rIx (n := 84000) (rAdd (e := 6) (f := 83966) (rMulL (n := 40) (e := 0) (f := 83960) hp4 rfl) (rR (x := 6)) rfl) rfl) fun z1158 q1159 h1160 => ?_
      refine mr_icmp_ne (pc := 84) (tgt := 91) dX12_unlike_84 (by decide) h1157.1 h1160.1 (fun h1161 => ?_) (fun h1161 => ?_)
      · refine mr_iconst (pc := 91) (z := 0) dX12_unlike_91 ?_
        refine mr_lvS (lv' := [(0, .ref 106), (1, iv p1), (2, iv p2), (3, iv p3), (4, iv p4), (5, iv p5), (6, iv p6), (7, iv z925), (8, iv z936), (9, iv 0), (10, iv (40 * p2)), (11, iv (40 * p4))]) (List.forall_mem_cons.mpr ⟨rfl, List.forall_mem_cons.mpr ⟨rfl, List.forall_mem_cons.mpr ⟨rfl, List.forall_mem_cons.mpr ⟨rfl, List.forall_mem_cons.mpr ⟨rfl, List.forall_mem_cons.mpr ⟨rfl, List.forall_mem_cons.mpr ⟨rfl, List.forall_mem_cons.mpr ⟨rfl, List.forall_mem_cons.mpr ⟨rfl, List.forall_mem_cons.mpr ⟨rfl, List.forall_mem_cons.mpr ⟨rfl, List.forall_mem_cons.mpr ⟨rfl, fun _ h => absurd h List.not_mem_nil⟩⟩⟩⟩⟩⟩⟩⟩⟩⟩⟩⟩) ?_
        exact J959 0 (rW (c := 0) (d := 1) (rR (x := 0)) rfl)
      refine mr_iconst (pc := 87) (z := 1) dX12_unlike_87 ?_
      refine sv_goto (pc := 88) (tgt := 92) dX12_unlike_88 (by decide) ?_
      refine mr_lvS (lv' := [(0, .ref 106), (1, iv p1), (2, iv p2), (3, iv p3), (4, iv p4), (5, iv p5), (6, iv p6), (7, iv z925), (8, iv z936), (9, iv 0), (10, iv (40 * p2)), (11, iv (40 * p4))]) (List.forall_mem_cons.mpr ⟨rfl, List.forall_mem_cons.mpr ⟨rfl, List.forall_mem_cons.mpr ⟨rfl, List.forall_mem_cons.mpr ⟨rfl, List.forall_mem_cons.mpr ⟨rfl, List.forall_mem_cons.mpr ⟨rfl, List.forall_mem_cons.mpr ⟨rfl, List.forall_mem_cons.mpr ⟨rfl, List.forall_mem_cons.mpr ⟨rfl, List.forall_mem_cons.mpr ⟨rfl, List.forall_mem_cons.mpr ⟨rfl, List.forall_mem_cons.mpr ⟨rfl, fun _ h => absurd h List.not_mem_nil⟩⟩⟩⟩⟩⟩⟩⟩⟩⟩⟩⟩) ?_
      exact J959 1 (rW (c := 0) (d := 1) (rR (x := 1)) rfl)
  refine mr_lvS (lv' := [(0, .ref 106), (1, iv p1), (2, iv p2), (3, iv p3), (4, iv p4), (5, iv p5), (6, iv p6), (7, iv 0)]) (List.forall_mem_cons.mpr ⟨rfl, List.forall_mem_cons.mpr ⟨rfl, List.forall_mem_cons.mpr ⟨rfl, List.forall_mem_cons.mpr ⟨rfl, List.forall_mem_cons.mpr ⟨rfl, List.forall_mem_cons.mpr ⟨rfl, List.forall_mem_cons.mpr ⟨rfl, List.forall_mem_cons.mpr ⟨rfl, fun _ h => absurd h List.not_mem_nil⟩⟩⟩⟩⟩⟩⟩⟩) ?_
  exact L926 8 0 trivial (rW (c := 0) (d := 6) (rR (x := 0)) rfl) vc_X12_same_46
theorem vc_X12_beats_1 {z5 : Int} (h0 : z5 = 0) (h1 : (-9) ≤ z5 ∧ z5 ≤ 9) : 0 ≤ z5 ∧ z5 ≤ 0 := by omega
theorem vc_X12_beats_2 {z27 z32 : Int} (h0 : z27 < z32) (h1 : 0 ≤ z27 ∧ z27 ≤ 9) (h2 : 0 ≤ z32 ∧ z32 ≤ 9) : 0 ≤ z27 ∧ z27 ≤ 8 := by omega
theorem vc_X12_beats_3 {z27 z32 : Int} (h0 : z27 < z32) (h1 : 0 ≤ z27 ∧ z27 ≤ 8) (h2 : 0 ≤ z32 ∧ z32 ≤ 9) : 1 ≤ z32 ∧ z32 ≤ 9 := by omega
theorem vc_X12_beats_4 {z5 : Int} (h0 : z5 ≤ 0) (h1 : ¬ z5 = 0) (h2 : (-9) ≤ z5 ∧ z5 ≤ 9) : (-9) ≤ z5 ∧ z5 ≤ 0 := by omega
theorem vc_X12_beats_5 {z5 : Int} (h0 : 0 < z5) (h1 : ¬ z5 = 0) (h2 : (-9) ≤ z5 ∧ z5 ≤ 9) : 1 ≤ z5 ∧ z5 ≤ 9 := by omega
set_option maxRecDepth 4000 in
set_option maxHeartbeats 4000000 in
theorem c_X12_beats {l : Launch} {D : va_G} {c : Nat → ClassId} {H0 : Heap} {sa : Nat × Nat × (Nat → Int32)} {w : mW} {μ : mM} (hw : mWF w) (hT : mT w μ) {p1 : Int} (hp1 : 0 ≤ p1 ∧ p1 ≤ 9) {p2 : Int} (hp2 : 0 ≤ p2 ∧ p2 ≤ 19) {p3 : Int} (hp3 : 0 ≤ p3 ∧ p3 ≤ 19) {p4 : Int} (hp4 : 0 ≤ p4 ∧ p4 ≤ 9) : sC (gG l D c H0 sa) mX12_beats 3 0 0 [.ref 106, iv p1, iv p2, iv p3, iv p4] (mk w μ) (qP w μ (fun z => (0 ≤ z ∧ z ≤ 1) ∧ True)) := by
  refine sC.of rfl (by decide) (le_t rfl) ?_
  refine mr_lvE (lv' := [(0, .ref 106), (1, iv p1), (2, iv p2), (3, iv p3), (4, iv p4)]) rfl ?_
  refine sv_aload_n (pc := 0) dX12_beats_0 rfl rfl ?_
  refine mr_iload_n (pc := 1) (z := p1) dX12_beats_1 rfl rfl ?_
  refine mr_iconst (pc := 2) (z := 4) dX12_beats_2 ?_
  refine mr_iload_n (pc := 3) (z := p2) dX12_beats_3 rfl rfl ?_
  refine mr_iadd (pc := 4) (x := 4) (y := p2) dX12_beats_4 ?_
  refine mr_iload_n (pc := 5) (z := p2) dX12_beats_5 rfl rfl ?_
  refine mr_iconst (pc := 6) (z := 4) dX12_beats_6 ?_
  refine mr_iload_n (pc := 7) (z := p3) dX12_beats_7 rfl rfl ?_
  refine mr_iadd (pc := 8) (x := 4) (y := p3) dX12_beats_8 ?_
  refine mr_iload_n (pc := 9) (z := p3) dX12_beats_9 rfl rfl ?_
  refine mr_iload (pc := 10) (z := p4) dX12_beats_10 rfl ?_
  refine mr_cVP (pc := 12) (c_X12_unlike hw hT hp1 (rW (c := 0) (d := 2099) (rAdd (e := 4) (f := 23) (rR (x := 4)) hp2 rfl) rfl) hp2 (rW (c := 0) (d := 2099) (rAdd (e := 4) (f := 23) (rR (x := 4)) hp3 rfl) rfl) hp3 hp4) (gOk _ _ _ _ _) dX12_beats_12 (tX12_unlike _ _ _ _ _) ⟨wV_X12_unlike, wL_X12_unlike⟩ wM_X12_549 (gCX12 _ _ _ _ _) rfl (A_106 hw) rfl ⟨le_t rfl, le_t rfl⟩ ⟨le_t rfl, le_t rfl⟩ rfl (le_t rfl) fun z5 h4 => ?_
  refine mr_istore (pc := 15) (lv' := [(5, iv z5), (0, .ref 106), (1, iv p1), (2, iv p2), (3, iv p3), (4, iv p4)]) dX12_beats_15 (by decide) rfl ?_
  refine mr_iload (pc := 17) (z := z5) dX12_beats_17 rfl ?_
  refine mr_if_eq (pc := 19) (tgt := 35) dX12_beats_19 (by decide) (r32 h4.1 rfl) (fun h21 => ?_) (fun h21 => ?_)
  · have h22 : 0 ≤ z5 ∧ z5 ≤ 0 := (vc_X12_beats_1 h21 h4.1)
    refine sv_aload_n (pc := 35) dX12_beats_35 rfl rfl ?_
    refine mr_iload_n (pc := 36) (z := p2) dX12_beats_36 rfl rfl ?_
    refine mr_iload_n (pc := 37) (z := p1) dX12_beats_37 rfl rfl ?_
    refine mr_cVP (pc := 38) (c_X12_partnerOf hw hT hp2 (rW (c := (-2147483648)) (d := 2147483647) hp1 rfl)) (gOk _ _ _ _ _) dX12_beats_38 (tX12_partnerOf _ _ _ _ _) ⟨wV_X12_partnerOf, wL_X12_partnerOf⟩ wM_X12_553 (gCX12 _ _ _ _ _) rfl (A_106 hw) rfl ⟨le_t rfl, le_t rfl⟩ ⟨le_t rfl, le_t rfl⟩ rfl (le_t rfl) fun z27 h26 => ?_
    refine sv_aload_n (pc := 41) dX12_beats_41 rfl rfl ?_
    refine mr_iload_n (pc := 42) (z := p3) dX12_beats_42 rfl rfl ?_
    refine mr_iload_n (pc := 43) (z := p1) dX12_beats_43 rfl rfl ?_
    refine mr_cVP (pc := 44) (c_X12_partnerOf hw hT hp3 (rW (c := (-2147483648)) (d := 2147483647) hp1 rfl)) (gOk _ _ _ _ _) dX12_beats_44 (tX12_partnerOf _ _ _ _ _) ⟨wV_X12_partnerOf, wL_X12_partnerOf⟩ wM_X12_553 (gCX12 _ _ _ _ _) rfl (A_106 hw) rfl ⟨le_t rfl, le_t rfl⟩ ⟨le_t rfl, le_t rfl⟩ rfl (le_t rfl) fun z32 h31 => ?_
    refine mr_icmp_ge (pc := 47) (tgt := 54) dX12_beats_47 (by decide) (r32 h26.1 rfl) (r32 h31.1 rfl) (fun h35 => ?_) (fun h35 => ?_)
    · refine mr_iconst (pc := 54) (z := 0) dX12_beats_54 ?_
      exact mr_zretP dX12_beats_55 rfl (rW (c := 0) (d := 1) (rR (x := 0)) rfl) (le_t rfl) (le_t rfl) ⟨(rW (c := 0) (d := 1) (rR (x := 0)) rfl), trivial⟩
    have h36 : 0 ≤ z27 ∧ z27 ≤ 8 := (vc_X12_beats_2 h35 h26.1 h31.1)
    have h37 : 1 ≤ z32 ∧ z32 ≤ 9 := (vc_X12_beats_3 h35 h36 h31.1)
    refine mr_iconst (pc := 50) (z := 1) dX12_beats_50 ?_
    refine sv_goto (pc := 51) (tgt := 55) dX12_beats_51 (by decide) ?_
    exact mr_zretP dX12_beats_55 rfl (rW (c := 0) (d := 1) (rR (x := 1)) rfl) (le_t rfl) (le_t rfl) ⟨(rW (c := 0) (d := 1) (rR (x := 1)) rfl), trivial⟩
  refine mr_iload (pc := 22) (z := z5) dX12_beats_22 rfl ?_
  refine mr_if_le (pc := 24) (tgt := 31) dX12_beats_24 (by decide) (r32 h4.1 rfl) (fun h40 => ?_) (fun h40 => ?_)
  · have h41 : (-9) ≤ z5 ∧ z5 ≤ 0 := (vc_X12_beats_4 h40 h21 h4.1)
    refine mr_iconst (pc := 31) (z := 0) dX12_beats_31 ?_
    refine sv_goto (pc := 32) (tgt := 55) dX12_beats_32 (by decide) ?_
    exact mr_zretP dX12_beats_55 rfl (rW (c := 0) (d := 1) (rR (x := 0)) rfl) (le_t rfl) (le_t rfl) ⟨(rW (c := 0) (d := 1) (rR (x := 0)) rfl), trivial⟩
  have h42 : 1 ≤ z5 ∧ z5 ≤ 9 := (vc_X12_beats_5 h40 h21 h4.1)
  refine mr_iconst (pc := 27) (z := 1) dX12_beats_27 ?_
  refine sv_goto (pc := 28) (tgt := 55) dX12_beats_28 (by decide) ?_
  exact mr_zretP dX12_beats_55 rfl (rW (c := 0) (d := 1) (rR (x := 1)) rfl) (le_t rfl) (le_t rfl) ⟨(rW (c := 0) (d := 1) (rR (x := 1)) rfl), trivial⟩
theorem vc_X12_byteAt_1 {f_size p1 : Int} (h0 : f_size ≤ p1) (h1 : 0 ≤ f_size ∧ f_size ≤ 1000) (h2 : 0 ≤ p1 ∧ p1 ≤ 2147483647) : 0 ≤ (-1 : Int) → p1 < f_size := by omega
theorem vc_X12_byteAt_2 {f_size p1 : Int} (h0 : f_size ≤ p1) (h1 : 0 ≤ f_size ∧ f_size ≤ 1000) (h2 : 0 ≤ p1 ∧ p1 ≤ 2147483647) : p1 < f_size → 0 ≤ (-1 : Int) := by omega
theorem vc_X12_byteAt_3 {f_size p1 : Int} (h0 : p1 < f_size) (h1 : 0 ≤ f_size ∧ f_size ≤ 1000) (h2 : 0 ≤ p1 ∧ p1 ≤ 2147483647) : 0 ≤ p1 ∧ p1 ≤ 999 := by omega
theorem vc_X12_byteAt_4 {f_size p1 : Int} (h0 : p1 < f_size) (h1 : 0 ≤ f_size ∧ f_size ≤ 1000) (h2 : 0 ≤ p1 ∧ p1 ≤ 999) : 1 ≤ f_size ∧ f_size ≤ 1000 := by omega
theorem vc_X12_byteAt_5 {f_size p1 z39 : Int} (h0 : p1 < f_size) (h1 : 1 ≤ f_size ∧ f_size ≤ 1000) (h2 : 0 ≤ p1 ∧ p1 ≤ 999) (h3 : 0 ≤ z39 ∧ z39 ≤ 255) : 0 ≤ z39 → p1 < f_size := by omega
theorem vc_X12_byteAt_6 {f_size p1 z39 : Int} (h0 : p1 < f_size) (h1 : 1 ≤ f_size ∧ f_size ≤ 1000) (h2 : 0 ≤ p1 ∧ p1 ≤ 999) (h3 : 0 ≤ z39 ∧ z39 ≤ 255) : p1 < f_size → 0 ≤ z39 := by omega
set_option maxRecDepth 4000 in
set_option maxHeartbeats 4000000 in
theorem c_X12_byteAt {l : Launch} {D : va_G} {c : Nat → ClassId} {H0 : Heap} {sa : Nat × Nat × (Nat → Int32)} {w : mW} {μ : mM} (hw : mWF w) (hT : mT w μ) {p1 : Int} (hp1 : 0 ≤ p1 ∧ p1 ≤ 2147483647) {f_size : Int} (q_f_size : μ 106 1 = f_size) : sC (gG l D c H0 sa) mX12_byteAt 1 0 0 [.ref 106, iv p1] (mk w μ) (qP w μ (fun z => ((-1) ≤ z ∧ z ≤ 255) ∧ (0 ≤ z → p1 < f_size) ∧ (p1 < f_size → 0 ≤ z) ∧ True)) := by
  refine sC.of rfl (by decide) (le_t rfl) ?_
  have ht_f_size : (0 ≤ f_size ∧ f_size ≤ 1000) := by rw [← q_f_size]; exact hT 106 106 (A_106 hw) 1
  refine mr_lvE (lv' := [(0, .ref 106), (1, iv p1)]) rfl ?_
  refine mr_iload_n (pc := 0) (z := p1) dX12_byteAt_0 rfl rfl ?_
  refine sv_aload_n (pc := 1) dX12_byteAt_1 rfl rfl ?_
  refine gk_X12_1 (pc := 2) dX12_byteAt_2 wF_X12_1 (A_106 hw) q_f_size ?_
  refine mr_icmp_ge (pc := 5) (tgt := 21) dX12_byteAt_5 (by decide) (r32 hp1 rfl) (r32 ht_f_size rfl) (fun h33 => ?_) (fun h33 => ?_)
  · refine mr_iconst (pc := 21) (z := (-1)) dX12_byteAt_21 ?_
    exact mr_iretP dX12_byteAt_22 rfl (le_t rfl) (le_t rfl) ⟨(rW (c := (-1)) (d := 255) (rR (x := (-1))) rfl), (vc_X12_byteAt_1 h33 ht_f_size hp1), (vc_X12_byteAt_2 h33 ht_f_size hp1), trivial⟩
  have h34 : 0 ≤ p1 ∧ p1 ≤ 999 := (vc_X12_byteAt_3 h33 ht_f_size hp1)
  have h35 : 1 ≤ f_size ∧ f_size ≤ 1000 := (vc_X12_byteAt_4 h33 ht_f_size h34)
  refine sv_aload_n (pc := 8) dX12_byteAt_8 rfl rfl ?_
  refine gf_X12_0 (pc := 9) dX12_byteAt_9 wF_X12_7 (A_106 hw) hT ?_
  refine mr_iload_n (pc := 12) (z := p1) dX12_byteAt_12 rfl rfl ?_
  refine la_107 (pc := 13) dX12_byteAt_13 (A_107 hw) hT (rIx (n := 1000) h34 rfl) fun z36 q37 h38 => ?_
  refine mr_sipush (pc := 14) (z := 255) dX12_byteAt_14 (by decide) ?_
  refine mr_iand (pc := 17) (x := z36) (y := 255) dX12_byteAt_17 ?_
  refine mr_gen (P := fun z => 0 ≤ z ∧ z ≤ 255) (rAndR (rR (x := 255)) rfl) fun z39 q40 h41 => ?_
  refine sv_goto (pc := 18) (tgt := 22) dX12_byteAt_18 (by decide) ?_
  exact mr_iretP dX12_byteAt_22 rfl (le_t rfl) (le_t rfl) ⟨(rW (c := (-1)) (d := 255) h41 rfl), (vc_X12_byteAt_5 h33 h35 h34 h41), (vc_X12_byteAt_6 h33 h35 h34 h41), trivial⟩
theorem vc_X12_isSign_1 {f_code : Int} (h0 : ¬ f_code = 0) (h1 : 0 ≤ f_code ∧ f_code ≤ 4) : 1 ≤ f_code ∧ f_code ≤ 4 := by omega
theorem vc_X12_isSign_2 {f_code f_number f_type p1 : Int} (h0 : ¬ f_code = 0) (h1 : 1 ≤ f_code ∧ f_code ≤ 4) (h2 : (-2147483648) ≤ f_number ∧ f_number ≤ 2147483647) (h3 : 0 ≤ f_type ∧ f_type ≤ 3) (h4 : (-2147483648) ≤ p1 ∧ p1 ≤ 2147483647) : (0 : Int) = 1 → f_code = 0 ∧ f_type = 3 ∧ f_number = p1 := by omega
theorem vc_X12_isSign_3 {f_code f_number f_type p1 : Int} (h0 : ¬ f_code = 0) (h1 : 1 ≤ f_code ∧ f_code ≤ 4) (h2 : (-2147483648) ≤ f_number ∧ f_number ≤ 2147483647) (h3 : 0 ≤ f_type ∧ f_type ≤ 3) (h4 : (-2147483648) ≤ p1 ∧ p1 ≤ 2147483647) : (0 : Int) = 0 → ¬ f_code = 0 ∨ ¬ f_type = 3 ∨ ¬ f_number = p1 := by omega
theorem vc_X12_isSign_4 {f_code : Int} (h0 : f_code = 0) (h1 : 0 ≤ f_code ∧ f_code ≤ 4) : 0 ≤ f_code ∧ f_code ≤ 0 := by omega
theorem vc_X12_isSign_5 {f_type : Int} (h0 : ¬ f_type = 3) (h1 : 0 ≤ f_type ∧ f_type ≤ 3) : 0 ≤ f_type ∧ f_type ≤ 2 := by omega
theorem vc_X12_isSign_6 {f_code f_number f_type p1 : Int} (h0 : f_code = 0) (h1 : ¬ f_type = 3) (h2 : 0 ≤ f_code ∧ f_code ≤ 0) (h3 : (-2147483648) ≤ f_number ∧ f_number ≤ 2147483647) (h4 : 0 ≤ f_type ∧ f_type ≤ 2) (h5 : (-2147483648) ≤ p1 ∧ p1 ≤ 2147483647) : (0 : Int) = 1 → f_code = 0 ∧ f_type = 3 ∧ f_number = p1 := by omega
theorem vc_X12_isSign_7 {f_code f_number f_type p1 : Int} (h0 : f_code = 0) (h1 : ¬ f_type = 3) (h2 : 0 ≤ f_code ∧ f_code ≤ 0) (h3 : (-2147483648) ≤ f_number ∧ f_number ≤ 2147483647) (h4 : 0 ≤ f_type ∧ f_type ≤ 2) (h5 : (-2147483648) ≤ p1 ∧ p1 ≤ 2147483647) : (0 : Int) = 0 → ¬ f_code = 0 ∨ ¬ f_type = 3 ∨ ¬ f_number = p1 := by omega
theorem vc_X12_isSign_8 {f_type : Int} (h0 : f_type = 3) (h1 : 0 ≤ f_type ∧ f_type ≤ 3) : 3 ≤ f_type ∧ f_type ≤ 3 := by omega
theorem vc_X12_isSign_9 {f_code f_number f_type p1 : Int} (h0 : f_code = 0) (h1 : f_type = 3) (h2 : ¬ f_number = p1) (h3 : 0 ≤ f_code ∧ f_code ≤ 0) (h4 : (-2147483648) ≤ f_number ∧ f_number ≤ 2147483647) (h5 : 3 ≤ f_type ∧ f_type ≤ 3) (h6 : (-2147483648) ≤ p1 ∧ p1 ≤ 2147483647) : (0 : Int) = 1 → f_code = 0 ∧ f_type = 3 ∧ f_number = p1 := by omega
theorem vc_X12_isSign_10 {f_code f_number f_type p1 : Int} (h0 : f_code = 0) (h1 : f_type = 3) (h2 : ¬ f_number = p1) (h3 : 0 ≤ f_code ∧ f_code ≤ 0) (h4 : (-2147483648) ≤ f_number ∧ f_number ≤ 2147483647) (h5 : 3 ≤ f_type ∧ f_type ≤ 3) (h6 : (-2147483648) ≤ p1 ∧ p1 ≤ 2147483647) : (0 : Int) = 0 → ¬ f_code = 0 ∨ ¬ f_type = 3 ∨ ¬ f_number = p1 := by omega
theorem vc_X12_isSign_11 {f_code f_number f_type p1 : Int} (h0 : f_code = 0) (h1 : f_type = 3) (h2 : f_number = p1) (h3 : 0 ≤ f_code ∧ f_code ≤ 0) (h4 : (-2147483648) ≤ f_number ∧ f_number ≤ 2147483647) (h5 : 3 ≤ f_type ∧ f_type ≤ 3) (h6 : (-2147483648) ≤ p1 ∧ p1 ≤ 2147483647) : (1 : Int) = 1 → f_code = 0 ∧ f_type = 3 ∧ f_number = p1 := by omega
theorem vc_X12_isSign_12 {f_code f_number f_type p1 : Int} (h0 : f_code = 0) (h1 : f_type = 3) (h2 : f_number = p1) (h3 : 0 ≤ f_code ∧ f_code ≤ 0) (h4 : (-2147483648) ≤ f_number ∧ f_number ≤ 2147483647) (h5 : 3 ≤ f_type ∧ f_type ≤ 3) (h6 : (-2147483648) ≤ p1 ∧ p1 ≤ 2147483647) : (1 : Int) = 0 → ¬ f_code = 0 ∨ ¬ f_type = 3 ∨ ¬ f_number = p1 := by omega
set_option maxRecDepth 4000 in
set_option maxHeartbeats 4000000 in
theorem c_X12_isSign {l : Launch} {D : va_G} {c : Nat → ClassId} {H0 : Heap} {sa : Nat × Nat × (Nat → Int32)} {w : mW} {μ : mM} (hw : mWF w) (hT : mT w μ) {p1 : Int} (hp1 : (-2147483648) ≤ p1 ∧ p1 ≤ 2147483647) {f_code : Int} (q_f_code : μ 106 37 = f_code) {f_type : Int} (q_f_type : μ 106 35 = f_type) {f_number : Int} (q_f_number : μ 106 36 = f_number) : sC (gG l D c H0 sa) mX12_isSign 1 0 0 [.ref 106, iv p1] (mk w μ) (qP w μ (fun z => (0 ≤ z ∧ z ≤ 1) ∧ (z = 1 → f_code = 0 ∧ f_type = 3 ∧ f_number = p1) ∧ (z = 0 → ¬ f_code = 0 ∨ ¬ f_type = 3 ∨ ¬ f_number = p1) ∧ True)) := by
  refine sC.of rfl (by decide) (le_t rfl) ?_
  have ht_f_code : (0 ≤ f_code ∧ f_code ≤ 4) := by rw [← q_f_code]; exact hT 106 106 (A_106 hw) 37
  have ht_f_type : (0 ≤ f_type ∧ f_type ≤ 3) := by rw [← q_f_type]; exact hT 106 106 (A_106 hw) 35
  have ht_f_number : ((-2147483648) ≤ f_number ∧ f_number ≤ 2147483647) := by rw [← q_f_number]; exact hT 106 106 (A_106 hw) 36
  refine mr_lvE (lv' := [(0, .ref 106), (1, iv p1)]) rfl ?_
  refine sv_aload_n (pc := 0) dX12_isSign_0 rfl rfl ?_
  refine gk_X12_37 (pc := 1) dX12_isSign_1 wF_X12_215 (A_106 hw) q_f_code ?_
  refine mr_if_ne (pc := 4) (tgt := 27) dX12_isSign_4 (by decide) (r32 ht_f_code rfl) (fun h17 => ?_) (fun h17 => ?_)
  · have h18 : 1 ≤ f_code ∧ f_code ≤ 4 := (vc_X12_isSign_1 h17 ht_f_code)
    refine mr_iconst (pc := 27) (z := 0) dX12_isSign_27 ?_
    exact mr_zretP dX12_isSign_28 rfl (rW (c := 0) (d := 1) (rR (x := 0)) rfl) (le_t rfl) (le_t rfl) ⟨(rW (c := 0) (d := 1) (rR (x := 0)) rfl), (vc_X12_isSign_2 h17 h18 ht_f_number ht_f_type hp1), (vc_X12_isSign_3 h17 h18 ht_f_number ht_f_type hp1), trivial⟩
  have h19 : 0 ≤ f_code ∧ f_code ≤ 0 := (vc_X12_isSign_4 h17 ht_f_code)
  refine sv_aload_n (pc := 7) dX12_isSign_7 rfl rfl ?_
  refine gk_X12_35 (pc := 8) dX12_isSign_8 wF_X12_230 (A_106 hw) q_f_type ?_
  refine mr_iconst (pc := 11) (z := 3) dX12_isSign_11 ?_
  refine mr_icmp_ne (pc := 12) (tgt := 27) dX12_isSign_12 (by decide) (r32 ht_f_type rfl) (r32 (rR (x := 3)) rfl) (fun h22 => ?_) (fun h22 => ?_)
  · have h23 : 0 ≤ f_type ∧ f_type ≤ 2 := (vc_X12_isSign_5 h22 ht_f_type)
    refine mr_iconst (pc := 27) (z := 0) dX12_isSign_27 ?_
    exact mr_zretP dX12_isSign_28 rfl (rW (c := 0) (d := 1) (rR (x := 0)) rfl) (le_t rfl) (le_t rfl) ⟨(rW (c := 0) (d := 1) (rR (x := 0)) rfl), (vc_X12_isSign_6 h17 h22 h19 ht_f_number h23 hp1), (vc_X12_isSign_7 h17 h22 h19 ht_f_number h23 hp1), trivial⟩
  have h24 : 3 ≤ f_type ∧ f_type ≤ 3 := (vc_X12_isSign_8 h22 ht_f_type)
  refine sv_aload_n (pc := 15) dX12_isSign_15 rfl rfl ?_
  refine gk_X12_36 (pc := 16) dX12_isSign_16 wF_X12_233 (A_106 hw) q_f_number ?_
  refine mr_iload_n (pc := 19) (z := p1) dX12_isSign_19 rfl rfl ?_
  refine mr_icmp_ne (pc := 20) (tgt := 27) dX12_isSign_20 (by decide) ht_f_number hp1 (fun h25 => ?_) (fun h25 => ?_)
  · refine mr_iconst (pc := 27) (z := 0) dX12_isSign_27 ?_
    exact mr_zretP dX12_isSign_28 rfl (rW (c := 0) (d := 1) (rR (x := 0)) rfl) (le_t rfl) (le_t rfl) ⟨(rW (c := 0) (d := 1) (rR (x := 0)) rfl), (vc_X12_isSign_9 h17 h22 h25 h19 ht_f_number h24 hp1), (vc_X12_isSign_10 h17 h22 h25 h19 ht_f_number h24 hp1), trivial⟩
  refine mr_iconst (pc := 23) (z := 1) dX12_isSign_23 ?_
  refine sv_goto (pc := 24) (tgt := 28) dX12_isSign_24 (by decide) ?_
  exact mr_zretP dX12_isSign_28 rfl (rW (c := 0) (d := 1) (rR (x := 1)) rfl) (le_t rfl) (le_t rfl) ⟨(rW (c := 0) (d := 1) (rR (x := 1)) rfl), (vc_X12_isSign_11 h17 h22 h25 h19 ht_f_number h24 hp1), (vc_X12_isSign_12 h17 h22 h25 h19 ht_f_number h24 hp1), trivial⟩
theorem vc_X12_isWord_2 {f_code f_number f_type p1 : Int} (h0 : ¬ f_code = 0) (h1 : 1 ≤ f_code ∧ f_code ≤ 4) (h2 : (-2147483648) ≤ f_number ∧ f_number ≤ 2147483647) (h3 : 0 ≤ f_type ∧ f_type ≤ 3) (h4 : (-2147483648) ≤ p1 ∧ p1 ≤ 2147483647) : (0 : Int) = 1 → f_code = 0 ∧ f_type = 1 ∧ f_number = p1 := by omega
theorem vc_X12_isWord_3 {f_code f_number f_type p1 : Int} (h0 : ¬ f_code = 0) (h1 : 1 ≤ f_code ∧ f_code ≤ 4) (h2 : (-2147483648) ≤ f_number ∧ f_number ≤ 2147483647) (h3 : 0 ≤ f_type ∧ f_type ≤ 3) (h4 : (-2147483648) ≤ p1 ∧ p1 ≤ 2147483647) : (0 : Int) = 0 → ¬ f_code = 0 ∨ ¬ f_type = 1 ∨ ¬ f_number = p1 := by omega
theorem vc_X12_isWord_5 {f_code f_number f_type p1 : Int} (h0 : f_code = 0) (h1 : ¬ f_type = 1) (h2 : 0 ≤ f_code ∧ f_code ≤ 0) (h3 : (-2147483648) ≤ f_number ∧ f_number ≤ 2147483647) (h4 : 0 ≤ f_type ∧ f_type ≤ 3) (h5 : (-2147483648) ≤ p1 ∧ p1 ≤ 2147483647) : (0 : Int) = 1 → f_code = 0 ∧ f_type = 1 ∧ f_number = p1 := by omega
theorem vc_X12_isWord_6 {f_code f_number f_type p1 : Int} (h0 : f_code = 0) (h1 : ¬ f_type = 1) (h2 : 0 ≤ f_code ∧ f_code ≤ 0) (h3 : (-2147483648) ≤ f_number ∧ f_number ≤ 2147483647) (h4 : 0 ≤ f_type ∧ f_type ≤ 3) (h5 : (-2147483648) ≤ p1 ∧ p1 ≤ 2147483647) : (0 : Int) = 0 → ¬ f_code = 0 ∨ ¬ f_type = 1 ∨ ¬ f_number = p1 := by omega
theorem vc_X12_isWord_7 {f_type : Int} (h0 : f_type = 1) (h1 : 0 ≤ f_type ∧ f_type ≤ 3) : 1 ≤ f_type ∧ f_type ≤ 1 := by omega
theorem vc_X12_isWord_8 {f_code f_number f_type p1 : Int} (h0 : f_code = 0) (h1 : f_type = 1) (h2 : ¬ f_number = p1) (h3 : 0 ≤ f_code ∧ f_code ≤ 0) (h4 : (-2147483648) ≤ f_number ∧ f_number ≤ 2147483647) (h5 : 1 ≤ f_type ∧ f_type ≤ 1) (h6 : (-2147483648) ≤ p1 ∧ p1 ≤ 2147483647) : (0 : Int) = 1 → f_code = 0 ∧ f_type = 1 ∧ f_number = p1 := by omega
theorem vc_X12_isWord_9 {f_code f_number f_type p1 : Int} (h0 : f_code = 0) (h1 : f_type = 1) (h2 : ¬ f_number = p1) (h3 : 0 ≤ f_code ∧ f_code ≤ 0) (h4 : (-2147483648) ≤ f_number ∧ f_number ≤ 2147483647) (h5 : 1 ≤ f_type ∧ f_type ≤ 1) (h6 : (-2147483648) ≤ p1 ∧ p1 ≤ 2147483647) : (0 : Int) = 0 → ¬ f_code = 0 ∨ ¬ f_type = 1 ∨ ¬ f_number = p1 := by omega
theorem vc_X12_isWord_10 {f_code f_number f_type p1 : Int} (h0 : f_code = 0) (h1 : f_type = 1) (h2 : f_number = p1) (h3 : 0 ≤ f_code ∧ f_code ≤ 0) (h4 : (-2147483648) ≤ f_number ∧ f_number ≤ 2147483647) (h5 : 1 ≤ f_type ∧ f_type ≤ 1) (h6 : (-2147483648) ≤ p1 ∧ p1 ≤ 2147483647) : (1 : Int) = 1 → f_code = 0 ∧ f_type = 1 ∧ f_number = p1 := by omega
theorem vc_X12_isWord_11 {f_code f_number f_type p1 : Int} (h0 : f_code = 0) (h1 : f_type = 1) (h2 : f_number = p1) (h3 : 0 ≤ f_code ∧ f_code ≤ 0) (h4 : (-2147483648) ≤ f_number ∧ f_number ≤ 2147483647) (h5 : 1 ≤ f_type ∧ f_type ≤ 1) (h6 : (-2147483648) ≤ p1 ∧ p1 ≤ 2147483647) : (1 : Int) = 0 → ¬ f_code = 0 ∨ ¬ f_type = 1 ∨ ¬ f_number = p1 := by omega
set_option maxRecDepth 4000 in
set_option maxHeartbeats 4000000 in
theorem c_X12_isWord {l : Launch} {D : va_G} {c : Nat → ClassId} {H0 : Heap} {sa : Nat × Nat × (Nat → Int32)} {w : mW} {μ : mM} (hw : mWF w) (hT : mT w μ) {p1 : Int} (hp1 : (-2147483648) ≤ p1 ∧ p1 ≤ 2147483647) {f_code : Int} (q_f_code : μ 106 37 = f_code) {f_type : Int} (q_f_type : μ 106 35 = f_type) {f_number : Int} (q_f_number : μ 106 36 = f_number) : sC (gG l D c H0 sa) mX12_isWord 1 0 0 [.ref 106, iv p1] (mk w μ) (qP w μ (fun z => (0 ≤ z ∧ z ≤ 1) ∧ (z = 1 → f_code = 0 ∧ f_type = 1 ∧ f_number = p1) ∧ (z = 0 → ¬ f_code = 0 ∨ ¬ f_type = 1 ∨ ¬ f_number = p1) ∧ True)) := by
  refine sC.of rfl (by decide) (le_t rfl) ?_
  have ht_f_code : (0 ≤ f_code ∧ f_code ≤ 4) := by rw [← q_f_code]; exact hT 106 106 (A_106 hw) 37
  have ht_f_type : (0 ≤ f_type ∧ f_type ≤ 3) := by rw [← q_f_type]; exact hT 106 106 (A_106 hw) 35
  have ht_f_number : ((-2147483648) ≤ f_number ∧ f_number ≤ 2147483647) := by rw [← q_f_number]; exact hT 106 106 (A_106 hw) 36
  refine mr_lvE (lv' := [(0, .ref 106), (1, iv p1)]) rfl ?_
  refine sv_aload_n (pc := 0) dX12_isWord_0 rfl rfl ?_
  refine gk_X12_37 (pc := 1) dX12_isWord_1 wF_X12_215 (A_106 hw) q_f_code ?_
  refine mr_if_ne (pc := 4) (tgt := 27) dX12_isWord_4 (by decide) (r32 ht_f_code rfl) (fun h13 => ?_) (fun h13 => ?_)
  · have h14 : 1 ≤ f_code ∧ f_code ≤ 4 := (vc_X12_isSign_1 h13 ht_f_code)
    refine mr_iconst (pc := 27) (z := 0) dX12_isWord_27 ?_
    exact mr_zretP dX12_isWord_28 rfl (rW (c := 0) (d := 1) (rR (x := 0)) rfl) (le_t rfl) (le_t rfl) ⟨(rW (c := 0) (d := 1) (rR (x := 0)) rfl), (vc_X12_isWord_2 h13 h14 ht_f_number ht_f_type hp1), (vc_X12_isWord_3 h13 h14 ht_f_number ht_f_type hp1), trivial⟩
  have h15 : 0 ≤ f_code ∧ f_code ≤ 0 := (vc_X12_isSign_4 h13 ht_f_code)
  refine sv_aload_n (pc := 7) dX12_isWord_7 rfl rfl ?_
  refine gk_X12_35 (pc := 8) dX12_isWord_8 wF_X12_230 (A_106 hw) q_f_type ?_
  refine mr_iconst (pc := 11) (z := 1) dX12_isWord_11 ?_
  refine mr_icmp_ne (pc := 12) (tgt := 27) dX12_isWord_12 (by decide) (r32 ht_f_type rfl) (r32 (rR (x := 1)) rfl) (fun h17 => ?_) (fun h17 => ?_)
  · refine mr_iconst (pc := 27) (z := 0) dX12_isWord_27 ?_
    exact mr_zretP dX12_isWord_28 rfl (rW (c := 0) (d := 1) (rR (x := 0)) rfl) (le_t rfl) (le_t rfl) ⟨(rW (c := 0) (d := 1) (rR (x := 0)) rfl), (vc_X12_isWord_5 h13 h17 h15 ht_f_number ht_f_type hp1), (vc_X12_isWord_6 h13 h17 h15 ht_f_number ht_f_type hp1), trivial⟩
  have h18 : 1 ≤ f_type ∧ f_type ≤ 1 := (vc_X12_isWord_7 h17 ht_f_type)
  refine sv_aload_n (pc := 15) dX12_isWord_15 rfl rfl ?_
  refine gk_X12_36 (pc := 16) dX12_isWord_16 wF_X12_233 (A_106 hw) q_f_number ?_
  refine mr_iload_n (pc := 19) (z := p1) dX12_isWord_19 rfl rfl ?_
  refine mr_icmp_ne (pc := 20) (tgt := 27) dX12_isWord_20 (by decide) ht_f_number hp1 (fun h19 => ?_) (fun h19 => ?_)
  · refine mr_iconst (pc := 27) (z := 0) dX12_isWord_27 ?_
    exact mr_zretP dX12_isWord_28 rfl (rW (c := 0) (d := 1) (rR (x := 0)) rfl) (le_t rfl) (le_t rfl) ⟨(rW (c := 0) (d := 1) (rR (x := 0)) rfl), (vc_X12_isWord_8 h13 h17 h19 h15 ht_f_number h18 hp1), (vc_X12_isWord_9 h13 h17 h19 h15 ht_f_number h18 hp1), trivial⟩
  refine mr_iconst (pc := 23) (z := 1) dX12_isWord_23 ?_
  refine sv_goto (pc := 24) (tgt := 28) dX12_isWord_24 (by decide) ?_
  exact mr_zretP dX12_isWord_28 rfl (rW (c := 0) (d := 1) (rR (x := 1)) rfl) (le_t rfl) (le_t rfl) ⟨(rW (c := 0) (d := 1) (rR (x := 1)) rfl), (vc_X12_isWord_10 h13 h17 h19 h15 ht_f_number h18 hp1), (vc_X12_isWord_11 h13 h17 h19 h15 ht_f_number h18 hp1), trivial⟩
set_option maxRecDepth 4000 in
set_option maxHeartbeats 4000000 in
theorem c_X12_freshRow {l : Launch} {D : va_G} {c : Nat → ClassId} {H0 : Heap} {sa : Nat × Nat × (Nat → Int32)} {w : mW} {μ : mM} (hw : mWF w) (hT : mT w μ) : sC (gG l D c H0 sa) mX12_freshRow 1 0 0 [.ref 106] (mk w μ) (qV w [148999, 149999, 150999] μ (fun μ1 => True)) := by
  refine sC.of rfl (by decide) (le_t rfl) ?_
  refine mr_lvE (lv' := [(0, .ref 106)]) rfl ?_
  refine sv_aload_n (pc := 0) dX12_freshRow_0 rfl rfl ?_
  refine gf_X12_63 (pc := 1) dX12_freshRow_1 wF_X12_266 (A_106 hw) hT ?_
  refine sv_aload_n (pc := 4) dX12_freshRow_4 rfl rfl ?_
  refine gf_X12_59 (pc := 5) dX12_freshRow_5 wF_X12_254 (A_106 hw) hT fun z1 q2 h3 => ?_
  refine mr_lconst (pc := 8) (z := 0) dX12_freshRow_8 (by decide) ?_
  refine ss_148 (pc := 9) dX12_freshRow_9 (A_148 hw) hT (rIx (n := 10) h3 rfl) (rW (c := -9223372036854775808) (d := 9223372036854775807) (rR (x := 0)) rfl) fun μ4 u5 T6 => ?_
  refine sv_aload_n (pc := 10) dX12_freshRow_10 rfl rfl ?_
  refine gf_X12_64 (pc := 11) dX12_freshRow_11 wF_X12_269 (A_106 hw) T6 ?_
  refine sv_aload_n (pc := 14) dX12_freshRow_14 rfl rfl ?_
  refine gk_X12_59 (pc := 15) dX12_freshRow_15 wF_X12_254 (A_106 hw) (u5.f (Or.inl (mAt.ne (A_148 hw) (A_106 hw) rfl)) q2) ?_
  refine mr_lconst (pc := 18) (z := 0) dX12_freshRow_18 (by decide) ?_
  refine ss_149 (pc := 19) dX12_freshRow_19 (A_149 hw) T6 (rIx (n := 10) h3 rfl) (rW (c := -9223372036854775808) (d := 9223372036854775807) (rR (x := 0)) rfl) fun μ7 u8 T9 => ?_
  refine sv_aload_n (pc := 20) dX12_freshRow_20 rfl rfl ?_
  refine gf_X12_65 (pc := 21) dX12_freshRow_21 wF_X12_272 (A_106 hw) T9 ?_
  refine sv_aload_n (pc := 24) dX12_freshRow_24 rfl rfl ?_
  refine gk_X12_59 (pc := 25) dX12_freshRow_25 wF_X12_254 (A_106 hw) (u8.f (Or.inl (mAt.ne (A_149 hw) (A_106 hw) rfl)) (u5.f (Or.inl (mAt.ne (A_148 hw) (A_106 hw) rfl)) q2)) ?_
  refine mr_iconst (pc := 28) (z := 1) dX12_freshRow_28 ?_
  refine ss_150 (pc := 29) dX12_freshRow_29 (A_150 hw) T9 (rIx (n := 10) h3 rfl) (rW (c := 0) (d := 1) (rR (x := 1)) rfl) fun μ10 u11 T12 => ?_
  exact mr_vret dX12_freshRow_30 rfl (le_t rfl) (le_t rfl) T12 (mF.up (mF.up (mF.up mF.refl (A_148 hw) u5 rfl) (A_149 hw) u8 rfl) (A_150 hw) u11 rfl) trivial
theorem vc_X12_openLevel_1 {f_levels : Int} (h0 : f_levels ≤ 5) (h1 : 0 ≤ f_levels ∧ f_levels ≤ 6) : 0 ≤ f_levels ∧ f_levels ≤ 5 := by omega
theorem vc_X12_openLevel_2 {f_levels : Int} (h0 : f_levels ≤ 5) (h1 : 0 ≤ f_levels ∧ f_levels ≤ 5) : (f_levels + 1) = f_levels + 1 := by omega
set_option maxRecDepth 4000 in
set_option maxHeartbeats 4000000 in
theorem c_X12_openLevel {l : Launch} {D : va_G} {c : Nat → ClassId} {H0 : Heap} {sa : Nat × Nat × (Nat → Int32)} {w : mW} {μ : mM} (hw : mWF w) (hT : mT w μ) {f_levels : Int} (q_f_levels : μ 106 59 = f_levels) (hq0 : f_levels ≤ 5) : sC (gG l D c H0 sa) mX12_openLevel 2 0 0 [.ref 106] (mk w μ) (qV w [106059, 145999, 146999, 147999, 148999, 149999, 150999] μ (fun μ1 => ∃ o_levels : Int, μ1 106 59 = o_levels ∧ (o_levels = f_levels + 1) ∧ True)) := by
  refine sC.of rfl (by decide) (le_t rfl) ?_
  have ht_f_levels : (0 ≤ f_levels ∧ f_levels ≤ 6) := by rw [← q_f_levels]; exact hT 106 106 (A_106 hw) 59
  have h1 : 0 ≤ f_levels ∧ f_levels ≤ 5 := (vc_X12_openLevel_1 hq0 ht_f_levels)
  refine mr_lvE (lv' := [(0, .ref 106)]) rfl ?_
  refine sv_aload_n (pc := 0) dX12_openLevel_0 rfl rfl ?_
  refine gf_X12_60 (pc := 1) dX12_openLevel_1 wF_X12_250 (A_106 hw) hT ?_
  refine sv_aload_n (pc := 4) dX12_openLevel_4 rfl rfl ?_
  refine gk_X12_59 (pc := 5) dX12_openLevel_5 wF_X12_254 (A_106 hw) q_f_levels ?_
  refine mr_lconst (pc := 8) (z := 0) dX12_openLevel_8 (by decide) ?_
  refine ss_145 (pc := 9) dX12_openLevel_9 (A_145 hw) hT (rIx (n := 10) h1 rfl) (rW (c := -9223372036854775808) (d := 9223372036854775807) (rR (x := 0)) rfl) fun μ50 u51 T52 => ?_
  refine sv_aload_n (pc := 10) dX12_openLevel_10 rfl rfl ?_
  refine gf_X12_61 (pc := 11) dX12_openLevel_11 wF_X12_257 (A_106 hw) T52 ?_
  refine sv_aload_n (pc := 14) dX12_openLevel_14 rfl rfl ?_
  refine gk_X12_59 (pc := 15) dX12_openLevel_15 wF_X12_254 (A_106 hw) (u51.f (Or.inl (mAt.ne (A_145 hw) (A_106 hw) rfl)) q_f_levels) ?_
  refine mr_lconst (pc := 18) (z := 0) dX12_openLevel_18 (by decide) ?_
  refine ss_146 (pc := 19) dX12_openLevel_19 (A_146 hw) T52 (rIx (n := 10) h1 rfl) (rW (c := -9223372036854775808) (d := 9223372036854775807) (rR (x := 0)) rfl) fun μ53 u54 T55 => ?_
  refine sv_aload_n (pc := 20) dX12_openLevel_20 rfl rfl ?_
  refine gf_X12_62 (pc := 21) dX12_openLevel_21 wF_X12_260 (A_106 hw) T55 ?_
  refine sv_aload_n (pc := 24) dX12_openLevel_24 rfl rfl ?_
  refine gk_X12_59 (pc := 25) dX12_openLevel_25 wF_X12_254 (A_106 hw) (u54.f (Or.inl (mAt.ne (A_146 hw) (A_106 hw) rfl)) (u51.f (Or.inl (mAt.ne (A_145 hw) (A_106 hw) rfl)) q_f_levels)) ?_
  refine mr_iconst (pc := 28) (z := 0) dX12_openLevel_28 ?_
  refine ss_147 (pc := 29) dX12_openLevel_29 (A_147 hw) T55 (rIx (n := 10) h1 rfl) (rW (c := 0) (d := 1) (rR (x := 0)) rfl) fun μ56 u57 T58 => ?_
  refine sv_aload_n (pc := 30) dX12_openLevel_30 rfl rfl ?_
  refine mr_cVV (pc := 31) (c_X12_freshRow hw T58) (gOk _ _ _ _ _) dX12_openLevel_31 (tX12_freshRow _ _ _ _ _) ⟨wV_X12_freshRow, wL_X12_freshRow⟩ wM_X12_263 (gCX12 _ _ _ _ _) rfl (A_106 hw) rfl ⟨le_t rfl, le_t rfl⟩ ⟨le_t rfl, le_t rfl⟩ rfl (le_t rfl) fun μ59 T60 F61 h62 => ?_
  refine sv_aload_n (pc := 34) dX12_openLevel_34 rfl rfl ?_
  refine sv_dup (pc := 35) dX12_openLevel_35 rfl ?_
  refine gk_X12_59 (pc := 36) dX12_openLevel_36 wF_X12_254 (A_106 hw) (F61.f (A_106 hw) rfl (u57.f (Or.inl (mAt.ne (A_147 hw) (A_106 hw) rfl)) (u54.f (Or.inl (mAt.ne (A_146 hw) (A_106 hw) rfl)) (u51.f (Or.inl (mAt.ne (A_145 hw) (A_106 hw) rfl)) q_f_levels)))) ?_
  refine mr_iconst (pc := 39) (z := 1) dX12_openLevel_39 ?_
  refine mr_iadd (pc := 40) (x := f_levels) (y := 1) dX12_openLevel_40 ?_
  refine pf_X12_59 (pc := 41) dX12_openLevel_41 wF_X12_254 (A_106 hw) T60 (rW (c := 0) (d := 6) (rAdd (e := 1) (f := 6) h1 (rR (x := 1)) rfl) rfl) fun μ63 u64 T65 => ?_
  exact mr_vret dX12_openLevel_44 rfl (le_t rfl) (le_t rfl) T65 (mF.up (mF.call (mF.up (mF.up (mF.up mF.refl (A_145 hw) u51 rfl) (A_146 hw) u54 rfl) (A_147 hw) u57 rfl) F61 rfl) (A_106 hw) u64 rfl) ⟨(f_levels + 1), u64.1, (vc_X12_openLevel_2 hq0 h1), trivial⟩
theorem vc_X12_endRow_1 {f_levels : Int} (h0 : 1 ≤ f_levels) (h1 : 0 ≤ f_levels ∧ f_levels ≤ 6) : 1 ≤ f_levels ∧ f_levels ≤ 6 := by omega
set_option maxRecDepth 4000 in
set_option maxHeartbeats 4000000 in
theorem c_X12_endRow {l : Launch} {D : va_G} {c : Nat → ClassId} {H0 : Heap} {sa : Nat × Nat × (Nat → Int32)} {w : mW} {μ : mM} (hw : mWF w) (hT : mT w μ) {f_levels : Int} (q_f_levels : μ 106 59 = f_levels) (hq0 : 1 ≤ f_levels) : sC (gG l D c H0 sa) mX12_endRow 1 0 0 [.ref 106] (mk w μ) (qV w [145999, 146999, 147999] μ (fun μ1 => True)) := by
  refine sC.of rfl (by decide) (le_t rfl) ?_
  have ht_f_levels : (0 ≤ f_levels ∧ f_levels ≤ 6) := by rw [← q_f_levels]; exact hT 106 106 (A_106 hw) 59
  have h1 : 1 ≤ f_levels ∧ f_levels ≤ 6 := (vc_X12_endRow_1 hq0 ht_f_levels)
  refine mr_lvE (lv' := [(0, .ref 106)]) rfl ?_
  refine sv_aload_n (pc := 0) dX12_endRow_0 rfl rfl ?_
  refine gk_X12_59 (pc := 1) dX12_endRow_1 wF_X12_254 (A_106 hw) q_f_levels ?_
  refine mr_iconst (pc := 4) (z := 1) dX12_endRow_4 ?_
  refine mr_isub (pc := 5) (x := f_levels) (y := 1) dX12_endRow_5 ?_
  refine mr_istore_n (pc := 6) (lv' := [(1, iv (f_levels - 1)), (0, .ref 106)]) dX12_endRow_6 rfl (by decide) rfl ?_
  refine sv_aload_n (pc := 7) dX12_endRow_7 rfl rfl ?_
  refine gf_X12_60 (pc := 8) dX12_endRow_8 wF_X12_250 (A_106 hw) hT ?_
  refine mr_iload_n (pc := 11) (z := (f_levels - 1)) dX12_endRow_11 rfl rfl ?_
  refine sv_dup2 (pc := 12) dX12_endRow_12 rfl rfl ?_
  refine la_145 (pc := 13) dX12_endRow_13 (A_145 hw) hT (rIx (n := 10) (rSub (e := 0) (f := 5) h1 (rR (x := 1)) rfl) rfl) fun z131 q132 h133 => ?_
  refine sv_aload_n (pc := 14) dX12_endRow_14 rfl rfl ?_
  refine gf_X12_63 (pc := 15) dX12_endRow_15 wF_X12_266 (A_106 hw) hT ?_
  refine mr_iload_n (pc := 18) (z := (f_levels - 1)) dX12_endRow_18 rfl rfl ?_
  refine la_148 (pc := 19) dX12_endRow_19 (A_148 hw) hT (rIx (n := 10) (rSub (e := 0) (f := 5) h1 (rR (x := 1)) rfl) rfl) fun z134 q135 h136 => ?_
  refine mr_lor (pc := 20) dX12_endRow_20 ?_
  refine mr_genL (r64i _) fun z137 q138 h139 => ?_
  refine ss_145 (pc := 21) dX12_endRow_21 (A_145 hw) hT (rIx (n := 10) (rSub (e := 0) (f := 5) h1 (rR (x := 1)) rfl) rfl) h139 fun μ140 u141 T142 => ?_
  refine sv_aload_n (pc := 22) dX12_endRow_22 rfl rfl ?_
  refine gf_X12_61 (pc := 23) dX12_endRow_23 wF_X12_257 (A_106 hw) T142 ?_
  refine mr_iload_n (pc := 26) (z := (f_levels - 1)) dX12_endRow_26 rfl rfl ?_
  refine sv_dup2 (pc := 27) dX12_endRow_27 rfl rfl ?_
  refine la_146 (pc := 28) dX12_endRow_28 (A_146 hw) T142 (rIx (n := 10) (rSub (e := 0) (f := 5) h1 (rR (x := 1)) rfl) rfl) fun z143 q144 h145 => ?_
  refine sv_aload_n (pc := 29) dX12_endRow_29 rfl rfl ?_
  refine gf_X12_64 (pc := 30) dX12_endRow_30 wF_X12_269 (A_106 hw) T142 ?_
  refine mr_iload_n (pc := 33) (z := (f_levels - 1)) dX12_endRow_33 rfl rfl ?_
  refine la_149 (pc := 34) dX12_endRow_34 (A_149 hw) T142 (rIx (n := 10) (rSub (e := 0) (f := 5) h1 (rR (x := 1)) rfl) rfl) fun z146 q147 h148 => ?_
  refine mr_lor (pc := 35) dX12_endRow_35 ?_
  refine mr_genL (r64i _) fun z149 q150 h151 => ?_
  refine ss_146 (pc := 36) dX12_endRow_36 (A_146 hw) T142 (rIx (n := 10) (rSub (e := 0) (f := 5) h1 (rR (x := 1)) rfl) rfl) h151 fun μ152 u153 T154 => ?_
  refine sv_aload_n (pc := 37) dX12_endRow_37 rfl rfl ?_
  refine gf_X12_62 (pc := 38) dX12_endRow_38 wF_X12_260 (A_106 hw) T154 ?_
  refine mr_iload_n (pc := 41) (z := (f_levels - 1)) dX12_endRow_41 rfl rfl ?_
  refine sv_aload_n (pc := 42) dX12_endRow_42 rfl rfl ?_
  refine gf_X12_62 (pc := 43) dX12_endRow_43 wF_X12_260 (A_106 hw) T154 ?_
  refine mr_iload_n (pc := 46) (z := (f_levels - 1)) dX12_endRow_46 rfl rfl ?_
  refine la_147 (pc := 47) dX12_endRow_47 (A_147 hw) T154 (rIx (n := 10) (rSub (e := 0) (f := 5) h1 (rR (x := 1)) rfl) rfl) fun z155 q156 h157 => ?_
  refine mr_if_ne (pc := 48) (tgt := 60) dX12_endRow_48 (by decide) (r32 h157 rfl) (fun h165 => ?_) (fun h165 => ?_)
  · have h166 : 1 ≤ z155 ∧ z155 ≤ 1 := (vc_X12_ring_24 h165 h157)
    refine mr_iconst (pc := 60) (z := 1) dX12_endRow_60 ?_
    refine sv_goto (pc := 61) (tgt := 65) dX12_endRow_61 (by decide) ?_
    refine ss_147 (pc := 65) dX12_endRow_65 (A_147 hw) T154 (rIx (n := 10) (rSub (e := 0) (f := 5) h1 (rR (x := 1)) rfl) rfl) (rW (c := 0) (d := 1) (rR (x := 1)) rfl) fun μ167 u168 T169 => ?_
    exact mr_vret dX12_endRow_66 rfl (le_t rfl) (le_t rfl) T169 (mF.up (mF.up (mF.up mF.refl (A_145 hw) u141 rfl) (A_146 hw) u153 rfl) (A_147 hw) u168 rfl) trivial
  have h170 : 0 ≤ z155 ∧ z155 ≤ 0 := (vc_X12_ring_22 h165 h157)
  refine sv_aload_n (pc := 51) dX12_endRow_51 rfl rfl ?_
  refine gf_X12_65 (pc := 52) dX12_endRow_52 wF_X12_272 (A_106 hw) T154 ?_
  refine mr_iload_n (pc := 55) (z := (f_levels - 1)) dX12_endRow_55 rfl rfl ?_
  refine la_150 (pc := 56) dX12_endRow_56 (A_150 hw) T154 (rIx (n := 10) (rSub (e := 0) (f := 5) h1 (rR (x := 1)) rfl) rfl) fun z171 q172 h173 => ?_
  refine mr_if_eq (pc := 57) (tgt := 64) dX12_endRow_57 (by decide) (r32 h173 rfl) (fun h176 => ?_) (fun h176 => ?_)
  · have h177 : 0 ≤ z171 ∧ z171 ≤ 0 := (vc_X12_ring_22 h176 h173)
    refine mr_iconst (pc := 64) (z := 0) dX12_endRow_64 ?_
    refine ss_147 (pc := 65) dX12_endRow_65 (A_147 hw) T154 (rIx (n := 10) (rSub (e := 0) (f := 5) h1 (rR (x := 1)) rfl) rfl) (rW (c := 0) (d := 1) (rR (x := 0)) rfl) fun μ178 u179 T180 => ?_
    exact mr_vret dX12_endRow_66 rfl (le_t rfl) (le_t rfl) T180 (mF.up (mF.up (mF.up mF.refl (A_145 hw) u141 rfl) (A_146 hw) u153 rfl) (A_147 hw) u179 rfl) trivial
  have h181 : 1 ≤ z171 ∧ z171 ≤ 1 := (vc_X12_ring_24 h176 h173)
  refine mr_iconst (pc := 60) (z := 1) dX12_endRow_60 ?_
  refine sv_goto (pc := 61) (tgt := 65) dX12_endRow_61 (by decide) ?_
  refine ss_147 (pc := 65) dX12_endRow_65 (A_147 hw) T154 (rIx (n := 10) (rSub (e := 0) (f := 5) h1 (rR (x := 1)) rfl) rfl) (rW (c := 0) (d := 1) (rR (x := 1)) rfl) fun μ182 u183 T184 => ?_
  exact mr_vret dX12_endRow_66 rfl (le_t rfl) (le_t rfl) T184 (mF.up (mF.up (mF.up mF.refl (A_145 hw) u141 rfl) (A_146 hw) u153 rfl) (A_147 hw) u183 rfl) trivial
set_option maxRecDepth 4000 in
set_option maxHeartbeats 4000000 in
theorem c_X12_fault {l : Launch} {D : va_G} {c : Nat → ClassId} {H0 : Heap} {sa : Nat × Nat × (Nat → Int32)} {w : mW} {μ : mM} (hw : mWF w) (hT : mT w μ) : sC (gG l D c H0 sa) mX12_fault 1 0 0 [.ref 106] (mk w μ) (qP w μ (fun z => ((-2147483648) ≤ z ∧ z ≤ 2147483647) ∧ True)) := by
  refine sC.of rfl (by decide) (le_t rfl) ?_
  refine mr_lvE (lv' := [(0, .ref 106)]) rfl ?_
  refine sv_aload_n (pc := 0) dX12_fault_0 rfl rfl ?_
  refine gf_X12_66 (pc := 1) dX12_fault_1 wF_X12_376 (A_106 hw) hT fun z1 q2 h3 => ?_
  exact mr_iretP dX12_fault_4 rfl (le_t rfl) (le_t rfl) ⟨(rW (c := (-2147483648)) (d := 2147483647) h3 rfl), trivial⟩
theorem vc_X12_related_1 {p1 p3 : Int} (h0 : p3 < p1) (h1 : (-2147483648) ≤ p1 ∧ p1 ≤ 2147483647) (h2 : (-2147483648) ≤ p3 ∧ p3 ≤ 2147483647) : (-2147483647) ≤ p1 ∧ p1 ≤ 2147483647 := by omega
theorem vc_X12_related_2 {p1 p3 : Int} (h0 : p3 < p1) (h1 : (-2147483647) ≤ p1 ∧ p1 ≤ 2147483647) (h2 : (-2147483648) ≤ p3 ∧ p3 ≤ 2147483647) : (-2147483648) ≤ p3 ∧ p3 ≤ 2147483646 := by omega
theorem vc_X12_related_3 {p2 : Int} (h0 : p2 = 61) (h1 : ¬ p2 = 60) (h2 : (-2147483648) ≤ p2 ∧ p2 ≤ 2147483647) : 61 ≤ p2 ∧ p2 ≤ 61 := by omega
theorem vc_X12_related_4 {p2 : Int} (h0 : p2 = 60) (h1 : (-2147483648) ≤ p2 ∧ p2 ≤ 2147483647) : 60 ≤ p2 ∧ p2 ≤ 60 := by omega
set_option maxRecDepth 4000 in
set_option maxHeartbeats 4000000 in
theorem c_X12_related {l : Launch} {D : va_G} {c : Nat → ClassId} {H0 : Heap} {sa : Nat × Nat × (Nat → Int32)} {w : mW} {μ : mM} (hw : mWF w) (hT : mT w μ) {p1 : Int} (hp1 : (-2147483648) ≤ p1 ∧ p1 ≤ 2147483647) {p2 : Int} (hp2 : (-2147483648) ≤ p2 ∧ p2 ≤ 2147483647) {p3 : Int} (hp3 : (-2147483648) ≤ p3 ∧ p3 ≤ 2147483647) : sC (gG l D c H0 sa) mX12_related 1 0 0 [.ref 106, iv p1, iv p2, iv p3] (mk w μ) (qP w μ (fun z => (0 ≤ z ∧ z ≤ 1) ∧ True)) := by
  refine sC.of rfl (by decide) (le_t rfl) ?_
  refine mr_lvE (lv' := [(0, .ref 106), (1, iv p1), (2, iv p2), (3, iv p3)]) rfl ?_
  refine mr_iload_n (pc := 0) (z := p2) dX12_related_0 rfl rfl ?_
  refine mr_bipush (pc := 1) (z := 60) dX12_related_1 (by decide) ?_
  refine mr_icmp_ne (pc := 3) (tgt := 19) dX12_related_3 (by decide) hp2 (r32 (rR (x := 60)) rfl) (fun h7 => ?_) (fun h7 => ?_)
  · refine mr_iload_n (pc := 19) (z := p2) dX12_related_19 rfl rfl ?_
    refine mr_bipush (pc := 20) (z := 61) dX12_related_20 (by decide) ?_
    refine mr_icmp_ne (pc := 22) (tgt := 38) dX12_related_22 (by decide) hp2 (r32 (rR (x := 61)) rfl) (fun h11 => ?_) (fun h11 => ?_)
    · refine mr_iload_n (pc := 38) (z := p1) dX12_related_38 rfl rfl ?_
      refine mr_iload_n (pc := 39) (z := p3) dX12_related_39 rfl rfl ?_
      refine mr_icmp_le (pc := 40) (tgt := 47) dX12_related_40 (by decide) hp1 hp3 (fun h14 => ?_) (fun h14 => ?_)
      · refine mr_iconst (pc := 47) (z := 0) dX12_related_47 ?_
        exact mr_zretP dX12_related_48 rfl (rW (c := 0) (d := 1) (rR (x := 0)) rfl) (le_t rfl) (le_t rfl) ⟨(rW (c := 0) (d := 1) (rR (x := 0)) rfl), trivial⟩
      have h15 : (-2147483647) ≤ p1 ∧ p1 ≤ 2147483647 := (vc_X12_related_1 h14 hp1 hp3)
      have h16 : (-2147483648) ≤ p3 ∧ p3 ≤ 2147483646 := (vc_X12_related_2 h14 h15 hp3)
      refine mr_iconst (pc := 43) (z := 1) dX12_related_43 ?_
      refine sv_goto (pc := 44) (tgt := 48) dX12_related_44 (by decide) ?_
      exact mr_zretP dX12_related_48 rfl (rW (c := 0) (d := 1) (rR (x := 1)) rfl) (le_t rfl) (le_t rfl) ⟨(rW (c := 0) (d := 1) (rR (x := 1)) rfl), trivial⟩
    have h17 : 61 ≤ p2 ∧ p2 ≤ 61 := (vc_X12_related_3 h11 h7 hp2)
    refine mr_iload_n (pc := 25) (z := p1) dX12_related_25 rfl rfl ?_
    refine mr_iload_n (pc := 26) (z := p3) dX12_related_26 rfl rfl ?_
    refine mr_icmp_ne (pc := 27) (tgt := 34) dX12_related_27 (by decide) hp1 hp3 (fun h18 => ?_) (fun h18 => ?_)
    · refine mr_iconst (pc := 34) (z := 0) dX12_related_34 ?_
      refine sv_goto (pc := 35) (tgt := 48) dX12_related_35 (by decide) ?_
      exact mr_zretP dX12_related_48 rfl (rW (c := 0) (d := 1) (rR (x := 0)) rfl) (le_t rfl) (le_t rfl) ⟨(rW (c := 0) (d := 1) (rR (x := 0)) rfl), trivial⟩
    refine mr_iconst (pc := 30) (z := 1) dX12_related_30 ?_
    refine sv_goto (pc := 31) (tgt := 48) dX12_related_31 (by decide) ?_
    exact mr_zretP dX12_related_48 rfl (rW (c := 0) (d := 1) (rR (x := 1)) rfl) (le_t rfl) (le_t rfl) ⟨(rW (c := 0) (d := 1) (rR (x := 1)) rfl), trivial⟩
  have h19 : 60 ≤ p2 ∧ p2 ≤ 60 := (vc_X12_related_4 h7 hp2)
  refine mr_iload_n (pc := 6) (z := p1) dX12_related_6 rfl rfl ?_
  refine mr_iload_n (pc := 7) (z := p3) dX12_related_7 rfl rfl ?_
  refine mr_icmp_ge (pc := 8) (tgt := 15) dX12_related_8 (by decide) hp1 hp3 (fun h22 => ?_) (fun h22 => ?_)
  · refine mr_iconst (pc := 15) (z := 0) dX12_related_15 ?_
    refine sv_goto (pc := 16) (tgt := 48) dX12_related_16 (by decide) ?_
    exact mr_zretP dX12_related_48 rfl (rW (c := 0) (d := 1) (rR (x := 0)) rfl) (le_t rfl) (le_t rfl) ⟨(rW (c := 0) (d := 1) (rR (x := 0)) rfl), trivial⟩
  have h23 : (-2147483648) ≤ p1 ∧ p1 ≤ 2147483646 := (vc_X12_in_1 h22 hp1 hp3)
  have h24 : (-2147483647) ≤ p3 ∧ p3 ≤ 2147483647 := (vc_X12_in_2 h22 h23 hp3)
  refine mr_iconst (pc := 11) (z := 1) dX12_related_11 ?_
  refine sv_goto (pc := 12) (tgt := 48) dX12_related_12 (by decide) ?_
  exact mr_zretP dX12_related_48 rfl (rW (c := 0) (d := 1) (rR (x := 1)) rfl) (le_t rfl) (le_t rfl) ⟨(rW (c := 0) (d := 1) (rR (x := 1)) rfl), trivial⟩
theorem vc_X12_waysMatch_2 {z4 : Int} (h0 : ¬ z4 = 0) (h1 : 0 ≤ z4 ∧ z4 ≤ 20) : 1 ≤ z4 ∧ z4 ≤ 20 := by omega
theorem vc_X12_waysMatch_4 {z2392 z4 : Int} (h0 : z4 ≤ z2392) (h1 : ¬ z4 = 0) (h2 : 0 ≤ z2392 ∧ z2392 ≤ 20) (h3 : 1 ≤ z4 ∧ z4 ≤ 20) : 1 ≤ z2392 ∧ z2392 ≤ 20 := by omega
theorem vc_X12_waysMatch_5 {z2570 : Int} (h0 : z2570 = 0) (h1 : (-1) ≤ z2570 ∧ z2570 ≤ 1) : 0 ≤ z2570 ∧ z2570 ≤ 0 := by omega
theorem vc_X12_waysMatch_6 {z2392 z4 : Int} (h0 : z2392 < z4) (h1 : ¬ z4 = 0) (h2 : 0 ≤ z2392 ∧ z2392 ≤ 20) (h3 : 1 ≤ z4 ∧ z4 ≤ 20) : 0 ≤ z2392 ∧ z2392 ≤ 19 := by omega
theorem vc_X12_waysMatch_7 {z4109 : Int} (h0 : (41 - z4109) < ((0 : Nat) : Int)) (h1 : 0 ≤ z4109 ∧ z4109 ≤ 40) : False := by omega
theorem vc_X12_waysMatch_9 {N z2392 z4 : Int} (h0 : (21 - z2392) < N + 1) (h1 : z2392 < z4) (h2 : ¬ z4 = 0) (h3 : 0 ≤ z2392 ∧ z2392 ≤ 19) (h4 : 1 ≤ z4 ∧ z4 ≤ 20) : (21 - (z2392 + 1)) < N := by omega
theorem vc_X12_waysMatch_10 {z4109 z4119 z4476 : Int} (h0 : z4476 < z4119) (h1 : z4119 ≤ z4109) (h2 : 0 ≤ z4109 ∧ z4109 ≤ 40) (h3 : 0 ≤ z4119 ∧ z4119 ≤ 40) (h4 : 0 ≤ z4476 ∧ z4476 ≤ 40) : 0 ≤ z4476 ∧ z4476 ≤ 39 := by omega
theorem vc_X12_waysMatch_11 {z4109 z4119 z4476 : Int} (h0 : z4476 < z4119) (h1 : z4119 ≤ z4109) (h2 : 0 ≤ z4109 ∧ z4109 ≤ 40) (h3 : 0 ≤ z4119 ∧ z4119 ≤ 40) (h4 : 0 ≤ z4476 ∧ z4476 ≤ 39) : 1 ≤ z4119 ∧ z4119 ≤ 40 := by omega
theorem vc_X12_waysMatch_12 {N z4109 z4119 z4476 : Int} (h0 : (41 - z4476) < N + 1) (h1 : z4476 < z4119) (h2 : z4119 ≤ z4109) (h3 : 0 ≤ z4109 ∧ z4109 ≤ 40) (h4 : 1 ≤ z4119 ∧ z4119 ≤ 40) (h5 : 0 ≤ z4476 ∧ z4476 ≤ 39) : (41 - (z4476 + 1)) < N := by omega
theorem vc_X12_waysMatch_14  : (41 - 0) < ((42 : Nat) : Int) := by omega
theorem vc_X12_waysMatch_15 {z4109 z4119 : Int} (h0 : z4109 < z4119) (h1 : 0 ≤ z4109 ∧ z4109 ≤ 40) (h2 : 0 ≤ z4119 ∧ z4119 ≤ 40) : 0 ≤ z4109 ∧ z4109 ≤ 39 := by omega
theorem vc_X12_waysMatch_16 {z4109 z4119 : Int} (h0 : z4109 < z4119) (h1 : 0 ≤ z4109 ∧ z4109 ≤ 39) (h2 : 0 ≤ z4119 ∧ z4119 ≤ 40) : 1 ≤ z4119 ∧ z4119 ≤ 40 := by omega
theorem vc_X12_waysMatch_17 {N z4109 z4119 : Int} (h0 : (41 - z4109) < N + 1) (h1 : z4109 < z4119) (h2 : 0 ≤ z4109 ∧ z4109 ≤ 39) (h3 : 1 ≤ z4119 ∧ z4119 ≤ 40) : (41 - (z4109 + 1)) < N := by omega
theorem vc_X12_waysMatch_21 {p3 z2392 z4566 z4596 : Int} (h0 : z4566 = z4596) (h1 : 0 ≤ z4566) (h2 : ((((40 * p3) + 6) + z2392) % 40 = 0 → -1 ≤ z4596 ∧ z4596 ≤ 9)) (h3 : ((((40 * p3) + 6) + z2392) % 40 = 4 → 0 ≤ z4596 ∧ z4596 ≤ 20)) (h4 : ((((40 * p3) + 6) + z2392) % 40 = 5 → 0 ≤ z4596 ∧ z4596 ≤ 8)) (h5 : 0 ≤ p3 ∧ p3 ≤ 2099) (h6 : 0 ≤ z2392 ∧ z2392 ≤ 19) (h7 : 0 ≤ z4566 ∧ z4566 ≤ 2147483647) (h8 : (-2147483648) ≤ z4596 ∧ z4596 ≤ 2147483647) : 0 ≤ z4596 ∧ z4596 ≤ 2147483647 := by omega
theorem vc_X12_waysMatch_23 {z4 : Int} (h0 : z4 = 0) (h1 : 0 ≤ z4 ∧ z4 ≤ 20) : 0 ≤ z4 ∧ z4 ≤ 0 := by omega
set_option maxRecDepth 4000 in
set_option maxHeartbeats 4000000 in
theorem c_X12_waysMatch {l : Launch} {D : va_G} {c : Nat → ClassId} {H0 : Heap} {sa : Nat × Nat × (Nat → Int32)} {w : mW} {μ : mM} (hw : mWF w) (hT : mT w μ) {p1 : Int} (hp1 : 0 ≤ p1 ∧ p1 ≤ 11) {p2 : Int} (hp2 : 0 ≤ p2 ∧ p2 ≤ 3899) {p3 : Int} (hp3 : 0 ≤ p3 ∧ p3 ≤ 2099) : sC (gG l D c H0 sa) mX12_waysMatch 1 0 0 [.ref 106, iv p1, iv p2, iv p3] (mk w μ) (qP w μ (fun z => (0 ≤ z ∧ z ≤ 1) ∧ True)) := by
  refine sC.of rfl (by decide) (le_t rfl) ?_
  refine mr_lvE (lv' := [(0, .ref 106), (1, iv p1), (2, iv p2), (3, iv p3)]) rfl ?_
  refine sv_aload_n (pc := 0) dX12_waysMatch_0 rfl rfl ?_
  refine gf_X12_50 (pc := 1) dX12_waysMatch_1 wF_X12_305 (A_106 hw) hT ?_
  refine mr_iload_n (pc := 4) (z := p2) dX12_waysMatch_4 rfl rfl ?_
  refine la_137 (pc := 5) dX12_waysMatch_5 (A_137 hw) hT (rIx (n := 3900) hp2 rfl) fun z1 q2 h3 => ?_
  refine mr_lstore (pc := 6) (lv' := [(4, jv z1), (0, .ref 106), (1, iv p1), (2, iv p2), (3, iv p3)]) dX12_waysMatch_6 (by decide) rfl ?_
  refine sv_aload_n (pc := 8) dX12_waysMatch_8 rfl rfl ?_
  refine gf_X12_32 (pc := 9) dX12_waysMatch_9 wF_X12_148 (A_106 hw) hT ?_
  refine mr_bipush (pc := 12) (z := 40) dX12_waysMatch_12 (by decide) ?_
  refine mr_iload_n (pc := 14) (z := p3) dX12_waysMatch_14 rfl rfl ?_
  refine mr_imul (pc := 15) (x := 40) (y := p3) dX12_waysMatch_15 ?_
  refine mr_iconst (pc := 16) (z := 4) dX12_waysMatch_16 ?_
  refine mr_iadd (pc := 17) (x := (40 * p3)) (y := 4) dX12_waysMatch_17 ?_
  refine la_126 (pc := 18) dX12_waysMatch_18 (A_126 hw) hT (rIx (n := 84000) (rAdd (e := 4) (f := 83964) (rMulL (n := 40) (e := 0) (f := 83960) hp3 rfl) (rR (x := 4)) rfl) rfl) fun z4 q5 h6 => ?_
  have h7 : 0 ≤ z4 ∧ z4 ≤ 20 := h6.2.2.1 (vc_X12_same_33 hp3)
  refine mr_istore (pc := 19) (lv' := [(6, iv z4), (4, jv z1), (0, .ref 106), (1, iv p1), (2, iv p2), (3, iv p3)]) dX12_waysMatch_19 (by decide) rfl ?_
  refine mr_iload (pc := 21) (z := z4) dX12_waysMatch_21 rfl ?_
  refine mr_if_ne (pc := 23) (tgt := 33) dX12_waysMatch_23 (by decide) (r32 h7 rfl) (fun h8 => ?_) (fun h8 => ?_)
  · have h9 : 1 ≤ z4 ∧ z4 ≤ 20 := (vc_X12_waysMatch_2 h8 h7)
    refine mr_lconst (pc := 33) (z := 0) dX12_waysMatch_33 (by decide) ?_
    refine mr_lstore (pc := 34) (lv' := [(7, jv 0), (6, iv z4), (4, jv z1), (0, .ref 106), (1, iv p1), (2, iv p2), (3, iv p3)]) dX12_waysMatch_34 (by decide) rfl ?_
    refine mr_iconst (pc := 36) (z := 0) dX12_waysMatch_36 ?_
    refine mr_istore (pc := 37) (lv' := [(9, iv 0), (7, jv 0), (6, iv z4), (4, jv z1), (0, .ref 106), (1, iv p1), (2, iv p2), (3, iv p3)]) dX12_waysMatch_37 (by decide) rfl ?_
    have L2395 : ∀ (nL2395 : Nat) (z2394 z2393 z2392 : Int), True → ((-9223372036854775808) ≤ z2394 ∧ z2394 ≤ 9223372036854775807) → ((-9223372036854775808) ≤ z2393 ∧ z2393 ≤ 9223372036854775807) → (0 ≤ z2392 ∧ z2392 ≤ 20) → (21 - z2392) < (nL2395 : Int) → sV (gG l D c H0 sa) mX12_waysMatch (sRm 1 0 0) (sZ (gG l D c H0 sa) 0 0 (qP w μ (fun z => (0 ≤ z ∧ z ≤ 1) ∧ True))) 39 [(0, .ref 106), (1, iv p1), (2, iv p2), (3, iv p3), (4, jv z2394), (6, iv z4), (7, jv z2393), (9, iv z2392)] [] (mk w μ) 0 0 := by
      intro nL2395
      induction nL2395 with
      | zero => intro z2394 z2393 z2392 _ h2396 h2397 h2398 h2402; exact ((vc_X12_tieOf_1 h2402 h2398)).elim
      | succ nL2395 ih2403 =>
        intro z2394 z2393 z2392 _ h2396 h2397 h2398 h2402
        refine mr_iload (pc := 39) (z := z2392) dX12_waysMatch_39 rfl ?_
        refine mr_iload (pc := 41) (z := z4) dX12_waysMatch_41 rfl ?_
        refine mr_icmp_ge (pc := 43) (tgt := 193) dX12_waysMatch_43 (by decide) (r32 h2398 rfl) (r32 h9 rfl) (fun h2562 => ?_) (fun h2562 => ?_)
        · have h2563 : 1 ≤ z2392 ∧ z2392 ≤ 20 := (vc_X12_waysMatch_4 h2562 h8 h2398 h9)
          refine mr_lload (pc := 193) (z := z2393) dX12_waysMatch_193 rfl ?_
          refine sv_aload_n (pc := 195) dX12_waysMatch_195 rfl rfl ?_
          refine gf_X12_51 (pc := 196) dX12_waysMatch_196 wF_X12_308 (A_106 hw) hT ?_
          refine mr_iload_n (pc := 199) (z := p2) dX12_waysMatch_199 rfl rfl ?_
          refine la_138 (pc := 200) dX12_waysMatch_200 (A_138 hw) hT (rIx (n := 3900) hp2 rfl) fun z2564 q2565 h2566 => ?_
          refine mr_land (pc := 201) dX12_waysMatch_201 ?_
          refine mr_genL (r64i _) fun z2567 q2568 h2569 => ?_
          refine mr_lconst (pc := 202) (z := 0) dX12_waysMatch_202 (by decide) ?_
          refine mr_lcmp (pc := 203) dX12_waysMatch_203 ?_
          refine mr_gen (P := fun z => (-1) ≤ z ∧ z ≤ 1) (lg_cmp_r _ _) fun z2570 q2571 h2572 => ?_
          refine mr_if_eq (pc := 204) (tgt := 211) dX12_waysMatch_204 (by decide) (r32 h2572 rfl) (fun h2574 => ?_) (fun h2574 => ?_)
          · have h2575 : 0 ≤ z2570 ∧ z2570 ≤ 0 := (vc_X12_waysMatch_5 h2574 h2572)
            refine mr_iconst (pc := 211) (z := 0) dX12_waysMatch_211 ?_
            exact mr_zretP dX12_waysMatch_212 rfl (rW (c := 0) (d := 1) (rR (x := 0)) rfl) (le_t rfl) (le_t rfl) ⟨(rW (c := 0) (d := 1) (rR (x := 0)) rfl), trivial⟩
          refine mr_iconst (pc := 207) (z := 1) dX12_waysMatch_207 ?_
          refine sv_goto (pc := 208) (tgt := 212) dX12_waysMatch_208 (by decide) ?_
          exact mr_zretP dX12_waysMatch_212 rfl (rW (c := 0) (d := 1) (rR (x := 1)) rfl) (le_t rfl) (le_t rfl) ⟨(rW (c := 0) (d := 1) (rR (x := 1)) rfl), trivial⟩
        have h2576 : 0 ≤ z2392 ∧ z2392 ≤ 19 := (vc_X12_waysMatch_6 h2562 h8 h2398 h9)
        refine mr_lconst (pc := 46) (z := 0) dX12_waysMatch_46 (by decide) ?_
        refine mr_lstore (pc := 47) (lv' := [(7, jv 0), (0, .ref 106), (1, iv p1), (2, iv p2), (3, iv p3), (4, jv z2394), (6, iv z4), (9, iv z2392)]) dX12_waysMatch_47 (by decide) rfl ?_
        refine mr_iconst (pc := 49) (z := 0) dX12_waysMatch_49 ?_
        refine mr_istore (pc := 50) (lv' := [(10, iv 0), (7, jv 0), (0, .ref 106), (1, iv p1), (2, iv p2), (3, iv p3), (4, jv z2394), (6, iv z4), (9, iv z2392)]) dX12_waysMatch_50 (by decide) rfl ?_
        have L4111 : ∀ (nL4111 : Nat) (z4110 z4109 : Int), True → ((-9223372036854775808) ≤ z4110 ∧ z4110 ≤ 9223372036854775807) → (0 ≤ z4109 ∧ z4109 ≤ 40) → (41 - z4109) < (nL4111 : Int) → sV (gG l D c H0 sa) mX12_waysMatch (sRm 1 0 0) (sZ (gG l D c H0 sa) 0 0 (qP w μ (fun z => (0 ≤ z ∧ z ≤ 1) ∧ True))) 52 [(0, .ref 106), (1, iv p1), (2, iv p2), (3, iv p3), (4, jv z2394), (6, iv z4), (7, jv z4110), (9, iv z2392), (10, iv z4109)] [] (mk w μ) 0 0 := by
          intro nL4111
          induction nL4111 with
          | zero => intro z4110 z4109 _ h4112 h4113 h4117; exact ((vc_X12_waysMatch_7 h4117 h4113)).elim
          | succ nL4111 ih4118 =>
            intro z4110 z4109 _ h4112 h4113 h4117
            refine mr_iload (pc := 52) (z := z4109) dX12_waysMatch_52 rfl ?_
            refine sv_aload_n (pc := 54) dX12_waysMatch_54 rfl rfl ?_
            refine gf_X12_55 (pc := 55) dX12_waysMatch_55 wF_X12_292 (A_106 hw) hT ?_
            refine mr_iload_n (pc := 58) (z := p1) dX12_waysMatch_58 rfl rfl ?_
            refine la_142 (pc := 59) dX12_waysMatch_59 (A_142 hw) hT (rIx (n := 13) hp1 rfl) fun z4119 q4120 h4121 => ?_
            refine mr_icmp_ge (pc := 60) (tgt := 135) dX12_waysMatch_60 (by decide) (r32 h4113 rfl) (r32 h4121 rfl) (fun h4155 => ?_) (fun h4155 => ?_)
            · refine mr_lconst (pc := 135) (z := 0) dX12_waysMatch_135 (by decide) ?_
              refine mr_lstore (pc := 136) (lv' := [(4, jv 0), (0, .ref 106), (1, iv p1), (2, iv p2), (3, iv p3), (6, iv z4), (7, jv z4110), (9, iv z2392), (10, iv z4109)]) dX12_waysMatch_136 (by decide) rfl ?_
              refine mr_iconst (pc := 138) (z := 0) dX12_waysMatch_138 ?_
              refine mr_istore (pc := 139) (lv' := [(10, iv 0), (4, jv 0), (0, .ref 106), (1, iv p1), (2, iv p2), (3, iv p3), (6, iv z4), (7, jv z4110), (9, iv z2392)]) dX12_waysMatch_139 (by decide) rfl ?_
              have L4478 : ∀ (nL4478 : Nat) (z4477 z4476 : Int), True → ((-9223372036854775808) ≤ z4477 ∧ z4477 ≤ 9223372036854775807) → (0 ≤ z4476 ∧ z4476 ≤ 40) → (41 - z4476) < (nL4478 : Int) → sV (gG l D c H0 sa) mX12_waysMatch (sRm 1 0 0) (sZ (gG l D c H0 sa) 0 0 (qP w μ (fun z => (0 ≤ z ∧ z ≤ 1) ∧ True))) 141 [(0, .ref 106), (1, iv p1), (2, iv p2), (3, iv p3), (4, jv z4477), (6, iv z4), (7, jv z4110), (9, iv z2392), (10, iv z4476)] [] (mk w μ) 0 0 := by
                intro nL4478
                induction nL4478 with
                | zero => intro z4477 z4476 _ h4479 h4480 h4484; exact ((vc_X12_waysMatch_7 h4484 h4480)).elim
                | succ nL4478 ih4485 =>
                  intro z4477 z4476 _ h4479 h4480 h4484
                  refine mr_iload (pc := 141) (z := z4476) dX12_waysMatch_141 rfl ?_
                  refine sv_aload_n (pc := 143) dX12_waysMatch_143 rfl rfl ?_
                  refine gf_X12_55 (pc := 144) dX12_waysMatch_144 wF_X12_292 (A_106 hw) hT ?_
                  refine mr_iload_n (pc := 147) (z := p1) dX12_waysMatch_147 rfl rfl ?_
                  refine lk_142 (pc := 148) dX12_waysMatch_148 (A_142 hw) (rIx (n := 13) hp1 rfl) q4120 ?_
                  refine mr_icmp_ge (pc := 149) (tgt := 187) dX12_waysMatch_149 (by decide) (r32 h4480 rfl) (r32 h4121 rfl) (fun h4504 => ?_) (fun h4504 => ?_)
                  · refine mr_iinc (pc := 187) (lv' := [(9, iv (z2392 + 1)), (0, .ref 106), (1, iv p1), (2, iv p2), (3, iv p3), (4, jv z4477), (6, iv z4), (7, jv z4110), (10, iv z4476)]) dX12_waysMatch_187 rfl (by decide) rfl ?_
                    refine sv_goto (pc := 190) (tgt := 39) dX12_waysMatch_190 (by decide) ?_
                    refine mr_lvS (lv' := [(0, .ref 106), (1, iv p1), (2, iv p2), (3, iv p3), (4, jv z4477), (6, iv z4), (7, jv z4110), (9, iv (z2392 + 1))]) (List.forall_mem_cons.mpr ⟨rfl, List.forall_mem_cons.mpr ⟨rfl, List.forall_mem_cons.mpr ⟨rfl, List.forall_mem_cons.mpr ⟨rfl, List.forall_mem_cons.mpr ⟨rfl, List.forall_mem_cons.mpr ⟨rfl, List.forall_mem_cons.mpr ⟨rfl, List.forall_mem_cons.mpr ⟨rfl, fun _ h => absurd h List.not_mem_nil⟩⟩⟩⟩⟩⟩⟩⟩) ?_
                    exact ih2403 z4477 z4110 (z2392 + 1) trivial h4479 h4112 (rW (c := 0) (d := 20) (rAdd (e := 1) (f := 20) h2576 (rR (x := 1)) rfl) rfl) (vc_X12_waysMatch_9 (nS h2402) h2562 h8 h2576 h9)
                  have h4505 : 0 ≤ z4476 ∧ z4476 ≤ 39 := (vc_X12_waysMatch_10 h4504 h4155 h4113 h4121 h4480)
                  have h4506 : 1 ≤ z4119 ∧ z4119 ≤ 40 := (vc_X12_waysMatch_11 h4504 h4155 h4113 h4121 h4505)
                  refine mr_lload (pc := 152) (z := z4110) dX12_waysMatch_152 rfl ?_
                  refine mr_iload (pc := 154) (z := z4476) dX12_waysMatch_154 rfl ?_
                  refine mr_lshr (pc := 156) dX12_waysMatch_156 ?_
                  refine mr_genL (r64i _) fun z4507 q4508 h4509 => ?_
                  refine mr_lconst (pc := 157) (z := 1) dX12_waysMatch_157 (by decide) ?_
                  refine mr_land (pc := 158) dX12_waysMatch_158 ?_
                  refine mr_genL (r64i _) fun z4510 q4511 h4512 => ?_
                  refine mr_lconst (pc := 159) (z := 1) dX12_waysMatch_159 (by decide) ?_
                  refine mr_lcmp (pc := 160) dX12_waysMatch_160 ?_
                  refine mr_gen (P := fun z => (-1) ≤ z ∧ z ≤ 1) (lg_cmp_r _ _) fun z4513 q4514 h4515 => ?_
                  refine mr_if_ne (pc := 161) (tgt := 181) dX12_waysMatch_161 (by decide) (r32 h4515 rfl) (fun h4523 => ?_) (fun h4523 => ?_)
                  · refine mr_iinc (pc := 181) (lv' := [(10, iv (z4476 + 1)), (0, .ref 106), (1, iv p1), (2, iv p2), (3, iv p3), (4, jv z4477), (6, iv z4), (7, jv z4110), (9, iv z2392)]) dX12_waysMatch_181 rfl (by decide) rfl ?_
                    refine sv_goto (pc := 184) (tgt := 141) dX12_waysMatch_184 (by decide) ?_
                    refine mr_lvS (lv' := [(0, .ref 106), (1, iv p1), (2, iv p2), (3, iv p3), (4, jv z4477), (6, iv z4), (7, jv z4110), (9, iv z2392), (10, iv (z4476 + 1))]) (List.forall_mem_cons.mpr ⟨rfl, List.forall_mem_cons.mpr ⟨rfl, List.forall_mem_cons.mpr ⟨rfl, List.forall_mem_cons.mpr ⟨rfl, List.forall_mem_cons.mpr ⟨rfl, List.forall_mem_cons.mpr ⟨rfl, List.forall_mem_cons.mpr ⟨rfl, List.forall_mem_cons.mpr ⟨rfl, List.forall_mem_cons.mpr ⟨rfl, fun _ h => absurd h List.not_mem_nil⟩⟩⟩⟩⟩⟩⟩⟩⟩) ?_
                    exact ih4485 z4477 (z4476 + 1) trivial h4479 (rW (c := 0) (d := 40) (rAdd (e := 1) (f := 40) h4505 (rR (x := 1)) rfl) rfl) (vc_X12_waysMatch_12 (nS h4484) h4504 h4155 h4113 h4506 h4505)
                  have h4524 : 0 ≤ z4513 ∧ z4513 ≤ 0 := (vc_X12_waysMatch_5 h4523 h4515)
                  refine mr_lload (pc := 164) (z := z4477) dX12_waysMatch_164 rfl ?_
                  refine sv_aload_n (pc := 166) dX12_waysMatch_166 rfl rfl ?_
                  refine gf_X12_57 (pc := 167) dX12_waysMatch_167 wF_X12_275 (A_106 hw) hT ?_
                  refine mr_bipush (pc := 170) (z := 41) dX12_waysMatch_170 (by decide) ?_
                  refine mr_iload_n (pc := 172) (z := p1) dX12_waysMatch_172 rfl rfl ?_
                  refine mr_imul (pc := 173) (x := 41) (y := p1) dX12_waysMatch_173 ?_
                  refine mr_iload (pc := 174) (z := z4476) dX12_waysMatch_174 rfl ?_
                  refine mr_iadd (pc := 176) (x := (41 * p1)) (y := z4476) dX12_waysMatch_176 ?_
                  refine la_144 (pc := 177) dX12_waysMatch_177 (A_144 hw) hT (rIx (n := 533) (rAdd (e := 0) (f := 490) (rMulL (n := 41) (e := 0) (f := 451) hp1 rfl) h4505 rfl) rfl) fun z4525 q4526 h4527 => ?_
                  refine mr_lor (pc := 178) dX12_waysMatch_178 ?_
                  refine mr_genL (r64i _) fun z4528 q4529 h4530 => ?_
                  refine mr_lstore (pc := 179) (lv' := [(4, jv z4528), (0, .ref 106), (1, iv p1), (2, iv p2), (3, iv p3), (6, iv z4), (7, jv z4110), (9, iv z2392), (10, iv z4476)]) dX12_waysMatch_179 (by decide) rfl ?_
                  refine mr_iinc (pc := 181) (lv' := [(10, iv (z4476 + 1)), (4, jv z4528), (0, .ref 106), (1, iv p1), (2, iv p2), (3, iv p3), (6, iv z4), (7, jv z4110), (9, iv z2392)]) dX12_waysMatch_181 rfl (by decide) rfl ?_
                  refine sv_goto (pc := 184) (tgt := 141) dX12_waysMatch_184 (by decide) ?_
                  refine mr_lvS (lv' := [(0, .ref 106), (1, iv p1), (2, iv p2), (3, iv p3), (4, jv z4528), (6, iv z4), (7, jv z4110), (9, iv z2392), (10, iv (z4476 + 1))]) (List.forall_mem_cons.mpr ⟨rfl, List.forall_mem_cons.mpr ⟨rfl, List.forall_mem_cons.mpr ⟨rfl, List.forall_mem_cons.mpr ⟨rfl, List.forall_mem_cons.mpr ⟨rfl, List.forall_mem_cons.mpr ⟨rfl, List.forall_mem_cons.mpr ⟨rfl, List.forall_mem_cons.mpr ⟨rfl, List.forall_mem_cons.mpr ⟨rfl, fun _ h => absurd h List.not_mem_nil⟩⟩⟩⟩⟩⟩⟩⟩⟩) ?_
                  exact ih4485 z4528 (z4476 + 1) trivial h4530 (rW (c := 0) (d := 40) (rAdd (e := 1) (f := 40) h4505 (rR (x := 1)) rfl) rfl) (vc_X12_waysMatch_12 (nS h4484) h4504 h4155 h4113 h4506 h4505)
              refine mr_lvS (lv' := [(0, .ref 106), (1, iv p1), (2, iv p2), (3, iv p3), (4, jv 0), (6, iv z4), (7, jv z4110), (9, iv z2392), (10, iv 0)]) (List.forall_mem_cons.mpr ⟨rfl, List.forall_mem_cons.mpr ⟨rfl, List.forall_mem_cons.mpr ⟨rfl, List.forall_mem_cons.mpr ⟨rfl, List.forall_mem_cons.mpr ⟨rfl, List.forall_mem_cons.mpr ⟨rfl, List.forall_mem_cons.mpr ⟨rfl, List.forall_mem_cons.mpr ⟨rfl, List.forall_mem_cons.mpr ⟨rfl, fun _ h => absurd h List.not_mem_nil⟩⟩⟩⟩⟩⟩⟩⟩⟩) ?_
              exact L4478 42 0 0 trivial (rW (c := -9223372036854775808) (d := 9223372036854775807) (rR (x := 0)) rfl) (rW (c := 0) (d := 40) (rR (x := 0)) rfl) vc_X12_waysMatch_14
            have h4531 : 0 ≤ z4109 ∧ z4109 ≤ 39 := (vc_X12_waysMatch_15 h4155 h4113 h4121)
            have h4532 : 1 ≤ z4119 ∧ z4119 ≤ 40 := (vc_X12_waysMatch_16 h4155 h4531 h4121)
            refine mr_lload (pc := 63) (z := z2394) dX12_waysMatch_63 rfl ?_
            refine mr_iload (pc := 65) (z := z4109) dX12_waysMatch_65 rfl ?_
            refine mr_lshr (pc := 67) dX12_waysMatch_67 ?_
            refine mr_genL (r64i _) fun z4533 q4534 h4535 => ?_
            refine mr_lconst (pc := 68) (z := 1) dX12_waysMatch_68 (by decide) ?_
            refine mr_land (pc := 69) dX12_waysMatch_69 ?_
            refine mr_genL (r64i _) fun z4536 q4537 h4538 => ?_
            refine mr_lconst (pc := 70) (z := 1) dX12_waysMatch_70 (by decide) ?_
            refine mr_lcmp (pc := 71) dX12_waysMatch_71 ?_
            refine mr_gen (P := fun z => (-1) ≤ z ∧ z ≤ 1) (lg_cmp_r _ _) fun z4539 q4540 h4541 => ?_
            refine mr_if_ne (pc := 72) (tgt := 129) dX12_waysMatch_72 (by decide) (r32 h4541 rfl) (fun h4564 => ?_) (fun h4564 => ?_)
            · refine mr_iinc (pc := 129) (lv' := [(10, iv (z4109 + 1)), (0, .ref 106), (1, iv p1), (2, iv p2), (3, iv p3), (4, jv z2394), (6, iv z4), (7, jv z4110), (9, iv z2392)]) dX12_waysMatch_129 rfl (by decide) rfl ?_
              refine sv_goto (pc := 132) (tgt := 52) dX12_waysMatch_132 (by decide) ?_
              refine mr_lvS (lv' := [(0, .ref 106), (1, iv p1), (2, iv p2), (3, iv p3), (4, jv z2394), (6, iv z4), (7, jv z4110), (9, iv z2392), (10, iv (z4109 + 1))]) (List.forall_mem_cons.mpr ⟨rfl, List.forall_mem_cons.mpr ⟨rfl, List.forall_mem_cons.mpr ⟨rfl, List.forall_mem_cons.mpr ⟨rfl, List.forall_mem_cons.mpr ⟨rfl, List.forall_mem_cons.mpr ⟨rfl, List.forall_mem_cons.mpr ⟨rfl, List.forall_mem_cons.mpr ⟨rfl, List.forall_mem_cons.mpr ⟨rfl, fun _ h => absurd h List.not_mem_nil⟩⟩⟩⟩⟩⟩⟩⟩⟩) ?_
              exact ih4118 z4110 (z4109 + 1) trivial h4112 (rW (c := 0) (d := 40) (rAdd (e := 1) (f := 40) h4531 (rR (x := 1)) rfl) rfl) (vc_X12_waysMatch_17 (nS h4117) h4155 h4531 h4532)
            have h4565 : 0 ≤ z4539 ∧ z4539 ≤ 0 := (vc_X12_waysMatch_5 h4564 h4541)
            refine sv_aload_n (pc := 75) dX12_waysMatch_75 rfl rfl ?_
            refine gf_X12_56 (pc := 76) dX12_waysMatch_76 wF_X12_295 (A_106 hw) hT ?_
            refine mr_bipush (pc := 79) (z := 41) dX12_waysMatch_79 (by decide) ?_
            refine mr_iload_n (pc := 81) (z := p1) dX12_waysMatch_81 rfl rfl ?_
            refine mr_imul (pc := 82) (x := 41) (y := p1) dX12_waysMatch_82 ?_
            refine mr_iload (pc := 83) (z := z4109) dX12_waysMatch_83 rfl ?_
            refine mr_iadd (pc := 85) (x := (41 * p1)) (y := z4109) dX12_waysMatch_85 ?_
            refine la_143 (pc := 86) dX12_waysMatch_86 (A_143 hw) hT (rIx (n := 533) (rAdd (e := 0) (f := 490) (rMulL (n := 41) (e := 0) (f := 451) hp1 rfl) h4531 rfl) rfl) fun z4566 q4567 h4568 => ?_
            refine mr_if_lt (pc := 87) (tgt := 120) dX12_waysMatch_87 (by decide) h4568 (fun h4587 => ?_) (fun h4587 => ?_)
            · have h4588 : (-2147483648) ≤ z4566 ∧ z4566 ≤ (-1) := (vc_X12_ring_60 h4587 h4568)
              refine mr_lload (pc := 120) (z := z4110) dX12_waysMatch_120 rfl ?_
              refine mr_lconst (pc := 122) (z := 1) dX12_waysMatch_122 (by decide) ?_
              refine mr_iload (pc := 123) (z := z4109) dX12_waysMatch_123 rfl ?_
              refine mr_lshl (pc := 125) dX12_waysMatch_125 ?_
              refine mr_genL (r64i _) fun z4589 q4590 h4591 => ?_
              refine mr_lor (pc := 126) dX12_waysMatch_126 ?_
              refine mr_genL (r64i _) fun z4592 q4593 h4594 => ?_
              refine mr_lstore (pc := 127) (lv' := [(7, jv z4592), (0, .ref 106), (1, iv p1), (2, iv p2), (3, iv p3), (4, jv z2394), (6, iv z4), (9, iv z2392), (10, iv z4109)]) dX12_waysMatch_127 (by decide) rfl ?_
              refine mr_iinc (pc := 129) (lv' := [(10, iv (z4109 + 1)), (7, jv z4592), (0, .ref 106), (1, iv p1), (2, iv p2), (3, iv p3), (4, jv z2394), (6, iv z4), (9, iv z2392)]) dX12_waysMatch_129 rfl (by decide) rfl ?_
              refine sv_goto (pc := 132) (tgt := 52) dX12_waysMatch_132 (by decide) ?_
              refine mr_lvS (lv' := [(0, .ref 106), (1, iv p1), (2, iv p2), (3, iv p3), (4, jv z2394), (6, iv z4), (7, jv z4592), (9, iv z2392), (10, iv (z4109 + 1))]) (List.forall_mem_cons.mpr ⟨rfl, List.forall_mem_cons.mpr ⟨rfl, List.forall_mem_cons.mpr ⟨rfl, List.forall_mem_cons.mpr ⟨rfl, List.forall_mem_cons.mpr ⟨rfl, List.forall_mem_cons.mpr ⟨rfl, List.forall_mem_cons.mpr ⟨rfl, List.forall_mem_cons.mpr ⟨rfl, List.forall_mem_cons.mpr ⟨rfl, fun _ h => absurd h List.not_mem_nil⟩⟩⟩⟩⟩⟩⟩⟩⟩) ?_
              exact ih4118 z4592 (z4109 + 1) trivial h4594 (rW (c := 0) (d := 40) (rAdd (e := 1) (f := 40) h4531 (rR (x := 1)) rfl) rfl) (vc_X12_waysMatch_17 (nS h4117) h4155 h4531 h4532)
            have h4595 : 0 ≤ z4566 ∧ z4566 ≤ 2147483647 := (vc_X12_ring_1 h4587 h4568)
            refine sv_aload_n (pc := 90) dX12_waysMatch_90 rfl rfl ?_
            refine gf_X12_56 (pc := 91) dX12_waysMatch_91 wF_X12_295 (A_106 hw) hT ?_
            refine mr_bipush (pc := 94) (z := 41) dX12_waysMatch_94 (by decide) ?_
            refine mr_iload_n (pc := 96) (z := p1) dX12_waysMatch_96 rfl rfl ?_
            refine mr_imul (pc := 97) (x := 41) (y := p1) dX12_waysMatch_97 ?_
            refine mr_iload (pc := 98) (z := z4109) dX12_waysMatch_98 rfl ?_
            refine mr_iadd (pc := 100) (x := (41 * p1)) (y := z4109) dX12_waysMatch_100 ?_
            refine lk_143 (pc := 101) dX12_waysMatch_101 (A_143 hw) (rIx (n := 533) (rAdd (e := 0) (f := 490) (rMulL (n := 41) (e := 0) (f := 451) hp1 rfl) h4531 rfl) rfl) q4567 ?_
            refine sv_aload_n (pc := 102) dX12_waysMatch_102 rfl rfl ?_
            refine gf_X12_32 (pc := 103) dX12_waysMatch_103 wF_X12_148 (A_106 hw) hT ?_
            refine mr_bipush (pc := 106) (z := 40) dX12_waysMatch_106 (by decide) ?_
            refine mr_iload_n (pc := 108) (z := p3) dX12_waysMatch_108 rfl rfl ?_
            refine mr_imul (pc := 109) (x := 40) (y := p3) dX12_waysMatch_109 ?_
            refine mr_bipush (pc := 110) (z := 6) dX12_waysMatch_110 (by decide) ?_
            refine mr_iadd (pc := 112) (x := (40 * p3)) (y := 6) dX12_waysMatch_112 ?_
            refine mr_iload (pc := 113) (z := z2392) dX12_waysMatch_113 rfl ?_
            refine mr_iadd (pc := 115) (x := ((40 * p3) + 6)) (y := z2392) dX12_waysMatch_115 ?_
            refine la_126 (pc := 116) dX12_waysMatch_116 (A_126 hw) hT (rIx (n := 84000) (rAdd (e := 6) (f := 83985) (rAdd (e := 6) (f := 83966) (rMulL (n := 40) (e := 0) (f := 83960) hp3 rfl) (rR (x := 6)) rfl) h2576 rfl) rfl) fun z4596 q4597 h4598 => ?_
            refine mr_icmp_ne (pc := 117) (tgt := 129) dX12_waysMatch_117 (by decide) (r32 h4595 rfl) h4598.1 (fun h4606 => ?_) (fun h4606 => ?_)
            · refine mr_iinc (pc := 129) (lv' := [(10, iv (z4109 + 1)), (0, .ref 106), (1, iv p1), (2, iv p2), (3, iv p3), (4, jv z2394), (6, iv z4), (7, jv z4110), (9, iv z2392)]) dX12_waysMatch_129 rfl (by decide) rfl ?_
              refine sv_goto (pc := 132) (tgt := 52) dX12_waysMatch_132 (by decide) ?_
              refine mr_lvS (lv' := [(0, .ref 106), (1, iv p1), (2, iv p2), (3, iv p3), (4, jv z2394), (6, iv z4), (7, jv z4110), (9, iv z2392), (10, iv (z4109 + 1))]) (List.forall_mem_cons.mpr ⟨rfl, List.forall_mem_cons.mpr ⟨rfl, List.forall_mem_cons.mpr ⟨rfl, List.forall_mem_cons.mpr ⟨rfl, List.forall_mem_cons.mpr ⟨rfl, List.forall_mem_cons.mpr ⟨rfl, List.forall_mem_cons.mpr ⟨rfl, List.forall_mem_cons.mpr ⟨rfl, List.forall_mem_cons.mpr ⟨rfl, fun _ h => absurd h List.not_mem_nil⟩⟩⟩⟩⟩⟩⟩⟩⟩) ?_
              exact ih4118 z4110 (z4109 + 1) trivial h4112 (rW (c := 0) (d := 40) (rAdd (e := 1) (f := 40) h4531 (rR (x := 1)) rfl) rfl) (vc_X12_waysMatch_17 (nS h4117) h4155 h4531 h4532)
            have h4607 : 0 ≤ z4596 ∧ z4596 ≤ 2147483647 := (vc_X12_waysMatch_21 h4606 h4587 h4598.2.1 h4598.2.2.1 h4598.2.2.2 hp3 h2576 h4595 h4598.1)
            refine mr_lload (pc := 120) (z := z4110) dX12_waysMatch_120 rfl ?_
            refine mr_lconst (pc := 122) (z := 1) dX12_waysMatch_122 (by decide) ?_
            refine mr_iload (pc := 123) (z := z4109) dX12_waysMatch_123 rfl ?_
            refine mr_lshl (pc := 125) dX12_waysMatch_125 ?_
            refine mr_genL (r64i _) fun z4608 q4609 h4610 => ?_
            refine mr_lor (pc := 126) dX12_waysMatch_126 ?_
            refine mr_genL (r64i _) fun z4611 q4612 h4613 => ?_
            refine mr_lstore (pc := 127) (lv' := [(7, jv z4611), (0, .ref 106), (1, iv p1), (2, iv p2), (3, iv p3), (4, jv z2394), (6, iv z4), (9, iv z2392), (10, iv z4109)]) dX12_waysMatch_127 (by decide) rfl ?_
            refine mr_iinc (pc := 129) (lv' := [(10, iv (z4109 + 1)), (7, jv z4611), (0, .ref 106), (1, iv p1), (2, iv p2), (3, iv p3), (4, jv z2394), (6, iv z4), (9, iv z2392)]) dX12_waysMatch_129 rfl (by decide) rfl ?_
            refine sv_goto (pc := 132) (tgt := 52) dX12_waysMatch_132 (by decide) ?_
            refine mr_lvS (lv' := [(0, .ref 106), (1, iv p1), (2, iv p2), (3, iv p3), (4, jv z2394), (6, iv z4), (7, jv z4611), (9, iv z2392), (10, iv (z4109 + 1))]) (List.forall_mem_cons.mpr ⟨rfl, List.forall_mem_cons.mpr ⟨rfl, List.forall_mem_cons.mpr ⟨rfl, List.forall_mem_cons.mpr ⟨rfl, List.forall_mem_cons.mpr ⟨rfl, List.forall_mem_cons.mpr ⟨rfl, List.forall_mem_cons.mpr ⟨rfl, List.forall_mem_cons.mpr ⟨rfl, List.forall_mem_cons.mpr ⟨rfl, fun _ h => absurd h List.not_mem_nil⟩⟩⟩⟩⟩⟩⟩⟩⟩) ?_
            exact ih4118 z4611 (z4109 + 1) trivial h4613 (rW (c := 0) (d := 40) (rAdd (e := 1) (f := 40) h4531 (rR (x := 1)) rfl) rfl) (vc_X12_waysMatch_17 (nS h4117) h4155 h4531 h4532)
        refine mr_lvS (lv' := [(0, .ref 106), (1, iv p1), (2, iv p2), (3, iv p3), (4, jv z2394), (6, iv z4), (7, jv 0), (9, iv z2392), (10, iv 0)]) (List.forall_mem_cons.mpr ⟨rfl, List.forall_mem_cons.mpr ⟨rfl, List.forall_mem_cons.mpr ⟨rfl, List.forall_mem_cons.mpr ⟨rfl, List.forall_mem_cons.mpr ⟨rfl, List.forall_mem_cons.mpr ⟨rfl, List.forall_mem_cons.mpr ⟨rfl, List.forall_mem_cons.mpr ⟨rfl, List.forall_mem_cons.mpr ⟨rfl, fun _ h => absurd h List.not_mem_nil⟩⟩⟩⟩⟩⟩⟩⟩⟩) ?_
        exact L4111 42 0 0 trivial (rW (c := -9223372036854775808) (d := 9223372036854775807) (rR (x := 0)) rfl) (rW (c := 0) (d := 40) (rR (x := 0)) rfl) vc_X12_waysMatch_14
    refine mr_lvS (lv' := [(0, .ref 106), (1, iv p1), (2, iv p2), (3, iv p3), (4, jv z1), (6, iv z4), (7, jv 0), (9, iv 0)]) (List.forall_mem_cons.mpr ⟨rfl, List.forall_mem_cons.mpr ⟨rfl, List.forall_mem_cons.mpr ⟨rfl, List.forall_mem_cons.mpr ⟨rfl, List.forall_mem_cons.mpr ⟨rfl, List.forall_mem_cons.mpr ⟨rfl, List.forall_mem_cons.mpr ⟨rfl, List.forall_mem_cons.mpr ⟨rfl, fun _ h => absurd h List.not_mem_nil⟩⟩⟩⟩⟩⟩⟩⟩) ?_
    exact L2395 22 z1 0 0 trivial h3 (rW (c := -9223372036854775808) (d := 9223372036854775807) (rR (x := 0)) rfl) (rW (c := 0) (d := 20) (rR (x := 0)) rfl) vc_X12_tieOf_12
  have h4614 : 0 ≤ z4 ∧ z4 ≤ 0 := (vc_X12_waysMatch_23 h8 h7)
  refine sv_aload_n (pc := 26) dX12_waysMatch_26 rfl rfl ?_
  refine gf_X12_52 (pc := 27) dX12_waysMatch_27 wF_X12_311 (A_106 hw) hT ?_
  refine mr_iload_n (pc := 30) (z := p2) dX12_waysMatch_30 rfl rfl ?_
  refine la_139 (pc := 31) dX12_waysMatch_31 (A_139 hw) hT (rIx (n := 3900) hp2 rfl) fun z4615 q4616 h4617 => ?_
  exact mr_zretP dX12_waysMatch_32 rfl h4617 (le_t rfl) (le_t rfl) ⟨h4617, trivial⟩
end
