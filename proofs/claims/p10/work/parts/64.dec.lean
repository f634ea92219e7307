section
theorem dX0_goBy_0 : decode cX0_goBy 0 = .ok (.aload_n 0, 1) := dc0 dO_42 (by decide +kernel)
theorem dX0_goBy_1 : decode cX0_goBy 1 = .ok (.iload_n 2, 1) := dc0 dO_28 (by decide +kernel)
theorem dX0_goBy_2 : decode cX0_goBy 2 = .ok (.putfield 33, 3) := dcU2 dO_181 (by decide +kernel)
theorem dX0_goBy_5 : decode cX0_goBy 5 = .ok (.aload_n 0, 1) := dc0 dO_42 (by decide +kernel)
theorem dX0_goBy_6 : decode cX0_goBy 6 = .ok (.iconst 0, 1) := dc0 dO_3 (by decide +kernel)
theorem dX0_goBy_7 : decode cX0_goBy 7 = .ok (.putfield 37, 3) := dcU2 dO_181 (by decide +kernel)
theorem dX0_goBy_10 : decode cX0_goBy 10 = .ok (.iload_n 1, 1) := dc0 dO_27 (by decide +kernel)
theorem dX0_goBy_11 : decode cX0_goBy 11 = .ok (.istore_n 3, 1) := dc0 dO_62 (by decide +kernel)
theorem dX0_goBy_12 : decode cX0_goBy 12 = .ok (.iload_n 3, 1) := dc0 dO_29 (by decide +kernel)
theorem dX0_goBy_13 : decode cX0_goBy 13 = .ok (.ifCond .le 21, 3) := dcS2 dO_158 (by decide +kernel)
theorem dX0_goBy_16 : decode cX0_goBy 16 = .ok (.aload_n 0, 1) := dc0 dO_42 (by decide +kernel)
theorem dX0_goBy_17 : decode cX0_goBy 17 = .ok (.dup, 1) := dc0 dO_89 (by decide +kernel)
theorem dX0_goBy_18 : decode cX0_goBy 18 = .ok (.getfield 37, 3) := dcU2 dO_180 (by decide +kernel)
theorem dX0_goBy_21 : decode cX0_goBy 21 = .ok (.iconst 1, 1) := dc0 dO_4 (by decide +kernel)
theorem dX0_goBy_22 : decode cX0_goBy 22 = .ok (.iadd, 1) := dc0 dO_96 (by decide +kernel)
theorem dX0_goBy_23 : decode cX0_goBy 23 = .ok (.putfield 37, 3) := dcU2 dO_181 (by decide +kernel)
theorem dX0_goBy_26 : decode cX0_goBy 26 = .ok (.iload_n 3, 1) := dc0 dO_29 (by decide +kernel)
theorem dX0_goBy_27 : decode cX0_goBy 27 = .ok (.bipush 10, 2) := dcS1 dO_16 (by decide +kernel)
theorem dX0_goBy_29 : decode cX0_goBy 29 = .ok (.idiv, 1) := dc0 dO_108 (by decide +kernel)
theorem dX0_goBy_30 : decode cX0_goBy 30 = .ok (.istore_n 3, 1) := dc0 dO_62 (by decide +kernel)
theorem dX0_goBy_31 : decode cX0_goBy 31 = .ok (.goto (-19), 3) := dcS2 dO_167 (by decide +kernel)
theorem dX0_goBy_34 : decode cX0_goBy 34 = .ok (.iload_n 1, 1) := dc0 dO_27 (by decide +kernel)
theorem dX0_goBy_35 : decode cX0_goBy 35 = .ok (.istore_n 3, 1) := dc0 dO_62 (by decide +kernel)
theorem dX0_goBy_36 : decode cX0_goBy 36 = .ok (.aload_n 0, 1) := dc0 dO_42 (by decide +kernel)
theorem dX0_goBy_37 : decode cX0_goBy 37 = .ok (.getfield 37, 3) := dcU2 dO_180 (by decide +kernel)
theorem dX0_goBy_40 : decode cX0_goBy 40 = .ok (.iconst 1, 1) := dc0 dO_4 (by decide +kernel)
theorem dX0_goBy_41 : decode cX0_goBy 41 = .ok (.isub, 1) := dc0 dO_100 (by decide +kernel)
theorem dX0_goBy_42 : decode cX0_goBy 42 = .ok (.istore 4, 2) := dcU1 dO_54 (by decide +kernel)
theorem dX0_goBy_44 : decode cX0_goBy 44 = .ok (.iload 4, 2) := dcU1 dO_21 (by decide +kernel)
theorem dX0_goBy_46 : decode cX0_goBy 46 = .ok (.ifCond .lt 25, 3) := dcS2 dO_155 (by decide +kernel)
theorem dX0_goBy_49 : decode cX0_goBy 49 = .ok (.aload_n 0, 1) := dc0 dO_42 (by decide +kernel)
theorem dX0_goBy_50 : decode cX0_goBy 50 = .ok (.getfield 9, 3) := dcU2 dO_180 (by decide +kernel)
theorem dX0_goBy_53 : decode cX0_goBy 53 = .ok (.iload 4, 2) := dcU1 dO_21 (by decide +kernel)
theorem dX0_goBy_55 : decode cX0_goBy 55 = .ok (.iload_n 3, 1) := dc0 dO_29 (by decide +kernel)
theorem dX0_goBy_56 : decode cX0_goBy 56 = .ok (.bipush 10, 2) := dcS1 dO_16 (by decide +kernel)
theorem dX0_goBy_58 : decode cX0_goBy 58 = .ok (.irem, 1) := dc0 dO_112 (by decide +kernel)
theorem dX0_goBy_59 : decode cX0_goBy 59 = .ok (.iastore, 1) := dc0 dO_79 (by decide +kernel)
theorem dX0_goBy_60 : decode cX0_goBy 60 = .ok (.iload_n 3, 1) := dc0 dO_29 (by decide +kernel)
theorem dX0_goBy_61 : decode cX0_goBy 61 = .ok (.bipush 10, 2) := dcS1 dO_16 (by decide +kernel)
theorem dX0_goBy_63 : decode cX0_goBy 63 = .ok (.idiv, 1) := dc0 dO_108 (by decide +kernel)
theorem dX0_goBy_64 : decode cX0_goBy 64 = .ok (.istore_n 3, 1) := dc0 dO_62 (by decide +kernel)
theorem dX0_goBy_65 : decode cX0_goBy 65 = .ok (.iinc 4 (-1), 3) := dcI dO_132 (by decide +kernel)
theorem dX0_goBy_68 : decode cX0_goBy 68 = .ok (.goto (-24), 3) := dcS2 dO_167 (by decide +kernel)
theorem dX0_goBy_71 : decode cX0_goBy 71 = .ok (.return_, 1) := dc0 dO_177 (by decide +kernel)
theorem dX11_announce_0 : decode cX11_announce 0 = .ok (.aload_n 0, 1) := dc0 dO_42 (by decide +kernel)
theorem dX11_announce_1 : decode cX11_announce 1 = .ok (.iload_n 1, 1) := dc0 dO_27 (by decide +kernel)
theorem dX11_announce_2 : decode cX11_announce 2 = .ok (.invokevirtual 105, 3) := dcU2 dO_182 (by decide +kernel)
theorem dX11_announce_5 : decode cX11_announce 5 = .ok (.ifCond .eq 20, 3) := dcS2 dO_153 (by decide +kernel)
theorem dX11_announce_8 : decode cX11_announce 8 = .ok (.aload_n 0, 1) := dc0 dO_42 (by decide +kernel)
theorem dX11_announce_9 : decode cX11_announce 9 = .ok (.iload_n 2, 1) := dc0 dO_28 (by decide +kernel)
theorem dX11_announce_10 : decode cX11_announce 10 = .ok (.invokevirtual 182, 3) := dcU2 dO_182 (by decide +kernel)
theorem dX11_announce_13 : decode cX11_announce 13 = .ok (.ifCond .eq 12, 3) := dcS2 dO_153 (by decide +kernel)
theorem dX11_announce_16 : decode cX11_announce 16 = .ok (.iload_n 3, 1) := dc0 dO_29 (by decide +kernel)
theorem dX11_announce_17 : decode cX11_announce 17 = .ok (.ifCond .lt 8, 3) := dcS2 dO_155 (by decide +kernel)
theorem dX11_announce_20 : decode cX11_announce 20 = .ok (.iload_n 3, 1) := dc0 dO_29 (by decide +kernel)
theorem dX11_announce_21 : decode cX11_announce 21 = .ok (.iconst 2, 1) := dc0 dO_5 (by decide +kernel)
theorem dX11_announce_22 : decode cX11_announce 22 = .ok (.if_icmp .le 5, 3) := dcS2 dO_164 (by decide +kernel)
theorem dX11_announce_25 : decode cX11_announce 25 = .ok (.iconst (-1), 1) := dc0 dO_2 (by decide +kernel)
theorem dX11_announce_26 : decode cX11_announce 26 = .ok (.ireturn, 1) := dc0 dO_172 (by decide +kernel)
theorem dX11_announce_27 : decode cX11_announce 27 = .ok (.aload_n 0, 1) := dc0 dO_42 (by decide +kernel)
theorem dX11_announce_28 : decode cX11_announce 28 = .ok (.getfield 26, 3) := dcU2 dO_180 (by decide +kernel)
theorem dX11_announce_31 : decode cX11_announce 31 = .ok (.getfield 283, 3) := dcU2 dO_180 (by decide +kernel)
theorem dX11_announce_34 : decode cX11_announce 34 = .ok (.iload_n 1, 1) := dc0 dO_27 (by decide +kernel)
theorem dX11_announce_35 : decode cX11_announce 35 = .ok (.aaload, 1) := dc0 dO_50 (by decide +kernel)
theorem dX11_announce_36 : decode cX11_announce 36 = .ok (.getfield 293, 3) := dcU2 dO_180 (by decide +kernel)
theorem dX11_announce_39 : decode cX11_announce 39 = .ok (.iload_n 2, 1) := dc0 dO_28 (by decide +kernel)
theorem dX11_announce_40 : decode cX11_announce 40 = .ok (.iaload, 1) := dc0 dO_46 (by decide +kernel)
theorem dX11_announce_41 : decode cX11_announce 41 = .ok (.iload_n 3, 1) := dc0 dO_29 (by decide +kernel)
theorem dX11_announce_42 : decode cX11_announce 42 = .ok (.if_icmp .ne 6, 3) := dcS2 dO_160 (by decide +kernel)
theorem dX11_announce_45 : decode cX11_announce 45 = .ok (.bipush (-2), 2) := dcS1 dO_16 (by decide +kernel)
theorem dX11_announce_47 : decode cX11_announce 47 = .ok (.ireturn, 1) := dc0 dO_172 (by decide +kernel)
theorem dX11_announce_48 : decode cX11_announce 48 = .ok (.aload_n 0, 1) := dc0 dO_42 (by decide +kernel)
theorem dX11_announce_49 : decode cX11_announce 49 = .ok (.getfield 26, 3) := dcU2 dO_180 (by decide +kernel)
theorem dX11_announce_52 : decode cX11_announce 52 = .ok (.getfield 283, 3) := dcU2 dO_180 (by decide +kernel)
theorem dX11_announce_55 : decode cX11_announce 55 = .ok (.iload_n 1, 1) := dc0 dO_27 (by decide +kernel)
theorem dX11_announce_56 : decode cX11_announce 56 = .ok (.aaload, 1) := dc0 dO_50 (by decide +kernel)
theorem dX11_announce_57 : decode cX11_announce 57 = .ok (.getfield 293, 3) := dcU2 dO_180 (by decide +kernel)
theorem dX11_announce_60 : decode cX11_announce 60 = .ok (.iload_n 2, 1) := dc0 dO_28 (by decide +kernel)
theorem dX11_announce_61 : decode cX11_announce 61 = .ok (.iload_n 3, 1) := dc0 dO_29 (by decide +kernel)
theorem dX11_announce_62 : decode cX11_announce 62 = .ok (.iastore, 1) := dc0 dO_79 (by decide +kernel)
theorem dX11_announce_63 : decode cX11_announce 63 = .ok (.aload_n 0, 1) := dc0 dO_42 (by decide +kernel)
theorem dX11_announce_64 : decode cX11_announce 64 = .ok (.getfield 51, 3) := dcU2 dO_180 (by decide +kernel)
theorem dX11_announce_67 : decode cX11_announce 67 = .ok (.iload_n 1, 1) := dc0 dO_27 (by decide +kernel)
theorem dX11_announce_68 : decode cX11_announce 68 = .ok (.iload_n 2, 1) := dc0 dO_28 (by decide +kernel)
theorem dX11_announce_69 : decode cX11_announce 69 = .ok (.invokevirtual 296, 3) := dcU2 dO_182 (by decide +kernel)
theorem dX11_announce_72 : decode cX11_announce 72 = .ok (.iconst 0, 1) := dc0 dO_3 (by decide +kernel)
theorem dX11_announce_73 : decode cX11_announce 73 = .ok (.ireturn, 1) := dc0 dO_172 (by decide +kernel)
theorem dX11_demand_0 : decode cX11_demand 0 = .ok (.aload_n 0, 1) := dc0 dO_42 (by decide +kernel)
theorem dX11_demand_1 : decode cX11_demand 1 = .ok (.iload_n 1, 1) := dc0 dO_27 (by decide +kernel)
theorem dX11_demand_2 : decode cX11_demand 2 = .ok (.invokevirtual 105, 3) := dcU2 dO_182 (by decide +kernel)
theorem dX11_demand_5 : decode cX11_demand 5 = .ok (.ifCond .eq 14, 3) := dcS2 dO_153 (by decide +kernel)
theorem dX11_demand_8 : decode cX11_demand 8 = .ok (.iload_n 3, 1) := dc0 dO_29 (by decide +kernel)
theorem dX11_demand_9 : decode cX11_demand 9 = .ok (.iconst 1, 1) := dc0 dO_4 (by decide +kernel)
theorem dX11_demand_10 : decode cX11_demand 10 = .ok (.if_icmp .lt 9, 3) := dcS2 dO_161 (by decide +kernel)
theorem dX11_demand_13 : decode cX11_demand 13 = .ok (.iload_n 3, 1) := dc0 dO_29 (by decide +kernel)
theorem dX11_demand_14 : decode cX11_demand 14 = .ok (.ldc 226, 2) := dcU1 dO_18 (by decide +kernel)
theorem dX11_demand_16 : decode cX11_demand 16 = .ok (.if_icmp .le 5, 3) := dcS2 dO_164 (by decide +kernel)
theorem dX11_demand_19 : decode cX11_demand 19 = .ok (.iconst (-1), 1) := dc0 dO_2 (by decide +kernel)
theorem dX11_demand_20 : decode cX11_demand 20 = .ok (.ireturn, 1) := dc0 dO_172 (by decide +kernel)
theorem dX11_demand_21 : decode cX11_demand 21 = .ok (.aload_n 0, 1) := dc0 dO_42 (by decide +kernel)
theorem dX11_demand_22 : decode cX11_demand 22 = .ok (.getfield 65, 3) := dcU2 dO_180 (by decide +kernel)
theorem dX11_demand_25 : decode cX11_demand 25 = .ok (.getfield 373, 3) := dcU2 dO_180 (by decide +kernel)
theorem dX11_demand_28 : decode cX11_demand 28 = .ok (.bipush 16, 2) := dcS1 dO_16 (by decide +kernel)
theorem dX11_demand_30 : decode cX11_demand 30 = .ok (.if_icmp .lt 6, 3) := dcS2 dO_161 (by decide +kernel)
theorem dX11_demand_33 : decode cX11_demand 33 = .ok (.bipush (-3), 2) := dcS1 dO_16 (by decide +kernel)
theorem dX11_demand_35 : decode cX11_demand 35 = .ok (.ireturn, 1) := dc0 dO_172 (by decide +kernel)
theorem dX11_demand_36 : decode cX11_demand 36 = .ok (.aload_n 0, 1) := dc0 dO_42 (by decide +kernel)
theorem dX11_demand_37 : decode cX11_demand 37 = .ok (.getfield 65, 3) := dcU2 dO_180 (by decide +kernel)
theorem dX11_demand_40 : decode cX11_demand 40 = .ok (.iload_n 1, 1) := dc0 dO_27 (by decide +kernel)
theorem dX11_demand_41 : decode cX11_demand 41 = .ok (.iload_n 2, 1) := dc0 dO_28 (by decide +kernel)
theorem dX11_demand_42 : decode cX11_demand 42 = .ok (.iload_n 3, 1) := dc0 dO_29 (by decide +kernel)
theorem dX11_demand_43 : decode cX11_demand 43 = .ok (.invokevirtual 376, 3) := dcU2 dO_182 (by decide +kernel)
theorem dX11_demand_46 : decode cX11_demand 46 = .ok (.ireturn, 1) := dc0 dO_172 (by decide +kernel)
theorem dX11_differ_0 : decode cX11_differ 0 = .ok (.aload_n 0, 1) := dc0 dO_42 (by decide +kernel)
theorem dX11_differ_1 : decode cX11_differ 1 = .ok (.iload_n 1, 1) := dc0 dO_27 (by decide +kernel)
theorem dX11_differ_2 : decode cX11_differ 2 = .ok (.invokevirtual 105, 3) := dcU2 dO_182 (by decide +kernel)
theorem dX11_differ_5 : decode cX11_differ 5 = .ok (.ifCond .eq 23, 3) := dcS2 dO_153 (by decide +kernel)
theorem dX11_differ_8 : decode cX11_differ 8 = .ok (.aload_n 0, 1) := dc0 dO_42 (by decide +kernel)
theorem dX11_differ_9 : decode cX11_differ 9 = .ok (.iload_n 2, 1) := dc0 dO_28 (by decide +kernel)
theorem dX11_differ_10 : decode cX11_differ 10 = .ok (.invokevirtual 105, 3) := dcU2 dO_182 (by decide +kernel)
theorem dX11_differ_13 : decode cX11_differ 13 = .ok (.ifCond .eq 15, 3) := dcS2 dO_153 (by decide +kernel)
theorem dX11_differ_16 : decode cX11_differ 16 = .ok (.aload_n 0, 1) := dc0 dO_42 (by decide +kernel)
theorem dX11_differ_17 : decode cX11_differ 17 = .ok (.getfield 65, 3) := dcU2 dO_180 (by decide +kernel)
theorem dX11_differ_20 : decode cX11_differ 20 = .ok (.iload_n 1, 1) := dc0 dO_27 (by decide +kernel)
theorem dX11_differ_21 : decode cX11_differ 21 = .ok (.iload_n 2, 1) := dc0 dO_28 (by decide +kernel)
theorem dX11_differ_22 : decode cX11_differ 22 = .ok (.invokevirtual 388, 3) := dcU2 dO_182 (by decide +kernel)
theorem dX11_differ_25 : decode cX11_differ 25 = .ok (.goto 6, 3) := dcS2 dO_167 (by decide +kernel)
theorem dX11_differ_28 : decode cX11_differ 28 = .ok (.ldc2_w 392, 3) := dcU2 dO_20 (by decide +kernel)
theorem dX11_differ_31 : decode cX11_differ 31 = .ok (.lreturn, 1) := dc0 dO_173 (by decide +kernel)
theorem dX11_go_0 : decode cX11_go 0 = .ok (.iload_n 1, 1) := dc0 dO_27 (by decide +kernel)
theorem dX11_go_1 : decode cX11_go 1 = .ok (.iconst 1, 1) := dc0 dO_4 (by decide +kernel)
theorem dX11_go_2 : decode cX11_go 2 = .ok (.if_icmp .lt 10, 3) := dcS2 dO_161 (by decide +kernel)
theorem dX11_go_5 : decode cX11_go 5 = .ok (.iload_n 1, 1) := dc0 dO_27 (by decide +kernel)
theorem dX11_go_6 : decode cX11_go 6 = .ok (.sipush 500, 3) := dcS2 dO_17 (by decide +kernel)
theorem dX11_go_9 : decode cX11_go 9 = .ok (.if_icmp .le 5, 3) := dcS2 dO_164 (by decide +kernel)
theorem dX11_go_12 : decode cX11_go 12 = .ok (.iconst (-1), 1) := dc0 dO_2 (by decide +kernel)
theorem dX11_go_13 : decode cX11_go 13 = .ok (.ireturn, 1) := dc0 dO_172 (by decide +kernel)
theorem dX11_go_14 : decode cX11_go 14 = .ok (.iconst 0, 1) := dc0 dO_3 (by decide +kernel)
theorem dX11_go_15 : decode cX11_go 15 = .ok (.istore_n 2, 1) := dc0 dO_61 (by decide +kernel)
theorem dX11_go_16 : decode cX11_go 16 = .ok (.iload_n 2, 1) := dc0 dO_28 (by decide +kernel)
theorem dX11_go_17 : decode cX11_go 17 = .ok (.iload_n 1, 1) := dc0 dO_27 (by decide +kernel)
theorem dX11_go_18 : decode cX11_go 18 = .ok (.if_icmp .ge 22, 3) := dcS2 dO_162 (by decide +kernel)
theorem dX11_go_21 : decode cX11_go 21 = .ok (.aload_n 0, 1) := dc0 dO_42 (by decide +kernel)
theorem dX11_go_22 : decode cX11_go 22 = .ok (.getfield 51, 3) := dcU2 dO_180 (by decide +kernel)
theorem dX11_go_25 : decode cX11_go 25 = .ok (.ldc_w 299, 3) := dcU2 dO_19 (by decide +kernel)
theorem dX11_go_28 : decode cX11_go 28 = .ok (.invokevirtual 300, 3) := dcU2 dO_182 (by decide +kernel)
theorem dX11_go_31 : decode cX11_go 31 = .ok (.ifCond .eq 9, 3) := dcS2 dO_153 (by decide +kernel)
theorem dX11_go_34 : decode cX11_go 34 = .ok (.iinc 2 1, 3) := dcI dO_132 (by decide +kernel)
theorem dX11_go_37 : decode cX11_go 37 = .ok (.goto (-21), 3) := dcS2 dO_167 (by decide +kernel)
theorem dX11_go_40 : decode cX11_go 40 = .ok (.iload_n 2, 1) := dc0 dO_28 (by decide +kernel)
theorem dX11_go_41 : decode cX11_go 41 = .ok (.ireturn, 1) := dc0 dO_172 (by decide +kernel)
theorem dX11_hear_0 : decode cX11_hear 0 = .ok (.aload_n 0, 1) := dc0 dO_42 (by decide +kernel)
theorem dX11_hear_1 : decode cX11_hear 1 = .ok (.iload_n 1, 1) := dc0 dO_27 (by decide +kernel)
theorem dX11_hear_2 : decode cX11_hear 2 = .ok (.invokevirtual 119, 3) := dcU2 dO_182 (by decide +kernel)
theorem dX11_hear_5 : decode cX11_hear 5 = .ok (.ifCond .eq 10, 3) := dcS2 dO_153 (by decide +kernel)
theorem dX11_hear_8 : decode cX11_hear 8 = .ok (.iload_n 2, 1) := dc0 dO_28 (by decide +kernel)
theorem dX11_hear_9 : decode cX11_hear 9 = .ok (.invokestatic 271, 3) := dcU2 dO_184 (by decide +kernel)
theorem dX11_hear_12 : decode cX11_hear 12 = .ok (.ifCond .ne 5, 3) := dcS2 dO_154 (by decide +kernel)
theorem dX11_hear_15 : decode cX11_hear 15 = .ok (.iconst (-1), 1) := dc0 dO_2 (by decide +kernel)
theorem dX11_hear_16 : decode cX11_hear 16 = .ok (.ireturn, 1) := dc0 dO_172 (by decide +kernel)
theorem dX11_hear_17 : decode cX11_hear 17 = .ok (.aload_n 0, 1) := dc0 dO_42 (by decide +kernel)
theorem dX11_hear_18 : decode cX11_hear 18 = .ok (.getfield 58, 3) := dcU2 dO_180 (by decide +kernel)
theorem dX11_hear_21 : decode cX11_hear 21 = .ok (.getfield 344, 3) := dcU2 dO_180 (by decide +kernel)
theorem dX11_hear_24 : decode cX11_hear 24 = .ok (.ifCond .eq 18, 3) := dcS2 dO_153 (by decide +kernel)
theorem dX11_hear_27 : decode cX11_hear 27 = .ok (.aload_n 0, 1) := dc0 dO_42 (by decide +kernel)
theorem dX11_hear_28 : decode cX11_hear 28 = .ok (.getfield 26, 3) := dcU2 dO_180 (by decide +kernel)
theorem dX11_hear_31 : decode cX11_hear 31 = .ok (.getfield 122, 3) := dcU2 dO_180 (by decide +kernel)
theorem dX11_hear_34 : decode cX11_hear 34 = .ok (.iload_n 1, 1) := dc0 dO_27 (by decide +kernel)
theorem dX11_hear_35 : decode cX11_hear 35 = .ok (.aaload, 1) := dc0 dO_50 (by decide +kernel)
theorem dX11_hear_36 : decode cX11_hear 36 = .ok (.getfield 134, 3) := dcU2 dO_180 (by decide +kernel)
theorem dX11_hear_39 : decode cX11_hear 39 = .ok (.ifCond .ne 6, 3) := dcS2 dO_154 (by decide +kernel)
theorem dX11_hear_42 : decode cX11_hear 42 = .ok (.bipush (-2), 2) := dcS1 dO_16 (by decide +kernel)
theorem dX11_hear_44 : decode cX11_hear 44 = .ok (.ireturn, 1) := dc0 dO_172 (by decide +kernel)
theorem dX11_hear_45 : decode cX11_hear 45 = .ok (.aload_n 0, 1) := dc0 dO_42 (by decide +kernel)
theorem dX11_hear_46 : decode cX11_hear 46 = .ok (.getfield 51, 3) := dcU2 dO_180 (by decide +kernel)
theorem dX11_hear_49 : decode cX11_hear 49 = .ok (.aload_n 0, 1) := dc0 dO_42 (by decide +kernel)
theorem dX11_hear_50 : decode cX11_hear 50 = .ok (.getfield 58, 3) := dcU2 dO_180 (by decide +kernel)
theorem dX11_hear_53 : decode cX11_hear 53 = .ok (.iload_n 1, 1) := dc0 dO_27 (by decide +kernel)
theorem dX11_hear_54 : decode cX11_hear 54 = .ok (.iload_n 2, 1) := dc0 dO_28 (by decide +kernel)
theorem dX11_hear_55 : decode cX11_hear 55 = .ok (.invokevirtual 347, 3) := dcU2 dO_182 (by decide +kernel)
theorem dX11_hear_58 : decode cX11_hear 58 = .ok (.ireturn, 1) := dc0 dO_172 (by decide +kernel)
theorem dX11_isRule_0 : decode cX11_isRule 0 = .ok (.iload_n 0, 1) := dc0 dO_26 (by decide +kernel)
theorem dX11_isRule_1 : decode cX11_isRule 1 = .ok (.ifCond .ge 5, 3) := dcS2 dO_156 (by decide +kernel)
theorem dX11_isRule_4 : decode cX11_isRule 4 = .ok (.iconst 0, 1) := dc0 dO_3 (by decide +kernel)
theorem dX11_isRule_5 : decode cX11_isRule 5 = .ok (.ireturn, 1) := dc0 dO_172 (by decide +kernel)
theorem dX11_isRule_6 : decode cX11_isRule 6 = .ok (.iconst 0, 1) := dc0 dO_3 (by decide +kernel)
theorem dX11_isRule_7 : decode cX11_isRule 7 = .ok (.istore_n 1, 1) := dc0 dO_60 (by decide +kernel)
theorem dX11_isRule_8 : decode cX11_isRule 8 = .ok (.iload_n 0, 1) := dc0 dO_26 (by decide +kernel)
theorem dX11_isRule_9 : decode cX11_isRule 9 = .ok (.istore_n 2, 1) := dc0 dO_61 (by decide +kernel)
theorem dX11_isRule_10 : decode cX11_isRule 10 = .ok (.iload_n 2, 1) := dc0 dO_28 (by decide +kernel)
theorem dX11_isRule_11 : decode cX11_isRule 11 = .ok (.ifCond .le 43, 3) := dcS2 dO_158 (by decide +kernel)
theorem dX11_isRule_14 : decode cX11_isRule 14 = .ok (.iload_n 2, 1) := dc0 dO_28 (by decide +kernel)
theorem dX11_isRule_15 : decode cX11_isRule 15 = .ok (.bipush 10, 2) := dcS1 dO_16 (by decide +kernel)
theorem dX11_isRule_17 : decode cX11_isRule 17 = .ok (.irem, 1) := dc0 dO_112 (by decide +kernel)
theorem dX11_isRule_18 : decode cX11_isRule 18 = .ok (.istore_n 3, 1) := dc0 dO_62 (by decide +kernel)
theorem dX11_isRule_19 : decode cX11_isRule 19 = .ok (.iload_n 3, 1) := dc0 dO_29 (by decide +kernel)
theorem dX11_isRule_20 : decode cX11_isRule 20 = .ok (.iconst 1, 1) := dc0 dO_4 (by decide +kernel)
theorem dX11_isRule_21 : decode cX11_isRule 21 = .ok (.if_icmp .lt 17, 3) := dcS2 dO_161 (by decide +kernel)
theorem dX11_isRule_24 : decode cX11_isRule 24 = .ok (.iload_n 3, 1) := dc0 dO_29 (by decide +kernel)
theorem dX11_isRule_25 : decode cX11_isRule 25 = .ok (.bipush 6, 2) := dcS1 dO_16 (by decide +kernel)
theorem dX11_isRule_27 : decode cX11_isRule 27 = .ok (.if_icmp .gt 11, 3) := dcS2 dO_163 (by decide +kernel)
theorem dX11_isRule_30 : decode cX11_isRule 30 = .ok (.iload_n 1, 1) := dc0 dO_27 (by decide +kernel)
theorem dX11_isRule_31 : decode cX11_isRule 31 = .ok (.iload_n 3, 1) := dc0 dO_29 (by decide +kernel)
theorem dX11_isRule_32 : decode cX11_isRule 32 = .ok (.ishr, 1) := dc0 dO_122 (by decide +kernel)
theorem dX11_isRule_33 : decode cX11_isRule 33 = .ok (.iconst 1, 1) := dc0 dO_4 (by decide +kernel)
theorem dX11_isRule_34 : decode cX11_isRule 34 = .ok (.iand, 1) := dc0 dO_126 (by decide +kernel)
theorem dX11_isRule_35 : decode cX11_isRule 35 = .ok (.ifCond .eq 5, 3) := dcS2 dO_153 (by decide +kernel)
theorem dX11_isRule_38 : decode cX11_isRule 38 = .ok (.iconst 0, 1) := dc0 dO_3 (by decide +kernel)
theorem dX11_isRule_39 : decode cX11_isRule 39 = .ok (.ireturn, 1) := dc0 dO_172 (by decide +kernel)
theorem dX11_isRule_40 : decode cX11_isRule 40 = .ok (.iload_n 1, 1) := dc0 dO_27 (by decide +kernel)
theorem dX11_isRule_41 : decode cX11_isRule 41 = .ok (.iconst 1, 1) := dc0 dO_4 (by decide +kernel)
theorem dX11_isRule_42 : decode cX11_isRule 42 = .ok (.iload_n 3, 1) := dc0 dO_29 (by decide +kernel)
theorem dX11_isRule_43 : decode cX11_isRule 43 = .ok (.ishl, 1) := dc0 dO_120 (by decide +kernel)
theorem dX11_isRule_44 : decode cX11_isRule 44 = .ok (.ior, 1) := dc0 dO_128 (by decide +kernel)
theorem dX11_isRule_45 : decode cX11_isRule 45 = .ok (.istore_n 1, 1) := dc0 dO_60 (by decide +kernel)
theorem dX11_isRule_46 : decode cX11_isRule 46 = .ok (.iload_n 2, 1) := dc0 dO_28 (by decide +kernel)
theorem dX11_isRule_47 : decode cX11_isRule 47 = .ok (.bipush 10, 2) := dcS1 dO_16 (by decide +kernel)
theorem dX11_isRule_49 : decode cX11_isRule 49 = .ok (.idiv, 1) := dc0 dO_108 (by decide +kernel)
theorem dX11_isRule_50 : decode cX11_isRule 50 = .ok (.istore_n 2, 1) := dc0 dO_61 (by decide +kernel)
theorem dX11_isRule_51 : decode cX11_isRule 51 = .ok (.goto (-41), 3) := dcS2 dO_167 (by decide +kernel)
theorem dX11_isRule_54 : decode cX11_isRule 54 = .ok (.iconst 1, 1) := dc0 dO_4 (by decide +kernel)
theorem dX11_isRule_55 : decode cX11_isRule 55 = .ok (.ireturn, 1) := dc0 dO_172 (by decide +kernel)
theorem dX11_letter_0 : decode cX11_letter 0 = .ok (.aload_n 0, 1) := dc0 dO_42 (by decide +kernel)
theorem dX11_letter_1 : decode cX11_letter 1 = .ok (.iload_n 1, 1) := dc0 dO_27 (by decide +kernel)
theorem dX11_letter_2 : decode cX11_letter 2 = .ok (.invokevirtual 105, 3) := dcU2 dO_182 (by decide +kernel)
theorem dX11_letter_5 : decode cX11_letter 5 = .ok (.ifCond .eq 15, 3) := dcS2 dO_153 (by decide +kernel)
theorem dX11_letter_8 : decode cX11_letter 8 = .ok (.aload_n 0, 1) := dc0 dO_42 (by decide +kernel)
theorem dX11_letter_9 : decode cX11_letter 9 = .ok (.getfield 65, 3) := dcU2 dO_180 (by decide +kernel)
theorem dX11_letter_12 : decode cX11_letter 12 = .ok (.iload_n 1, 1) := dc0 dO_27 (by decide +kernel)
theorem dX11_letter_13 : decode cX11_letter 13 = .ok (.iload_n 2, 1) := dc0 dO_28 (by decide +kernel)
theorem dX11_letter_14 : decode cX11_letter 14 = .ok (.invokevirtual 364, 3) := dcU2 dO_182 (by decide +kernel)
theorem dX11_letter_17 : decode cX11_letter 17 = .ok (.goto 4, 3) := dcS2 dO_167 (by decide +kernel)
theorem dX11_letter_20 : decode cX11_letter 20 = .ok (.iconst (-1), 1) := dc0 dO_2 (by decide +kernel)
theorem dX11_letter_21 : decode cX11_letter 21 = .ok (.ireturn, 1) := dc0 dO_172 (by decide +kernel)
theorem dX11_load_0 : decode cX11_load 0 = .ok (.aload_n 0, 1) := dc0 dO_42 (by decide +kernel)
theorem dX11_load_1 : decode cX11_load 1 = .ok (.iload_n 1, 1) := dc0 dO_27 (by decide +kernel)
theorem dX11_load_2 : decode cX11_load 2 = .ok (.invokevirtual 119, 3) := dcU2 dO_182 (by decide +kernel)
theorem dX11_load_5 : decode cX11_load 5 = .ok (.ifCond .eq 10, 3) := dcS2 dO_153 (by decide +kernel)
theorem dX11_load_8 : decode cX11_load 8 = .ok (.iload_n 2, 1) := dc0 dO_28 (by decide +kernel)
theorem dX11_load_9 : decode cX11_load 9 = .ok (.invokestatic 271, 3) := dcU2 dO_184 (by decide +kernel)
theorem dX11_load_12 : decode cX11_load 12 = .ok (.ifCond .ne 5, 3) := dcS2 dO_154 (by decide +kernel)
theorem dX11_load_15 : decode cX11_load 15 = .ok (.iconst (-1), 1) := dc0 dO_2 (by decide +kernel)
theorem dX11_load_16 : decode cX11_load 16 = .ok (.ireturn, 1) := dc0 dO_172 (by decide +kernel)
theorem dX11_load_17 : decode cX11_load 17 = .ok (.aload_n 0, 1) := dc0 dO_42 (by decide +kernel)
theorem dX11_load_18 : decode cX11_load 18 = .ok (.getfield 26, 3) := dcU2 dO_180 (by decide +kernel)
theorem dX11_load_21 : decode cX11_load 21 = .ok (.getfield 122, 3) := dcU2 dO_180 (by decide +kernel)
theorem dX11_load_24 : decode cX11_load 24 = .ok (.iload_n 1, 1) := dc0 dO_27 (by decide +kernel)
theorem dX11_load_25 : decode cX11_load 25 = .ok (.aaload, 1) := dc0 dO_50 (by decide +kernel)
theorem dX11_load_26 : decode cX11_load 26 = .ok (.astore_n 3, 1) := dc0 dO_78 (by decide +kernel)
theorem dX11_load_27 : decode cX11_load 27 = .ok (.aload_n 0, 1) := dc0 dO_42 (by decide +kernel)
theorem dX11_load_28 : decode cX11_load 28 = .ok (.getfield 65, 3) := dcU2 dO_180 (by decide +kernel)
theorem dX11_load_31 : decode cX11_load 31 = .ok (.aload_n 3, 1) := dc0 dO_45 (by decide +kernel)
theorem dX11_load_32 : decode cX11_load 32 = .ok (.iload_n 2, 1) := dc0 dO_28 (by decide +kernel)
theorem dX11_load_33 : decode cX11_load 33 = .ok (.invokevirtual 277, 3) := dcU2 dO_182 (by decide +kernel)
theorem dX11_load_36 : decode cX11_load 36 = .ok (.aload_n 3, 1) := dc0 dO_45 (by decide +kernel)
theorem dX11_load_37 : decode cX11_load 37 = .ok (.iconst 1, 1) := dc0 dO_4 (by decide +kernel)
theorem dX11_load_38 : decode cX11_load 38 = .ok (.iload_n 2, 1) := dc0 dO_28 (by decide +kernel)
theorem dX11_load_39 : decode cX11_load 39 = .ok (.isub, 1) := dc0 dO_100 (by decide +kernel)
theorem dX11_load_40 : decode cX11_load 40 = .ok (.invokevirtual 277, 3) := dcU2 dO_182 (by decide +kernel)
theorem dX11_load_43 : decode cX11_load 43 = .ok (.invokevirtual 379, 3) := dcU2 dO_182 (by decide +kernel)
theorem dX11_load_46 : decode cX11_load 46 = .ok (.ireturn, 1) := dc0 dO_172 (by decide +kernel)
theorem dX11_raise_0 : decode cX11_raise 0 = .ok (.aload_n 0, 1) := dc0 dO_42 (by decide +kernel)
theorem dX11_raise_1 : decode cX11_raise 1 = .ok (.iload_n 1, 1) := dc0 dO_27 (by decide +kernel)
theorem dX11_raise_2 : decode cX11_raise 2 = .ok (.invokevirtual 119, 3) := dcU2 dO_182 (by decide +kernel)
theorem dX11_raise_5 : decode cX11_raise 5 = .ok (.ifCond .ne 5, 3) := dcS2 dO_154 (by decide +kernel)
theorem dX11_raise_8 : decode cX11_raise 8 = .ok (.iconst (-1), 1) := dc0 dO_2 (by decide +kernel)
theorem dX11_raise_9 : decode cX11_raise 9 = .ok (.ireturn, 1) := dc0 dO_172 (by decide +kernel)
theorem dX11_raise_10 : decode cX11_raise 10 = .ok (.aload_n 0, 1) := dc0 dO_42 (by decide +kernel)
theorem dX11_raise_11 : decode cX11_raise 11 = .ok (.getfield 26, 3) := dcU2 dO_180 (by decide +kernel)
theorem dX11_raise_14 : decode cX11_raise 14 = .ok (.getfield 122, 3) := dcU2 dO_180 (by decide +kernel)
theorem dX11_raise_17 : decode cX11_raise 17 = .ok (.iload_n 1, 1) := dc0 dO_27 (by decide +kernel)
theorem dX11_raise_18 : decode cX11_raise 18 = .ok (.aaload, 1) := dc0 dO_50 (by decide +kernel)
theorem dX11_raise_19 : decode cX11_raise 19 = .ok (.getfield 134, 3) := dcU2 dO_180 (by decide +kernel)
theorem dX11_raise_22 : decode cX11_raise 22 = .ok (.ifCond .eq 7, 3) := dcS2 dO_153 (by decide +kernel)
theorem dX11_raise_25 : decode cX11_raise 25 = .ok (.iconst 1, 1) := dc0 dO_4 (by decide +kernel)
theorem dX11_raise_26 : decode cX11_raise 26 = .ok (.goto 4, 3) := dcS2 dO_167 (by decide +kernel)
theorem dX11_raise_29 : decode cX11_raise 29 = .ok (.iconst 0, 1) := dc0 dO_3 (by decide +kernel)
theorem dX11_raise_30 : decode cX11_raise 30 = .ok (.istore_n 3, 1) := dc0 dO_62 (by decide +kernel)
theorem dX11_raise_31 : decode cX11_raise 31 = .ok (.iload_n 2, 1) := dc0 dO_28 (by decide +kernel)
theorem dX11_raise_32 : decode cX11_raise 32 = .ok (.ifCond .eq 37, 3) := dcS2 dO_153 (by decide +kernel)
theorem dX11_raise_35 : decode cX11_raise 35 = .ok (.aload_n 0, 1) := dc0 dO_42 (by decide +kernel)
theorem dX11_raise_36 : decode cX11_raise 36 = .ok (.getfield 26, 3) := dcU2 dO_180 (by decide +kernel)
theorem dX11_raise_39 : decode cX11_raise 39 = .ok (.getfield 122, 3) := dcU2 dO_180 (by decide +kernel)
theorem dX11_raise_42 : decode cX11_raise 42 = .ok (.iload_n 1, 1) := dc0 dO_27 (by decide +kernel)
theorem dX11_raise_43 : decode cX11_raise 43 = .ok (.aaload, 1) := dc0 dO_50 (by decide +kernel)
theorem dX11_raise_44 : decode cX11_raise 44 = .ok (.iconst 1, 1) := dc0 dO_4 (by decide +kernel)
theorem dX11_raise_45 : decode cX11_raise 45 = .ok (.putfield 134, 3) := dcU2 dO_181 (by decide +kernel)
theorem dX11_raise_48 : decode cX11_raise 48 = .ok (.aload_n 0, 1) := dc0 dO_42 (by decide +kernel)
theorem dX11_raise_49 : decode cX11_raise 49 = .ok (.getfield 51, 3) := dcU2 dO_180 (by decide +kernel)
theorem dX11_raise_52 : decode cX11_raise 52 = .ok (.iload_n 1, 1) := dc0 dO_27 (by decide +kernel)
theorem dX11_raise_53 : decode cX11_raise 53 = .ok (.iconst 0, 1) := dc0 dO_3 (by decide +kernel)
theorem dX11_raise_54 : decode cX11_raise 54 = .ok (.invokevirtual 138, 3) := dcU2 dO_182 (by decide +kernel)
theorem dX11_raise_57 : decode cX11_raise 57 = .ok (.aload_n 0, 1) := dc0 dO_42 (by decide +kernel)
theorem dX11_raise_58 : decode cX11_raise 58 = .ok (.getfield 51, 3) := dcU2 dO_180 (by decide +kernel)
theorem dX11_raise_61 : decode cX11_raise 61 = .ok (.iload_n 1, 1) := dc0 dO_27 (by decide +kernel)
theorem dX11_raise_62 : decode cX11_raise 62 = .ok (.iconst 1, 1) := dc0 dO_4 (by decide +kernel)
theorem dX11_raise_63 : decode cX11_raise 63 = .ok (.invokevirtual 138, 3) := dcU2 dO_182 (by decide +kernel)
theorem dX11_raise_66 : decode cX11_raise 66 = .ok (.goto 54, 3) := dcS2 dO_167 (by decide +kernel)
theorem dX11_raise_69 : decode cX11_raise 69 = .ok (.iload_n 3, 1) := dc0 dO_29 (by decide +kernel)
theorem dX11_raise_70 : decode cX11_raise 70 = .ok (.iconst 1, 1) := dc0 dO_4 (by decide +kernel)
theorem dX11_raise_71 : decode cX11_raise 71 = .ok (.if_icmp .ne 49, 3) := dcS2 dO_160 (by decide +kernel)
theorem dX11_raise_74 : decode cX11_raise 74 = .ok (.aload_n 0, 1) := dc0 dO_42 (by decide +kernel)
theorem dX11_raise_75 : decode cX11_raise 75 = .ok (.getfield 51, 3) := dcU2 dO_180 (by decide +kernel)
theorem dX11_raise_78 : decode cX11_raise 78 = .ok (.iload_n 1, 1) := dc0 dO_27 (by decide +kernel)
theorem dX11_raise_79 : decode cX11_raise 79 = .ok (.invokevirtual 142, 3) := dcU2 dO_182 (by decide +kernel)
theorem dX11_raise_82 : decode cX11_raise 82 = .ok (.aload_n 0, 1) := dc0 dO_42 (by decide +kernel)
theorem dX11_raise_83 : decode cX11_raise 83 = .ok (.getfield 51, 3) := dcU2 dO_180 (by decide +kernel)
theorem dX11_raise_86 : decode cX11_raise 86 = .ok (.aload_n 0, 1) := dc0 dO_42 (by decide +kernel)
theorem dX11_raise_87 : decode cX11_raise 87 = .ok (.getfield 26, 3) := dcU2 dO_180 (by decide +kernel)
theorem dX11_raise_90 : decode cX11_raise 90 = .ok (.getfield 122, 3) := dcU2 dO_180 (by decide +kernel)
theorem dX11_raise_93 : decode cX11_raise 93 = .ok (.iload_n 1, 1) := dc0 dO_27 (by decide +kernel)
theorem dX11_raise_94 : decode cX11_raise 94 = .ok (.aaload, 1) := dc0 dO_50 (by decide +kernel)
theorem dX11_raise_95 : decode cX11_raise 95 = .ok (.getfield 145, 3) := dcU2 dO_180 (by decide +kernel)
theorem dX11_raise_98 : decode cX11_raise 98 = .ok (.invokevirtual 148, 3) := dcU2 dO_182 (by decide +kernel)
theorem dX11_raise_101 : decode cX11_raise 101 = .ok (.aload_n 0, 1) := dc0 dO_42 (by decide +kernel)
theorem dX11_raise_102 : decode cX11_raise 102 = .ok (.getfield 51, 3) := dcU2 dO_180 (by decide +kernel)
theorem dX11_raise_105 : decode cX11_raise 105 = .ok (.aload_n 0, 1) := dc0 dO_42 (by decide +kernel)
theorem dX11_raise_106 : decode cX11_raise 106 = .ok (.getfield 26, 3) := dcU2 dO_180 (by decide +kernel)
theorem dX11_raise_109 : decode cX11_raise 109 = .ok (.getfield 122, 3) := dcU2 dO_180 (by decide +kernel)
theorem dX11_raise_112 : decode cX11_raise 112 = .ok (.iload_n 1, 1) := dc0 dO_27 (by decide +kernel)
theorem dX11_raise_113 : decode cX11_raise 113 = .ok (.aaload, 1) := dc0 dO_50 (by decide +kernel)
theorem dX11_raise_114 : decode cX11_raise 114 = .ok (.getfield 151, 3) := dcU2 dO_180 (by decide +kernel)
theorem dX11_raise_117 : decode cX11_raise 117 = .ok (.invokevirtual 148, 3) := dcU2 dO_182 (by decide +kernel)
theorem dX11_raise_120 : decode cX11_raise 120 = .ok (.iload_n 3, 1) := dc0 dO_29 (by decide +kernel)
theorem dX11_raise_121 : decode cX11_raise 121 = .ok (.ireturn, 1) := dc0 dO_172 (by decide +kernel)
theorem dX11_right_0 : decode cX11_right 0 = .ok (.aload_n 0, 1) := dc0 dO_42 (by decide +kernel)
theorem dX11_right_1 : decode cX11_right 1 = .ok (.iload_n 1, 1) := dc0 dO_27 (by decide +kernel)
theorem dX11_right_2 : decode cX11_right 2 = .ok (.invokevirtual 182, 3) := dcU2 dO_182 (by decide +kernel)
theorem dX11_right_5 : decode cX11_right 5 = .ok (.ifCond .eq 30, 3) := dcS2 dO_153 (by decide +kernel)
theorem dX11_right_8 : decode cX11_right 8 = .ok (.aload_n 0, 1) := dc0 dO_42 (by decide +kernel)
theorem dX11_right_9 : decode cX11_right 9 = .ok (.iload_n 3, 1) := dc0 dO_29 (by decide +kernel)
theorem dX11_right_10 : decode cX11_right 10 = .ok (.invokevirtual 105, 3) := dcU2 dO_182 (by decide +kernel)
theorem dX11_right_13 : decode cX11_right 13 = .ok (.ifCond .eq 22, 3) := dcS2 dO_153 (by decide +kernel)
theorem dX11_right_16 : decode cX11_right 16 = .ok (.iload_n 2, 1) := dc0 dO_28 (by decide +kernel)
theorem dX11_right_17 : decode cX11_right 17 = .ok (.aload_n 0, 1) := dc0 dO_42 (by decide +kernel)
theorem dX11_right_18 : decode cX11_right 18 = .ok (.getfield 26, 3) := dcU2 dO_180 (by decide +kernel)
theorem dX11_right_21 : decode cX11_right 21 = .ok (.getfield 185, 3) := dcU2 dO_180 (by decide +kernel)
theorem dX11_right_24 : decode cX11_right 24 = .ok (.iload_n 1, 1) := dc0 dO_27 (by decide +kernel)
theorem dX11_right_25 : decode cX11_right 25 = .ok (.iaload, 1) := dc0 dO_46 (by decide +kernel)
theorem dX11_right_26 : decode cX11_right 26 = .ok (.if_icmp .lt 9, 3) := dcS2 dO_161 (by decide +kernel)
theorem dX11_right_29 : decode cX11_right 29 = .ok (.iload_n 2, 1) := dc0 dO_28 (by decide +kernel)
theorem dX11_right_30 : decode cX11_right 30 = .ok (.bipush 32, 2) := dcS1 dO_16 (by decide +kernel)
theorem dX11_right_32 : decode cX11_right 32 = .ok (.if_icmp .le 5, 3) := dcS2 dO_164 (by decide +kernel)
theorem dX11_right_35 : decode cX11_right 35 = .ok (.iconst (-1), 1) := dc0 dO_2 (by decide +kernel)
theorem dX11_right_36 : decode cX11_right 36 = .ok (.ireturn, 1) := dc0 dO_172 (by decide +kernel)
theorem dX11_right_37 : decode cX11_right 37 = .ok (.iload 4, 2) := dcU1 dO_21 (by decide +kernel)
theorem dX11_right_39 : decode cX11_right 39 = .ok (.ifCond .lt 15, 3) := dcS2 dO_155 (by decide +kernel)
theorem dX11_right_42 : decode cX11_right 42 = .ok (.iload 5, 2) := dcU1 dO_21 (by decide +kernel)
theorem dX11_right_44 : decode cX11_right 44 = .ok (.iload 4, 2) := dcU1 dO_21 (by decide +kernel)
theorem dX11_right_46 : decode cX11_right 46 = .ok (.if_icmp .le 8, 3) := dcS2 dO_164 (by decide +kernel)
theorem dX11_right_49 : decode cX11_right 49 = .ok (.iload 6, 2) := dcU1 dO_21 (by decide +kernel)
theorem dX11_right_51 : decode cX11_right 51 = .ok (.ifCond .ge 5, 3) := dcS2 dO_156 (by decide +kernel)
theorem dX11_right_54 : decode cX11_right 54 = .ok (.iconst (-1), 1) := dc0 dO_2 (by decide +kernel)
theorem dX11_right_55 : decode cX11_right 55 = .ok (.ireturn, 1) := dc0 dO_172 (by decide +kernel)
theorem dX11_right_56 : decode cX11_right 56 = .ok (.aload_n 0, 1) := dc0 dO_42 (by decide +kernel)
theorem dX11_right_57 : decode cX11_right 57 = .ok (.getfield 26, 3) := dcU2 dO_180 (by decide +kernel)
theorem dX11_right_60 : decode cX11_right 60 = .ok (.getfield 188, 3) := dcU2 dO_180 (by decide +kernel)
theorem dX11_right_63 : decode cX11_right 63 = .ok (.bipush 30, 2) := dcS1 dO_16 (by decide +kernel)
theorem dX11_right_65 : decode cX11_right 65 = .ok (.if_icmp .lt 6, 3) := dcS2 dO_161 (by decide +kernel)
theorem dX11_right_68 : decode cX11_right 68 = .ok (.bipush (-3), 2) := dcS1 dO_16 (by decide +kernel)
theorem dX11_right_70 : decode cX11_right 70 = .ok (.ireturn, 1) := dc0 dO_172 (by decide +kernel)
theorem dX11_right_71 : decode cX11_right 71 = .ok (.aload_n 0, 1) := dc0 dO_42 (by decide +kernel)
theorem dX11_right_72 : decode cX11_right 72 = .ok (.getfield 26, 3) := dcU2 dO_180 (by decide +kernel)
theorem dX11_right_75 : decode cX11_right 75 = .ok (.iload_n 1, 1) := dc0 dO_27 (by decide +kernel)
theorem dX11_right_76 : decode cX11_right 76 = .ok (.iload_n 2, 1) := dc0 dO_28 (by decide +kernel)
theorem dX11_right_77 : decode cX11_right 77 = .ok (.iload_n 3, 1) := dc0 dO_29 (by decide +kernel)
theorem dX11_right_78 : decode cX11_right 78 = .ok (.iload 4, 2) := dcU1 dO_21 (by decide +kernel)
theorem dX11_right_80 : decode cX11_right 80 = .ok (.iload 5, 2) := dcU1 dO_21 (by decide +kernel)
theorem dX11_right_82 : decode cX11_right 82 = .ok (.iload 6, 2) := dcU1 dO_21 (by decide +kernel)
theorem dX11_right_84 : decode cX11_right 84 = .ok (.invokevirtual 191, 3) := dcU2 dO_182 (by decide +kernel)
theorem dX11_right_87 : decode cX11_right 87 = .ok (.istore 7, 2) := dcU1 dO_54 (by decide +kernel)
theorem dX11_right_89 : decode cX11_right 89 = .ok (.aload_n 0, 1) := dc0 dO_42 (by decide +kernel)
theorem dX11_right_90 : decode cX11_right 90 = .ok (.getfield 51, 3) := dcU2 dO_180 (by decide +kernel)
theorem dX11_right_93 : decode cX11_right 93 = .ok (.invokevirtual 179, 3) := dcU2 dO_182 (by decide +kernel)
theorem dX11_right_96 : decode cX11_right 96 = .ok (.iload 7, 2) := dcU1 dO_21 (by decide +kernel)
theorem dX11_right_98 : decode cX11_right 98 = .ok (.ireturn, 1) := dc0 dO_172 (by decide +kernel)
theorem dX11_rule_0 : decode cX11_rule 0 = .ok (.aload_n 0, 1) := dc0 dO_42 (by decide +kernel)
theorem dX11_rule_1 : decode cX11_rule 1 = .ok (.iload_n 1, 1) := dc0 dO_27 (by decide +kernel)
theorem dX11_rule_2 : decode cX11_rule 2 = .ok (.invokevirtual 105, 3) := dcU2 dO_182 (by decide +kernel)
theorem dX11_rule_5 : decode cX11_rule 5 = .ok (.ifCond .eq 10, 3) := dcS2 dO_153 (by decide +kernel)
theorem dX11_rule_8 : decode cX11_rule 8 = .ok (.iload_n 2, 1) := dc0 dO_28 (by decide +kernel)
theorem dX11_rule_9 : decode cX11_rule 9 = .ok (.invokestatic 280, 3) := dcU2 dO_184 (by decide +kernel)
theorem dX11_rule_12 : decode cX11_rule 12 = .ok (.ifCond .ne 5, 3) := dcS2 dO_154 (by decide +kernel)
theorem dX11_rule_15 : decode cX11_rule 15 = .ok (.iconst (-1), 1) := dc0 dO_2 (by decide +kernel)
theorem dX11_rule_16 : decode cX11_rule 16 = .ok (.ireturn, 1) := dc0 dO_172 (by decide +kernel)
theorem dX11_rule_17 : decode cX11_rule 17 = .ok (.aload_n 0, 1) := dc0 dO_42 (by decide +kernel)
theorem dX11_rule_18 : decode cX11_rule 18 = .ok (.getfield 26, 3) := dcU2 dO_180 (by decide +kernel)
theorem dX11_rule_21 : decode cX11_rule 21 = .ok (.getfield 283, 3) := dcU2 dO_180 (by decide +kernel)
theorem dX11_rule_24 : decode cX11_rule 24 = .ok (.iload_n 1, 1) := dc0 dO_27 (by decide +kernel)
theorem dX11_rule_25 : decode cX11_rule 25 = .ok (.aaload, 1) := dc0 dO_50 (by decide +kernel)
theorem dX11_rule_26 : decode cX11_rule 26 = .ok (.iload_n 2, 1) := dc0 dO_28 (by decide +kernel)
theorem dX11_rule_27 : decode cX11_rule 27 = .ok (.iload_n 3, 1) := dc0 dO_29 (by decide +kernel)
theorem dX11_rule_28 : decode cX11_rule 28 = .ok (.invokevirtual 287, 3) := dcU2 dO_182 (by decide +kernel)
theorem dX11_rule_31 : decode cX11_rule 31 = .ok (.aload_n 0, 1) := dc0 dO_42 (by decide +kernel)
theorem dX11_rule_32 : decode cX11_rule 32 = .ok (.getfield 51, 3) := dcU2 dO_180 (by decide +kernel)
theorem dX11_rule_35 : decode cX11_rule 35 = .ok (.iload_n 1, 1) := dc0 dO_27 (by decide +kernel)
theorem dX11_rule_36 : decode cX11_rule 36 = .ok (.invokevirtual 148, 3) := dcU2 dO_182 (by decide +kernel)
theorem dX11_rule_39 : decode cX11_rule 39 = .ok (.iconst 0, 1) := dc0 dO_3 (by decide +kernel)
theorem dX11_rule_40 : decode cX11_rule 40 = .ok (.ireturn, 1) := dc0 dO_172 (by decide +kernel)
theorem dX11_strike_0 : decode cX11_strike 0 = .ok (.iload_n 1, 1) := dc0 dO_27 (by decide +kernel)
theorem dX11_strike_1 : decode cX11_strike 1 = .ok (.ifCond .lt 27, 3) := dcS2 dO_155 (by decide +kernel)
theorem dX11_strike_4 : decode cX11_strike 4 = .ok (.iload_n 1, 1) := dc0 dO_27 (by decide +kernel)
theorem dX11_strike_5 : decode cX11_strike 5 = .ok (.aload_n 0, 1) := dc0 dO_42 (by decide +kernel)
theorem dX11_strike_6 : decode cX11_strike 6 = .ok (.getfield 26, 3) := dcU2 dO_180 (by decide +kernel)
theorem dX11_strike_9 : decode cX11_strike 9 = .ok (.getfield 188, 3) := dcU2 dO_180 (by decide +kernel)
theorem dX11_strike_12 : decode cX11_strike 12 = .ok (.if_icmp .ge 16, 3) := dcS2 dO_162 (by decide +kernel)
theorem dX11_strike_15 : decode cX11_strike 15 = .ok (.iload_n 2, 1) := dc0 dO_28 (by decide +kernel)
theorem dX11_strike_16 : decode cX11_strike 16 = .ok (.aload_n 0, 1) := dc0 dO_42 (by decide +kernel)
theorem dX11_strike_17 : decode cX11_strike 17 = .ok (.getfield 26, 3) := dcU2 dO_180 (by decide +kernel)
theorem dX11_strike_20 : decode cX11_strike 20 = .ok (.getfield 195, 3) := dcU2 dO_180 (by decide +kernel)
theorem dX11_strike_23 : decode cX11_strike 23 = .ok (.iload_n 1, 1) := dc0 dO_27 (by decide +kernel)
theorem dX11_strike_24 : decode cX11_strike 24 = .ok (.iaload, 1) := dc0 dO_46 (by decide +kernel)
theorem dX11_strike_25 : decode cX11_strike 25 = .ok (.if_icmp .ge 5, 3) := dcS2 dO_162 (by decide +kernel)
theorem dX11_strike_28 : decode cX11_strike 28 = .ok (.iconst (-1), 1) := dc0 dO_2 (by decide +kernel)
theorem dX11_strike_29 : decode cX11_strike 29 = .ok (.ireturn, 1) := dc0 dO_172 (by decide +kernel)
theorem dX11_strike_30 : decode cX11_strike 30 = .ok (.aload_n 0, 1) := dc0 dO_42 (by decide +kernel)
theorem dX11_strike_31 : decode cX11_strike 31 = .ok (.getfield 26, 3) := dcU2 dO_180 (by decide +kernel)
theorem dX11_strike_34 : decode cX11_strike 34 = .ok (.getfield 198, 3) := dcU2 dO_180 (by decide +kernel)
theorem dX11_strike_37 : decode cX11_strike 37 = .ok (.iload_n 1, 1) := dc0 dO_27 (by decide +kernel)
theorem dX11_strike_38 : decode cX11_strike 38 = .ok (.iaload, 1) := dc0 dO_46 (by decide +kernel)
theorem dX11_strike_39 : decode cX11_strike 39 = .ok (.iconst (-1), 1) := dc0 dO_2 (by decide +kernel)
theorem dX11_strike_40 : decode cX11_strike 40 = .ok (.if_icmp .eq 6, 3) := dcS2 dO_159 (by decide +kernel)
theorem dX11_strike_43 : decode cX11_strike 43 = .ok (.bipush (-2), 2) := dcS1 dO_16 (by decide +kernel)
theorem dX11_strike_45 : decode cX11_strike 45 = .ok (.ireturn, 1) := dc0 dO_172 (by decide +kernel)
theorem dX11_strike_46 : decode cX11_strike 46 = .ok (.aload_n 0, 1) := dc0 dO_42 (by decide +kernel)
theorem dX11_strike_47 : decode cX11_strike 47 = .ok (.getfield 26, 3) := dcU2 dO_180 (by decide +kernel)
theorem dX11_strike_50 : decode cX11_strike 50 = .ok (.getfield 198, 3) := dcU2 dO_180 (by decide +kernel)
theorem dX11_strike_53 : decode cX11_strike 53 = .ok (.iload_n 1, 1) := dc0 dO_27 (by decide +kernel)
theorem dX11_strike_54 : decode cX11_strike 54 = .ok (.iload_n 2, 1) := dc0 dO_28 (by decide +kernel)
theorem dX11_strike_55 : decode cX11_strike 55 = .ok (.iastore, 1) := dc0 dO_79 (by decide +kernel)
theorem dX11_strike_56 : decode cX11_strike 56 = .ok (.aload_n 0, 1) := dc0 dO_42 (by decide +kernel)
theorem dX11_strike_57 : decode cX11_strike 57 = .ok (.getfield 51, 3) := dcU2 dO_180 (by decide +kernel)
theorem dX11_strike_60 : decode cX11_strike 60 = .ok (.invokevirtual 179, 3) := dcU2 dO_182 (by decide +kernel)
theorem dX11_strike_63 : decode cX11_strike 63 = .ok (.iconst 0, 1) := dc0 dO_3 (by decide +kernel)
theorem dX11_strike_64 : decode cX11_strike 64 = .ok (.ireturn, 1) := dc0 dO_172 (by decide +kernel)
theorem dX11_three_0 : decode cX11_three 0 = .ok (.aload_n 0, 1) := dc0 dO_42 (by decide +kernel)
theorem dX11_three_1 : decode cX11_three 1 = .ok (.iload_n 1, 1) := dc0 dO_27 (by decide +kernel)
theorem dX11_three_2 : decode cX11_three 2 = .ok (.invokevirtual 105, 3) := dcU2 dO_182 (by decide +kernel)
theorem dX11_three_5 : decode cX11_three 5 = .ok (.ifCond .eq 11, 3) := dcS2 dO_153 (by decide +kernel)
theorem dX11_three_8 : decode cX11_three 8 = .ok (.aload_n 0, 1) := dc0 dO_42 (by decide +kernel)
theorem dX11_three_9 : decode cX11_three 9 = .ok (.iload_n 2, 1) := dc0 dO_28 (by decide +kernel)
theorem dX11_three_10 : decode cX11_three 10 = .ok (.invokevirtual 182, 3) := dcU2 dO_182 (by decide +kernel)
theorem dX11_three_13 : decode cX11_three 13 = .ok (.ifCond .ne 5, 3) := dcS2 dO_154 (by decide +kernel)
theorem dX11_three_16 : decode cX11_three 16 = .ok (.iconst (-1), 1) := dc0 dO_2 (by decide +kernel)
theorem dX11_three_17 : decode cX11_three 17 = .ok (.ireturn, 1) := dc0 dO_172 (by decide +kernel)
theorem dX11_three_18 : decode cX11_three 18 = .ok (.iload_n 3, 1) := dc0 dO_29 (by decide +kernel)
theorem dX11_three_19 : decode cX11_three 19 = .ok (.ifCond .lt 8, 3) := dcS2 dO_155 (by decide +kernel)
theorem dX11_three_22 : decode cX11_three 22 = .ok (.iload_n 3, 1) := dc0 dO_29 (by decide +kernel)
theorem dX11_three_23 : decode cX11_three 23 = .ok (.iconst 2, 1) := dc0 dO_5 (by decide +kernel)
theorem dX11_three_24 : decode cX11_three 24 = .ok (.if_icmp .le 8, 3) := dcS2 dO_164 (by decide +kernel)
theorem dX11_three_27 : decode cX11_three 27 = .ok (.ldc 165, 2) := dcU1 dO_18 (by decide +kernel)
theorem dX11_three_29 : decode cX11_three 29 = .ok (.goto 13, 3) := dcS2 dO_167 (by decide +kernel)
theorem dX11_three_32 : decode cX11_three 32 = .ok (.aload_n 0, 1) := dc0 dO_42 (by decide +kernel)
theorem dX11_three_33 : decode cX11_three 33 = .ok (.getfield 51, 3) := dcU2 dO_180 (by decide +kernel)
theorem dX11_three_36 : decode cX11_three 36 = .ok (.iload_n 1, 1) := dc0 dO_27 (by decide +kernel)
theorem dX11_three_37 : decode cX11_three 37 = .ok (.iload_n 2, 1) := dc0 dO_28 (by decide +kernel)
theorem dX11_three_38 : decode cX11_three 38 = .ok (.iload_n 3, 1) := dc0 dO_29 (by decide +kernel)
theorem dX11_three_39 : decode cX11_three 39 = .ok (.invokevirtual 336, 3) := dcU2 dO_182 (by decide +kernel)
theorem dX11_three_42 : decode cX11_three 42 = .ok (.ireturn, 1) := dc0 dO_172 (by decide +kernel)
theorem dX11_today_0 : decode cX11_today 0 = .ok (.iload_n 1, 1) := dc0 dO_27 (by decide +kernel)
theorem dX11_today_1 : decode cX11_today 1 = .ok (.ifCond .ge 5, 3) := dcS2 dO_156 (by decide +kernel)
theorem dX11_today_4 : decode cX11_today 4 = .ok (.iconst (-1), 1) := dc0 dO_2 (by decide +kernel)
theorem dX11_today_5 : decode cX11_today 5 = .ok (.ireturn, 1) := dc0 dO_172 (by decide +kernel)
theorem dX11_today_6 : decode cX11_today 6 = .ok (.aload_n 0, 1) := dc0 dO_42 (by decide +kernel)
theorem dX11_today_7 : decode cX11_today 7 = .ok (.getfield 26, 3) := dcU2 dO_180 (by decide +kernel)
theorem dX11_today_10 : decode cX11_today 10 = .ok (.getfield 176, 3) := dcU2 dO_180 (by decide +kernel)
theorem dX11_today_13 : decode cX11_today 13 = .ok (.istore_n 2, 1) := dc0 dO_61 (by decide +kernel)
theorem dX11_today_14 : decode cX11_today 14 = .ok (.aload_n 0, 1) := dc0 dO_42 (by decide +kernel)
theorem dX11_today_15 : decode cX11_today 15 = .ok (.getfield 26, 3) := dcU2 dO_180 (by decide +kernel)
theorem dX11_today_18 : decode cX11_today 18 = .ok (.iload_n 1, 1) := dc0 dO_27 (by decide +kernel)
theorem dX11_today_19 : decode cX11_today 19 = .ok (.putfield 176, 3) := dcU2 dO_181 (by decide +kernel)
theorem dX11_today_22 : decode cX11_today 22 = .ok (.aload_n 0, 1) := dc0 dO_42 (by decide +kernel)
theorem dX11_today_23 : decode cX11_today 23 = .ok (.getfield 51, 3) := dcU2 dO_180 (by decide +kernel)
theorem dX11_today_26 : decode cX11_today 26 = .ok (.invokevirtual 179, 3) := dcU2 dO_182 (by decide +kernel)
theorem dX11_today_29 : decode cX11_today 29 = .ok (.iload_n 2, 1) := dc0 dO_28 (by decide +kernel)
theorem dX11_today_30 : decode cX11_today 30 = .ok (.ireturn, 1) := dc0 dO_172 (by decide +kernel)
theorem dX11_units_0 : decode cX11_units 0 = .ok (.iload_n 1, 1) := dc0 dO_27 (by decide +kernel)
theorem dX11_units_1 : decode cX11_units 1 = .ok (.ifCond .lt 8, 3) := dcS2 dO_155 (by decide +kernel)
theorem dX11_units_4 : decode cX11_units 4 = .ok (.iload_n 1, 1) := dc0 dO_27 (by decide +kernel)
theorem dX11_units_5 : decode cX11_units 5 = .ok (.iconst 2, 1) := dc0 dO_5 (by decide +kernel)
theorem dX11_units_6 : decode cX11_units 6 = .ok (.if_icmp .le 7, 3) := dcS2 dO_164 (by decide +kernel)
theorem dX11_units_9 : decode cX11_units 9 = .ok (.iconst (-1), 1) := dc0 dO_2 (by decide +kernel)
theorem dX11_units_10 : decode cX11_units 10 = .ok (.goto 11, 3) := dcS2 dO_167 (by decide +kernel)
theorem dX11_units_13 : decode cX11_units 13 = .ok (.aload_n 0, 1) := dc0 dO_42 (by decide +kernel)
theorem dX11_units_14 : decode cX11_units 14 = .ok (.getfield 65, 3) := dcU2 dO_180 (by decide +kernel)
theorem dX11_units_17 : decode cX11_units 17 = .ok (.iload_n 1, 1) := dc0 dO_27 (by decide +kernel)
theorem dX11_units_18 : decode cX11_units 18 = .ok (.invokevirtual 382, 3) := dcU2 dO_182 (by decide +kernel)
theorem dX11_units_21 : decode cX11_units 21 = .ok (.ireturn, 1) := dc0 dO_172 (by decide +kernel)
theorem dX11_until_0 : decode cX11_until 0 = .ok (.iload_n 1, 1) := dc0 dO_27 (by decide +kernel)
theorem dX11_until_1 : decode cX11_until 1 = .ok (.aload_n 0, 1) := dc0 dO_42 (by decide +kernel)
theorem dX11_until_2 : decode cX11_until 2 = .ok (.getfield 51, 3) := dcU2 dO_180 (by decide +kernel)
theorem dX11_until_5 : decode cX11_until 5 = .ok (.getfield 303, 3) := dcU2 dO_180 (by decide +kernel)
theorem dX11_until_8 : decode cX11_until 8 = .ok (.if_icmp .lt 10, 3) := dcS2 dO_161 (by decide +kernel)
theorem dX11_until_11 : decode cX11_until 11 = .ok (.iload_n 1, 1) := dc0 dO_27 (by decide +kernel)
theorem dX11_until_12 : decode cX11_until 12 = .ok (.ldc_w 306, 3) := dcU2 dO_19 (by decide +kernel)
theorem dX11_until_15 : decode cX11_until 15 = .ok (.if_icmp .le 5, 3) := dcS2 dO_164 (by decide +kernel)
theorem dX11_until_18 : decode cX11_until 18 = .ok (.iconst (-1), 1) := dc0 dO_2 (by decide +kernel)
theorem dX11_until_19 : decode cX11_until 19 = .ok (.ireturn, 1) := dc0 dO_172 (by decide +kernel)
theorem dX11_until_20 : decode cX11_until 20 = .ok (.iconst 0, 1) := dc0 dO_3 (by decide +kernel)
theorem dX11_until_21 : decode cX11_until 21 = .ok (.istore_n 2, 1) := dc0 dO_61 (by decide +kernel)
theorem dX11_until_22 : decode cX11_until 22 = .ok (.iload_n 2, 1) := dc0 dO_28 (by decide +kernel)
theorem dX11_until_23 : decode cX11_until 23 = .ok (.sipush 500, 3) := dcS2 dO_17 (by decide +kernel)
theorem dX11_until_26 : decode cX11_until 26 = .ok (.if_icmp .ge 20, 3) := dcS2 dO_162 (by decide +kernel)
theorem dX11_until_29 : decode cX11_until 29 = .ok (.aload_n 0, 1) := dc0 dO_42 (by decide +kernel)
theorem dX11_until_30 : decode cX11_until 30 = .ok (.getfield 51, 3) := dcU2 dO_180 (by decide +kernel)
theorem dX11_until_33 : decode cX11_until 33 = .ok (.iload_n 1, 1) := dc0 dO_27 (by decide +kernel)
theorem dX11_until_34 : decode cX11_until 34 = .ok (.invokevirtual 300, 3) := dcU2 dO_182 (by decide +kernel)
theorem dX11_until_37 : decode cX11_until 37 = .ok (.ifCond .eq 9, 3) := dcS2 dO_153 (by decide +kernel)
theorem dX11_until_40 : decode cX11_until 40 = .ok (.iinc 2 1, 3) := dcI dO_132 (by decide +kernel)
theorem dX11_until_43 : decode cX11_until 43 = .ok (.goto (-21), 3) := dcS2 dO_167 (by decide +kernel)
theorem dX11_until_46 : decode cX11_until 46 = .ok (.aload_n 0, 1) := dc0 dO_42 (by decide +kernel)
theorem dX11_until_47 : decode cX11_until 47 = .ok (.getfield 51, 3) := dcU2 dO_180 (by decide +kernel)
theorem dX11_until_50 : decode cX11_until 50 = .ok (.iload_n 1, 1) := dc0 dO_27 (by decide +kernel)
theorem dX11_until_51 : decode cX11_until 51 = .ok (.invokevirtual 307, 3) := dcU2 dO_182 (by decide +kernel)
theorem dX11_until_54 : decode cX11_until 54 = .ok (.iload_n 2, 1) := dc0 dO_28 (by decide +kernel)
theorem dX11_until_55 : decode cX11_until 55 = .ok (.ireturn, 1) := dc0 dO_172 (by decide +kernel)
theorem dX11_use_0 : decode cX11_use 0 = .ok (.aload_n 0, 1) := dc0 dO_42 (by decide +kernel)
theorem dX11_use_1 : decode cX11_use 1 = .ok (.iload_n 1, 1) := dc0 dO_27 (by decide +kernel)
theorem dX11_use_2 : decode cX11_use 2 = .ok (.invokevirtual 119, 3) := dcU2 dO_182 (by decide +kernel)
theorem dX11_use_5 : decode cX11_use 5 = .ok (.ifCond .eq 17, 3) := dcS2 dO_153 (by decide +kernel)
theorem dX11_use_8 : decode cX11_use 8 = .ok (.iload_n 2, 1) := dc0 dO_28 (by decide +kernel)
theorem dX11_use_9 : decode cX11_use 9 = .ok (.invokestatic 271, 3) := dcU2 dO_184 (by decide +kernel)
theorem dX11_use_12 : decode cX11_use 12 = .ok (.ifCond .eq 10, 3) := dcS2 dO_153 (by decide +kernel)
theorem dX11_use_15 : decode cX11_use 15 = .ok (.iload_n 3, 1) := dc0 dO_29 (by decide +kernel)
theorem dX11_use_16 : decode cX11_use 16 = .ok (.invokestatic 271, 3) := dcU2 dO_184 (by decide +kernel)
theorem dX11_use_19 : decode cX11_use 19 = .ok (.ifCond .ne 5, 3) := dcS2 dO_154 (by decide +kernel)
theorem dX11_use_22 : decode cX11_use 22 = .ok (.iconst (-1), 1) := dc0 dO_2 (by decide +kernel)
theorem dX11_use_23 : decode cX11_use 23 = .ok (.ireturn, 1) := dc0 dO_172 (by decide +kernel)
theorem dX11_use_24 : decode cX11_use 24 = .ok (.iload 4, 2) := dcU1 dO_21 (by decide +kernel)
theorem dX11_use_26 : decode cX11_use 26 = .ok (.ldc 165, 2) := dcU1 dO_18 (by decide +kernel)
theorem dX11_use_28 : decode cX11_use 28 = .ok (.if_icmp .eq 22, 3) := dcS2 dO_159 (by decide +kernel)
theorem dX11_use_31 : decode cX11_use 31 = .ok (.iload 4, 2) := dcU1 dO_21 (by decide +kernel)
theorem dX11_use_33 : decode cX11_use 33 = .ok (.ifCond .lt 15, 3) := dcS2 dO_155 (by decide +kernel)
theorem dX11_use_36 : decode cX11_use 36 = .ok (.iload 4, 2) := dcU1 dO_21 (by decide +kernel)
theorem dX11_use_38 : decode cX11_use 38 = .ok (.aload_n 0, 1) := dc0 dO_42 (by decide +kernel)
theorem dX11_use_39 : decode cX11_use 39 = .ok (.getfield 35, 3) := dcU2 dO_180 (by decide +kernel)
theorem dX11_use_42 : decode cX11_use 42 = .ok (.getfield 205, 3) := dcU2 dO_180 (by decide +kernel)
theorem dX11_use_45 : decode cX11_use 45 = .ok (.if_icmp .lt 5, 3) := dcS2 dO_161 (by decide +kernel)
theorem dX11_use_48 : decode cX11_use 48 = .ok (.iconst (-1), 1) := dc0 dO_2 (by decide +kernel)
theorem dX11_use_49 : decode cX11_use 49 = .ok (.ireturn, 1) := dc0 dO_172 (by decide +kernel)
theorem dX11_use_50 : decode cX11_use 50 = .ok (.aload_n 0, 1) := dc0 dO_42 (by decide +kernel)
theorem dX11_use_51 : decode cX11_use 51 = .ok (.getfield 26, 3) := dcU2 dO_180 (by decide +kernel)
theorem dX11_use_54 : decode cX11_use 54 = .ok (.getfield 122, 3) := dcU2 dO_180 (by decide +kernel)
theorem dX11_use_57 : decode cX11_use 57 = .ok (.iload_n 1, 1) := dc0 dO_27 (by decide +kernel)
theorem dX11_use_58 : decode cX11_use 58 = .ok (.aaload, 1) := dc0 dO_50 (by decide +kernel)
theorem dX11_use_59 : decode cX11_use 59 = .ok (.getfield 274, 3) := dcU2 dO_180 (by decide +kernel)
theorem dX11_use_62 : decode cX11_use 62 = .ok (.iload_n 2, 1) := dc0 dO_28 (by decide +kernel)
theorem dX11_use_63 : decode cX11_use 63 = .ok (.iconst 2, 1) := dc0 dO_5 (by decide +kernel)
theorem dX11_use_64 : decode cX11_use 64 = .ok (.imul, 1) := dc0 dO_104 (by decide +kernel)
theorem dX11_use_65 : decode cX11_use 65 = .ok (.iload_n 3, 1) := dc0 dO_29 (by decide +kernel)
theorem dX11_use_66 : decode cX11_use 66 = .ok (.iadd, 1) := dc0 dO_96 (by decide +kernel)
theorem dX11_use_67 : decode cX11_use 67 = .ok (.iload 4, 2) := dcU1 dO_21 (by decide +kernel)
theorem dX11_use_69 : decode cX11_use 69 = .ok (.iastore, 1) := dc0 dO_79 (by decide +kernel)
theorem dX11_use_70 : decode cX11_use 70 = .ok (.iload_n 3, 1) := dc0 dO_29 (by decide +kernel)
theorem dX11_use_71 : decode cX11_use 71 = .ok (.ifCond .ne 26, 3) := dcS2 dO_154 (by decide +kernel)
theorem dX11_use_74 : decode cX11_use 74 = .ok (.aload_n 0, 1) := dc0 dO_42 (by decide +kernel)
theorem dX11_use_75 : decode cX11_use 75 = .ok (.getfield 51, 3) := dcU2 dO_180 (by decide +kernel)
theorem dX11_use_78 : decode cX11_use 78 = .ok (.aload_n 0, 1) := dc0 dO_42 (by decide +kernel)
theorem dX11_use_79 : decode cX11_use 79 = .ok (.getfield 26, 3) := dcU2 dO_180 (by decide +kernel)
theorem dX11_use_82 : decode cX11_use 82 = .ok (.getfield 122, 3) := dcU2 dO_180 (by decide +kernel)
theorem dX11_use_85 : decode cX11_use 85 = .ok (.iload_n 1, 1) := dc0 dO_27 (by decide +kernel)
theorem dX11_use_86 : decode cX11_use 86 = .ok (.aaload, 1) := dc0 dO_50 (by decide +kernel)
theorem dX11_use_87 : decode cX11_use 87 = .ok (.iload_n 2, 1) := dc0 dO_28 (by decide +kernel)
theorem dX11_use_88 : decode cX11_use 88 = .ok (.invokevirtual 277, 3) := dcU2 dO_182 (by decide +kernel)
theorem dX11_use_91 : decode cX11_use 91 = .ok (.invokevirtual 148, 3) := dcU2 dO_182 (by decide +kernel)
theorem dX11_use_94 : decode cX11_use 94 = .ok (.goto 12, 3) := dcS2 dO_167 (by decide +kernel)
theorem dX11_use_97 : decode cX11_use 97 = .ok (.aload_n 0, 1) := dc0 dO_42 (by decide +kernel)
theorem dX11_use_98 : decode cX11_use 98 = .ok (.getfield 51, 3) := dcU2 dO_180 (by decide +kernel)
theorem dX11_use_101 : decode cX11_use 101 = .ok (.iload_n 1, 1) := dc0 dO_27 (by decide +kernel)
theorem dX11_use_102 : decode cX11_use 102 = .ok (.iload_n 2, 1) := dc0 dO_28 (by decide +kernel)
theorem dX11_use_103 : decode cX11_use 103 = .ok (.invokevirtual 138, 3) := dcU2 dO_182 (by decide +kernel)
theorem dX11_use_106 : decode cX11_use 106 = .ok (.iconst 0, 1) := dc0 dO_3 (by decide +kernel)
theorem dX11_use_107 : decode cX11_use 107 = .ok (.ireturn, 1) := dc0 dO_172 (by decide +kernel)
theorem dX11_why_0 : decode cX11_why 0 = .ok (.aload_n 0, 1) := dc0 dO_42 (by decide +kernel)
theorem dX11_why_1 : decode cX11_why 1 = .ok (.iload_n 1, 1) := dc0 dO_27 (by decide +kernel)
theorem dX11_why_2 : decode cX11_why 2 = .ok (.invokevirtual 119, 3) := dcU2 dO_182 (by decide +kernel)
theorem dX11_why_5 : decode cX11_why 5 = .ok (.ifCond .eq 18, 3) := dcS2 dO_153 (by decide +kernel)
theorem dX11_why_8 : decode cX11_why 8 = .ok (.iload_n 2, 1) := dc0 dO_28 (by decide +kernel)
theorem dX11_why_9 : decode cX11_why 9 = .ok (.invokestatic 271, 3) := dcU2 dO_184 (by decide +kernel)
theorem dX11_why_12 : decode cX11_why 12 = .ok (.ifCond .eq 11, 3) := dcS2 dO_153 (by decide +kernel)
theorem dX11_why_15 : decode cX11_why 15 = .ok (.aload_n 0, 1) := dc0 dO_42 (by decide +kernel)
theorem dX11_why_16 : decode cX11_why 16 = .ok (.iload_n 3, 1) := dc0 dO_29 (by decide +kernel)
theorem dX11_why_17 : decode cX11_why 17 = .ok (.invokevirtual 182, 3) := dcU2 dO_182 (by decide +kernel)
theorem dX11_why_20 : decode cX11_why 20 = .ok (.ifCond .ne 5, 3) := dcS2 dO_154 (by decide +kernel)
theorem dX11_why_23 : decode cX11_why 23 = .ok (.iconst (-1), 1) := dc0 dO_2 (by decide +kernel)
theorem dX11_why_24 : decode cX11_why 24 = .ok (.ireturn, 1) := dc0 dO_172 (by decide +kernel)
theorem dX11_why_25 : decode cX11_why 25 = .ok (.aload_n 0, 1) := dc0 dO_42 (by decide +kernel)
theorem dX11_why_26 : decode cX11_why 26 = .ok (.getfield 51, 3) := dcU2 dO_180 (by decide +kernel)
theorem dX11_why_29 : decode cX11_why 29 = .ok (.iload_n 1, 1) := dc0 dO_27 (by decide +kernel)
theorem dX11_why_30 : decode cX11_why 30 = .ok (.iload_n 2, 1) := dc0 dO_28 (by decide +kernel)
theorem dX11_why_31 : decode cX11_why 31 = .ok (.iload_n 3, 1) := dc0 dO_29 (by decide +kernel)
theorem dX11_why_32 : decode cX11_why 32 = .ok (.invokevirtual 333, 3) := dcU2 dO_182 (by decide +kernel)
theorem dX11_why_35 : decode cX11_why 35 = .ok (.ireturn, 1) := dc0 dO_172 (by decide +kernel)
theorem dX11_withdraw_0 : decode cX11_withdraw 0 = .ok (.aload_n 0, 1) := dc0 dO_42 (by decide +kernel)
theorem dX11_withdraw_1 : decode cX11_withdraw 1 = .ok (.iload_n 1, 1) := dc0 dO_27 (by decide +kernel)
theorem dX11_withdraw_2 : decode cX11_withdraw 2 = .ok (.invokevirtual 105, 3) := dcU2 dO_182 (by decide +kernel)
theorem dX11_withdraw_5 : decode cX11_withdraw 5 = .ok (.ifCond .eq 11, 3) := dcS2 dO_153 (by decide +kernel)
theorem dX11_withdraw_8 : decode cX11_withdraw 8 = .ok (.aload_n 0, 1) := dc0 dO_42 (by decide +kernel)
theorem dX11_withdraw_9 : decode cX11_withdraw 9 = .ok (.iload_n 2, 1) := dc0 dO_28 (by decide +kernel)
theorem dX11_withdraw_10 : decode cX11_withdraw 10 = .ok (.invokevirtual 182, 3) := dcU2 dO_182 (by decide +kernel)
theorem dX11_withdraw_13 : decode cX11_withdraw 13 = .ok (.ifCond .ne 5, 3) := dcS2 dO_154 (by decide +kernel)
theorem dX11_withdraw_16 : decode cX11_withdraw 16 = .ok (.iconst (-1), 1) := dc0 dO_2 (by decide +kernel)
theorem dX11_withdraw_17 : decode cX11_withdraw 17 = .ok (.ireturn, 1) := dc0 dO_172 (by decide +kernel)
theorem dX11_withdraw_18 : decode cX11_withdraw 18 = .ok (.aload_n 0, 1) := dc0 dO_42 (by decide +kernel)
theorem dX11_withdraw_19 : decode cX11_withdraw 19 = .ok (.getfield 26, 3) := dcU2 dO_180 (by decide +kernel)
theorem dX11_withdraw_22 : decode cX11_withdraw 22 = .ok (.getfield 283, 3) := dcU2 dO_180 (by decide +kernel)
theorem dX11_withdraw_25 : decode cX11_withdraw 25 = .ok (.iload_n 1, 1) := dc0 dO_27 (by decide +kernel)
theorem dX11_withdraw_26 : decode cX11_withdraw 26 = .ok (.aaload, 1) := dc0 dO_50 (by decide +kernel)
theorem dX11_withdraw_27 : decode cX11_withdraw 27 = .ok (.getfield 293, 3) := dcU2 dO_180 (by decide +kernel)
theorem dX11_withdraw_30 : decode cX11_withdraw 30 = .ok (.iload_n 2, 1) := dc0 dO_28 (by decide +kernel)
theorem dX11_withdraw_31 : decode cX11_withdraw 31 = .ok (.iaload, 1) := dc0 dO_46 (by decide +kernel)
theorem dX11_withdraw_32 : decode cX11_withdraw 32 = .ok (.iconst (-1), 1) := dc0 dO_2 (by decide +kernel)
theorem dX11_withdraw_33 : decode cX11_withdraw 33 = .ok (.if_icmp .ne 6, 3) := dcS2 dO_160 (by decide +kernel)
theorem dX11_withdraw_36 : decode cX11_withdraw 36 = .ok (.bipush (-2), 2) := dcS1 dO_16 (by decide +kernel)
theorem dX11_withdraw_38 : decode cX11_withdraw 38 = .ok (.ireturn, 1) := dc0 dO_172 (by decide +kernel)
theorem dX11_withdraw_39 : decode cX11_withdraw 39 = .ok (.aload_n 0, 1) := dc0 dO_42 (by decide +kernel)
theorem dX11_withdraw_40 : decode cX11_withdraw 40 = .ok (.getfield 26, 3) := dcU2 dO_180 (by decide +kernel)
theorem dX11_withdraw_43 : decode cX11_withdraw 43 = .ok (.getfield 283, 3) := dcU2 dO_180 (by decide +kernel)
theorem dX11_withdraw_46 : decode cX11_withdraw 46 = .ok (.iload_n 1, 1) := dc0 dO_27 (by decide +kernel)
theorem dX11_withdraw_47 : decode cX11_withdraw 47 = .ok (.aaload, 1) := dc0 dO_50 (by decide +kernel)
theorem dX11_withdraw_48 : decode cX11_withdraw 48 = .ok (.getfield 293, 3) := dcU2 dO_180 (by decide +kernel)
theorem dX11_withdraw_51 : decode cX11_withdraw 51 = .ok (.iload_n 2, 1) := dc0 dO_28 (by decide +kernel)
theorem dX11_withdraw_52 : decode cX11_withdraw 52 = .ok (.iconst (-1), 1) := dc0 dO_2 (by decide +kernel)
theorem dX11_withdraw_53 : decode cX11_withdraw 53 = .ok (.iastore, 1) := dc0 dO_79 (by decide +kernel)
theorem dX11_withdraw_54 : decode cX11_withdraw 54 = .ok (.aload_n 0, 1) := dc0 dO_42 (by decide +kernel)
theorem dX11_withdraw_55 : decode cX11_withdraw 55 = .ok (.getfield 51, 3) := dcU2 dO_180 (by decide +kernel)
theorem dX11_withdraw_58 : decode cX11_withdraw 58 = .ok (.iload_n 1, 1) := dc0 dO_27 (by decide +kernel)
theorem dX11_withdraw_59 : decode cX11_withdraw 59 = .ok (.iload_n 2, 1) := dc0 dO_28 (by decide +kernel)
theorem dX11_withdraw_60 : decode cX11_withdraw 60 = .ok (.invokevirtual 296, 3) := dcU2 dO_182 (by decide +kernel)
theorem dX11_withdraw_63 : decode cX11_withdraw 63 = .ok (.iconst 0, 1) := dc0 dO_3 (by decide +kernel)
theorem dX11_withdraw_64 : decode cX11_withdraw 64 = .ok (.ireturn, 1) := dc0 dO_172 (by decide +kernel)
theorem dX2_partnerFor_0 : decode cX2_partnerFor 0 = .ok (.aload_n 0, 1) := dc0 dO_42 (by decide +kernel)
theorem dX2_partnerFor_1 : decode cX2_partnerFor 1 = .ok (.iload_n 1, 1) := dc0 dO_27 (by decide +kernel)
theorem dX2_partnerFor_2 : decode cX2_partnerFor 2 = .ok (.iload_n 2, 1) := dc0 dO_28 (by decide +kernel)
theorem dX2_partnerFor_3 : decode cX2_partnerFor 3 = .ok (.invokevirtual 60, 3) := dcU2 dO_182 (by decide +kernel)
theorem dX2_partnerFor_6 : decode cX2_partnerFor 6 = .ok (.istore_n 3, 1) := dc0 dO_62 (by decide +kernel)
theorem dX2_partnerFor_7 : decode cX2_partnerFor 7 = .ok (.iload_n 3, 1) := dc0 dO_29 (by decide +kernel)
theorem dX2_partnerFor_8 : decode cX2_partnerFor 8 = .ok (.ifCond .ge 5, 3) := dcS2 dO_156 (by decide +kernel)
theorem dX2_partnerFor_11 : decode cX2_partnerFor 11 = .ok (.iload_n 3, 1) := dc0 dO_29 (by decide +kernel)
theorem dX2_partnerFor_12 : decode cX2_partnerFor 12 = .ok (.ireturn, 1) := dc0 dO_172 (by decide +kernel)
theorem dX2_partnerFor_13 : decode cX2_partnerFor 13 = .ok (.aload_n 0, 1) := dc0 dO_42 (by decide +kernel)
theorem dX2_partnerFor_14 : decode cX2_partnerFor 14 = .ok (.getfield 9, 3) := dcU2 dO_180 (by decide +kernel)
theorem dX2_partnerFor_17 : decode cX2_partnerFor 17 = .ok (.getfield 64, 3) := dcU2 dO_180 (by decide +kernel)
theorem dX2_partnerFor_20 : decode cX2_partnerFor 20 = .ok (.iload_n 3, 1) := dc0 dO_29 (by decide +kernel)
theorem dX2_partnerFor_21 : decode cX2_partnerFor 21 = .ok (.aaload, 1) := dc0 dO_50 (by decide +kernel)
theorem dX2_partnerFor_22 : decode cX2_partnerFor 22 = .ok (.astore 4, 2) := dcU1 dO_58 (by decide +kernel)
theorem dX2_partnerFor_24 : decode cX2_partnerFor 24 = .ok (.aload 4, 2) := dcU1 dO_25 (by decide +kernel)
theorem dX2_partnerFor_26 : decode cX2_partnerFor 26 = .ok (.iconst 1, 1) := dc0 dO_4 (by decide +kernel)
theorem dX2_partnerFor_27 : decode cX2_partnerFor 27 = .ok (.aload 4, 2) := dcU1 dO_25 (by decide +kernel)
theorem dX2_partnerFor_29 : decode cX2_partnerFor 29 = .ok (.iload_n 1, 1) := dc0 dO_27 (by decide +kernel)
theorem dX2_partnerFor_30 : decode cX2_partnerFor 30 = .ok (.invokevirtual 68, 3) := dcU2 dO_182 (by decide +kernel)
theorem dX2_partnerFor_33 : decode cX2_partnerFor 33 = .ok (.isub, 1) := dc0 dO_100 (by decide +kernel)
theorem dX2_partnerFor_34 : decode cX2_partnerFor 34 = .ok (.invokevirtual 74, 3) := dcU2 dO_182 (by decide +kernel)
theorem dX2_partnerFor_37 : decode cX2_partnerFor 37 = .ok (.ireturn, 1) := dc0 dO_172 (by decide +kernel)
theorem dX2_send_0 : decode cX2_send 0 = .ok (.aload_n 0, 1) := dc0 dO_42 (by decide +kernel)
theorem dX2_send_1 : decode cX2_send 1 = .ok (.iload_n 1, 1) := dc0 dO_27 (by decide +kernel)
theorem dX2_send_2 : decode cX2_send 2 = .ok (.iload_n 2, 1) := dc0 dO_28 (by decide +kernel)
theorem dX2_send_3 : decode cX2_send 3 = .ok (.invokevirtual 83, 3) := dcU2 dO_182 (by decide +kernel)
theorem dX2_send_6 : decode cX2_send 6 = .ok (.istore_n 3, 1) := dc0 dO_62 (by decide +kernel)
theorem dX2_send_7 : decode cX2_send 7 = .ok (.aload_n 0, 1) := dc0 dO_42 (by decide +kernel)
theorem dX2_send_8 : decode cX2_send 8 = .ok (.getfield 15, 3) := dcU2 dO_180 (by decide +kernel)
theorem dX2_send_11 : decode cX2_send 11 = .ok (.iconst 0, 1) := dc0 dO_3 (by decide +kernel)
theorem dX2_send_12 : decode cX2_send 12 = .ok (.aload_n 0, 1) := dc0 dO_42 (by decide +kernel)
theorem dX2_send_13 : decode cX2_send 13 = .ok (.getfield 19, 3) := dcU2 dO_180 (by decide +kernel)
theorem dX2_send_16 : decode cX2_send 16 = .ok (.iconst 0, 1) := dc0 dO_3 (by decide +kernel)
theorem dX2_send_17 : decode cX2_send 17 = .ok (.aload_n 0, 1) := dc0 dO_42 (by decide +kernel)
theorem dX2_send_18 : decode cX2_send 18 = .ok (.getfield 77, 3) := dcU2 dO_180 (by decide +kernel)
theorem dX2_send_21 : decode cX2_send 21 = .ok (.invokestatic 86, 3) := dcU2 dO_184 (by decide +kernel)
theorem dX2_send_24 : decode cX2_send 24 = .ok (.aload_n 0, 1) := dc0 dO_42 (by decide +kernel)
theorem dX2_send_25 : decode cX2_send 25 = .ok (.aload_n 0, 1) := dc0 dO_42 (by decide +kernel)
theorem dX2_send_26 : decode cX2_send 26 = .ok (.getfield 77, 3) := dcU2 dO_180 (by decide +kernel)
theorem dX2_send_29 : decode cX2_send 29 = .ok (.putfield 92, 3) := dcU2 dO_181 (by decide +kernel)
theorem dX2_send_32 : decode cX2_send 32 = .ok (.iload_n 3, 1) := dc0 dO_29 (by decide +kernel)
theorem dX2_send_33 : decode cX2_send 33 = .ok (.ireturn, 1) := dc0 dO_172 (by decide +kernel)
theorem dX2_travel_0 : decode cX2_travel 0 = .ok (.aload_n 0, 1) := dc0 dO_42 (by decide +kernel)
theorem dX2_travel_1 : decode cX2_travel 1 = .ok (.getfield 15, 3) := dcU2 dO_180 (by decide +kernel)
theorem dX2_travel_4 : decode cX2_travel 4 = .ok (.iconst 0, 1) := dc0 dO_3 (by decide +kernel)
theorem dX2_travel_5 : decode cX2_travel 5 = .ok (.iload_n 1, 1) := dc0 dO_27 (by decide +kernel)
theorem dX2_travel_6 : decode cX2_travel 6 = .ok (.iastore, 1) := dc0 dO_79 (by decide +kernel)
theorem dX2_travel_7 : decode cX2_travel 7 = .ok (.aload_n 0, 1) := dc0 dO_42 (by decide +kernel)
theorem dX2_travel_8 : decode cX2_travel 8 = .ok (.iconst 1, 1) := dc0 dO_4 (by decide +kernel)
theorem dX2_travel_9 : decode cX2_travel 9 = .ok (.putfield 77, 3) := dcU2 dO_181 (by decide +kernel)
theorem dX2_travel_12 : decode cX2_travel 12 = .ok (.iconst 1, 1) := dc0 dO_4 (by decide +kernel)
theorem dX2_travel_13 : decode cX2_travel 13 = .ok (.iload_n 1, 1) := dc0 dO_27 (by decide +kernel)
theorem dX2_travel_14 : decode cX2_travel 14 = .ok (.ishl, 1) := dc0 dO_120 (by decide +kernel)
theorem dX2_travel_15 : decode cX2_travel 15 = .ok (.istore_n 3, 1) := dc0 dO_62 (by decide +kernel)
theorem dX2_travel_16 : decode cX2_travel 16 = .ok (.iconst 0, 1) := dc0 dO_3 (by decide +kernel)
theorem dX2_travel_17 : decode cX2_travel 17 = .ok (.istore 4, 2) := dcU1 dO_54 (by decide +kernel)
theorem dX2_travel_19 : decode cX2_travel 19 = .ok (.iload 4, 2) := dcU1 dO_21 (by decide +kernel)
theorem dX2_travel_21 : decode cX2_travel 21 = .ok (.bipush 10, 2) := dcS1 dO_16 (by decide +kernel)
theorem dX2_travel_23 : decode cX2_travel 23 = .ok (.if_icmp .ge 80, 3) := dcS2 dO_162 (by decide +kernel)
theorem dX2_travel_26 : decode cX2_travel 26 = .ok (.aload_n 0, 1) := dc0 dO_42 (by decide +kernel)
theorem dX2_travel_27 : decode cX2_travel 27 = .ok (.aload_n 0, 1) := dc0 dO_42 (by decide +kernel)
theorem dX2_travel_28 : decode cX2_travel 28 = .ok (.getfield 15, 3) := dcU2 dO_180 (by decide +kernel)
theorem dX2_travel_31 : decode cX2_travel 31 = .ok (.iload 4, 2) := dcU1 dO_21 (by decide +kernel)
theorem dX2_travel_33 : decode cX2_travel 33 = .ok (.iaload, 1) := dc0 dO_46 (by decide +kernel)
theorem dX2_travel_34 : decode cX2_travel 34 = .ok (.iload_n 2, 1) := dc0 dO_28 (by decide +kernel)
theorem dX2_travel_35 : decode cX2_travel 35 = .ok (.invokevirtual 80, 3) := dcU2 dO_182 (by decide +kernel)
theorem dX2_travel_38 : decode cX2_travel 38 = .ok (.istore 5, 2) := dcU1 dO_54 (by decide +kernel)
theorem dX2_travel_40 : decode cX2_travel 40 = .ok (.iload 5, 2) := dcU1 dO_21 (by decide +kernel)
theorem dX2_travel_42 : decode cX2_travel 42 = .ok (.ifCond .ge 16, 3) := dcS2 dO_156 (by decide +kernel)
theorem dX2_travel_45 : decode cX2_travel 45 = .ok (.iload 5, 2) := dcU1 dO_21 (by decide +kernel)
theorem dX2_travel_47 : decode cX2_travel 47 = .ok (.bipush (-4), 2) := dcS1 dO_16 (by decide +kernel)
theorem dX2_travel_49 : decode cX2_travel 49 = .ok (.if_icmp .ne 7, 3) := dcS2 dO_160 (by decide +kernel)
theorem dX2_travel_52 : decode cX2_travel 52 = .ok (.iconst 0, 1) := dc0 dO_3 (by decide +kernel)
theorem dX2_travel_53 : decode cX2_travel 53 = .ok (.goto 4, 3) := dcS2 dO_167 (by decide +kernel)
theorem dX2_travel_56 : decode cX2_travel 56 = .ok (.iconst 1, 1) := dc0 dO_4 (by decide +kernel)
theorem dX2_travel_57 : decode cX2_travel 57 = .ok (.ireturn, 1) := dc0 dO_172 (by decide +kernel)
theorem dX2_travel_58 : decode cX2_travel 58 = .ok (.aload_n 0, 1) := dc0 dO_42 (by decide +kernel)
theorem dX2_travel_59 : decode cX2_travel 59 = .ok (.getfield 15, 3) := dcU2 dO_180 (by decide +kernel)
theorem dX2_travel_62 : decode cX2_travel 62 = .ok (.aload_n 0, 1) := dc0 dO_42 (by decide +kernel)
theorem dX2_travel_63 : decode cX2_travel 63 = .ok (.getfield 77, 3) := dcU2 dO_180 (by decide +kernel)
theorem dX2_travel_66 : decode cX2_travel 66 = .ok (.iload 5, 2) := dcU1 dO_21 (by decide +kernel)
theorem dX2_travel_68 : decode cX2_travel 68 = .ok (.iastore, 1) := dc0 dO_79 (by decide +kernel)
theorem dX2_travel_69 : decode cX2_travel 69 = .ok (.aload_n 0, 1) := dc0 dO_42 (by decide +kernel)
theorem dX2_travel_70 : decode cX2_travel 70 = .ok (.dup, 1) := dc0 dO_89 (by decide +kernel)
theorem dX2_travel_71 : decode cX2_travel 71 = .ok (.getfield 77, 3) := dcU2 dO_180 (by decide +kernel)
theorem dX2_travel_74 : decode cX2_travel 74 = .ok (.iconst 1, 1) := dc0 dO_4 (by decide +kernel)
theorem dX2_travel_75 : decode cX2_travel 75 = .ok (.iadd, 1) := dc0 dO_96 (by decide +kernel)
theorem dX2_travel_76 : decode cX2_travel 76 = .ok (.putfield 77, 3) := dcU2 dO_181 (by decide +kernel)
theorem dX2_travel_79 : decode cX2_travel 79 = .ok (.iload_n 3, 1) := dc0 dO_29 (by decide +kernel)
theorem dX2_travel_80 : decode cX2_travel 80 = .ok (.iload 5, 2) := dcU1 dO_21 (by decide +kernel)
theorem dX2_travel_82 : decode cX2_travel 82 = .ok (.ishr, 1) := dc0 dO_122 (by decide +kernel)
theorem dX2_travel_83 : decode cX2_travel 83 = .ok (.iconst 1, 1) := dc0 dO_4 (by decide +kernel)
theorem dX2_travel_84 : decode cX2_travel 84 = .ok (.iand, 1) := dc0 dO_126 (by decide +kernel)
theorem dX2_travel_85 : decode cX2_travel 85 = .ok (.ifCond .eq 5, 3) := dcS2 dO_153 (by decide +kernel)
theorem dX2_travel_88 : decode cX2_travel 88 = .ok (.iconst 2, 1) := dc0 dO_5 (by decide +kernel)
theorem dX2_travel_89 : decode cX2_travel 89 = .ok (.ireturn, 1) := dc0 dO_172 (by decide +kernel)
theorem dX2_travel_90 : decode cX2_travel 90 = .ok (.iload_n 3, 1) := dc0 dO_29 (by decide +kernel)
theorem dX2_travel_91 : decode cX2_travel 91 = .ok (.iconst 1, 1) := dc0 dO_4 (by decide +kernel)
theorem dX2_travel_92 : decode cX2_travel 92 = .ok (.iload 5, 2) := dcU1 dO_21 (by decide +kernel)
theorem dX2_travel_94 : decode cX2_travel 94 = .ok (.ishl, 1) := dc0 dO_120 (by decide +kernel)
theorem dX2_travel_95 : decode cX2_travel 95 = .ok (.ior, 1) := dc0 dO_128 (by decide +kernel)
theorem dX2_travel_96 : decode cX2_travel 96 = .ok (.istore_n 3, 1) := dc0 dO_62 (by decide +kernel)
theorem dX2_travel_97 : decode cX2_travel 97 = .ok (.iinc 4 1, 3) := dcI dO_132 (by decide +kernel)
theorem dX2_travel_100 : decode cX2_travel 100 = .ok (.goto (-81), 3) := dcS2 dO_167 (by decide +kernel)
theorem dX2_travel_103 : decode cX2_travel 103 = .ok (.iconst 2, 1) := dc0 dO_5 (by decide +kernel)
theorem dX2_travel_104 : decode cX2_travel 104 = .ok (.ireturn, 1) := dc0 dO_172 (by decide +kernel)
theorem dX2_unitsOver_0 : decode cX2_unitsOver 0 = .ok (.iconst 0, 1) := dc0 dO_3 (by decide +kernel)
theorem dX2_unitsOver_1 : decode cX2_unitsOver 1 = .ok (.istore_n 3, 1) := dc0 dO_62 (by decide +kernel)
theorem dX2_unitsOver_2 : decode cX2_unitsOver 2 = .ok (.iconst 0, 1) := dc0 dO_3 (by decide +kernel)
theorem dX2_unitsOver_3 : decode cX2_unitsOver 3 = .ok (.istore 4, 2) := dcU1 dO_54 (by decide +kernel)
theorem dX2_unitsOver_5 : decode cX2_unitsOver 5 = .ok (.iload 4, 2) := dcU1 dO_21 (by decide +kernel)
theorem dX2_unitsOver_7 : decode cX2_unitsOver 7 = .ok (.aload_n 0, 1) := dc0 dO_42 (by decide +kernel)
theorem dX2_unitsOver_8 : decode cX2_unitsOver 8 = .ok (.getfield 95, 3) := dcU2 dO_180 (by decide +kernel)
theorem dX2_unitsOver_11 : decode cX2_unitsOver 11 = .ok (.if_icmp .ge 82, 3) := dcS2 dO_162 (by decide +kernel)
theorem dX2_unitsOver_14 : decode cX2_unitsOver 14 = .ok (.aload_n 0, 1) := dc0 dO_42 (by decide +kernel)
theorem dX2_unitsOver_15 : decode cX2_unitsOver 15 = .ok (.aload_n 0, 1) := dc0 dO_42 (by decide +kernel)
theorem dX2_unitsOver_16 : decode cX2_unitsOver 16 = .ok (.getfield 22, 3) := dcU2 dO_180 (by decide +kernel)
theorem dX2_unitsOver_19 : decode cX2_unitsOver 19 = .ok (.iload 4, 2) := dcU1 dO_21 (by decide +kernel)
theorem dX2_unitsOver_21 : decode cX2_unitsOver 21 = .ok (.iaload, 1) := dc0 dO_46 (by decide +kernel)
theorem dX2_unitsOver_22 : decode cX2_unitsOver 22 = .ok (.aload_n 0, 1) := dc0 dO_42 (by decide +kernel)
theorem dX2_unitsOver_23 : decode cX2_unitsOver 23 = .ok (.getfield 25, 3) := dcU2 dO_180 (by decide +kernel)
theorem dX2_unitsOver_26 : decode cX2_unitsOver 26 = .ok (.iload 4, 2) := dcU1 dO_21 (by decide +kernel)
theorem dX2_unitsOver_28 : decode cX2_unitsOver 28 = .ok (.iaload, 1) := dc0 dO_46 (by decide +kernel)
theorem dX2_unitsOver_29 : decode cX2_unitsOver 29 = .ok (.invokevirtual 83, 3) := dcU2 dO_182 (by decide +kernel)
theorem dX2_unitsOver_32 : decode cX2_unitsOver 32 = .ok (.pop, 1) := dc0 dO_87 (by decide +kernel)
theorem dX2_unitsOver_33 : decode cX2_unitsOver 33 = .ok (.iconst 0, 1) := dc0 dO_3 (by decide +kernel)
theorem dX2_unitsOver_34 : decode cX2_unitsOver 34 = .ok (.istore 5, 2) := dcU1 dO_54 (by decide +kernel)
theorem dX2_unitsOver_36 : decode cX2_unitsOver 36 = .ok (.iload 5, 2) := dcU1 dO_21 (by decide +kernel)
theorem dX2_unitsOver_38 : decode cX2_unitsOver 38 = .ok (.iconst 1, 1) := dc0 dO_4 (by decide +kernel)
theorem dX2_unitsOver_39 : decode cX2_unitsOver 39 = .ok (.iadd, 1) := dc0 dO_96 (by decide +kernel)
theorem dX2_unitsOver_40 : decode cX2_unitsOver 40 = .ok (.aload_n 0, 1) := dc0 dO_42 (by decide +kernel)
theorem dX2_unitsOver_41 : decode cX2_unitsOver 41 = .ok (.getfield 77, 3) := dcU2 dO_180 (by decide +kernel)
theorem dX2_unitsOver_44 : decode cX2_unitsOver 44 = .ok (.if_icmp .ge 43, 3) := dcS2 dO_162 (by decide +kernel)
theorem dX2_unitsOver_47 : decode cX2_unitsOver 47 = .ok (.aload_n 0, 1) := dc0 dO_42 (by decide +kernel)
theorem dX2_unitsOver_48 : decode cX2_unitsOver 48 = .ok (.getfield 15, 3) := dcU2 dO_180 (by decide +kernel)
theorem dX2_unitsOver_51 : decode cX2_unitsOver 51 = .ok (.iload 5, 2) := dcU1 dO_21 (by decide +kernel)
theorem dX2_unitsOver_53 : decode cX2_unitsOver 53 = .ok (.iaload, 1) := dc0 dO_46 (by decide +kernel)
theorem dX2_unitsOver_54 : decode cX2_unitsOver 54 = .ok (.iload_n 1, 1) := dc0 dO_27 (by decide +kernel)
theorem dX2_unitsOver_55 : decode cX2_unitsOver 55 = .ok (.if_icmp .ne 26, 3) := dcS2 dO_160 (by decide +kernel)
theorem dX2_unitsOver_58 : decode cX2_unitsOver 58 = .ok (.aload_n 0, 1) := dc0 dO_42 (by decide +kernel)
theorem dX2_unitsOver_59 : decode cX2_unitsOver 59 = .ok (.getfield 15, 3) := dcU2 dO_180 (by decide +kernel)
theorem dX2_unitsOver_62 : decode cX2_unitsOver 62 = .ok (.iload 5, 2) := dcU1 dO_21 (by decide +kernel)
theorem dX2_unitsOver_64 : decode cX2_unitsOver 64 = .ok (.iconst 1, 1) := dc0 dO_4 (by decide +kernel)
theorem dX2_unitsOver_65 : decode cX2_unitsOver 65 = .ok (.iadd, 1) := dc0 dO_96 (by decide +kernel)
theorem dX2_unitsOver_66 : decode cX2_unitsOver 66 = .ok (.iaload, 1) := dc0 dO_46 (by decide +kernel)
theorem dX2_unitsOver_67 : decode cX2_unitsOver 67 = .ok (.iload_n 2, 1) := dc0 dO_28 (by decide +kernel)
theorem dX2_unitsOver_68 : decode cX2_unitsOver 68 = .ok (.if_icmp .ne 13, 3) := dcS2 dO_160 (by decide +kernel)
theorem dX2_unitsOver_71 : decode cX2_unitsOver 71 = .ok (.iload_n 3, 1) := dc0 dO_29 (by decide +kernel)
theorem dX2_unitsOver_72 : decode cX2_unitsOver 72 = .ok (.aload_n 0, 1) := dc0 dO_42 (by decide +kernel)
theorem dX2_unitsOver_73 : decode cX2_unitsOver 73 = .ok (.getfield 28, 3) := dcU2 dO_180 (by decide +kernel)
theorem dX2_unitsOver_76 : decode cX2_unitsOver 76 = .ok (.iload 4, 2) := dcU1 dO_21 (by decide +kernel)
theorem dX2_unitsOver_78 : decode cX2_unitsOver 78 = .ok (.iaload, 1) := dc0 dO_46 (by decide +kernel)
theorem dX2_unitsOver_79 : decode cX2_unitsOver 79 = .ok (.iadd, 1) := dc0 dO_96 (by decide +kernel)
theorem dX2_unitsOver_80 : decode cX2_unitsOver 80 = .ok (.istore_n 3, 1) := dc0 dO_62 (by decide +kernel)
theorem dX2_unitsOver_81 : decode cX2_unitsOver 81 = .ok (.iinc 5 1, 3) := dcI dO_132 (by decide +kernel)
theorem dX2_unitsOver_84 : decode cX2_unitsOver 84 = .ok (.goto (-48), 3) := dcS2 dO_167 (by decide +kernel)
theorem dX2_unitsOver_87 : decode cX2_unitsOver 87 = .ok (.iinc 4 1, 3) := dcI dO_132 (by decide +kernel)
theorem dX2_unitsOver_90 : decode cX2_unitsOver 90 = .ok (.goto (-85), 3) := dcS2 dO_167 (by decide +kernel)
theorem dX2_unitsOver_93 : decode cX2_unitsOver 93 = .ok (.iload_n 3, 1) := dc0 dO_29 (by decide +kernel)
theorem dX2_unitsOver_94 : decode cX2_unitsOver 94 = .ok (.ireturn, 1) := dc0 dO_172 (by decide +kernel)
theorem dX2_unitsThat_0 : decode cX2_unitsThat 0 = .ok (.iconst 0, 1) := dc0 dO_3 (by decide +kernel)
theorem dX2_unitsThat_1 : decode cX2_unitsThat 1 = .ok (.istore_n 2, 1) := dc0 dO_61 (by decide +kernel)
theorem dX2_unitsThat_2 : decode cX2_unitsThat 2 = .ok (.iconst 0, 1) := dc0 dO_3 (by decide +kernel)
theorem dX2_unitsThat_3 : decode cX2_unitsThat 3 = .ok (.istore_n 3, 1) := dc0 dO_62 (by decide +kernel)
theorem dX2_unitsThat_4 : decode cX2_unitsThat 4 = .ok (.iload_n 3, 1) := dc0 dO_29 (by decide +kernel)
theorem dX2_unitsThat_5 : decode cX2_unitsThat 5 = .ok (.aload_n 0, 1) := dc0 dO_42 (by decide +kernel)
theorem dX2_unitsThat_6 : decode cX2_unitsThat 6 = .ok (.getfield 95, 3) := dcU2 dO_180 (by decide +kernel)
theorem dX2_unitsThat_9 : decode cX2_unitsThat 9 = .ok (.if_icmp .ge 38, 3) := dcS2 dO_162 (by decide +kernel)
theorem dX2_unitsThat_12 : decode cX2_unitsThat 12 = .ok (.aload_n 0, 1) := dc0 dO_42 (by decide +kernel)
theorem dX2_unitsThat_13 : decode cX2_unitsThat 13 = .ok (.aload_n 0, 1) := dc0 dO_42 (by decide +kernel)
theorem dX2_unitsThat_14 : decode cX2_unitsThat 14 = .ok (.getfield 22, 3) := dcU2 dO_180 (by decide +kernel)
theorem dX2_unitsThat_17 : decode cX2_unitsThat 17 = .ok (.iload_n 3, 1) := dc0 dO_29 (by decide +kernel)
theorem dX2_unitsThat_18 : decode cX2_unitsThat 18 = .ok (.iaload, 1) := dc0 dO_46 (by decide +kernel)
theorem dX2_unitsThat_19 : decode cX2_unitsThat 19 = .ok (.aload_n 0, 1) := dc0 dO_42 (by decide +kernel)
theorem dX2_unitsThat_20 : decode cX2_unitsThat 20 = .ok (.getfield 25, 3) := dcU2 dO_180 (by decide +kernel)
theorem dX2_unitsThat_23 : decode cX2_unitsThat 23 = .ok (.iload_n 3, 1) := dc0 dO_29 (by decide +kernel)
theorem dX2_unitsThat_24 : decode cX2_unitsThat 24 = .ok (.iaload, 1) := dc0 dO_46 (by decide +kernel)
theorem dX2_unitsThat_25 : decode cX2_unitsThat 25 = .ok (.invokevirtual 83, 3) := dcU2 dO_182 (by decide +kernel)
theorem dX2_unitsThat_28 : decode cX2_unitsThat 28 = .ok (.iload_n 1, 1) := dc0 dO_27 (by decide +kernel)
theorem dX2_unitsThat_29 : decode cX2_unitsThat 29 = .ok (.if_icmp .ne 12, 3) := dcS2 dO_160 (by decide +kernel)
theorem dX2_unitsThat_32 : decode cX2_unitsThat 32 = .ok (.iload_n 2, 1) := dc0 dO_28 (by decide +kernel)
theorem dX2_unitsThat_33 : decode cX2_unitsThat 33 = .ok (.aload_n 0, 1) := dc0 dO_42 (by decide +kernel)
theorem dX2_unitsThat_34 : decode cX2_unitsThat 34 = .ok (.getfield 28, 3) := dcU2 dO_180 (by decide +kernel)
theorem dX2_unitsThat_37 : decode cX2_unitsThat 37 = .ok (.iload_n 3, 1) := dc0 dO_29 (by decide +kernel)
theorem dX2_unitsThat_38 : decode cX2_unitsThat 38 = .ok (.iaload, 1) := dc0 dO_46 (by decide +kernel)
theorem dX2_unitsThat_39 : decode cX2_unitsThat 39 = .ok (.iadd, 1) := dc0 dO_96 (by decide +kernel)
theorem dX2_unitsThat_40 : decode cX2_unitsThat 40 = .ok (.istore_n 2, 1) := dc0 dO_61 (by decide +kernel)
theorem dX2_unitsThat_41 : decode cX2_unitsThat 41 = .ok (.iinc 3 1, 3) := dcI dO_132 (by decide +kernel)
theorem dX2_unitsThat_44 : decode cX2_unitsThat 44 = .ok (.goto (-40), 3) := dcS2 dO_167 (by decide +kernel)
theorem dX2_unitsThat_47 : decode cX2_unitsThat 47 = .ok (.iload_n 2, 1) := dc0 dO_28 (by decide +kernel)
theorem dX2_unitsThat_48 : decode cX2_unitsThat 48 = .ok (.ireturn, 1) := dc0 dO_172 (by decide +kernel)
theorem dX2_unlikeAddresses_0 : decode cX2_unlikeAddresses 0 = .ok (.aload_n 0, 1) := dc0 dO_42 (by decide +kernel)
theorem dX2_unlikeAddresses_1 : decode cX2_unlikeAddresses 1 = .ok (.invokevirtual 117, 3) := dcU2 dO_182 (by decide +kernel)
theorem dX2_unlikeAddresses_4 : decode cX2_unlikeAddresses 4 = .ok (.istore_n 3, 1) := dc0 dO_62 (by decide +kernel)
theorem dX2_unlikeAddresses_5 : decode cX2_unlikeAddresses 5 = .ok (.lconst 0, 1) := dc0 dO_9 (by decide +kernel)
theorem dX2_unlikeAddresses_6 : decode cX2_unlikeAddresses 6 = .ok (.lstore 4, 2) := dcU1 dO_55 (by decide +kernel)
theorem dX2_unlikeAddresses_8 : decode cX2_unlikeAddresses 8 = .ok (.iconst 0, 1) := dc0 dO_3 (by decide +kernel)
theorem dX2_unlikeAddresses_9 : decode cX2_unlikeAddresses 9 = .ok (.istore 6, 2) := dcU1 dO_54 (by decide +kernel)
theorem dX2_unlikeAddresses_11 : decode cX2_unlikeAddresses 11 = .ok (.iload 6, 2) := dcU1 dO_21 (by decide +kernel)
theorem dX2_unlikeAddresses_13 : decode cX2_unlikeAddresses 13 = .ok (.iconst 1, 1) := dc0 dO_4 (by decide +kernel)
theorem dX2_unlikeAddresses_14 : decode cX2_unlikeAddresses 14 = .ok (.iadd, 1) := dc0 dO_96 (by decide +kernel)
theorem dX2_unlikeAddresses_15 : decode cX2_unlikeAddresses 15 = .ok (.iload_n 3, 1) := dc0 dO_29 (by decide +kernel)
theorem dX2_unlikeAddresses_16 : decode cX2_unlikeAddresses 16 = .ok (.if_icmp .ge 58, 3) := dcS2 dO_162 (by decide +kernel)
theorem dX2_unlikeAddresses_19 : decode cX2_unlikeAddresses 19 = .ok (.aload_n 0, 1) := dc0 dO_42 (by decide +kernel)
theorem dX2_unlikeAddresses_20 : decode cX2_unlikeAddresses 20 = .ok (.getfield 31, 3) := dcU2 dO_180 (by decide +kernel)
theorem dX2_unlikeAddresses_23 : decode cX2_unlikeAddresses 23 = .ok (.iload 6, 2) := dcU1 dO_21 (by decide +kernel)
theorem dX2_unlikeAddresses_25 : decode cX2_unlikeAddresses 25 = .ok (.laload, 1) := dc0 dO_47 (by decide +kernel)
theorem dX2_unlikeAddresses_26 : decode cX2_unlikeAddresses 26 = .ok (.l2i, 1) := dc0 dO_136 (by decide +kernel)
theorem dX2_unlikeAddresses_27 : decode cX2_unlikeAddresses 27 = .ok (.istore 7, 2) := dcU1 dO_54 (by decide +kernel)
theorem dX2_unlikeAddresses_29 : decode cX2_unlikeAddresses 29 = .ok (.aload_n 0, 1) := dc0 dO_42 (by decide +kernel)
theorem dX2_unlikeAddresses_30 : decode cX2_unlikeAddresses 30 = .ok (.iload_n 1, 1) := dc0 dO_27 (by decide +kernel)
theorem dX2_unlikeAddresses_31 : decode cX2_unlikeAddresses 31 = .ok (.iload 7, 2) := dcU1 dO_21 (by decide +kernel)
theorem dX2_unlikeAddresses_33 : decode cX2_unlikeAddresses 33 = .ok (.invokevirtual 80, 3) := dcU2 dO_182 (by decide +kernel)
theorem dX2_unlikeAddresses_36 : decode cX2_unlikeAddresses 36 = .ok (.aload_n 0, 1) := dc0 dO_42 (by decide +kernel)
theorem dX2_unlikeAddresses_37 : decode cX2_unlikeAddresses 37 = .ok (.iload_n 2, 1) := dc0 dO_28 (by decide +kernel)
theorem dX2_unlikeAddresses_38 : decode cX2_unlikeAddresses 38 = .ok (.iload 7, 2) := dcU1 dO_21 (by decide +kernel)
theorem dX2_unlikeAddresses_40 : decode cX2_unlikeAddresses 40 = .ok (.invokevirtual 80, 3) := dcU2 dO_182 (by decide +kernel)
theorem dX2_unlikeAddresses_43 : decode cX2_unlikeAddresses 43 = .ok (.if_icmp .eq 25, 3) := dcS2 dO_159 (by decide +kernel)
theorem dX2_unlikeAddresses_46 : decode cX2_unlikeAddresses 46 = .ok (.lload 4, 2) := dcU1 dO_22 (by decide +kernel)
theorem dX2_unlikeAddresses_48 : decode cX2_unlikeAddresses 48 = .ok (.aload_n 0, 1) := dc0 dO_42 (by decide +kernel)
theorem dX2_unlikeAddresses_49 : decode cX2_unlikeAddresses 49 = .ok (.getfield 31, 3) := dcU2 dO_180 (by decide +kernel)
theorem dX2_unlikeAddresses_52 : decode cX2_unlikeAddresses 52 = .ok (.iload 6, 2) := dcU1 dO_21 (by decide +kernel)
theorem dX2_unlikeAddresses_54 : decode cX2_unlikeAddresses 54 = .ok (.iconst 1, 1) := dc0 dO_4 (by decide +kernel)
theorem dX2_unlikeAddresses_55 : decode cX2_unlikeAddresses 55 = .ok (.iadd, 1) := dc0 dO_96 (by decide +kernel)
theorem dX2_unlikeAddresses_56 : decode cX2_unlikeAddresses 56 = .ok (.laload, 1) := dc0 dO_47 (by decide +kernel)
theorem dX2_unlikeAddresses_57 : decode cX2_unlikeAddresses 57 = .ok (.aload_n 0, 1) := dc0 dO_42 (by decide +kernel)
theorem dX2_unlikeAddresses_58 : decode cX2_unlikeAddresses 58 = .ok (.getfield 31, 3) := dcU2 dO_180 (by decide +kernel)
theorem dX2_unlikeAddresses_61 : decode cX2_unlikeAddresses 61 = .ok (.iload 6, 2) := dcU1 dO_21 (by decide +kernel)
theorem dX2_unlikeAddresses_63 : decode cX2_unlikeAddresses 63 = .ok (.laload, 1) := dc0 dO_47 (by decide +kernel)
theorem dX2_unlikeAddresses_64 : decode cX2_unlikeAddresses 64 = .ok (.lsub, 1) := dc0 dO_101 (by decide +kernel)
theorem dX2_unlikeAddresses_65 : decode cX2_unlikeAddresses 65 = .ok (.ladd, 1) := dc0 dO_97 (by decide +kernel)
theorem dX2_unlikeAddresses_66 : decode cX2_unlikeAddresses 66 = .ok (.lstore 4, 2) := dcU1 dO_55 (by decide +kernel)
theorem dX2_unlikeAddresses_68 : decode cX2_unlikeAddresses 68 = .ok (.iinc 6 1, 3) := dcI dO_132 (by decide +kernel)
theorem dX2_unlikeAddresses_71 : decode cX2_unlikeAddresses 71 = .ok (.goto (-60), 3) := dcS2 dO_167 (by decide +kernel)
theorem dX2_unlikeAddresses_74 : decode cX2_unlikeAddresses 74 = .ok (.lload 4, 2) := dcU1 dO_22 (by decide +kernel)
theorem dX2_unlikeAddresses_76 : decode cX2_unlikeAddresses 76 = .ok (.lreturn, 1) := dc0 dO_173 (by decide +kernel)
theorem dX3_fourAt_0 : decode cX3_fourAt 0 = .ok (.aload_n 0, 1) := dc0 dO_42 (by decide +kernel)
theorem dX3_fourAt_1 : decode cX3_fourAt 1 = .ok (.iload_n 1, 1) := dc0 dO_27 (by decide +kernel)
theorem dX3_fourAt_2 : decode cX3_fourAt 2 = .ok (.invokevirtual 88, 3) := dcU2 dO_182 (by decide +kernel)
theorem dX3_fourAt_5 : decode cX3_fourAt 5 = .ok (.bipush 16, 2) := dcS1 dO_16 (by decide +kernel)
theorem dX3_fourAt_7 : decode cX3_fourAt 7 = .ok (.ishl, 1) := dc0 dO_120 (by decide +kernel)
theorem dX3_fourAt_8 : decode cX3_fourAt 8 = .ok (.aload_n 0, 1) := dc0 dO_42 (by decide +kernel)
theorem dX3_fourAt_9 : decode cX3_fourAt 9 = .ok (.iload_n 1, 1) := dc0 dO_27 (by decide +kernel)
theorem dX3_fourAt_10 : decode cX3_fourAt 10 = .ok (.iconst 2, 1) := dc0 dO_5 (by decide +kernel)
theorem dX3_fourAt_11 : decode cX3_fourAt 11 = .ok (.iadd, 1) := dc0 dO_96 (by decide +kernel)
theorem dX3_fourAt_12 : decode cX3_fourAt 12 = .ok (.invokevirtual 88, 3) := dcU2 dO_182 (by decide +kernel)
theorem dX3_fourAt_15 : decode cX3_fourAt 15 = .ok (.ior, 1) := dc0 dO_128 (by decide +kernel)
theorem dX3_fourAt_16 : decode cX3_fourAt 16 = .ok (.ireturn, 1) := dc0 dO_172 (by decide +kernel)
theorem dX3_pairAt_0 : decode cX3_pairAt 0 = .ok (.aload_n 0, 1) := dc0 dO_42 (by decide +kernel)
theorem dX3_pairAt_1 : decode cX3_pairAt 1 = .ok (.getfield 41, 3) := dcU2 dO_180 (by decide +kernel)
theorem dX3_pairAt_4 : decode cX3_pairAt 4 = .ok (.iload_n 1, 1) := dc0 dO_27 (by decide +kernel)
theorem dX3_pairAt_5 : decode cX3_pairAt 5 = .ok (.iaload, 1) := dc0 dO_46 (by decide +kernel)
theorem dX3_pairAt_6 : decode cX3_pairAt 6 = .ok (.bipush 8, 2) := dcS1 dO_16 (by decide +kernel)
theorem dX3_pairAt_8 : decode cX3_pairAt 8 = .ok (.ishl, 1) := dc0 dO_120 (by decide +kernel)
theorem dX3_pairAt_9 : decode cX3_pairAt 9 = .ok (.aload_n 0, 1) := dc0 dO_42 (by decide +kernel)
theorem dX3_pairAt_10 : decode cX3_pairAt 10 = .ok (.getfield 41, 3) := dcU2 dO_180 (by decide +kernel)
theorem dX3_pairAt_13 : decode cX3_pairAt 13 = .ok (.iload_n 1, 1) := dc0 dO_27 (by decide +kernel)
theorem dX3_pairAt_14 : decode cX3_pairAt 14 = .ok (.iconst 1, 1) := dc0 dO_4 (by decide +kernel)
theorem dX3_pairAt_15 : decode cX3_pairAt 15 = .ok (.iadd, 1) := dc0 dO_96 (by decide +kernel)
theorem dX3_pairAt_16 : decode cX3_pairAt 16 = .ok (.iaload, 1) := dc0 dO_46 (by decide +kernel)
theorem dX3_pairAt_17 : decode cX3_pairAt 17 = .ok (.ior, 1) := dc0 dO_128 (by decide +kernel)
theorem dX3_pairAt_18 : decode cX3_pairAt 18 = .ok (.ireturn, 1) := dc0 dO_172 (by decide +kernel)
theorem dX3_readCost_0 : decode cX3_readCost 0 = .ok (.iload_n 2, 1) := dc0 dO_28 (by decide +kernel)
theorem dX3_readCost_1 : decode cX3_readCost 1 = .ok (.iconst 4, 1) := dc0 dO_7 (by decide +kernel)
theorem dX3_readCost_2 : decode cX3_readCost 2 = .ok (.if_icmp .eq 5, 3) := dcS2 dO_159 (by decide +kernel)
theorem dX3_readCost_5 : decode cX3_readCost 5 = .ok (.iconst 0, 1) := dc0 dO_3 (by decide +kernel)
theorem dX3_readCost_6 : decode cX3_readCost 6 = .ok (.ireturn, 1) := dc0 dO_172 (by decide +kernel)
theorem dX3_readCost_7 : decode cX3_readCost 7 = .ok (.aload_n 0, 1) := dc0 dO_42 (by decide +kernel)
theorem dX3_readCost_8 : decode cX3_readCost 8 = .ok (.iload_n 1, 1) := dc0 dO_27 (by decide +kernel)
theorem dX3_readCost_9 : decode cX3_readCost 9 = .ok (.invokevirtual 130, 3) := dcU2 dO_182 (by decide +kernel)
theorem dX3_readCost_12 : decode cX3_readCost 12 = .ok (.istore_n 3, 1) := dc0 dO_62 (by decide +kernel)
theorem dX3_readCost_13 : decode cX3_readCost 13 = .ok (.aload_n 0, 1) := dc0 dO_42 (by decide +kernel)
theorem dX3_readCost_14 : decode cX3_readCost 14 = .ok (.getfield 28, 3) := dcU2 dO_180 (by decide +kernel)
theorem dX3_readCost_17 : decode cX3_readCost 17 = .ok (.iload_n 3, 1) := dc0 dO_29 (by decide +kernel)
theorem dX3_readCost_18 : decode cX3_readCost 18 = .ok (.ifCond .lt 9, 3) := dcS2 dO_155 (by decide +kernel)
theorem dX3_readCost_21 : decode cX3_readCost 21 = .ok (.iload_n 3, 1) := dc0 dO_29 (by decide +kernel)
theorem dX3_readCost_22 : decode cX3_readCost 22 = .ok (.ldc 133, 2) := dcU1 dO_18 (by decide +kernel)
theorem dX3_readCost_24 : decode cX3_readCost 24 = .ok (.if_icmp .le 8, 3) := dcS2 dO_164 (by decide +kernel)
theorem dX3_readCost_27 : decode cX3_readCost 27 = .ok (.ldc 133, 2) := dcU1 dO_18 (by decide +kernel)
theorem dX3_readCost_29 : decode cX3_readCost 29 = .ok (.goto 4, 3) := dcS2 dO_167 (by decide +kernel)
theorem dX3_readCost_32 : decode cX3_readCost 32 = .ok (.iload_n 3, 1) := dc0 dO_29 (by decide +kernel)
theorem dX3_readCost_33 : decode cX3_readCost 33 = .ok (.putfield 134, 3) := dcU2 dO_181 (by decide +kernel)
theorem dX3_readCost_36 : decode cX3_readCost 36 = .ok (.iconst 1, 1) := dc0 dO_4 (by decide +kernel)
theorem dX3_readCost_37 : decode cX3_readCost 37 = .ok (.ireturn, 1) := dc0 dO_172 (by decide +kernel)
theorem dX3_readMarks_0 : decode cX3_readMarks 0 = .ok (.iload_n 2, 1) := dc0 dO_28 (by decide +kernel)
theorem dX3_readMarks_1 : decode cX3_readMarks 1 = .ok (.iconst 4, 1) := dc0 dO_7 (by decide +kernel)
theorem dX3_readMarks_2 : decode cX3_readMarks 2 = .ok (.irem, 1) := dc0 dO_112 (by decide +kernel)
theorem dX3_readMarks_3 : decode cX3_readMarks 3 = .ok (.ifCond .eq 5, 3) := dcS2 dO_153 (by decide +kernel)
theorem dX3_readMarks_6 : decode cX3_readMarks 6 = .ok (.iconst 0, 1) := dc0 dO_3 (by decide +kernel)
theorem dX3_readMarks_7 : decode cX3_readMarks 7 = .ok (.ireturn, 1) := dc0 dO_172 (by decide +kernel)
theorem dX3_readMarks_8 : decode cX3_readMarks 8 = .ok (.iload_n 1, 1) := dc0 dO_27 (by decide +kernel)
theorem dX3_readMarks_9 : decode cX3_readMarks 9 = .ok (.istore_n 3, 1) := dc0 dO_62 (by decide +kernel)
theorem dX3_readMarks_10 : decode cX3_readMarks 10 = .ok (.iload_n 3, 1) := dc0 dO_29 (by decide +kernel)
theorem dX3_readMarks_11 : decode cX3_readMarks 11 = .ok (.iload_n 1, 1) := dc0 dO_27 (by decide +kernel)
theorem dX3_readMarks_12 : decode cX3_readMarks 12 = .ok (.iload_n 2, 1) := dc0 dO_28 (by decide +kernel)
theorem dX3_readMarks_13 : decode cX3_readMarks 13 = .ok (.iadd, 1) := dc0 dO_96 (by decide +kernel)
theorem dX3_readMarks_14 : decode cX3_readMarks 14 = .ok (.if_icmp .ge 20, 3) := dcS2 dO_162 (by decide +kernel)
theorem dX3_readMarks_17 : decode cX3_readMarks 17 = .ok (.aload_n 0, 1) := dc0 dO_42 (by decide +kernel)
theorem dX3_readMarks_18 : decode cX3_readMarks 18 = .ok (.aload_n 0, 1) := dc0 dO_42 (by decide +kernel)
theorem dX3_readMarks_19 : decode cX3_readMarks 19 = .ok (.iload_n 3, 1) := dc0 dO_29 (by decide +kernel)
theorem dX3_readMarks_20 : decode cX3_readMarks 20 = .ok (.iconst 2, 1) := dc0 dO_5 (by decide +kernel)
theorem dX3_readMarks_21 : decode cX3_readMarks 21 = .ok (.iadd, 1) := dc0 dO_96 (by decide +kernel)
theorem dX3_readMarks_22 : decode cX3_readMarks 22 = .ok (.invokevirtual 88, 3) := dcU2 dO_182 (by decide +kernel)
theorem dX3_readMarks_25 : decode cX3_readMarks 25 = .ok (.invokevirtual 137, 3) := dcU2 dO_182 (by decide +kernel)
theorem dX3_readMarks_28 : decode cX3_readMarks 28 = .ok (.iinc 3 4, 3) := dcI dO_132 (by decide +kernel)
theorem dX3_readMarks_31 : decode cX3_readMarks 31 = .ok (.goto (-21), 3) := dcS2 dO_167 (by decide +kernel)
theorem dX3_readMarks_34 : decode cX3_readMarks 34 = .ok (.iconst 1, 1) := dc0 dO_4 (by decide +kernel)
theorem dX3_readMarks_35 : decode cX3_readMarks 35 = .ok (.ireturn, 1) := dc0 dO_172 (by decide +kernel)
theorem dX3_readOrigin_0 : decode cX3_readOrigin 0 = .ok (.iload_n 2, 1) := dc0 dO_28 (by decide +kernel)
theorem dX3_readOrigin_1 : decode cX3_readOrigin 1 = .ok (.iconst 1, 1) := dc0 dO_4 (by decide +kernel)
theorem dX3_readOrigin_2 : decode cX3_readOrigin 2 = .ok (.if_icmp .ne 13, 3) := dcS2 dO_160 (by decide +kernel)
theorem dX3_readOrigin_5 : decode cX3_readOrigin 5 = .ok (.aload_n 0, 1) := dc0 dO_42 (by decide +kernel)
theorem dX3_readOrigin_6 : decode cX3_readOrigin 6 = .ok (.getfield 41, 3) := dcU2 dO_180 (by decide +kernel)
theorem dX3_readOrigin_9 : decode cX3_readOrigin 9 = .ok (.iload_n 1, 1) := dc0 dO_27 (by decide +kernel)
theorem dX3_readOrigin_10 : decode cX3_readOrigin 10 = .ok (.iaload, 1) := dc0 dO_46 (by decide +kernel)
theorem dX3_readOrigin_11 : decode cX3_readOrigin 11 = .ok (.iconst 2, 1) := dc0 dO_5 (by decide +kernel)
theorem dX3_readOrigin_12 : decode cX3_readOrigin 12 = .ok (.if_icmp .le 5, 3) := dcS2 dO_164 (by decide +kernel)
theorem dX3_readOrigin_15 : decode cX3_readOrigin 15 = .ok (.iconst 0, 1) := dc0 dO_3 (by decide +kernel)
theorem dX3_readOrigin_16 : decode cX3_readOrigin 16 = .ok (.ireturn, 1) := dc0 dO_172 (by decide +kernel)
theorem dX3_readOrigin_17 : decode cX3_readOrigin 17 = .ok (.aload_n 0, 1) := dc0 dO_42 (by decide +kernel)
theorem dX3_readOrigin_18 : decode cX3_readOrigin 18 = .ok (.getfield 28, 3) := dcU2 dO_180 (by decide +kernel)
theorem dX3_readOrigin_21 : decode cX3_readOrigin 21 = .ok (.aload_n 0, 1) := dc0 dO_42 (by decide +kernel)
theorem dX3_readOrigin_22 : decode cX3_readOrigin 22 = .ok (.getfield 41, 3) := dcU2 dO_180 (by decide +kernel)
theorem dX3_readOrigin_25 : decode cX3_readOrigin 25 = .ok (.iload_n 1, 1) := dc0 dO_27 (by decide +kernel)
theorem dX3_readOrigin_26 : decode cX3_readOrigin 26 = .ok (.iaload, 1) := dc0 dO_46 (by decide +kernel)
theorem dX3_readOrigin_27 : decode cX3_readOrigin 27 = .ok (.putfield 127, 3) := dcU2 dO_181 (by decide +kernel)
theorem dX3_readOrigin_30 : decode cX3_readOrigin 30 = .ok (.iconst 1, 1) := dc0 dO_4 (by decide +kernel)
theorem dX3_readOrigin_31 : decode cX3_readOrigin 31 = .ok (.ireturn, 1) := dc0 dO_172 (by decide +kernel)
theorem dX3_readPrefixes_0 : decode cX3_readPrefixes 0 = .ok (.iload_n 1, 1) := dc0 dO_27 (by decide +kernel)
theorem dX3_readPrefixes_1 : decode cX3_readPrefixes 1 = .ok (.istore 4, 2) := dcU1 dO_54 (by decide +kernel)
theorem dX3_readPrefixes_3 : decode cX3_readPrefixes 3 = .ok (.iconst 0, 1) := dc0 dO_3 (by decide +kernel)
theorem dX3_readPrefixes_4 : decode cX3_readPrefixes 4 = .ok (.istore 5, 2) := dcU1 dO_54 (by decide +kernel)
theorem dX3_readPrefixes_6 : decode cX3_readPrefixes 6 = .ok (.iload 4, 2) := dcU1 dO_21 (by decide +kernel)
theorem dX3_readPrefixes_8 : decode cX3_readPrefixes 8 = .ok (.iload_n 2, 1) := dc0 dO_28 (by decide +kernel)
theorem dX3_readPrefixes_9 : decode cX3_readPrefixes 9 = .ok (.if_icmp .ge 148, 3) := dcS2 dO_162 (by decide +kernel)
theorem dX3_readPrefixes_12 : decode cX3_readPrefixes 12 = .ok (.aload_n 0, 1) := dc0 dO_42 (by decide +kernel)
theorem dX3_readPrefixes_13 : decode cX3_readPrefixes 13 = .ok (.getfield 41, 3) := dcU2 dO_180 (by decide +kernel)
theorem dX3_readPrefixes_16 : decode cX3_readPrefixes 16 = .ok (.iload 4, 2) := dcU1 dO_21 (by decide +kernel)
theorem dX3_readPrefixes_18 : decode cX3_readPrefixes 18 = .ok (.iaload, 1) := dc0 dO_46 (by decide +kernel)
theorem dX3_readPrefixes_19 : decode cX3_readPrefixes 19 = .ok (.istore 6, 2) := dcU1 dO_54 (by decide +kernel)
theorem dX3_readPrefixes_21 : decode cX3_readPrefixes 21 = .ok (.iload 6, 2) := dcU1 dO_21 (by decide +kernel)
theorem dX3_readPrefixes_23 : decode cX3_readPrefixes 23 = .ok (.bipush 7, 2) := dcS1 dO_16 (by decide +kernel)
theorem dX3_readPrefixes_25 : decode cX3_readPrefixes 25 = .ok (.iadd, 1) := dc0 dO_96 (by decide +kernel)
theorem dX3_readPrefixes_26 : decode cX3_readPrefixes 26 = .ok (.bipush 8, 2) := dcS1 dO_16 (by decide +kernel)
theorem dX3_readPrefixes_28 : decode cX3_readPrefixes 28 = .ok (.idiv, 1) := dc0 dO_108 (by decide +kernel)
theorem dX3_readPrefixes_29 : decode cX3_readPrefixes 29 = .ok (.istore 7, 2) := dcU1 dO_54 (by decide +kernel)
theorem dX3_readPrefixes_31 : decode cX3_readPrefixes 31 = .ok (.iload 6, 2) := dcU1 dO_21 (by decide +kernel)
theorem dX3_readPrefixes_33 : decode cX3_readPrefixes 33 = .ok (.bipush 32, 2) := dcS1 dO_16 (by decide +kernel)
theorem dX3_readPrefixes_35 : decode cX3_readPrefixes 35 = .ok (.if_icmp .gt 24, 3) := dcS2 dO_163 (by decide +kernel)
theorem dX3_readPrefixes_38 : decode cX3_readPrefixes 38 = .ok (.iload 4, 2) := dcU1 dO_21 (by decide +kernel)
theorem dX3_readPrefixes_40 : decode cX3_readPrefixes 40 = .ok (.iconst 1, 1) := dc0 dO_4 (by decide +kernel)
theorem dX3_readPrefixes_41 : decode cX3_readPrefixes 41 = .ok (.iadd, 1) := dc0 dO_96 (by decide +kernel)
theorem dX3_readPrefixes_42 : decode cX3_readPrefixes 42 = .ok (.iload 7, 2) := dcU1 dO_21 (by decide +kernel)
theorem dX3_readPrefixes_44 : decode cX3_readPrefixes 44 = .ok (.iadd, 1) := dc0 dO_96 (by decide +kernel)
theorem dX3_readPrefixes_45 : decode cX3_readPrefixes 45 = .ok (.iload_n 2, 1) := dc0 dO_28 (by decide +kernel)
theorem dX3_readPrefixes_46 : decode cX3_readPrefixes 46 = .ok (.if_icmp .gt 13, 3) := dcS2 dO_163 (by decide +kernel)
theorem dX3_readPrefixes_49 : decode cX3_readPrefixes 49 = .ok (.iload_n 3, 1) := dc0 dO_29 (by decide +kernel)
theorem dX3_readPrefixes_50 : decode cX3_readPrefixes 50 = .ok (.iload 5, 2) := dcU1 dO_21 (by decide +kernel)
theorem dX3_readPrefixes_52 : decode cX3_readPrefixes 52 = .ok (.iadd, 1) := dc0 dO_96 (by decide +kernel)
theorem dX3_readPrefixes_53 : decode cX3_readPrefixes 53 = .ok (.sipush 1000, 3) := dcS2 dO_17 (by decide +kernel)
theorem dX3_readPrefixes_56 : decode cX3_readPrefixes 56 = .ok (.if_icmp .lt 13, 3) := dcS2 dO_161 (by decide +kernel)
theorem dX3_readPrefixes_59 : decode cX3_readPrefixes 59 = .ok (.aload_n 0, 1) := dc0 dO_42 (by decide +kernel)
theorem dX3_readPrefixes_60 : decode cX3_readPrefixes 60 = .ok (.iconst 1, 1) := dc0 dO_4 (by decide +kernel)
theorem dX3_readPrefixes_61 : decode cX3_readPrefixes 61 = .ok (.iload 4, 2) := dcU1 dO_21 (by decide +kernel)
theorem dX3_readPrefixes_63 : decode cX3_readPrefixes 63 = .ok (.invokevirtual 92, 3) := dcU2 dO_182 (by decide +kernel)
theorem dX3_readPrefixes_66 : decode cX3_readPrefixes 66 = .ok (.iload 5, 2) := dcU1 dO_21 (by decide +kernel)
theorem dX3_readPrefixes_68 : decode cX3_readPrefixes 68 = .ok (.ireturn, 1) := dc0 dO_172 (by decide +kernel)
theorem dX3_readPrefixes_69 : decode cX3_readPrefixes 69 = .ok (.iconst 0, 1) := dc0 dO_3 (by decide +kernel)
theorem dX3_readPrefixes_70 : decode cX3_readPrefixes 70 = .ok (.istore 8, 2) := dcU1 dO_54 (by decide +kernel)
theorem dX3_readPrefixes_72 : decode cX3_readPrefixes 72 = .ok (.iconst 0, 1) := dc0 dO_3 (by decide +kernel)
theorem dX3_readPrefixes_73 : decode cX3_readPrefixes 73 = .ok (.istore 9, 2) := dcU1 dO_54 (by decide +kernel)
theorem dX3_readPrefixes_75 : decode cX3_readPrefixes 75 = .ok (.iload 9, 2) := dcU1 dO_21 (by decide +kernel)
theorem dX3_readPrefixes_77 : decode cX3_readPrefixes 77 = .ok (.iload 7, 2) := dcU1 dO_21 (by decide +kernel)
theorem dX3_readPrefixes_79 : decode cX3_readPrefixes 79 = .ok (.if_icmp .ge 35, 3) := dcS2 dO_162 (by decide +kernel)
theorem dX3_readPrefixes_82 : decode cX3_readPrefixes 82 = .ok (.iload 8, 2) := dcU1 dO_21 (by decide +kernel)
theorem dX3_readPrefixes_84 : decode cX3_readPrefixes 84 = .ok (.aload_n 0, 1) := dc0 dO_42 (by decide +kernel)
theorem dX3_readPrefixes_85 : decode cX3_readPrefixes 85 = .ok (.getfield 41, 3) := dcU2 dO_180 (by decide +kernel)
theorem dX3_readPrefixes_88 : decode cX3_readPrefixes 88 = .ok (.iload 4, 2) := dcU1 dO_21 (by decide +kernel)
theorem dX3_readPrefixes_90 : decode cX3_readPrefixes 90 = .ok (.iconst 1, 1) := dc0 dO_4 (by decide +kernel)
theorem dX3_readPrefixes_91 : decode cX3_readPrefixes 91 = .ok (.iadd, 1) := dc0 dO_96 (by decide +kernel)
theorem dX3_readPrefixes_92 : decode cX3_readPrefixes 92 = .ok (.iload 9, 2) := dcU1 dO_21 (by decide +kernel)
theorem dX3_readPrefixes_94 : decode cX3_readPrefixes 94 = .ok (.iadd, 1) := dc0 dO_96 (by decide +kernel)
theorem dX3_readPrefixes_95 : decode cX3_readPrefixes 95 = .ok (.iaload, 1) := dc0 dO_46 (by decide +kernel)
theorem dX3_readPrefixes_96 : decode cX3_readPrefixes 96 = .ok (.bipush 24, 2) := dcS1 dO_16 (by decide +kernel)
theorem dX3_readPrefixes_98 : decode cX3_readPrefixes 98 = .ok (.bipush 8, 2) := dcS1 dO_16 (by decide +kernel)
theorem dX3_readPrefixes_100 : decode cX3_readPrefixes 100 = .ok (.iload 9, 2) := dcU1 dO_21 (by decide +kernel)
theorem dX3_readPrefixes_102 : decode cX3_readPrefixes 102 = .ok (.imul, 1) := dc0 dO_104 (by decide +kernel)
theorem dX3_readPrefixes_103 : decode cX3_readPrefixes 103 = .ok (.isub, 1) := dc0 dO_100 (by decide +kernel)
theorem dX3_readPrefixes_104 : decode cX3_readPrefixes 104 = .ok (.ishl, 1) := dc0 dO_120 (by decide +kernel)
theorem dX3_readPrefixes_105 : decode cX3_readPrefixes 105 = .ok (.ior, 1) := dc0 dO_128 (by decide +kernel)
theorem dX3_readPrefixes_106 : decode cX3_readPrefixes 106 = .ok (.istore 8, 2) := dcU1 dO_54 (by decide +kernel)
theorem dX3_readPrefixes_108 : decode cX3_readPrefixes 108 = .ok (.iinc 9 1, 3) := dcI dO_132 (by decide +kernel)
theorem dX3_readPrefixes_111 : decode cX3_readPrefixes 111 = .ok (.goto (-36), 3) := dcS2 dO_167 (by decide +kernel)
theorem dX3_readPrefixes_114 : decode cX3_readPrefixes 114 = .ok (.aload_n 0, 1) := dc0 dO_42 (by decide +kernel)
theorem dX3_readPrefixes_115 : decode cX3_readPrefixes 115 = .ok (.getfield 32, 3) := dcU2 dO_180 (by decide +kernel)
theorem dX3_readPrefixes_118 : decode cX3_readPrefixes 118 = .ok (.iload_n 3, 1) := dc0 dO_29 (by decide +kernel)
theorem dX3_readPrefixes_119 : decode cX3_readPrefixes 119 = .ok (.iload 5, 2) := dcU1 dO_21 (by decide +kernel)
theorem dX3_readPrefixes_121 : decode cX3_readPrefixes 121 = .ok (.iadd, 1) := dc0 dO_96 (by decide +kernel)
theorem dX3_readPrefixes_122 : decode cX3_readPrefixes 122 = .ok (.iload 8, 2) := dcU1 dO_21 (by decide +kernel)
theorem dX3_readPrefixes_124 : decode cX3_readPrefixes 124 = .ok (.iload 6, 2) := dcU1 dO_21 (by decide +kernel)
theorem dX3_readPrefixes_126 : decode cX3_readPrefixes 126 = .ok (.invokestatic 102, 3) := dcU2 dO_184 (by decide +kernel)
theorem sfx_cX3_readPrefixes_128 : (cX3_readPrefixes.data.toList.drop 128).take 67 = [102, 126, 79, 42, 180, 0, 35, 29, 21, 5, 96, 21, 6, 79, 132, 5, 1, 21, 4, 4, 21, 7, 96, 96, 54, 4, 167, 255, 108, 21, 5, 172] := by decide +kernel
theorem dX3_readPrefixes_129 : decode cX3_readPrefixes 129 = .ok (.iand, 1) := dc0 dO_126 (rdB.ch sfx_cX3_readPrefixes_128 1 rfl (by decide +kernel))
theorem dX3_readPrefixes_130 : decode cX3_readPrefixes 130 = .ok (.iastore, 1) := dc0 dO_79 (rdB.ch sfx_cX3_readPrefixes_128 2 rfl (by decide +kernel))
theorem dX3_readPrefixes_131 : decode cX3_readPrefixes 131 = .ok (.aload_n 0, 1) := dc0 dO_42 (rdB.ch sfx_cX3_readPrefixes_128 3 rfl (by decide +kernel))
theorem dX3_readPrefixes_132 : decode cX3_readPrefixes 132 = .ok (.getfield 35, 3) := dcU2 dO_180 (rdU2.ch sfx_cX3_readPrefixes_128 4 rfl (by decide +kernel))
theorem dX3_readPrefixes_135 : decode cX3_readPrefixes 135 = .ok (.iload_n 3, 1) := dc0 dO_29 (rdB.ch sfx_cX3_readPrefixes_128 7 rfl (by decide +kernel))
theorem dX3_readPrefixes_136 : decode cX3_readPrefixes 136 = .ok (.iload 5, 2) := dcU1 dO_21 (rdU1.ch sfx_cX3_readPrefixes_128 8 rfl (by decide +kernel))
theorem dX3_readPrefixes_138 : decode cX3_readPrefixes 138 = .ok (.iadd, 1) := dc0 dO_96 (rdB.ch sfx_cX3_readPrefixes_128 10 rfl (by decide +kernel))
theorem dX3_readPrefixes_139 : decode cX3_readPrefixes 139 = .ok (.iload 6, 2) := dcU1 dO_21 (rdU1.ch sfx_cX3_readPrefixes_128 11 rfl (by decide +kernel))
theorem dX3_readPrefixes_141 : decode cX3_readPrefixes 141 = .ok (.iastore, 1) := dc0 dO_79 (rdB.ch sfx_cX3_readPrefixes_128 13 rfl (by decide +kernel))
theorem dX3_readPrefixes_142 : decode cX3_readPrefixes 142 = .ok (.iinc 5 1, 3) := dcI dO_132 (rdI.ch sfx_cX3_readPrefixes_128 14 rfl (by decide +kernel))
theorem dX3_readPrefixes_145 : decode cX3_readPrefixes 145 = .ok (.iload 4, 2) := dcU1 dO_21 (rdU1.ch sfx_cX3_readPrefixes_128 17 rfl (by decide +kernel))
theorem dX3_readPrefixes_147 : decode cX3_readPrefixes 147 = .ok (.iconst 1, 1) := dc0 dO_4 (rdB.ch sfx_cX3_readPrefixes_128 19 rfl (by decide +kernel))
theorem dX3_readPrefixes_148 : decode cX3_readPrefixes 148 = .ok (.iload 7, 2) := dcU1 dO_21 (rdU1.ch sfx_cX3_readPrefixes_128 20 rfl (by decide +kernel))
theorem dX3_readPrefixes_150 : decode cX3_readPrefixes 150 = .ok (.iadd, 1) := dc0 dO_96 (rdB.ch sfx_cX3_readPrefixes_128 22 rfl (by decide +kernel))
theorem dX3_readPrefixes_151 : decode cX3_readPrefixes 151 = .ok (.iadd, 1) := dc0 dO_96 (rdB.ch sfx_cX3_readPrefixes_128 23 rfl (by decide +kernel))
theorem dX3_readPrefixes_152 : decode cX3_readPrefixes 152 = .ok (.istore 4, 2) := dcU1 dO_54 (rdU1.ch sfx_cX3_readPrefixes_128 24 rfl (by decide +kernel))
theorem dX3_readPrefixes_154 : decode cX3_readPrefixes 154 = .ok (.goto (-148), 3) := dcS2 dO_167 (rdS2.ch sfx_cX3_readPrefixes_128 26 rfl (by decide +kernel))
theorem dX3_readPrefixes_157 : decode cX3_readPrefixes 157 = .ok (.iload 5, 2) := dcU1 dO_21 (rdU1.ch sfx_cX3_readPrefixes_128 29 rfl (by decide +kernel))
theorem dX3_readPrefixes_159 : decode cX3_readPrefixes 159 = .ok (.ireturn, 1) := dc0 dO_172 (rdB.ch sfx_cX3_readPrefixes_128 31 rfl (by decide +kernel))
theorem dX3_readWay_0 : decode cX3_readWay 0 = .ok (.iload_n 1, 1) := dc0 dO_27 (by decide +kernel)
theorem dX3_readWay_1 : decode cX3_readWay 1 = .ok (.iload_n 2, 1) := dc0 dO_28 (by decide +kernel)
theorem dX3_readWay_2 : decode cX3_readWay 2 = .ok (.iadd, 1) := dc0 dO_96 (by decide +kernel)
theorem dX3_readWay_3 : decode cX3_readWay 3 = .ok (.istore_n 3, 1) := dc0 dO_62 (by decide +kernel)
theorem dX3_readWay_4 : decode cX3_readWay 4 = .ok (.iload_n 1, 1) := dc0 dO_27 (by decide +kernel)
theorem dX3_readWay_5 : decode cX3_readWay 5 = .ok (.istore 4, 2) := dcU1 dO_54 (by decide +kernel)
theorem dX3_readWay_7 : decode cX3_readWay 7 = .ok (.iconst 0, 1) := dc0 dO_3 (by decide +kernel)
theorem dX3_readWay_8 : decode cX3_readWay 8 = .ok (.istore 5, 2) := dcU1 dO_54 (by decide +kernel)
theorem dX3_readWay_10 : decode cX3_readWay 10 = .ok (.iload 4, 2) := dcU1 dO_21 (by decide +kernel)
theorem dX3_readWay_12 : decode cX3_readWay 12 = .ok (.iload_n 3, 1) := dc0 dO_29 (by decide +kernel)
theorem dX3_readWay_13 : decode cX3_readWay 13 = .ok (.if_icmp .ge 164, 3) := dcS2 dO_162 (by decide +kernel)
theorem dX3_readWay_16 : decode cX3_readWay 16 = .ok (.iload 4, 2) := dcU1 dO_21 (by decide +kernel)
theorem dX3_readWay_18 : decode cX3_readWay 18 = .ok (.iconst 2, 1) := dc0 dO_5 (by decide +kernel)
theorem dX3_readWay_19 : decode cX3_readWay 19 = .ok (.iadd, 1) := dc0 dO_96 (by decide +kernel)
theorem dX3_readWay_20 : decode cX3_readWay 20 = .ok (.iload_n 3, 1) := dc0 dO_29 (by decide +kernel)
theorem dX3_readWay_21 : decode cX3_readWay 21 = .ok (.if_icmp .le 5, 3) := dcS2 dO_164 (by decide +kernel)
theorem dX3_readWay_24 : decode cX3_readWay 24 = .ok (.iconst 0, 1) := dc0 dO_3 (by decide +kernel)
theorem dX3_readWay_25 : decode cX3_readWay 25 = .ok (.ireturn, 1) := dc0 dO_172 (by decide +kernel)
theorem dX3_readWay_26 : decode cX3_readWay 26 = .ok (.aload_n 0, 1) := dc0 dO_42 (by decide +kernel)
theorem dX3_readWay_27 : decode cX3_readWay 27 = .ok (.getfield 41, 3) := dcU2 dO_180 (by decide +kernel)
theorem dX3_readWay_30 : decode cX3_readWay 30 = .ok (.iload 4, 2) := dcU1 dO_21 (by decide +kernel)
theorem dX3_readWay_32 : decode cX3_readWay 32 = .ok (.iaload, 1) := dc0 dO_46 (by decide +kernel)
theorem dX3_readWay_33 : decode cX3_readWay 33 = .ok (.istore 6, 2) := dcU1 dO_54 (by decide +kernel)
theorem dX3_readWay_35 : decode cX3_readWay 35 = .ok (.aload_n 0, 1) := dc0 dO_42 (by decide +kernel)
theorem dX3_readWay_36 : decode cX3_readWay 36 = .ok (.getfield 41, 3) := dcU2 dO_180 (by decide +kernel)
theorem dX3_readWay_39 : decode cX3_readWay 39 = .ok (.iload 4, 2) := dcU1 dO_21 (by decide +kernel)
theorem dX3_readWay_41 : decode cX3_readWay 41 = .ok (.iconst 1, 1) := dc0 dO_4 (by decide +kernel)
theorem dX3_readWay_42 : decode cX3_readWay 42 = .ok (.iadd, 1) := dc0 dO_96 (by decide +kernel)
theorem dX3_readWay_43 : decode cX3_readWay 43 = .ok (.iaload, 1) := dc0 dO_46 (by decide +kernel)
theorem dX3_readWay_44 : decode cX3_readWay 44 = .ok (.istore 7, 2) := dcU1 dO_54 (by decide +kernel)
theorem dX3_readWay_46 : decode cX3_readWay 46 = .ok (.iload 6, 2) := dcU1 dO_21 (by decide +kernel)
theorem dX3_readWay_48 : decode cX3_readWay 48 = .ok (.iconst 1, 1) := dc0 dO_4 (by decide +kernel)
theorem dX3_readWay_49 : decode cX3_readWay 49 = .ok (.if_icmp .lt 15, 3) := dcS2 dO_161 (by decide +kernel)
theorem dX3_readWay_52 : decode cX3_readWay 52 = .ok (.iload 6, 2) := dcU1 dO_21 (by decide +kernel)
theorem dX3_readWay_54 : decode cX3_readWay 54 = .ok (.iconst 2, 1) := dc0 dO_5 (by decide +kernel)
theorem dX3_readWay_55 : decode cX3_readWay 55 = .ok (.if_icmp .gt 9, 3) := dcS2 dO_163 (by decide +kernel)
theorem dX3_readWay_58 : decode cX3_readWay 58 = .ok (.iload 7, 2) := dcU1 dO_21 (by decide +kernel)
theorem dX3_readWay_60 : decode cX3_readWay 60 = .ok (.iconst 1, 1) := dc0 dO_4 (by decide +kernel)
theorem dX3_readWay_61 : decode cX3_readWay 61 = .ok (.if_icmp .ge 5, 3) := dcS2 dO_162 (by decide +kernel)
theorem dX3_readWay_64 : decode cX3_readWay 64 = .ok (.iconst 0, 1) := dc0 dO_3 (by decide +kernel)
theorem dX3_readWay_65 : decode cX3_readWay 65 = .ok (.ireturn, 1) := dc0 dO_172 (by decide +kernel)
theorem dX3_readWay_66 : decode cX3_readWay 66 = .ok (.iload 4, 2) := dcU1 dO_21 (by decide +kernel)
theorem dX3_readWay_68 : decode cX3_readWay 68 = .ok (.iconst 2, 1) := dc0 dO_5 (by decide +kernel)
theorem dX3_readWay_69 : decode cX3_readWay 69 = .ok (.iadd, 1) := dc0 dO_96 (by decide +kernel)
theorem dX3_readWay_70 : decode cX3_readWay 70 = .ok (.iconst 4, 1) := dc0 dO_7 (by decide +kernel)
theorem dX3_readWay_71 : decode cX3_readWay 71 = .ok (.iload 7, 2) := dcU1 dO_21 (by decide +kernel)
theorem dX3_readWay_73 : decode cX3_readWay 73 = .ok (.imul, 1) := dc0 dO_104 (by decide +kernel)
theorem dX3_readWay_74 : decode cX3_readWay 74 = .ok (.iadd, 1) := dc0 dO_96 (by decide +kernel)
theorem dX3_readWay_75 : decode cX3_readWay 75 = .ok (.iload_n 3, 1) := dc0 dO_29 (by decide +kernel)
theorem dX3_readWay_76 : decode cX3_readWay 76 = .ok (.if_icmp .gt 13, 3) := dcS2 dO_163 (by decide +kernel)
theorem dX3_readWay_79 : decode cX3_readWay 79 = .ok (.iload 5, 2) := dcU1 dO_21 (by decide +kernel)
theorem dX3_readWay_81 : decode cX3_readWay 81 = .ok (.iload 7, 2) := dcU1 dO_21 (by decide +kernel)
theorem dX3_readWay_83 : decode cX3_readWay 83 = .ok (.iadd, 1) := dc0 dO_96 (by decide +kernel)
theorem dX3_readWay_84 : decode cX3_readWay 84 = .ok (.bipush 20, 2) := dcS1 dO_16 (by decide +kernel)
theorem dX3_readWay_86 : decode cX3_readWay 86 = .ok (.if_icmp .le 5, 3) := dcS2 dO_164 (by decide +kernel)
theorem dX3_readWay_89 : decode cX3_readWay 89 = .ok (.iconst 0, 1) := dc0 dO_3 (by decide +kernel)
theorem dX3_readWay_90 : decode cX3_readWay 90 = .ok (.ireturn, 1) := dc0 dO_172 (by decide +kernel)
theorem dX3_readWay_91 : decode cX3_readWay 91 = .ok (.iconst 0, 1) := dc0 dO_3 (by decide +kernel)
theorem dX3_readWay_92 : decode cX3_readWay 92 = .ok (.istore 8, 2) := dcU1 dO_54 (by decide +kernel)
theorem dX3_readWay_94 : decode cX3_readWay 94 = .ok (.iload 8, 2) := dcU1 dO_21 (by decide +kernel)
theorem dX3_readWay_96 : decode cX3_readWay 96 = .ok (.iload 7, 2) := dcU1 dO_21 (by decide +kernel)
theorem dX3_readWay_98 : decode cX3_readWay 98 = .ok (.if_icmp .ge 35, 3) := dcS2 dO_162 (by decide +kernel)
theorem dX3_readWay_101 : decode cX3_readWay 101 = .ok (.aload_n 0, 1) := dc0 dO_42 (by decide +kernel)
theorem dX3_readWay_102 : decode cX3_readWay 102 = .ok (.getfield 28, 3) := dcU2 dO_180 (by decide +kernel)
theorem dX3_readWay_105 : decode cX3_readWay 105 = .ok (.getfield 140, 3) := dcU2 dO_180 (by decide +kernel)
theorem dX3_readWay_108 : decode cX3_readWay 108 = .ok (.iload 5, 2) := dcU1 dO_21 (by decide +kernel)
theorem dX3_readWay_110 : decode cX3_readWay 110 = .ok (.iload 8, 2) := dcU1 dO_21 (by decide +kernel)
theorem dX3_readWay_112 : decode cX3_readWay 112 = .ok (.iadd, 1) := dc0 dO_96 (by decide +kernel)
theorem dX3_readWay_113 : decode cX3_readWay 113 = .ok (.aload_n 0, 1) := dc0 dO_42 (by decide +kernel)
theorem dX3_readWay_114 : decode cX3_readWay 114 = .ok (.iload 4, 2) := dcU1 dO_21 (by decide +kernel)
theorem dX3_readWay_116 : decode cX3_readWay 116 = .ok (.iconst 2, 1) := dc0 dO_5 (by decide +kernel)
theorem dX3_readWay_117 : decode cX3_readWay 117 = .ok (.iadd, 1) := dc0 dO_96 (by decide +kernel)
theorem dX3_readWay_118 : decode cX3_readWay 118 = .ok (.iconst 4, 1) := dc0 dO_7 (by decide +kernel)
theorem dX3_readWay_119 : decode cX3_readWay 119 = .ok (.iload 8, 2) := dcU1 dO_21 (by decide +kernel)
theorem dX3_readWay_121 : decode cX3_readWay 121 = .ok (.imul, 1) := dc0 dO_104 (by decide +kernel)
theorem dX3_readWay_122 : decode cX3_readWay 122 = .ok (.iadd, 1) := dc0 dO_96 (by decide +kernel)
theorem dX3_readWay_123 : decode cX3_readWay 123 = .ok (.invokevirtual 130, 3) := dcU2 dO_182 (by decide +kernel)
theorem dX3_readWay_126 : decode cX3_readWay 126 = .ok (.iastore, 1) := dc0 dO_79 (by decide +kernel)
theorem dX3_readWay_127 : decode cX3_readWay 127 = .ok (.iinc 8 1, 3) := dcI dO_132 (by decide +kernel)
theorem sfx_cX3_readWay_128 : (cX3_readWay.data.toList.drop 128).take 67 = [8, 1, 167, 255, 220, 21, 6, 4, 160, 0, 20, 42, 180, 0, 28, 180, 0, 140, 21, 5, 21, 5, 21, 7, 96, 184, 0, 143, 21, 5, 21, 7, 96, 54, 5, 21, 4, 5, 7, 21, 7, 104, 96, 96, 54, 4, 167, 255, 92, 42, 180, 0, 28, 21, 5, 181, 0, 147, 4, 172] := by decide +kernel
theorem dX3_readWay_130 : decode cX3_readWay 130 = .ok (.goto (-36), 3) := dcS2 dO_167 (rdS2.ch sfx_cX3_readWay_128 2 rfl (by decide +kernel))
theorem dX3_readWay_133 : decode cX3_readWay 133 = .ok (.iload 6, 2) := dcU1 dO_21 (rdU1.ch sfx_cX3_readWay_128 5 rfl (by decide +kernel))
theorem dX3_readWay_135 : decode cX3_readWay 135 = .ok (.iconst 1, 1) := dc0 dO_4 (rdB.ch sfx_cX3_readWay_128 7 rfl (by decide +kernel))
theorem dX3_readWay_136 : decode cX3_readWay 136 = .ok (.if_icmp .ne 20, 3) := dcS2 dO_160 (rdS2.ch sfx_cX3_readWay_128 8 rfl (by decide +kernel))
theorem dX3_readWay_139 : decode cX3_readWay 139 = .ok (.aload_n 0, 1) := dc0 dO_42 (rdB.ch sfx_cX3_readWay_128 11 rfl (by decide +kernel))
theorem dX3_readWay_140 : decode cX3_readWay 140 = .ok (.getfield 28, 3) := dcU2 dO_180 (rdU2.ch sfx_cX3_readWay_128 12 rfl (by decide +kernel))
theorem dX3_readWay_143 : decode cX3_readWay 143 = .ok (.getfield 140, 3) := dcU2 dO_180 (rdU2.ch sfx_cX3_readWay_128 15 rfl (by decide +kernel))
theorem dX3_readWay_146 : decode cX3_readWay 146 = .ok (.iload 5, 2) := dcU1 dO_21 (rdU1.ch sfx_cX3_readWay_128 18 rfl (by decide +kernel))
theorem dX3_readWay_148 : decode cX3_readWay 148 = .ok (.iload 5, 2) := dcU1 dO_21 (rdU1.ch sfx_cX3_readWay_128 20 rfl (by decide +kernel))
theorem dX3_readWay_150 : decode cX3_readWay 150 = .ok (.iload 7, 2) := dcU1 dO_21 (rdU1.ch sfx_cX3_readWay_128 22 rfl (by decide +kernel))
theorem dX3_readWay_152 : decode cX3_readWay 152 = .ok (.iadd, 1) := dc0 dO_96 (rdB.ch sfx_cX3_readWay_128 24 rfl (by decide +kernel))
theorem dX3_readWay_153 : decode cX3_readWay 153 = .ok (.invokestatic 143, 3) := dcU2 dO_184 (rdU2.ch sfx_cX3_readWay_128 25 rfl (by decide +kernel))
theorem dX3_readWay_156 : decode cX3_readWay 156 = .ok (.iload 5, 2) := dcU1 dO_21 (rdU1.ch sfx_cX3_readWay_128 28 rfl (by decide +kernel))
theorem dX3_readWay_158 : decode cX3_readWay 158 = .ok (.iload 7, 2) := dcU1 dO_21 (rdU1.ch sfx_cX3_readWay_128 30 rfl (by decide +kernel))
theorem dX3_readWay_160 : decode cX3_readWay 160 = .ok (.iadd, 1) := dc0 dO_96 (rdB.ch sfx_cX3_readWay_128 32 rfl (by decide +kernel))
theorem dX3_readWay_161 : decode cX3_readWay 161 = .ok (.istore 5, 2) := dcU1 dO_54 (rdU1.ch sfx_cX3_readWay_128 33 rfl (by decide +kernel))
theorem dX3_readWay_163 : decode cX3_readWay 163 = .ok (.iload 4, 2) := dcU1 dO_21 (rdU1.ch sfx_cX3_readWay_128 35 rfl (by decide +kernel))
theorem dX3_readWay_165 : decode cX3_readWay 165 = .ok (.iconst 2, 1) := dc0 dO_5 (rdB.ch sfx_cX3_readWay_128 37 rfl (by decide +kernel))
theorem dX3_readWay_166 : decode cX3_readWay 166 = .ok (.iconst 4, 1) := dc0 dO_7 (rdB.ch sfx_cX3_readWay_128 38 rfl (by decide +kernel))
theorem dX3_readWay_167 : decode cX3_readWay 167 = .ok (.iload 7, 2) := dcU1 dO_21 (rdU1.ch sfx_cX3_readWay_128 39 rfl (by decide +kernel))
theorem dX3_readWay_169 : decode cX3_readWay 169 = .ok (.imul, 1) := dc0 dO_104 (rdB.ch sfx_cX3_readWay_128 41 rfl (by decide +kernel))
theorem dX3_readWay_170 : decode cX3_readWay 170 = .ok (.iadd, 1) := dc0 dO_96 (rdB.ch sfx_cX3_readWay_128 42 rfl (by decide +kernel))
theorem dX3_readWay_171 : decode cX3_readWay 171 = .ok (.iadd, 1) := dc0 dO_96 (rdB.ch sfx_cX3_readWay_128 43 rfl (by decide +kernel))
theorem dX3_readWay_172 : decode cX3_readWay 172 = .ok (.istore 4, 2) := dcU1 dO_54 (rdU1.ch sfx_cX3_readWay_128 44 rfl (by decide +kernel))
theorem dX3_readWay_174 : decode cX3_readWay 174 = .ok (.goto (-164), 3) := dcS2 dO_167 (rdS2.ch sfx_cX3_readWay_128 46 rfl (by decide +kernel))
theorem dX3_readWay_177 : decode cX3_readWay 177 = .ok (.aload_n 0, 1) := dc0 dO_42 (rdB.ch sfx_cX3_readWay_128 49 rfl (by decide +kernel))
theorem dX3_readWay_178 : decode cX3_readWay 178 = .ok (.getfield 28, 3) := dcU2 dO_180 (rdU2.ch sfx_cX3_readWay_128 50 rfl (by decide +kernel))
theorem dX3_readWay_181 : decode cX3_readWay 181 = .ok (.iload 5, 2) := dcU1 dO_21 (rdU1.ch sfx_cX3_readWay_128 53 rfl (by decide +kernel))
theorem dX3_readWay_183 : decode cX3_readWay 183 = .ok (.putfield 147, 3) := dcU2 dO_181 (rdU2.ch sfx_cX3_readWay_128 55 rfl (by decide +kernel))
theorem dX3_readWay_186 : decode cX3_readWay 186 = .ok (.iconst 1, 1) := dc0 dO_4 (rdB.ch sfx_cX3_readWay_128 58 rfl (by decide +kernel))
theorem dX3_readWay_187 : decode cX3_readWay 187 = .ok (.ireturn, 1) := dc0 dO_172 (rdB.ch sfx_cX3_readWay_128 59 rfl (by decide +kernel))
theorem dX8_compose_0 : decode cX8_compose 0 = .ok (.aload_n 1, 1) := dc0 dO_43 (by decide +kernel)
theorem dX8_compose_1 : decode cX8_compose 1 = .ok (.iload_n 3, 1) := dc0 dO_29 (by decide +kernel)
theorem dX8_compose_2 : decode cX8_compose 2 = .ok (.invokevirtual 86, 3) := dcU2 dO_182 (by decide +kernel)
theorem dX8_compose_5 : decode cX8_compose 5 = .ok (.istore 5, 2) := dcU1 dO_54 (by decide +kernel)
theorem dX8_compose_7 : decode cX8_compose 7 = .ok (.aload_n 0, 1) := dc0 dO_42 (by decide +kernel)
theorem dX8_compose_8 : decode cX8_compose 8 = .ok (.getfield 9, 3) := dcU2 dO_180 (by decide +kernel)
theorem dX8_compose_11 : decode cX8_compose 11 = .ok (.getfield 162, 3) := dcU2 dO_180 (by decide +kernel)
theorem dX8_compose_14 : decode cX8_compose 14 = .ok (.iload 5, 2) := dcU1 dO_21 (by decide +kernel)
theorem dX8_compose_16 : decode cX8_compose 16 = .ok (.aaload, 1) := dc0 dO_50 (by decide +kernel)
theorem dX8_compose_17 : decode cX8_compose 17 = .ok (.astore 6, 2) := dcU1 dO_58 (by decide +kernel)
theorem dX8_compose_19 : decode cX8_compose 19 = .ok (.aload_n 0, 1) := dc0 dO_42 (by decide +kernel)
theorem dX8_compose_20 : decode cX8_compose 20 = .ok (.getfield 49, 3) := dcU2 dO_180 (by decide +kernel)
theorem dX8_compose_23 : decode cX8_compose 23 = .ok (.aload 6, 2) := dcU1 dO_25 (by decide +kernel)
theorem dX8_compose_25 : decode cX8_compose 25 = .ok (.getfield 193, 3) := dcU2 dO_180 (by decide +kernel)
theorem dX8_compose_28 : decode cX8_compose 28 = .ok (.iload 4, 2) := dcU1 dO_21 (by decide +kernel)
theorem dX8_compose_30 : decode cX8_compose 30 = .ok (.aaload, 1) := dc0 dO_50 (by decide +kernel)
theorem dX8_compose_31 : decode cX8_compose 31 = .ok (.invokevirtual 106, 3) := dcU2 dO_182 (by decide +kernel)
theorem dX8_compose_34 : decode cX8_compose 34 = .ok (.aload_n 0, 1) := dc0 dO_42 (by decide +kernel)
theorem dX8_compose_35 : decode cX8_compose 35 = .ok (.getfield 49, 3) := dcU2 dO_180 (by decide +kernel)
theorem dX8_compose_38 : decode cX8_compose 38 = .ok (.bipush 100, 2) := dcS1 dO_16 (by decide +kernel)
theorem dX8_compose_40 : decode cX8_compose 40 = .ok (.putfield 260, 3) := dcU2 dO_181 (by decide +kernel)
theorem dX8_compose_43 : decode cX8_compose 43 = .ok (.aload 6, 2) := dcU1 dO_25 (by decide +kernel)
theorem dX8_compose_45 : decode cX8_compose 45 = .ok (.getfield 190, 3) := dcU2 dO_180 (by decide +kernel)
theorem dX8_compose_48 : decode cX8_compose 48 = .ok (.iload 4, 2) := dcU1 dO_21 (by decide +kernel)
theorem dX8_compose_50 : decode cX8_compose 50 = .ok (.iaload, 1) := dc0 dO_46 (by decide +kernel)
theorem dX8_compose_51 : decode cX8_compose 51 = .ok (.iload_n 2, 1) := dc0 dO_28 (by decide +kernel)
theorem dX8_compose_52 : decode cX8_compose 52 = .ok (.if_icmp .eq 16, 3) := dcS2 dO_159 (by decide +kernel)
theorem dX8_compose_55 : decode cX8_compose 55 = .ok (.aload_n 0, 1) := dc0 dO_42 (by decide +kernel)
theorem dX8_compose_56 : decode cX8_compose 56 = .ok (.getfield 49, 3) := dcU2 dO_180 (by decide +kernel)
theorem dX8_compose_59 : decode cX8_compose 59 = .ok (.iload 5, 2) := dcU1 dO_21 (by decide +kernel)
theorem dX8_compose_61 : decode cX8_compose 61 = .ok (.iconst 1, 1) := dc0 dO_4 (by decide +kernel)
theorem dX8_compose_62 : decode cX8_compose 62 = .ok (.invokevirtual 272, 3) := dcU2 dO_182 (by decide +kernel)
theorem dX8_compose_65 : decode cX8_compose 65 = .ok (.ifCond .ne 11, 3) := dcS2 dO_154 (by decide +kernel)
theorem dX8_compose_68 : decode cX8_compose 68 = .ok (.aload_n 0, 1) := dc0 dO_42 (by decide +kernel)
theorem dX8_compose_69 : decode cX8_compose 69 = .ok (.getfield 49, 3) := dcU2 dO_180 (by decide +kernel)
theorem dX8_compose_72 : decode cX8_compose 72 = .ok (.iconst 0, 1) := dc0 dO_3 (by decide +kernel)
theorem dX8_compose_73 : decode cX8_compose 73 = .ok (.putfield 203, 3) := dcU2 dO_181 (by decide +kernel)
theorem dX8_compose_76 : decode cX8_compose 76 = .ok (.return_, 1) := dc0 dO_177 (by decide +kernel)
theorem dX8_doNext_0 : decode cX8_doNext 0 = .ok (.aload_n 0, 1) := dc0 dO_42 (by decide +kernel)
theorem dX8_doNext_1 : decode cX8_doNext 1 = .ok (.getfield 52, 3) := dcU2 dO_180 (by decide +kernel)
theorem dX8_doNext_4 : decode cX8_doNext 4 = .ok (.ifCond .eq 18, 3) := dcS2 dO_153 (by decide +kernel)
theorem dX8_doNext_7 : decode cX8_doNext 7 = .ok (.aload_n 0, 1) := dc0 dO_42 (by decide +kernel)
theorem dX8_doNext_8 : decode cX8_doNext 8 = .ok (.getfield 23, 3) := dcU2 dO_180 (by decide +kernel)
theorem dX8_doNext_11 : decode cX8_doNext 11 = .ok (.aload_n 0, 1) := dc0 dO_42 (by decide +kernel)
theorem dX8_doNext_12 : decode cX8_doNext 12 = .ok (.getfield 19, 3) := dcU2 dO_180 (by decide +kernel)
theorem dX8_doNext_15 : decode cX8_doNext 15 = .ok (.iconst 0, 1) := dc0 dO_3 (by decide +kernel)
theorem dX8_doNext_16 : decode cX8_doNext 16 = .ok (.iaload, 1) := dc0 dO_46 (by decide +kernel)
theorem dX8_doNext_17 : decode cX8_doNext 17 = .ok (.iaload, 1) := dc0 dO_46 (by decide +kernel)
theorem dX8_doNext_18 : decode cX8_doNext 18 = .ok (.iload_n 1, 1) := dc0 dO_27 (by decide +kernel)
theorem dX8_doNext_19 : decode cX8_doNext 19 = .ok (.if_icmp .le 5, 3) := dcS2 dO_164 (by decide +kernel)
theorem dX8_doNext_22 : decode cX8_doNext 22 = .ok (.iconst 0, 1) := dc0 dO_3 (by decide +kernel)
theorem dX8_doNext_23 : decode cX8_doNext 23 = .ok (.ireturn, 1) := dc0 dO_172 (by decide +kernel)
theorem dX8_doNext_24 : decode cX8_doNext 24 = .ok (.aload_n 0, 1) := dc0 dO_42 (by decide +kernel)
theorem dX8_doNext_25 : decode cX8_doNext 25 = .ok (.getfield 19, 3) := dcU2 dO_180 (by decide +kernel)
theorem dX8_doNext_28 : decode cX8_doNext 28 = .ok (.iconst 0, 1) := dc0 dO_3 (by decide +kernel)
theorem dX8_doNext_29 : decode cX8_doNext 29 = .ok (.iaload, 1) := dc0 dO_46 (by decide +kernel)
theorem dX8_doNext_30 : decode cX8_doNext 30 = .ok (.istore_n 2, 1) := dc0 dO_61 (by decide +kernel)
theorem dX8_doNext_31 : decode cX8_doNext 31 = .ok (.aload_n 0, 1) := dc0 dO_42 (by decide +kernel)
theorem dX8_doNext_32 : decode cX8_doNext 32 = .ok (.aload_n 0, 1) := dc0 dO_42 (by decide +kernel)
theorem dX8_doNext_33 : decode cX8_doNext 33 = .ok (.getfield 23, 3) := dcU2 dO_180 (by decide +kernel)
theorem dX8_doNext_36 : decode cX8_doNext 36 = .ok (.iload_n 2, 1) := dc0 dO_28 (by decide +kernel)
theorem dX8_doNext_37 : decode cX8_doNext 37 = .ok (.iaload, 1) := dc0 dO_46 (by decide +kernel)
theorem dX8_doNext_38 : decode cX8_doNext 38 = .ok (.putfield 62, 3) := dcU2 dO_181 (by decide +kernel)
theorem dX8_doNext_41 : decode cX8_doNext 41 = .ok (.aload_n 0, 1) := dc0 dO_42 (by decide +kernel)
theorem dX8_doNext_42 : decode cX8_doNext 42 = .ok (.iload_n 2, 1) := dc0 dO_28 (by decide +kernel)
theorem dX8_doNext_43 : decode cX8_doNext 43 = .ok (.invokevirtual 65, 3) := dcU2 dO_182 (by decide +kernel)
theorem dX8_doNext_46 : decode cX8_doNext 46 = .ok (.aload_n 0, 1) := dc0 dO_42 (by decide +kernel)
theorem dX8_doNext_47 : decode cX8_doNext 47 = .ok (.dup, 1) := dc0 dO_89 (by decide +kernel)
theorem dX8_doNext_48 : decode cX8_doNext 48 = .ok (.getfield 69, 3) := dcU2 dO_180 (by decide +kernel)
theorem dX8_doNext_51 : decode cX8_doNext 51 = .ok (.iconst 1, 1) := dc0 dO_4 (by decide +kernel)
theorem dX8_doNext_52 : decode cX8_doNext 52 = .ok (.iadd, 1) := dc0 dO_96 (by decide +kernel)
theorem dX8_doNext_53 : decode cX8_doNext 53 = .ok (.putfield 69, 3) := dcU2 dO_181 (by decide +kernel)
theorem dX8_doNext_56 : decode cX8_doNext 56 = .ok (.iload_n 2, 1) := dc0 dO_28 (by decide +kernel)
theorem dX8_doNext_57 : decode cX8_doNext 57 = .ok (.iconst 2, 1) := dc0 dO_5 (by decide +kernel)
theorem dX8_doNext_58 : decode cX8_doNext 58 = .ok (.idiv, 1) := dc0 dO_108 (by decide +kernel)
theorem dX8_doNext_59 : decode cX8_doNext 59 = .ok (.bipush 10, 2) := dcS1 dO_16 (by decide +kernel)
theorem dX8_doNext_61 : decode cX8_doNext 61 = .ok (.irem, 1) := dc0 dO_112 (by decide +kernel)
theorem dX8_doNext_62 : decode cX8_doNext 62 = .ok (.istore_n 3, 1) := dc0 dO_62 (by decide +kernel)
theorem dX8_doNext_63 : decode cX8_doNext 63 = .ok (.iload_n 2, 1) := dc0 dO_28 (by decide +kernel)
theorem dX8_doNext_64 : decode cX8_doNext 64 = .ok (.iconst 2, 1) := dc0 dO_5 (by decide +kernel)
theorem dX8_doNext_65 : decode cX8_doNext 65 = .ok (.idiv, 1) := dc0 dO_108 (by decide +kernel)
theorem dX8_doNext_66 : decode cX8_doNext 66 = .ok (.bipush 10, 2) := dcS1 dO_16 (by decide +kernel)
theorem dX8_doNext_68 : decode cX8_doNext 68 = .ok (.idiv, 1) := dc0 dO_108 (by decide +kernel)
theorem dX8_doNext_69 : decode cX8_doNext 69 = .ok (.iconst 2, 1) := dc0 dO_5 (by decide +kernel)
theorem dX8_doNext_70 : decode cX8_doNext 70 = .ok (.irem, 1) := dc0 dO_112 (by decide +kernel)
theorem dX8_doNext_71 : decode cX8_doNext 71 = .ok (.istore 4, 2) := dcU1 dO_54 (by decide +kernel)
theorem dX8_doNext_73 : decode cX8_doNext 73 = .ok (.iload_n 2, 1) := dc0 dO_28 (by decide +kernel)
theorem dX8_doNext_74 : decode cX8_doNext 74 = .ok (.iconst 2, 1) := dc0 dO_5 (by decide +kernel)
theorem dX8_doNext_75 : decode cX8_doNext 75 = .ok (.idiv, 1) := dc0 dO_108 (by decide +kernel)
theorem dX8_doNext_76 : decode cX8_doNext 76 = .ok (.bipush 10, 2) := dcS1 dO_16 (by decide +kernel)
theorem dX8_doNext_78 : decode cX8_doNext 78 = .ok (.idiv, 1) := dc0 dO_108 (by decide +kernel)
theorem dX8_doNext_79 : decode cX8_doNext 79 = .ok (.iconst 2, 1) := dc0 dO_5 (by decide +kernel)
theorem dX8_doNext_80 : decode cX8_doNext 80 = .ok (.idiv, 1) := dc0 dO_108 (by decide +kernel)
theorem dX8_doNext_81 : decode cX8_doNext 81 = .ok (.istore 5, 2) := dcU1 dO_54 (by decide +kernel)
theorem dX8_doNext_83 : decode cX8_doNext 83 = .ok (.iload_n 2, 1) := dc0 dO_28 (by decide +kernel)
theorem dX8_doNext_84 : decode cX8_doNext 84 = .ok (.iconst 2, 1) := dc0 dO_5 (by decide +kernel)
theorem dX8_doNext_85 : decode cX8_doNext 85 = .ok (.irem, 1) := dc0 dO_112 (by decide +kernel)
theorem dX8_doNext_86 : decode cX8_doNext 86 = .ok (.iconst 1, 1) := dc0 dO_4 (by decide +kernel)
theorem dX8_doNext_87 : decode cX8_doNext 87 = .ok (.if_icmp .ne 15, 3) := dcS2 dO_160 (by decide +kernel)
theorem dX8_doNext_90 : decode cX8_doNext 90 = .ok (.aload_n 0, 1) := dc0 dO_42 (by decide +kernel)
theorem dX8_doNext_91 : decode cX8_doNext 91 = .ok (.iload 5, 2) := dcU1 dO_21 (by decide +kernel)
theorem dX8_doNext_93 : decode cX8_doNext 93 = .ok (.iload 4, 2) := dcU1 dO_21 (by decide +kernel)
theorem dX8_doNext_95 : decode cX8_doNext 95 = .ok (.iload_n 3, 1) := dc0 dO_29 (by decide +kernel)
theorem dX8_doNext_96 : decode cX8_doNext 96 = .ok (.invokevirtual 72, 3) := dcU2 dO_182 (by decide +kernel)
theorem dX8_doNext_99 : decode cX8_doNext 99 = .ok (.goto 42, 3) := dcS2 dO_167 (by decide +kernel)
theorem dX8_doNext_102 : decode cX8_doNext 102 = .ok (.aload_n 0, 1) := dc0 dO_42 (by decide +kernel)
theorem dX8_doNext_103 : decode cX8_doNext 103 = .ok (.aload_n 0, 1) := dc0 dO_42 (by decide +kernel)
theorem dX8_doNext_104 : decode cX8_doNext 104 = .ok (.getfield 9, 3) := dcU2 dO_180 (by decide +kernel)
theorem dX8_doNext_107 : decode cX8_doNext 107 = .ok (.getfield 76, 3) := dcU2 dO_180 (by decide +kernel)
theorem dX8_doNext_110 : decode cX8_doNext 110 = .ok (.iload 5, 2) := dcU1 dO_21 (by decide +kernel)
theorem dX8_doNext_112 : decode cX8_doNext 112 = .ok (.aaload, 1) := dc0 dO_50 (by decide +kernel)
theorem dX8_doNext_113 : decode cX8_doNext 113 = .ok (.iload 4, 2) := dcU1 dO_21 (by decide +kernel)
theorem dX8_doNext_115 : decode cX8_doNext 115 = .ok (.iload_n 3, 1) := dc0 dO_29 (by decide +kernel)
theorem dX8_doNext_116 : decode cX8_doNext 116 = .ok (.invokevirtual 82, 3) := dcU2 dO_182 (by decide +kernel)
theorem dX8_doNext_119 : decode cX8_doNext 119 = .ok (.aload_n 0, 1) := dc0 dO_42 (by decide +kernel)
theorem dX8_doNext_120 : decode cX8_doNext 120 = .ok (.aload_n 0, 1) := dc0 dO_42 (by decide +kernel)
theorem dX8_doNext_121 : decode cX8_doNext 121 = .ok (.getfield 9, 3) := dcU2 dO_180 (by decide +kernel)
theorem dX8_doNext_124 : decode cX8_doNext 124 = .ok (.getfield 76, 3) := dcU2 dO_180 (by decide +kernel)
theorem dX8_doNext_127 : decode cX8_doNext 127 = .ok (.iload 5, 2) := dcU1 dO_21 (by decide +kernel)
theorem sfx_cX8_doNext_128 : (cX8_doNext.data.toList.drop 128).take 67 = [5, 50, 4, 21, 4, 100, 182, 0, 86, 29, 182, 0, 92, 4, 172] := by decide +kernel
theorem dX8_doNext_129 : decode cX8_doNext 129 = .ok (.aaload, 1) := dc0 dO_50 (rdB.ch sfx_cX8_doNext_128 1 rfl (by decide +kernel))
theorem dX8_doNext_130 : decode cX8_doNext 130 = .ok (.iconst 1, 1) := dc0 dO_4 (rdB.ch sfx_cX8_doNext_128 2 rfl (by decide +kernel))
theorem dX8_doNext_131 : decode cX8_doNext 131 = .ok (.iload 4, 2) := dcU1 dO_21 (rdU1.ch sfx_cX8_doNext_128 3 rfl (by decide +kernel))
theorem dX8_doNext_133 : decode cX8_doNext 133 = .ok (.isub, 1) := dc0 dO_100 (rdB.ch sfx_cX8_doNext_128 5 rfl (by decide +kernel))
theorem dX8_doNext_134 : decode cX8_doNext 134 = .ok (.invokevirtual 86, 3) := dcU2 dO_182 (rdU2.ch sfx_cX8_doNext_128 6 rfl (by decide +kernel))
theorem dX8_doNext_137 : decode cX8_doNext 137 = .ok (.iload_n 3, 1) := dc0 dO_29 (rdB.ch sfx_cX8_doNext_128 9 rfl (by decide +kernel))
theorem dX8_doNext_138 : decode cX8_doNext 138 = .ok (.invokevirtual 92, 3) := dcU2 dO_182 (rdU2.ch sfx_cX8_doNext_128 10 rfl (by decide +kernel))
theorem dX8_doNext_141 : decode cX8_doNext 141 = .ok (.iconst 1, 1) := dc0 dO_4 (rdB.ch sfx_cX8_doNext_128 13 rfl (by decide +kernel))
theorem dX8_doNext_142 : decode cX8_doNext 142 = .ok (.ireturn, 1) := dc0 dO_172 (rdB.ch sfx_cX8_doNext_128 14 rfl (by decide +kernel))
theorem dX8_gather_0 : decode cX8_gather 0 = .ok (.aload_n 0, 1) := dc0 dO_42 (by decide +kernel)
theorem dX8_gather_1 : decode cX8_gather 1 = .ok (.iconst 0, 1) := dc0 dO_3 (by decide +kernel)
theorem dX8_gather_2 : decode cX8_gather 2 = .ok (.putfield 200, 3) := dcU2 dO_181 (by decide +kernel)
theorem dX8_gather_5 : decode cX8_gather 5 = .ok (.iconst 0, 1) := dc0 dO_3 (by decide +kernel)
theorem dX8_gather_6 : decode cX8_gather 6 = .ok (.istore_n 3, 1) := dc0 dO_62 (by decide +kernel)
theorem dX8_gather_7 : decode cX8_gather 7 = .ok (.iload_n 3, 1) := dc0 dO_29 (by decide +kernel)
theorem dX8_gather_8 : decode cX8_gather 8 = .ok (.aload_n 0, 1) := dc0 dO_42 (by decide +kernel)
theorem dX8_gather_9 : decode cX8_gather 9 = .ok (.getfield 9, 3) := dcU2 dO_180 (by decide +kernel)
theorem dX8_gather_12 : decode cX8_gather 12 = .ok (.getfield 153, 3) := dcU2 dO_180 (by decide +kernel)
theorem dX8_gather_15 : decode cX8_gather 15 = .ok (.if_icmp .ge 173, 3) := dcS2 dO_162 (by decide +kernel)
theorem dX8_gather_18 : decode cX8_gather 18 = .ok (.aload_n 0, 1) := dc0 dO_42 (by decide +kernel)
theorem dX8_gather_19 : decode cX8_gather 19 = .ok (.getfield 9, 3) := dcU2 dO_180 (by decide +kernel)
theorem dX8_gather_22 : decode cX8_gather 22 = .ok (.getfield 76, 3) := dcU2 dO_180 (by decide +kernel)
theorem dX8_gather_25 : decode cX8_gather 25 = .ok (.iload_n 3, 1) := dc0 dO_29 (by decide +kernel)
theorem dX8_gather_26 : decode cX8_gather 26 = .ok (.aaload, 1) := dc0 dO_50 (by decide +kernel)
theorem dX8_gather_27 : decode cX8_gather 27 = .ok (.astore 4, 2) := dcU1 dO_58 (by decide +kernel)
theorem dX8_gather_29 : decode cX8_gather 29 = .ok (.aload 4, 2) := dcU1 dO_25 (by decide +kernel)
theorem dX8_gather_31 : decode cX8_gather 31 = .ok (.iload_n 1, 1) := dc0 dO_27 (by decide +kernel)
theorem dX8_gather_32 : decode cX8_gather 32 = .ok (.invokevirtual 156, 3) := dcU2 dO_182 (by decide +kernel)
theorem dX8_gather_35 : decode cX8_gather 35 = .ok (.istore 5, 2) := dcU1 dO_54 (by decide +kernel)
theorem dX8_gather_37 : decode cX8_gather 37 = .ok (.iload 5, 2) := dcU1 dO_21 (by decide +kernel)
theorem dX8_gather_39 : decode cX8_gather 39 = .ok (.ifCond .lt 143, 3) := dcS2 dO_155 (by decide +kernel)
theorem dX8_gather_42 : decode cX8_gather 42 = .ok (.aload 4, 2) := dcU1 dO_25 (by decide +kernel)
theorem dX8_gather_44 : decode cX8_gather 44 = .ok (.getfield 136, 3) := dcU2 dO_180 (by decide +kernel)
theorem dX8_gather_47 : decode cX8_gather 47 = .ok (.ifCond .eq 135, 3) := dcS2 dO_153 (by decide +kernel)
theorem dX8_gather_50 : decode cX8_gather 50 = .ok (.aload_n 0, 1) := dc0 dO_42 (by decide +kernel)
theorem dX8_gather_51 : decode cX8_gather 51 = .ok (.getfield 200, 3) := dcU2 dO_180 (by decide +kernel)
theorem dX8_gather_54 : decode cX8_gather 54 = .ok (.bipush 10, 2) := dcS1 dO_16 (by decide +kernel)
theorem dX8_gather_56 : decode cX8_gather 56 = .ok (.if_icmp .lt 6, 3) := dcS2 dO_161 (by decide +kernel)
theorem dX8_gather_59 : decode cX8_gather 59 = .ok (.goto 123, 3) := dcS2 dO_167 (by decide +kernel)
theorem dX8_gather_62 : decode cX8_gather 62 = .ok (.aload 4, 2) := dcU1 dO_25 (by decide +kernel)
theorem dX8_gather_64 : decode cX8_gather 64 = .ok (.getfield 96, 3) := dcU2 dO_180 (by decide +kernel)
theorem dX8_gather_67 : decode cX8_gather 67 = .ok (.iload 5, 2) := dcU1 dO_21 (by decide +kernel)
theorem dX8_gather_69 : decode cX8_gather 69 = .ok (.iload_n 2, 1) := dc0 dO_28 (by decide +kernel)
theorem dX8_gather_70 : decode cX8_gather 70 = .ok (.invokestatic 99, 3) := dcU2 dO_184 (by decide +kernel)
theorem dX8_gather_73 : decode cX8_gather 73 = .ok (.aaload, 1) := dc0 dO_50 (by decide +kernel)
theorem dX8_gather_74 : decode cX8_gather 74 = .ok (.astore 6, 2) := dcU1 dO_58 (by decide +kernel)
theorem dX8_gather_76 : decode cX8_gather 76 = .ok (.aload 6, 2) := dcU1 dO_25 (by decide +kernel)
theorem dX8_gather_78 : decode cX8_gather 78 = .ok (.getfield 203, 3) := dcU2 dO_180 (by decide +kernel)
theorem dX8_gather_81 : decode cX8_gather 81 = .ok (.ifCond .eq 101, 3) := dcS2 dO_153 (by decide +kernel)
theorem dX8_gather_84 : decode cX8_gather 84 = .ok (.aload 6, 2) := dcU1 dO_25 (by decide +kernel)
theorem dX8_gather_86 : decode cX8_gather 86 = .ok (.iload_n 1, 1) := dc0 dO_27 (by decide +kernel)
theorem dX8_gather_87 : decode cX8_gather 87 = .ok (.invokevirtual 206, 3) := dcU2 dO_182 (by decide +kernel)
theorem dX8_gather_90 : decode cX8_gather 90 = .ok (.ifCond .eq 6, 3) := dcS2 dO_153 (by decide +kernel)
theorem dX8_gather_93 : decode cX8_gather 93 = .ok (.goto 89, 3) := dcS2 dO_167 (by decide +kernel)
theorem dX8_gather_96 : decode cX8_gather 96 = .ok (.aload_n 0, 1) := dc0 dO_42 (by decide +kernel)
theorem dX8_gather_97 : decode cX8_gather 97 = .ok (.getfield 34, 3) := dcU2 dO_180 (by decide +kernel)
theorem dX8_gather_100 : decode cX8_gather 100 = .ok (.aload_n 0, 1) := dc0 dO_42 (by decide +kernel)
theorem dX8_gather_101 : decode cX8_gather 101 = .ok (.getfield 200, 3) := dcU2 dO_180 (by decide +kernel)
theorem dX8_gather_104 : decode cX8_gather 104 = .ok (.aaload, 1) := dc0 dO_50 (by decide +kernel)
theorem dX8_gather_105 : decode cX8_gather 105 = .ok (.astore 7, 2) := dcU1 dO_58 (by decide +kernel)
theorem dX8_gather_107 : decode cX8_gather 107 = .ok (.aload 7, 2) := dcU1 dO_25 (by decide +kernel)
theorem dX8_gather_109 : decode cX8_gather 109 = .ok (.aload 6, 2) := dcU1 dO_25 (by decide +kernel)
theorem dX8_gather_111 : decode cX8_gather 111 = .ok (.invokevirtual 106, 3) := dcU2 dO_182 (by decide +kernel)
theorem dX8_gather_114 : decode cX8_gather 114 = .ok (.aload 7, 2) := dcU1 dO_25 (by decide +kernel)
theorem dX8_gather_116 : decode cX8_gather 116 = .ok (.aload 6, 2) := dcU1 dO_25 (by decide +kernel)
theorem dX8_gather_118 : decode cX8_gather 118 = .ok (.getfield 110, 3) := dcU2 dO_180 (by decide +kernel)
theorem dX8_gather_121 : decode cX8_gather 121 = .ok (.putfield 110, 3) := dcU2 dO_181 (by decide +kernel)
theorem dX8_gather_124 : decode cX8_gather 124 = .ok (.aload 7, 2) := dcU1 dO_25 (by decide +kernel)
theorem dX8_gather_126 : decode cX8_gather 126 = .ok (.iload_n 3, 1) := dc0 dO_29 (by decide +kernel)
theorem dX8_gather_127 : decode cX8_gather 127 = .ok (.putfield 188, 3) := dcU2 dO_181 (by decide +kernel)
theorem sfx_cX8_gather_128 : (cX8_gather.data.toList.drop 128).take 67 = [0, 188, 25, 7, 25, 4, 4, 21, 5, 100, 182, 0, 86, 181, 0, 210, 42, 180, 0, 15, 25, 4, 180, 0, 213, 21, 5, 5, 104, 3, 96, 46, 25, 7, 25, 4, 21, 5, 182, 0, 216, 153, 0, 13, 42, 89, 180, 0, 200, 4, 96, 181, 0, 200, 132, 3, 1, 167, 255, 78, 177] := by decide +kernel
theorem dX8_gather_130 : decode cX8_gather 130 = .ok (.aload 7, 2) := dcU1 dO_25 (rdU1.ch sfx_cX8_gather_128 2 rfl (by decide +kernel))
theorem dX8_gather_132 : decode cX8_gather 132 = .ok (.aload 4, 2) := dcU1 dO_25 (rdU1.ch sfx_cX8_gather_128 4 rfl (by decide +kernel))
theorem dX8_gather_134 : decode cX8_gather 134 = .ok (.iconst 1, 1) := dc0 dO_4 (rdB.ch sfx_cX8_gather_128 6 rfl (by decide +kernel))
theorem dX8_gather_135 : decode cX8_gather 135 = .ok (.iload 5, 2) := dcU1 dO_21 (rdU1.ch sfx_cX8_gather_128 7 rfl (by decide +kernel))
theorem dX8_gather_137 : decode cX8_gather 137 = .ok (.isub, 1) := dc0 dO_100 (rdB.ch sfx_cX8_gather_128 9 rfl (by decide +kernel))
theorem dX8_gather_138 : decode cX8_gather 138 = .ok (.invokevirtual 86, 3) := dcU2 dO_182 (rdU2.ch sfx_cX8_gather_128 10 rfl (by decide +kernel))
theorem dX8_gather_141 : decode cX8_gather 141 = .ok (.putfield 210, 3) := dcU2 dO_181 (rdU2.ch sfx_cX8_gather_128 13 rfl (by decide +kernel))
theorem dX8_gather_144 : decode cX8_gather 144 = .ok (.aload_n 0, 1) := dc0 dO_42 (rdB.ch sfx_cX8_gather_128 16 rfl (by decide +kernel))
theorem dX8_gather_145 : decode cX8_gather 145 = .ok (.getfield 15, 3) := dcU2 dO_180 (rdU2.ch sfx_cX8_gather_128 17 rfl (by decide +kernel))
theorem dX8_gather_148 : decode cX8_gather 148 = .ok (.aload 4, 2) := dcU1 dO_25 (rdU1.ch sfx_cX8_gather_128 20 rfl (by decide +kernel))
theorem dX8_gather_150 : decode cX8_gather 150 = .ok (.getfield 213, 3) := dcU2 dO_180 (rdU2.ch sfx_cX8_gather_128 22 rfl (by decide +kernel))
theorem dX8_gather_153 : decode cX8_gather 153 = .ok (.iload 5, 2) := dcU1 dO_21 (rdU1.ch sfx_cX8_gather_128 25 rfl (by decide +kernel))
theorem dX8_gather_155 : decode cX8_gather 155 = .ok (.iconst 2, 1) := dc0 dO_5 (rdB.ch sfx_cX8_gather_128 27 rfl (by decide +kernel))
theorem dX8_gather_156 : decode cX8_gather 156 = .ok (.imul, 1) := dc0 dO_104 (rdB.ch sfx_cX8_gather_128 28 rfl (by decide +kernel))
theorem dX8_gather_157 : decode cX8_gather 157 = .ok (.iconst 0, 1) := dc0 dO_3 (rdB.ch sfx_cX8_gather_128 29 rfl (by decide +kernel))
theorem dX8_gather_158 : decode cX8_gather 158 = .ok (.iadd, 1) := dc0 dO_96 (rdB.ch sfx_cX8_gather_128 30 rfl (by decide +kernel))
theorem dX8_gather_159 : decode cX8_gather 159 = .ok (.iaload, 1) := dc0 dO_46 (rdB.ch sfx_cX8_gather_128 31 rfl (by decide +kernel))
theorem dX8_gather_160 : decode cX8_gather 160 = .ok (.aload 7, 2) := dcU1 dO_25 (rdU1.ch sfx_cX8_gather_128 32 rfl (by decide +kernel))
theorem dX8_gather_162 : decode cX8_gather 162 = .ok (.aload 4, 2) := dcU1 dO_25 (rdU1.ch sfx_cX8_gather_128 34 rfl (by decide +kernel))
theorem dX8_gather_164 : decode cX8_gather 164 = .ok (.iload 5, 2) := dcU1 dO_21 (rdU1.ch sfx_cX8_gather_128 36 rfl (by decide +kernel))
theorem dX8_gather_166 : decode cX8_gather 166 = .ok (.invokevirtual 216, 3) := dcU2 dO_182 (rdU2.ch sfx_cX8_gather_128 38 rfl (by decide +kernel))
theorem dX8_gather_169 : decode cX8_gather 169 = .ok (.ifCond .eq 13, 3) := dcS2 dO_153 (rdS2.ch sfx_cX8_gather_128 41 rfl (by decide +kernel))
theorem dX8_gather_172 : decode cX8_gather 172 = .ok (.aload_n 0, 1) := dc0 dO_42 (rdB.ch sfx_cX8_gather_128 44 rfl (by decide +kernel))
theorem dX8_gather_173 : decode cX8_gather 173 = .ok (.dup, 1) := dc0 dO_89 (rdB.ch sfx_cX8_gather_128 45 rfl (by decide +kernel))
theorem dX8_gather_174 : decode cX8_gather 174 = .ok (.getfield 200, 3) := dcU2 dO_180 (rdU2.ch sfx_cX8_gather_128 46 rfl (by decide +kernel))
theorem dX8_gather_177 : decode cX8_gather 177 = .ok (.iconst 1, 1) := dc0 dO_4 (rdB.ch sfx_cX8_gather_128 49 rfl (by decide +kernel))
theorem dX8_gather_178 : decode cX8_gather 178 = .ok (.iadd, 1) := dc0 dO_96 (rdB.ch sfx_cX8_gather_128 50 rfl (by decide +kernel))
theorem dX8_gather_179 : decode cX8_gather 179 = .ok (.putfield 200, 3) := dcU2 dO_181 (rdU2.ch sfx_cX8_gather_128 51 rfl (by decide +kernel))
theorem dX8_gather_182 : decode cX8_gather 182 = .ok (.iinc 3 1, 3) := dcI dO_132 (rdI.ch sfx_cX8_gather_128 54 rfl (by decide +kernel))
theorem dX8_gather_185 : decode cX8_gather 185 = .ok (.goto (-178), 3) := dcS2 dO_167 (rdS2.ch sfx_cX8_gather_128 57 rfl (by decide +kernel))
theorem dX8_gather_188 : decode cX8_gather 188 = .ok (.return_, 1) := dc0 dO_177 (rdB.ch sfx_cX8_gather_128 60 rfl (by decide +kernel))
theorem dX8_handOver_0 : decode cX8_handOver 0 = .ok (.aload_n 1, 1) := dc0 dO_43 (by decide +kernel)
theorem dX8_handOver_1 : decode cX8_handOver 1 = .ok (.getfield 96, 3) := dcU2 dO_180 (by decide +kernel)
theorem dX8_handOver_4 : decode cX8_handOver 4 = .ok (.iconst 1, 1) := dc0 dO_4 (by decide +kernel)
theorem dX8_handOver_5 : decode cX8_handOver 5 = .ok (.iload_n 2, 1) := dc0 dO_28 (by decide +kernel)
theorem dX8_handOver_6 : decode cX8_handOver 6 = .ok (.isub, 1) := dc0 dO_100 (by decide +kernel)
theorem dX8_handOver_7 : decode cX8_handOver 7 = .ok (.iload_n 3, 1) := dc0 dO_29 (by decide +kernel)
theorem dX8_handOver_8 : decode cX8_handOver 8 = .ok (.invokestatic 99, 3) := dcU2 dO_184 (by decide +kernel)
theorem dX8_handOver_11 : decode cX8_handOver 11 = .ok (.aaload, 1) := dc0 dO_50 (by decide +kernel)
theorem dX8_handOver_12 : decode cX8_handOver 12 = .ok (.astore 4, 2) := dcU1 dO_58 (by decide +kernel)
theorem dX8_handOver_14 : decode cX8_handOver 14 = .ok (.aload 4, 2) := dcU1 dO_25 (by decide +kernel)
theorem dX8_handOver_16 : decode cX8_handOver 16 = .ok (.aload_n 1, 1) := dc0 dO_43 (by decide +kernel)
theorem dX8_handOver_17 : decode cX8_handOver 17 = .ok (.getfield 103, 3) := dcU2 dO_180 (by decide +kernel)
theorem dX8_handOver_20 : decode cX8_handOver 20 = .ok (.iload_n 2, 1) := dc0 dO_28 (by decide +kernel)
theorem dX8_handOver_21 : decode cX8_handOver 21 = .ok (.iload_n 3, 1) := dc0 dO_29 (by decide +kernel)
theorem dX8_handOver_22 : decode cX8_handOver 22 = .ok (.invokestatic 99, 3) := dcU2 dO_184 (by decide +kernel)
theorem dX8_handOver_25 : decode cX8_handOver 25 = .ok (.aaload, 1) := dc0 dO_50 (by decide +kernel)
theorem dX8_handOver_26 : decode cX8_handOver 26 = .ok (.invokevirtual 106, 3) := dcU2 dO_182 (by decide +kernel)
theorem dX8_handOver_29 : decode cX8_handOver 29 = .ok (.aload 4, 2) := dcU1 dO_25 (by decide +kernel)
theorem dX8_handOver_31 : decode cX8_handOver 31 = .ok (.aload_n 0, 1) := dc0 dO_42 (by decide +kernel)
theorem dX8_handOver_32 : decode cX8_handOver 32 = .ok (.getfield 62, 3) := dcU2 dO_180 (by decide +kernel)
theorem dX8_handOver_35 : decode cX8_handOver 35 = .ok (.putfield 110, 3) := dcU2 dO_181 (by decide +kernel)
theorem dX8_handOver_38 : decode cX8_handOver 38 = .ok (.return_, 1) := dc0 dO_177 (by decide +kernel)
theorem dX8_look_0 : decode cX8_look 0 = .ok (.aload_n 0, 1) := dc0 dO_42 (by decide +kernel)
theorem dX8_look_1 : decode cX8_look 1 = .ok (.getfield 9, 3) := dcU2 dO_180 (by decide +kernel)
theorem dX8_look_4 : decode cX8_look 4 = .ok (.getfield 162, 3) := dcU2 dO_180 (by decide +kernel)
theorem dX8_look_7 : decode cX8_look 7 = .ok (.iload_n 1, 1) := dc0 dO_27 (by decide +kernel)
theorem dX8_look_8 : decode cX8_look 8 = .ok (.aaload, 1) := dc0 dO_50 (by decide +kernel)
theorem dX8_look_9 : decode cX8_look 9 = .ok (.astore_n 3, 1) := dc0 dO_78 (by decide +kernel)
theorem dX8_look_10 : decode cX8_look 10 = .ok (.aload_n 0, 1) := dc0 dO_42 (by decide +kernel)
theorem dX8_look_11 : decode cX8_look 11 = .ok (.getfield 46, 3) := dcU2 dO_180 (by decide +kernel)
theorem dX8_look_14 : decode cX8_look 14 = .ok (.astore 4, 2) := dcU1 dO_58 (by decide +kernel)
theorem dX8_look_16 : decode cX8_look 16 = .ok (.ldc 166, 2) := dcU1 dO_18 (by decide +kernel)
theorem dX8_look_18 : decode cX8_look 18 = .ok (.istore 5, 2) := dcU1 dO_54 (by decide +kernel)
theorem dX8_look_20 : decode cX8_look 20 = .ok (.aload_n 3, 1) := dc0 dO_45 (by decide +kernel)
theorem dX8_look_21 : decode cX8_look 21 = .ok (.getfield 167, 3) := dcU2 dO_180 (by decide +kernel)
theorem dX8_look_24 : decode cX8_look 24 = .ok (.iload_n 2, 1) := dc0 dO_28 (by decide +kernel)
theorem dX8_look_25 : decode cX8_look 25 = .ok (.iaload, 1) := dc0 dO_46 (by decide +kernel)
theorem dX8_look_26 : decode cX8_look 26 = .ok (.iconst (-1), 1) := dc0 dO_2 (by decide +kernel)
theorem dX8_look_27 : decode cX8_look 27 = .ok (.if_icmp .eq 30, 3) := dcS2 dO_159 (by decide +kernel)
theorem dX8_look_30 : decode cX8_look 30 = .ok (.aload_n 0, 1) := dc0 dO_42 (by decide +kernel)
theorem dX8_look_31 : decode cX8_look 31 = .ok (.getfield 42, 3) := dcU2 dO_180 (by decide +kernel)
theorem dX8_look_34 : decode cX8_look 34 = .ok (.iload_n 2, 1) := dc0 dO_28 (by decide +kernel)
theorem dX8_look_35 : decode cX8_look 35 = .ok (.aload_n 3, 1) := dc0 dO_45 (by decide +kernel)
theorem dX8_look_36 : decode cX8_look 36 = .ok (.getfield 167, 3) := dcU2 dO_180 (by decide +kernel)
theorem dX8_look_39 : decode cX8_look 39 = .ok (.iload_n 2, 1) := dc0 dO_28 (by decide +kernel)
theorem dX8_look_40 : decode cX8_look 40 = .ok (.iaload, 1) := dc0 dO_46 (by decide +kernel)
theorem dX8_look_41 : decode cX8_look 41 = .ok (.invokevirtual 172, 3) := dcU2 dO_182 (by decide +kernel)
theorem dX8_look_44 : decode cX8_look 44 = .ok (.aload_n 0, 1) := dc0 dO_42 (by decide +kernel)
theorem dX8_look_45 : decode cX8_look 45 = .ok (.getfield 42, 3) := dcU2 dO_180 (by decide +kernel)
theorem dX8_look_48 : decode cX8_look 48 = .ok (.astore 4, 2) := dcU1 dO_58 (by decide +kernel)
theorem dX8_look_50 : decode cX8_look 50 = .ok (.bipush (-4), 2) := dcS1 dO_16 (by decide +kernel)
theorem dX8_look_52 : decode cX8_look 52 = .ok (.istore 5, 2) := dcU1 dO_54 (by decide +kernel)
theorem dX8_look_54 : decode cX8_look 54 = .ok (.goto 52, 3) := dcS2 dO_167 (by decide +kernel)
theorem dX8_look_57 : decode cX8_look 57 = .ok (.aload_n 0, 1) := dc0 dO_42 (by decide +kernel)
theorem dX8_look_58 : decode cX8_look 58 = .ok (.iload_n 1, 1) := dc0 dO_27 (by decide +kernel)
theorem dX8_look_59 : decode cX8_look 59 = .ok (.iload_n 2, 1) := dc0 dO_28 (by decide +kernel)
theorem dX8_look_60 : decode cX8_look 60 = .ok (.invokevirtual 175, 3) := dcU2 dO_182 (by decide +kernel)
theorem dX8_look_63 : decode cX8_look 63 = .ok (.aload_n 3, 1) := dc0 dO_45 (by decide +kernel)
theorem dX8_look_64 : decode cX8_look 64 = .ok (.getfield 178, 3) := dcU2 dO_180 (by decide +kernel)
theorem dX8_look_67 : decode cX8_look 67 = .ok (.ifCond .eq 11, 3) := dcS2 dO_153 (by decide +kernel)
theorem dX8_look_70 : decode cX8_look 70 = .ok (.aload_n 0, 1) := dc0 dO_42 (by decide +kernel)
theorem dX8_look_71 : decode cX8_look 71 = .ok (.aload_n 3, 1) := dc0 dO_45 (by decide +kernel)
theorem dX8_look_72 : decode cX8_look 72 = .ok (.invokevirtual 181, 3) := dcU2 dO_182 (by decide +kernel)
theorem dX8_look_75 : decode cX8_look 75 = .ok (.goto 8, 3) := dcS2 dO_167 (by decide +kernel)
theorem dX8_look_78 : decode cX8_look 78 = .ok (.aload_n 0, 1) := dc0 dO_42 (by decide +kernel)
theorem dX8_look_79 : decode cX8_look 79 = .ok (.aload_n 3, 1) := dc0 dO_45 (by decide +kernel)
theorem dX8_look_80 : decode cX8_look 80 = .ok (.invokevirtual 185, 3) := dcU2 dO_182 (by decide +kernel)
theorem dX8_look_83 : decode cX8_look 83 = .ok (.istore 6, 2) := dcU1 dO_54 (by decide +kernel)
theorem dX8_look_85 : decode cX8_look 85 = .ok (.iload 6, 2) := dcU1 dO_21 (by decide +kernel)
theorem dX8_look_87 : decode cX8_look 87 = .ok (.ifCond .lt 19, 3) := dcS2 dO_155 (by decide +kernel)
theorem dX8_look_90 : decode cX8_look 90 = .ok (.aload_n 0, 1) := dc0 dO_42 (by decide +kernel)
theorem dX8_look_91 : decode cX8_look 91 = .ok (.getfield 34, 3) := dcU2 dO_180 (by decide +kernel)
theorem dX8_look_94 : decode cX8_look 94 = .ok (.iload 6, 2) := dcU1 dO_21 (by decide +kernel)
theorem dX8_look_96 : decode cX8_look 96 = .ok (.aaload, 1) := dc0 dO_50 (by decide +kernel)
theorem dX8_look_97 : decode cX8_look 97 = .ok (.astore 4, 2) := dcU1 dO_58 (by decide +kernel)
theorem dX8_look_99 : decode cX8_look 99 = .ok (.aload 4, 2) := dcU1 dO_25 (by decide +kernel)
theorem dX8_look_101 : decode cX8_look 101 = .ok (.getfield 188, 3) := dcU2 dO_180 (by decide +kernel)
theorem dX8_look_104 : decode cX8_look 104 = .ok (.istore 5, 2) := dcU1 dO_54 (by decide +kernel)
theorem dX8_look_106 : decode cX8_look 106 = .ok (.iload 5, 2) := dcU1 dO_21 (by decide +kernel)
theorem dX8_look_108 : decode cX8_look 108 = .ok (.aload_n 3, 1) := dc0 dO_45 (by decide +kernel)
theorem dX8_look_109 : decode cX8_look 109 = .ok (.getfield 190, 3) := dcU2 dO_180 (by decide +kernel)
theorem dX8_look_112 : decode cX8_look 112 = .ok (.iload_n 2, 1) := dc0 dO_28 (by decide +kernel)
theorem dX8_look_113 : decode cX8_look 113 = .ok (.iaload, 1) := dc0 dO_46 (by decide +kernel)
theorem dX8_look_114 : decode cX8_look 114 = .ok (.if_icmp .ne 18, 3) := dcS2 dO_160 (by decide +kernel)
theorem dX8_look_117 : decode cX8_look 117 = .ok (.aload 4, 2) := dcU1 dO_25 (by decide +kernel)
theorem dX8_look_119 : decode cX8_look 119 = .ok (.aload_n 3, 1) := dc0 dO_45 (by decide +kernel)
theorem dX8_look_120 : decode cX8_look 120 = .ok (.getfield 193, 3) := dcU2 dO_180 (by decide +kernel)
theorem dX8_look_123 : decode cX8_look 123 = .ok (.iload_n 2, 1) := dc0 dO_28 (by decide +kernel)
theorem dX8_look_124 : decode cX8_look 124 = .ok (.aaload, 1) := dc0 dO_50 (by decide +kernel)
theorem dX8_look_125 : decode cX8_look 125 = .ok (.invokevirtual 196, 3) := dcU2 dO_182 (by decide +kernel)
theorem sfx_cX8_look_128 : (cX8_look.data.toList.drop 128).take 67 = [153, 0, 4, 177, 45, 180, 0, 190, 28, 21, 5, 79, 45, 180, 0, 193, 28, 50, 25, 4, 182, 0, 106, 3, 54, 6, 21, 6, 42, 180, 0, 9, 180, 0, 153, 162, 0, 39, 42, 180, 0, 9, 180, 0, 76, 21, 6, 50, 27, 182, 0, 156, 54, 7, 21, 7, 155, 0, 12, 42, 21, 6, 21, 7, 28, 182, 0] := by decide +kernel
theorem dX8_look_128 : decode cX8_look 128 = .ok (.ifCond .eq 4, 3) := dcS2 dO_153 (rdS2.ch sfx_cX8_look_128 0 rfl (by decide +kernel))
theorem dX8_look_131 : decode cX8_look 131 = .ok (.return_, 1) := dc0 dO_177 (rdB.ch sfx_cX8_look_128 3 rfl (by decide +kernel))
theorem dX8_look_132 : decode cX8_look 132 = .ok (.aload_n 3, 1) := dc0 dO_45 (rdB.ch sfx_cX8_look_128 4 rfl (by decide +kernel))
theorem dX8_look_133 : decode cX8_look 133 = .ok (.getfield 190, 3) := dcU2 dO_180 (rdU2.ch sfx_cX8_look_128 5 rfl (by decide +kernel))
theorem dX8_look_136 : decode cX8_look 136 = .ok (.iload_n 2, 1) := dc0 dO_28 (rdB.ch sfx_cX8_look_128 8 rfl (by decide +kernel))
theorem dX8_look_137 : decode cX8_look 137 = .ok (.iload 5, 2) := dcU1 dO_21 (rdU1.ch sfx_cX8_look_128 9 rfl (by decide +kernel))
theorem dX8_look_139 : decode cX8_look 139 = .ok (.iastore, 1) := dc0 dO_79 (rdB.ch sfx_cX8_look_128 11 rfl (by decide +kernel))
theorem dX8_look_140 : decode cX8_look 140 = .ok (.aload_n 3, 1) := dc0 dO_45 (rdB.ch sfx_cX8_look_128 12 rfl (by decide +kernel))
theorem dX8_look_141 : decode cX8_look 141 = .ok (.getfield 193, 3) := dcU2 dO_180 (rdU2.ch sfx_cX8_look_128 13 rfl (by decide +kernel))
theorem dX8_look_144 : decode cX8_look 144 = .ok (.iload_n 2, 1) := dc0 dO_28 (rdB.ch sfx_cX8_look_128 16 rfl (by decide +kernel))
theorem dX8_look_145 : decode cX8_look 145 = .ok (.aaload, 1) := dc0 dO_50 (rdB.ch sfx_cX8_look_128 17 rfl (by decide +kernel))
theorem dX8_look_146 : decode cX8_look 146 = .ok (.aload 4, 2) := dcU1 dO_25 (rdU1.ch sfx_cX8_look_128 18 rfl (by decide +kernel))
theorem dX8_look_148 : decode cX8_look 148 = .ok (.invokevirtual 106, 3) := dcU2 dO_182 (rdU2.ch sfx_cX8_look_128 20 rfl (by decide +kernel))
theorem dX8_look_151 : decode cX8_look 151 = .ok (.iconst 0, 1) := dc0 dO_3 (rdB.ch sfx_cX8_look_128 23 rfl (by decide +kernel))
theorem dX8_look_152 : decode cX8_look 152 = .ok (.istore 6, 2) := dcU1 dO_54 (rdU1.ch sfx_cX8_look_128 24 rfl (by decide +kernel))
theorem dX8_look_154 : decode cX8_look 154 = .ok (.iload 6, 2) := dcU1 dO_21 (rdU1.ch sfx_cX8_look_128 26 rfl (by decide +kernel))
theorem dX8_look_156 : decode cX8_look 156 = .ok (.aload_n 0, 1) := dc0 dO_42 (rdB.ch sfx_cX8_look_128 28 rfl (by decide +kernel))
theorem dX8_look_157 : decode cX8_look 157 = .ok (.getfield 9, 3) := dcU2 dO_180 (rdU2.ch sfx_cX8_look_128 29 rfl (by decide +kernel))
theorem dX8_look_160 : decode cX8_look 160 = .ok (.getfield 153, 3) := dcU2 dO_180 (rdU2.ch sfx_cX8_look_128 32 rfl (by decide +kernel))
theorem dX8_look_163 : decode cX8_look 163 = .ok (.if_icmp .ge 39, 3) := dcS2 dO_162 (rdS2.ch sfx_cX8_look_128 35 rfl (by decide +kernel))
theorem dX8_look_166 : decode cX8_look 166 = .ok (.aload_n 0, 1) := dc0 dO_42 (rdB.ch sfx_cX8_look_128 38 rfl (by decide +kernel))
theorem dX8_look_167 : decode cX8_look 167 = .ok (.getfield 9, 3) := dcU2 dO_180 (rdU2.ch sfx_cX8_look_128 39 rfl (by decide +kernel))
theorem dX8_look_170 : decode cX8_look 170 = .ok (.getfield 76, 3) := dcU2 dO_180 (rdU2.ch sfx_cX8_look_128 42 rfl (by decide +kernel))
theorem dX8_look_173 : decode cX8_look 173 = .ok (.iload 6, 2) := dcU1 dO_21 (rdU1.ch sfx_cX8_look_128 45 rfl (by decide +kernel))
theorem dX8_look_175 : decode cX8_look 175 = .ok (.aaload, 1) := dc0 dO_50 (rdB.ch sfx_cX8_look_128 47 rfl (by decide +kernel))
theorem dX8_look_176 : decode cX8_look 176 = .ok (.iload_n 1, 1) := dc0 dO_27 (rdB.ch sfx_cX8_look_128 48 rfl (by decide +kernel))
theorem dX8_look_177 : decode cX8_look 177 = .ok (.invokevirtual 156, 3) := dcU2 dO_182 (rdU2.ch sfx_cX8_look_128 49 rfl (by decide +kernel))
theorem dX8_look_180 : decode cX8_look 180 = .ok (.istore 7, 2) := dcU1 dO_54 (rdU1.ch sfx_cX8_look_128 52 rfl (by decide +kernel))
theorem dX8_look_182 : decode cX8_look 182 = .ok (.iload 7, 2) := dcU1 dO_21 (rdU1.ch sfx_cX8_look_128 54 rfl (by decide +kernel))
theorem dX8_look_184 : decode cX8_look 184 = .ok (.ifCond .lt 12, 3) := dcS2 dO_155 (rdS2.ch sfx_cX8_look_128 56 rfl (by decide +kernel))
theorem dX8_look_187 : decode cX8_look 187 = .ok (.aload_n 0, 1) := dc0 dO_42 (rdB.ch sfx_cX8_look_128 59 rfl (by decide +kernel))
theorem dX8_look_188 : decode cX8_look 188 = .ok (.iload 6, 2) := dcU1 dO_21 (rdU1.ch sfx_cX8_look_128 60 rfl (by decide +kernel))
theorem dX8_look_190 : decode cX8_look 190 = .ok (.iload 7, 2) := dcU1 dO_21 (rdU1.ch sfx_cX8_look_128 62 rfl (by decide +kernel))
theorem sfx_cX8_look_192 : (cX8_look.data.toList.drop 192).take 67 = [28, 182, 0, 72, 132, 6, 1, 167, 255, 211, 177] := by decide +kernel
theorem dX8_look_192 : decode cX8_look 192 = .ok (.iload_n 2, 1) := dc0 dO_28 (rdB.ch sfx_cX8_look_192 0 rfl (by decide +kernel))
theorem dX8_look_193 : decode cX8_look 193 = .ok (.invokevirtual 72, 3) := dcU2 dO_182 (rdU2.ch sfx_cX8_look_192 1 rfl (by decide +kernel))
theorem dX8_look_196 : decode cX8_look 196 = .ok (.iinc 6 1, 3) := dcI dO_132 (rdI.ch sfx_cX8_look_192 4 rfl (by decide +kernel))
theorem dX8_look_199 : decode cX8_look 199 = .ok (.goto (-45), 3) := dcS2 dO_167 (rdS2.ch sfx_cX8_look_192 7 rfl (by decide +kernel))
theorem dX8_look_202 : decode cX8_look 202 = .ok (.return_, 1) := dc0 dO_177 (rdB.ch sfx_cX8_look_192 10 rfl (by decide +kernel))
theorem dX8_lookAtAll_0 : decode cX8_lookAtAll 0 = .ok (.iconst 0, 1) := dc0 dO_3 (by decide +kernel)
theorem dX8_lookAtAll_1 : decode cX8_lookAtAll 1 = .ok (.istore_n 2, 1) := dc0 dO_61 (by decide +kernel)
theorem dX8_lookAtAll_2 : decode cX8_lookAtAll 2 = .ok (.iload_n 2, 1) := dc0 dO_28 (by decide +kernel)
theorem dX8_lookAtAll_3 : decode cX8_lookAtAll 3 = .ok (.aload_n 0, 1) := dc0 dO_42 (by decide +kernel)
theorem dX8_lookAtAll_4 : decode cX8_lookAtAll 4 = .ok (.getfield 9, 3) := dcU2 dO_180 (by decide +kernel)
theorem dX8_lookAtAll_7 : decode cX8_lookAtAll 7 = .ok (.getfield 150, 3) := dcU2 dO_180 (by decide +kernel)
theorem dX8_lookAtAll_10 : decode cX8_lookAtAll 10 = .ok (.if_icmp .ge 15, 3) := dcS2 dO_162 (by decide +kernel)
theorem dX8_lookAtAll_13 : decode cX8_lookAtAll 13 = .ok (.aload_n 0, 1) := dc0 dO_42 (by decide +kernel)
theorem dX8_lookAtAll_14 : decode cX8_lookAtAll 14 = .ok (.iload_n 1, 1) := dc0 dO_27 (by decide +kernel)
theorem dX8_lookAtAll_15 : decode cX8_lookAtAll 15 = .ok (.iload_n 2, 1) := dc0 dO_28 (by decide +kernel)
theorem dX8_lookAtAll_16 : decode cX8_lookAtAll 16 = .ok (.invokevirtual 92, 3) := dcU2 dO_182 (by decide +kernel)
theorem dX8_lookAtAll_19 : decode cX8_lookAtAll 19 = .ok (.iinc 2 1, 3) := dcI dO_132 (by decide +kernel)
theorem dX8_lookAtAll_22 : decode cX8_lookAtAll 22 = .ok (.goto (-20), 3) := dcS2 dO_167 (by decide +kernel)
theorem dX8_lookAtAll_25 : decode cX8_lookAtAll 25 = .ok (.return_, 1) := dc0 dO_177 (by decide +kernel)
theorem dX8_reason_0 : decode cX8_reason 0 = .ok (.aload_n 0, 1) := dc0 dO_42 (by decide +kernel)
theorem dX8_reason_1 : decode cX8_reason 1 = .ok (.getfield 9, 3) := dcU2 dO_180 (by decide +kernel)
theorem dX8_reason_4 : decode cX8_reason 4 = .ok (.getfield 76, 3) := dcU2 dO_180 (by decide +kernel)
theorem dX8_reason_7 : decode cX8_reason 7 = .ok (.iload_n 1, 1) := dc0 dO_27 (by decide +kernel)
theorem dX8_reason_8 : decode cX8_reason 8 = .ok (.aaload, 1) := dc0 dO_50 (by decide +kernel)
theorem dX8_reason_9 : decode cX8_reason 9 = .ok (.astore 4, 2) := dcU1 dO_58 (by decide +kernel)
theorem dX8_reason_11 : decode cX8_reason 11 = .ok (.aload 4, 2) := dcU1 dO_25 (by decide +kernel)
theorem dX8_reason_13 : decode cX8_reason 13 = .ok (.getfield 96, 3) := dcU2 dO_180 (by decide +kernel)
theorem dX8_reason_16 : decode cX8_reason 16 = .ok (.iload_n 2, 1) := dc0 dO_28 (by decide +kernel)
theorem dX8_reason_17 : decode cX8_reason 17 = .ok (.iload_n 3, 1) := dc0 dO_29 (by decide +kernel)
theorem dX8_reason_18 : decode cX8_reason 18 = .ok (.invokestatic 99, 3) := dcU2 dO_184 (by decide +kernel)
theorem dX8_reason_21 : decode cX8_reason 21 = .ok (.aaload, 1) := dc0 dO_50 (by decide +kernel)
theorem dX8_reason_22 : decode cX8_reason 22 = .ok (.astore 5, 2) := dcU1 dO_58 (by decide +kernel)
theorem dX8_reason_24 : decode cX8_reason 24 = .ok (.aload 4, 2) := dcU1 dO_25 (by decide +kernel)
theorem dX8_reason_26 : decode cX8_reason 26 = .ok (.iload_n 2, 1) := dc0 dO_28 (by decide +kernel)
theorem dX8_reason_27 : decode cX8_reason 27 = .ok (.invokevirtual 86, 3) := dcU2 dO_182 (by decide +kernel)
theorem dX8_reason_30 : decode cX8_reason 30 = .ok (.istore 6, 2) := dcU1 dO_54 (by decide +kernel)
theorem dX8_reason_32 : decode cX8_reason 32 = .ok (.aload_n 0, 1) := dc0 dO_42 (by decide +kernel)
theorem dX8_reason_33 : decode cX8_reason 33 = .ok (.getfield 9, 3) := dcU2 dO_180 (by decide +kernel)
theorem dX8_reason_36 : decode cX8_reason 36 = .ok (.getfield 162, 3) := dcU2 dO_180 (by decide +kernel)
theorem dX8_reason_39 : decode cX8_reason 39 = .ok (.iload 6, 2) := dcU1 dO_21 (by decide +kernel)
theorem dX8_reason_41 : decode cX8_reason 41 = .ok (.aaload, 1) := dc0 dO_50 (by decide +kernel)
theorem dX8_reason_42 : decode cX8_reason 42 = .ok (.astore 7, 2) := dcU1 dO_58 (by decide +kernel)
theorem dX8_reason_44 : decode cX8_reason 44 = .ok (.aload 5, 2) := dcU1 dO_25 (by decide +kernel)
theorem dX8_reason_46 : decode cX8_reason 46 = .ok (.getfield 203, 3) := dcU2 dO_180 (by decide +kernel)
theorem dX8_reason_49 : decode cX8_reason 49 = .ok (.ifCond .ne 6, 3) := dcS2 dO_154 (by decide +kernel)
theorem dX8_reason_52 : decode cX8_reason 52 = .ok (.ldc 166, 2) := dcU1 dO_18 (by decide +kernel)
theorem dX8_reason_54 : decode cX8_reason 54 = .ok (.ireturn, 1) := dc0 dO_172 (by decide +kernel)
theorem dX8_reason_55 : decode cX8_reason 55 = .ok (.aload 7, 2) := dcU1 dO_25 (by decide +kernel)
theorem dX8_reason_57 : decode cX8_reason 57 = .ok (.getfield 167, 3) := dcU2 dO_180 (by decide +kernel)
theorem dX8_reason_60 : decode cX8_reason 60 = .ok (.iload_n 3, 1) := dc0 dO_29 (by decide +kernel)
theorem dX8_reason_61 : decode cX8_reason 61 = .ok (.iaload, 1) := dc0 dO_46 (by decide +kernel)
theorem dX8_reason_62 : decode cX8_reason 62 = .ok (.iconst (-1), 1) := dc0 dO_2 (by decide +kernel)
theorem dX8_reason_63 : decode cX8_reason 63 = .ok (.if_icmp .eq 6, 3) := dcS2 dO_159 (by decide +kernel)
theorem dX8_reason_66 : decode cX8_reason 66 = .ok (.bipush 8, 2) := dcS1 dO_16 (by decide +kernel)
theorem dX8_reason_68 : decode cX8_reason 68 = .ok (.ireturn, 1) := dc0 dO_172 (by decide +kernel)
theorem dX8_reason_69 : decode cX8_reason 69 = .ok (.aload 5, 2) := dcU1 dO_25 (by decide +kernel)
theorem dX8_reason_71 : decode cX8_reason 71 = .ok (.iload 6, 2) := dcU1 dO_21 (by decide +kernel)
theorem dX8_reason_73 : decode cX8_reason 73 = .ok (.invokevirtual 206, 3) := dcU2 dO_182 (by decide +kernel)
theorem dX8_reason_76 : decode cX8_reason 76 = .ok (.ifCond .eq 6, 3) := dcS2 dO_153 (by decide +kernel)
theorem dX8_reason_79 : decode cX8_reason 79 = .ok (.bipush 9, 2) := dcS1 dO_16 (by decide +kernel)
theorem dX8_reason_81 : decode cX8_reason 81 = .ok (.ireturn, 1) := dc0 dO_172 (by decide +kernel)
theorem dX8_reason_82 : decode cX8_reason 82 = .ok (.aload_n 0, 1) := dc0 dO_42 (by decide +kernel)
theorem dX8_reason_83 : decode cX8_reason 83 = .ok (.iload 6, 2) := dcU1 dO_21 (by decide +kernel)
theorem dX8_reason_85 : decode cX8_reason 85 = .ok (.iload_n 3, 1) := dc0 dO_29 (by decide +kernel)
theorem dX8_reason_86 : decode cX8_reason 86 = .ok (.invokevirtual 175, 3) := dcU2 dO_182 (by decide +kernel)
theorem dX8_reason_89 : decode cX8_reason 89 = .ok (.aload_n 0, 1) := dc0 dO_42 (by decide +kernel)
theorem dX8_reason_90 : decode cX8_reason 90 = .ok (.iload_n 1, 1) := dc0 dO_27 (by decide +kernel)
theorem dX8_reason_91 : decode cX8_reason 91 = .ok (.invokevirtual 276, 3) := dcU2 dO_182 (by decide +kernel)
theorem dX8_reason_94 : decode cX8_reason 94 = .ok (.istore 8, 2) := dcU1 dO_54 (by decide +kernel)
theorem dX8_reason_96 : decode cX8_reason 96 = .ok (.aload_n 0, 1) := dc0 dO_42 (by decide +kernel)
theorem dX8_reason_97 : decode cX8_reason 97 = .ok (.aload 7, 2) := dcU1 dO_25 (by decide +kernel)
theorem dX8_reason_99 : decode cX8_reason 99 = .ok (.getfield 190, 3) := dcU2 dO_180 (by decide +kernel)
theorem dX8_reason_102 : decode cX8_reason 102 = .ok (.iload_n 3, 1) := dc0 dO_29 (by decide +kernel)
theorem dX8_reason_103 : decode cX8_reason 103 = .ok (.iaload, 1) := dc0 dO_46 (by decide +kernel)
theorem dX8_reason_104 : decode cX8_reason 104 = .ok (.invokevirtual 276, 3) := dcU2 dO_182 (by decide +kernel)
theorem dX8_reason_107 : decode cX8_reason 107 = .ok (.istore 9, 2) := dcU1 dO_54 (by decide +kernel)
theorem dX8_reason_109 : decode cX8_reason 109 = .ok (.iload 8, 2) := dcU1 dO_21 (by decide +kernel)
theorem dX8_reason_111 : decode cX8_reason 111 = .ok (.ifCond .ge 6, 3) := dcS2 dO_156 (by decide +kernel)
theorem dX8_reason_114 : decode cX8_reason 114 = .ok (.bipush 10, 2) := dcS1 dO_16 (by decide +kernel)
theorem dX8_reason_116 : decode cX8_reason 116 = .ok (.ireturn, 1) := dc0 dO_172 (by decide +kernel)
theorem dX8_reason_117 : decode cX8_reason 117 = .ok (.iload 8, 2) := dcU1 dO_21 (by decide +kernel)
theorem dX8_reason_119 : decode cX8_reason 119 = .ok (.iload 9, 2) := dcU1 dO_21 (by decide +kernel)
theorem dX8_reason_121 : decode cX8_reason 121 = .ok (.if_icmp .eq 8, 3) := dcS2 dO_159 (by decide +kernel)
theorem dX8_reason_124 : decode cX8_reason 124 = .ok (.iload 9, 2) := dcU1 dO_21 (by decide +kernel)
theorem dX8_reason_126 : decode cX8_reason 126 = .ok (.ifCond .ge 5, 3) := dcS2 dO_156 (by decide +kernel)
theorem sfx_cX8_reason_128 : (cX8_reason.data.toList.drop 128).take 67 = [5, 3, 172, 25, 7, 42, 180, 0, 34, 21, 8, 50, 42, 180, 0, 34, 21, 9, 50, 182, 1, 23, 172] := by decide +kernel
theorem dX8_reason_129 : decode cX8_reason 129 = .ok (.iconst 0, 1) := dc0 dO_3 (rdB.ch sfx_cX8_reason_128 1 rfl (by decide +kernel))
theorem dX8_reason_130 : decode cX8_reason 130 = .ok (.ireturn, 1) := dc0 dO_172 (rdB.ch sfx_cX8_reason_128 2 rfl (by decide +kernel))
theorem dX8_reason_131 : decode cX8_reason 131 = .ok (.aload 7, 2) := dcU1 dO_25 (rdU1.ch sfx_cX8_reason_128 3 rfl (by decide +kernel))
theorem dX8_reason_133 : decode cX8_reason 133 = .ok (.aload_n 0, 1) := dc0 dO_42 (rdB.ch sfx_cX8_reason_128 5 rfl (by decide +kernel))
theorem dX8_reason_134 : decode cX8_reason 134 = .ok (.getfield 34, 3) := dcU2 dO_180 (rdU2.ch sfx_cX8_reason_128 6 rfl (by decide +kernel))
theorem dX8_reason_137 : decode cX8_reason 137 = .ok (.iload 8, 2) := dcU1 dO_21 (rdU1.ch sfx_cX8_reason_128 9 rfl (by decide +kernel))
theorem dX8_reason_139 : decode cX8_reason 139 = .ok (.aaload, 1) := dc0 dO_50 (rdB.ch sfx_cX8_reason_128 11 rfl (by decide +kernel))
theorem dX8_reason_140 : decode cX8_reason 140 = .ok (.aload_n 0, 1) := dc0 dO_42 (rdB.ch sfx_cX8_reason_128 12 rfl (by decide +kernel))
theorem dX8_reason_141 : decode cX8_reason 141 = .ok (.getfield 34, 3) := dcU2 dO_180 (rdU2.ch sfx_cX8_reason_128 13 rfl (by decide +kernel))
theorem dX8_reason_144 : decode cX8_reason 144 = .ok (.iload 9, 2) := dcU1 dO_21 (rdU1.ch sfx_cX8_reason_128 16 rfl (by decide +kernel))
theorem dX8_reason_146 : decode cX8_reason 146 = .ok (.aaload, 1) := dc0 dO_50 (rdB.ch sfx_cX8_reason_128 18 rfl (by decide +kernel))
theorem dX8_reason_147 : decode cX8_reason 147 = .ok (.invokevirtual 279, 3) := dcU2 dO_182 (rdU2.ch sfx_cX8_reason_128 19 rfl (by decide +kernel))
theorem dX8_reason_150 : decode cX8_reason 150 = .ok (.ireturn, 1) := dc0 dO_172 (rdB.ch sfx_cX8_reason_128 22 rfl (by decide +kernel))
theorem dX8_say_0 : decode cX8_say 0 = .ok (.aload_n 0, 1) := dc0 dO_42 (by decide +kernel)
theorem dX8_say_1 : decode cX8_say 1 = .ok (.getfield 9, 3) := dcU2 dO_180 (by decide +kernel)
theorem dX8_say_4 : decode cX8_say 4 = .ok (.getfield 76, 3) := dcU2 dO_180 (by decide +kernel)
theorem dX8_say_7 : decode cX8_say 7 = .ok (.iload_n 1, 1) := dc0 dO_27 (by decide +kernel)
theorem dX8_say_8 : decode cX8_say 8 = .ok (.aaload, 1) := dc0 dO_50 (by decide +kernel)
theorem dX8_say_9 : decode cX8_say 9 = .ok (.astore 4, 2) := dcU1 dO_58 (by decide +kernel)
theorem dX8_say_11 : decode cX8_say 11 = .ok (.aload 4, 2) := dcU1 dO_25 (by decide +kernel)
theorem dX8_say_13 : decode cX8_say 13 = .ok (.getfield 136, 3) := dcU2 dO_180 (by decide +kernel)
theorem dX8_say_16 : decode cX8_say 16 = .ok (.ifCond .ne 4, 3) := dcS2 dO_154 (by decide +kernel)
theorem dX8_say_19 : decode cX8_say 19 = .ok (.return_, 1) := dc0 dO_177 (by decide +kernel)
theorem dX8_say_20 : decode cX8_say 20 = .ok (.aload_n 0, 1) := dc0 dO_42 (by decide +kernel)
theorem dX8_say_21 : decode cX8_say 21 = .ok (.aload 4, 2) := dcU1 dO_25 (by decide +kernel)
theorem dX8_say_23 : decode cX8_say 23 = .ok (.iload_n 1, 1) := dc0 dO_27 (by decide +kernel)
theorem dX8_say_24 : decode cX8_say 24 = .ok (.iload_n 2, 1) := dc0 dO_28 (by decide +kernel)
theorem dX8_say_25 : decode cX8_say 25 = .ok (.iload_n 3, 1) := dc0 dO_29 (by decide +kernel)
theorem dX8_say_26 : decode cX8_say 26 = .ok (.invokevirtual 256, 3) := dcU2 dO_182 (by decide +kernel)
theorem dX8_say_29 : decode cX8_say 29 = .ok (.aload_n 0, 1) := dc0 dO_42 (by decide +kernel)
theorem dX8_say_30 : decode cX8_say 30 = .ok (.getfield 49, 3) := dcU2 dO_180 (by decide +kernel)
theorem dX8_say_33 : decode cX8_say 33 = .ok (.getfield 203, 3) := dcU2 dO_180 (by decide +kernel)
theorem dX8_say_36 : decode cX8_say 36 = .ok (.ifCond .eq 39, 3) := dcS2 dO_153 (by decide +kernel)
theorem dX8_say_39 : decode cX8_say 39 = .ok (.aload_n 0, 1) := dc0 dO_42 (by decide +kernel)
theorem dX8_say_40 : decode cX8_say 40 = .ok (.getfield 15, 3) := dcU2 dO_180 (by decide +kernel)
theorem dX8_say_43 : decode cX8_say 43 = .ok (.aload 4, 2) := dcU1 dO_25 (by decide +kernel)
theorem dX8_say_45 : decode cX8_say 45 = .ok (.getfield 213, 3) := dcU2 dO_180 (by decide +kernel)
theorem dX8_say_48 : decode cX8_say 48 = .ok (.iload_n 2, 1) := dc0 dO_28 (by decide +kernel)
theorem dX8_say_49 : decode cX8_say 49 = .ok (.iconst 2, 1) := dc0 dO_5 (by decide +kernel)
theorem dX8_say_50 : decode cX8_say 50 = .ok (.imul, 1) := dc0 dO_104 (by decide +kernel)
theorem dX8_say_51 : decode cX8_say 51 = .ok (.iconst 1, 1) := dc0 dO_4 (by decide +kernel)
theorem dX8_say_52 : decode cX8_say 52 = .ok (.iadd, 1) := dc0 dO_96 (by decide +kernel)
theorem dX8_say_53 : decode cX8_say 53 = .ok (.iaload, 1) := dc0 dO_46 (by decide +kernel)
theorem dX8_say_54 : decode cX8_say 54 = .ok (.aload_n 0, 1) := dc0 dO_42 (by decide +kernel)
theorem dX8_say_55 : decode cX8_say 55 = .ok (.getfield 49, 3) := dcU2 dO_180 (by decide +kernel)
theorem dX8_say_58 : decode cX8_say 58 = .ok (.aload 4, 2) := dcU1 dO_25 (by decide +kernel)
theorem dX8_say_60 : decode cX8_say 60 = .ok (.iload_n 2, 1) := dc0 dO_28 (by decide +kernel)
theorem dX8_say_61 : decode cX8_say 61 = .ok (.invokevirtual 216, 3) := dcU2 dO_182 (by decide +kernel)
theorem dX8_say_64 : decode cX8_say 64 = .ok (.ifCond .ne 11, 3) := dcS2 dO_154 (by decide +kernel)
theorem dX8_say_67 : decode cX8_say 67 = .ok (.aload_n 0, 1) := dc0 dO_42 (by decide +kernel)
theorem dX8_say_68 : decode cX8_say 68 = .ok (.getfield 49, 3) := dcU2 dO_180 (by decide +kernel)
theorem dX8_say_71 : decode cX8_say 71 = .ok (.iconst 0, 1) := dc0 dO_3 (by decide +kernel)
theorem dX8_say_72 : decode cX8_say 72 = .ok (.putfield 203, 3) := dcU2 dO_181 (by decide +kernel)
theorem dX8_say_75 : decode cX8_say 75 = .ok (.aload_n 0, 1) := dc0 dO_42 (by decide +kernel)
theorem dX8_say_76 : decode cX8_say 76 = .ok (.getfield 49, 3) := dcU2 dO_180 (by decide +kernel)
theorem dX8_say_79 : decode cX8_say 79 = .ok (.bipush 100, 2) := dcS1 dO_16 (by decide +kernel)
theorem dX8_say_81 : decode cX8_say 81 = .ok (.putfield 260, 3) := dcU2 dO_181 (by decide +kernel)
theorem dX8_say_84 : decode cX8_say 84 = .ok (.aload 4, 2) := dcU1 dO_25 (by decide +kernel)
theorem dX8_say_86 : decode cX8_say 86 = .ok (.getfield 103, 3) := dcU2 dO_180 (by decide +kernel)
theorem dX8_say_89 : decode cX8_say 89 = .ok (.iload_n 2, 1) := dc0 dO_28 (by decide +kernel)
theorem dX8_say_90 : decode cX8_say 90 = .ok (.iload_n 3, 1) := dc0 dO_29 (by decide +kernel)
theorem dX8_say_91 : decode cX8_say 91 = .ok (.invokestatic 99, 3) := dcU2 dO_184 (by decide +kernel)
theorem dX8_say_94 : decode cX8_say 94 = .ok (.aaload, 1) := dc0 dO_50 (by decide +kernel)
theorem dX8_say_95 : decode cX8_say 95 = .ok (.astore 5, 2) := dcU1 dO_58 (by decide +kernel)
theorem dX8_say_97 : decode cX8_say 97 = .ok (.aload_n 0, 1) := dc0 dO_42 (by decide +kernel)
theorem dX8_say_98 : decode cX8_say 98 = .ok (.getfield 49, 3) := dcU2 dO_180 (by decide +kernel)
theorem dX8_say_101 : decode cX8_say 101 = .ok (.aload 5, 2) := dcU1 dO_25 (by decide +kernel)
theorem dX8_say_103 : decode cX8_say 103 = .ok (.invokevirtual 196, 3) := dcU2 dO_182 (by decide +kernel)
theorem dX8_say_106 : decode cX8_say 106 = .ok (.ifCond .eq 4, 3) := dcS2 dO_153 (by decide +kernel)
theorem dX8_say_109 : decode cX8_say 109 = .ok (.return_, 1) := dc0 dO_177 (by decide +kernel)
theorem dX8_say_110 : decode cX8_say 110 = .ok (.aload 5, 2) := dcU1 dO_25 (by decide +kernel)
theorem dX8_say_112 : decode cX8_say 112 = .ok (.getfield 110, 3) := dcU2 dO_180 (by decide +kernel)
theorem dX8_say_115 : decode cX8_say 115 = .ok (.iconst (-1), 1) := dc0 dO_2 (by decide +kernel)
theorem dX8_say_116 : decode cX8_say 116 = .ok (.if_icmp .eq 59, 3) := dcS2 dO_159 (by decide +kernel)
theorem dX8_say_119 : decode cX8_say 119 = .ok (.aload_n 0, 1) := dc0 dO_42 (by decide +kernel)
theorem dX8_say_120 : decode cX8_say 120 = .ok (.getfield 62, 3) := dcU2 dO_180 (by decide +kernel)
theorem dX8_say_123 : decode cX8_say 123 = .ok (.aload 5, 2) := dcU1 dO_25 (by decide +kernel)
theorem dX8_say_125 : decode cX8_say 125 = .ok (.getfield 110, 3) := dcU2 dO_180 (by decide +kernel)
theorem sfx_cX8_say_128 : (cX8_say.data.toList.drop 128).take 67 = [25, 4, 180, 1, 7, 96, 162, 0, 41, 27, 28, 29, 4, 184, 0, 143, 54, 6, 42, 180, 0, 23, 21, 6, 46, 2, 160, 0, 20, 42, 21, 6, 25, 5, 180, 0, 110, 25, 4, 180, 1, 7, 96, 182, 1, 10, 177, 25, 5, 42, 180, 0, 49, 182, 0, 106, 25, 5, 42, 180, 0, 62, 181, 0, 110, 27, 28] := by decide +kernel
theorem dX8_say_128 : decode cX8_say 128 = .ok (.aload 4, 2) := dcU1 dO_25 (rdU1.ch sfx_cX8_say_128 0 rfl (by decide +kernel))
theorem dX8_say_130 : decode cX8_say 130 = .ok (.getfield 263, 3) := dcU2 dO_180 (rdU2.ch sfx_cX8_say_128 2 rfl (by decide +kernel))
theorem dX8_say_133 : decode cX8_say 133 = .ok (.iadd, 1) := dc0 dO_96 (rdB.ch sfx_cX8_say_128 5 rfl (by decide +kernel))
theorem dX8_say_134 : decode cX8_say 134 = .ok (.if_icmp .ge 41, 3) := dcS2 dO_162 (rdS2.ch sfx_cX8_say_128 6 rfl (by decide +kernel))
theorem dX8_say_137 : decode cX8_say 137 = .ok (.iload_n 1, 1) := dc0 dO_27 (rdB.ch sfx_cX8_say_128 9 rfl (by decide +kernel))
theorem dX8_say_138 : decode cX8_say 138 = .ok (.iload_n 2, 1) := dc0 dO_28 (rdB.ch sfx_cX8_say_128 10 rfl (by decide +kernel))
theorem dX8_say_139 : decode cX8_say 139 = .ok (.iload_n 3, 1) := dc0 dO_29 (rdB.ch sfx_cX8_say_128 11 rfl (by decide +kernel))
theorem dX8_say_140 : decode cX8_say 140 = .ok (.iconst 1, 1) := dc0 dO_4 (rdB.ch sfx_cX8_say_128 12 rfl (by decide +kernel))
theorem dX8_say_141 : decode cX8_say 141 = .ok (.invokestatic 143, 3) := dcU2 dO_184 (rdU2.ch sfx_cX8_say_128 13 rfl (by decide +kernel))
theorem dX8_say_144 : decode cX8_say 144 = .ok (.istore 6, 2) := dcU1 dO_54 (rdU1.ch sfx_cX8_say_128 16 rfl (by decide +kernel))
theorem dX8_say_146 : decode cX8_say 146 = .ok (.aload_n 0, 1) := dc0 dO_42 (rdB.ch sfx_cX8_say_128 18 rfl (by decide +kernel))
theorem dX8_say_147 : decode cX8_say 147 = .ok (.getfield 23, 3) := dcU2 dO_180 (rdU2.ch sfx_cX8_say_128 19 rfl (by decide +kernel))
theorem dX8_say_150 : decode cX8_say 150 = .ok (.iload 6, 2) := dcU1 dO_21 (rdU1.ch sfx_cX8_say_128 22 rfl (by decide +kernel))
theorem dX8_say_152 : decode cX8_say 152 = .ok (.iaload, 1) := dc0 dO_46 (rdB.ch sfx_cX8_say_128 24 rfl (by decide +kernel))
theorem dX8_say_153 : decode cX8_say 153 = .ok (.iconst (-1), 1) := dc0 dO_2 (rdB.ch sfx_cX8_say_128 25 rfl (by decide +kernel))
theorem dX8_say_154 : decode cX8_say 154 = .ok (.if_icmp .ne 20, 3) := dcS2 dO_160 (rdS2.ch sfx_cX8_say_128 26 rfl (by decide +kernel))
theorem dX8_say_157 : decode cX8_say 157 = .ok (.aload_n 0, 1) := dc0 dO_42 (rdB.ch sfx_cX8_say_128 29 rfl (by decide +kernel))
theorem dX8_say_158 : decode cX8_say 158 = .ok (.iload 6, 2) := dcU1 dO_21 (rdU1.ch sfx_cX8_say_128 30 rfl (by decide +kernel))
theorem dX8_say_160 : decode cX8_say 160 = .ok (.aload 5, 2) := dcU1 dO_25 (rdU1.ch sfx_cX8_say_128 32 rfl (by decide +kernel))
theorem dX8_say_162 : decode cX8_say 162 = .ok (.getfield 110, 3) := dcU2 dO_180 (rdU2.ch sfx_cX8_say_128 34 rfl (by decide +kernel))
theorem dX8_say_165 : decode cX8_say 165 = .ok (.aload 4, 2) := dcU1 dO_25 (rdU1.ch sfx_cX8_say_128 37 rfl (by decide +kernel))
theorem dX8_say_167 : decode cX8_say 167 = .ok (.getfield 263, 3) := dcU2 dO_180 (rdU2.ch sfx_cX8_say_128 39 rfl (by decide +kernel))
theorem dX8_say_170 : decode cX8_say 170 = .ok (.iadd, 1) := dc0 dO_96 (rdB.ch sfx_cX8_say_128 42 rfl (by decide +kernel))
theorem dX8_say_171 : decode cX8_say 171 = .ok (.invokevirtual 266, 3) := dcU2 dO_182 (rdU2.ch sfx_cX8_say_128 43 rfl (by decide +kernel))
theorem dX8_say_174 : decode cX8_say 174 = .ok (.return_, 1) := dc0 dO_177 (rdB.ch sfx_cX8_say_128 46 rfl (by decide +kernel))
theorem dX8_say_175 : decode cX8_say 175 = .ok (.aload 5, 2) := dcU1 dO_25 (rdU1.ch sfx_cX8_say_128 47 rfl (by decide +kernel))
theorem dX8_say_177 : decode cX8_say 177 = .ok (.aload_n 0, 1) := dc0 dO_42 (rdB.ch sfx_cX8_say_128 49 rfl (by decide +kernel))
theorem dX8_say_178 : decode cX8_say 178 = .ok (.getfield 49, 3) := dcU2 dO_180 (rdU2.ch sfx_cX8_say_128 50 rfl (by decide +kernel))
theorem dX8_say_181 : decode cX8_say 181 = .ok (.invokevirtual 106, 3) := dcU2 dO_182 (rdU2.ch sfx_cX8_say_128 53 rfl (by decide +kernel))
theorem dX8_say_184 : decode cX8_say 184 = .ok (.aload 5, 2) := dcU1 dO_25 (rdU1.ch sfx_cX8_say_128 56 rfl (by decide +kernel))
theorem dX8_say_186 : decode cX8_say 186 = .ok (.aload_n 0, 1) := dc0 dO_42 (rdB.ch sfx_cX8_say_128 58 rfl (by decide +kernel))
theorem dX8_say_187 : decode cX8_say 187 = .ok (.getfield 62, 3) := dcU2 dO_180 (rdU2.ch sfx_cX8_say_128 59 rfl (by decide +kernel))
theorem dX8_say_190 : decode cX8_say 190 = .ok (.putfield 110, 3) := dcU2 dO_181 (rdU2.ch sfx_cX8_say_128 62 rfl (by decide +kernel))
theorem sfx_cX8_say_192 : (cX8_say.data.toList.drop 192).take 67 = [110, 27, 28, 29, 3, 184, 0, 143, 54, 6, 42, 21, 6, 182, 0, 65, 42, 21, 6, 42, 180, 0, 62, 25, 4, 180, 1, 13, 96, 182, 1, 10, 177] := by decide +kernel
theorem dX8_say_193 : decode cX8_say 193 = .ok (.iload_n 1, 1) := dc0 dO_27 (rdB.ch sfx_cX8_say_192 1 rfl (by decide +kernel))
theorem dX8_say_194 : decode cX8_say 194 = .ok (.iload_n 2, 1) := dc0 dO_28 (rdB.ch sfx_cX8_say_192 2 rfl (by decide +kernel))
theorem dX8_say_195 : decode cX8_say 195 = .ok (.iload_n 3, 1) := dc0 dO_29 (rdB.ch sfx_cX8_say_192 3 rfl (by decide +kernel))
theorem dX8_say_196 : decode cX8_say 196 = .ok (.iconst 0, 1) := dc0 dO_3 (rdB.ch sfx_cX8_say_192 4 rfl (by decide +kernel))
theorem dX8_say_197 : decode cX8_say 197 = .ok (.invokestatic 143, 3) := dcU2 dO_184 (rdU2.ch sfx_cX8_say_192 5 rfl (by decide +kernel))
theorem dX8_say_200 : decode cX8_say 200 = .ok (.istore 6, 2) := dcU1 dO_54 (rdU1.ch sfx_cX8_say_192 8 rfl (by decide +kernel))
theorem dX8_say_202 : decode cX8_say 202 = .ok (.aload_n 0, 1) := dc0 dO_42 (rdB.ch sfx_cX8_say_192 10 rfl (by decide +kernel))
theorem dX8_say_203 : decode cX8_say 203 = .ok (.iload 6, 2) := dcU1 dO_21 (rdU1.ch sfx_cX8_say_192 11 rfl (by decide +kernel))
theorem dX8_say_205 : decode cX8_say 205 = .ok (.invokevirtual 65, 3) := dcU2 dO_182 (rdU2.ch sfx_cX8_say_192 13 rfl (by decide +kernel))
theorem dX8_say_208 : decode cX8_say 208 = .ok (.aload_n 0, 1) := dc0 dO_42 (rdB.ch sfx_cX8_say_192 16 rfl (by decide +kernel))
theorem dX8_say_209 : decode cX8_say 209 = .ok (.iload 6, 2) := dcU1 dO_21 (rdU1.ch sfx_cX8_say_192 17 rfl (by decide +kernel))
theorem dX8_say_211 : decode cX8_say 211 = .ok (.aload_n 0, 1) := dc0 dO_42 (rdB.ch sfx_cX8_say_192 19 rfl (by decide +kernel))
theorem dX8_say_212 : decode cX8_say 212 = .ok (.getfield 62, 3) := dcU2 dO_180 (rdU2.ch sfx_cX8_say_192 20 rfl (by decide +kernel))
theorem dX8_say_215 : decode cX8_say 215 = .ok (.aload 4, 2) := dcU1 dO_25 (rdU1.ch sfx_cX8_say_192 23 rfl (by decide +kernel))
theorem dX8_say_217 : decode cX8_say 217 = .ok (.getfield 269, 3) := dcU2 dO_180 (rdU2.ch sfx_cX8_say_192 25 rfl (by decide +kernel))
theorem dX8_say_220 : decode cX8_say 220 = .ok (.iadd, 1) := dc0 dO_96 (rdB.ch sfx_cX8_say_192 28 rfl (by decide +kernel))
theorem dX8_say_221 : decode cX8_say 221 = .ok (.invokevirtual 266, 3) := dcU2 dO_182 (rdU2.ch sfx_cX8_say_192 29 rfl (by decide +kernel))
theorem dX8_say_224 : decode cX8_say 224 = .ok (.return_, 1) := dc0 dO_177 (rdB.ch sfx_cX8_say_192 32 rfl (by decide +kernel))
theorem dX8_sayAll_0 : decode cX8_sayAll 0 = .ok (.iconst 0, 1) := dc0 dO_3 (by decide +kernel)
theorem dX8_sayAll_1 : decode cX8_sayAll 1 = .ok (.istore_n 3, 1) := dc0 dO_62 (by decide +kernel)
theorem dX8_sayAll_2 : decode cX8_sayAll 2 = .ok (.iload_n 3, 1) := dc0 dO_29 (by decide +kernel)
theorem dX8_sayAll_3 : decode cX8_sayAll 3 = .ok (.aload_n 0, 1) := dc0 dO_42 (by decide +kernel)
theorem dX8_sayAll_4 : decode cX8_sayAll 4 = .ok (.getfield 9, 3) := dcU2 dO_180 (by decide +kernel)
theorem dX8_sayAll_7 : decode cX8_sayAll 7 = .ok (.getfield 150, 3) := dcU2 dO_180 (by decide +kernel)
theorem dX8_sayAll_10 : decode cX8_sayAll 10 = .ok (.if_icmp .ge 16, 3) := dcS2 dO_162 (by decide +kernel)
theorem dX8_sayAll_13 : decode cX8_sayAll 13 = .ok (.aload_n 0, 1) := dc0 dO_42 (by decide +kernel)
theorem dX8_sayAll_14 : decode cX8_sayAll 14 = .ok (.iload_n 1, 1) := dc0 dO_27 (by decide +kernel)
theorem dX8_sayAll_15 : decode cX8_sayAll 15 = .ok (.iload_n 2, 1) := dc0 dO_28 (by decide +kernel)
theorem dX8_sayAll_16 : decode cX8_sayAll 16 = .ok (.iload_n 3, 1) := dc0 dO_29 (by decide +kernel)
theorem dX8_sayAll_17 : decode cX8_sayAll 17 = .ok (.invokevirtual 72, 3) := dcU2 dO_182 (by decide +kernel)
theorem dX8_sayAll_20 : decode cX8_sayAll 20 = .ok (.iinc 3 1, 3) := dcI dO_132 (by decide +kernel)
theorem dX8_sayAll_23 : decode cX8_sayAll 23 = .ok (.goto (-21), 3) := dcS2 dO_167 (by decide +kernel)
theorem dX8_sayAll_26 : decode cX8_sayAll 26 = .ok (.return_, 1) := dc0 dO_177 (by decide +kernel)
theorem dX8_silence_0 : decode cX8_silence 0 = .ok (.aload_n 0, 1) := dc0 dO_42 (by decide +kernel)
theorem dX8_silence_1 : decode cX8_silence 1 = .ok (.getfield 9, 3) := dcU2 dO_180 (by decide +kernel)
theorem dX8_silence_4 : decode cX8_silence 4 = .ok (.getfield 76, 3) := dcU2 dO_180 (by decide +kernel)
theorem dX8_silence_7 : decode cX8_silence 7 = .ok (.iload_n 1, 1) := dc0 dO_27 (by decide +kernel)
theorem dX8_silence_8 : decode cX8_silence 8 = .ok (.aaload, 1) := dc0 dO_50 (by decide +kernel)
theorem dX8_silence_9 : decode cX8_silence 9 = .ok (.astore_n 2, 1) := dc0 dO_77 (by decide +kernel)
theorem dX8_silence_10 : decode cX8_silence 10 = .ok (.aload_n 2, 1) := dc0 dO_44 (by decide +kernel)
theorem dX8_silence_11 : decode cX8_silence 11 = .ok (.iconst 0, 1) := dc0 dO_3 (by decide +kernel)
theorem dX8_silence_12 : decode cX8_silence 12 = .ok (.putfield 136, 3) := dcU2 dO_181 (by decide +kernel)
theorem dX8_silence_15 : decode cX8_silence 15 = .ok (.iconst 0, 1) := dc0 dO_3 (by decide +kernel)
theorem dX8_silence_16 : decode cX8_silence 16 = .ok (.istore_n 3, 1) := dc0 dO_62 (by decide +kernel)
theorem dX8_silence_17 : decode cX8_silence 17 = .ok (.iload_n 3, 1) := dc0 dO_29 (by decide +kernel)
theorem dX8_silence_18 : decode cX8_silence 18 = .ok (.bipush 20, 2) := dcS1 dO_16 (by decide +kernel)
theorem dX8_silence_20 : decode cX8_silence 20 = .ok (.if_icmp .ge 27, 3) := dcS2 dO_162 (by decide +kernel)
theorem dX8_silence_23 : decode cX8_silence 23 = .ok (.aload_n 2, 1) := dc0 dO_44 (by decide +kernel)
theorem dX8_silence_24 : decode cX8_silence 24 = .ok (.getfield 96, 3) := dcU2 dO_180 (by decide +kernel)
theorem dX8_silence_27 : decode cX8_silence 27 = .ok (.iload_n 3, 1) := dc0 dO_29 (by decide +kernel)
theorem dX8_silence_28 : decode cX8_silence 28 = .ok (.aaload, 1) := dc0 dO_50 (by decide +kernel)
theorem dX8_silence_29 : decode cX8_silence 29 = .ok (.invokevirtual 140, 3) := dcU2 dO_182 (by decide +kernel)
theorem dX8_silence_32 : decode cX8_silence 32 = .ok (.aload_n 2, 1) := dc0 dO_44 (by decide +kernel)
theorem dX8_silence_33 : decode cX8_silence 33 = .ok (.getfield 103, 3) := dcU2 dO_180 (by decide +kernel)
theorem dX8_silence_36 : decode cX8_silence 36 = .ok (.iload_n 3, 1) := dc0 dO_29 (by decide +kernel)
theorem dX8_silence_37 : decode cX8_silence 37 = .ok (.aaload, 1) := dc0 dO_50 (by decide +kernel)
theorem dX8_silence_38 : decode cX8_silence 38 = .ok (.invokevirtual 140, 3) := dcU2 dO_182 (by decide +kernel)
theorem dX8_silence_41 : decode cX8_silence 41 = .ok (.iinc 3 1, 3) := dcI dO_132 (by decide +kernel)
theorem dX8_silence_44 : decode cX8_silence 44 = .ok (.goto (-27), 3) := dcS2 dO_167 (by decide +kernel)
theorem dX8_silence_47 : decode cX8_silence 47 = .ok (.iload_n 1, 1) := dc0 dO_27 (by decide +kernel)
theorem dX8_silence_48 : decode cX8_silence 48 = .ok (.iconst 0, 1) := dc0 dO_3 (by decide +kernel)
theorem dX8_silence_49 : decode cX8_silence 49 = .ok (.iconst 0, 1) := dc0 dO_3 (by decide +kernel)
theorem dX8_silence_50 : decode cX8_silence 50 = .ok (.iconst 0, 1) := dc0 dO_3 (by decide +kernel)
theorem dX8_silence_51 : decode cX8_silence 51 = .ok (.invokestatic 143, 3) := dcU2 dO_184 (by decide +kernel)
theorem dX8_silence_54 : decode cX8_silence 54 = .ok (.istore_n 3, 1) := dc0 dO_62 (by decide +kernel)
theorem dX8_silence_55 : decode cX8_silence 55 = .ok (.iload_n 1, 1) := dc0 dO_27 (by decide +kernel)
theorem dX8_silence_56 : decode cX8_silence 56 = .ok (.iconst 1, 1) := dc0 dO_4 (by decide +kernel)
theorem dX8_silence_57 : decode cX8_silence 57 = .ok (.iadd, 1) := dc0 dO_96 (by decide +kernel)
theorem dX8_silence_58 : decode cX8_silence 58 = .ok (.iconst 0, 1) := dc0 dO_3 (by decide +kernel)
theorem dX8_silence_59 : decode cX8_silence 59 = .ok (.iconst 0, 1) := dc0 dO_3 (by decide +kernel)
theorem dX8_silence_60 : decode cX8_silence 60 = .ok (.iconst 0, 1) := dc0 dO_3 (by decide +kernel)
theorem dX8_silence_61 : decode cX8_silence 61 = .ok (.invokestatic 143, 3) := dcU2 dO_184 (by decide +kernel)
theorem dX8_silence_64 : decode cX8_silence 64 = .ok (.istore 4, 2) := dcU1 dO_54 (by decide +kernel)
theorem dX8_silence_66 : decode cX8_silence 66 = .ok (.iload_n 3, 1) := dc0 dO_29 (by decide +kernel)
theorem dX8_silence_67 : decode cX8_silence 67 = .ok (.istore 5, 2) := dcU1 dO_54 (by decide +kernel)
theorem dX8_silence_69 : decode cX8_silence 69 = .ok (.iload 5, 2) := dcU1 dO_21 (by decide +kernel)
theorem dX8_silence_71 : decode cX8_silence 71 = .ok (.iload 4, 2) := dcU1 dO_21 (by decide +kernel)
theorem dX8_silence_73 : decode cX8_silence 73 = .ok (.if_icmp .ge 15, 3) := dcS2 dO_162 (by decide +kernel)
theorem dX8_silence_76 : decode cX8_silence 76 = .ok (.aload_n 0, 1) := dc0 dO_42 (by decide +kernel)
theorem dX8_silence_77 : decode cX8_silence 77 = .ok (.iload 5, 2) := dcU1 dO_21 (by decide +kernel)
theorem dX8_silence_79 : decode cX8_silence 79 = .ok (.invokevirtual 65, 3) := dcU2 dO_182 (by decide +kernel)
theorem dX8_silence_82 : decode cX8_silence 82 = .ok (.iinc 5 1, 3) := dcI dO_132 (by decide +kernel)
theorem dX8_silence_85 : decode cX8_silence 85 = .ok (.goto (-16), 3) := dcS2 dO_167 (by decide +kernel)
theorem dX8_silence_88 : decode cX8_silence 88 = .ok (.return_, 1) := dc0 dO_177 (by decide +kernel)
theorem dX8_takeIn_0 : decode cX8_takeIn 0 = .ok (.aload_n 0, 1) := dc0 dO_42 (by decide +kernel)
theorem dX8_takeIn_1 : decode cX8_takeIn 1 = .ok (.getfield 9, 3) := dcU2 dO_180 (by decide +kernel)
theorem dX8_takeIn_4 : decode cX8_takeIn 4 = .ok (.getfield 76, 3) := dcU2 dO_180 (by decide +kernel)
theorem dX8_takeIn_7 : decode cX8_takeIn 7 = .ok (.iload_n 2, 1) := dc0 dO_28 (by decide +kernel)
theorem dX8_takeIn_8 : decode cX8_takeIn 8 = .ok (.aaload, 1) := dc0 dO_50 (by decide +kernel)
theorem dX8_takeIn_9 : decode cX8_takeIn 9 = .ok (.astore 4, 2) := dcU1 dO_58 (by decide +kernel)
theorem dX8_takeIn_11 : decode cX8_takeIn 11 = .ok (.aload_n 1, 1) := dc0 dO_43 (by decide +kernel)
theorem dX8_takeIn_12 : decode cX8_takeIn 12 = .ok (.getfield 113, 3) := dcU2 dO_180 (by decide +kernel)
theorem dX8_takeIn_15 : decode cX8_takeIn 15 = .ok (.aload_n 1, 1) := dc0 dO_43 (by decide +kernel)
theorem dX8_takeIn_16 : decode cX8_takeIn 16 = .ok (.getfield 118, 3) := dcU2 dO_180 (by decide +kernel)
theorem dX8_takeIn_19 : decode cX8_takeIn 19 = .ok (.iadd, 1) := dc0 dO_96 (by decide +kernel)
theorem dX8_takeIn_20 : decode cX8_takeIn 20 = .ok (.istore 5, 2) := dcU1 dO_54 (by decide +kernel)
theorem dX8_takeIn_22 : decode cX8_takeIn 22 = .ok (.iconst 0, 1) := dc0 dO_3 (by decide +kernel)
theorem dX8_takeIn_23 : decode cX8_takeIn 23 = .ok (.istore 6, 2) := dcU1 dO_54 (by decide +kernel)
theorem dX8_takeIn_25 : decode cX8_takeIn 25 = .ok (.iconst 0, 1) := dc0 dO_3 (by decide +kernel)
theorem dX8_takeIn_26 : decode cX8_takeIn 26 = .ok (.istore 7, 2) := dcU1 dO_54 (by decide +kernel)
theorem dX8_takeIn_28 : decode cX8_takeIn 28 = .ok (.iload 7, 2) := dcU1 dO_21 (by decide +kernel)
theorem dX8_takeIn_30 : decode cX8_takeIn 30 = .ok (.iload 5, 2) := dcU1 dO_21 (by decide +kernel)
theorem dX8_takeIn_32 : decode cX8_takeIn 32 = .ok (.if_icmp .ge 110, 3) := dcS2 dO_162 (by decide +kernel)
theorem dX8_takeIn_35 : decode cX8_takeIn 35 = .ok (.aload_n 0, 1) := dc0 dO_42 (by decide +kernel)
theorem dX8_takeIn_36 : decode cX8_takeIn 36 = .ok (.getfield 9, 3) := dcU2 dO_180 (by decide +kernel)
theorem dX8_takeIn_39 : decode cX8_takeIn 39 = .ok (.aload_n 1, 1) := dc0 dO_43 (by decide +kernel)
theorem dX8_takeIn_40 : decode cX8_takeIn 40 = .ok (.getfield 121, 3) := dcU2 dO_180 (by decide +kernel)
theorem dX8_takeIn_43 : decode cX8_takeIn 43 = .ok (.iload 7, 2) := dcU1 dO_21 (by decide +kernel)
theorem dX8_takeIn_45 : decode cX8_takeIn 45 = .ok (.iaload, 1) := dc0 dO_46 (by decide +kernel)
theorem dX8_takeIn_46 : decode cX8_takeIn 46 = .ok (.aload_n 1, 1) := dc0 dO_43 (by decide +kernel)
theorem dX8_takeIn_47 : decode cX8_takeIn 47 = .ok (.getfield 124, 3) := dcU2 dO_180 (by decide +kernel)
theorem dX8_takeIn_50 : decode cX8_takeIn 50 = .ok (.iload 7, 2) := dcU1 dO_21 (by decide +kernel)
theorem dX8_takeIn_52 : decode cX8_takeIn 52 = .ok (.iaload, 1) := dc0 dO_46 (by decide +kernel)
theorem dX8_takeIn_53 : decode cX8_takeIn 53 = .ok (.invokevirtual 127, 3) := dcU2 dO_182 (by decide +kernel)
theorem dX8_takeIn_56 : decode cX8_takeIn 56 = .ok (.istore 8, 2) := dcU1 dO_54 (by decide +kernel)
theorem dX8_takeIn_58 : decode cX8_takeIn 58 = .ok (.iload 8, 2) := dcU1 dO_21 (by decide +kernel)
theorem dX8_takeIn_60 : decode cX8_takeIn 60 = .ok (.ifCond .ge 6, 3) := dcS2 dO_156 (by decide +kernel)
theorem dX8_takeIn_63 : decode cX8_takeIn 63 = .ok (.goto 73, 3) := dcS2 dO_167 (by decide +kernel)
theorem dX8_takeIn_66 : decode cX8_takeIn 66 = .ok (.aload 4, 2) := dcU1 dO_25 (by decide +kernel)
theorem dX8_takeIn_68 : decode cX8_takeIn 68 = .ok (.getfield 96, 3) := dcU2 dO_180 (by decide +kernel)
theorem dX8_takeIn_71 : decode cX8_takeIn 71 = .ok (.iload_n 3, 1) := dc0 dO_29 (by decide +kernel)
theorem dX8_takeIn_72 : decode cX8_takeIn 72 = .ok (.iload 8, 2) := dcU1 dO_21 (by decide +kernel)
theorem dX8_takeIn_74 : decode cX8_takeIn 74 = .ok (.invokestatic 99, 3) := dcU2 dO_184 (by decide +kernel)
theorem dX8_takeIn_77 : decode cX8_takeIn 77 = .ok (.aaload, 1) := dc0 dO_50 (by decide +kernel)
theorem dX8_takeIn_78 : decode cX8_takeIn 78 = .ok (.astore 9, 2) := dcU1 dO_58 (by decide +kernel)
theorem dX8_takeIn_80 : decode cX8_takeIn 80 = .ok (.aload 9, 2) := dcU1 dO_25 (by decide +kernel)
theorem dX8_takeIn_82 : decode cX8_takeIn 82 = .ok (.iload 7, 2) := dcU1 dO_21 (by decide +kernel)
theorem dX8_takeIn_84 : decode cX8_takeIn 84 = .ok (.aload_n 1, 1) := dc0 dO_43 (by decide +kernel)
theorem dX8_takeIn_85 : decode cX8_takeIn 85 = .ok (.getfield 113, 3) := dcU2 dO_180 (by decide +kernel)
theorem dX8_takeIn_88 : decode cX8_takeIn 88 = .ok (.if_icmp .ge 10, 3) := dcS2 dO_162 (by decide +kernel)
theorem dX8_takeIn_91 : decode cX8_takeIn 91 = .ok (.aload_n 0, 1) := dc0 dO_42 (by decide +kernel)
theorem dX8_takeIn_92 : decode cX8_takeIn 92 = .ok (.getfield 46, 3) := dcU2 dO_180 (by decide +kernel)
theorem dX8_takeIn_95 : decode cX8_takeIn 95 = .ok (.goto 7, 3) := dcS2 dO_167 (by decide +kernel)
theorem dX8_takeIn_98 : decode cX8_takeIn 98 = .ok (.aload_n 1, 1) := dc0 dO_43 (by decide +kernel)
theorem dX8_takeIn_99 : decode cX8_takeIn 99 = .ok (.getfield 130, 3) := dcU2 dO_180 (by decide +kernel)
theorem dX8_takeIn_102 : decode cX8_takeIn 102 = .ok (.invokevirtual 106, 3) := dcU2 dO_182 (by decide +kernel)
theorem dX8_takeIn_105 : decode cX8_takeIn 105 = .ok (.aload 9, 2) := dcU1 dO_25 (by decide +kernel)
theorem dX8_takeIn_107 : decode cX8_takeIn 107 = .ok (.iload 8, 2) := dcU1 dO_21 (by decide +kernel)
theorem dX8_takeIn_109 : decode cX8_takeIn 109 = .ok (.putfield 133, 3) := dcU2 dO_181 (by decide +kernel)
theorem dX8_takeIn_112 : decode cX8_takeIn 112 = .ok (.aload 9, 2) := dcU1 dO_25 (by decide +kernel)
theorem dX8_takeIn_114 : decode cX8_takeIn 114 = .ok (.aload_n 0, 1) := dc0 dO_42 (by decide +kernel)
theorem dX8_takeIn_115 : decode cX8_takeIn 115 = .ok (.getfield 62, 3) := dcU2 dO_180 (by decide +kernel)
theorem dX8_takeIn_118 : decode cX8_takeIn 118 = .ok (.putfield 110, 3) := dcU2 dO_181 (by decide +kernel)
theorem dX8_takeIn_121 : decode cX8_takeIn 121 = .ok (.aload_n 0, 1) := dc0 dO_42 (by decide +kernel)
theorem dX8_takeIn_122 : decode cX8_takeIn 122 = .ok (.aload 4, 2) := dcU1 dO_25 (by decide +kernel)
theorem dX8_takeIn_124 : decode cX8_takeIn 124 = .ok (.iload_n 3, 1) := dc0 dO_29 (by decide +kernel)
theorem dX8_takeIn_125 : decode cX8_takeIn 125 = .ok (.invokevirtual 86, 3) := dcU2 dO_182 (by decide +kernel)
theorem sfx_cX8_takeIn_128 : (cX8_takeIn.data.toList.drop 128).take 67 = [21, 8, 182, 0, 92, 132, 6, 1, 132, 7, 1, 167, 255, 145, 21, 6, 172] := by decide +kernel
theorem dX8_takeIn_128 : decode cX8_takeIn 128 = .ok (.iload 8, 2) := dcU1 dO_21 (rdU1.ch sfx_cX8_takeIn_128 0 rfl (by decide +kernel))
theorem dX8_takeIn_130 : decode cX8_takeIn 130 = .ok (.invokevirtual 92, 3) := dcU2 dO_182 (rdU2.ch sfx_cX8_takeIn_128 2 rfl (by decide +kernel))
theorem dX8_takeIn_133 : decode cX8_takeIn 133 = .ok (.iinc 6 1, 3) := dcI dO_132 (rdI.ch sfx_cX8_takeIn_128 5 rfl (by decide +kernel))
theorem dX8_takeIn_136 : decode cX8_takeIn 136 = .ok (.iinc 7 1, 3) := dcI dO_132 (rdI.ch sfx_cX8_takeIn_128 8 rfl (by decide +kernel))
theorem dX8_takeIn_139 : decode cX8_takeIn 139 = .ok (.goto (-111), 3) := dcS2 dO_167 (rdS2.ch sfx_cX8_takeIn_128 11 rfl (by decide +kernel))
theorem dX8_takeIn_142 : decode cX8_takeIn 142 = .ok (.iload 6, 2) := dcU1 dO_21 (rdU1.ch sfx_cX8_takeIn_128 14 rfl (by decide +kernel))
theorem dX8_takeIn_144 : decode cX8_takeIn 144 = .ok (.ireturn, 1) := dc0 dO_172 (rdB.ch sfx_cX8_takeIn_128 16 rfl (by decide +kernel))
theorem dX8_tellAllAnew_0 : decode cX8_tellAllAnew 0 = .ok (.iconst 0, 1) := dc0 dO_3 (by decide +kernel)
theorem dX8_tellAllAnew_1 : decode cX8_tellAllAnew 1 = .ok (.istore_n 1, 1) := dc0 dO_60 (by decide +kernel)
theorem dX8_tellAllAnew_2 : decode cX8_tellAllAnew 2 = .ok (.iload_n 1, 1) := dc0 dO_27 (by decide +kernel)
theorem dX8_tellAllAnew_3 : decode cX8_tellAllAnew 3 = .ok (.aload_n 0, 1) := dc0 dO_42 (by decide +kernel)
theorem dX8_tellAllAnew_4 : decode cX8_tellAllAnew 4 = .ok (.getfield 9, 3) := dcU2 dO_180 (by decide +kernel)
theorem dX8_tellAllAnew_7 : decode cX8_tellAllAnew 7 = .ok (.getfield 147, 3) := dcU2 dO_180 (by decide +kernel)
theorem dX8_tellAllAnew_10 : decode cX8_tellAllAnew 10 = .ok (.if_icmp .ge 34, 3) := dcS2 dO_162 (by decide +kernel)
theorem dX8_tellAllAnew_13 : decode cX8_tellAllAnew 13 = .ok (.iconst 0, 1) := dc0 dO_3 (by decide +kernel)
theorem dX8_tellAllAnew_14 : decode cX8_tellAllAnew 14 = .ok (.istore_n 2, 1) := dc0 dO_61 (by decide +kernel)
theorem dX8_tellAllAnew_15 : decode cX8_tellAllAnew 15 = .ok (.iload_n 2, 1) := dc0 dO_28 (by decide +kernel)
theorem dX8_tellAllAnew_16 : decode cX8_tellAllAnew 16 = .ok (.aload_n 0, 1) := dc0 dO_42 (by decide +kernel)
theorem dX8_tellAllAnew_17 : decode cX8_tellAllAnew 17 = .ok (.getfield 9, 3) := dcU2 dO_180 (by decide +kernel)
theorem dX8_tellAllAnew_20 : decode cX8_tellAllAnew 20 = .ok (.getfield 150, 3) := dcU2 dO_180 (by decide +kernel)
theorem dX8_tellAllAnew_23 : decode cX8_tellAllAnew 23 = .ok (.if_icmp .ge 15, 3) := dcS2 dO_162 (by decide +kernel)
theorem dX8_tellAllAnew_26 : decode cX8_tellAllAnew 26 = .ok (.aload_n 0, 1) := dc0 dO_42 (by decide +kernel)
theorem dX8_tellAllAnew_27 : decode cX8_tellAllAnew 27 = .ok (.iload_n 1, 1) := dc0 dO_27 (by decide +kernel)
theorem dX8_tellAllAnew_28 : decode cX8_tellAllAnew 28 = .ok (.iload_n 2, 1) := dc0 dO_28 (by decide +kernel)
theorem dX8_tellAllAnew_29 : decode cX8_tellAllAnew 29 = .ok (.invokevirtual 92, 3) := dcU2 dO_182 (by decide +kernel)
theorem dX8_tellAllAnew_32 : decode cX8_tellAllAnew 32 = .ok (.iinc 2 1, 3) := dcI dO_132 (by decide +kernel)
theorem dX8_tellAllAnew_35 : decode cX8_tellAllAnew 35 = .ok (.goto (-20), 3) := dcS2 dO_167 (by decide +kernel)
theorem dX8_tellAllAnew_38 : decode cX8_tellAllAnew 38 = .ok (.iinc 1 1, 3) := dcI dO_132 (by decide +kernel)
theorem dX8_tellAllAnew_41 : decode cX8_tellAllAnew 41 = .ok (.goto (-39), 3) := dcS2 dO_167 (by decide +kernel)
theorem dX8_tellAllAnew_44 : decode cX8_tellAllAnew 44 = .ok (.iconst 0, 1) := dc0 dO_3 (by decide +kernel)
theorem dX8_tellAllAnew_45 : decode cX8_tellAllAnew 45 = .ok (.istore_n 1, 1) := dc0 dO_60 (by decide +kernel)
theorem dX8_tellAllAnew_46 : decode cX8_tellAllAnew 46 = .ok (.iload_n 1, 1) := dc0 dO_27 (by decide +kernel)
theorem dX8_tellAllAnew_47 : decode cX8_tellAllAnew 47 = .ok (.aload_n 0, 1) := dc0 dO_42 (by decide +kernel)
theorem dX8_tellAllAnew_48 : decode cX8_tellAllAnew 48 = .ok (.getfield 9, 3) := dcU2 dO_180 (by decide +kernel)
theorem dX8_tellAllAnew_51 : decode cX8_tellAllAnew 51 = .ok (.getfield 147, 3) := dcU2 dO_180 (by decide +kernel)
theorem dX8_tellAllAnew_54 : decode cX8_tellAllAnew 54 = .ok (.if_icmp .ge 52, 3) := dcS2 dO_162 (by decide +kernel)
theorem dX8_tellAllAnew_57 : decode cX8_tellAllAnew 57 = .ok (.iconst 0, 1) := dc0 dO_3 (by decide +kernel)
theorem dX8_tellAllAnew_58 : decode cX8_tellAllAnew 58 = .ok (.istore_n 2, 1) := dc0 dO_61 (by decide +kernel)
theorem dX8_tellAllAnew_59 : decode cX8_tellAllAnew 59 = .ok (.iload_n 2, 1) := dc0 dO_28 (by decide +kernel)
theorem dX8_tellAllAnew_60 : decode cX8_tellAllAnew 60 = .ok (.aload_n 0, 1) := dc0 dO_42 (by decide +kernel)
theorem dX8_tellAllAnew_61 : decode cX8_tellAllAnew 61 = .ok (.getfield 9, 3) := dcU2 dO_180 (by decide +kernel)
theorem dX8_tellAllAnew_64 : decode cX8_tellAllAnew 64 = .ok (.getfield 153, 3) := dcU2 dO_180 (by decide +kernel)
theorem dX8_tellAllAnew_67 : decode cX8_tellAllAnew 67 = .ok (.if_icmp .ge 33, 3) := dcS2 dO_162 (by decide +kernel)
theorem dX8_tellAllAnew_70 : decode cX8_tellAllAnew 70 = .ok (.aload_n 0, 1) := dc0 dO_42 (by decide +kernel)
theorem dX8_tellAllAnew_71 : decode cX8_tellAllAnew 71 = .ok (.getfield 9, 3) := dcU2 dO_180 (by decide +kernel)
theorem dX8_tellAllAnew_74 : decode cX8_tellAllAnew 74 = .ok (.getfield 76, 3) := dcU2 dO_180 (by decide +kernel)
theorem dX8_tellAllAnew_77 : decode cX8_tellAllAnew 77 = .ok (.iload_n 2, 1) := dc0 dO_28 (by decide +kernel)
theorem dX8_tellAllAnew_78 : decode cX8_tellAllAnew 78 = .ok (.aaload, 1) := dc0 dO_50 (by decide +kernel)
theorem dX8_tellAllAnew_79 : decode cX8_tellAllAnew 79 = .ok (.iload_n 1, 1) := dc0 dO_27 (by decide +kernel)
theorem dX8_tellAllAnew_80 : decode cX8_tellAllAnew 80 = .ok (.invokevirtual 156, 3) := dcU2 dO_182 (by decide +kernel)
theorem dX8_tellAllAnew_83 : decode cX8_tellAllAnew 83 = .ok (.istore_n 3, 1) := dc0 dO_62 (by decide +kernel)
theorem dX8_tellAllAnew_84 : decode cX8_tellAllAnew 84 = .ok (.iload_n 3, 1) := dc0 dO_29 (by decide +kernel)
theorem dX8_tellAllAnew_85 : decode cX8_tellAllAnew 85 = .ok (.ifCond .lt 9, 3) := dcS2 dO_155 (by decide +kernel)
theorem dX8_tellAllAnew_88 : decode cX8_tellAllAnew 88 = .ok (.aload_n 0, 1) := dc0 dO_42 (by decide +kernel)
theorem dX8_tellAllAnew_89 : decode cX8_tellAllAnew 89 = .ok (.iload_n 2, 1) := dc0 dO_28 (by decide +kernel)
theorem dX8_tellAllAnew_90 : decode cX8_tellAllAnew 90 = .ok (.iload_n 3, 1) := dc0 dO_29 (by decide +kernel)
theorem dX8_tellAllAnew_91 : decode cX8_tellAllAnew 91 = .ok (.invokevirtual 159, 3) := dcU2 dO_182 (by decide +kernel)
theorem dX8_tellAllAnew_94 : decode cX8_tellAllAnew 94 = .ok (.iinc 2 1, 3) := dcI dO_132 (by decide +kernel)
theorem dX8_tellAllAnew_97 : decode cX8_tellAllAnew 97 = .ok (.goto (-38), 3) := dcS2 dO_167 (by decide +kernel)
theorem dX8_tellAllAnew_100 : decode cX8_tellAllAnew 100 = .ok (.iinc 1 1, 3) := dcI dO_132 (by decide +kernel)
theorem dX8_tellAllAnew_103 : decode cX8_tellAllAnew 103 = .ok (.goto (-57), 3) := dcS2 dO_167 (by decide +kernel)
theorem dX8_tellAllAnew_106 : decode cX8_tellAllAnew 106 = .ok (.return_, 1) := dc0 dO_177 (by decide +kernel)
theorem dX8_threeInRing_0 : decode cX8_threeInRing 0 = .ok (.aload_n 0, 1) := dc0 dO_42 (by decide +kernel)
theorem dX8_threeInRing_1 : decode cX8_threeInRing 1 = .ok (.getfield 9, 3) := dcU2 dO_180 (by decide +kernel)
theorem dX8_threeInRing_4 : decode cX8_threeInRing 4 = .ok (.getfield 162, 3) := dcU2 dO_180 (by decide +kernel)
theorem dX8_threeInRing_7 : decode cX8_threeInRing 7 = .ok (.iload_n 1, 1) := dc0 dO_27 (by decide +kernel)
theorem dX8_threeInRing_8 : decode cX8_threeInRing 8 = .ok (.aaload, 1) := dc0 dO_50 (by decide +kernel)
theorem dX8_threeInRing_9 : decode cX8_threeInRing 9 = .ok (.astore 4, 2) := dcU1 dO_58 (by decide +kernel)
theorem dX8_threeInRing_11 : decode cX8_threeInRing 11 = .ok (.aload 4, 2) := dcU1 dO_25 (by decide +kernel)
theorem dX8_threeInRing_13 : decode cX8_threeInRing 13 = .ok (.getfield 167, 3) := dcU2 dO_180 (by decide +kernel)
theorem dX8_threeInRing_16 : decode cX8_threeInRing 16 = .ok (.iload_n 2, 1) := dc0 dO_28 (by decide +kernel)
theorem dX8_threeInRing_17 : decode cX8_threeInRing 17 = .ok (.iaload, 1) := dc0 dO_46 (by decide +kernel)
theorem dX8_threeInRing_18 : decode cX8_threeInRing 18 = .ok (.iconst (-1), 1) := dc0 dO_2 (by decide +kernel)
theorem dX8_threeInRing_19 : decode cX8_threeInRing 19 = .ok (.if_icmp .eq 6, 3) := dcS2 dO_159 (by decide +kernel)
theorem dX8_threeInRing_22 : decode cX8_threeInRing 22 = .ok (.ldc 166, 2) := dcU1 dO_18 (by decide +kernel)
theorem dX8_threeInRing_24 : decode cX8_threeInRing 24 = .ok (.ireturn, 1) := dc0 dO_172 (by decide +kernel)
theorem dX8_threeInRing_25 : decode cX8_threeInRing 25 = .ok (.aload_n 0, 1) := dc0 dO_42 (by decide +kernel)
theorem dX8_threeInRing_26 : decode cX8_threeInRing 26 = .ok (.iload_n 1, 1) := dc0 dO_27 (by decide +kernel)
theorem dX8_threeInRing_27 : decode cX8_threeInRing 27 = .ok (.iload_n 2, 1) := dc0 dO_28 (by decide +kernel)
theorem dX8_threeInRing_28 : decode cX8_threeInRing 28 = .ok (.invokevirtual 175, 3) := dcU2 dO_182 (by decide +kernel)
theorem dX8_threeInRing_31 : decode cX8_threeInRing 31 = .ok (.iconst 0, 1) := dc0 dO_3 (by decide +kernel)
theorem dX8_threeInRing_32 : decode cX8_threeInRing 32 = .ok (.istore 5, 2) := dcU1 dO_54 (by decide +kernel)
theorem dX8_threeInRing_34 : decode cX8_threeInRing 34 = .ok (.iload 5, 2) := dcU1 dO_21 (by decide +kernel)
theorem dX8_threeInRing_36 : decode cX8_threeInRing 36 = .ok (.aload_n 0, 1) := dc0 dO_42 (by decide +kernel)
theorem dX8_threeInRing_37 : decode cX8_threeInRing 37 = .ok (.getfield 200, 3) := dcU2 dO_180 (by decide +kernel)
theorem dX8_threeInRing_40 : decode cX8_threeInRing 40 = .ok (.if_icmp .ge 148, 3) := dcS2 dO_162 (by decide +kernel)
theorem dX8_threeInRing_43 : decode cX8_threeInRing 43 = .ok (.iconst 0, 1) := dc0 dO_3 (by decide +kernel)
theorem dX8_threeInRing_44 : decode cX8_threeInRing 44 = .ok (.istore 6, 2) := dcU1 dO_54 (by decide +kernel)
theorem dX8_threeInRing_46 : decode cX8_threeInRing 46 = .ok (.iload 6, 2) := dcU1 dO_21 (by decide +kernel)
theorem dX8_threeInRing_48 : decode cX8_threeInRing 48 = .ok (.aload_n 0, 1) := dc0 dO_42 (by decide +kernel)
theorem dX8_threeInRing_49 : decode cX8_threeInRing 49 = .ok (.getfield 200, 3) := dcU2 dO_180 (by decide +kernel)
theorem dX8_threeInRing_52 : decode cX8_threeInRing 52 = .ok (.if_icmp .ge 130, 3) := dcS2 dO_162 (by decide +kernel)
theorem dX8_threeInRing_55 : decode cX8_threeInRing 55 = .ok (.aload 4, 2) := dcU1 dO_25 (by decide +kernel)
theorem dX8_threeInRing_57 : decode cX8_threeInRing 57 = .ok (.aload_n 0, 1) := dc0 dO_42 (by decide +kernel)
theorem dX8_threeInRing_58 : decode cX8_threeInRing 58 = .ok (.getfield 34, 3) := dcU2 dO_180 (by decide +kernel)
theorem dX8_threeInRing_61 : decode cX8_threeInRing 61 = .ok (.iload 5, 2) := dcU1 dO_21 (by decide +kernel)
theorem dX8_threeInRing_63 : decode cX8_threeInRing 63 = .ok (.aaload, 1) := dc0 dO_50 (by decide +kernel)
theorem dX8_threeInRing_64 : decode cX8_threeInRing 64 = .ok (.aload_n 0, 1) := dc0 dO_42 (by decide +kernel)
theorem dX8_threeInRing_65 : decode cX8_threeInRing 65 = .ok (.getfield 34, 3) := dcU2 dO_180 (by decide +kernel)
theorem dX8_threeInRing_68 : decode cX8_threeInRing 68 = .ok (.iload 6, 2) := dcU1 dO_21 (by decide +kernel)
theorem dX8_threeInRing_70 : decode cX8_threeInRing 70 = .ok (.aaload, 1) := dc0 dO_50 (by decide +kernel)
theorem dX8_threeInRing_71 : decode cX8_threeInRing 71 = .ok (.invokevirtual 235, 3) := dcU2 dO_182 (by decide +kernel)
theorem dX8_threeInRing_74 : decode cX8_threeInRing 74 = .ok (.ifCond .ne 6, 3) := dcS2 dO_154 (by decide +kernel)
theorem dX8_threeInRing_77 : decode cX8_threeInRing 77 = .ok (.goto 99, 3) := dcS2 dO_167 (by decide +kernel)
theorem dX8_threeInRing_80 : decode cX8_threeInRing 80 = .ok (.iconst 0, 1) := dc0 dO_3 (by decide +kernel)
theorem dX8_threeInRing_81 : decode cX8_threeInRing 81 = .ok (.istore 7, 2) := dcU1 dO_54 (by decide +kernel)
theorem dX8_threeInRing_83 : decode cX8_threeInRing 83 = .ok (.iload 7, 2) := dcU1 dO_21 (by decide +kernel)
theorem dX8_threeInRing_85 : decode cX8_threeInRing 85 = .ok (.aload_n 0, 1) := dc0 dO_42 (by decide +kernel)
theorem dX8_threeInRing_86 : decode cX8_threeInRing 86 = .ok (.getfield 200, 3) := dcU2 dO_180 (by decide +kernel)
theorem dX8_threeInRing_89 : decode cX8_threeInRing 89 = .ok (.if_icmp .ge 87, 3) := dcS2 dO_162 (by decide +kernel)
theorem dX8_threeInRing_92 : decode cX8_threeInRing 92 = .ok (.aload 4, 2) := dcU1 dO_25 (by decide +kernel)
theorem dX8_threeInRing_94 : decode cX8_threeInRing 94 = .ok (.aload_n 0, 1) := dc0 dO_42 (by decide +kernel)
theorem dX8_threeInRing_95 : decode cX8_threeInRing 95 = .ok (.getfield 34, 3) := dcU2 dO_180 (by decide +kernel)
theorem dX8_threeInRing_98 : decode cX8_threeInRing 98 = .ok (.iload 6, 2) := dcU1 dO_21 (by decide +kernel)
theorem dX8_threeInRing_100 : decode cX8_threeInRing 100 = .ok (.aaload, 1) := dc0 dO_50 (by decide +kernel)
theorem dX8_threeInRing_101 : decode cX8_threeInRing 101 = .ok (.aload_n 0, 1) := dc0 dO_42 (by decide +kernel)
theorem dX8_threeInRing_102 : decode cX8_threeInRing 102 = .ok (.getfield 34, 3) := dcU2 dO_180 (by decide +kernel)
theorem dX8_threeInRing_105 : decode cX8_threeInRing 105 = .ok (.iload 7, 2) := dcU1 dO_21 (by decide +kernel)
theorem dX8_threeInRing_107 : decode cX8_threeInRing 107 = .ok (.aaload, 1) := dc0 dO_50 (by decide +kernel)
theorem dX8_threeInRing_108 : decode cX8_threeInRing 108 = .ok (.invokevirtual 235, 3) := dcU2 dO_182 (by decide +kernel)
theorem dX8_threeInRing_111 : decode cX8_threeInRing 111 = .ok (.ifCond .eq 59, 3) := dcS2 dO_153 (by decide +kernel)
theorem dX8_threeInRing_114 : decode cX8_threeInRing 114 = .ok (.aload 4, 2) := dcU1 dO_25 (by decide +kernel)
theorem dX8_threeInRing_116 : decode cX8_threeInRing 116 = .ok (.aload_n 0, 1) := dc0 dO_42 (by decide +kernel)
theorem dX8_threeInRing_117 : decode cX8_threeInRing 117 = .ok (.getfield 34, 3) := dcU2 dO_180 (by decide +kernel)
theorem dX8_threeInRing_120 : decode cX8_threeInRing 120 = .ok (.iload 7, 2) := dcU1 dO_21 (by decide +kernel)
theorem dX8_threeInRing_122 : decode cX8_threeInRing 122 = .ok (.aaload, 1) := dc0 dO_50 (by decide +kernel)
theorem dX8_threeInRing_123 : decode cX8_threeInRing 123 = .ok (.aload_n 0, 1) := dc0 dO_42 (by decide +kernel)
theorem dX8_threeInRing_124 : decode cX8_threeInRing 124 = .ok (.getfield 34, 3) := dcU2 dO_180 (by decide +kernel)
theorem dX8_threeInRing_127 : decode cX8_threeInRing 127 = .ok (.iload 5, 2) := dcU1 dO_21 (by decide +kernel)
theorem sfx_cX8_threeInRing_128 : (cX8_threeInRing.data.toList.drop 128).take 67 = [5, 50, 182, 0, 235, 153, 0, 37, 29, 154, 0, 8, 21, 5, 167, 0, 15, 29, 4, 160, 0, 8, 21, 6, 167, 0, 5, 21, 7, 54, 8, 42, 180, 0, 34, 21, 8, 50, 180, 0, 188, 172, 132, 7, 1, 167, 255, 166, 132, 6, 1, 167, 255, 123, 132, 5, 1, 167, 255, 105, 18, 166, 172] := by decide +kernel
theorem dX8_threeInRing_129 : decode cX8_threeInRing 129 = .ok (.aaload, 1) := dc0 dO_50 (rdB.ch sfx_cX8_threeInRing_128 1 rfl (by decide +kernel))
theorem dX8_threeInRing_130 : decode cX8_threeInRing 130 = .ok (.invokevirtual 235, 3) := dcU2 dO_182 (rdU2.ch sfx_cX8_threeInRing_128 2 rfl (by decide +kernel))
theorem dX8_threeInRing_133 : decode cX8_threeInRing 133 = .ok (.ifCond .eq 37, 3) := dcS2 dO_153 (rdS2.ch sfx_cX8_threeInRing_128 5 rfl (by decide +kernel))
theorem dX8_threeInRing_136 : decode cX8_threeInRing 136 = .ok (.iload_n 3, 1) := dc0 dO_29 (rdB.ch sfx_cX8_threeInRing_128 8 rfl (by decide +kernel))
theorem dX8_threeInRing_137 : decode cX8_threeInRing 137 = .ok (.ifCond .ne 8, 3) := dcS2 dO_154 (rdS2.ch sfx_cX8_threeInRing_128 9 rfl (by decide +kernel))
theorem dX8_threeInRing_140 : decode cX8_threeInRing 140 = .ok (.iload 5, 2) := dcU1 dO_21 (rdU1.ch sfx_cX8_threeInRing_128 12 rfl (by decide +kernel))
theorem dX8_threeInRing_142 : decode cX8_threeInRing 142 = .ok (.goto 15, 3) := dcS2 dO_167 (rdS2.ch sfx_cX8_threeInRing_128 14 rfl (by decide +kernel))
theorem dX8_threeInRing_145 : decode cX8_threeInRing 145 = .ok (.iload_n 3, 1) := dc0 dO_29 (rdB.ch sfx_cX8_threeInRing_128 17 rfl (by decide +kernel))
theorem dX8_threeInRing_146 : decode cX8_threeInRing 146 = .ok (.iconst 1, 1) := dc0 dO_4 (rdB.ch sfx_cX8_threeInRing_128 18 rfl (by decide +kernel))
theorem dX8_threeInRing_147 : decode cX8_threeInRing 147 = .ok (.if_icmp .ne 8, 3) := dcS2 dO_160 (rdS2.ch sfx_cX8_threeInRing_128 19 rfl (by decide +kernel))
theorem dX8_threeInRing_150 : decode cX8_threeInRing 150 = .ok (.iload 6, 2) := dcU1 dO_21 (rdU1.ch sfx_cX8_threeInRing_128 22 rfl (by decide +kernel))
theorem dX8_threeInRing_152 : decode cX8_threeInRing 152 = .ok (.goto 5, 3) := dcS2 dO_167 (rdS2.ch sfx_cX8_threeInRing_128 24 rfl (by decide +kernel))
theorem dX8_threeInRing_155 : decode cX8_threeInRing 155 = .ok (.iload 7, 2) := dcU1 dO_21 (rdU1.ch sfx_cX8_threeInRing_128 27 rfl (by decide +kernel))
theorem dX8_threeInRing_157 : decode cX8_threeInRing 157 = .ok (.istore 8, 2) := dcU1 dO_54 (rdU1.ch sfx_cX8_threeInRing_128 29 rfl (by decide +kernel))
theorem dX8_threeInRing_159 : decode cX8_threeInRing 159 = .ok (.aload_n 0, 1) := dc0 dO_42 (rdB.ch sfx_cX8_threeInRing_128 31 rfl (by decide +kernel))
theorem dX8_threeInRing_160 : decode cX8_threeInRing 160 = .ok (.getfield 34, 3) := dcU2 dO_180 (rdU2.ch sfx_cX8_threeInRing_128 32 rfl (by decide +kernel))
theorem dX8_threeInRing_163 : decode cX8_threeInRing 163 = .ok (.iload 8, 2) := dcU1 dO_21 (rdU1.ch sfx_cX8_threeInRing_128 35 rfl (by decide +kernel))
theorem dX8_threeInRing_165 : decode cX8_threeInRing 165 = .ok (.aaload, 1) := dc0 dO_50 (rdB.ch sfx_cX8_threeInRing_128 37 rfl (by decide +kernel))
theorem dX8_threeInRing_166 : decode cX8_threeInRing 166 = .ok (.getfield 188, 3) := dcU2 dO_180 (rdU2.ch sfx_cX8_threeInRing_128 38 rfl (by decide +kernel))
theorem dX8_threeInRing_169 : decode cX8_threeInRing 169 = .ok (.ireturn, 1) := dc0 dO_172 (rdB.ch sfx_cX8_threeInRing_128 41 rfl (by decide +kernel))
theorem dX8_threeInRing_170 : decode cX8_threeInRing 170 = .ok (.iinc 7 1, 3) := dcI dO_132 (rdI.ch sfx_cX8_threeInRing_128 42 rfl (by decide +kernel))
theorem dX8_threeInRing_173 : decode cX8_threeInRing 173 = .ok (.goto (-90), 3) := dcS2 dO_167 (rdS2.ch sfx_cX8_threeInRing_128 45 rfl (by decide +kernel))
theorem dX8_threeInRing_176 : decode cX8_threeInRing 176 = .ok (.iinc 6 1, 3) := dcI dO_132 (rdI.ch sfx_cX8_threeInRing_128 48 rfl (by decide +kernel))
theorem dX8_threeInRing_179 : decode cX8_threeInRing 179 = .ok (.goto (-133), 3) := dcS2 dO_167 (rdS2.ch sfx_cX8_threeInRing_128 51 rfl (by decide +kernel))
theorem dX8_threeInRing_182 : decode cX8_threeInRing 182 = .ok (.iinc 5 1, 3) := dcI dO_132 (rdI.ch sfx_cX8_threeInRing_128 54 rfl (by decide +kernel))
theorem dX8_threeInRing_185 : decode cX8_threeInRing 185 = .ok (.goto (-151), 3) := dcS2 dO_167 (rdS2.ch sfx_cX8_threeInRing_128 57 rfl (by decide +kernel))
theorem dX8_threeInRing_188 : decode cX8_threeInRing 188 = .ok (.ldc 166, 2) := dcU1 dO_18 (rdU1.ch sfx_cX8_threeInRing_128 60 rfl (by decide +kernel))
theorem dX8_threeInRing_190 : decode cX8_threeInRing 190 = .ok (.ireturn, 1) := dc0 dO_172 (rdB.ch sfx_cX8_threeInRing_128 62 rfl (by decide +kernel))
end
section
theorem vc_X11_isRule_2 {z87 : Int} (h0 : z87 < ((0 : Nat) : Int)) (h1 : 0 ≤ z87 ∧ z87 ≤ 2147483647) : False := by omega
theorem vc_X11_isRule_3 {z87 : Int} (h0 : z87 ≤ 0) (h1 : 0 ≤ z87 ∧ z87 ≤ 2147483647) : 0 ≤ z87 ∧ z87 ≤ 0 := by omega
theorem vc_X11_isRule_4 {p1 : Int} (h0 : 0 ≤ p1) (h1 : 0 ≤ p1 ∧ p1 ≤ 2147483647) : (1 : Int) = 1 → 0 ≤ p1 := by omega
theorem vc_X11_isRule_5 {z87 : Int} (h0 : 0 < z87) (h1 : 0 ≤ z87 ∧ z87 ≤ 2147483647) : 1 ≤ z87 ∧ z87 ≤ 2147483647 := by omega
theorem vc_X11_isRule_6  : (0 : Int) < (10 : Int) ∧ (10 : Int) ≤ (2147483647 : Int) := by omega
theorem vc_X11_isRule_7 {z101 z87 : Int} (h0 : z101 < 1) (h1 : z87 % 10 = z101) (h2 : 0 ≤ z101 ∧ z101 ≤ 9) (h3 : 1 ≤ z87 ∧ z87 ≤ 2147483647) : 0 ≤ z101 ∧ z101 ≤ 0 := by omega
theorem vc_X11_isRule_8 {p1 : Int} (h0 : 0 ≤ p1) (h1 : 0 ≤ p1 ∧ p1 ≤ 2147483647) : (0 : Int) = 1 → 0 ≤ p1 := by omega
theorem vc_X11_isRule_9 {z101 z87 : Int} (h0 : 1 ≤ z101) (h1 : z87 % 10 = z101) (h2 : 0 ≤ z101 ∧ z101 ≤ 9) (h3 : 1 ≤ z87 ∧ z87 ≤ 2147483647) : 1 ≤ z101 ∧ z101 ≤ 9 := by omega
theorem vc_X11_isRule_10 {z101 z87 : Int} (h0 : 6 < z101) (h1 : z87 % 10 = z101) (h2 : 1 ≤ z101) (h3 : 1 ≤ z101 ∧ z101 ≤ 9) (h4 : 1 ≤ z87 ∧ z87 ≤ 2147483647) : 7 ≤ z101 ∧ z101 ≤ 9 := by omega
theorem vc_X11_isRule_11 {z101 z87 : Int} (h0 : z101 ≤ 6) (h1 : z87 % 10 = z101) (h2 : 1 ≤ z101) (h3 : 1 ≤ z101 ∧ z101 ≤ 9) (h4 : 1 ≤ z87 ∧ z87 ≤ 2147483647) : 1 ≤ z101 ∧ z101 ≤ 6 := by omega
theorem vc_X11_isRule_13 {z101 z87 : Int} (h0 : z87 % 10 = z101) (h1 : 1 ≤ z101) (h2 : z101 ≤ 6) (h3 : 0 < z87) (h4 : 1 ≤ z101 ∧ z101 ≤ 6) (h5 : 1 ≤ z87 ∧ z87 ≤ 2147483647) : 1 ≤ z101 ∧ z101 ≤ 6 := by omega
theorem vc_X11_isRule_14 {N z101 z124 z87 : Int} (h0 : z87 < N + 1) (h1 : 0 < z87) (h2 : z87 % 10 = z101) (h3 : z87 / 10 = z124) (h4 : 1 ≤ z101) (h5 : z101 ≤ 6) (h6 : 1 ≤ z101 ∧ z101 ≤ 6) (h7 : 0 ≤ z124 ∧ z124 ≤ 214748364) (h8 : 1 ≤ z87 ∧ z87 ≤ 2147483647) : z124 < N := by omega
theorem vc_X11_isRule_16 {p1 : Int} (h0 : 0 ≤ p1) (h1 : 0 ≤ p1 ∧ p1 ≤ 2147483647) : p1 < ((2147483648 : Nat) : Int) := by omega
theorem vc_X11_isRule_18 {p1 : Int} (h0 : p1 < 0) (h1 : (-2147483648) ≤ p1 ∧ p1 ≤ (-1)) : (0 : Int) = 1 → 0 ≤ p1 := by omega
set_option maxRecDepth 4000 in
set_option maxHeartbeats 4000000 in
theorem c_X11_isRule {l : Launch} {D : va_G} {c : Nat → ClassId} {H0 : Heap} {sa : Nat × Nat × (Nat → Int32)} {w : mW} {μ : mM} (hw : mWF w) (hT : mT w μ) {p1 : Int} (hp1 : (-2147483648) ≤ p1 ∧ p1 ≤ 2147483647) : sC (gG l D c H0 sa) mX11_isRule 1 0 0 [iv p1] (mk w μ) (qP w μ (fun z => (0 ≤ z ∧ z ≤ 1) ∧ (z = 1 → p1 ≤ 999999) ∧ (z = 1 → 0 ≤ p1) ∧ True)) := by
  refine sC.of rfl (by decide) (le_t rfl) ?_
  refine mr_lvE (lv' := [(0, iv p1)]) rfl ?_
  refine mr_iload_n (pc := 0) (z := p1) dX11_isRule_0 rfl rfl ?_
  refine mr_if_ge (pc := 1) (tgt := 6) dX11_isRule_1 (by decide) hp1 (fun h1 => ?_) (fun h1 => ?_)
  · have h2 : 0 ≤ p1 ∧ p1 ≤ 2147483647 := (vc_X12_cut_2 h1 hp1)
    refine mr_iconst (pc := 6) (z := 0) dX11_isRule_6 ?_
    refine mr_istore_n (pc := 7) (lv' := [(1, iv 0), (0, iv p1)]) dX11_isRule_7 rfl (by decide) rfl ?_
    refine mr_iload_n (pc := 8) (z := p1) dX11_isRule_8 rfl rfl ?_
    refine mr_istore_n (pc := 9) (lv' := [(2, iv p1), (1, iv 0), (0, iv p1)]) dX11_isRule_9 rfl (by decide) rfl ?_
    have L89 : ∀ (nL89 : Nat) (z88 z87 : Int), True → ((-2147483648) ≤ z88 ∧ z88 ≤ 2147483647) → (0 ≤ z87 ∧ z87 ≤ 2147483647) → rOK p1 z87 z88 → z87 < (nL89 : Int) → sV (gG l D c H0 sa) mX11_isRule (sRm 1 0 0) (sZ (gG l D c H0 sa) 0 0 (qP w μ (fun z => (0 ≤ z ∧ z ≤ 1) ∧ (z = 1 → p1 ≤ 999999) ∧ (z = 1 → 0 ≤ p1) ∧ True))) 10 [(1, iv z88), (2, iv z87)] [] (mk w μ) 0 0 := by
      intro nL89
      induction nL89 with
      | zero => intro z88 z87 _ h90 h91 R95 h96; exact ((vc_X11_isRule_2 h96 h91)).elim
      | succ nL89 ih97 =>
        intro z88 z87 _ h90 h91 R95 h96
        refine mr_iload_n (pc := 10) (z := z87) dX11_isRule_10 rfl rfl ?_
        refine mr_if_le (pc := 11) (tgt := 54) dX11_isRule_11 (by decide) (r32 h91 rfl) (fun h98 => ?_) (fun h98 => ?_)
        · have h99 : 0 ≤ z87 ∧ z87 ≤ 0 := (vc_X11_isRule_3 h98 h91)
          refine mr_iconst (pc := 54) (z := 1) dX11_isRule_54 ?_
          exact mr_zretP dX11_isRule_55 rfl (rW (c := 0) (d := 1) (rR (x := 1)) rfl) (le_t rfl) (le_t rfl) ⟨(rW (c := 0) (d := 1) (rR (x := 1)) rfl), (fun _ => rOK.done R95 h98), (vc_X11_isRule_4 h1 h2), trivial⟩
        have h100 : 1 ≤ z87 ∧ z87 ≤ 2147483647 := (vc_X11_isRule_5 h98 h91)
        refine mr_iload_n (pc := 14) (z := z87) dX11_isRule_14 rfl rfl ?_
        refine mr_bipush (pc := 15) (z := 10) dX11_isRule_15 (by decide) ?_
        refine mr_irem (pc := 17) (x := z87) (y := 10) dX11_isRule_17 (rW (c := 0) (d := 2147483647) h100 rfl) vc_X11_isRule_6 ?_
        refine mr_gen (P := fun z => 0 ≤ z ∧ z ≤ 9) (rMod h100 rfl) fun z101 q102 h103 => ?_
        refine mr_istore_n (pc := 18) (lv' := [(3, iv z101), (1, iv z88), (2, iv z87)]) dX11_isRule_18 rfl (by decide) rfl ?_
        refine mr_iload_n (pc := 19) (z := z101) dX11_isRule_19 rfl rfl ?_
        refine mr_iconst (pc := 20) (z := 1) dX11_isRule_20 ?_
        refine mr_icmp_lt (pc := 21) (tgt := 38) dX11_isRule_21 (by decide) (r32 h103 rfl) (r32 (rR (x := 1)) rfl) (fun h104 => ?_) (fun h104 => ?_)
        · have h105 : 0 ≤ z101 ∧ z101 ≤ 0 := (vc_X11_isRule_7 h104 q102 h103 h100)
          refine mr_iconst (pc := 38) (z := 0) dX11_isRule_38 ?_
          exact mr_zretP dX11_isRule_39 rfl (rW (c := 0) (d := 1) (rR (x := 0)) rfl) (le_t rfl) (le_t rfl) ⟨(rW (c := 0) (d := 1) (rR (x := 0)) rfl), (fun h => absurd h (by decide)), (vc_X11_isRule_8 h1 h2), trivial⟩
        have h106 : 1 ≤ z101 ∧ z101 ≤ 9 := (vc_X11_isRule_9 h104 q102 h103 h100)
        refine mr_iload_n (pc := 24) (z := z101) dX11_isRule_24 rfl rfl ?_
        refine mr_bipush (pc := 25) (z := 6) dX11_isRule_25 (by decide) ?_
        refine mr_icmp_gt (pc := 27) (tgt := 38) dX11_isRule_27 (by decide) (r32 h106 rfl) (r32 (rR (x := 6)) rfl) (fun h107 => ?_) (fun h107 => ?_)
        · have h108 : 7 ≤ z101 ∧ z101 ≤ 9 := (vc_X11_isRule_10 h107 q102 h104 h106 h100)
          refine mr_iconst (pc := 38) (z := 0) dX11_isRule_38 ?_
          exact mr_zretP dX11_isRule_39 rfl (rW (c := 0) (d := 1) (rR (x := 0)) rfl) (le_t rfl) (le_t rfl) ⟨(rW (c := 0) (d := 1) (rR (x := 0)) rfl), (fun h => absurd h (by decide)), (vc_X11_isRule_8 h1 h2), trivial⟩
        have h109 : 1 ≤ z101 ∧ z101 ≤ 6 := (vc_X11_isRule_11 h107 q102 h104 h106 h100)
        refine mr_iload_n (pc := 30) (z := z88) dX11_isRule_30 rfl rfl ?_
        refine mr_iload_n (pc := 31) (z := z101) dX11_isRule_31 rfl rfl ?_
        refine mr_ishr (pc := 32) (x := z88) (y := z101) dX11_isRule_32 ?_
        refine mr_gen (P := fun z => (-2147483648) ≤ z ∧ z ≤ 2147483647) (r32i _) fun z110 q111 h112 => ?_
        refine mr_iconst (pc := 33) (z := 1) dX11_isRule_33 ?_
        refine mr_iand (pc := 34) (x := z110) (y := 1) dX11_isRule_34 ?_
        refine mr_gen (P := fun z => 0 ≤ z ∧ z ≤ 1) (rAndR (rR (x := 1)) rfl) fun z113 q114 h115 => ?_
        refine mr_if_eq (pc := 35) (tgt := 40) dX11_isRule_35 (by decide) (r32 h115 rfl) (fun h116 => ?_) (fun h116 => ?_)
        · have h117 : 0 ≤ z113 ∧ z113 ≤ 0 := (vc_X12_letWay_6 h116 h115)
          refine mr_iload_n (pc := 40) (z := z88) dX11_isRule_40 rfl rfl ?_
          refine mr_iconst (pc := 41) (z := 1) dX11_isRule_41 ?_
          refine mr_iload_n (pc := 42) (z := z101) dX11_isRule_42 rfl rfl ?_
          refine mr_ishl (pc := 43) (x := 1) (y := z101) dX11_isRule_43 ?_
          refine mr_gen (P := fun z => (-2147483648) ≤ z ∧ z ≤ 2147483647) (r32i _) fun z118 q119 h120 => ?_
          refine mr_ior (pc := 44) (x := z88) (y := z118) dX11_isRule_44 ?_
          refine mr_gen (P := fun z => (-2147483648) ≤ z ∧ z ≤ 2147483647) (r32i _) fun z121 q122 h123 => ?_
          refine mr_istore_n (pc := 45) (lv' := [(1, iv z121), (3, iv z101), (2, iv z87)]) dX11_isRule_45 rfl (by decide) rfl ?_
          refine mr_iload_n (pc := 46) (z := z87) dX11_isRule_46 rfl rfl ?_
          refine mr_bipush (pc := 47) (z := 10) dX11_isRule_47 (by decide) ?_
          refine mr_idiv (pc := 49) (x := z87) (y := 10) dX11_isRule_49 (rW (c := 0) (d := 2147483647) h100 rfl) vc_X11_isRule_6 ?_
          refine mr_gen (P := fun z => 0 ≤ z ∧ z ≤ 214748364) (rDiv h100 rfl) fun z124 q125 h126 => ?_
          refine mr_istore_n (pc := 50) (lv' := [(2, iv z124), (1, iv z121), (3, iv z101)]) dX11_isRule_50 rfl (by decide) rfl ?_
          refine sv_goto (pc := 51) (tgt := 10) dX11_isRule_51 (by decide) ?_
          refine mr_lvS (lv' := [(1, iv z121), (2, iv z124)]) (List.forall_mem_cons.mpr ⟨rfl, List.forall_mem_cons.mpr ⟨rfl, fun _ h => absurd h List.not_mem_nil⟩⟩) ?_
          exact ih97 z121 z124 trivial h123 (rW (c := 0) (d := 2147483647) h126 rfl) (rOK.step R95 (fun n h => sOK.add h (vc_X11_isRule_13 q102 h104 h107 h98 h109 h100) q111 q114 (bAnd1 q114 h116) q119 q122) q125) (vc_X11_isRule_14 (nS h96) h98 q102 q125 h104 h107 h109 h126 h100)
        have h127 : 1 ≤ z113 ∧ z113 ≤ 1 := (vc_X12_letWay_11 h116 h115)
        refine mr_iconst (pc := 38) (z := 0) dX11_isRule_38 ?_
        exact mr_zretP dX11_isRule_39 rfl (rW (c := 0) (d := 1) (rR (x := 0)) rfl) (le_t rfl) (le_t rfl) ⟨(rW (c := 0) (d := 1) (rR (x := 0)) rfl), (fun h => absurd h (by decide)), (vc_X11_isRule_8 h1 h2), trivial⟩
    refine mr_lvS (lv' := [(1, iv 0), (2, iv p1)]) (List.forall_mem_cons.mpr ⟨rfl, List.forall_mem_cons.mpr ⟨rfl, fun _ h => absurd h List.not_mem_nil⟩⟩) ?_
    exact L89 2147483648 0 p1 trivial (rW (c := (-2147483648)) (d := 2147483647) (rR (x := 0)) rfl) h2 rOK.init (vc_X11_isRule_16 h1 h2)
  have h128 : (-2147483648) ≤ p1 ∧ p1 ≤ (-1) := (vc_X12_cut_1 h1 hp1)
  refine mr_iconst (pc := 4) (z := 0) dX11_isRule_4 ?_
  exact mr_zretP dX11_isRule_5 rfl (rW (c := 0) (d := 1) (rR (x := 0)) rfl) (le_t rfl) (le_t rfl) ⟨(rW (c := 0) (d := 1) (rR (x := 0)) rfl), (fun h => absurd h (by decide)), (vc_X11_isRule_18 h1 h128), trivial⟩
theorem vc_X0_goBy_1 {f_c z91 : Int} (h0 : z91 < ((0 : Nat) : Int)) (h1 : (f_c = 0 ∧ z91 ≤ 999999) ∨ (f_c = 1 ∧ z91 ≤ 99999) ∨ (f_c = 2 ∧ z91 ≤ 9999) ∨ (f_c = 3 ∧ z91 ≤ 999) ∨ (f_c = 4 ∧ z91 ≤ 99) ∨ (f_c = 5 ∧ z91 ≤ 9) ∨ (f_c = 6 ∧ z91 ≤ 0)) (h2 : 0 ≤ z91 ∧ z91 ≤ 999999) : False := by omega
theorem vc_X0_goBy_2 {f_c z91 : Int} (h0 : z91 ≤ 0) (h1 : (f_c = 0 ∧ z91 ≤ 999999) ∨ (f_c = 1 ∧ z91 ≤ 99999) ∨ (f_c = 2 ∧ z91 ≤ 9999) ∨ (f_c = 3 ∧ z91 ≤ 999) ∨ (f_c = 4 ∧ z91 ≤ 99) ∨ (f_c = 5 ∧ z91 ≤ 9) ∨ (f_c = 6 ∧ z91 ≤ 0)) (h2 : 0 ≤ f_c ∧ f_c ≤ 6) (h3 : 0 ≤ z91 ∧ z91 ≤ 999999) : 0 ≤ z91 ∧ z91 ≤ 0 := by omega
theorem vc_X0_goBy_3 {z143 : Int} (h0 : (z143 - (-2)) < ((0 : Nat) : Int)) (h1 : (-1) ≤ z143 ∧ z143 ≤ 5) : False := by omega
theorem vc_X0_goBy_4 {z143 : Int} (h0 : z143 < 0) (h1 : (-1) ≤ z143 ∧ z143 ≤ 5) : (-1) ≤ z143 ∧ z143 ≤ (-1) := by omega
theorem vc_X0_goBy_5 {z143 : Int} (h0 : 0 ≤ z143) (h1 : (-1) ≤ z143 ∧ z143 ≤ 5) : 0 ≤ z143 ∧ z143 ≤ 5 := by omega
theorem vc_X0_goBy_7 {N z143 : Int} (h0 : (z143 - (-2)) < N + 1) (h1 : 0 ≤ z143) (h2 : 0 ≤ z143 ∧ z143 ≤ 5) : ((z143 + (-1)) - (-2)) < N := by omega
theorem vc_X0_goBy_8 {f_c z91 : Int} (h0 : (f_c = 0 ∧ z91 ≤ 999999) ∨ (f_c = 1 ∧ z91 ≤ 99999) ∨ (f_c = 2 ∧ z91 ≤ 9999) ∨ (f_c = 3 ∧ z91 ≤ 999) ∨ (f_c = 4 ∧ z91 ≤ 99) ∨ (f_c = 5 ∧ z91 ≤ 9) ∨ (f_c = 6 ∧ z91 ≤ 0)) (h1 : z91 ≤ 0) (h2 : 0 ≤ f_c ∧ f_c ≤ 6) (h3 : 0 ≤ z91 ∧ z91 ≤ 0) : ((f_c - 1) - (-2)) < ((8 : Nat) : Int) := by omega
theorem vc_X0_goBy_9 {f_c z91 : Int} (h0 : 0 < z91) (h1 : (f_c = 0 ∧ z91 ≤ 999999) ∨ (f_c = 1 ∧ z91 ≤ 99999) ∨ (f_c = 2 ∧ z91 ≤ 9999) ∨ (f_c = 3 ∧ z91 ≤ 999) ∨ (f_c = 4 ∧ z91 ≤ 99) ∨ (f_c = 5 ∧ z91 ≤ 9) ∨ (f_c = 6 ∧ z91 ≤ 0)) (h2 : 0 ≤ f_c ∧ f_c ≤ 6) (h3 : 0 ≤ z91 ∧ z91 ≤ 999999) : 1 ≤ z91 ∧ z91 ≤ 999999 := by omega
theorem vc_X0_goBy_10 {f_c z91 : Int} (h0 : (f_c = 0 ∧ z91 ≤ 999999) ∨ (f_c = 1 ∧ z91 ≤ 99999) ∨ (f_c = 2 ∧ z91 ≤ 9999) ∨ (f_c = 3 ∧ z91 ≤ 999) ∨ (f_c = 4 ∧ z91 ≤ 99) ∨ (f_c = 5 ∧ z91 ≤ 9) ∨ (f_c = 6 ∧ z91 ≤ 0)) (h1 : 0 < z91) (h2 : 0 ≤ f_c ∧ f_c ≤ 6) (h3 : 1 ≤ z91 ∧ z91 ≤ 999999) : 0 ≤ (f_c + 1) ∧ (f_c + 1) ≤ 6 := by omega
theorem vc_X0_goBy_11 {f_c z183 z91 : Int} (h0 : (f_c = 0 ∧ z91 ≤ 999999) ∨ (f_c = 1 ∧ z91 ≤ 99999) ∨ (f_c = 2 ∧ z91 ≤ 9999) ∨ (f_c = 3 ∧ z91 ≤ 999) ∨ (f_c = 4 ∧ z91 ≤ 99) ∨ (f_c = 5 ∧ z91 ≤ 9) ∨ (f_c = 6 ∧ z91 ≤ 0)) (h1 : z91 / 10 = z183) (h2 : 0 < z91) (h3 : 0 ≤ f_c ∧ f_c ≤ 6) (h4 : 0 ≤ z183 ∧ z183 ≤ 99999) (h5 : 1 ≤ z91 ∧ z91 ≤ 999999) : ((f_c + 1) = 0 ∧ z183 ≤ 999999) ∨ ((f_c + 1) = 1 ∧ z183 ≤ 99999) ∨ ((f_c + 1) = 2 ∧ z183 ≤ 9999) ∨ ((f_c + 1) = 3 ∧ z183 ≤ 999) ∨ ((f_c + 1) = 4 ∧ z183 ≤ 99) ∨ ((f_c + 1) = 5 ∧ z183 ≤ 9) ∨ ((f_c + 1) = 6 ∧ z183 ≤ 0) := by omega
theorem vc_X0_goBy_12 {N f_c z183 z91 : Int} (h0 : z91 < N + 1) (h1 : (f_c = 0 ∧ z91 ≤ 999999) ∨ (f_c = 1 ∧ z91 ≤ 99999) ∨ (f_c = 2 ∧ z91 ≤ 9999) ∨ (f_c = 3 ∧ z91 ≤ 999) ∨ (f_c = 4 ∧ z91 ≤ 99) ∨ (f_c = 5 ∧ z91 ≤ 9) ∨ (f_c = 6 ∧ z91 ≤ 0)) (h2 : 0 < z91) (h3 : z91 / 10 = z183) (h4 : 0 ≤ f_c ∧ f_c ≤ 6) (h5 : 0 ≤ z183 ∧ z183 ≤ 99999) (h6 : 1 ≤ z91 ∧ z91 ≤ 999999) : z183 < N := by omega
theorem vc_X0_goBy_13 {p1 : Int} (h0 : 0 ≤ p1 ∧ p1 ≤ 999999) : ((0 : Int) = 0 ∧ p1 ≤ 999999) ∨ ((0 : Int) = 1 ∧ p1 ≤ 99999) ∨ ((0 : Int) = 2 ∧ p1 ≤ 9999) ∨ ((0 : Int) = 3 ∧ p1 ≤ 999) ∨ ((0 : Int) = 4 ∧ p1 ≤ 99) ∨ ((0 : Int) = 5 ∧ p1 ≤ 9) ∨ ((0 : Int) = 6 ∧ p1 ≤ 0) := by omega
theorem vc_X0_goBy_14 {p1 : Int} (h0 : 0 ≤ p1 ∧ p1 ≤ 999999) : p1 < ((1000000 : Nat) : Int) := by omega
set_option maxRecDepth 4000 in
set_option maxHeartbeats 4000000 in
theorem c_X0_goBy {l : Launch} {D : va_G} {c : Nat → ClassId} {H0 : Heap} {sa : Nat × Nat × (Nat → Int32)} {w : mW} {μ : mM} (hw : mWF w) (hT : mT w μ) {a0 : Nat} (hA0 : mAt w a0 210) {p1 : Int} (hp1 : 0 ≤ p1 ∧ p1 ≤ 999999) {p2 : Int} (hp2 : 0 ≤ p2 ∧ p2 ≤ 1) : sC (gG l D c H0 sa) mX0_goBy 1 0 0 [.ref a0, iv p1, iv p2] (mk w μ) (qV w [210004, 210005, 211999] μ (fun μ1 => True)) := by
  refine sC.of rfl (by decide) (le_t rfl) ?_
  refine mr_lvE (lv' := [(0, .ref a0), (1, iv p1), (2, iv p2)]) rfl ?_
  refine sv_aload_n (pc := 0) dX0_goBy_0 rfl rfl ?_
  refine mr_iload_n (pc := 1) (z := p2) dX0_goBy_1 rfl rfl ?_
  refine pf_X0_5 (pc := 2) dX0_goBy_2 wF_X0_33 hA0 hT hp2 fun μ1 u2 T3 => ?_
  refine sv_aload_n (pc := 5) dX0_goBy_5 rfl rfl ?_
  refine mr_iconst (pc := 6) (z := 0) dX0_goBy_6 ?_
  refine pf_X0_4 (pc := 7) dX0_goBy_7 wF_X0_37 hA0 T3 (rW (c := 0) (d := 6) (rR (x := 0)) rfl) fun μ4 u5 T6 => ?_
  refine mr_iload_n (pc := 10) (z := p1) dX0_goBy_10 rfl rfl ?_
  refine mr_istore_n (pc := 11) (lv' := [(3, iv p1), (0, .ref a0), (1, iv p1), (2, iv p2)]) dX0_goBy_11 rfl (by decide) rfl ?_
  have L93 : ∀ (nL93 : Nat) (z91 : Int) (μ92 : mM) (f_c : Int), mT w μ92 → mF [210004] w μ4 μ92 → μ92 a0 (4) = f_c → (0 ≤ z91 ∧ z91 ≤ 999999) → ((f_c = 0 ∧ z91 ≤ 999999) ∨ (f_c = 1 ∧ z91 ≤ 99999) ∨ (f_c = 2 ∧ z91 ≤ 9999) ∨ (f_c = 3 ∧ z91 ≤ 999) ∨ (f_c = 4 ∧ z91 ≤ 99) ∨ (f_c = 5 ∧ z91 ≤ 9) ∨ (f_c = 6 ∧ z91 ≤ 0)) → z91 < (nL93 : Int) → sV (gG l D c H0 sa) mX0_goBy (sRm 1 0 0) (sZ (gG l D c H0 sa) 0 0 (qV w [210004, 210005, 211999] μ (fun μ1 => True))) 12 [(0, .ref a0), (1, iv p1), (3, iv z91)] [] (mk w μ92) 0 0 := by
    intro nL93
    induction nL93 with
    | zero => intro z91 μ92 f_c T95 F96 q100 h94 h98 h99; exact ((vc_X0_goBy_1 h99 h98 h94)).elim
    | succ nL93 ih101 =>
      intro z91 μ92 f_c T95 F96 q100 h94 h98 h99
      have h102 : (0 ≤ f_c ∧ f_c ≤ 6) := by rw [← q100]; exact T95 a0 210 hA0 (4)
      refine mr_iload_n (pc := 12) (z := z91) dX0_goBy_12 rfl rfl ?_
      refine mr_if_le (pc := 13) (tgt := 34) dX0_goBy_13 (by decide) (r32 h94 rfl) (fun h111 => ?_) (fun h111 => ?_)
      · have h112 : 0 ≤ z91 ∧ z91 ≤ 0 := (vc_X0_goBy_2 h111 h98 h102 h94)
        refine mr_iload_n (pc := 34) (z := p1) dX0_goBy_34 rfl rfl ?_
        refine mr_istore_n (pc := 35) (lv' := [(3, iv p1), (0, .ref a0), (1, iv p1)]) dX0_goBy_35 rfl (by decide) rfl ?_
        refine sv_aload_n (pc := 36) dX0_goBy_36 rfl rfl ?_
        refine gk_X0_4 (pc := 37) dX0_goBy_37 wF_X0_37 hA0 q100 ?_
        refine mr_iconst (pc := 40) (z := 1) dX0_goBy_40 ?_
        refine mr_isub (pc := 41) (x := f_c) (y := 1) dX0_goBy_41 ?_
        refine mr_istore (pc := 42) (lv' := [(4, iv (f_c - 1)), (3, iv p1), (0, .ref a0), (1, iv p1)]) dX0_goBy_42 (by decide) rfl ?_
        have L146 : ∀ (nL146 : Nat) (z144 z143 : Int) (μ145 : mM), mT w μ145 → mF [211999] w μ92 μ145 → (0 ≤ z144 ∧ z144 ≤ 999999) → ((-1) ≤ z143 ∧ z143 ≤ 5) → (z143 - (-2)) < (nL146 : Int) → sV (gG l D c H0 sa) mX0_goBy (sRm 1 0 0) (sZ (gG l D c H0 sa) 0 0 (qV w [210004, 210005, 211999] μ (fun μ1 => True))) 44 [(0, .ref a0), (3, iv z144), (4, iv z143)] [] (mk w μ145) 0 0 := by
          intro nL146
          induction nL146 with
          | zero => intro z144 z143 μ145 T149 F150 h147 h148 h152; exact ((vc_X0_goBy_3 h152 h148)).elim
          | succ nL146 ih153 =>
            intro z144 z143 μ145 T149 F150 h147 h148 h152
            refine mr_iload (pc := 44) (z := z143) dX0_goBy_44 rfl ?_
            refine mr_if_lt (pc := 46) (tgt := 71) dX0_goBy_46 (by decide) (r32 h148 rfl) (fun h166 => ?_) (fun h166 => ?_)
            · have h167 : (-1) ≤ z143 ∧ z143 ≤ (-1) := (vc_X0_goBy_4 h166 h148)
              exact mr_vret dX0_goBy_71 rfl (le_t rfl) (le_t rfl) T149 (mF.call (mF.call (mF.up (mF.up mF.refl hA0 u2 rfl) hA0 u5 rfl) F96 rfl) F150 rfl) trivial
            have h168 : 0 ≤ z143 ∧ z143 ≤ 5 := (vc_X0_goBy_5 h166 h148)
            refine sv_aload_n (pc := 49) dX0_goBy_49 rfl rfl ?_
            refine gf_X0_0 (pc := 50) dX0_goBy_50 wF_X0_9 hA0 T149 fun A169 => ?_
            refine mr_iload (pc := 53) (z := z143) dX0_goBy_53 rfl ?_
            refine mr_iload_n (pc := 55) (z := z144) dX0_goBy_55 rfl rfl ?_
            refine mr_bipush (pc := 56) (z := 10) dX0_goBy_56 (by decide) ?_
            refine mr_irem (pc := 58) (x := z144) (y := 10) dX0_goBy_58 (rW (c := 0) (d := 2147483647) h147 rfl) vc_X11_isRule_6 ?_
            refine mr_gen (P := fun z => 0 ≤ z ∧ z ≤ 9) (rMod h147 rfl) fun z170 q171 h172 => ?_
            refine ss_211 (pc := 59) dX0_goBy_59 A169 T149 (rIx (n := 6) h168 rfl) h172 fun μ173 u174 T175 => ?_
            refine mr_iload_n (pc := 60) (z := z144) dX0_goBy_60 rfl rfl ?_
            refine mr_bipush (pc := 61) (z := 10) dX0_goBy_61 (by decide) ?_
            refine mr_idiv (pc := 63) (x := z144) (y := 10) dX0_goBy_63 (rW (c := 0) (d := 2147483647) h147 rfl) vc_X11_isRule_6 ?_
            refine mr_gen (P := fun z => 0 ≤ z ∧ z ≤ 99999) (rDiv h147 rfl) fun z176 q177 h178 => ?_
            refine mr_istore_n (pc := 64) (lv' := [(3, iv z176), (0, .ref a0), (4, iv z143)]) dX0_goBy_64 rfl (by decide) rfl ?_
            refine mr_iinc (pc := 65) (lv' := [(4, iv (z143 + (-1))), (3, iv z176), (0, .ref a0)]) dX0_goBy_65 rfl (by decide) rfl ?_
            refine sv_goto (pc := 68) (tgt := 44) dX0_goBy_68 (by decide) ?_
            refine mr_lvS (lv' := [(0, .ref a0), (3, iv z176), (4, iv (z143 + (-1)))]) (List.forall_mem_cons.mpr ⟨rfl, List.forall_mem_cons.mpr ⟨rfl, List.forall_mem_cons.mpr ⟨rfl, fun _ h => absurd h List.not_mem_nil⟩⟩⟩) ?_
            exact ih153 z176 (z143 + (-1)) μ173 T175 (mF.up (mF.call mF.refl F150 rfl) A169 u174 rfl) (rW (c := 0) (d := 999999) h178 rfl) (rW (c := (-1)) (d := 5) (rAdd (e := (-1)) (f := 4) h168 (rR (x := (-1))) rfl) rfl) (vc_X0_goBy_7 (nS h152) h166 h168)
        refine mr_lvS (lv' := [(0, .ref a0), (3, iv p1), (4, iv (f_c - 1))]) (List.forall_mem_cons.mpr ⟨rfl, List.forall_mem_cons.mpr ⟨rfl, List.forall_mem_cons.mpr ⟨rfl, fun _ h => absurd h List.not_mem_nil⟩⟩⟩) ?_
        exact L146 8 p1 (f_c - 1) μ92 T95 mF.refl hp1 (rSub (e := (-1)) (f := 5) h102 (rR (x := 1)) rfl) (vc_X0_goBy_8 h98 h111 h102 h112)
      have h179 : 1 ≤ z91 ∧ z91 ≤ 999999 := (vc_X0_goBy_9 h111 h98 h102 h94)
      refine sv_aload_n (pc := 16) dX0_goBy_16 rfl rfl ?_
      refine sv_dup (pc := 17) dX0_goBy_17 rfl ?_
      refine gk_X0_4 (pc := 18) dX0_goBy_18 wF_X0_37 hA0 q100 ?_
      refine mr_iconst (pc := 21) (z := 1) dX0_goBy_21 ?_
      refine mr_iadd (pc := 22) (x := f_c) (y := 1) dX0_goBy_22 ?_
      refine pf_X0_4 (pc := 23) dX0_goBy_23 wF_X0_37 hA0 T95 (vc_X0_goBy_10 h98 h111 h102 h179) fun μ180 u181 T182 => ?_
      refine mr_iload_n (pc := 26) (z := z91) dX0_goBy_26 rfl rfl ?_
      refine mr_bipush (pc := 27) (z := 10) dX0_goBy_27 (by decide) ?_
      refine mr_idiv (pc := 29) (x := z91) (y := 10) dX0_goBy_29 (rW (c := 0) (d := 2147483647) h179 rfl) vc_X11_isRule_6 ?_
      refine mr_gen (P := fun z => 0 ≤ z ∧ z ≤ 99999) (rDiv h179 rfl) fun z183 q184 h185 => ?_
      refine mr_istore_n (pc := 30) (lv' := [(3, iv z183), (0, .ref a0), (1, iv p1)]) dX0_goBy_30 rfl (by decide) rfl ?_
      refine sv_goto (pc := 31) (tgt := 12) dX0_goBy_31 (by decide) ?_
      refine mr_lvS (lv' := [(0, .ref a0), (1, iv p1), (3, iv z183)]) (List.forall_mem_cons.mpr ⟨rfl, List.forall_mem_cons.mpr ⟨rfl, List.forall_mem_cons.mpr ⟨rfl, fun _ h => absurd h List.not_mem_nil⟩⟩⟩) ?_
      exact ih101 z183 μ180 (f_c + 1) T182 (mF.up (mF.call mF.refl F96 rfl) hA0 u181 rfl) u181.1 (rW (c := 0) (d := 999999) h185 rfl) (vc_X0_goBy_11 h98 q184 h111 h102 h185 h179) (vc_X0_goBy_12 (nS h99) h98 h111 q184 h102 h185 h179)
  refine mr_lvS (lv' := [(0, .ref a0), (1, iv p1), (3, iv p1)]) (List.forall_mem_cons.mpr ⟨rfl, List.forall_mem_cons.mpr ⟨rfl, List.forall_mem_cons.mpr ⟨rfl, fun _ h => absurd h List.not_mem_nil⟩⟩⟩) ?_
  exact L93 1000000 p1 μ4 0 T6 mF.refl u5.1 hp1 (vc_X0_goBy_13 hp1) (vc_X0_goBy_14 hp1)
set_option maxRecDepth 4000 in
set_option maxHeartbeats 4000000 in
theorem c_X8_handOver {l : Launch} {D : va_G} {c : Nat → ClassId} {H0 : Heap} {sa : Nat × Nat × (Nat → Int32)} {w : mW} {μ : mM} (hw : mWF w) (hT : mT w μ) {a1 : Nat} (hA1 : mAt w a1 220) {p2 : Int} (hp2 : 0 ≤ p2 ∧ p2 ≤ 1) {p3 : Int} (hp3 : 0 ≤ p3 ∧ p3 ≤ 9) : sC (gG l D c H0 sa) mX8_handOver 4 0 0 [.ref 32, .ref a1, iv p2, iv p3] (mk w μ) (qV w [200002, 200003, 200004, 200005, 200006, 200007, 200008, 200009, 201999, 202999] μ (fun μ1 => True)) := by
  refine sC.of rfl (by decide) (le_t rfl) ?_
  refine mr_lvE (lv' := [(0, .ref 32), (1, .ref a1), (2, iv p2), (3, iv p3)]) rfl ?_
  refine sv_aload_n (pc := 0) dX8_handOver_0 rfl rfl ?_
  refine gf_X9_4 (pc := 1) dX8_handOver_1 wF_X8_96 hA1 hT fun A1 => ?_
  refine mr_iconst (pc := 4) (z := 1) dX8_handOver_4 ?_
  refine mr_iload_n (pc := 5) (z := p2) dX8_handOver_5 rfl rfl ?_
  refine mr_isub (pc := 6) (x := 1) (y := p2) dX8_handOver_6 ?_
  refine mr_iload_n (pc := 7) (z := p3) dX8_handOver_7 rfl rfl ?_
  refine mr_cSP (pc := 8) (c_X9_placeOf hw hT (rSub (e := 0) (f := 1) (rR (x := 1)) hp2 rfl) hp3) (gOk _ _ _ _ _) dX8_handOver_8 (tX9_placeOf _ _ _ _ _) wS_X9_placeOf wM_X8_99 ⟨le_t rfl, le_t rfl⟩ ⟨le_t rfl, le_t rfl⟩ rfl (le_t rfl) fun z6 h5 => ?_
  refine la_222 (pc := 11) dX8_handOver_11 A1 hT (rIx (n := 20) h5.1 rfl) fun b7 q8 A9 => ?_
  refine mr_astore (pc := 12) (lv' := [(4, .ref b7), (0, .ref 32), (1, .ref a1), (2, iv p2), (3, iv p3)]) dX8_handOver_12 (by decide) rfl ?_
  refine sv_aload (pc := 14) dX8_handOver_14 rfl ?_
  refine sv_aload_n (pc := 16) dX8_handOver_16 rfl rfl ?_
  refine gf_X9_5 (pc := 17) dX8_handOver_17 wF_X8_103 hA1 hT fun A10 => ?_
  refine mr_iload_n (pc := 20) (z := p2) dX8_handOver_20 rfl rfl ?_
  refine mr_iload_n (pc := 21) (z := p3) dX8_handOver_21 rfl rfl ?_
  refine mr_cSP (pc := 22) (c_X9_placeOf hw hT hp2 hp3) (gOk _ _ _ _ _) dX8_handOver_22 (tX9_placeOf _ _ _ _ _) wS_X9_placeOf wM_X8_99 ⟨le_t rfl, le_t rfl⟩ ⟨le_t rfl, le_t rfl⟩ rfl (le_t rfl) fun z15 h14 => ?_
  refine la_223 (pc := 25) dX8_handOver_25 A10 hT (rIx (n := 20) h14.1 rfl) fun b16 q17 A18 => ?_
  refine mr_cVV (pc := 26) (c_X7_become hw hT A9 A18) (gOk _ _ _ _ _) dX8_handOver_26 (tX7_become _ _ _ _ _) ⟨wV_X7_become, wL_X7_become⟩ wM_X8_106 (gCX7 _ _ _ _ _) rfl A9 rfl ⟨le_t rfl, le_t rfl⟩ ⟨le_t rfl, le_t rfl⟩ rfl (le_t rfl) fun μ19 T20 F21 h22 => ?_
  refine sv_aload (pc := 29) dX8_handOver_29 rfl ?_
  refine sv_aload_n (pc := 31) dX8_handOver_31 rfl rfl ?_
  refine gf_X8_11 (pc := 32) dX8_handOver_32 wF_X8_62 (A_32 hw) T20 fun z23 q24 h25 => ?_
  refine pf_X7_9 (pc := 35) dX8_handOver_35 wF_X8_110 A9 T20 h25 fun μ26 u27 T28 => ?_
  exact mr_vret dX8_handOver_38 rfl (le_t rfl) (le_t rfl) T28 (mF.up (mF.call mF.refl F21 rfl) A9 u27 rfl) trivial
theorem vc_X8_compose_3 {n1 p2 z21 : Int} (h0 : z21 = p2) (h1 : (0 ≤ z21 → z21 < n1)) (h2 : 0 ≤ p2 ∧ p2 ≤ 19) (h3 : (-99999999) ≤ z21 ∧ z21 ≤ 19) (h4 : z21 = -99999999 ∨ z21 = -4 ∨ (0 ≤ z21 ∧ z21 ≤ 19)) : 0 ≤ z21 ∧ z21 ≤ 19 := by omega
set_option maxRecDepth 4000 in
set_option maxHeartbeats 4000000 in
theorem c_X8_compose {l : Launch} {D : va_G} {c : Nat → ClassId} {H0 : Heap} {sa : Nat × Nat × (Nat → Int32)} {w : mW} {μ : mM} (hw : mWF w) (hT : mT w μ) {a1 : Nat} (hA1 : mAt w a1 220) {p2 : Int} (hp2 : 0 ≤ p2 ∧ p2 ≤ 19) {p3 : Int} (hp3 : 0 ≤ p3 ∧ p3 ≤ 1) {p4 : Int} (hp4 : 0 ≤ p4 ∧ p4 ≤ 9) : sC (gG l D c H0 sa) mX8_compose 4 0 0 [.ref 32, .ref a1, iv p2, iv p3, iv p4] (mk w μ) (qV w [200002, 200003, 200004, 200005, 200006, 200007, 200008, 201999, 202999] μ (fun μ1 => True)) := by
  refine sC.of rfl (by decide) (le_t rfl) ?_
  refine mr_lvE (lv' := [(0, .ref 32), (1, .ref a1), (2, iv p2), (3, iv p3), (4, iv p4)]) rfl ?_
  refine sv_aload_n (pc := 0) dX8_compose_0 rfl rfl ?_
  refine mr_iload_n (pc := 1) (z := p3) dX8_compose_1 rfl rfl ?_
  refine mr_cVP (pc := 2) (c_X9_end hw hT hA1 (rW (c := (-2147483648)) (d := 2147483647) hp3 rfl)) (gOk _ _ _ _ _) dX8_compose_2 (tX9_end _ _ _ _ _) ⟨wV_X9_end, wL_X9_end⟩ wM_X8_86 (gCX9 _ _ _ _ _) rfl hA1 rfl ⟨le_t rfl, le_t rfl⟩ ⟨le_t rfl, le_t rfl⟩ rfl (le_t rfl) fun z5 h4 => ?_
  refine mr_istore (pc := 5) (lv' := [(5, iv z5), (0, .ref 32), (1, .ref a1), (2, iv p2), (3, iv p3), (4, iv p4)]) dX8_compose_5 (by decide) rfl ?_
  refine sv_aload_n (pc := 7) dX8_compose_7 rfl rfl ?_
  refine gf_X8_0 (pc := 8) dX8_compose_8 wF_X8_9 (A_32 hw) hT ?_
  refine gf_X10_3 (pc := 11) dX8_compose_11 wF_X8_162 (A_6 hw) hT ?_
  refine mr_iload (pc := 14) (z := z5) dX8_compose_14 rfl ?_
  refine la_10 (pc := 16) dX8_compose_16 (A_10 hw) hT (rIx (n := 10) h4.1 rfl) (vc_X9_end_1 h4.2.1 h4.1) fun b6 q7 A8 => ?_
  refine mr_astore (pc := 17) (lv' := [(6, .ref b6), (5, iv z5), (0, .ref 32), (1, .ref a1), (2, iv p2), (3, iv p3), (4, iv p4)]) dX8_compose_17 (by decide) rfl ?_
  refine sv_aload_n (pc := 19) dX8_compose_19 rfl rfl ?_
  refine gf_X8_8 (pc := 20) dX8_compose_20 wF_X8_49 (A_32 hw) hT ?_
  refine sv_aload (pc := 23) dX8_compose_23 rfl ?_
  refine gf_X0_3 (pc := 25) dX8_compose_25 wF_X8_193 A8 hT fun A9 => ?_
  refine mr_iload (pc := 28) (z := p4) dX8_compose_28 rfl ?_
  refine la_214 (pc := 30) dX8_compose_30 A9 hT (rIx (n := 10) hp4 rfl) fun b10 q11 A12 => ?_
  refine mr_cVV (pc := 31) (c_X7_become hw hT (A_73 hw) A12) (gOk _ _ _ _ _) dX8_compose_31 (tX7_become _ _ _ _ _) ⟨wV_X7_become, wL_X7_become⟩ wM_X8_106 (gCX7 _ _ _ _ _) rfl (A_73 hw) rfl ⟨le_t rfl, le_t rfl⟩ ⟨le_t rfl, le_t rfl⟩ rfl (le_t rfl) fun μ13 T14 F15 h16 => ?_
  refine sv_aload_n (pc := 34) dX8_compose_34 rfl rfl ?_
  refine gf_X8_8 (pc := 35) dX8_compose_35 wF_X8_49 (A_32 hw) T14 ?_
  refine mr_bipush (pc := 38) (z := 100) dX8_compose_38 (by decide) ?_
  refine pf_X7_4 (pc := 40) dX8_compose_40 wF_X8_260 (A_73 hw) T14 (rW (c := (-2147483648)) (d := 2147483647) (rR (x := 100)) rfl) fun μ17 u18 T19 => ?_
  refine sv_aload (pc := 43) dX8_compose_43 rfl ?_
  refine gf_X0_2 (pc := 45) dX8_compose_45 wF_X8_190 A8 T19 fun A20 => ?_
  refine mr_iload (pc := 48) (z := p4) dX8_compose_48 rfl ?_
  refine la_213 (pc := 50) dX8_compose_50 A20 T19 (rIx (n := 10) hp4 rfl) fun z21 q22 h23 => ?_
  have h24 : (-99999999) ≤ z21 ∧ z21 ≤ 19 := (vc_X12_sends_3 h23.1)
  refine mr_iload_n (pc := 51) (z := p2) dX8_compose_51 rfl rfl ?_
  refine mr_icmp_eq (pc := 52) (tgt := 68) dX8_compose_52 (by decide) (r32 h24 rfl) (r32 hp2 rfl) (fun h39 => ?_) (fun h39 => ?_)
  · have h40 : 0 ≤ z21 ∧ z21 ≤ 19 := (vc_X8_compose_3 h39 h23.2 hp2 h24 h23.1)
    refine sv_aload_n (pc := 68) dX8_compose_68 rfl rfl ?_
    refine gf_X8_8 (pc := 69) dX8_compose_69 wF_X8_49 (A_32 hw) T19 ?_
    refine mr_iconst (pc := 72) (z := 0) dX8_compose_72 ?_
    refine pf_X7_2 (pc := 73) dX8_compose_73 wF_X8_203 (A_73 hw) T19 (rW (c := 0) (d := 1) (rR (x := 0)) rfl) fun μ41 u42 T43 => ?_
    exact mr_vret dX8_compose_76 rfl (le_t rfl) (le_t rfl) T43 (mF.up (mF.up (mF.call mF.refl F15 rfl) (A_73 hw) u18 rfl) (A_73 hw) u42 rfl) trivial
  refine sv_aload_n (pc := 55) dX8_compose_55 rfl rfl ?_
  refine gf_X8_8 (pc := 56) dX8_compose_56 wF_X8_49 (A_32 hw) T19 ?_
  refine mr_iload (pc := 59) (z := z5) dX8_compose_59 rfl ?_
  refine mr_iconst (pc := 61) (z := 1) dX8_compose_61 ?_
  refine mr_cVI (pc := 62) (c_X7_putInFront hw T19 (A_73 hw) (rW (c := (-2147483648)) (d := 2147483647) h4.1 rfl) (rW (c := (-2147483648)) (d := 1000000) (rR (x := 1)) rfl)) (gOk _ _ _ _ _) dX8_compose_62 (tX7_putInFront _ _ _ _ _) ⟨wV_X7_putInFront, wL_X7_putInFront⟩ wM_X8_272 (gCX7 _ _ _ _ _) rfl (A_73 hw) rfl ⟨le_t rfl, le_t rfl⟩ ⟨le_t rfl, le_t rfl⟩ rfl (le_t rfl) fun z48 μ44 T45 F46 h47 => ?_
  refine mr_if_ne (pc := 65) (tgt := 76) dX8_compose_65 (by decide) (r32 h47.1 rfl) (fun h54 => ?_) (fun h54 => ?_)
  · have h55 : 1 ≤ z48 ∧ z48 ≤ 1 := (vc_X12_letWay_11 h54 h47.1)
    exact mr_vret dX8_compose_76 rfl (le_t rfl) (le_t rfl) T45 (mF.call (mF.up (mF.call mF.refl F15 rfl) (A_73 hw) u18 rfl) F46 rfl) trivial
  have h56 : 0 ≤ z48 ∧ z48 ≤ 0 := (vc_X12_letWay_6 h54 h47.1)
  refine sv_aload_n (pc := 68) dX8_compose_68 rfl rfl ?_
  refine gf_X8_8 (pc := 69) dX8_compose_69 wF_X8_49 (A_32 hw) T45 ?_
  refine mr_iconst (pc := 72) (z := 0) dX8_compose_72 ?_
  refine pf_X7_2 (pc := 73) dX8_compose_73 wF_X8_203 (A_73 hw) T45 (rW (c := 0) (d := 1) (rR (x := 0)) rfl) fun μ57 u58 T59 => ?_
  exact mr_vret dX8_compose_76 rfl (le_t rfl) (le_t rfl) T59 (mF.up (mF.call (mF.up (mF.call mF.refl F15 rfl) (A_73 hw) u18 rfl) F46 rfl) (A_73 hw) u58 rfl) trivial
theorem vc_X8_say_1 {n1 p1 : Int} (h0 : p1 < n1) (h1 : 0 ≤ p1 ∧ p1 ≤ 19) : p1 < n1 := by omega
theorem vc_X8_say_4 {z58 : Int} (h0 : z58 = (-1)) (h1 : (-1) ≤ z58 ∧ z58 ≤ 2000000000) : (-1) ≤ z58 ∧ z58 ≤ (-1) := by omega
theorem vc_X8_say_5 {n1 p1 p2 p3 z77 : Int} (h0 : z77 = ((((40 * p1) + (20 * p2)) + (2 * p3)) + 0)) (h1 : p1 < n1) (h2 : 0 ≤ p1 ∧ p1 ≤ 19) (h3 : 0 ≤ p2 ∧ p2 ≤ 1) (h4 : 0 ≤ p3 ∧ p3 ≤ 9) (h5 : 0 ≤ z77 ∧ z77 ≤ 839) : 0 ≤ z77 ∧ z77 ≤ 798 := by omega
theorem vc_X8_say_6 {n1 p1 p2 p3 z77 : Int} (h0 : p1 < n1) (h1 : z77 = ((((40 * p1) + (20 * p2)) + (2 * p3)) + 0)) (h2 : 0 ≤ p1 ∧ p1 ≤ 19) (h3 : 0 ≤ p2 ∧ p2 ≤ 1) (h4 : 0 ≤ p3 ∧ p3 ≤ 9) (h5 : 0 ≤ z77 ∧ z77 ≤ 798) : z77 < 40 * n1 := by omega
theorem vc_X8_say_7 {z58 : Int} (h0 : ¬ z58 = (-1)) (h1 : (-1) ≤ z58 ∧ z58 ≤ 2000000000) : 0 ≤ z58 ∧ z58 ≤ 2000000000 := by omega
theorem vc_X8_say_8 {z58 z91 z94 : Int} (h0 : (z58 + z94) ≤ z91) (h1 : ¬ z58 = (-1)) (h2 : 0 ≤ z58 ∧ z58 ≤ 2000000000) (h3 : (-1) ≤ z91 ∧ z91 ≤ 2000000000) (h4 : 0 ≤ z94 ∧ z94 ≤ 1000) : 0 ≤ z91 ∧ z91 ≤ 2000000000 := by omega
theorem vc_X8_say_11 {n1 p1 p2 p3 z127 : Int} (h0 : z127 = ((((40 * p1) + (20 * p2)) + (2 * p3)) + 1)) (h1 : p1 < n1) (h2 : 0 ≤ p1 ∧ p1 ≤ 19) (h3 : 0 ≤ p2 ∧ p2 ≤ 1) (h4 : 0 ≤ p3 ∧ p3 ≤ 9) (h5 : 0 ≤ z127 ∧ z127 ≤ 839) : 1 ≤ z127 ∧ z127 ≤ 799 := by omega
theorem vc_X8_say_14 {n1 p1 p2 p3 z127 : Int} (h0 : p1 < n1) (h1 : z127 = ((((40 * p1) + (20 * p2)) + (2 * p3)) + 1)) (h2 : 0 ≤ p1 ∧ p1 ≤ 19) (h3 : 0 ≤ p2 ∧ p2 ≤ 1) (h4 : 0 ≤ p3 ∧ p3 ≤ 9) (h5 : 1 ≤ z127 ∧ z127 ≤ 799) : z127 < 40 * n1 := by omega
theorem vc_X8_say_18 {z150 : Int} (h0 : z150 = -99999999 ∨ (0 ≤ z150 ∧ z150 ≤ 11)) : -99999999 ≤ z150 ∧ z150 ≤ 11 := by omega
set_option maxRecDepth 4000 in
set_option maxHeartbeats 4000000 in
theorem c_X8_say {l : Launch} {D : va_G} {c : Nat → ClassId} {H0 : Heap} {sa : Nat × Nat × (Nat → Int32)} {w : mW} {μ : mM} (hw : mWF w) (hT : mT w μ) {p1 : Int} (hp1 : 0 ≤ p1 ∧ p1 ≤ 19) {p2 : Int} (hp2 : 0 ≤ p2 ∧ p2 ≤ 1) {p3 : Int} (hp3 : 0 ≤ p3 ∧ p3 ≤ 9) (hq0 : p1 < w.2.2.2 1) (hIPC : PC w μ) : sC (gG l D c H0 sa) mX8_say 41 0 0 [.ref 32, iv p1, iv p2, iv p3] (mk w μ) (qV w [21002, 21003, 21004, 21005, 21006, 21007, 32010, 33999, 34999, 200002, 200003, 200004, 200005, 200006, 200007, 200008, 200009, 201999, 202999] μ (fun μ1 => True)) := by
  refine sC.of rfl (by decide) (le_t rfl) ?_
  refine mr_lvE (lv' := [(0, .ref 32), (1, iv p1), (2, iv p2), (3, iv p3)]) rfl ?_
  refine sv_aload_n (pc := 0) dX8_say_0 rfl rfl ?_
  refine gf_X8_0 (pc := 1) dX8_say_1 wF_X8_9 (A_32 hw) hT ?_
  refine gf_X10_4 (pc := 4) dX8_say_4 wF_X8_76 (A_6 hw) hT ?_
  refine mr_iload_n (pc := 7) (z := p1) dX8_say_7 rfl rfl ?_
  refine la_11 (pc := 8) dX8_say_8 (A_11 hw) hT (rIx (n := 20) hp1 rfl) (vc_X8_say_1 hq0 hp1) fun b1 q2 A3 => ?_
  refine mr_astore (pc := 9) (lv' := [(4, .ref b1), (0, .ref 32), (1, iv p1), (2, iv p2), (3, iv p3)]) dX8_say_9 (by decide) rfl ?_
  refine sv_aload (pc := 11) dX8_say_11 rfl ?_
  refine gf_X9_6 (pc := 13) dX8_say_13 wF_X8_136 A3 hT fun z4 q5 h6 => ?_
  refine mr_if_ne (pc := 16) (tgt := 20) dX8_say_16 (by decide) (r32 h6 rfl) (fun h7 => ?_) (fun h7 => ?_)
  · have h8 : 1 ≤ z4 ∧ z4 ≤ 1 := (vc_X12_letWay_11 h7 h6)
    refine sv_aload_n (pc := 20) dX8_say_20 rfl rfl ?_
    refine sv_aload (pc := 21) dX8_say_21 rfl ?_
    refine mr_iload_n (pc := 23) (z := p1) dX8_say_23 rfl rfl ?_
    refine mr_iload_n (pc := 24) (z := p2) dX8_say_24 rfl rfl ?_
    refine mr_iload_n (pc := 25) (z := p3) dX8_say_25 rfl rfl ?_
    refine mr_cVV (pc := 26) (c_X8_compose hw hT A3 hp1 hp2 hp3) (gOk _ _ _ _ _) dX8_say_26 (tX8_compose _ _ _ _ _) ⟨wV_X8_compose, wL_X8_compose⟩ wM_X8_256 (gCX8 _ _ _ _ _) rfl (A_32 hw) rfl ⟨le_t rfl, le_t rfl⟩ ⟨le_t rfl, le_t rfl⟩ rfl (le_t rfl) fun μ9 T10 F11 h12 => ?_
    refine sv_aload_n (pc := 29) dX8_say_29 rfl rfl ?_
    refine gf_X8_8 (pc := 30) dX8_say_30 wF_X8_49 (A_32 hw) T10 ?_
    refine gf_X7_2 (pc := 33) dX8_say_33 wF_X8_203 (A_73 hw) T10 fun z13 q14 h15 => ?_
    have J38 : ∀ (μ33 : mM), (mT w μ33) → (mF [21002, 21003, 21004, 21005, 21006, 21007, 200002, 200004, 200006, 200007, 200008, 201999, 202999] w μ9 μ33) → (PC w μ33) → sV (gG l D c H0 sa) mX8_say (sRm 41 0 0) (sZ (gG l D c H0 sa) 0 0 (qV w [21002, 21003, 21004, 21005, 21006, 21007, 32010, 33999, 34999, 200002, 200003, 200004, 200005, 200006, 200007, 200008, 200009, 201999, 202999] μ (fun μ1 => True))) 75 [(0, .ref 32), (1, iv p1), (2, iv p2), (3, iv p3), (4, .ref b1)] [] (mk w μ33) 0 0 := by
      intro μ33 T34 F35 I37
      refine sv_aload_n (pc := 75) dX8_say_75 rfl rfl ?_
      refine gf_X8_8 (pc := 76) dX8_say_76 wF_X8_49 (A_32 hw) T34 ?_
      refine mr_bipush (pc := 79) (z := 100) dX8_say_79 (by decide) ?_
      refine pf_X7_4 (pc := 81) dX8_say_81 wF_X8_260 (A_73 hw) T34 (rW (c := (-2147483648)) (d := 2147483647) (rR (x := 100)) rfl) fun μ39 u40 T41 => ?_
      refine sv_aload (pc := 84) dX8_say_84 rfl ?_
      refine gf_X9_5 (pc := 86) dX8_say_86 wF_X8_103 A3 T41 fun A42 => ?_
      refine mr_iload_n (pc := 89) (z := p2) dX8_say_89 rfl rfl ?_
      refine mr_iload_n (pc := 90) (z := p3) dX8_say_90 rfl rfl ?_
      refine mr_cSP (pc := 91) (c_X9_placeOf hw T41 hp2 hp3) (gOk _ _ _ _ _) dX8_say_91 (tX9_placeOf _ _ _ _ _) wS_X9_placeOf wM_X8_99 ⟨le_t rfl, le_t rfl⟩ ⟨le_t rfl, le_t rfl⟩ rfl (le_t rfl) fun z47 h46 => ?_
      refine la_223 (pc := 94) dX8_say_94 A42 T41 (rIx (n := 20) h46.1 rfl) fun b48 q49 A50 => ?_
      refine mr_astore (pc := 95) (lv' := [(5, .ref b48), (0, .ref 32), (1, iv p1), (2, iv p2), (3, iv p3), (4, .ref b1)]) dX8_say_95 (by decide) rfl ?_
      refine sv_aload_n (pc := 97) dX8_say_97 rfl rfl ?_
      refine gf_X8_8 (pc := 98) dX8_say_98 wF_X8_49 (A_32 hw) T41 ?_
      refine sv_aload (pc := 101) dX8_say_101 rfl ?_
      refine mr_cVP (pc := 103) (c_X7_isAlike hw T41 (A_73 hw) A50) (gOk _ _ _ _ _) dX8_say_103 (tX7_isAlike _ _ _ _ _) ⟨wV_X7_isAlike, wL_X7_isAlike⟩ wM_X8_196 (gCX7 _ _ _ _ _) rfl (A_73 hw) rfl ⟨le_t rfl, le_t rfl⟩ ⟨le_t rfl, le_t rfl⟩ rfl (le_t rfl) fun z55 h54 => ?_
      refine mr_if_eq (pc := 106) (tgt := 110) dX8_say_106 (by decide) (r32 h54.1 rfl) (fun h56 => ?_) (fun h56 => ?_)
      · have h57 : 0 ≤ z55 ∧ z55 ≤ 0 := (vc_X12_letWay_6 h56 h54.1)
        refine sv_aload (pc := 110) dX8_say_110 rfl ?_
        refine gf_X7_9 (pc := 112) dX8_say_112 wF_X8_110 A50 T41 fun z58 q59 h60 => ?_
        refine mr_iconst (pc := 115) (z := (-1)) dX8_say_115 ?_
        refine mr_icmp_eq (pc := 116) (tgt := 175) dX8_say_116 (by decide) (r32 h60 rfl) (r32 (rR (x := (-1))) rfl) (fun h61 => ?_) (fun h61 => ?_)
        · have h62 : (-1) ≤ z58 ∧ z58 ≤ (-1) := (vc_X8_say_4 h61 h60)
          refine sv_aload (pc := 175) dX8_say_175 rfl ?_
          refine sv_aload_n (pc := 177) dX8_say_177 rfl rfl ?_
          refine gf_X8_8 (pc := 178) dX8_say_178 wF_X8_49 (A_32 hw) T41 ?_
          refine mr_cVV (pc := 181) (c_X7_become hw T41 A50 (A_73 hw)) (gOk _ _ _ _ _) dX8_say_181 (tX7_become _ _ _ _ _) ⟨wV_X7_become, wL_X7_become⟩ wM_X8_106 (gCX7 _ _ _ _ _) rfl A50 rfl ⟨le_t rfl, le_t rfl⟩ ⟨le_t rfl, le_t rfl⟩ rfl (le_t rfl) fun μ63 T64 F65 h66 => ?_
          refine sv_aload (pc := 184) dX8_say_184 rfl ?_
          refine sv_aload_n (pc := 186) dX8_say_186 rfl rfl ?_
          refine gf_X8_11 (pc := 187) dX8_say_187 wF_X8_62 (A_32 hw) T64 fun z67 q68 h69 => ?_
          refine pf_X7_9 (pc := 190) dX8_say_190 wF_X8_110 A50 T64 h69 fun μ70 u71 T72 => ?_
          refine mr_iload_n (pc := 193) (z := p1) dX8_say_193 rfl rfl ?_
          refine mr_iload_n (pc := 194) (z := p2) dX8_say_194 rfl rfl ?_
          refine mr_iload_n (pc := 195) (z := p3) dX8_say_195 rfl rfl ?_
          refine mr_iconst (pc := 196) (z := 0) dX8_say_196 ?_
          refine mr_cSP (pc := 197) (c_X8_slotOf hw T72 (rW (c := 0) (d := 20) hp1 rfl) hp2 hp3 (rW (c := 0) (d := 1) (rR (x := 0)) rfl)) (gOk _ _ _ _ _) dX8_say_197 (tX8_slotOf _ _ _ _ _) wS_X8_slotOf wM_X8_143 ⟨le_t rfl, le_t rfl⟩ ⟨le_t rfl, le_t rfl⟩ rfl (le_t rfl) fun z77 h76 => ?_
          have h78 : 0 ≤ z77 ∧ z77 ≤ 798 := (vc_X8_say_5 h76.2.1 hq0 hp1 hp2 hp3 h76.1)
          refine mr_istore (pc := 200) (lv' := [(6, iv z77), (5, .ref b48), (0, .ref 32), (1, iv p1), (2, iv p2), (3, iv p3), (4, .ref b1)]) dX8_say_200 (by decide) rfl ?_
          refine sv_aload_n (pc := 202) dX8_say_202 rfl rfl ?_
          refine mr_iload (pc := 203) (z := z77) dX8_say_203 rfl ?_
          refine mr_cVV (pc := 205) (c_X8_cancel hw T72 (rW (c := 0) (d := 799) h78 rfl)) (gOk _ _ _ _ _) dX8_say_205 (tX8_cancel _ _ _ _ _) ⟨wV_X8_cancel, wL_X8_cancel⟩ wM_X8_65 (gCX8 _ _ _ _ _) rfl (A_32 hw) rfl ⟨le_t rfl, le_t rfl⟩ ⟨le_t rfl, le_t rfl⟩ rfl (le_t rfl) fun μ79 T80 F81 h82 => ?_
          refine sv_aload_n (pc := 208) dX8_say_208 rfl rfl ?_
          refine mr_iload (pc := 209) (z := z77) dX8_say_209 rfl ?_
          refine sv_aload_n (pc := 211) dX8_say_211 rfl rfl ?_
          refine gk_X8_11 (pc := 212) dX8_say_212 wF_X8_62 (A_32 hw) (F81.f (A_32 hw) rfl (u71.f (Or.inl (mAt.ne A50 (A_32 hw) rfl)) q68)) ?_
          refine sv_aload (pc := 215) dX8_say_215 rfl ?_
          refine gf_X9_7 (pc := 217) dX8_say_217 wF_X8_269 A3 T80 fun z83 q84 h85 => ?_
          refine mr_iadd (pc := 220) (x := z67) (y := z83) dX8_say_220 ?_
          refine mr_cVV (pc := 221) (c_X8_schedule hw T80 (rW (c := 0) (d := 799) h78 rfl) (rAdd (e := (-1)) (f := 2000001000) h69 h85 rfl) (vc_X8_say_6 hq0 h76.2.1 hp1 hp2 hp3 h78)) (gOk _ _ _ _ _) dX8_say_221 (tX8_schedule _ _ _ _ _) ⟨wV_X8_schedule, wL_X8_schedule⟩ wM_X8_266 (gCX8 _ _ _ _ _) rfl (A_32 hw) rfl ⟨le_t rfl, le_t rfl⟩ ⟨le_t rfl, le_t rfl⟩ rfl (le_t rfl) fun μ86 T87 F88 h89 => ?_
          exact mr_vret dX8_say_224 rfl (le_t rfl) (le_t rfl) T87 (mF.call (mF.call (mF.up (mF.call (mF.up (mF.call (mF.call mF.refl F11 rfl) F35 rfl) (A_73 hw) u40 rfl) F65 rfl) A50 u71 rfl) F81 rfl) F88 rfl) trivial
        have h90 : 0 ≤ z58 ∧ z58 ≤ 2000000000 := (vc_X8_say_7 h61 h60)
        refine sv_aload_n (pc := 119) dX8_say_119 rfl rfl ?_
        refine gf_X8_11 (pc := 120) dX8_say_120 wF_X8_62 (A_32 hw) T41 fun z91 q92 h93 => ?_
        refine sv_aload (pc := 123) dX8_say_123 rfl ?_
        refine gk_X7_9 (pc := 125) dX8_say_125 wF_X8_110 A50 q59 ?_
        refine sv_aload (pc := 128) dX8_say_128 rfl ?_
        refine gf_X9_8 (pc := 130) dX8_say_130 wF_X8_263 A3 T41 fun z94 q95 h96 => ?_
        refine mr_iadd (pc := 133) (x := z58) (y := z94) dX8_say_133 ?_
        refine mr_icmp_ge (pc := 134) (tgt := 175) dX8_say_134 (by decide) (r32 h93 rfl) (r32 (rAdd (e := 0) (f := 2000001000) h90 h96 rfl) rfl) (fun h97 => ?_) (fun h97 => ?_)
        · have h98 : 0 ≤ z91 ∧ z91 ≤ 2000000000 := (vc_X8_say_8 h97 h61 h90 h93 h96)
          refine sv_aload (pc := 175) dX8_say_175 rfl ?_
          refine sv_aload_n (pc := 177) dX8_say_177 rfl rfl ?_
          refine gf_X8_8 (pc := 178) dX8_say_178 wF_X8_49 (A_32 hw) T41 ?_
          refine mr_cVV (pc := 181) (c_X7_become hw T41 A50 (A_73 hw)) (gOk _ _ _ _ _) dX8_say_181 (tX7_become _ _ _ _ _) ⟨wV_X7_become, wL_X7_become⟩ wM_X8_106 (gCX7 _ _ _ _ _) rfl A50 rfl ⟨le_t rfl, le_t rfl⟩ ⟨le_t rfl, le_t rfl⟩ rfl (le_t rfl) fun μ99 T100 F101 h102 => ?_
          refine sv_aload (pc := 184) dX8_say_184 rfl ?_
          refine sv_aload_n (pc := 186) dX8_say_186 rfl rfl ?_
          refine gk_X8_11 (pc := 187) dX8_say_187 wF_X8_62 (A_32 hw) (F101.f (A_32 hw) rfl q92) ?_
          refine pf_X7_9 (pc := 190) dX8_say_190 wF_X8_110 A50 T100 (rW (c := (-1)) (d := 2000000000) h98 rfl) fun μ103 u104 T105 => ?_
          refine mr_iload_n (pc := 193) (z := p1) dX8_say_193 rfl rfl ?_
          refine mr_iload_n (pc := 194) (z := p2) dX8_say_194 rfl rfl ?_
          refine mr_iload_n (pc := 195) (z := p3) dX8_say_195 rfl rfl ?_
          refine mr_iconst (pc := 196) (z := 0) dX8_say_196 ?_
          refine mr_cSP (pc := 197) (c_X8_slotOf hw T105 (rW (c := 0) (d := 20) hp1 rfl) hp2 hp3 (rW (c := 0) (d := 1) (rR (x := 0)) rfl)) (gOk _ _ _ _ _) dX8_say_197 (tX8_slotOf _ _ _ _ _) wS_X8_slotOf wM_X8_143 ⟨le_t rfl, le_t rfl⟩ ⟨le_t rfl, le_t rfl⟩ rfl (le_t rfl) fun z110 h109 => ?_
          have h111 : 0 ≤ z110 ∧ z110 ≤ 798 := (vc_X8_say_5 h109.2.1 hq0 hp1 hp2 hp3 h109.1)
          refine mr_istore (pc := 200) (lv' := [(6, iv z110), (5, .ref b48), (0, .ref 32), (1, iv p1), (2, iv p2), (3, iv p3), (4, .ref b1)]) dX8_say_200 (by decide) rfl ?_
          refine sv_aload_n (pc := 202) dX8_say_202 rfl rfl ?_
          refine mr_iload (pc := 203) (z := z110) dX8_say_203 rfl ?_
          refine mr_cVV (pc := 205) (c_X8_cancel hw T105 (rW (c := 0) (d := 799) h111 rfl)) (gOk _ _ _ _ _) dX8_say_205 (tX8_cancel _ _ _ _ _) ⟨wV_X8_cancel, wL_X8_cancel⟩ wM_X8_65 (gCX8 _ _ _ _ _) rfl (A_32 hw) rfl ⟨le_t rfl, le_t rfl⟩ ⟨le_t rfl, le_t rfl⟩ rfl (le_t rfl) fun μ112 T113 F114 h115 => ?_
          refine sv_aload_n (pc := 208) dX8_say_208 rfl rfl ?_
          refine mr_iload (pc := 209) (z := z110) dX8_say_209 rfl ?_
          refine sv_aload_n (pc := 211) dX8_say_211 rfl rfl ?_
          refine gk_X8_11 (pc := 212) dX8_say_212 wF_X8_62 (A_32 hw) (F114.f (A_32 hw) rfl (u104.f (Or.inl (mAt.ne A50 (A_32 hw) rfl)) (F101.f (A_32 hw) rfl q92))) ?_
          refine sv_aload (pc := 215) dX8_say_215 rfl ?_
          refine gf_X9_7 (pc := 217) dX8_say_217 wF_X8_269 A3 T113 fun z116 q117 h118 => ?_
          refine mr_iadd (pc := 220) (x := z91) (y := z116) dX8_say_220 ?_
          refine mr_cVV (pc := 221) (c_X8_schedule hw T113 (rW (c := 0) (d := 799) h111 rfl) (rW (c := (-1)) (d := 2000001000) (rAdd (e := 0) (f := 2000001000) h98 h118 rfl) rfl) (vc_X8_say_6 hq0 h109.2.1 hp1 hp2 hp3 h111)) (gOk _ _ _ _ _) dX8_say_221 (tX8_schedule _ _ _ _ _) ⟨wV_X8_schedule, wL_X8_schedule⟩ wM_X8_266 (gCX8 _ _ _ _ _) rfl (A_32 hw) rfl ⟨le_t rfl, le_t rfl⟩ ⟨le_t rfl, le_t rfl⟩ rfl (le_t rfl) fun μ119 T120 F121 h122 => ?_
          exact mr_vret dX8_say_224 rfl (le_t rfl) (le_t rfl) T120 (mF.call (mF.call (mF.up (mF.call (mF.up (mF.call (mF.call mF.refl F11 rfl) F35 rfl) (A_73 hw) u40 rfl) F101 rfl) A50 u104 rfl) F114 rfl) F121 rfl) trivial
        refine mr_iload_n (pc := 137) (z := p1) dX8_say_137 rfl rfl ?_
        refine mr_iload_n (pc := 138) (z := p2) dX8_say_138 rfl rfl ?_
        refine mr_iload_n (pc := 139) (z := p3) dX8_say_139 rfl rfl ?_
        refine mr_iconst (pc := 140) (z := 1) dX8_say_140 ?_
        refine mr_cSP (pc := 141) (c_X8_slotOf hw T41 (rW (c := 0) (d := 20) hp1 rfl) hp2 hp3 (rW (c := 0) (d := 1) (rR (x := 1)) rfl)) (gOk _ _ _ _ _) dX8_say_141 (tX8_slotOf _ _ _ _ _) wS_X8_slotOf wM_X8_143 ⟨le_t rfl, le_t rfl⟩ ⟨le_t rfl, le_t rfl⟩ rfl (le_t rfl) fun z127 h126 => ?_
        have h128 : 1 ≤ z127 ∧ z127 ≤ 799 := (vc_X8_say_11 h126.2.1 hq0 hp1 hp2 hp3 h126.1)
        refine mr_istore (pc := 144) (lv' := [(6, iv z127), (5, .ref b48), (0, .ref 32), (1, iv p1), (2, iv p2), (3, iv p3), (4, .ref b1)]) dX8_say_144 (by decide) rfl ?_
        refine sv_aload_n (pc := 146) dX8_say_146 rfl rfl ?_
        refine gf_X8_3 (pc := 147) dX8_say_147 wF_X8_23 (A_32 hw) T41 ?_
        refine mr_iload (pc := 150) (z := z127) dX8_say_150 rfl ?_
        refine la_34 (pc := 152) dX8_say_152 (A_34 hw) T41 (rIx (n := 800) h128 rfl) fun z129 q130 h131 => ?_
        refine mr_iconst (pc := 153) (z := (-1)) dX8_say_153 ?_
        refine mr_icmp_ne (pc := 154) (tgt := 174) dX8_say_154 (by decide) (r32 h131 rfl) (r32 (rR (x := (-1))) rfl) (fun h138 => ?_) (fun h138 => ?_)
        · have h139 : 0 ≤ z129 ∧ z129 ≤ 2000001000 := (vc_X8_cancel_1 h138 h131)
          exact mr_vret dX8_say_174 rfl (le_t rfl) (le_t rfl) T41 (mF.up (mF.call (mF.call mF.refl F11 rfl) F35 rfl) (A_73 hw) u40 rfl) trivial
        have h140 : (-1) ≤ z129 ∧ z129 ≤ (-1) := (vc_X8_cancel_13 h138 h131)
        refine sv_aload_n (pc := 157) dX8_say_157 rfl rfl ?_
        refine mr_iload (pc := 158) (z := z127) dX8_say_158 rfl ?_
        refine sv_aload (pc := 160) dX8_say_160 rfl ?_
        refine gk_X7_9 (pc := 162) dX8_say_162 wF_X8_110 A50 q59 ?_
        refine sv_aload (pc := 165) dX8_say_165 rfl ?_
        refine gk_X9_8 (pc := 167) dX8_say_167 wF_X8_263 A3 q95 ?_
        refine mr_iadd (pc := 170) (x := z58) (y := z94) dX8_say_170 ?_
        refine mr_cVV (pc := 171) (c_X8_schedule hw T41 (rW (c := 0) (d := 799) h128 rfl) (rW (c := (-1)) (d := 2000001000) (rAdd (e := 0) (f := 2000001000) h90 h96 rfl) rfl) (vc_X8_say_14 hq0 h126.2.1 hp1 hp2 hp3 h128)) (gOk _ _ _ _ _) dX8_say_171 (tX8_schedule _ _ _ _ _) ⟨wV_X8_schedule, wL_X8_schedule⟩ wM_X8_266 (gCX8 _ _ _ _ _) rfl (A_32 hw) rfl ⟨le_t rfl, le_t rfl⟩ ⟨le_t rfl, le_t rfl⟩ rfl (le_t rfl) fun μ141 T142 F143 h144 => ?_
        exact mr_vret dX8_say_174 rfl (le_t rfl) (le_t rfl) T142 (mF.call (mF.up (mF.call (mF.call mF.refl F11 rfl) F35 rfl) (A_73 hw) u40 rfl) F143 rfl) trivial
      have h145 : 1 ≤ z55 ∧ z55 ≤ 1 := (vc_X12_letWay_11 h56 h54.1)
      exact mr_vret dX8_say_109 rfl (le_t rfl) (le_t rfl) T41 (mF.up (mF.call (mF.call mF.refl F11 rfl) F35 rfl) (A_73 hw) u40 rfl) trivial
    refine mr_if_eq (pc := 36) (tgt := 75) dX8_say_36 (by decide) (r32 h15 rfl) (fun h146 => ?_) (fun h146 => ?_)
    · have h147 : 0 ≤ z13 ∧ z13 ≤ 0 := (vc_X12_letWay_6 h146 h15)
      refine mr_lvS (lv' := [(0, .ref 32), (1, iv p1), (2, iv p2), (3, iv p3), (4, .ref b1)]) (List.forall_mem_cons.mpr ⟨rfl, List.forall_mem_cons.mpr ⟨rfl, List.forall_mem_cons.mpr ⟨rfl, List.forall_mem_cons.mpr ⟨rfl, List.forall_mem_cons.mpr ⟨rfl, fun _ h => absurd h List.not_mem_nil⟩⟩⟩⟩⟩) ?_
      exact J38 μ9 T10 mF.refl (PC.keep hIPC hw ((mF.call mF.refl F11 rfl) : mF [200002, 200003, 200004, 200005, 200006, 200007, 200008, 201999, 202999] w μ μ9) rfl)
    have h148 : 1 ≤ z13 ∧ z13 ≤ 1 := (vc_X12_letWay_11 h146 h15)
    refine sv_aload_n (pc := 39) dX8_say_39 rfl rfl ?_
    refine gf_X8_1 (pc := 40) dX8_say_40 wF_X8_15 (A_32 hw) T10 ?_
    refine sv_aload (pc := 43) dX8_say_43 rfl ?_
    refine gf_X9_3 (pc := 45) dX8_say_45 wF_X8_213 A3 T10 fun A149 => ?_
    refine mr_iload_n (pc := 48) (z := p2) dX8_say_48 rfl rfl ?_
    refine mr_iconst (pc := 49) (z := 2) dX8_say_49 ?_
    refine mr_imul (pc := 50) (x := p2) (y := 2) dX8_say_50 ?_
    refine mr_iconst (pc := 51) (z := 1) dX8_say_51 ?_
    refine mr_iadd (pc := 52) (x := (p2 * 2)) (y := 1) dX8_say_52 ?_
    refine la_221 (pc := 53) dX8_say_53 A149 T10 (rIx (n := 4) (rAdd (e := 1) (f := 3) (rMulR (n := 2) (e := 0) (f := 2) hp2 rfl) (rR (x := 1)) rfl) rfl) fun z150 q151 h152 => ?_
    have h153 : (-99999999) ≤ z150 ∧ z150 ≤ 11 := (vc_X8_say_18 h152)
    refine sv_aload_n (pc := 54) dX8_say_54 rfl rfl ?_
    refine gf_X8_8 (pc := 55) dX8_say_55 wF_X8_49 (A_32 hw) T10 ?_
    refine sv_aload (pc := 58) dX8_say_58 rfl ?_
    refine mr_iload_n (pc := 60) (z := p2) dX8_say_60 rfl rfl ?_
    refine mr_cVI (pc := 61) (c_X1_lets hw T10 (rW (c := (-2147483648)) (d := 2147483647) h153 rfl) (A_73 hw) A3 hp2 (PC.keep hIPC hw ((mF.call mF.refl F11 rfl) : mF [200002, 200003, 200004, 200005, 200006, 200007, 200008, 201999, 202999] w μ μ9) rfl)) (gOk _ _ _ _ _) dX8_say_61 (tX1_lets _ _ _ _ _) ⟨wV_X1_lets, wL_X1_lets⟩ wM_X8_216 (gCX1 _ _ _ _ _) rfl (A_21 hw) rfl ⟨le_t rfl, le_t rfl⟩ ⟨le_t rfl, le_t rfl⟩ rfl (le_t rfl) fun z158 μ154 T155 F156 h157 => ?_
    refine mr_if_ne (pc := 64) (tgt := 75) dX8_say_64 (by decide) (r32 h157.1 rfl) (fun h159 => ?_) (fun h159 => ?_)
    · have h160 : 1 ≤ z158 ∧ z158 ≤ 1 := (vc_X12_letWay_11 h159 h157.1)
      refine mr_lvS (lv' := [(0, .ref 32), (1, iv p1), (2, iv p2), (3, iv p3), (4, .ref b1)]) (List.forall_mem_cons.mpr ⟨rfl, List.forall_mem_cons.mpr ⟨rfl, List.forall_mem_cons.mpr ⟨rfl, List.forall_mem_cons.mpr ⟨rfl, List.forall_mem_cons.mpr ⟨rfl, fun _ h => absurd h List.not_mem_nil⟩⟩⟩⟩⟩) ?_
      exact J38 μ154 T155 (mF.call mF.refl F156 rfl) (PC.keep hIPC hw ((mF.call (mF.call mF.refl F11 rfl) F156 rfl) : mF [21002, 21003, 21004, 21005, 21006, 21007, 200002, 200003, 200004, 200005, 200006, 200007, 200008, 201999, 202999] w μ μ154) rfl)
    have h161 : 0 ≤ z158 ∧ z158 ≤ 0 := (vc_X12_letWay_6 h159 h157.1)
    refine sv_aload_n (pc := 67) dX8_say_67 rfl rfl ?_
    refine gf_X8_8 (pc := 68) dX8_say_68 wF_X8_49 (A_32 hw) T155 ?_
    refine mr_iconst (pc := 71) (z := 0) dX8_say_71 ?_
    refine pf_X7_2 (pc := 72) dX8_say_72 wF_X8_203 (A_73 hw) T155 (rW (c := 0) (d := 1) (rR (x := 0)) rfl) fun μ162 u163 T164 => ?_
    refine mr_lvS (lv' := [(0, .ref 32), (1, iv p1), (2, iv p2), (3, iv p3), (4, .ref b1)]) (List.forall_mem_cons.mpr ⟨rfl, List.forall_mem_cons.mpr ⟨rfl, List.forall_mem_cons.mpr ⟨rfl, List.forall_mem_cons.mpr ⟨rfl, List.forall_mem_cons.mpr ⟨rfl, fun _ h => absurd h List.not_mem_nil⟩⟩⟩⟩⟩) ?_
    exact J38 μ162 T164 (mF.up (mF.call mF.refl F156 rfl) (A_73 hw) u163 rfl) (PC.keep hIPC hw ((mF.up (mF.call (mF.call mF.refl F11 rfl) F156 rfl) (A_73 hw) u163 rfl) : mF [21002, 21003, 21004, 21005, 21006, 21007, 200002, 200003, 200004, 200005, 200006, 200007, 200008, 201999, 202999] w μ μ162) rfl)
  have h165 : 0 ≤ z4 ∧ z4 ≤ 0 := (vc_X12_letWay_6 h7 h6)
  exact mr_vret dX8_say_19 rfl (le_t rfl) (le_t rfl) hT mF.refl trivial
set_option maxRecDepth 4000 in
set_option maxHeartbeats 4000000 in
theorem c_X8_sayAll {l : Launch} {D : va_G} {c : Nat → ClassId} {H0 : Heap} {sa : Nat × Nat × (Nat → Int32)} {w : mW} {μ : mM} (hw : mWF w) (hT : mT w μ) {p1 : Int} (hp1 : 0 ≤ p1 ∧ p1 ≤ 19) {p2 : Int} (hp2 : 0 ≤ p2 ∧ p2 ≤ 1) (hq0 : p1 < w.2.2.2 1) (hIPC : PC w μ) : sC (gG l D c H0 sa) mX8_sayAll 42 0 0 [.ref 32, iv p1, iv p2] (mk w μ) (qV w [21002, 21003, 21004, 21005, 21006, 21007, 32010, 33999, 34999, 200002, 200003, 200004, 200005, 200006, 200007, 200008, 200009, 201999, 202999] μ (fun μ1 => True)) := by
  refine sC.of rfl (by decide) (le_t rfl) ?_
  refine mr_lvE (lv' := [(0, .ref 32), (1, iv p1), (2, iv p2)]) rfl ?_
  refine mr_iconst (pc := 0) (z := 0) dX8_sayAll_0 ?_
  refine mr_istore_n (pc := 1) (lv' := [(3, iv 0), (0, .ref 32), (1, iv p1), (2, iv p2)]) dX8_sayAll_1 rfl (by decide) rfl ?_
  have L69 : ∀ (nL69 : Nat) (z67 : Int) (μ68 : mM), mT w μ68 → mF [21002, 21003, 21004, 21005, 21006, 21007, 32010, 33999, 34999, 200002, 200003, 200004, 200005, 200006, 200007, 200008, 200009, 201999, 202999] w μ μ68 → (0 ≤ z67 ∧ z67 ≤ 10) → PC w μ68 → (11 - z67) < (nL69 : Int) → sV (gG l D c H0 sa) mX8_sayAll (sRm 42 0 0) (sZ (gG l D c H0 sa) 0 0 (qV w [21002, 21003, 21004, 21005, 21006, 21007, 32010, 33999, 34999, 200002, 200003, 200004, 200005, 200006, 200007, 200008, 200009, 201999, 202999] μ (fun μ1 => True))) 2 [(0, .ref 32), (1, iv p1), (2, iv p2), (3, iv z67)] [] (mk w μ68) 0 0 := by
    intro nL69
    induction nL69 with
    | zero => intro z67 μ68 T71 F72 h70 I74 h75; exact ((vc_X12_sends_1 h75 h70)).elim
    | succ nL69 ih76 =>
      intro z67 μ68 T71 F72 h70 I74 h75
      refine mr_iload_n (pc := 2) (z := z67) dX8_sayAll_2 rfl rfl ?_
      refine sv_aload_n (pc := 3) dX8_sayAll_3 rfl rfl ?_
      refine gf_X8_0 (pc := 4) dX8_sayAll_4 wF_X8_9 (A_32 hw) T71 ?_
      refine gf_X10_14 (pc := 7) dX8_sayAll_7 wF_X8_150 (A_6 hw) T71 fun z77 q78 h79 => ?_
      refine mr_icmp_ge (pc := 10) (tgt := 26) dX8_sayAll_10 (by decide) (r32 h70 rfl) (r32 h79 rfl) (fun h86 => ?_) (fun h86 => ?_)
      · exact mr_vret dX8_sayAll_26 rfl (le_t rfl) (le_t rfl) T71 (mF.call mF.refl F72 rfl) trivial
      have h87 : 0 ≤ z67 ∧ z67 ≤ 9 := (vc_X12_sends_7 h86 h70 h79)
      have h88 : 1 ≤ z77 ∧ z77 ≤ 10 := (vc_X12_sends_8 h86 h87 h79)
      refine sv_aload_n (pc := 13) dX8_sayAll_13 rfl rfl ?_
      refine mr_iload_n (pc := 14) (z := p1) dX8_sayAll_14 rfl rfl ?_
      refine mr_iload_n (pc := 15) (z := p2) dX8_sayAll_15 rfl rfl ?_
      refine mr_iload_n (pc := 16) (z := z67) dX8_sayAll_16 rfl rfl ?_
      refine mr_cVV (pc := 17) (c_X8_say hw T71 hp1 hp2 h87 (vc_X8_say_1 hq0 hp1) I74) (gOk _ _ _ _ _) dX8_sayAll_17 (tX8_say _ _ _ _ _) ⟨wV_X8_say, wL_X8_say⟩ wM_X8_72 (gCX8 _ _ _ _ _) rfl (A_32 hw) rfl ⟨le_t rfl, le_t rfl⟩ ⟨le_t rfl, le_t rfl⟩ rfl (le_t rfl) fun μ89 T90 F91 h92 => ?_
      refine mr_iinc (pc := 20) (lv' := [(3, iv (z67 + 1)), (0, .ref 32), (1, iv p1), (2, iv p2)]) dX8_sayAll_20 rfl (by decide) rfl ?_
      refine sv_goto (pc := 23) (tgt := 2) dX8_sayAll_23 (by decide) ?_
      refine mr_lvS (lv' := [(0, .ref 32), (1, iv p1), (2, iv p2), (3, iv (z67 + 1))]) (List.forall_mem_cons.mpr ⟨rfl, List.forall_mem_cons.mpr ⟨rfl, List.forall_mem_cons.mpr ⟨rfl, List.forall_mem_cons.mpr ⟨rfl, fun _ h => absurd h List.not_mem_nil⟩⟩⟩⟩) ?_
      exact ih76 (z67 + 1) μ89 T90 (mF.call (mF.call mF.refl F72 rfl) F91 rfl) (rW (c := 0) (d := 10) (rAdd (e := 1) (f := 10) h87 (rR (x := 1)) rfl) rfl) (PC.keep I74 hw ((mF.call mF.refl F91 rfl) : mF [21002, 21003, 21004, 21005, 21006, 21007, 32010, 33999, 34999, 200002, 200003, 200004, 200005, 200006, 200007, 200008, 200009, 201999, 202999] w μ68 μ89) rfl) (vc_X12_sends_11 (nS h75) h86 h87 h88)
  refine mr_lvS (lv' := [(0, .ref 32), (1, iv p1), (2, iv p2), (3, iv 0)]) (List.forall_mem_cons.mpr ⟨rfl, List.forall_mem_cons.mpr ⟨rfl, List.forall_mem_cons.mpr ⟨rfl, List.forall_mem_cons.mpr ⟨rfl, fun _ h => absurd h List.not_mem_nil⟩⟩⟩⟩) ?_
  exact L69 12 0 μ hT mF.refl (rW (c := 0) (d := 10) (rR (x := 0)) rfl) hIPC vc_X12_sends_20
theorem vc_X8_gather_1 {n1 : Int}  : 0 ≤ (0 : Int) ∧ (0 : Int) ≤ 10 ∧ ((0 : Int) = 0 ∨ 0 < n1) := by omega
theorem vc_X8_gather_11 {n1 z1227 : Int} (h0 : z1227 < 10) (h1 : (z1227 = 0 ∨ 0 < n1)) (h2 : 0 ≤ z1227 ∧ z1227 ≤ 10) : 0 ≤ z1227 ∧ z1227 ≤ 9 := by omega
theorem vc_X8_gather_15 {n1 z1027 z1037 z1227 : Int} (h0 : z1037 = n1) (h1 : z1027 < z1037) (h2 : (z1227 = 0 ∨ 0 < n1)) (h3 : z1227 < 10) (h4 : 0 ≤ z1027 ∧ z1027 ≤ 19) (h5 : 1 ≤ z1037 ∧ z1037 ≤ 20) (h6 : 0 ≤ z1227 ∧ z1227 ≤ 9) : 0 ≤ z1027 ∧ z1027 ≤ 19 ∧ (z1027 = 0 ∨ z1027 < n1) := by omega
theorem vc_X8_gather_19 {n1 z1027 z1037 z1227 : Int} (h0 : z1037 = n1) (h1 : (z1227 = 0 ∨ 0 < n1)) (h2 : z1227 < 10) (h3 : z1027 < z1037) (h4 : 0 ≤ z1027 ∧ z1027 ≤ 19) (h5 : 1 ≤ z1037 ∧ z1037 ≤ 20) (h6 : 0 ≤ z1227 ∧ z1227 ≤ 9) : 0 ≤ (z1227 + 1) ∧ (z1227 + 1) ≤ 10 ∧ ((z1227 + 1) = 0 ∨ 0 < n1) := by omega
theorem vc_X8_gather_21 {n1 z1227 : Int} (h0 : 10 ≤ z1227) (h1 : (z1227 = 0 ∨ 0 < n1)) (h2 : 0 ≤ z1227 ∧ z1227 ≤ 10) : 10 ≤ z1227 ∧ z1227 ≤ 10 := by omega
set_option maxRecDepth 4000 in
set_option maxHeartbeats 4000000 in
theorem c_X8_gather {l : Launch} {D : va_G} {c : Nat → ClassId} {H0 : Heap} {sa : Nat × Nat × (Nat → Int32)} {w : mW} {μ : mM} (hw : mWF w) (hT : mT w μ) {p1 : Int} (hp1 : 0 ≤ p1 ∧ p1 ≤ 9) {p2 : Int} (hp2 : 0 ≤ p2 ∧ p2 ≤ 9) (hIPC : PC w μ) : sC (gG l D c H0 sa) mX8_gather 41 0 0 [.ref 32, iv p1, iv p2] (mk w μ) (qV w [21002, 21003, 21004, 21005, 21006, 21007, 32009, 200002, 200003, 200004, 200005, 200006, 200007, 200008, 200009, 200010, 200011, 201999, 202999] μ (fun μ1 => True)) := by
  refine sC.of rfl (by decide) (le_t rfl) ?_
  refine mr_lvE (lv' := [(0, .ref 32), (1, iv p1), (2, iv p2)]) rfl ?_
  refine sv_aload_n (pc := 0) dX8_gather_0 rfl rfl ?_
  refine mr_iconst (pc := 1) (z := 0) dX8_gather_1 ?_
  refine pf_X8_9 (pc := 2) dX8_gather_2 wF_X8_200 (A_32 hw) hT vc_X8_gather_1 fun μ1 u2 T3 => ?_
  refine mr_iconst (pc := 5) (z := 0) dX8_gather_5 ?_
  refine mr_istore_n (pc := 6) (lv' := [(3, iv 0), (0, .ref 32), (1, iv p1), (2, iv p2)]) dX8_gather_6 rfl (by decide) rfl ?_
  have L1029 : ∀ (nL1029 : Nat) (z1027 : Int) (μ1028 : mM), mT w μ1028 → mF [21002, 21003, 21004, 21005, 21006, 21007, 32009, 200002, 200003, 200004, 200005, 200006, 200007, 200008, 200009, 200010, 200011, 201999, 202999] w μ1 μ1028 → (0 ≤ z1027 ∧ z1027 ≤ 20) → PC w μ1028 → (21 - z1027) < (nL1029 : Int) → sV (gG l D c H0 sa) mX8_gather (sRm 41 0 0) (sZ (gG l D c H0 sa) 0 0 (qV w [21002, 21003, 21004, 21005, 21006, 21007, 32009, 200002, 200003, 200004, 200005, 200006, 200007, 200008, 200009, 200010, 200011, 201999, 202999] μ (fun μ1 => True))) 7 [(0, .ref 32), (1, iv p1), (2, iv p2), (3, iv z1027)] [] (mk w μ1028) 0 0 := by
    intro nL1029
    induction nL1029 with
    | zero => intro z1027 μ1028 T1031 F1032 h1030 I1034 h1035; exact ((vc_X12_feed_2 h1035 h1030)).elim
    | succ nL1029 ih1036 =>
      intro z1027 μ1028 T1031 F1032 h1030 I1034 h1035
      refine mr_iload_n (pc := 7) (z := z1027) dX8_gather_7 rfl rfl ?_
      refine sv_aload_n (pc := 8) dX8_gather_8 rfl rfl ?_
      refine gf_X8_0 (pc := 9) dX8_gather_9 wF_X8_9 (A_32 hw) T1031 ?_
      refine gf_X10_16 (pc := 12) dX8_gather_12 wF_X8_153 (A_6 hw) T1031 fun z1037 q1038 h1039 => ?_
      refine mr_icmp_ge (pc := 15) (tgt := 188) dX8_gather_15 (by decide) (r32 h1030 rfl) (r32 h1039.2 rfl) (fun h1128 => ?_) (fun h1128 => ?_)
      · exact mr_vret dX8_gather_188 rfl (le_t rfl) (le_t rfl) T1031 (mF.call (mF.up mF.refl (A_32 hw) u2 rfl) F1032 rfl) trivial
      have h1129 : 0 ≤ z1027 ∧ z1027 ≤ 19 := (vc_X10_tieBetween_3 h1128 h1039.1 h1030 h1039.2)
      have h1130 : 1 ≤ z1037 ∧ z1037 ≤ 20 := (vc_X10_tieBetween_4 h1128 h1039.1 h1129 h1039.2)
      refine sv_aload_n (pc := 18) dX8_gather_18 rfl rfl ?_
      refine gf_X8_0 (pc := 19) dX8_gather_19 wF_X8_9 (A_32 hw) T1031 ?_
      refine gf_X10_4 (pc := 22) dX8_gather_22 wF_X8_76 (A_6 hw) T1031 ?_
      refine mr_iload_n (pc := 25) (z := z1027) dX8_gather_25 rfl rfl ?_
      refine la_11 (pc := 26) dX8_gather_26 (A_11 hw) T1031 (rIx (n := 20) h1129 rfl) (vc_X10_tieBetween_5 h1039.1 h1128 h1129 h1130) fun b1131 q1132 A1133 => ?_
      refine mr_astore (pc := 27) (lv' := [(4, .ref b1131), (0, .ref 32), (1, iv p1), (2, iv p2), (3, iv z1027)]) dX8_gather_27 (by decide) rfl ?_
      refine sv_aload (pc := 29) dX8_gather_29 rfl ?_
      refine mr_iload_n (pc := 31) (z := p1) dX8_gather_31 rfl rfl ?_
      refine mr_cVP (pc := 32) (c_X9_sideOf hw T1031 A1133 (rW (c := (-2147483648)) (d := 2147483647) hp1 rfl)) (gOk _ _ _ _ _) dX8_gather_32 (tX9_sideOf _ _ _ _ _) ⟨wV_X9_sideOf, wL_X9_sideOf⟩ wM_X8_156 (gCX9 _ _ _ _ _) rfl A1133 rfl ⟨le_t rfl, le_t rfl⟩ ⟨le_t rfl, le_t rfl⟩ rfl (le_t rfl) fun z1138 h1137 => ?_
      refine mr_istore (pc := 35) (lv' := [(5, iv z1138), (4, .ref b1131), (0, .ref 32), (1, iv p1), (2, iv p2), (3, iv z1027)]) dX8_gather_35 (by decide) rfl ?_
      refine mr_iload (pc := 37) (z := z1138) dX8_gather_37 rfl ?_
      have J1217 : ∀ (μ1212 : mM), (mT w μ1212) → (mF [21002, 21003, 21004, 21005, 21006, 21007, 32009, 200002, 200003, 200004, 200005, 200006, 200007, 200008, 200009, 200010, 200011, 201999, 202999] w μ1028 μ1212) → (PC w μ1212) → sV (gG l D c H0 sa) mX8_gather (sRm 41 0 0) (sZ (gG l D c H0 sa) 0 0 (qV w [21002, 21003, 21004, 21005, 21006, 21007, 32009, 200002, 200003, 200004, 200005, 200006, 200007, 200008, 200009, 200010, 200011, 201999, 202999] μ (fun μ1 => True))) 182 [(0, .ref 32), (1, iv p1), (2, iv p2), (3, iv z1027)] [] (mk w μ1212) 0 0 := by
        intro μ1212 T1213 F1214 I1216
        refine mr_iinc (pc := 182) (lv' := [(3, iv (z1027 + 1)), (0, .ref 32), (1, iv p1), (2, iv p2)]) dX8_gather_182 rfl (by decide) rfl ?_
        refine sv_goto (pc := 185) (tgt := 7) dX8_gather_185 (by decide) ?_
        refine mr_lvS (lv' := [(0, .ref 32), (1, iv p1), (2, iv p2), (3, iv (z1027 + 1))]) (List.forall_mem_cons.mpr ⟨rfl, List.forall_mem_cons.mpr ⟨rfl, List.forall_mem_cons.mpr ⟨rfl, List.forall_mem_cons.mpr ⟨rfl, fun _ h => absurd h List.not_mem_nil⟩⟩⟩⟩) ?_
        exact ih1036 (z1027 + 1) μ1212 T1213 (mF.call (mF.call mF.refl F1032 rfl) F1214 rfl) (rW (c := 0) (d := 20) (rAdd (e := 1) (f := 20) h1129 (rR (x := 1)) rfl) rfl) I1216 (vc_X10_tieBetween_6 (nS h1035) h1128 h1039.1 h1129 h1130)
      refine mr_if_lt (pc := 39) (tgt := 182) dX8_gather_39 (by decide) (r32 h1137.1 rfl) (fun h1218 => ?_) (fun h1218 => ?_)
      · have h1219 : (-1) ≤ z1138 ∧ z1138 ≤ (-1) := (vc_X12_differ_33 h1218 h1137.1)
        refine mr_lvS (lv' := [(0, .ref 32), (1, iv p1), (2, iv p2), (3, iv z1027)]) (List.forall_mem_cons.mpr ⟨rfl, List.forall_mem_cons.mpr ⟨rfl, List.forall_mem_cons.mpr ⟨rfl, List.forall_mem_cons.mpr ⟨rfl, fun _ h => absurd h List.not_mem_nil⟩⟩⟩⟩) ?_
        exact J1217 μ1028 T1031 mF.refl I1034
      have h1220 : 0 ≤ z1138 ∧ z1138 ≤ 1 := (vc_X12_differ_32 h1218 h1137.1)
      refine sv_aload (pc := 42) dX8_gather_42 rfl ?_
      refine gf_X9_6 (pc := 44) dX8_gather_44 wF_X8_136 A1133 T1031 fun z1221 q1222 h1223 => ?_
      refine mr_if_eq (pc := 47) (tgt := 182) dX8_gather_47 (by decide) (r32 h1223 rfl) (fun h1224 => ?_) (fun h1224 => ?_)
      · have h1225 : 0 ≤ z1221 ∧ z1221 ≤ 0 := (vc_X12_letWay_6 h1224 h1223)
        refine mr_lvS (lv' := [(0, .ref 32), (1, iv p1), (2, iv p2), (3, iv z1027)]) (List.forall_mem_cons.mpr ⟨rfl, List.forall_mem_cons.mpr ⟨rfl, List.forall_mem_cons.mpr ⟨rfl, List.forall_mem_cons.mpr ⟨rfl, fun _ h => absurd h List.not_mem_nil⟩⟩⟩⟩) ?_
        exact J1217 μ1028 T1031 mF.refl I1034
      have h1226 : 1 ≤ z1221 ∧ z1221 ≤ 1 := (vc_X12_letWay_11 h1224 h1223)
      refine sv_aload_n (pc := 50) dX8_gather_50 rfl rfl ?_
      refine gf_X8_9 (pc := 51) dX8_gather_51 wF_X8_200 (A_32 hw) T1031 fun z1227 q1228 h1229 => ?_
      have h1230 : 0 ≤ z1227 ∧ z1227 ≤ 10 := ⟨h1229.1, h1229.2.1⟩
      refine mr_bipush (pc := 54) (z := 10) dX8_gather_54 (by decide) ?_
      refine mr_icmp_lt (pc := 56) (tgt := 62) dX8_gather_56 (by decide) (r32 h1230 rfl) (r32 (rR (x := 10)) rfl) (fun h1231 => ?_) (fun h1231 => ?_)
      · have h1232 : 0 ≤ z1227 ∧ z1227 ≤ 9 := (vc_X8_gather_11 h1231 h1229.2.2 h1230)
        refine sv_aload (pc := 62) dX8_gather_62 rfl ?_
        refine gf_X9_4 (pc := 64) dX8_gather_64 wF_X8_96 A1133 T1031 fun A1233 => ?_
        refine mr_iload (pc := 67) (z := z1138) dX8_gather_67 rfl ?_
        refine mr_iload_n (pc := 69) (z := p2) dX8_gather_69 rfl rfl ?_
        refine mr_cSP (pc := 70) (c_X9_placeOf hw T1031 h1220 hp2) (gOk _ _ _ _ _) dX8_gather_70 (tX9_placeOf _ _ _ _ _) wS_X9_placeOf wM_X8_99 ⟨le_t rfl, le_t rfl⟩ ⟨le_t rfl, le_t rfl⟩ rfl (le_t rfl) fun z1238 h1237 => ?_
        refine la_222 (pc := 73) dX8_gather_73 A1233 T1031 (rIx (n := 20) h1237.1 rfl) fun b1239 q1240 A1241 => ?_
        refine mr_astore (pc := 74) (lv' := [(6, .ref b1239), (5, iv z1138), (4, .ref b1131), (0, .ref 32), (1, iv p1), (2, iv p2), (3, iv z1027)]) dX8_gather_74 (by decide) rfl ?_
        refine sv_aload (pc := 76) dX8_gather_76 rfl ?_
        refine gf_X7_2 (pc := 78) dX8_gather_78 wF_X8_203 A1241 T1031 fun z1242 q1243 h1244 => ?_
        refine mr_if_eq (pc := 81) (tgt := 182) dX8_gather_81 (by decide) (r32 h1244 rfl) (fun h1245 => ?_) (fun h1245 => ?_)
        · have h1246 : 0 ≤ z1242 ∧ z1242 ≤ 0 := (vc_X12_letWay_6 h1245 h1244)
          refine mr_lvS (lv' := [(0, .ref 32), (1, iv p1), (2, iv p2), (3, iv z1027)]) (List.forall_mem_cons.mpr ⟨rfl, List.forall_mem_cons.mpr ⟨rfl, List.forall_mem_cons.mpr ⟨rfl, List.forall_mem_cons.mpr ⟨rfl, fun _ h => absurd h List.not_mem_nil⟩⟩⟩⟩) ?_
          exact J1217 μ1028 T1031 mF.refl I1034
        have h1247 : 1 ≤ z1242 ∧ z1242 ≤ 1 := (vc_X12_letWay_11 h1245 h1244)
        refine sv_aload (pc := 84) dX8_gather_84 rfl ?_
        refine mr_iload_n (pc := 86) (z := p1) dX8_gather_86 rfl rfl ?_
        refine mr_cVP (pc := 87) (c_X7_passes hw T1031 A1241 (rW (c := (-2147483648)) (d := 2147483647) hp1 rfl)) (gOk _ _ _ _ _) dX8_gather_87 (tX7_passes _ _ _ _ _) ⟨wV_X7_passes, wL_X7_passes⟩ wM_X8_206 (gCX7 _ _ _ _ _) rfl A1241 rfl ⟨le_t rfl, le_t rfl⟩ ⟨le_t rfl, le_t rfl⟩ rfl (le_t rfl) fun z1252 h1251 => ?_
        refine mr_if_eq (pc := 90) (tgt := 96) dX8_gather_90 (by decide) (r32 h1251.1 rfl) (fun h1253 => ?_) (fun h1253 => ?_)
        · have h1254 : 0 ≤ z1252 ∧ z1252 ≤ 0 := (vc_X12_letWay_6 h1253 h1251.1)
          refine sv_aload_n (pc := 96) dX8_gather_96 rfl rfl ?_
          refine gf_X8_4 (pc := 97) dX8_gather_97 wF_X8_34 (A_32 hw) T1031 ?_
          refine sv_aload_n (pc := 100) dX8_gather_100 rfl rfl ?_
          refine gk_X8_9 (pc := 101) dX8_gather_101 wF_X8_200 (A_32 hw) q1228 ?_
          refine la_35 (pc := 104) dX8_gather_104 (A_35 hw) T1031 (rIx (n := 10) h1232 rfl) fun b1255 q1256 A1257 => ?_
          refine mr_astore (pc := 105) (lv' := [(7, .ref b1255), (6, .ref b1239), (5, iv z1138), (4, .ref b1131), (0, .ref 32), (1, iv p1), (2, iv p2), (3, iv z1027)]) dX8_gather_105 (by decide) rfl ?_
          refine sv_aload (pc := 107) dX8_gather_107 rfl ?_
          refine sv_aload (pc := 109) dX8_gather_109 rfl ?_
          refine mr_cVV (pc := 111) (c_X7_become hw T1031 A1257 A1241) (gOk _ _ _ _ _) dX8_gather_111 (tX7_become _ _ _ _ _) ⟨wV_X7_become, wL_X7_become⟩ wM_X8_106 (gCX7 _ _ _ _ _) rfl A1257 rfl ⟨le_t rfl, le_t rfl⟩ ⟨le_t rfl, le_t rfl⟩ rfl (le_t rfl) fun μ1258 T1259 F1260 h1261 => ?_
          refine sv_aload (pc := 114) dX8_gather_114 rfl ?_
          refine sv_aload (pc := 116) dX8_gather_116 rfl ?_
          refine gf_X7_9 (pc := 118) dX8_gather_118 wF_X8_110 A1241 T1259 fun z1262 q1263 h1264 => ?_
          refine pf_X7_9 (pc := 121) dX8_gather_121 wF_X8_110 A1257 T1259 h1264 fun μ1265 u1266 T1267 => ?_
          refine sv_aload (pc := 124) dX8_gather_124 rfl ?_
          refine mr_iload_n (pc := 126) (z := z1027) dX8_gather_126 rfl rfl ?_
          refine pf_X7_10 (pc := 127) dX8_gather_127 wF_X8_188 A1257 T1267 (vc_X8_gather_15 h1039.1 h1128 h1229.2.2 h1231 h1129 h1130 h1232) fun μ1268 u1269 T1270 => ?_
          refine sv_aload (pc := 130) dX8_gather_130 rfl ?_
          refine sv_aload (pc := 132) dX8_gather_132 rfl ?_
          refine mr_iconst (pc := 134) (z := 1) dX8_gather_134 ?_
          refine mr_iload (pc := 135) (z := z1138) dX8_gather_135 rfl ?_
          refine mr_isub (pc := 137) (x := 1) (y := z1138) dX8_gather_137 ?_
          refine mr_cVP (pc := 138) (c_X9_end hw T1270 A1133 (rW (c := (-2147483648)) (d := 2147483647) (rSub (e := 0) (f := 1) (rR (x := 1)) h1220 rfl) rfl)) (gOk _ _ _ _ _) dX8_gather_138 (tX9_end _ _ _ _ _) ⟨wV_X9_end, wL_X9_end⟩ wM_X8_86 (gCX9 _ _ _ _ _) rfl A1133 rfl ⟨le_t rfl, le_t rfl⟩ ⟨le_t rfl, le_t rfl⟩ rfl (le_t rfl) fun z1275 h1274 => ?_
          refine pf_X7_11 (pc := 141) dX8_gather_141 wF_X8_210 A1257 T1270 (rW (c := (-2147483648)) (d := 2147483647) h1274.1 rfl) fun μ1276 u1277 T1278 => ?_
          refine sv_aload_n (pc := 144) dX8_gather_144 rfl rfl ?_
          refine gf_X8_1 (pc := 145) dX8_gather_145 wF_X8_15 (A_32 hw) T1278 ?_
          refine sv_aload (pc := 148) dX8_gather_148 rfl ?_
          refine gf_X9_3 (pc := 150) dX8_gather_150 wF_X8_213 A1133 T1278 fun A1279 => ?_
          refine mr_iload (pc := 153) (z := z1138) dX8_gather_153 rfl ?_
          refine mr_iconst (pc := 155) (z := 2) dX8_gather_155 ?_
          refine mr_imul (pc := 156) (x := z1138) (y := 2) dX8_gather_156 ?_
          refine mr_iconst (pc := 157) (z := 0) dX8_gather_157 ?_
          refine mr_iadd (pc := 158) (x := (z1138 * 2)) (y := 0) dX8_gather_158 ?_
          refine la_221 (pc := 159) dX8_gather_159 A1279 T1278 (rIx (n := 4) (rAdd (e := 0) (f := 2) (rMulR (n := 2) (e := 0) (f := 2) h1220 rfl) (rR (x := 0)) rfl) rfl) fun z1280 q1281 h1282 => ?_
          have h1283 : (-99999999) ≤ z1280 ∧ z1280 ≤ 11 := (vc_X8_say_18 h1282)
          refine sv_aload (pc := 160) dX8_gather_160 rfl ?_
          refine sv_aload (pc := 162) dX8_gather_162 rfl ?_
          refine mr_iload (pc := 164) (z := z1138) dX8_gather_164 rfl ?_
          refine mr_cVI (pc := 166) (c_X1_lets hw T1278 (rW (c := (-2147483648)) (d := 2147483647) h1283 rfl) A1257 A1133 h1220 (PC.keep I1034 hw ((mF.up (mF.up (mF.up (mF.call mF.refl F1260 rfl) A1257 u1266 rfl) A1257 u1269 rfl) A1257 u1277 rfl) : mF [200002, 200003, 200004, 200005, 200006, 200007, 200008, 200009, 200010, 200011, 201999, 202999] w μ1028 μ1276) rfl)) (gOk _ _ _ _ _) dX8_gather_166 (tX1_lets _ _ _ _ _) ⟨wV_X1_lets, wL_X1_lets⟩ wM_X8_216 (gCX1 _ _ _ _ _) rfl (A_21 hw) rfl ⟨le_t rfl, le_t rfl⟩ ⟨le_t rfl, le_t rfl⟩ rfl (le_t rfl) fun z1288 μ1284 T1285 F1286 h1287 => ?_
          refine mr_if_eq (pc := 169) (tgt := 182) dX8_gather_169 (by decide) (r32 h1287.1 rfl) (fun h1289 => ?_) (fun h1289 => ?_)
          · have h1290 : 0 ≤ z1288 ∧ z1288 ≤ 0 := (vc_X12_letWay_6 h1289 h1287.1)
            refine mr_lvS (lv' := [(0, .ref 32), (1, iv p1), (2, iv p2), (3, iv z1027)]) (List.forall_mem_cons.mpr ⟨rfl, List.forall_mem_cons.mpr ⟨rfl, List.forall_mem_cons.mpr ⟨rfl, List.forall_mem_cons.mpr ⟨rfl, fun _ h => absurd h List.not_mem_nil⟩⟩⟩⟩) ?_
            exact J1217 μ1284 T1285 (mF.call (mF.up (mF.up (mF.up (mF.call mF.refl F1260 rfl) A1257 u1266 rfl) A1257 u1269 rfl) A1257 u1277 rfl) F1286 rfl) (PC.keep I1034 hw ((mF.call (mF.up (mF.up (mF.up (mF.call mF.refl F1260 rfl) A1257 u1266 rfl) A1257 u1269 rfl) A1257 u1277 rfl) F1286 rfl) : mF [21002, 21003, 21004, 21005, 21006, 21007, 200002, 200003, 200004, 200005, 200006, 200007, 200008, 200009, 200010, 200011, 201999, 202999] w μ1028 μ1284) rfl)
          have h1291 : 1 ≤ z1288 ∧ z1288 ≤ 1 := (vc_X12_letWay_11 h1289 h1287.1)
          refine sv_aload_n (pc := 172) dX8_gather_172 rfl rfl ?_
          refine sv_dup (pc := 173) dX8_gather_173 rfl ?_
          refine gk_X8_9 (pc := 174) dX8_gather_174 wF_X8_200 (A_32 hw) (F1286.f (A_32 hw) rfl (u1277.f (Or.inl (mAt.ne A1257 (A_32 hw) rfl)) (u1269.f (Or.inl (mAt.ne A1257 (A_32 hw) rfl)) (u1266.f (Or.inl (mAt.ne A1257 (A_32 hw) rfl)) (F1260.f (A_32 hw) rfl q1228))))) ?_
          refine mr_iconst (pc := 177) (z := 1) dX8_gather_177 ?_
          refine mr_iadd (pc := 178) (x := z1227) (y := 1) dX8_gather_178 ?_
          refine pf_X8_9 (pc := 179) dX8_gather_179 wF_X8_200 (A_32 hw) T1285 (vc_X8_gather_19 h1039.1 h1229.2.2 h1231 h1128 h1129 h1130 h1232) fun μ1292 u1293 T1294 => ?_
          refine mr_lvS (lv' := [(0, .ref 32), (1, iv p1), (2, iv p2), (3, iv z1027)]) (List.forall_mem_cons.mpr ⟨rfl, List.forall_mem_cons.mpr ⟨rfl, List.forall_mem_cons.mpr ⟨rfl, List.forall_mem_cons.mpr ⟨rfl, fun _ h => absurd h List.not_mem_nil⟩⟩⟩⟩) ?_
          exact J1217 μ1292 T1294 (mF.up (mF.call (mF.up (mF.up (mF.up (mF.call mF.refl F1260 rfl) A1257 u1266 rfl) A1257 u1269 rfl) A1257 u1277 rfl) F1286 rfl) (A_32 hw) u1293 rfl) (PC.keep I1034 hw ((mF.up (mF.call (mF.up (mF.up (mF.up (mF.call mF.refl F1260 rfl) A1257 u1266 rfl) A1257 u1269 rfl) A1257 u1277 rfl) F1286 rfl) (A_32 hw) u1293 rfl) : mF [21002, 21003, 21004, 21005, 21006, 21007, 32009, 200002, 200003, 200004, 200005, 200006, 200007, 200008, 200009, 200010, 200011, 201999, 202999] w μ1028 μ1292) rfl)
        have h1295 : 1 ≤ z1252 ∧ z1252 ≤ 1 := (vc_X12_letWay_11 h1253 h1251.1)
        refine sv_goto (pc := 93) (tgt := 182) dX8_gather_93 (by decide) ?_
        refine mr_lvS (lv' := [(0, .ref 32), (1, iv p1), (2, iv p2), (3, iv z1027)]) (List.forall_mem_cons.mpr ⟨rfl, List.forall_mem_cons.mpr ⟨rfl, List.forall_mem_cons.mpr ⟨rfl, List.forall_mem_cons.mpr ⟨rfl, fun _ h => absurd h List.not_mem_nil⟩⟩⟩⟩) ?_
        exact J1217 μ1028 T1031 mF.refl I1034
      have h1296 : 10 ≤ z1227 ∧ z1227 ≤ 10 := (vc_X8_gather_21 h1231 h1229.2.2 h1230)
      refine sv_goto (pc := 59) (tgt := 182) dX8_gather_59 (by decide) ?_
      refine mr_lvS (lv' := [(0, .ref 32), (1, iv p1), (2, iv p2), (3, iv z1027)]) (List.forall_mem_cons.mpr ⟨rfl, List.forall_mem_cons.mpr ⟨rfl, List.forall_mem_cons.mpr ⟨rfl, List.forall_mem_cons.mpr ⟨rfl, fun _ h => absurd h List.not_mem_nil⟩⟩⟩⟩) ?_
      exact J1217 μ1028 T1031 mF.refl I1034
  refine mr_lvS (lv' := [(0, .ref 32), (1, iv p1), (2, iv p2), (3, iv 0)]) (List.forall_mem_cons.mpr ⟨rfl, List.forall_mem_cons.mpr ⟨rfl, List.forall_mem_cons.mpr ⟨rfl, List.forall_mem_cons.mpr ⟨rfl, fun _ h => absurd h List.not_mem_nil⟩⟩⟩⟩) ?_
  exact L1029 22 0 μ1 T3 mF.refl (rW (c := 0) (d := 20) (rR (x := 0)) rfl) (PC.keep hIPC hw ((mF.up mF.refl (A_32 hw) u2 rfl) : mF [32009] w μ μ1) rfl) vc_X12_feed_15
theorem vc_X8_look_3 {n1 z54 z65 : Int} (h0 : 0 ≤ z54 → z54 < n1) (h1 : (0 ≤ z65 → z65 < n1)) (h2 : ¬ z54 = z65) (h3 : (-99999999) ≤ z54 ∧ z54 ≤ 19) (h4 : z54 = (-99999999) ∨ z54 = (-4) ∨ (0 ≤ z54 ∧ z54 ≤ 19)) (h5 : (-99999999) ≤ z65 ∧ z65 ≤ 19) (h6 : z65 = -99999999 ∨ z65 = -4 ∨ (0 ≤ z65 ∧ z65 ≤ 19)) : (z54 = -99999999 ∨ z54 = -4 ∨ (0 ≤ z54 ∧ z54 ≤ 19)) ∧ (0 ≤ z54 → z54 < n1) := by omega
theorem vc_X8_look_7 {n1 z271 z281 z54 z65 : Int} (h0 : 0 ≤ z54 → z54 < n1) (h1 : (0 ≤ z65 → z65 < n1)) (h2 : z281 = n1) (h3 : z271 < z281) (h4 : ¬ z54 = z65) (h5 : 0 ≤ z271 ∧ z271 ≤ 19) (h6 : 1 ≤ z281 ∧ z281 ≤ 20) (h7 : (-99999999) ≤ z54 ∧ z54 ≤ 19) (h8 : z54 = (-99999999) ∨ z54 = (-4) ∨ (0 ≤ z54 ∧ z54 ≤ 19)) (h9 : (-99999999) ≤ z65 ∧ z65 ≤ 19) (h10 : z65 = -99999999 ∨ z65 = -4 ∨ (0 ≤ z65 ∧ z65 ≤ 19)) : z271 < n1 := by omega
theorem vc_X8_look_13 {n1 z54 z65 : Int} (h0 : 0 ≤ z54 → z54 < n1) (h1 : (0 ≤ z65 → z65 < n1)) (h2 : z54 = z65) (h3 : (-99999999) ≤ z54 ∧ z54 ≤ 19) (h4 : z54 = (-99999999) ∨ z54 = (-4) ∨ (0 ≤ z54 ∧ z54 ≤ 19)) (h5 : (-99999999) ≤ z65 ∧ z65 ≤ 19) (h6 : z65 = -99999999 ∨ z65 = -4 ∨ (0 ≤ z65 ∧ z65 ≤ 19)) : (z54 = -99999999 ∨ z54 = -4 ∨ (0 ≤ z54 ∧ z54 ≤ 19)) ∧ (0 ≤ z54 → z54 < n1) := by omega
theorem vc_X8_look_17 {n1 z533 z54 z543 z65 : Int} (h0 : 0 ≤ z54 → z54 < n1) (h1 : (0 ≤ z65 → z65 < n1)) (h2 : z543 = n1) (h3 : z533 < z543) (h4 : z54 = z65) (h5 : 0 ≤ z533 ∧ z533 ≤ 19) (h6 : (-99999999) ≤ z54 ∧ z54 ≤ 19) (h7 : z54 = (-99999999) ∨ z54 = (-4) ∨ (0 ≤ z54 ∧ z54 ≤ 19)) (h8 : 1 ≤ z543 ∧ z543 ≤ 20) (h9 : (-99999999) ≤ z65 ∧ z65 ≤ 19) (h10 : z65 = -99999999 ∨ z65 = -4 ∨ (0 ≤ z65 ∧ z65 ≤ 19)) : z533 < n1 := by omega
theorem vc_X8_look_22 {z5 : Int} (h0 : z5 = (-1)) (h1 : (-1) ≤ z5 ∧ z5 ≤ 2) : (-1) ≤ z5 ∧ z5 ≤ (-1) := by omega
theorem vc_X8_look_24 {n1 z602 : Int} (h0 : z602 < 0) (h1 : z602 < 0 ∨ 0 < n1) (h2 : (-1) ≤ z602 ∧ z602 ≤ 9) : (-1) ≤ z602 ∧ z602 ≤ (-1) := by omega
theorem vc_X8_look_25 {n1 z602 : Int} (h0 : z602 < 0 ∨ 0 < n1) (h1 : z602 < 0) (h2 : (-1) ≤ z602 ∧ z602 ≤ (-1)) : 0 ≤ ((-99999999) : Int) → ((-99999999) : Int) < n1 := by omega
theorem vc_X8_look_27 {n1 z602 : Int} (h0 : 0 ≤ z602) (h1 : z602 < 0 ∨ 0 < n1) (h2 : (-1) ≤ z602 ∧ z602 ≤ 9) : 0 ≤ z602 ∧ z602 ≤ 9 := by omega
theorem vc_X8_look_28 {n1 z602 z609 : Int} (h0 : z602 < 0 ∨ 0 < n1) (h1 : (z609 = 0 ∨ z609 < n1)) (h2 : 0 ≤ z602) (h3 : 0 ≤ z602 ∧ z602 ≤ 9) (h4 : 0 ≤ z609 ∧ z609 ≤ 19) : 0 ≤ z609 → z609 < n1 := by omega
theorem vc_X8_look_29 {n1 z602 z609 : Int} (h0 : (z609 = 0 ∨ z609 < n1)) (h1 : z602 < 0 ∨ 0 < n1) (h2 : 0 ≤ z602 ∧ z602 ≤ 9) (h3 : 0 ≤ z609 ∧ z609 ≤ 19) : z609 = (-99999999) ∨ z609 = (-4) ∨ (0 ≤ z609 ∧ z609 ≤ 19) := by omega
theorem vc_X8_look_36 {z5 : Int} (h0 : ¬ z5 = (-1)) (h1 : (-1) ≤ z5 ∧ z5 ≤ 2) : 0 ≤ z5 ∧ z5 ≤ 2 := by omega
theorem vc_X8_look_37 {n1 : Int}  : 0 ≤ ((-4) : Int) → ((-4) : Int) < n1 := by omega
theorem vc_X8_look_38  : (((-4) : Int) : Int) = ((-99999999) : Int) ∨ (((-4) : Int) : Int) = ((-4) : Int) ∨ ((0 : Int) ≤ (((-4) : Int) : Int) ∧ (((-4) : Int) : Int) ≤ (19 : Int)) := by omega
set_option maxRecDepth 4000 in
set_option maxHeartbeats 4000000 in
theorem c_X8_look {l : Launch} {D : va_G} {c : Nat → ClassId} {H0 : Heap} {sa : Nat × Nat × (Nat → Int32)} {w : mW} {μ : mM} (hw : mWF w) (hT : mT w μ) {p1 : Int} (hp1 : 0 ≤ p1 ∧ p1 ≤ 9) {p2 : Int} (hp2 : 0 ≤ p2 ∧ p2 ≤ 9) (hq0 : p1 < w.2.2.2 0) (hIPC : PC w μ) : sC (gG l D c H0 sa) mX8_look 42 0 0 [.ref 32, iv p1, iv p2] (mk w μ) (qV w [21002, 21003, 21004, 21005, 21006, 21007, 32009, 32010, 33999, 34999, 66999, 200002, 200003, 200004, 200005, 200006, 200007, 200008, 200009, 200010, 200011, 201999, 202999, 213999] μ (fun μ1 => True)) := by
  refine sC.of rfl (by decide) (le_t rfl) ?_
  refine mr_lvE (lv' := [(0, .ref 32), (1, iv p1), (2, iv p2)]) rfl ?_
  refine sv_aload_n (pc := 0) dX8_look_0 rfl rfl ?_
  refine gf_X8_0 (pc := 1) dX8_look_1 wF_X8_9 (A_32 hw) hT ?_
  refine gf_X10_3 (pc := 4) dX8_look_4 wF_X8_162 (A_6 hw) hT ?_
  refine mr_iload_n (pc := 7) (z := p1) dX8_look_7 rfl rfl ?_
  refine la_10 (pc := 8) dX8_look_8 (A_10 hw) hT (rIx (n := 10) hp1 rfl) (vc_X9_end_1 hq0 hp1) fun b1 q2 A3 => ?_
  refine mr_astore_n (pc := 9) (lv' := [(3, .ref b1), (0, .ref 32), (1, iv p1), (2, iv p2)]) dX8_look_9 rfl (by decide) rfl ?_
  refine sv_aload_n (pc := 10) dX8_look_10 rfl rfl ?_
  refine gf_X8_7 (pc := 11) dX8_look_11 wF_X8_46 (A_32 hw) hT ?_
  refine mr_astore (pc := 14) (lv' := [(4, .ref 70), (3, .ref b1), (0, .ref 32), (1, iv p1), (2, iv p2)]) dX8_look_14 (by decide) rfl ?_
  refine mr_ldc (pc := 16) (z := (-99999999)) dX8_look_16 wG_X8_166 (by decide) ?_
  refine mr_istore (pc := 18) (lv' := [(5, iv (-99999999)), (4, .ref 70), (3, .ref b1), (0, .ref 32), (1, iv p1), (2, iv p2)]) dX8_look_18 (by decide) rfl ?_
  refine sv_aload_n (pc := 20) dX8_look_20 rfl rfl ?_
  refine gf_X0_1 (pc := 21) dX8_look_21 wF_X8_167 A3 hT fun A4 => ?_
  refine mr_iload_n (pc := 24) (z := p2) dX8_look_24 rfl rfl ?_
  refine la_212 (pc := 25) dX8_look_25 A4 hT (rIx (n := 10) hp2 rfl) fun z5 q6 h7 => ?_
  refine mr_iconst (pc := 26) (z := (-1)) dX8_look_26 ?_
  have J63 : ∀ (z54 : Int) (b52 : Nat) (μ57 : mM), (mAt w b52 200) → (mT w μ57) → (mF [21002, 21003, 21004, 21005, 21006, 21007, 32009, 66999, 200002, 200003, 200004, 200005, 200006, 200007, 200008, 200009, 200010, 200011, 201999, 202999] w μ μ57) → (((-99999999) ≤ z54 ∧ z54 ≤ 19)) → (0 ≤ z54 → z54 < w.2.2.2 1) → ((z54 = (-99999999) ∨ z54 = (-4) ∨ (0 ≤ z54 ∧ z54 ≤ 19))) → (PC w μ57) → sV (gG l D c H0 sa) mX8_look (sRm 42 0 0) (sZ (gG l D c H0 sa) 0 0 (qV w [21002, 21003, 21004, 21005, 21006, 21007, 32009, 32010, 33999, 34999, 66999, 200002, 200003, 200004, 200005, 200006, 200007, 200008, 200009, 200010, 200011, 201999, 202999, 213999] μ (fun μ1 => True))) 106 [(0, .ref 32), (1, iv p1), (2, iv p2), (3, .ref b1), (4, .ref b52), (5, iv z54)] [] (mk w μ57) 0 0 := by
    intro z54 b52 μ57 A53 T58 F59 h55 h62 h56 I61
    refine mr_iload (pc := 106) (z := z54) dX8_look_106 rfl ?_
    refine sv_aload_n (pc := 108) dX8_look_108 rfl rfl ?_
    refine gf_X0_2 (pc := 109) dX8_look_109 wF_X8_190 A3 T58 fun A64 => ?_
    refine mr_iload_n (pc := 112) (z := p2) dX8_look_112 rfl rfl ?_
    refine la_213 (pc := 113) dX8_look_113 A64 T58 (rIx (n := 10) hp2 rfl) fun z65 q66 h67 => ?_
    have h68 : (-99999999) ≤ z65 ∧ z65 ≤ 19 := (vc_X12_sends_3 h67.1)
    refine mr_icmp_ne (pc := 114) (tgt := 132) dX8_look_114 (by decide) (r32 h55 rfl) (r32 h68 rfl) (fun h69 => ?_) (fun h69 => ?_)
    · refine sv_aload_n (pc := 132) dX8_look_132 rfl rfl ?_
      refine gf_X0_2 (pc := 133) dX8_look_133 wF_X8_190 A3 T58 fun A70 => ?_
      refine mr_iload_n (pc := 136) (z := p2) dX8_look_136 rfl rfl ?_
      refine mr_iload (pc := 137) (z := z54) dX8_look_137 rfl ?_
      refine ss_213 (pc := 139) dX8_look_139 A70 T58 (rIx (n := 10) hp2 rfl) (vc_X8_look_3 h62 h67.2 h69 h55 h56 h68 h67.1) fun μ71 u72 T73 => ?_
      refine sv_aload_n (pc := 140) dX8_look_140 rfl rfl ?_
      refine gf_X0_3 (pc := 141) dX8_look_141 wF_X8_193 A3 T73 fun A74 => ?_
      refine mr_iload_n (pc := 144) (z := p2) dX8_look_144 rfl rfl ?_
      refine la_214 (pc := 145) dX8_look_145 A74 T73 (rIx (n := 10) hp2 rfl) fun b75 q76 A77 => ?_
      refine sv_aload (pc := 146) dX8_look_146 rfl ?_
      refine mr_cVV (pc := 148) (c_X7_become hw T73 A77 A53) (gOk _ _ _ _ _) dX8_look_148 (tX7_become _ _ _ _ _) ⟨wV_X7_become, wL_X7_become⟩ wM_X8_106 (gCX7 _ _ _ _ _) rfl A77 rfl ⟨le_t rfl, le_t rfl⟩ ⟨le_t rfl, le_t rfl⟩ rfl (le_t rfl) fun μ78 T79 F80 h81 => ?_
      refine mr_iconst (pc := 151) (z := 0) dX8_look_151 ?_
      refine mr_istore (pc := 152) (lv' := [(6, iv 0), (0, .ref 32), (1, iv p1), (2, iv p2), (3, .ref b1), (4, .ref b52), (5, iv z54)]) dX8_look_152 (by decide) rfl ?_
      have L273 : ∀ (nL273 : Nat) (z271 : Int) (μ272 : mM), mT w μ272 → mF [21002, 21003, 21004, 21005, 21006, 21007, 32010, 33999, 34999, 200002, 200003, 200004, 200005, 200006, 200007, 200008, 200009, 201999, 202999] w μ78 μ272 → (0 ≤ z271 ∧ z271 ≤ 20) → PC w μ272 → (21 - z271) < (nL273 : Int) → sV (gG l D c H0 sa) mX8_look (sRm 42 0 0) (sZ (gG l D c H0 sa) 0 0 (qV w [21002, 21003, 21004, 21005, 21006, 21007, 32009, 32010, 33999, 34999, 66999, 200002, 200003, 200004, 200005, 200006, 200007, 200008, 200009, 200010, 200011, 201999, 202999, 213999] μ (fun μ1 => True))) 154 [(0, .ref 32), (1, iv p1), (2, iv p2), (6, iv z271)] [] (mk w μ272) 0 0 := by
        intro nL273
        induction nL273 with
        | zero => intro z271 μ272 T275 F276 h274 I278 h279; exact ((vc_X12_feed_2 h279 h274)).elim
        | succ nL273 ih280 =>
          intro z271 μ272 T275 F276 h274 I278 h279
          refine mr_iload (pc := 154) (z := z271) dX8_look_154 rfl ?_
          refine sv_aload_n (pc := 156) dX8_look_156 rfl rfl ?_
          refine gf_X8_0 (pc := 157) dX8_look_157 wF_X8_9 (A_32 hw) T275 ?_
          refine gf_X10_16 (pc := 160) dX8_look_160 wF_X8_153 (A_6 hw) T275 fun z281 q282 h283 => ?_
          refine mr_icmp_ge (pc := 163) (tgt := 202) dX8_look_163 (by decide) (r32 h274 rfl) (r32 h283.2 rfl) (fun h300 => ?_) (fun h300 => ?_)
          · exact mr_vret dX8_look_202 rfl (le_t rfl) (le_t rfl) T275 (mF.call (mF.call (mF.up (mF.call mF.refl F59 rfl) A70 u72 rfl) F80 rfl) F276 rfl) trivial
          have h301 : 0 ≤ z271 ∧ z271 ≤ 19 := (vc_X10_tieBetween_3 h300 h283.1 h274 h283.2)
          have h302 : 1 ≤ z281 ∧ z281 ≤ 20 := (vc_X10_tieBetween_4 h300 h283.1 h301 h283.2)
          refine sv_aload_n (pc := 166) dX8_look_166 rfl rfl ?_
          refine gf_X8_0 (pc := 167) dX8_look_167 wF_X8_9 (A_32 hw) T275 ?_
          refine gf_X10_4 (pc := 170) dX8_look_170 wF_X8_76 (A_6 hw) T275 ?_
          refine mr_iload (pc := 173) (z := z271) dX8_look_173 rfl ?_
          refine la_11 (pc := 175) dX8_look_175 (A_11 hw) T275 (rIx (n := 20) h301 rfl) (vc_X8_look_7 h62 h67.2 h283.1 h300 h69 h301 h302 h55 h56 h68 h67.1) fun b303 q304 A305 => ?_
          refine mr_iload_n (pc := 176) (z := p1) dX8_look_176 rfl rfl ?_
          refine mr_cVP (pc := 177) (c_X9_sideOf hw T275 A305 (rW (c := (-2147483648)) (d := 2147483647) hp1 rfl)) (gOk _ _ _ _ _) dX8_look_177 (tX9_sideOf _ _ _ _ _) ⟨wV_X9_sideOf, wL_X9_sideOf⟩ wM_X8_156 (gCX9 _ _ _ _ _) rfl A305 rfl ⟨le_t rfl, le_t rfl⟩ ⟨le_t rfl, le_t rfl⟩ rfl (le_t rfl) fun z310 h309 => ?_
          refine mr_istore (pc := 180) (lv' := [(7, iv z310), (0, .ref 32), (1, iv p1), (2, iv p2), (6, iv z271)]) dX8_look_180 (by decide) rfl ?_
          refine mr_iload (pc := 182) (z := z310) dX8_look_182 rfl ?_
          refine mr_if_lt (pc := 184) (tgt := 196) dX8_look_184 (by decide) (r32 h309.1 rfl) (fun h317 => ?_) (fun h317 => ?_)
          · have h318 : (-1) ≤ z310 ∧ z310 ≤ (-1) := (vc_X12_differ_33 h317 h309.1)
            refine mr_iinc (pc := 196) (lv' := [(6, iv (z271 + 1)), (7, iv z310), (0, .ref 32), (1, iv p1), (2, iv p2)]) dX8_look_196 rfl (by decide) rfl ?_
            refine sv_goto (pc := 199) (tgt := 154) dX8_look_199 (by decide) ?_
            refine mr_lvS (lv' := [(0, .ref 32), (1, iv p1), (2, iv p2), (6, iv (z271 + 1))]) (List.forall_mem_cons.mpr ⟨rfl, List.forall_mem_cons.mpr ⟨rfl, List.forall_mem_cons.mpr ⟨rfl, List.forall_mem_cons.mpr ⟨rfl, fun _ h => absurd h List.not_mem_nil⟩⟩⟩⟩) ?_
            exact ih280 (z271 + 1) μ272 T275 (mF.call mF.refl F276 rfl) (rW (c := 0) (d := 20) (rAdd (e := 1) (f := 20) h301 (rR (x := 1)) rfl) rfl) I278 (vc_X10_tieBetween_6 (nS h279) h300 h283.1 h301 h302)
          have h319 : 0 ≤ z310 ∧ z310 ≤ 1 := (vc_X12_differ_32 h317 h309.1)
          refine sv_aload_n (pc := 187) dX8_look_187 rfl rfl ?_
          refine mr_iload (pc := 188) (z := z271) dX8_look_188 rfl ?_
          refine mr_iload (pc := 190) (z := z310) dX8_look_190 rfl ?_
          refine mr_iload_n (pc := 192) (z := p2) dX8_look_192 rfl rfl ?_
          refine mr_cVV (pc := 193) (c_X8_say hw T275 h301 h319 hp2 (vc_X8_look_7 h62 h67.2 h283.1 h300 h69 h301 h302 h55 h56 h68 h67.1) I278) (gOk _ _ _ _ _) dX8_look_193 (tX8_say _ _ _ _ _) ⟨wV_X8_say, wL_X8_say⟩ wM_X8_72 (gCX8 _ _ _ _ _) rfl (A_32 hw) rfl ⟨le_t rfl, le_t rfl⟩ ⟨le_t rfl, le_t rfl⟩ rfl (le_t rfl) fun μ320 T321 F322 h323 => ?_
          refine mr_iinc (pc := 196) (lv' := [(6, iv (z271 + 1)), (7, iv z310), (0, .ref 32), (1, iv p1), (2, iv p2)]) dX8_look_196 rfl (by decide) rfl ?_
          refine sv_goto (pc := 199) (tgt := 154) dX8_look_199 (by decide) ?_
          refine mr_lvS (lv' := [(0, .ref 32), (1, iv p1), (2, iv p2), (6, iv (z271 + 1))]) (List.forall_mem_cons.mpr ⟨rfl, List.forall_mem_cons.mpr ⟨rfl, List.forall_mem_cons.mpr ⟨rfl, List.forall_mem_cons.mpr ⟨rfl, fun _ h => absurd h List.not_mem_nil⟩⟩⟩⟩) ?_
          exact ih280 (z271 + 1) μ320 T321 (mF.call (mF.call mF.refl F276 rfl) F322 rfl) (rW (c := 0) (d := 20) (rAdd (e := 1) (f := 20) h301 (rR (x := 1)) rfl) rfl) (PC.keep I278 hw ((mF.call mF.refl F322 rfl) : mF [21002, 21003, 21004, 21005, 21006, 21007, 32010, 33999, 34999, 200002, 200003, 200004, 200005, 200006, 200007, 200008, 200009, 201999, 202999] w μ272 μ320) rfl) (vc_X10_tieBetween_6 (nS h279) h300 h283.1 h301 h302)
      refine mr_lvS (lv' := [(0, .ref 32), (1, iv p1), (2, iv p2), (6, iv 0)]) (List.forall_mem_cons.mpr ⟨rfl, List.forall_mem_cons.mpr ⟨rfl, List.forall_mem_cons.mpr ⟨rfl, List.forall_mem_cons.mpr ⟨rfl, fun _ h => absurd h List.not_mem_nil⟩⟩⟩⟩) ?_
      exact L273 22 0 μ78 T79 mF.refl (rW (c := 0) (d := 20) (rR (x := 0)) rfl) (PC.keep I61 hw ((mF.call (mF.up mF.refl A70 u72 rfl) F80 rfl) : mF [200002, 200003, 200004, 200005, 200006, 200007, 200008, 201999, 202999, 213999] w μ57 μ78) rfl) vc_X12_feed_15
    refine sv_aload (pc := 117) dX8_look_117 rfl ?_
    refine sv_aload_n (pc := 119) dX8_look_119 rfl rfl ?_
    refine gf_X0_3 (pc := 120) dX8_look_120 wF_X8_193 A3 T58 fun A324 => ?_
    refine mr_iload_n (pc := 123) (z := p2) dX8_look_123 rfl rfl ?_
    refine la_214 (pc := 124) dX8_look_124 A324 T58 (rIx (n := 10) hp2 rfl) fun b325 q326 A327 => ?_
    refine mr_cVP (pc := 125) (c_X7_isAlike hw T58 A53 A327) (gOk _ _ _ _ _) dX8_look_125 (tX7_isAlike _ _ _ _ _) ⟨wV_X7_isAlike, wL_X7_isAlike⟩ wM_X8_196 (gCX7 _ _ _ _ _) rfl A53 rfl ⟨le_t rfl, le_t rfl⟩ ⟨le_t rfl, le_t rfl⟩ rfl (le_t rfl) fun z332 h331 => ?_
    refine mr_if_eq (pc := 128) (tgt := 132) dX8_look_128 (by decide) (r32 h331.1 rfl) (fun h333 => ?_) (fun h333 => ?_)
    · have h334 : 0 ≤ z332 ∧ z332 ≤ 0 := (vc_X12_letWay_6 h333 h331.1)
      refine sv_aload_n (pc := 132) dX8_look_132 rfl rfl ?_
      refine gf_X0_2 (pc := 133) dX8_look_133 wF_X8_190 A3 T58 fun A335 => ?_
      refine mr_iload_n (pc := 136) (z := p2) dX8_look_136 rfl rfl ?_
      refine mr_iload (pc := 137) (z := z54) dX8_look_137 rfl ?_
      refine ss_213 (pc := 139) dX8_look_139 A335 T58 (rIx (n := 10) hp2 rfl) (vc_X8_look_13 h62 h67.2 h69 h55 h56 h68 h67.1) fun μ336 u337 T338 => ?_
      refine sv_aload_n (pc := 140) dX8_look_140 rfl rfl ?_
      refine gf_X0_3 (pc := 141) dX8_look_141 wF_X8_193 A3 T338 fun A339 => ?_
      refine mr_iload_n (pc := 144) (z := p2) dX8_look_144 rfl rfl ?_
      refine lk_214 (pc := 145) dX8_look_145 A339 (rIx (n := 10) hp2 rfl) (u337.f (Or.inl (mAt.ne A335 A339 rfl)) q326) ?_
      refine sv_aload (pc := 146) dX8_look_146 rfl ?_
      refine mr_cVV (pc := 148) (c_X7_become hw T338 A327 A53) (gOk _ _ _ _ _) dX8_look_148 (tX7_become _ _ _ _ _) ⟨wV_X7_become, wL_X7_become⟩ wM_X8_106 (gCX7 _ _ _ _ _) rfl A327 rfl ⟨le_t rfl, le_t rfl⟩ ⟨le_t rfl, le_t rfl⟩ rfl (le_t rfl) fun μ340 T341 F342 h343 => ?_
      refine mr_iconst (pc := 151) (z := 0) dX8_look_151 ?_
      refine mr_istore (pc := 152) (lv' := [(6, iv 0), (0, .ref 32), (1, iv p1), (2, iv p2), (3, .ref b1), (4, .ref b52), (5, iv z54)]) dX8_look_152 (by decide) rfl ?_
      have L535 : ∀ (nL535 : Nat) (z533 : Int) (μ534 : mM), mT w μ534 → mF [21002, 21003, 21004, 21005, 21006, 21007, 32010, 33999, 34999, 200002, 200003, 200004, 200005, 200006, 200007, 200008, 200009, 201999, 202999] w μ340 μ534 → (0 ≤ z533 ∧ z533 ≤ 20) → PC w μ534 → (21 - z533) < (nL535 : Int) → sV (gG l D c H0 sa) mX8_look (sRm 42 0 0) (sZ (gG l D c H0 sa) 0 0 (qV w [21002, 21003, 21004, 21005, 21006, 21007, 32009, 32010, 33999, 34999, 66999, 200002, 200003, 200004, 200005, 200006, 200007, 200008, 200009, 200010, 200011, 201999, 202999, 213999] μ (fun μ1 => True))) 154 [(0, .ref 32), (1, iv p1), (2, iv p2), (6, iv z533)] [] (mk w μ534) 0 0 := by
        intro nL535
        induction nL535 with
        | zero => intro z533 μ534 T537 F538 h536 I540 h541; exact ((vc_X12_feed_2 h541 h536)).elim
        | succ nL535 ih542 =>
          intro z533 μ534 T537 F538 h536 I540 h541
          refine mr_iload (pc := 154) (z := z533) dX8_look_154 rfl ?_
          refine sv_aload_n (pc := 156) dX8_look_156 rfl rfl ?_
          refine gf_X8_0 (pc := 157) dX8_look_157 wF_X8_9 (A_32 hw) T537 ?_
          refine gf_X10_16 (pc := 160) dX8_look_160 wF_X8_153 (A_6 hw) T537 fun z543 q544 h545 => ?_
          refine mr_icmp_ge (pc := 163) (tgt := 202) dX8_look_163 (by decide) (r32 h536 rfl) (r32 h545.2 rfl) (fun h562 => ?_) (fun h562 => ?_)
          · exact mr_vret dX8_look_202 rfl (le_t rfl) (le_t rfl) T537 (mF.call (mF.call (mF.up (mF.call mF.refl F59 rfl) A335 u337 rfl) F342 rfl) F538 rfl) trivial
          have h563 : 0 ≤ z533 ∧ z533 ≤ 19 := (vc_X10_tieBetween_3 h562 h545.1 h536 h545.2)
          have h564 : 1 ≤ z543 ∧ z543 ≤ 20 := (vc_X10_tieBetween_4 h562 h545.1 h563 h545.2)
          refine sv_aload_n (pc := 166) dX8_look_166 rfl rfl ?_
          refine gf_X8_0 (pc := 167) dX8_look_167 wF_X8_9 (A_32 hw) T537 ?_
          refine gf_X10_4 (pc := 170) dX8_look_170 wF_X8_76 (A_6 hw) T537 ?_
          refine mr_iload (pc := 173) (z := z533) dX8_look_173 rfl ?_
          refine la_11 (pc := 175) dX8_look_175 (A_11 hw) T537 (rIx (n := 20) h563 rfl) (vc_X8_look_17 h62 h67.2 h545.1 h562 h69 h563 h55 h56 h564 h68 h67.1) fun b565 q566 A567 => ?_
          refine mr_iload_n (pc := 176) (z := p1) dX8_look_176 rfl rfl ?_
          refine mr_cVP (pc := 177) (c_X9_sideOf hw T537 A567 (rW (c := (-2147483648)) (d := 2147483647) hp1 rfl)) (gOk _ _ _ _ _) dX8_look_177 (tX9_sideOf _ _ _ _ _) ⟨wV_X9_sideOf, wL_X9_sideOf⟩ wM_X8_156 (gCX9 _ _ _ _ _) rfl A567 rfl ⟨le_t rfl, le_t rfl⟩ ⟨le_t rfl, le_t rfl⟩ rfl (le_t rfl) fun z572 h571 => ?_
          refine mr_istore (pc := 180) (lv' := [(7, iv z572), (0, .ref 32), (1, iv p1), (2, iv p2), (6, iv z533)]) dX8_look_180 (by decide) rfl ?_
          refine mr_iload (pc := 182) (z := z572) dX8_look_182 rfl ?_
          refine mr_if_lt (pc := 184) (tgt := 196) dX8_look_184 (by decide) (r32 h571.1 rfl) (fun h579 => ?_) (fun h579 => ?_)
          · have h580 : (-1) ≤ z572 ∧ z572 ≤ (-1) := (vc_X12_differ_33 h579 h571.1)
            refine mr_iinc (pc := 196) (lv' := [(6, iv (z533 + 1)), (7, iv z572), (0, .ref 32), (1, iv p1), (2, iv p2)]) dX8_look_196 rfl (by decide) rfl ?_
            refine sv_goto (pc := 199) (tgt := 154) dX8_look_199 (by decide) ?_
            refine mr_lvS (lv' := [(0, .ref 32), (1, iv p1), (2, iv p2), (6, iv (z533 + 1))]) (List.forall_mem_cons.mpr ⟨rfl, List.forall_mem_cons.mpr ⟨rfl, List.forall_mem_cons.mpr ⟨rfl, List.forall_mem_cons.mpr ⟨rfl, fun _ h => absurd h List.not_mem_nil⟩⟩⟩⟩) ?_
            exact ih542 (z533 + 1) μ534 T537 (mF.call mF.refl F538 rfl) (rW (c := 0) (d := 20) (rAdd (e := 1) (f := 20) h563 (rR (x := 1)) rfl) rfl) I540 (vc_X10_tieBetween_6 (nS h541) h562 h545.1 h563 h564)
          have h581 : 0 ≤ z572 ∧ z572 ≤ 1 := (vc_X12_differ_32 h579 h571.1)
          refine sv_aload_n (pc := 187) dX8_look_187 rfl rfl ?_
          refine mr_iload (pc := 188) (z := z533) dX8_look_188 rfl ?_
          refine mr_iload (pc := 190) (z := z572) dX8_look_190 rfl ?_
          refine mr_iload_n (pc := 192) (z := p2) dX8_look_192 rfl rfl ?_
          refine mr_cVV (pc := 193) (c_X8_say hw T537 h563 h581 hp2 (vc_X8_look_17 h62 h67.2 h545.1 h562 h69 h563 h55 h56 h564 h68 h67.1) I540) (gOk _ _ _ _ _) dX8_look_193 (tX8_say _ _ _ _ _) ⟨wV_X8_say, wL_X8_say⟩ wM_X8_72 (gCX8 _ _ _ _ _) rfl (A_32 hw) rfl ⟨le_t rfl, le_t rfl⟩ ⟨le_t rfl, le_t rfl⟩ rfl (le_t rfl) fun μ582 T583 F584 h585 => ?_
          refine mr_iinc (pc := 196) (lv' := [(6, iv (z533 + 1)), (7, iv z572), (0, .ref 32), (1, iv p1), (2, iv p2)]) dX8_look_196 rfl (by decide) rfl ?_
          refine sv_goto (pc := 199) (tgt := 154) dX8_look_199 (by decide) ?_
          refine mr_lvS (lv' := [(0, .ref 32), (1, iv p1), (2, iv p2), (6, iv (z533 + 1))]) (List.forall_mem_cons.mpr ⟨rfl, List.forall_mem_cons.mpr ⟨rfl, List.forall_mem_cons.mpr ⟨rfl, List.forall_mem_cons.mpr ⟨rfl, fun _ h => absurd h List.not_mem_nil⟩⟩⟩⟩) ?_
          exact ih542 (z533 + 1) μ582 T583 (mF.call (mF.call mF.refl F538 rfl) F584 rfl) (rW (c := 0) (d := 20) (rAdd (e := 1) (f := 20) h563 (rR (x := 1)) rfl) rfl) (PC.keep I540 hw ((mF.call mF.refl F584 rfl) : mF [21002, 21003, 21004, 21005, 21006, 21007, 32010, 33999, 34999, 200002, 200003, 200004, 200005, 200006, 200007, 200008, 200009, 201999, 202999] w μ534 μ582) rfl) (vc_X10_tieBetween_6 (nS h541) h562 h545.1 h563 h564)
      refine mr_lvS (lv' := [(0, .ref 32), (1, iv p1), (2, iv p2), (6, iv 0)]) (List.forall_mem_cons.mpr ⟨rfl, List.forall_mem_cons.mpr ⟨rfl, List.forall_mem_cons.mpr ⟨rfl, List.forall_mem_cons.mpr ⟨rfl, fun _ h => absurd h List.not_mem_nil⟩⟩⟩⟩) ?_
      exact L535 22 0 μ340 T341 mF.refl (rW (c := 0) (d := 20) (rR (x := 0)) rfl) (PC.keep I61 hw ((mF.call (mF.up mF.refl A335 u337 rfl) F342 rfl) : mF [200002, 200003, 200004, 200005, 200006, 200007, 200008, 201999, 202999, 213999] w μ57 μ340) rfl) vc_X12_feed_15
    have h586 : 1 ≤ z332 ∧ z332 ≤ 1 := (vc_X12_letWay_11 h333 h331.1)
    exact mr_vret dX8_look_131 rfl (le_t rfl) (le_t rfl) T58 (mF.call mF.refl F59 rfl) trivial
  refine mr_icmp_eq (pc := 27) (tgt := 57) dX8_look_27 (by decide) (r32 h7 rfl) (r32 (rR (x := (-1))) rfl) (fun h587 => ?_) (fun h587 => ?_)
  · have h588 : (-1) ≤ z5 ∧ z5 ≤ (-1) := (vc_X8_look_22 h587 h7)
    refine sv_aload_n (pc := 57) dX8_look_57 rfl rfl ?_
    refine mr_iload_n (pc := 58) (z := p1) dX8_look_58 rfl rfl ?_
    refine mr_iload_n (pc := 59) (z := p2) dX8_look_59 rfl rfl ?_
    refine mr_cVV (pc := 60) (c_X8_gather hw hT hp1 hp2 hIPC) (gOk _ _ _ _ _) dX8_look_60 (tX8_gather _ _ _ _ _) ⟨wV_X8_gather, wL_X8_gather⟩ wM_X8_175 (gCX8 _ _ _ _ _) rfl (A_32 hw) rfl ⟨le_t rfl, le_t rfl⟩ ⟨le_t rfl, le_t rfl⟩ rfl (le_t rfl) fun μ589 T590 F591 h592 => ?_
    refine sv_aload_n (pc := 63) dX8_look_63 rfl rfl ?_
    refine gf_X0_5 (pc := 64) dX8_look_64 wF_X8_178 A3 T590 fun z593 q594 h595 => ?_
    refine mr_if_eq (pc := 67) (tgt := 78) dX8_look_67 (by decide) (r32 h595 rfl) (fun h596 => ?_) (fun h596 => ?_)
    · have h597 : 0 ≤ z593 ∧ z593 ≤ 0 := (vc_X12_letWay_6 h596 h595)
      refine sv_aload_n (pc := 78) dX8_look_78 rfl rfl ?_
      refine sv_aload_n (pc := 79) dX8_look_79 rfl rfl ?_
      refine mr_cVI (pc := 80) (c_X8_pickPlain hw T590 A3) (gOk _ _ _ _ _) dX8_look_80 (tX8_pickPlain _ _ _ _ _) ⟨wV_X8_pickPlain, wL_X8_pickPlain⟩ wM_X8_185 (gCX8 _ _ _ _ _) rfl (A_32 hw) rfl ⟨le_t rfl, le_t rfl⟩ ⟨le_t rfl, le_t rfl⟩ rfl (le_t rfl) fun z602 μ598 T599 F600 h601 => ?_
      refine mr_istore (pc := 83) (lv' := [(6, iv z602), (5, iv (-99999999)), (4, .ref 70), (3, .ref b1), (0, .ref 32), (1, iv p1), (2, iv p2)]) dX8_look_83 (by decide) rfl ?_
      refine mr_iload (pc := 85) (z := z602) dX8_look_85 rfl ?_
      refine mr_if_lt (pc := 87) (tgt := 106) dX8_look_87 (by decide) (r32 h601.1 rfl) (fun h603 => ?_) (fun h603 => ?_)
      · have h604 : (-1) ≤ z602 ∧ z602 ≤ (-1) := (vc_X8_look_24 h603 h601.2.1 h601.1)
        refine mr_lvS (lv' := [(0, .ref 32), (1, iv p1), (2, iv p2), (3, .ref b1), (4, .ref 70), (5, iv (-99999999))]) (List.forall_mem_cons.mpr ⟨rfl, List.forall_mem_cons.mpr ⟨rfl, List.forall_mem_cons.mpr ⟨rfl, List.forall_mem_cons.mpr ⟨rfl, List.forall_mem_cons.mpr ⟨rfl, List.forall_mem_cons.mpr ⟨rfl, fun _ h => absurd h List.not_mem_nil⟩⟩⟩⟩⟩⟩) ?_
        exact J63 (-99999999) 70 μ598 (A_70 hw) T599 (mF.call (mF.call mF.refl F591 rfl) F600 rfl) (rW (c := (-99999999)) (d := 19) (rR (x := (-99999999))) rfl) (vc_X8_look_25 h601.2.1 h603 h604) vc_X2_tieFor_24 (PC.keep hIPC hw ((mF.call (mF.call mF.refl F591 rfl) F600 rfl) : mF [21002, 21003, 21004, 21005, 21006, 21007, 32009, 66999, 200002, 200003, 200004, 200005, 200006, 200007, 200008, 200009, 200010, 200011, 201999, 202999] w μ μ598) rfl)
      have h605 : 0 ≤ z602 ∧ z602 ≤ 9 := (vc_X8_look_27 h603 h601.2.1 h601.1)
      refine sv_aload_n (pc := 90) dX8_look_90 rfl rfl ?_
      refine gf_X8_4 (pc := 91) dX8_look_91 wF_X8_34 (A_32 hw) T599 ?_
      refine mr_iload (pc := 94) (z := z602) dX8_look_94 rfl ?_
      refine la_35 (pc := 96) dX8_look_96 (A_35 hw) T599 (rIx (n := 10) h605 rfl) fun b606 q607 A608 => ?_
      refine mr_astore (pc := 97) (lv' := [(4, .ref b606), (6, iv z602), (5, iv (-99999999)), (3, .ref b1), (0, .ref 32), (1, iv p1), (2, iv p2)]) dX8_look_97 (by decide) rfl ?_
      refine sv_aload (pc := 99) dX8_look_99 rfl ?_
      refine gf_X7_10 (pc := 101) dX8_look_101 wF_X8_188 A608 T599 fun z609 q610 h611 => ?_
      have h612 : 0 ≤ z609 ∧ z609 ≤ 19 := ⟨h611.1, h611.2.1⟩
      refine mr_istore (pc := 104) (lv' := [(5, iv z609), (4, .ref b606), (6, iv z602), (3, .ref b1), (0, .ref 32), (1, iv p1), (2, iv p2)]) dX8_look_104 (by decide) rfl ?_
      refine mr_lvS (lv' := [(0, .ref 32), (1, iv p1), (2, iv p2), (3, .ref b1), (4, .ref b606), (5, iv z609)]) (List.forall_mem_cons.mpr ⟨rfl, List.forall_mem_cons.mpr ⟨rfl, List.forall_mem_cons.mpr ⟨rfl, List.forall_mem_cons.mpr ⟨rfl, List.forall_mem_cons.mpr ⟨rfl, List.forall_mem_cons.mpr ⟨rfl, fun _ h => absurd h List.not_mem_nil⟩⟩⟩⟩⟩⟩) ?_
      exact J63 z609 b606 μ598 A608 T599 (mF.call (mF.call mF.refl F591 rfl) F600 rfl) (rW (c := (-99999999)) (d := 19) h612 rfl) (vc_X8_look_28 h601.2.1 h611.2.2 h603 h605 h612) (vc_X8_look_29 h611.2.2 h601.2.1 h605 h612) (PC.keep hIPC hw ((mF.call (mF.call mF.refl F591 rfl) F600 rfl) : mF [21002, 21003, 21004, 21005, 21006, 21007, 32009, 66999, 200002, 200003, 200004, 200005, 200006, 200007, 200008, 200009, 200010, 200011, 201999, 202999] w μ μ598) rfl)
    have h613 : 1 ≤ z593 ∧ z593 ≤ 1 := (vc_X12_letWay_11 h596 h595)
    refine sv_aload_n (pc := 70) dX8_look_70 rfl rfl ?_
    refine sv_aload_n (pc := 71) dX8_look_71 rfl rfl ?_
    refine mr_cVI (pc := 72) (c_X8_pickGrouped hw T590 A3) (gOk _ _ _ _ _) dX8_look_72 (tX8_pickGrouped _ _ _ _ _) ⟨wV_X8_pickGrouped, wL_X8_pickGrouped⟩ wM_X8_181 (gCX8 _ _ _ _ _) rfl (A_32 hw) rfl ⟨le_t rfl, le_t rfl⟩ ⟨le_t rfl, le_t rfl⟩ rfl (le_t rfl) fun z618 μ614 T615 F616 h617 => ?_
    refine sv_goto (pc := 75) (tgt := 83) dX8_look_75 (by decide) ?_
    refine mr_istore (pc := 83) (lv' := [(6, iv z618), (5, iv (-99999999)), (4, .ref 70), (3, .ref b1), (0, .ref 32), (1, iv p1), (2, iv p2)]) dX8_look_83 (by decide) rfl ?_
    refine mr_iload (pc := 85) (z := z618) dX8_look_85 rfl ?_
    refine mr_if_lt (pc := 87) (tgt := 106) dX8_look_87 (by decide) (r32 h617.1 rfl) (fun h619 => ?_) (fun h619 => ?_)
    · have h620 : (-1) ≤ z618 ∧ z618 ≤ (-1) := (vc_X8_look_24 h619 h617.2.1 h617.1)
      refine mr_lvS (lv' := [(0, .ref 32), (1, iv p1), (2, iv p2), (3, .ref b1), (4, .ref 70), (5, iv (-99999999))]) (List.forall_mem_cons.mpr ⟨rfl, List.forall_mem_cons.mpr ⟨rfl, List.forall_mem_cons.mpr ⟨rfl, List.forall_mem_cons.mpr ⟨rfl, List.forall_mem_cons.mpr ⟨rfl, List.forall_mem_cons.mpr ⟨rfl, fun _ h => absurd h List.not_mem_nil⟩⟩⟩⟩⟩⟩) ?_
      exact J63 (-99999999) 70 μ614 (A_70 hw) T615 (mF.call (mF.call mF.refl F591 rfl) F616 rfl) (rW (c := (-99999999)) (d := 19) (rR (x := (-99999999))) rfl) (vc_X8_look_25 h617.2.1 h619 h620) vc_X2_tieFor_24 (PC.keep hIPC hw ((mF.call (mF.call mF.refl F591 rfl) F616 rfl) : mF [21002, 21003, 21004, 21005, 21006, 21007, 32009, 66999, 200002, 200003, 200004, 200005, 200006, 200007, 200008, 200009, 200010, 200011, 201999, 202999] w μ μ614) rfl)
    have h621 : 0 ≤ z618 ∧ z618 ≤ 9 := (vc_X8_look_27 h619 h617.2.1 h617.1)
    refine sv_aload_n (pc := 90) dX8_look_90 rfl rfl ?_
    refine gf_X8_4 (pc := 91) dX8_look_91 wF_X8_34 (A_32 hw) T615 ?_
    refine mr_iload (pc := 94) (z := z618) dX8_look_94 rfl ?_
    refine la_35 (pc := 96) dX8_look_96 (A_35 hw) T615 (rIx (n := 10) h621 rfl) fun b622 q623 A624 => ?_
    refine mr_astore (pc := 97) (lv' := [(4, .ref b622), (6, iv z618), (5, iv (-99999999)), (3, .ref b1), (0, .ref 32), (1, iv p1), (2, iv p2)]) dX8_look_97 (by decide) rfl ?_
    refine sv_aload (pc := 99) dX8_look_99 rfl ?_
    refine gf_X7_10 (pc := 101) dX8_look_101 wF_X8_188 A624 T615 fun z625 q626 h627 => ?_
    have h628 : 0 ≤ z625 ∧ z625 ≤ 19 := ⟨h627.1, h627.2.1⟩
    refine mr_istore (pc := 104) (lv' := [(5, iv z625), (4, .ref b622), (6, iv z618), (3, .ref b1), (0, .ref 32), (1, iv p1), (2, iv p2)]) dX8_look_104 (by decide) rfl ?_
    refine mr_lvS (lv' := [(0, .ref 32), (1, iv p1), (2, iv p2), (3, .ref b1), (4, .ref b622), (5, iv z625)]) (List.forall_mem_cons.mpr ⟨rfl, List.forall_mem_cons.mpr ⟨rfl, List.forall_mem_cons.mpr ⟨rfl, List.forall_mem_cons.mpr ⟨rfl, List.forall_mem_cons.mpr ⟨rfl, List.forall_mem_cons.mpr ⟨rfl, fun _ h => absurd h List.not_mem_nil⟩⟩⟩⟩⟩⟩) ?_
    exact J63 z625 b622 μ614 A624 T615 (mF.call (mF.call mF.refl F591 rfl) F616 rfl) (rW (c := (-99999999)) (d := 19) h628 rfl) (vc_X8_look_28 h617.2.1 h627.2.2 h619 h621 h628) (vc_X8_look_29 h627.2.2 h617.2.1 h621 h628) (PC.keep hIPC hw ((mF.call (mF.call mF.refl F591 rfl) F616 rfl) : mF [21002, 21003, 21004, 21005, 21006, 21007, 32009, 66999, 200002, 200003, 200004, 200005, 200006, 200007, 200008, 200009, 200010, 200011, 201999, 202999] w μ μ614) rfl)
  have h629 : 0 ≤ z5 ∧ z5 ≤ 2 := (vc_X8_look_36 h587 h7)
  refine sv_aload_n (pc := 30) dX8_look_30 rfl rfl ?_
  refine gf_X8_6 (pc := 31) dX8_look_31 wF_X8_42 (A_32 hw) hT ?_
  refine mr_iload_n (pc := 34) (z := p2) dX8_look_34 rfl rfl ?_
  refine sv_aload_n (pc := 35) dX8_look_35 rfl rfl ?_
  refine gf_X0_1 (pc := 36) dX8_look_36 wF_X8_167 A3 hT fun A630 => ?_
  refine mr_iload_n (pc := 39) (z := p2) dX8_look_39 rfl rfl ?_
  refine lk_212 (pc := 40) dX8_look_40 A630 (rIx (n := 10) hp2 rfl) q6 ?_
  refine mr_cVV (pc := 41) (c_X7_begin hw hT (A_67 hw) hp2 (rW (c := (-2147483648)) (d := 2147483647) h629 rfl)) (gOk _ _ _ _ _) dX8_look_41 (tX7_begin _ _ _ _ _) ⟨wV_X7_begin, wL_X7_begin⟩ wM_X8_172 (gCX7 _ _ _ _ _) rfl (A_67 hw) rfl ⟨le_t rfl, le_t rfl⟩ ⟨le_t rfl, le_t rfl⟩ rfl (le_t rfl) fun μ631 T632 F633 h634 => ?_
  refine sv_aload_n (pc := 44) dX8_look_44 rfl rfl ?_
  refine gf_X8_6 (pc := 45) dX8_look_45 wF_X8_42 (A_32 hw) T632 ?_
  refine mr_astore (pc := 48) (lv' := [(4, .ref 67), (5, iv (-99999999)), (3, .ref b1), (0, .ref 32), (1, iv p1), (2, iv p2)]) dX8_look_48 (by decide) rfl ?_
  refine mr_bipush (pc := 50) (z := (-4)) dX8_look_50 (by decide) ?_
  refine mr_istore (pc := 52) (lv' := [(5, iv (-4)), (4, .ref 67), (3, .ref b1), (0, .ref 32), (1, iv p1), (2, iv p2)]) dX8_look_52 (by decide) rfl ?_
  refine sv_goto (pc := 54) (tgt := 106) dX8_look_54 (by decide) ?_
  refine mr_lvS (lv' := [(0, .ref 32), (1, iv p1), (2, iv p2), (3, .ref b1), (4, .ref 67), (5, iv (-4))]) (List.forall_mem_cons.mpr ⟨rfl, List.forall_mem_cons.mpr ⟨rfl, List.forall_mem_cons.mpr ⟨rfl, List.forall_mem_cons.mpr ⟨rfl, List.forall_mem_cons.mpr ⟨rfl, List.forall_mem_cons.mpr ⟨rfl, fun _ h => absurd h List.not_mem_nil⟩⟩⟩⟩⟩⟩) ?_
  exact J63 (-4) 67 μ631 (A_67 hw) T632 (mF.call mF.refl F633 rfl) (rW (c := (-99999999)) (d := 19) (rR (x := (-4))) rfl) vc_X8_look_37 vc_X8_look_38 (PC.keep hIPC hw ((mF.call mF.refl F633 rfl) : mF [200002, 200003, 200004, 200005, 200006, 200007, 200008] w μ μ631) rfl)
set_option maxRecDepth 4000 in
set_option maxHeartbeats 4000000 in
theorem c_X8_lookAtAll {l : Launch} {D : va_G} {c : Nat → ClassId} {H0 : Heap} {sa : Nat × Nat × (Nat → Int32)} {w : mW} {μ : mM} (hw : mWF w) (hT : mT w μ) {p1 : Int} (hp1 : 0 ≤ p1 ∧ p1 ≤ 9) (hq0 : p1 < w.2.2.2 0) (hIPC : PC w μ) : sC (gG l D c H0 sa) mX8_lookAtAll 43 0 0 [.ref 32, iv p1] (mk w μ) (qV w [21002, 21003, 21004, 21005, 21006, 21007, 32009, 32010, 33999, 34999, 66999, 200002, 200003, 200004, 200005, 200006, 200007, 200008, 200009, 200010, 200011, 201999, 202999, 213999] μ (fun μ1 => True)) := by
  refine sC.of rfl (by decide) (le_t rfl) ?_
  refine mr_lvE (lv' := [(0, .ref 32), (1, iv p1)]) rfl ?_
  refine mr_iconst (pc := 0) (z := 0) dX8_lookAtAll_0 ?_
  refine mr_istore_n (pc := 1) (lv' := [(2, iv 0), (0, .ref 32), (1, iv p1)]) dX8_lookAtAll_1 rfl (by decide) rfl ?_
  have L69 : ∀ (nL69 : Nat) (z67 : Int) (μ68 : mM), mT w μ68 → mF [21002, 21003, 21004, 21005, 21006, 21007, 32009, 32010, 33999, 34999, 66999, 200002, 200003, 200004, 200005, 200006, 200007, 200008, 200009, 200010, 200011, 201999, 202999, 213999] w μ μ68 → (0 ≤ z67 ∧ z67 ≤ 10) → PC w μ68 → (11 - z67) < (nL69 : Int) → sV (gG l D c H0 sa) mX8_lookAtAll (sRm 43 0 0) (sZ (gG l D c H0 sa) 0 0 (qV w [21002, 21003, 21004, 21005, 21006, 21007, 32009, 32010, 33999, 34999, 66999, 200002, 200003, 200004, 200005, 200006, 200007, 200008, 200009, 200010, 200011, 201999, 202999, 213999] μ (fun μ1 => True))) 2 [(0, .ref 32), (1, iv p1), (2, iv z67)] [] (mk w μ68) 0 0 := by
    intro nL69
    induction nL69 with
    | zero => intro z67 μ68 T71 F72 h70 I74 h75; exact ((vc_X12_sends_1 h75 h70)).elim
    | succ nL69 ih76 =>
      intro z67 μ68 T71 F72 h70 I74 h75
      refine mr_iload_n (pc := 2) (z := z67) dX8_lookAtAll_2 rfl rfl ?_
      refine sv_aload_n (pc := 3) dX8_lookAtAll_3 rfl rfl ?_
      refine gf_X8_0 (pc := 4) dX8_lookAtAll_4 wF_X8_9 (A_32 hw) T71 ?_
      refine gf_X10_14 (pc := 7) dX8_lookAtAll_7 wF_X8_150 (A_6 hw) T71 fun z77 q78 h79 => ?_
      refine mr_icmp_ge (pc := 10) (tgt := 25) dX8_lookAtAll_10 (by decide) (r32 h70 rfl) (r32 h79 rfl) (fun h86 => ?_) (fun h86 => ?_)
      · exact mr_vret dX8_lookAtAll_25 rfl (le_t rfl) (le_t rfl) T71 (mF.call mF.refl F72 rfl) trivial
      have h87 : 0 ≤ z67 ∧ z67 ≤ 9 := (vc_X12_sends_7 h86 h70 h79)
      have h88 : 1 ≤ z77 ∧ z77 ≤ 10 := (vc_X12_sends_8 h86 h87 h79)
      refine sv_aload_n (pc := 13) dX8_lookAtAll_13 rfl rfl ?_
      refine mr_iload_n (pc := 14) (z := p1) dX8_lookAtAll_14 rfl rfl ?_
      refine mr_iload_n (pc := 15) (z := z67) dX8_lookAtAll_15 rfl rfl ?_
      refine mr_cVV (pc := 16) (c_X8_look hw T71 hp1 h87 (vc_X9_end_1 hq0 hp1) I74) (gOk _ _ _ _ _) dX8_lookAtAll_16 (tX8_look _ _ _ _ _) ⟨wV_X8_look, wL_X8_look⟩ wM_X8_92 (gCX8 _ _ _ _ _) rfl (A_32 hw) rfl ⟨le_t rfl, le_t rfl⟩ ⟨le_t rfl, le_t rfl⟩ rfl (le_t rfl) fun μ89 T90 F91 h92 => ?_
      refine mr_iinc (pc := 19) (lv' := [(2, iv (z67 + 1)), (0, .ref 32), (1, iv p1)]) dX8_lookAtAll_19 rfl (by decide) rfl ?_
      refine sv_goto (pc := 22) (tgt := 2) dX8_lookAtAll_22 (by decide) ?_
      refine mr_lvS (lv' := [(0, .ref 32), (1, iv p1), (2, iv (z67 + 1))]) (List.forall_mem_cons.mpr ⟨rfl, List.forall_mem_cons.mpr ⟨rfl, List.forall_mem_cons.mpr ⟨rfl, fun _ h => absurd h List.not_mem_nil⟩⟩⟩) ?_
      exact ih76 (z67 + 1) μ89 T90 (mF.call (mF.call mF.refl F72 rfl) F91 rfl) (rW (c := 0) (d := 10) (rAdd (e := 1) (f := 10) h87 (rR (x := 1)) rfl) rfl) (PC.keep I74 hw ((mF.call mF.refl F91 rfl) : mF [21002, 21003, 21004, 21005, 21006, 21007, 32009, 32010, 33999, 34999, 66999, 200002, 200003, 200004, 200005, 200006, 200007, 200008, 200009, 200010, 200011, 201999, 202999, 213999] w μ68 μ89) rfl) (vc_X12_sends_11 (nS h75) h86 h87 h88)
  refine mr_lvS (lv' := [(0, .ref 32), (1, iv p1), (2, iv 0)]) (List.forall_mem_cons.mpr ⟨rfl, List.forall_mem_cons.mpr ⟨rfl, List.forall_mem_cons.mpr ⟨rfl, fun _ h => absurd h List.not_mem_nil⟩⟩⟩) ?_
  exact L69 12 0 μ hT mF.refl (rW (c := 0) (d := 10) (rR (x := 0)) rfl) hIPC vc_X12_sends_20
theorem vc_X8_tellAllAnew_3 {n0 z1183 z869 z879 : Int} (h0 : z1183 < z879) (h1 : z879 = n0) (h2 : z879 ≤ z869) (h3 : 0 ≤ z1183 ∧ z1183 ≤ 10) (h4 : 0 ≤ z869 ∧ z869 ≤ 10) (h5 : 0 ≤ z879 ∧ z879 ≤ 10) : 0 ≤ z1183 ∧ z1183 ≤ 9 := by omega
theorem vc_X8_tellAllAnew_4 {n0 z1183 z869 z879 : Int} (h0 : z1183 < z879) (h1 : z879 = n0) (h2 : z879 ≤ z869) (h3 : 0 ≤ z1183 ∧ z1183 ≤ 9) (h4 : 0 ≤ z869 ∧ z869 ≤ 10) (h5 : 0 ≤ z879 ∧ z879 ≤ 10) : 1 ≤ z879 ∧ z879 ≤ 10 := by omega
theorem vc_X8_tellAllAnew_6 {N n0 z1183 z869 z879 : Int} (h0 : (11 - z1183) < N + 1) (h1 : z1183 < z879) (h2 : z879 = n0) (h3 : z879 ≤ z869) (h4 : 0 ≤ z1183 ∧ z1183 ≤ 9) (h5 : 0 ≤ z869 ∧ z869 ≤ 10) (h6 : 1 ≤ z879 ∧ z879 ≤ 10) : (11 - (z1183 + 1)) < N := by omega
theorem vc_X8_tellAllAnew_21 {n0 z869 z879 : Int} (h0 : z879 = n0) (h1 : z869 < z879) (h2 : 0 ≤ z869 ∧ z869 ≤ 9) (h3 : 1 ≤ z879 ∧ z879 ≤ 10) : z869 < n0 := by omega
set_option maxRecDepth 4000 in
set_option maxHeartbeats 4000000 in
theorem c_X8_tellAllAnew {l : Launch} {D : va_G} {c : Nat → ClassId} {H0 : Heap} {sa : Nat × Nat × (Nat → Int32)} {w : mW} {μ : mM} (hw : mWF w) (hT : mT w μ) (hIPC : PC w μ) : sC (gG l D c H0 sa) mX8_tellAllAnew 43 0 0 [.ref 32] (mk w μ) (qV w [21002, 21003, 21004, 21005, 21006, 21007, 32009, 32010, 33999, 34999, 66999, 200002, 200003, 200004, 200005, 200006, 200007, 200008, 200009, 200010, 200011, 201999, 202999, 213999] μ (fun μ1 => True)) := by
  refine sC.of rfl (by decide) (le_t rfl) ?_
  refine mr_lvE (lv' := [(0, .ref 32)]) rfl ?_
  refine mr_iconst (pc := 0) (z := 0) dX8_tellAllAnew_0 ?_
  refine mr_istore_n (pc := 1) (lv' := [(1, iv 0), (0, .ref 32)]) dX8_tellAllAnew_1 rfl (by decide) rfl ?_
  have L871 : ∀ (nL871 : Nat) (z869 : Int) (μ870 : mM), mT w μ870 → mF [21002, 21003, 21004, 21005, 21006, 21007, 32009, 32010, 33999, 34999, 66999, 200002, 200003, 200004, 200005, 200006, 200007, 200008, 200009, 200010, 200011, 201999, 202999, 213999] w μ μ870 → (0 ≤ z869 ∧ z869 ≤ 10) → PC w μ870 → (11 - z869) < (nL871 : Int) → sV (gG l D c H0 sa) mX8_tellAllAnew (sRm 43 0 0) (sZ (gG l D c H0 sa) 0 0 (qV w [21002, 21003, 21004, 21005, 21006, 21007, 32009, 32010, 33999, 34999, 66999, 200002, 200003, 200004, 200005, 200006, 200007, 200008, 200009, 200010, 200011, 201999, 202999, 213999] μ (fun μ1 => True))) 2 [(0, .ref 32), (1, iv z869)] [] (mk w μ870) 0 0 := by
    intro nL871
    induction nL871 with
    | zero => intro z869 μ870 T873 F874 h872 I876 h877; exact ((vc_X12_sends_1 h877 h872)).elim
    | succ nL871 ih878 =>
      intro z869 μ870 T873 F874 h872 I876 h877
      refine mr_iload_n (pc := 2) (z := z869) dX8_tellAllAnew_2 rfl rfl ?_
      refine sv_aload_n (pc := 3) dX8_tellAllAnew_3 rfl rfl ?_
      refine gf_X8_0 (pc := 4) dX8_tellAllAnew_4 wF_X8_9 (A_32 hw) T873 ?_
      refine gf_X10_15 (pc := 7) dX8_tellAllAnew_7 wF_X8_147 (A_6 hw) T873 fun z879 q880 h881 => ?_
      refine mr_icmp_ge (pc := 10) (tgt := 44) dX8_tellAllAnew_10 (by decide) (r32 h872 rfl) (r32 h881.2 rfl) (fun h906 => ?_) (fun h906 => ?_)
      · refine mr_iconst (pc := 44) (z := 0) dX8_tellAllAnew_44 ?_
        refine mr_istore_n (pc := 45) (lv' := [(1, iv 0), (0, .ref 32)]) dX8_tellAllAnew_45 rfl (by decide) rfl ?_
        have L1185 : ∀ (nL1185 : Nat) (z1183 : Int) (μ1184 : mM), mT w μ1184 → mF [21002, 21003, 21004, 21005, 21006, 21007, 32010, 33999, 34999, 200002, 200003, 200004, 200005, 200006, 200007, 200008, 200009, 201999, 202999] w μ870 μ1184 → (0 ≤ z1183 ∧ z1183 ≤ 10) → PC w μ1184 → (11 - z1183) < (nL1185 : Int) → sV (gG l D c H0 sa) mX8_tellAllAnew (sRm 43 0 0) (sZ (gG l D c H0 sa) 0 0 (qV w [21002, 21003, 21004, 21005, 21006, 21007, 32009, 32010, 33999, 34999, 66999, 200002, 200003, 200004, 200005, 200006, 200007, 200008, 200009, 200010, 200011, 201999, 202999, 213999] μ (fun μ1 => True))) 46 [(0, .ref 32), (1, iv z1183)] [] (mk w μ1184) 0 0 := by
          intro nL1185
          induction nL1185 with
          | zero => intro z1183 μ1184 T1187 F1188 h1186 I1190 h1191; exact ((vc_X12_sends_1 h1191 h1186)).elim
          | succ nL1185 ih1192 =>
            intro z1183 μ1184 T1187 F1188 h1186 I1190 h1191
            refine mr_iload_n (pc := 46) (z := z1183) dX8_tellAllAnew_46 rfl rfl ?_
            refine sv_aload_n (pc := 47) dX8_tellAllAnew_47 rfl rfl ?_
            refine gf_X8_0 (pc := 48) dX8_tellAllAnew_48 wF_X8_9 (A_32 hw) T1187 ?_
            refine gk_X10_15 (pc := 51) dX8_tellAllAnew_51 wF_X8_147 (A_6 hw) (F1188.f (A_6 hw) rfl q880) ?_
            refine mr_icmp_ge (pc := 54) (tgt := 106) dX8_tellAllAnew_54 (by decide) (r32 h1186 rfl) (r32 h881.2 rfl) (fun h1237 => ?_) (fun h1237 => ?_)
            · exact mr_vret dX8_tellAllAnew_106 rfl (le_t rfl) (le_t rfl) T1187 (mF.call (mF.call mF.refl F874 rfl) F1188 rfl) trivial
            have h1238 : 0 ≤ z1183 ∧ z1183 ≤ 9 := (vc_X8_tellAllAnew_3 h1237 h881.1 h906 h1186 h872 h881.2)
            have h1239 : 1 ≤ z879 ∧ z879 ≤ 10 := (vc_X8_tellAllAnew_4 h1237 h881.1 h906 h1238 h872 h881.2)
            refine mr_iconst (pc := 57) (z := 0) dX8_tellAllAnew_57 ?_
            refine mr_istore_n (pc := 58) (lv' := [(2, iv 0), (0, .ref 32), (1, iv z1183)]) dX8_tellAllAnew_58 rfl (by decide) rfl ?_
            have L1410 : ∀ (nL1410 : Nat) (z1408 : Int) (μ1409 : mM), mT w μ1409 → mF [21002, 21003, 21004, 21005, 21006, 21007, 32010, 33999, 34999, 200002, 200003, 200004, 200005, 200006, 200007, 200008, 200009, 201999, 202999] w μ1184 μ1409 → (0 ≤ z1408 ∧ z1408 ≤ 20) → PC w μ1409 → (21 - z1408) < (nL1410 : Int) → sV (gG l D c H0 sa) mX8_tellAllAnew (sRm 43 0 0) (sZ (gG l D c H0 sa) 0 0 (qV w [21002, 21003, 21004, 21005, 21006, 21007, 32009, 32010, 33999, 34999, 66999, 200002, 200003, 200004, 200005, 200006, 200007, 200008, 200009, 200010, 200011, 201999, 202999, 213999] μ (fun μ1 => True))) 59 [(0, .ref 32), (1, iv z1183), (2, iv z1408)] [] (mk w μ1409) 0 0 := by
              intro nL1410
              induction nL1410 with
              | zero => intro z1408 μ1409 T1412 F1413 h1411 I1415 h1416; exact ((vc_X12_feed_2 h1416 h1411)).elim
              | succ nL1410 ih1417 =>
                intro z1408 μ1409 T1412 F1413 h1411 I1415 h1416
                refine mr_iload_n (pc := 59) (z := z1408) dX8_tellAllAnew_59 rfl rfl ?_
                refine sv_aload_n (pc := 60) dX8_tellAllAnew_60 rfl rfl ?_
                refine gf_X8_0 (pc := 61) dX8_tellAllAnew_61 wF_X8_9 (A_32 hw) T1412 ?_
                refine gf_X10_16 (pc := 64) dX8_tellAllAnew_64 wF_X8_153 (A_6 hw) T1412 fun z1418 q1419 h1420 => ?_
                refine mr_icmp_ge (pc := 67) (tgt := 100) dX8_tellAllAnew_67 (by decide) (r32 h1411 rfl) (r32 h1420.2 rfl) (fun h1437 => ?_) (fun h1437 => ?_)
                · refine mr_iinc (pc := 100) (lv' := [(1, iv (z1183 + 1)), (0, .ref 32), (2, iv z1408)]) dX8_tellAllAnew_100 rfl (by decide) rfl ?_
                  refine sv_goto (pc := 103) (tgt := 46) dX8_tellAllAnew_103 (by decide) ?_
                  refine mr_lvS (lv' := [(0, .ref 32), (1, iv (z1183 + 1))]) (List.forall_mem_cons.mpr ⟨rfl, List.forall_mem_cons.mpr ⟨rfl, fun _ h => absurd h List.not_mem_nil⟩⟩) ?_
                  exact ih1192 (z1183 + 1) μ1409 T1412 (mF.call (mF.call mF.refl F1188 rfl) F1413 rfl) (rW (c := 0) (d := 10) (rAdd (e := 1) (f := 10) h1238 (rR (x := 1)) rfl) rfl) I1415 (vc_X8_tellAllAnew_6 (nS h1191) h1237 h881.1 h906 h1238 h872 h1239)
                have h1438 : 0 ≤ z1408 ∧ z1408 ≤ 19 := (vc_X10_tieBetween_3 h1437 h1420.1 h1411 h1420.2)
                have h1439 : 1 ≤ z1418 ∧ z1418 ≤ 20 := (vc_X10_tieBetween_4 h1437 h1420.1 h1438 h1420.2)
                refine sv_aload_n (pc := 70) dX8_tellAllAnew_70 rfl rfl ?_
                refine gf_X8_0 (pc := 71) dX8_tellAllAnew_71 wF_X8_9 (A_32 hw) T1412 ?_
                refine gf_X10_4 (pc := 74) dX8_tellAllAnew_74 wF_X8_76 (A_6 hw) T1412 ?_
                refine mr_iload_n (pc := 77) (z := z1408) dX8_tellAllAnew_77 rfl rfl ?_
                refine la_11 (pc := 78) dX8_tellAllAnew_78 (A_11 hw) T1412 (rIx (n := 20) h1438 rfl) (vc_X10_tieBetween_5 h1420.1 h1437 h1438 h1439) fun b1440 q1441 A1442 => ?_
                refine mr_iload_n (pc := 79) (z := z1183) dX8_tellAllAnew_79 rfl rfl ?_
                refine mr_cVP (pc := 80) (c_X9_sideOf hw T1412 A1442 (rW (c := (-2147483648)) (d := 2147483647) h1238 rfl)) (gOk _ _ _ _ _) dX8_tellAllAnew_80 (tX9_sideOf _ _ _ _ _) ⟨wV_X9_sideOf, wL_X9_sideOf⟩ wM_X8_156 (gCX9 _ _ _ _ _) rfl A1442 rfl ⟨le_t rfl, le_t rfl⟩ ⟨le_t rfl, le_t rfl⟩ rfl (le_t rfl) fun z1447 h1446 => ?_
                refine mr_istore_n (pc := 83) (lv' := [(3, iv z1447), (0, .ref 32), (1, iv z1183), (2, iv z1408)]) dX8_tellAllAnew_83 rfl (by decide) rfl ?_
                refine mr_iload_n (pc := 84) (z := z1447) dX8_tellAllAnew_84 rfl rfl ?_
                refine mr_if_lt (pc := 85) (tgt := 94) dX8_tellAllAnew_85 (by decide) (r32 h1446.1 rfl) (fun h1454 => ?_) (fun h1454 => ?_)
                · have h1455 : (-1) ≤ z1447 ∧ z1447 ≤ (-1) := (vc_X12_differ_33 h1454 h1446.1)
                  refine mr_iinc (pc := 94) (lv' := [(2, iv (z1408 + 1)), (3, iv z1447), (0, .ref 32), (1, iv z1183)]) dX8_tellAllAnew_94 rfl (by decide) rfl ?_
                  refine sv_goto (pc := 97) (tgt := 59) dX8_tellAllAnew_97 (by decide) ?_
                  refine mr_lvS (lv' := [(0, .ref 32), (1, iv z1183), (2, iv (z1408 + 1))]) (List.forall_mem_cons.mpr ⟨rfl, List.forall_mem_cons.mpr ⟨rfl, List.forall_mem_cons.mpr ⟨rfl, fun _ h => absurd h List.not_mem_nil⟩⟩⟩) ?_
                  exact ih1417 (z1408 + 1) μ1409 T1412 (mF.call mF.refl F1413 rfl) (rW (c := 0) (d := 20) (rAdd (e := 1) (f := 20) h1438 (rR (x := 1)) rfl) rfl) I1415 (vc_X10_tieBetween_6 (nS h1416) h1437 h1420.1 h1438 h1439)
                have h1456 : 0 ≤ z1447 ∧ z1447 ≤ 1 := (vc_X12_differ_32 h1454 h1446.1)
                refine sv_aload_n (pc := 88) dX8_tellAllAnew_88 rfl rfl ?_
                refine mr_iload_n (pc := 89) (z := z1408) dX8_tellAllAnew_89 rfl rfl ?_
                refine mr_iload_n (pc := 90) (z := z1447) dX8_tellAllAnew_90 rfl rfl ?_
                refine mr_cVV (pc := 91) (c_X8_sayAll hw T1412 h1438 h1456 (vc_X10_tieBetween_5 h1420.1 h1437 h1438 h1439) I1415) (gOk _ _ _ _ _) dX8_tellAllAnew_91 (tX8_sayAll _ _ _ _ _) ⟨wV_X8_sayAll, wL_X8_sayAll⟩ wM_X8_159 (gCX8 _ _ _ _ _) rfl (A_32 hw) rfl ⟨le_t rfl, le_t rfl⟩ ⟨le_t rfl, le_t rfl⟩ rfl (le_t rfl) fun μ1457 T1458 F1459 h1460 => ?_
                refine mr_iinc (pc := 94) (lv' := [(2, iv (z1408 + 1)), (3, iv z1447), (0, .ref 32), (1, iv z1183)]) dX8_tellAllAnew_94 rfl (by decide) rfl ?_
                refine sv_goto (pc := 97) (tgt := 59) dX8_tellAllAnew_97 (by decide) ?_
                refine mr_lvS (lv' := [(0, .ref 32), (1, iv z1183), (2, iv (z1408 + 1))]) (List.forall_mem_cons.mpr ⟨rfl, List.forall_mem_cons.mpr ⟨rfl, List.forall_mem_cons.mpr ⟨rfl, fun _ h => absurd h List.not_mem_nil⟩⟩⟩) ?_
                exact ih1417 (z1408 + 1) μ1457 T1458 (mF.call (mF.call mF.refl F1413 rfl) F1459 rfl) (rW (c := 0) (d := 20) (rAdd (e := 1) (f := 20) h1438 (rR (x := 1)) rfl) rfl) (PC.keep I1415 hw ((mF.call mF.refl F1459 rfl) : mF [21002, 21003, 21004, 21005, 21006, 21007, 32010, 33999, 34999, 200002, 200003, 200004, 200005, 200006, 200007, 200008, 200009, 201999, 202999] w μ1409 μ1457) rfl) (vc_X10_tieBetween_6 (nS h1416) h1437 h1420.1 h1438 h1439)
            refine mr_lvS (lv' := [(0, .ref 32), (1, iv z1183), (2, iv 0)]) (List.forall_mem_cons.mpr ⟨rfl, List.forall_mem_cons.mpr ⟨rfl, List.forall_mem_cons.mpr ⟨rfl, fun _ h => absurd h List.not_mem_nil⟩⟩⟩) ?_
            exact L1410 22 0 μ1184 T1187 mF.refl (rW (c := 0) (d := 20) (rR (x := 0)) rfl) I1190 vc_X12_feed_15
        refine mr_lvS (lv' := [(0, .ref 32), (1, iv 0)]) (List.forall_mem_cons.mpr ⟨rfl, List.forall_mem_cons.mpr ⟨rfl, fun _ h => absurd h List.not_mem_nil⟩⟩) ?_
        exact L1185 12 0 μ870 T873 mF.refl (rW (c := 0) (d := 10) (rR (x := 0)) rfl) I876 vc_X12_sends_20
      have h1461 : 0 ≤ z869 ∧ z869 ≤ 9 := (vc_X10_coneOf_2 h906 h881.1 h872 h881.2)
      have h1462 : 1 ≤ z879 ∧ z879 ≤ 10 := (vc_X10_coneOf_3 h906 h881.1 h1461 h881.2)
      refine mr_iconst (pc := 13) (z := 0) dX8_tellAllAnew_13 ?_
      refine mr_istore_n (pc := 14) (lv' := [(2, iv 0), (0, .ref 32), (1, iv z869)]) dX8_tellAllAnew_14 rfl (by decide) rfl ?_
      have L1531 : ∀ (nL1531 : Nat) (z1529 : Int) (μ1530 : mM), mT w μ1530 → mF [21002, 21003, 21004, 21005, 21006, 21007, 32009, 32010, 33999, 34999, 66999, 200002, 200003, 200004, 200005, 200006, 200007, 200008, 200009, 200010, 200011, 201999, 202999, 213999] w μ870 μ1530 → (0 ≤ z1529 ∧ z1529 ≤ 10) → PC w μ1530 → (11 - z1529) < (nL1531 : Int) → sV (gG l D c H0 sa) mX8_tellAllAnew (sRm 43 0 0) (sZ (gG l D c H0 sa) 0 0 (qV w [21002, 21003, 21004, 21005, 21006, 21007, 32009, 32010, 33999, 34999, 66999, 200002, 200003, 200004, 200005, 200006, 200007, 200008, 200009, 200010, 200011, 201999, 202999, 213999] μ (fun μ1 => True))) 15 [(0, .ref 32), (1, iv z869), (2, iv z1529)] [] (mk w μ1530) 0 0 := by
        intro nL1531
        induction nL1531 with
        | zero => intro z1529 μ1530 T1533 F1534 h1532 I1536 h1537; exact ((vc_X12_sends_1 h1537 h1532)).elim
        | succ nL1531 ih1538 =>
          intro z1529 μ1530 T1533 F1534 h1532 I1536 h1537
          refine mr_iload_n (pc := 15) (z := z1529) dX8_tellAllAnew_15 rfl rfl ?_
          refine sv_aload_n (pc := 16) dX8_tellAllAnew_16 rfl rfl ?_
          refine gf_X8_0 (pc := 17) dX8_tellAllAnew_17 wF_X8_9 (A_32 hw) T1533 ?_
          refine gf_X10_14 (pc := 20) dX8_tellAllAnew_20 wF_X8_150 (A_6 hw) T1533 fun z1539 q1540 h1541 => ?_
          refine mr_icmp_ge (pc := 23) (tgt := 38) dX8_tellAllAnew_23 (by decide) (r32 h1532 rfl) (r32 h1541 rfl) (fun h1548 => ?_) (fun h1548 => ?_)
          · refine mr_iinc (pc := 38) (lv' := [(1, iv (z869 + 1)), (0, .ref 32), (2, iv z1529)]) dX8_tellAllAnew_38 rfl (by decide) rfl ?_
            refine sv_goto (pc := 41) (tgt := 2) dX8_tellAllAnew_41 (by decide) ?_
            refine mr_lvS (lv' := [(0, .ref 32), (1, iv (z869 + 1))]) (List.forall_mem_cons.mpr ⟨rfl, List.forall_mem_cons.mpr ⟨rfl, fun _ h => absurd h List.not_mem_nil⟩⟩) ?_
            exact ih878 (z869 + 1) μ1530 T1533 (mF.call (mF.call mF.refl F874 rfl) F1534 rfl) (rW (c := 0) (d := 10) (rAdd (e := 1) (f := 10) h1461 (rR (x := 1)) rfl) rfl) I1536 (vc_X10_coneOf_5 (nS h877) h906 h881.1 h1461 h1462)
          have h1549 : 0 ≤ z1529 ∧ z1529 ≤ 9 := (vc_X12_sends_7 h1548 h1532 h1541)
          have h1550 : 1 ≤ z1539 ∧ z1539 ≤ 10 := (vc_X12_sends_8 h1548 h1549 h1541)
          refine sv_aload_n (pc := 26) dX8_tellAllAnew_26 rfl rfl ?_
          refine mr_iload_n (pc := 27) (z := z869) dX8_tellAllAnew_27 rfl rfl ?_
          refine mr_iload_n (pc := 28) (z := z1529) dX8_tellAllAnew_28 rfl rfl ?_
          refine mr_cVV (pc := 29) (c_X8_look hw T1533 h1461 h1549 (vc_X8_tellAllAnew_21 h881.1 h906 h1461 h1462) I1536) (gOk _ _ _ _ _) dX8_tellAllAnew_29 (tX8_look _ _ _ _ _) ⟨wV_X8_look, wL_X8_look⟩ wM_X8_92 (gCX8 _ _ _ _ _) rfl (A_32 hw) rfl ⟨le_t rfl, le_t rfl⟩ ⟨le_t rfl, le_t rfl⟩ rfl (le_t rfl) fun μ1551 T1552 F1553 h1554 => ?_
          refine mr_iinc (pc := 32) (lv' := [(2, iv (z1529 + 1)), (0, .ref 32), (1, iv z869)]) dX8_tellAllAnew_32 rfl (by decide) rfl ?_
          refine sv_goto (pc := 35) (tgt := 15) dX8_tellAllAnew_35 (by decide) ?_
          refine mr_lvS (lv' := [(0, .ref 32), (1, iv z869), (2, iv (z1529 + 1))]) (List.forall_mem_cons.mpr ⟨rfl, List.forall_mem_cons.mpr ⟨rfl, List.forall_mem_cons.mpr ⟨rfl, fun _ h => absurd h List.not_mem_nil⟩⟩⟩) ?_
          exact ih1538 (z1529 + 1) μ1551 T1552 (mF.call (mF.call mF.refl F1534 rfl) F1553 rfl) (rW (c := 0) (d := 10) (rAdd (e := 1) (f := 10) h1549 (rR (x := 1)) rfl) rfl) (PC.keep I1536 hw ((mF.call mF.refl F1553 rfl) : mF [21002, 21003, 21004, 21005, 21006, 21007, 32009, 32010, 33999, 34999, 66999, 200002, 200003, 200004, 200005, 200006, 200007, 200008, 200009, 200010, 200011, 201999, 202999, 213999] w μ1530 μ1551) rfl) (vc_X12_sends_11 (nS h1537) h1548 h1549 h1550)
      refine mr_lvS (lv' := [(0, .ref 32), (1, iv z869), (2, iv 0)]) (List.forall_mem_cons.mpr ⟨rfl, List.forall_mem_cons.mpr ⟨rfl, List.forall_mem_cons.mpr ⟨rfl, fun _ h => absurd h List.not_mem_nil⟩⟩⟩) ?_
      exact L1531 12 0 μ870 T873 mF.refl (rW (c := 0) (d := 10) (rR (x := 0)) rfl) I876 vc_X12_sends_20
  refine mr_lvS (lv' := [(0, .ref 32), (1, iv 0)]) (List.forall_mem_cons.mpr ⟨rfl, List.forall_mem_cons.mpr ⟨rfl, fun _ h => absurd h List.not_mem_nil⟩⟩) ?_
  exact L871 12 0 μ hT mF.refl (rW (c := 0) (d := 10) (rR (x := 0)) rfl) hIPC vc_X12_sends_20
theorem vc_X8_silence_4 {n1 p1 z262 : Int} (h0 : z262 = ((((40 * p1) + (20 * 0)) + (2 * 0)) + 0)) (h1 : p1 < n1) (h2 : 0 ≤ p1 ∧ p1 ≤ 19) (h3 : 0 ≤ z262 ∧ z262 ≤ 839) : 0 ≤ z262 ∧ z262 ≤ 760 := by omega
theorem vc_X8_silence_5 {n1 p1 z262 z268 : Int} (h0 : z268 = ((((40 * (p1 + 1)) + (20 * 0)) + (2 * 0)) + 0)) (h1 : p1 < n1) (h2 : z262 = ((((40 * p1) + (20 * 0)) + (2 * 0)) + 0)) (h3 : 0 ≤ p1 ∧ p1 ≤ 19) (h4 : 0 ≤ z262 ∧ z262 ≤ 760) (h5 : 0 ≤ z268 ∧ z268 ≤ 839) : 40 ≤ z268 ∧ z268 ≤ 800 := by omega
theorem vc_X8_silence_7 {p1 z268 z310 : Int} (h0 : z268 ≤ z310) (h1 : z268 = ((((40 * (p1 + 1)) + (20 * 0)) + (2 * 0)) + 0)) (h2 : 0 ≤ p1 ∧ p1 ≤ 19) (h3 : 40 ≤ z268 ∧ z268 ≤ 800) (h4 : 0 ≤ z310 ∧ z310 ≤ 800) : 40 ≤ z310 ∧ z310 ≤ 800 := by omega
theorem vc_X8_silence_8 {p1 z268 z310 : Int} (h0 : z310 < z268) (h1 : z268 = ((((40 * (p1 + 1)) + (20 * 0)) + (2 * 0)) + 0)) (h2 : 0 ≤ p1 ∧ p1 ≤ 19) (h3 : 40 ≤ z268 ∧ z268 ≤ 800) (h4 : 0 ≤ z310 ∧ z310 ≤ 800) : 0 ≤ z310 ∧ z310 ≤ 799 := by omega
theorem vc_X8_silence_9 {N p1 z268 z310 : Int} (h0 : (801 - z310) < N + 1) (h1 : z310 < z268) (h2 : z268 = ((((40 * (p1 + 1)) + (20 * 0)) + (2 * 0)) + 0)) (h3 : 0 ≤ p1 ∧ p1 ≤ 19) (h4 : 40 ≤ z268 ∧ z268 ≤ 800) (h5 : 0 ≤ z310 ∧ z310 ≤ 799) : (801 - (z310 + 1)) < N := by omega
theorem vc_X8_silence_10 {n1 p1 z262 z268 : Int} (h0 : z262 = ((((40 * p1) + (20 * 0)) + (2 * 0)) + 0)) (h1 : p1 < n1) (h2 : z268 = ((((40 * (p1 + 1)) + (20 * 0)) + (2 * 0)) + 0)) (h3 : 0 ≤ p1 ∧ p1 ≤ 19) (h4 : 0 ≤ z262 ∧ z262 ≤ 760) (h5 : 40 ≤ z268 ∧ z268 ≤ 800) : (801 - z262) < ((802 : Nat) : Int) := by omega
theorem vc_X8_silence_12 {N z229 : Int} (h0 : (21 - z229) < N + 1) (h1 : z229 < 20) (h2 : 0 ≤ z229 ∧ z229 ≤ 19) : (21 - (z229 + 1)) < N := by omega
set_option maxRecDepth 4000 in
set_option maxHeartbeats 4000000 in
theorem c_X8_silence {l : Launch} {D : va_G} {c : Nat → ClassId} {H0 : Heap} {sa : Nat × Nat × (Nat → Int32)} {w : mW} {μ : mM} (hw : mWF w) (hT : mT w μ) {p1 : Int} (hp1 : 0 ≤ p1 ∧ p1 ≤ 19) (hq0 : p1 < w.2.2.2 1) : sC (gG l D c H0 sa) mX8_silence 4 0 0 [.ref 32, iv p1] (mk w μ) (qV w [32010, 33999, 34999, 200002, 200009, 220006] μ (fun μ1 => True)) := by
  refine sC.of rfl (by decide) (le_t rfl) ?_
  refine mr_lvE (lv' := [(0, .ref 32), (1, iv p1)]) rfl ?_
  refine sv_aload_n (pc := 0) dX8_silence_0 rfl rfl ?_
  refine gf_X8_0 (pc := 1) dX8_silence_1 wF_X8_9 (A_32 hw) hT ?_
  refine gf_X10_4 (pc := 4) dX8_silence_4 wF_X8_76 (A_6 hw) hT ?_
  refine mr_iload_n (pc := 7) (z := p1) dX8_silence_7 rfl rfl ?_
  refine la_11 (pc := 8) dX8_silence_8 (A_11 hw) hT (rIx (n := 20) hp1 rfl) (vc_X8_say_1 hq0 hp1) fun b1 q2 A3 => ?_
  refine mr_astore_n (pc := 9) (lv' := [(2, .ref b1), (0, .ref 32), (1, iv p1)]) dX8_silence_9 rfl (by decide) rfl ?_
  refine sv_aload_n (pc := 10) dX8_silence_10 rfl rfl ?_
  refine mr_iconst (pc := 11) (z := 0) dX8_silence_11 ?_
  refine pf_X9_6 (pc := 12) dX8_silence_12 wF_X8_136 A3 hT (rW (c := 0) (d := 1) (rR (x := 0)) rfl) fun μ4 u5 T6 => ?_
  refine mr_iconst (pc := 15) (z := 0) dX8_silence_15 ?_
  refine mr_istore_n (pc := 16) (lv' := [(3, iv 0), (2, .ref b1), (0, .ref 32), (1, iv p1)]) dX8_silence_16 rfl (by decide) rfl ?_
  have L231 : ∀ (nL231 : Nat) (z229 : Int) (μ230 : mM), mT w μ230 → mF [200002, 200009] w μ4 μ230 → (0 ≤ z229 ∧ z229 ≤ 20) → (21 - z229) < (nL231 : Int) → sV (gG l D c H0 sa) mX8_silence (sRm 4 0 0) (sZ (gG l D c H0 sa) 0 0 (qV w [32010, 33999, 34999, 200002, 200009, 220006] μ (fun μ1 => True))) 17 [(0, .ref 32), (1, iv p1), (2, .ref b1), (3, iv z229)] [] (mk w μ230) 0 0 := by
    intro nL231
    induction nL231 with
    | zero => intro z229 μ230 T233 F234 h232 h236; exact ((vc_X12_feed_2 h236 h232)).elim
    | succ nL231 ih237 =>
      intro z229 μ230 T233 F234 h232 h236
      refine mr_iload_n (pc := 17) (z := z229) dX8_silence_17 rfl rfl ?_
      refine mr_bipush (pc := 18) (z := 20) dX8_silence_18 (by decide) ?_
      refine mr_icmp_ge (pc := 20) (tgt := 47) dX8_silence_20 (by decide) (r32 h232 rfl) (r32 (rR (x := 20)) rfl) (fun h256 => ?_) (fun h256 => ?_)
      · have h257 : 20 ≤ z229 ∧ z229 ≤ 20 := (vc_X12_feed_3 h256 h232)
        refine mr_iload_n (pc := 47) (z := p1) dX8_silence_47 rfl rfl ?_
        refine mr_iconst (pc := 48) (z := 0) dX8_silence_48 ?_
        refine mr_iconst (pc := 49) (z := 0) dX8_silence_49 ?_
        refine mr_iconst (pc := 50) (z := 0) dX8_silence_50 ?_
        refine mr_cSP (pc := 51) (c_X8_slotOf hw T233 (rW (c := 0) (d := 20) hp1 rfl) (rW (c := 0) (d := 1) (rR (x := 0)) rfl) (rW (c := 0) (d := 9) (rR (x := 0)) rfl) (rW (c := 0) (d := 1) (rR (x := 0)) rfl)) (gOk _ _ _ _ _) dX8_silence_51 (tX8_slotOf _ _ _ _ _) wS_X8_slotOf wM_X8_143 ⟨le_t rfl, le_t rfl⟩ ⟨le_t rfl, le_t rfl⟩ rfl (le_t rfl) fun z262 h261 => ?_
        have h263 : 0 ≤ z262 ∧ z262 ≤ 760 := (vc_X8_silence_4 h261.2.1 hq0 hp1 h261.1)
        refine mr_istore_n (pc := 54) (lv' := [(3, iv z262), (0, .ref 32), (1, iv p1), (2, .ref b1)]) dX8_silence_54 rfl (by decide) rfl ?_
        refine mr_iload_n (pc := 55) (z := p1) dX8_silence_55 rfl rfl ?_
        refine mr_iconst (pc := 56) (z := 1) dX8_silence_56 ?_
        refine mr_iadd (pc := 57) (x := p1) (y := 1) dX8_silence_57 ?_
        refine mr_iconst (pc := 58) (z := 0) dX8_silence_58 ?_
        refine mr_iconst (pc := 59) (z := 0) dX8_silence_59 ?_
        refine mr_iconst (pc := 60) (z := 0) dX8_silence_60 ?_
        refine mr_cSP (pc := 61) (c_X8_slotOf hw T233 (rW (c := 0) (d := 20) (rAdd (e := 1) (f := 20) hp1 (rR (x := 1)) rfl) rfl) (rW (c := 0) (d := 1) (rR (x := 0)) rfl) (rW (c := 0) (d := 9) (rR (x := 0)) rfl) (rW (c := 0) (d := 1) (rR (x := 0)) rfl)) (gOk _ _ _ _ _) dX8_silence_61 (tX8_slotOf _ _ _ _ _) wS_X8_slotOf wM_X8_143 ⟨le_t rfl, le_t rfl⟩ ⟨le_t rfl, le_t rfl⟩ rfl (le_t rfl) fun z268 h267 => ?_
        have h269 : 40 ≤ z268 ∧ z268 ≤ 800 := (vc_X8_silence_5 h267.2.1 hq0 h261.2.1 hp1 h263 h267.1)
        refine mr_istore (pc := 64) (lv' := [(4, iv z268), (3, iv z262), (0, .ref 32), (1, iv p1), (2, .ref b1)]) dX8_silence_64 (by decide) rfl ?_
        refine mr_iload_n (pc := 66) (z := z262) dX8_silence_66 rfl rfl ?_
        refine mr_istore (pc := 67) (lv' := [(5, iv z262), (4, iv z268), (3, iv z262), (0, .ref 32), (1, iv p1), (2, .ref b1)]) dX8_silence_67 (by decide) rfl ?_
        have L312 : ∀ (nL312 : Nat) (z310 : Int) (μ311 : mM), mT w μ311 → mF [32010, 33999, 34999] w μ230 μ311 → (0 ≤ z310 ∧ z310 ≤ 800) → (801 - z310) < (nL312 : Int) → sV (gG l D c H0 sa) mX8_silence (sRm 4 0 0) (sZ (gG l D c H0 sa) 0 0 (qV w [32010, 33999, 34999, 200002, 200009, 220006] μ (fun μ1 => True))) 69 [(0, .ref 32), (4, iv z268), (5, iv z310)] [] (mk w μ311) 0 0 := by
          intro nL312
          induction nL312 with
          | zero => intro z310 μ311 T314 F315 h313 h317; exact ((vc_X8_cancel_2 h317 h313)).elim
          | succ nL312 ih318 =>
            intro z310 μ311 T314 F315 h313 h317
            refine mr_iload (pc := 69) (z := z310) dX8_silence_69 rfl ?_
            refine mr_iload (pc := 71) (z := z268) dX8_silence_71 rfl ?_
            refine mr_icmp_ge (pc := 73) (tgt := 88) dX8_silence_73 (by decide) (r32 h313 rfl) (r32 h269 rfl) (fun h325 => ?_) (fun h325 => ?_)
            · have h326 : 40 ≤ z310 ∧ z310 ≤ 800 := (vc_X8_silence_7 h325 h267.2.1 hp1 h269 h313)
              exact mr_vret dX8_silence_88 rfl (le_t rfl) (le_t rfl) T314 (mF.call (mF.call (mF.up mF.refl A3 u5 rfl) F234 rfl) F315 rfl) trivial
            have h327 : 0 ≤ z310 ∧ z310 ≤ 799 := (vc_X8_silence_8 h325 h267.2.1 hp1 h269 h313)
            refine sv_aload_n (pc := 76) dX8_silence_76 rfl rfl ?_
            refine mr_iload (pc := 77) (z := z310) dX8_silence_77 rfl ?_
            refine mr_cVV (pc := 79) (c_X8_cancel hw T314 h327) (gOk _ _ _ _ _) dX8_silence_79 (tX8_cancel _ _ _ _ _) ⟨wV_X8_cancel, wL_X8_cancel⟩ wM_X8_65 (gCX8 _ _ _ _ _) rfl (A_32 hw) rfl ⟨le_t rfl, le_t rfl⟩ ⟨le_t rfl, le_t rfl⟩ rfl (le_t rfl) fun μ328 T329 F330 h331 => ?_
            refine mr_iinc (pc := 82) (lv' := [(5, iv (z310 + 1)), (0, .ref 32), (4, iv z268)]) dX8_silence_82 rfl (by decide) rfl ?_
            refine sv_goto (pc := 85) (tgt := 69) dX8_silence_85 (by decide) ?_
            refine mr_lvS (lv' := [(0, .ref 32), (4, iv z268), (5, iv (z310 + 1))]) (List.forall_mem_cons.mpr ⟨rfl, List.forall_mem_cons.mpr ⟨rfl, List.forall_mem_cons.mpr ⟨rfl, fun _ h => absurd h List.not_mem_nil⟩⟩⟩) ?_
            exact ih318 (z310 + 1) μ328 T329 (mF.call (mF.call mF.refl F315 rfl) F330 rfl) (rW (c := 0) (d := 800) (rAdd (e := 1) (f := 800) h327 (rR (x := 1)) rfl) rfl) (vc_X8_silence_9 (nS h317) h325 h267.2.1 hp1 h269 h327)
        refine mr_lvS (lv' := [(0, .ref 32), (4, iv z268), (5, iv z262)]) (List.forall_mem_cons.mpr ⟨rfl, List.forall_mem_cons.mpr ⟨rfl, List.forall_mem_cons.mpr ⟨rfl, fun _ h => absurd h List.not_mem_nil⟩⟩⟩) ?_
        exact L312 802 z262 μ230 T233 mF.refl (rW (c := 0) (d := 800) h263 rfl) (vc_X8_silence_10 h261.2.1 hq0 h267.2.1 hp1 h263 h269)
      have h332 : 0 ≤ z229 ∧ z229 ≤ 19 := (vc_X12_feed_4 h256 h232)
      refine sv_aload_n (pc := 23) dX8_silence_23 rfl rfl ?_
      refine gf_X9_4 (pc := 24) dX8_silence_24 wF_X8_96 A3 T233 fun A333 => ?_
      refine mr_iload_n (pc := 27) (z := z229) dX8_silence_27 rfl rfl ?_
      refine la_222 (pc := 28) dX8_silence_28 A333 T233 (rIx (n := 20) h332 rfl) fun b334 q335 A336 => ?_
      refine mr_cVV (pc := 29) (c_X7_vanish hw T233 A336) (gOk _ _ _ _ _) dX8_silence_29 (tX7_vanish _ _ _ _ _) ⟨wV_X7_vanish, wL_X7_vanish⟩ wM_X8_140 (gCX7 _ _ _ _ _) rfl A336 rfl ⟨le_t rfl, le_t rfl⟩ ⟨le_t rfl, le_t rfl⟩ rfl (le_t rfl) fun μ337 T338 F339 h340 => ?_
      refine sv_aload_n (pc := 32) dX8_silence_32 rfl rfl ?_
      refine gf_X9_5 (pc := 33) dX8_silence_33 wF_X8_103 A3 T338 fun A341 => ?_
      refine mr_iload_n (pc := 36) (z := z229) dX8_silence_36 rfl rfl ?_
      refine la_223 (pc := 37) dX8_silence_37 A341 T338 (rIx (n := 20) h332 rfl) fun b342 q343 A344 => ?_
      refine mr_cVV (pc := 38) (c_X7_vanish hw T338 A344) (gOk _ _ _ _ _) dX8_silence_38 (tX7_vanish _ _ _ _ _) ⟨wV_X7_vanish, wL_X7_vanish⟩ wM_X8_140 (gCX7 _ _ _ _ _) rfl A344 rfl ⟨le_t rfl, le_t rfl⟩ ⟨le_t rfl, le_t rfl⟩ rfl (le_t rfl) fun μ345 T346 F347 h348 => ?_
      refine mr_iinc (pc := 41) (lv' := [(3, iv (z229 + 1)), (0, .ref 32), (1, iv p1), (2, .ref b1)]) dX8_silence_41 rfl (by decide) rfl ?_
      refine sv_goto (pc := 44) (tgt := 17) dX8_silence_44 (by decide) ?_
      refine mr_lvS (lv' := [(0, .ref 32), (1, iv p1), (2, .ref b1), (3, iv (z229 + 1))]) (List.forall_mem_cons.mpr ⟨rfl, List.forall_mem_cons.mpr ⟨rfl, List.forall_mem_cons.mpr ⟨rfl, List.forall_mem_cons.mpr ⟨rfl, fun _ h => absurd h List.not_mem_nil⟩⟩⟩⟩) ?_
      exact ih237 (z229 + 1) μ345 T346 (mF.call (mF.call (mF.call mF.refl F234 rfl) F339 rfl) F347 rfl) (rW (c := 0) (d := 20) (rAdd (e := 1) (f := 20) h332 (rR (x := 1)) rfl) rfl) (vc_X8_silence_12 (nS h236) h256 h332)
  refine mr_lvS (lv' := [(0, .ref 32), (1, iv p1), (2, .ref b1), (3, iv 0)]) (List.forall_mem_cons.mpr ⟨rfl, List.forall_mem_cons.mpr ⟨rfl, List.forall_mem_cons.mpr ⟨rfl, List.forall_mem_cons.mpr ⟨rfl, fun _ h => absurd h List.not_mem_nil⟩⟩⟩⟩) ?_
  exact L231 22 0 μ4 T6 mF.refl (rW (c := 0) (d := 20) (rR (x := 0)) rfl) vc_X12_feed_15
theorem vc_X8_doNext_4  : (0 : Int) < (2 : Int) ∧ (2 : Int) ≤ (2147483647 : Int) := by omega
theorem vc_X8_doNext_6 {z56 z8 : Int} (h0 : ¬ z56 = 1) (h1 : z8 % 2 = z56) (h2 : 0 ≤ z56 ∧ z56 ≤ 1) (h3 : 0 ≤ z8 ∧ z8 ≤ 799) : 0 ≤ z56 ∧ z56 ≤ 0 := by omega
theorem vc_X8_doNext_7 {n1 z1 z32 z38 z47 z50 z53 z56 z8 : Int} (h0 : (z1 = 0 ∨ 0 < n1)) (h1 : (z8 = 0 ∨ z8 < 40 * n1)) (h2 : z50 / 2 = z53) (h3 : ¬ z1 = 0) (h4 : z8 / 2 = z32) (h5 : z8 / 2 = z38) (h6 : z8 / 2 = z47) (h7 : z47 / 10 = z50) (h8 : z8 % 2 = z56) (h9 : 1 ≤ z1 ∧ z1 ≤ 800) (h10 : 0 ≤ z32 ∧ z32 ≤ 399) (h11 : 0 ≤ z38 ∧ z38 ≤ 399) (h12 : 0 ≤ z47 ∧ z47 ≤ 399) (h13 : 0 ≤ z50 ∧ z50 ≤ 39) (h14 : 0 ≤ z53 ∧ z53 ≤ 19) (h15 : 0 ≤ z56 ∧ z56 ≤ 0) (h16 : 0 ≤ z8 ∧ z8 ≤ 799) : z53 < n1 := by omega
theorem vc_X8_doNext_9 {z56 z8 : Int} (h0 : z56 = 1) (h1 : z8 % 2 = z56) (h2 : 0 ≤ z56 ∧ z56 ≤ 1) (h3 : 0 ≤ z8 ∧ z8 ≤ 799) : 1 ≤ z56 ∧ z56 ≤ 1 := by omega
theorem vc_X8_doNext_10 {n1 z1 z32 z38 z47 z50 z53 z56 z8 : Int} (h0 : (z1 = 0 ∨ 0 < n1)) (h1 : (z8 = 0 ∨ z8 < 40 * n1)) (h2 : z50 / 2 = z53) (h3 : ¬ z1 = 0) (h4 : z8 / 2 = z32) (h5 : z8 / 2 = z38) (h6 : z8 / 2 = z47) (h7 : z47 / 10 = z50) (h8 : z8 % 2 = z56) (h9 : 1 ≤ z1 ∧ z1 ≤ 800) (h10 : 0 ≤ z32 ∧ z32 ≤ 399) (h11 : 0 ≤ z38 ∧ z38 ≤ 399) (h12 : 0 ≤ z47 ∧ z47 ≤ 399) (h13 : 0 ≤ z50 ∧ z50 ≤ 39) (h14 : 0 ≤ z53 ∧ z53 ≤ 19) (h15 : 1 ≤ z56 ∧ z56 ≤ 1) (h16 : 0 ≤ z8 ∧ z8 ≤ 799) : z53 < n1 := by omega
set_option maxRecDepth 4000 in
set_option maxHeartbeats 4000000 in
theorem c_X8_doNext {l : Launch} {D : va_G} {c : Nat → ClassId} {H0 : Heap} {sa : Nat × Nat × (Nat → Int32)} {w : mW} {μ : mM} (hw : mWF w) (hT : mT w μ) {p1 : Int} (hp1 : (-1) ≤ p1 ∧ p1 ≤ 2000000000) (hIPC : PC w μ) : sC (gG l D c H0 sa) mX8_doNext 43 0 0 [.ref 32, iv p1] (mk w μ) (qI w [21002, 21003, 21004, 21005, 21006, 21007, 32009, 32010, 32011, 32012, 33999, 34999, 66999, 200002, 200003, 200004, 200005, 200006, 200007, 200008, 200009, 200010, 200011, 201999, 202999, 213999] μ (fun z μ1 => (0 ≤ z ∧ z ≤ 1) ∧ True)) := by
  refine sC.of rfl (by decide) (le_t rfl) ?_
  refine mr_lvE (lv' := [(0, .ref 32), (1, iv p1)]) rfl ?_
  refine sv_aload_n (pc := 0) dX8_doNext_0 rfl rfl ?_
  refine gf_X8_10 (pc := 1) dX8_doNext_1 wF_X8_52 (A_32 hw) hT fun z1 q2 h3 => ?_
  have h4 : 0 ≤ z1 ∧ z1 ≤ 800 := ⟨h3.1, h3.2.1⟩
  refine mr_if_eq (pc := 4) (tgt := 22) dX8_doNext_4 (by decide) (r32 h4 rfl) (fun h5 => ?_) (fun h5 => ?_)
  · have h6 : 0 ≤ z1 ∧ z1 ≤ 0 := (vc_X8_passTo_1 h5 h3.2.2 h4)
    refine mr_iconst (pc := 22) (z := 0) dX8_doNext_22 ?_
    exact mr_zret dX8_doNext_23 rfl (rW (c := 0) (d := 1) (rR (x := 0)) rfl) (le_t rfl) (le_t rfl) hT mF.refl ⟨(rW (c := 0) (d := 1) (rR (x := 0)) rfl), trivial⟩
  have h7 : 1 ≤ z1 ∧ z1 ≤ 800 := (vc_X8_passTo_2 h5 h3.2.2 h4)
  refine sv_aload_n (pc := 7) dX8_doNext_7 rfl rfl ?_
  refine gf_X8_3 (pc := 8) dX8_doNext_8 wF_X8_23 (A_32 hw) hT ?_
  refine sv_aload_n (pc := 11) dX8_doNext_11 rfl rfl ?_
  refine gf_X8_2 (pc := 12) dX8_doNext_12 wF_X8_19 (A_32 hw) hT ?_
  refine mr_iconst (pc := 15) (z := 0) dX8_doNext_15 ?_
  refine la_33 (pc := 16) dX8_doNext_16 (A_33 hw) hT (rIx (n := 800) (rR (x := 0)) rfl) fun z8 q9 h10 => ?_
  have h11 : 0 ≤ z8 ∧ z8 ≤ 799 := ⟨h10.1, h10.2.1⟩
  refine la_34 (pc := 17) dX8_doNext_17 (A_34 hw) hT (rIx (n := 800) h11 rfl) fun z12 q13 h14 => ?_
  refine mr_iload_n (pc := 18) (z := p1) dX8_doNext_18 rfl rfl ?_
  refine mr_icmp_le (pc := 19) (tgt := 24) dX8_doNext_19 (by decide) (r32 h14 rfl) (r32 hp1 rfl) (fun h15 => ?_) (fun h15 => ?_)
  · have h16 : (-1) ≤ z12 ∧ z12 ≤ 2000000000 := (vc_X8_passTo_3 h15 hp1 h14)
    refine sv_aload_n (pc := 24) dX8_doNext_24 rfl rfl ?_
    refine gf_X8_2 (pc := 25) dX8_doNext_25 wF_X8_19 (A_32 hw) hT ?_
    refine mr_iconst (pc := 28) (z := 0) dX8_doNext_28 ?_
    refine lk_33 (pc := 29) dX8_doNext_29 (A_33 hw) (rIx (n := 800) (rR (x := 0)) rfl) q9 ?_
    refine mr_istore_n (pc := 30) (lv' := [(2, iv z8), (0, .ref 32), (1, iv p1)]) dX8_doNext_30 rfl (by decide) rfl ?_
    refine sv_aload_n (pc := 31) dX8_doNext_31 rfl rfl ?_
    refine sv_aload_n (pc := 32) dX8_doNext_32 rfl rfl ?_
    refine gf_X8_3 (pc := 33) dX8_doNext_33 wF_X8_23 (A_32 hw) hT ?_
    refine mr_iload_n (pc := 36) (z := z8) dX8_doNext_36 rfl rfl ?_
    refine lk_34 (pc := 37) dX8_doNext_37 (A_34 hw) (rIx (n := 800) h11 rfl) q13 ?_
    refine pf_X8_11 (pc := 38) dX8_doNext_38 wF_X8_62 (A_32 hw) hT h16 fun μ17 u18 T19 => ?_
    refine sv_aload_n (pc := 41) dX8_doNext_41 rfl rfl ?_
    refine mr_iload_n (pc := 42) (z := z8) dX8_doNext_42 rfl rfl ?_
    refine mr_cVV (pc := 43) (c_X8_cancel hw T19 h11) (gOk _ _ _ _ _) dX8_doNext_43 (tX8_cancel _ _ _ _ _) ⟨wV_X8_cancel, wL_X8_cancel⟩ wM_X8_65 (gCX8 _ _ _ _ _) rfl (A_32 hw) rfl ⟨le_t rfl, le_t rfl⟩ ⟨le_t rfl, le_t rfl⟩ rfl (le_t rfl) fun μ20 T21 F22 h23 => ?_
    refine sv_aload_n (pc := 46) dX8_doNext_46 rfl rfl ?_
    refine sv_dup (pc := 47) dX8_doNext_47 rfl ?_
    refine gf_X8_12 (pc := 48) dX8_doNext_48 wF_X8_69 (A_32 hw) T21 fun z24 q25 h26 => ?_
    refine mr_iconst (pc := 51) (z := 1) dX8_doNext_51 ?_
    refine mr_iadd (pc := 52) (x := z24) (y := 1) dX8_doNext_52 ?_
    refine mr_wrap fun z27 h28 => ?_
    refine pf_X8_12 (pc := 53) dX8_doNext_53 wF_X8_69 (A_32 hw) T21 h28 fun μ29 u30 T31 => ?_
    refine mr_iload_n (pc := 56) (z := z8) dX8_doNext_56 rfl rfl ?_
    refine mr_iconst (pc := 57) (z := 2) dX8_doNext_57 ?_
    refine mr_idiv (pc := 58) (x := z8) (y := 2) dX8_doNext_58 (rW (c := 0) (d := 2147483647) h11 rfl) vc_X8_doNext_4 ?_
    refine mr_gen (P := fun z => 0 ≤ z ∧ z ≤ 399) (rDiv h11 rfl) fun z32 q33 h34 => ?_
    refine mr_bipush (pc := 59) (z := 10) dX8_doNext_59 (by decide) ?_
    refine mr_irem (pc := 61) (x := z32) (y := 10) dX8_doNext_61 (rW (c := 0) (d := 2147483647) h34 rfl) vc_X11_isRule_6 ?_
    refine mr_gen (P := fun z => 0 ≤ z ∧ z ≤ 9) (rMod h34 rfl) fun z35 q36 h37 => ?_
    refine mr_istore_n (pc := 62) (lv' := [(3, iv z35), (2, iv z8), (0, .ref 32), (1, iv p1)]) dX8_doNext_62 rfl (by decide) rfl ?_
    refine mr_iload_n (pc := 63) (z := z8) dX8_doNext_63 rfl rfl ?_
    refine mr_iconst (pc := 64) (z := 2) dX8_doNext_64 ?_
    refine mr_idiv (pc := 65) (x := z8) (y := 2) dX8_doNext_65 (rW (c := 0) (d := 2147483647) h11 rfl) vc_X8_doNext_4 ?_
    refine mr_gen (P := fun z => 0 ≤ z ∧ z ≤ 399) (rDiv h11 rfl) fun z38 q39 h40 => ?_
    refine mr_bipush (pc := 66) (z := 10) dX8_doNext_66 (by decide) ?_
    refine mr_idiv (pc := 68) (x := z38) (y := 10) dX8_doNext_68 (rW (c := 0) (d := 2147483647) h40 rfl) vc_X11_isRule_6 ?_
    refine mr_gen (P := fun z => 0 ≤ z ∧ z ≤ 39) (rDiv h40 rfl) fun z41 q42 h43 => ?_
    refine mr_iconst (pc := 69) (z := 2) dX8_doNext_69 ?_
    refine mr_irem (pc := 70) (x := z41) (y := 2) dX8_doNext_70 (rW (c := 0) (d := 2147483647) h43 rfl) vc_X8_doNext_4 ?_
    refine mr_gen (P := fun z => 0 ≤ z ∧ z ≤ 1) (rMod h43 rfl) fun z44 q45 h46 => ?_
    refine mr_istore (pc := 71) (lv' := [(4, iv z44), (3, iv z35), (2, iv z8), (0, .ref 32), (1, iv p1)]) dX8_doNext_71 (by decide) rfl ?_
    refine mr_iload_n (pc := 73) (z := z8) dX8_doNext_73 rfl rfl ?_
    refine mr_iconst (pc := 74) (z := 2) dX8_doNext_74 ?_
    refine mr_idiv (pc := 75) (x := z8) (y := 2) dX8_doNext_75 (rW (c := 0) (d := 2147483647) h11 rfl) vc_X8_doNext_4 ?_
    refine mr_gen (P := fun z => 0 ≤ z ∧ z ≤ 399) (rDiv h11 rfl) fun z47 q48 h49 => ?_
    refine mr_bipush (pc := 76) (z := 10) dX8_doNext_76 (by decide) ?_
    refine mr_idiv (pc := 78) (x := z47) (y := 10) dX8_doNext_78 (rW (c := 0) (d := 2147483647) h49 rfl) vc_X11_isRule_6 ?_
    refine mr_gen (P := fun z => 0 ≤ z ∧ z ≤ 39) (rDiv h49 rfl) fun z50 q51 h52 => ?_
    refine mr_iconst (pc := 79) (z := 2) dX8_doNext_79 ?_
    refine mr_idiv (pc := 80) (x := z50) (y := 2) dX8_doNext_80 (rW (c := 0) (d := 2147483647) h52 rfl) vc_X8_doNext_4 ?_
    refine mr_gen (P := fun z => 0 ≤ z ∧ z ≤ 19) (rDiv h52 rfl) fun z53 q54 h55 => ?_
    refine mr_istore (pc := 81) (lv' := [(5, iv z53), (4, iv z44), (3, iv z35), (2, iv z8), (0, .ref 32), (1, iv p1)]) dX8_doNext_81 (by decide) rfl ?_
    refine mr_iload_n (pc := 83) (z := z8) dX8_doNext_83 rfl rfl ?_
    refine mr_iconst (pc := 84) (z := 2) dX8_doNext_84 ?_
    refine mr_irem (pc := 85) (x := z8) (y := 2) dX8_doNext_85 (rW (c := 0) (d := 2147483647) h11 rfl) vc_X8_doNext_4 ?_
    refine mr_gen (P := fun z => 0 ≤ z ∧ z ≤ 1) (rMod h11 rfl) fun z56 q57 h58 => ?_
    refine mr_iconst (pc := 86) (z := 1) dX8_doNext_86 ?_
    refine mr_icmp_ne (pc := 87) (tgt := 102) dX8_doNext_87 (by decide) (r32 h58 rfl) (r32 (rR (x := 1)) rfl) (fun h81 => ?_) (fun h81 => ?_)
    · have h82 : 0 ≤ z56 ∧ z56 ≤ 0 := (vc_X8_doNext_6 h81 q57 h58 h11)
      refine sv_aload_n (pc := 102) dX8_doNext_102 rfl rfl ?_
      refine sv_aload_n (pc := 103) dX8_doNext_103 rfl rfl ?_
      refine gf_X8_0 (pc := 104) dX8_doNext_104 wF_X8_9 (A_32 hw) T31 ?_
      refine gf_X10_4 (pc := 107) dX8_doNext_107 wF_X8_76 (A_6 hw) T31 ?_
      refine mr_iload (pc := 110) (z := z53) dX8_doNext_110 rfl ?_
      refine la_11 (pc := 112) dX8_doNext_112 (A_11 hw) T31 (rIx (n := 20) h55 rfl) (vc_X8_doNext_7 h3.2.2 h10.2.2 q54 h5 q33 q39 q48 q51 q57 h7 h34 h40 h49 h52 h55 h82 h11) fun b83 q84 A85 => ?_
      refine mr_iload (pc := 113) (z := z44) dX8_doNext_113 rfl ?_
      refine mr_iload_n (pc := 115) (z := z35) dX8_doNext_115 rfl rfl ?_
      refine mr_cVV (pc := 116) (c_X8_handOver hw T31 A85 h46 h37) (gOk _ _ _ _ _) dX8_doNext_116 (tX8_handOver _ _ _ _ _) ⟨wV_X8_handOver, wL_X8_handOver⟩ wM_X8_82 (gCX8 _ _ _ _ _) rfl (A_32 hw) rfl ⟨le_t rfl, le_t rfl⟩ ⟨le_t rfl, le_t rfl⟩ rfl (le_t rfl) fun μ86 T87 F88 h89 => ?_
      refine sv_aload_n (pc := 119) dX8_doNext_119 rfl rfl ?_
      refine sv_aload_n (pc := 120) dX8_doNext_120 rfl rfl ?_
      refine gf_X8_0 (pc := 121) dX8_doNext_121 wF_X8_9 (A_32 hw) T87 ?_
      refine gf_X10_4 (pc := 124) dX8_doNext_124 wF_X8_76 (A_6 hw) T87 ?_
      refine mr_iload (pc := 127) (z := z53) dX8_doNext_127 rfl ?_
      refine lk_11 (pc := 129) dX8_doNext_129 (A_11 hw) (rIx (n := 20) h55 rfl) (F88.f (A_11 hw) rfl q84) ?_
      refine mr_iconst (pc := 130) (z := 1) dX8_doNext_130 ?_
      refine mr_iload (pc := 131) (z := z44) dX8_doNext_131 rfl ?_
      refine mr_isub (pc := 133) (x := 1) (y := z44) dX8_doNext_133 ?_
      refine mr_cVP (pc := 134) (c_X9_end hw T87 A85 (rW (c := (-2147483648)) (d := 2147483647) (rSub (e := 0) (f := 1) (rR (x := 1)) h46 rfl) rfl)) (gOk _ _ _ _ _) dX8_doNext_134 (tX9_end _ _ _ _ _) ⟨wV_X9_end, wL_X9_end⟩ wM_X8_86 (gCX9 _ _ _ _ _) rfl A85 rfl ⟨le_t rfl, le_t rfl⟩ ⟨le_t rfl, le_t rfl⟩ rfl (le_t rfl) fun z94 h93 => ?_
      refine mr_iload_n (pc := 137) (z := z35) dX8_doNext_137 rfl rfl ?_
      refine mr_cVV (pc := 138) (c_X8_look hw T87 h93.1 h37 (vc_X9_end_1 h93.2.1 h93.1) (PC.keep hIPC hw ((mF.call (mF.up (mF.call (mF.up mF.refl (A_32 hw) u18 rfl) F22 rfl) (A_32 hw) u30 rfl) F88 rfl) : mF [32010, 32011, 32012, 33999, 34999, 200002, 200003, 200004, 200005, 200006, 200007, 200008, 200009, 201999, 202999] w μ μ86) rfl)) (gOk _ _ _ _ _) dX8_doNext_138 (tX8_look _ _ _ _ _) ⟨wV_X8_look, wL_X8_look⟩ wM_X8_92 (gCX8 _ _ _ _ _) rfl (A_32 hw) rfl ⟨le_t rfl, le_t rfl⟩ ⟨le_t rfl, le_t rfl⟩ rfl (le_t rfl) fun μ95 T96 F97 h98 => ?_
      refine mr_iconst (pc := 141) (z := 1) dX8_doNext_141 ?_
      exact mr_zret dX8_doNext_142 rfl (rW (c := 0) (d := 1) (rR (x := 1)) rfl) (le_t rfl) (le_t rfl) T96 (mF.call (mF.call (mF.up (mF.call (mF.up mF.refl (A_32 hw) u18 rfl) F22 rfl) (A_32 hw) u30 rfl) F88 rfl) F97 rfl) ⟨(rW (c := 0) (d := 1) (rR (x := 1)) rfl), trivial⟩
    have h99 : 1 ≤ z56 ∧ z56 ≤ 1 := (vc_X8_doNext_9 h81 q57 h58 h11)
    refine sv_aload_n (pc := 90) dX8_doNext_90 rfl rfl ?_
    refine mr_iload (pc := 91) (z := z53) dX8_doNext_91 rfl ?_
    refine mr_iload (pc := 93) (z := z44) dX8_doNext_93 rfl ?_
    refine mr_iload_n (pc := 95) (z := z35) dX8_doNext_95 rfl rfl ?_
    refine mr_cVV (pc := 96) (c_X8_say hw T31 h55 h46 h37 (vc_X8_doNext_10 h3.2.2 h10.2.2 q54 h5 q33 q39 q48 q51 q57 h7 h34 h40 h49 h52 h55 h99 h11) (PC.keep hIPC hw ((mF.up (mF.call (mF.up mF.refl (A_32 hw) u18 rfl) F22 rfl) (A_32 hw) u30 rfl) : mF [32010, 32011, 32012, 33999, 34999] w μ μ29) rfl)) (gOk _ _ _ _ _) dX8_doNext_96 (tX8_say _ _ _ _ _) ⟨wV_X8_say, wL_X8_say⟩ wM_X8_72 (gCX8 _ _ _ _ _) rfl (A_32 hw) rfl ⟨le_t rfl, le_t rfl⟩ ⟨le_t rfl, le_t rfl⟩ rfl (le_t rfl) fun μ100 T101 F102 h103 => ?_
    refine sv_goto (pc := 99) (tgt := 141) dX8_doNext_99 (by decide) ?_
    refine mr_iconst (pc := 141) (z := 1) dX8_doNext_141 ?_
    exact mr_zret dX8_doNext_142 rfl (rW (c := 0) (d := 1) (rR (x := 1)) rfl) (le_t rfl) (le_t rfl) T101 (mF.call (mF.up (mF.call (mF.up mF.refl (A_32 hw) u18 rfl) F22 rfl) (A_32 hw) u30 rfl) F102 rfl) ⟨(rW (c := 0) (d := 1) (rR (x := 1)) rfl), trivial⟩
  have h104 : 0 ≤ z12 ∧ z12 ≤ 2000001000 := (vc_X8_passTo_4 h15 hp1 h14)
  refine mr_iconst (pc := 22) (z := 0) dX8_doNext_22 ?_
  exact mr_zret dX8_doNext_23 rfl (rW (c := 0) (d := 1) (rR (x := 0)) rfl) (le_t rfl) (le_t rfl) hT mF.refl ⟨(rW (c := 0) (d := 1) (rR (x := 0)) rfl), trivial⟩
theorem vc_X8_takeIn_3 {f_an f_wd z1715 : Int} (h0 : z1715 < (f_wd + f_an)) (h1 : f_wd + f_an ≤ 1000) (h2 : 0 ≤ f_an ∧ f_an ≤ 1000) (h3 : 0 ≤ f_wd ∧ f_wd ≤ 1000) (h4 : 0 ≤ z1715 ∧ z1715 ≤ 2000) : 0 ≤ z1715 ∧ z1715 ≤ 1999 := by omega
theorem vc_X8_takeIn_4 {f_an f_wd z1715 : Int} (h0 : z1715 < (f_wd + f_an)) (h1 : f_wd + f_an ≤ 1000) (h2 : 0 ≤ f_an ∧ f_an ≤ 1000) (h3 : 0 ≤ f_wd ∧ f_wd ≤ 1000) (h4 : 0 ≤ z1715 ∧ z1715 ≤ 1999) : 0 ≤ z1715 ∧ z1715 < 1000 := by omega
theorem vc_X8_takeIn_7 {N f_an f_wd z1715 : Int} (h0 : (2001 - z1715) < N + 1) (h1 : z1715 < (f_wd + f_an)) (h2 : f_wd + f_an ≤ 1000) (h3 : 0 ≤ f_an ∧ f_an ≤ 1000) (h4 : 0 ≤ f_wd ∧ f_wd ≤ 1000) (h5 : 0 ≤ z1715 ∧ z1715 ≤ 1999) : (2001 - (z1715 + 1)) < N := by omega
theorem vc_X8_takeIn_8 {f_an f_wd z1715 : Int} (h0 : z1715 < f_wd) (h1 : f_wd + f_an ≤ 1000) (h2 : z1715 < (f_wd + f_an)) (h3 : 0 ≤ f_an ∧ f_an ≤ 1000) (h4 : 0 ≤ f_wd ∧ f_wd ≤ 1000) (h5 : 0 ≤ z1715 ∧ z1715 ≤ 1999) : 0 ≤ z1715 ∧ z1715 ≤ 999 := by omega
theorem vc_X8_takeIn_9 {f_an f_wd z1715 : Int} (h0 : z1715 < f_wd) (h1 : f_wd + f_an ≤ 1000) (h2 : z1715 < (f_wd + f_an)) (h3 : 0 ≤ f_an ∧ f_an ≤ 1000) (h4 : 0 ≤ f_wd ∧ f_wd ≤ 1000) (h5 : 0 ≤ z1715 ∧ z1715 ≤ 999) : 1 ≤ f_wd ∧ f_wd ≤ 1000 := by omega
set_option maxRecDepth 4000 in
set_option maxHeartbeats 4000000 in
theorem c_X8_takeIn {l : Launch} {D : va_G} {c : Nat → ClassId} {H0 : Heap} {sa : Nat × Nat × (Nat → Int32)} {w : mW} {μ : mM} (hw : mWF w) (hT : mT w μ) (hA1 : mAt w 76 76) {p2 : Int} (hp2 : 0 ≤ p2 ∧ p2 ≤ 19) {p3 : Int} (hp3 : 0 ≤ p3 ∧ p3 ≤ 1) {f_wd : Int} (q_f_wd : μ 76 13 = f_wd) {f_an : Int} (q_f_an : μ 76 14 = f_an) (hq0 : p2 < w.2.2.2 1) (hq1 : f_wd + f_an ≤ 1000) (hIPC : PC w μ) : sC (gG l D c H0 sa) mX8_takeIn 43 0 0 [.ref 32, .ref 76, iv p2, iv p3] (mk w μ) (qI w [21002, 21003, 21004, 21005, 21006, 21007, 32009, 32010, 33999, 34999, 66999, 200002, 200003, 200004, 200005, 200006, 200007, 200008, 200009, 200010, 200011, 201999, 202999, 213999] μ (fun z μ1 => ((-2147483648) ≤ z ∧ z ≤ 2147483647) ∧ True)) := by
  refine sC.of rfl (by decide) (le_t rfl) ?_
  have ht_f_wd : (0 ≤ f_wd ∧ f_wd ≤ 1000) := by rw [← q_f_wd]; exact hT 76 76 (A_76 hw) 13
  have ht_f_an : (0 ≤ f_an ∧ f_an ≤ 1000) := by rw [← q_f_an]; exact hT 76 76 (A_76 hw) 14
  refine mr_lvE (lv' := [(0, .ref 32), (1, .ref 76), (2, iv p2), (3, iv p3)]) rfl ?_
  refine sv_aload_n (pc := 0) dX8_takeIn_0 rfl rfl ?_
  refine gf_X8_0 (pc := 1) dX8_takeIn_1 wF_X8_9 (A_32 hw) hT ?_
  refine gf_X10_4 (pc := 4) dX8_takeIn_4 wF_X8_76 (A_6 hw) hT ?_
  refine mr_iload_n (pc := 7) (z := p2) dX8_takeIn_7 rfl rfl ?_
  refine la_11 (pc := 8) dX8_takeIn_8 (A_11 hw) hT (rIx (n := 20) hp2 rfl) (vc_X8_say_1 hq0 hp2) fun b969 q970 A971 => ?_
  refine mr_astore (pc := 9) (lv' := [(4, .ref b969), (0, .ref 32), (1, .ref 76), (2, iv p2), (3, iv p3)]) dX8_takeIn_9 (by decide) rfl ?_
  refine sv_aload_n (pc := 11) dX8_takeIn_11 rfl rfl ?_
  refine gk_X3_13 (pc := 12) dX8_takeIn_12 wF_X8_113 (A_76 hw) q_f_wd ?_
  refine sv_aload_n (pc := 15) dX8_takeIn_15 rfl rfl ?_
  refine gk_X3_14 (pc := 16) dX8_takeIn_16 wF_X8_118 (A_76 hw) q_f_an ?_
  refine mr_iadd (pc := 19) (x := f_wd) (y := f_an) dX8_takeIn_19 ?_
  refine mr_istore (pc := 20) (lv' := [(5, iv (f_wd + f_an)), (4, .ref b969), (0, .ref 32), (1, .ref 76), (2, iv p2), (3, iv p3)]) dX8_takeIn_20 (by decide) rfl ?_
  refine mr_iconst (pc := 22) (z := 0) dX8_takeIn_22 ?_
  refine mr_istore (pc := 23) (lv' := [(6, iv 0), (5, iv (f_wd + f_an)), (4, .ref b969), (0, .ref 32), (1, .ref 76), (2, iv p2), (3, iv p3)]) dX8_takeIn_23 (by decide) rfl ?_
  refine mr_iconst (pc := 25) (z := 0) dX8_takeIn_25 ?_
  refine mr_istore (pc := 26) (lv' := [(7, iv 0), (6, iv 0), (5, iv (f_wd + f_an)), (4, .ref b969), (0, .ref 32), (1, .ref 76), (2, iv p2), (3, iv p3)]) dX8_takeIn_26 (by decide) rfl ?_
  have L1718 : ∀ (nL1718 : Nat) (z1716 z1715 : Int) (μ1717 : mM), mT w μ1717 → mF [21002, 21003, 21004, 21005, 21006, 21007, 32009, 32010, 33999, 34999, 66999, 200002, 200003, 200004, 200005, 200006, 200007, 200008, 200009, 200010, 200011, 201999, 202999, 213999] w μ μ1717 → ((-2147483648) ≤ z1716 ∧ z1716 ≤ 2147483647) → (0 ≤ z1715 ∧ z1715 ≤ 2000) → PC w μ1717 → (2001 - z1715) < (nL1718 : Int) → sV (gG l D c H0 sa) mX8_takeIn (sRm 43 0 0) (sZ (gG l D c H0 sa) 0 0 (qI w [21002, 21003, 21004, 21005, 21006, 21007, 32009, 32010, 33999, 34999, 66999, 200002, 200003, 200004, 200005, 200006, 200007, 200008, 200009, 200010, 200011, 201999, 202999, 213999] μ (fun z μ1 => ((-2147483648) ≤ z ∧ z ≤ 2147483647) ∧ True))) 28 [(0, .ref 32), (1, .ref 76), (3, iv p3), (4, .ref b969), (5, iv (f_wd + f_an)), (6, iv z1716), (7, iv z1715)] [] (mk w μ1717) 0 0 := by
    intro nL1718
    induction nL1718 with
    | zero => intro z1716 z1715 μ1717 T1721 F1722 h1719 h1720 I1724 h1725; exact ((vc_X1_goThrough_12_8 h1725 h1720)).elim
    | succ nL1718 ih1726 =>
      intro z1716 z1715 μ1717 T1721 F1722 h1719 h1720 I1724 h1725
      refine mr_iload (pc := 28) (z := z1715) dX8_takeIn_28 rfl ?_
      refine mr_iload (pc := 30) (z := (f_wd + f_an)) dX8_takeIn_30 rfl ?_
      refine mr_icmp_ge (pc := 32) (tgt := 142) dX8_takeIn_32 (by decide) (r32 h1720 rfl) (r32 (rAdd (e := 0) (f := 2000) ht_f_wd ht_f_an rfl) rfl) (fun h1778 => ?_) (fun h1778 => ?_)
      · refine mr_iload (pc := 142) (z := z1716) dX8_takeIn_142 rfl ?_
        exact mr_iret dX8_takeIn_144 rfl (le_t rfl) (le_t rfl) T1721 (mF.call mF.refl F1722 rfl) ⟨h1719, trivial⟩
      have h1779 : 0 ≤ z1715 ∧ z1715 ≤ 1999 := (vc_X8_takeIn_3 h1778 hq1 ht_f_an ht_f_wd h1720)
      refine sv_aload_n (pc := 35) dX8_takeIn_35 rfl rfl ?_
      refine gf_X8_0 (pc := 36) dX8_takeIn_36 wF_X8_9 (A_32 hw) T1721 ?_
      refine sv_aload_n (pc := 39) dX8_takeIn_39 rfl rfl ?_
      refine gf_X3_10 (pc := 40) dX8_takeIn_40 wF_X8_121 (A_76 hw) T1721 ?_
      refine mr_iload (pc := 43) (z := z1715) dX8_takeIn_43 rfl ?_
      refine la_84 (pc := 45) dX8_takeIn_45 (A_84 hw) T1721 (vc_X8_takeIn_4 h1778 hq1 ht_f_an ht_f_wd h1779) fun z1780 q1781 h1782 => ?_
      refine sv_aload_n (pc := 46) dX8_takeIn_46 rfl rfl ?_
      refine gf_X3_11 (pc := 47) dX8_takeIn_47 wF_X8_124 (A_76 hw) T1721 ?_
      refine mr_iload (pc := 50) (z := z1715) dX8_takeIn_50 rfl ?_
      refine la_85 (pc := 52) dX8_takeIn_52 (A_85 hw) T1721 (vc_X8_takeIn_4 h1778 hq1 ht_f_an ht_f_wd h1779) fun z1783 q1784 h1785 => ?_
      refine mr_cVP (pc := 53) (c_X10_findPrefix hw T1721 h1782 h1785) (gOk _ _ _ _ _) dX8_takeIn_53 (tX10_findPrefix _ _ _ _ _) ⟨wV_X10_findPrefix, wL_X10_findPrefix⟩ wM_X8_127 (gCX10 _ _ _ _ _) rfl (A_6 hw) rfl ⟨le_t rfl, le_t rfl⟩ ⟨le_t rfl, le_t rfl⟩ rfl (le_t rfl) fun z1790 h1789 => ?_
      refine mr_istore (pc := 56) (lv' := [(8, iv z1790), (0, .ref 32), (1, .ref 76), (3, iv p3), (4, .ref b969), (5, iv (f_wd + f_an)), (6, iv z1716), (7, iv z1715)]) dX8_takeIn_56 (by decide) rfl ?_
      refine mr_iload (pc := 58) (z := z1790) dX8_takeIn_58 rfl ?_
      refine mr_if_ge (pc := 60) (tgt := 66) dX8_takeIn_60 (by decide) (r32 h1789.1 rfl) (fun h1830 => ?_) (fun h1830 => ?_)
      · have h1831 : 0 ≤ z1790 ∧ z1790 ≤ 9 := (vc_X12_isThere_6 h1830 h1789.1)
        refine sv_aload (pc := 66) dX8_takeIn_66 rfl ?_
        refine gf_X9_4 (pc := 68) dX8_takeIn_68 wF_X8_96 A971 T1721 fun A1832 => ?_
        refine mr_iload_n (pc := 71) (z := p3) dX8_takeIn_71 rfl rfl ?_
        refine mr_iload (pc := 72) (z := z1790) dX8_takeIn_72 rfl ?_
        refine mr_cSP (pc := 74) (c_X9_placeOf hw T1721 hp3 h1831) (gOk _ _ _ _ _) dX8_takeIn_74 (tX9_placeOf _ _ _ _ _) wS_X9_placeOf wM_X8_99 ⟨le_t rfl, le_t rfl⟩ ⟨le_t rfl, le_t rfl⟩ rfl (le_t rfl) fun z1837 h1836 => ?_
        refine la_222 (pc := 77) dX8_takeIn_77 A1832 T1721 (rIx (n := 20) h1836.1 rfl) fun b1838 q1839 A1840 => ?_
        refine mr_astore (pc := 78) (lv' := [(9, .ref b1838), (8, iv z1790), (0, .ref 32), (1, .ref 76), (3, iv p3), (4, .ref b969), (5, iv (f_wd + f_an)), (6, iv z1716), (7, iv z1715)]) dX8_takeIn_78 (by decide) rfl ?_
        refine sv_aload (pc := 80) dX8_takeIn_80 rfl ?_
        refine mr_iload (pc := 82) (z := z1715) dX8_takeIn_82 rfl ?_
        refine sv_aload_n (pc := 84) dX8_takeIn_84 rfl rfl ?_
        refine gk_X3_13 (pc := 85) dX8_takeIn_85 wF_X8_113 (A_76 hw) (F1722.f (A_76 hw) rfl q_f_wd) ?_
        have J1845 : ∀ (b1843 : Nat), (mAt w b1843 200) → sV (gG l D c H0 sa) mX8_takeIn (sRm 43 0 0) (sZ (gG l D c H0 sa) 0 0 (qI w [21002, 21003, 21004, 21005, 21006, 21007, 32009, 32010, 33999, 34999, 66999, 200002, 200003, 200004, 200005, 200006, 200007, 200008, 200009, 200010, 200011, 201999, 202999, 213999] μ (fun z μ1 => ((-2147483648) ≤ z ∧ z ≤ 2147483647) ∧ True))) 102 [(0, .ref 32), (1, .ref 76), (3, iv p3), (4, .ref b969), (5, iv (f_wd + f_an)), (6, iv z1716), (7, iv z1715), (8, iv z1790), (9, .ref b1838)] [.ref b1843, .ref b1838] (mk w μ1717) 0 0 := by
          intro b1843 A1844
          refine mr_cVV (pc := 102) (c_X7_become hw T1721 A1840 A1844) (gOk _ _ _ _ _) dX8_takeIn_102 (tX7_become _ _ _ _ _) ⟨wV_X7_become, wL_X7_become⟩ wM_X8_106 (gCX7 _ _ _ _ _) rfl A1840 rfl ⟨le_t rfl, le_t rfl⟩ ⟨le_t rfl, le_t rfl⟩ rfl (le_t rfl) fun μ1846 T1847 F1848 h1849 => ?_
          refine sv_aload (pc := 105) dX8_takeIn_105 rfl ?_
          refine mr_iload (pc := 107) (z := z1790) dX8_takeIn_107 rfl ?_
          refine pf_X7_3 (pc := 109) dX8_takeIn_109 wF_X8_133 A1840 T1847 h1831 fun μ1850 u1851 T1852 => ?_
          refine sv_aload (pc := 112) dX8_takeIn_112 rfl ?_
          refine sv_aload_n (pc := 114) dX8_takeIn_114 rfl rfl ?_
          refine gf_X8_11 (pc := 115) dX8_takeIn_115 wF_X8_62 (A_32 hw) T1852 fun z1853 q1854 h1855 => ?_
          refine pf_X7_9 (pc := 118) dX8_takeIn_118 wF_X8_110 A1840 T1852 h1855 fun μ1856 u1857 T1858 => ?_
          refine sv_aload_n (pc := 121) dX8_takeIn_121 rfl rfl ?_
          refine sv_aload (pc := 122) dX8_takeIn_122 rfl ?_
          refine mr_iload_n (pc := 124) (z := p3) dX8_takeIn_124 rfl rfl ?_
          refine mr_cVP (pc := 125) (c_X9_end hw T1858 A971 (rW (c := (-2147483648)) (d := 2147483647) hp3 rfl)) (gOk _ _ _ _ _) dX8_takeIn_125 (tX9_end _ _ _ _ _) ⟨wV_X9_end, wL_X9_end⟩ wM_X8_86 (gCX9 _ _ _ _ _) rfl A971 rfl ⟨le_t rfl, le_t rfl⟩ ⟨le_t rfl, le_t rfl⟩ rfl (le_t rfl) fun z1863 h1862 => ?_
          refine mr_iload (pc := 128) (z := z1790) dX8_takeIn_128 rfl ?_
          refine mr_cVV (pc := 130) (c_X8_look hw T1858 h1862.1 h1831 (vc_X9_end_1 h1862.2.1 h1862.1) (PC.keep I1724 hw ((mF.up (mF.up (mF.call mF.refl F1848 rfl) A1840 u1851 rfl) A1840 u1857 rfl) : mF [200002, 200003, 200004, 200005, 200006, 200007, 200008, 200009, 201999, 202999] w μ1717 μ1856) rfl)) (gOk _ _ _ _ _) dX8_takeIn_130 (tX8_look _ _ _ _ _) ⟨wV_X8_look, wL_X8_look⟩ wM_X8_92 (gCX8 _ _ _ _ _) rfl (A_32 hw) rfl ⟨le_t rfl, le_t rfl⟩ ⟨le_t rfl, le_t rfl⟩ rfl (le_t rfl) fun μ1864 T1865 F1866 h1867 => ?_
          refine mr_iincW (pc := 133) dX8_takeIn_133 rfl (by decide) fun z1868 h1869 => mr_lvE (lv' := [(6, iv z1868), (0, .ref 32), (1, .ref 76), (3, iv p3), (4, .ref b969), (5, iv (f_wd + f_an)), (7, iv z1715), (8, iv z1790), (9, .ref b1838)]) rfl ?_
          refine mr_iinc (pc := 136) (lv' := [(7, iv (z1715 + 1)), (6, iv z1868), (0, .ref 32), (1, .ref 76), (3, iv p3), (4, .ref b969), (5, iv (f_wd + f_an)), (8, iv z1790), (9, .ref b1838)]) dX8_takeIn_136 rfl (by decide) rfl ?_
          refine sv_goto (pc := 139) (tgt := 28) dX8_takeIn_139 (by decide) ?_
          refine mr_lvS (lv' := [(0, .ref 32), (1, .ref 76), (3, iv p3), (4, .ref b969), (5, iv (f_wd + f_an)), (6, iv z1868), (7, iv (z1715 + 1))]) (List.forall_mem_cons.mpr ⟨rfl, List.forall_mem_cons.mpr ⟨rfl, List.forall_mem_cons.mpr ⟨rfl, List.forall_mem_cons.mpr ⟨rfl, List.forall_mem_cons.mpr ⟨rfl, List.forall_mem_cons.mpr ⟨rfl, List.forall_mem_cons.mpr ⟨rfl, fun _ h => absurd h List.not_mem_nil⟩⟩⟩⟩⟩⟩⟩) ?_
          exact ih1726 z1868 (z1715 + 1) μ1864 T1865 (mF.call (mF.up (mF.up (mF.call (mF.call mF.refl F1722 rfl) F1848 rfl) A1840 u1851 rfl) A1840 u1857 rfl) F1866 rfl) h1869 (rW (c := 0) (d := 2000) (rAdd (e := 1) (f := 2000) h1779 (rR (x := 1)) rfl) rfl) (PC.keep I1724 hw ((mF.call (mF.up (mF.up (mF.call mF.refl F1848 rfl) A1840 u1851 rfl) A1840 u1857 rfl) F1866 rfl) : mF [21002, 21003, 21004, 21005, 21006, 21007, 32009, 32010, 33999, 34999, 66999, 200002, 200003, 200004, 200005, 200006, 200007, 200008, 200009, 200010, 200011, 201999, 202999, 213999] w μ1717 μ1864) rfl) (vc_X8_takeIn_7 (nS h1725) h1778 hq1 ht_f_an ht_f_wd h1779)
        refine mr_icmp_ge (pc := 88) (tgt := 98) dX8_takeIn_88 (by decide) (r32 h1779 rfl) (r32 ht_f_wd rfl) (fun h1870 => ?_) (fun h1870 => ?_)
        · refine sv_aload_n (pc := 98) dX8_takeIn_98 rfl rfl ?_
          refine gf_X3_9 (pc := 99) dX8_takeIn_99 wF_X8_130 (A_76 hw) T1721 ?_
          refine mr_lvS (lv' := [(0, .ref 32), (1, .ref 76), (3, iv p3), (4, .ref b969), (5, iv (f_wd + f_an)), (6, iv z1716), (7, iv z1715), (8, iv z1790), (9, .ref b1838)]) (List.forall_mem_cons.mpr ⟨rfl, List.forall_mem_cons.mpr ⟨rfl, List.forall_mem_cons.mpr ⟨rfl, List.forall_mem_cons.mpr ⟨rfl, List.forall_mem_cons.mpr ⟨rfl, List.forall_mem_cons.mpr ⟨rfl, List.forall_mem_cons.mpr ⟨rfl, List.forall_mem_cons.mpr ⟨rfl, List.forall_mem_cons.mpr ⟨rfl, fun _ h => absurd h List.not_mem_nil⟩⟩⟩⟩⟩⟩⟩⟩⟩) ?_
          exact J1845 81 (A_81 hw)
        have h1871 : 0 ≤ z1715 ∧ z1715 ≤ 999 := (vc_X8_takeIn_8 h1870 hq1 h1778 ht_f_an ht_f_wd h1779)
        have h1872 : 1 ≤ f_wd ∧ f_wd ≤ 1000 := (vc_X8_takeIn_9 h1870 hq1 h1778 ht_f_an ht_f_wd h1871)
        refine sv_aload_n (pc := 91) dX8_takeIn_91 rfl rfl ?_
        refine gf_X8_7 (pc := 92) dX8_takeIn_92 wF_X8_46 (A_32 hw) T1721 ?_
        refine sv_goto (pc := 95) (tgt := 102) dX8_takeIn_95 (by decide) ?_
        refine mr_lvS (lv' := [(0, .ref 32), (1, .ref 76), (3, iv p3), (4, .ref b969), (5, iv (f_wd + f_an)), (6, iv z1716), (7, iv z1715), (8, iv z1790), (9, .ref b1838)]) (List.forall_mem_cons.mpr ⟨rfl, List.forall_mem_cons.mpr ⟨rfl, List.forall_mem_cons.mpr ⟨rfl, List.forall_mem_cons.mpr ⟨rfl, List.forall_mem_cons.mpr ⟨rfl, List.forall_mem_cons.mpr ⟨rfl, List.forall_mem_cons.mpr ⟨rfl, List.forall_mem_cons.mpr ⟨rfl, List.forall_mem_cons.mpr ⟨rfl, fun _ h => absurd h List.not_mem_nil⟩⟩⟩⟩⟩⟩⟩⟩⟩) ?_
        exact J1845 70 (A_70 hw)
      have h1873 : (-1) ≤ z1790 ∧ z1790 ≤ (-1) := (vc_X12_isThere_3 h1830 h1789.1)
      refine sv_goto (pc := 63) (tgt := 136) dX8_takeIn_63 (by decide) ?_
      refine mr_iinc (pc := 136) (lv' := [(7, iv (z1715 + 1)), (8, iv z1790), (0, .ref 32), (1, .ref 76), (3, iv p3), (4, .ref b969), (5, iv (f_wd + f_an)), (6, iv z1716)]) dX8_takeIn_136 rfl (by decide) rfl ?_
      refine sv_goto (pc := 139) (tgt := 28) dX8_takeIn_139 (by decide) ?_
      refine mr_lvS (lv' := [(0, .ref 32), (1, .ref 76), (3, iv p3), (4, .ref b969), (5, iv (f_wd + f_an)), (6, iv z1716), (7, iv (z1715 + 1))]) (List.forall_mem_cons.mpr ⟨rfl, List.forall_mem_cons.mpr ⟨rfl, List.forall_mem_cons.mpr ⟨rfl, List.forall_mem_cons.mpr ⟨rfl, List.forall_mem_cons.mpr ⟨rfl, List.forall_mem_cons.mpr ⟨rfl, List.forall_mem_cons.mpr ⟨rfl, fun _ h => absurd h List.not_mem_nil⟩⟩⟩⟩⟩⟩⟩) ?_
      exact ih1726 z1716 (z1715 + 1) μ1717 T1721 (mF.call mF.refl F1722 rfl) h1719 (rW (c := 0) (d := 2000) (rAdd (e := 1) (f := 2000) h1779 (rR (x := 1)) rfl) rfl) I1724 (vc_X8_takeIn_7 (nS h1725) h1778 hq1 ht_f_an ht_f_wd h1779)
  refine mr_lvS (lv' := [(0, .ref 32), (1, .ref 76), (3, iv p3), (4, .ref b969), (5, iv (f_wd + f_an)), (6, iv 0), (7, iv 0)]) (List.forall_mem_cons.mpr ⟨rfl, List.forall_mem_cons.mpr ⟨rfl, List.forall_mem_cons.mpr ⟨rfl, List.forall_mem_cons.mpr ⟨rfl, List.forall_mem_cons.mpr ⟨rfl, List.forall_mem_cons.mpr ⟨rfl, List.forall_mem_cons.mpr ⟨rfl, fun _ h => absurd h List.not_mem_nil⟩⟩⟩⟩⟩⟩⟩) ?_
  exact L1718 2002 0 0 μ hT mF.refl (rW (c := (-2147483648)) (d := 2147483647) (rR (x := 0)) rfl) (rW (c := 0) (d := 2000) (rR (x := 0)) rfl) hIPC vc_X1_goThrough_12_41
theorem vc_X8_reason_8 {z47 z57 : Int} (h0 : z47 = z57) (h1 : 0 ≤ z47) (h2 : 0 ≤ z47 ∧ z47 ≤ 9) (h3 : (-1) ≤ z57 ∧ z57 ≤ 9) : 0 ≤ z57 ∧ z57 ≤ 9 := by omega
theorem vc_X8_reason_9 {z47 z57 : Int} (h0 : 0 ≤ z57) (h1 : ¬ z47 = z57) (h2 : 0 ≤ z47 ∧ z47 ≤ 9) (h3 : (-1) ≤ z57 ∧ z57 ≤ 9) : 0 ≤ z57 ∧ z57 ≤ 9 := by omega
theorem vc_X8_reason_10 {z47 z57 : Int} (h0 : z57 < 0) (h1 : ¬ z47 = z57) (h2 : 0 ≤ z47 ∧ z47 ≤ 9) (h3 : (-1) ≤ z57 ∧ z57 ≤ 9) : (-1) ≤ z57 ∧ z57 ≤ (-1) := by omega
set_option maxRecDepth 4000 in
set_option maxHeartbeats 4000000 in
theorem c_X8_reason {l : Launch} {D : va_G} {c : Nat → ClassId} {H0 : Heap} {sa : Nat × Nat × (Nat → Int32)} {w : mW} {μ : mM} (hw : mWF w) (hT : mT w μ) {p1 : Int} (hp1 : 0 ≤ p1 ∧ p1 ≤ 19) {p2 : Int} (hp2 : 0 ≤ p2 ∧ p2 ≤ 1) {p3 : Int} (hp3 : 0 ≤ p3 ∧ p3 ≤ 9) (hq0 : p1 < w.2.2.2 1) (hIPC : PC w μ) : sC (gG l D c H0 sa) mX8_reason 42 0 0 [.ref 32, iv p1, iv p2, iv p3] (mk w μ) (qI w [21002, 21003, 21004, 21005, 21006, 21007, 32009, 200002, 200003, 200004, 200005, 200006, 200007, 200008, 200009, 200010, 200011, 201999, 202999] μ (fun z μ1 => ((-2147483648) ≤ z ∧ z ≤ 2147483647) ∧ True)) := by
  refine sC.of rfl (by decide) (le_t rfl) ?_
  refine mr_lvE (lv' := [(0, .ref 32), (1, iv p1), (2, iv p2), (3, iv p3)]) rfl ?_
  refine sv_aload_n (pc := 0) dX8_reason_0 rfl rfl ?_
  refine gf_X8_0 (pc := 1) dX8_reason_1 wF_X8_9 (A_32 hw) hT ?_
  refine gf_X10_4 (pc := 4) dX8_reason_4 wF_X8_76 (A_6 hw) hT ?_
  refine mr_iload_n (pc := 7) (z := p1) dX8_reason_7 rfl rfl ?_
  refine la_11 (pc := 8) dX8_reason_8 (A_11 hw) hT (rIx (n := 20) hp1 rfl) (vc_X8_say_1 hq0 hp1) fun b1 q2 A3 => ?_
  refine mr_astore (pc := 9) (lv' := [(4, .ref b1), (0, .ref 32), (1, iv p1), (2, iv p2), (3, iv p3)]) dX8_reason_9 (by decide) rfl ?_
  refine sv_aload (pc := 11) dX8_reason_11 rfl ?_
  refine gf_X9_4 (pc := 13) dX8_reason_13 wF_X8_96 A3 hT fun A4 => ?_
  refine mr_iload_n (pc := 16) (z := p2) dX8_reason_16 rfl rfl ?_
  refine mr_iload_n (pc := 17) (z := p3) dX8_reason_17 rfl rfl ?_
  refine mr_cSP (pc := 18) (c_X9_placeOf hw hT hp2 hp3) (gOk _ _ _ _ _) dX8_reason_18 (tX9_placeOf _ _ _ _ _) wS_X9_placeOf wM_X8_99 ⟨le_t rfl, le_t rfl⟩ ⟨le_t rfl, le_t rfl⟩ rfl (le_t rfl) fun z9 h8 => ?_
  refine la_222 (pc := 21) dX8_reason_21 A4 hT (rIx (n := 20) h8.1 rfl) fun b10 q11 A12 => ?_
  refine mr_astore (pc := 22) (lv' := [(5, .ref b10), (4, .ref b1), (0, .ref 32), (1, iv p1), (2, iv p2), (3, iv p3)]) dX8_reason_22 (by decide) rfl ?_
  refine sv_aload (pc := 24) dX8_reason_24 rfl ?_
  refine mr_iload_n (pc := 26) (z := p2) dX8_reason_26 rfl rfl ?_
  refine mr_cVP (pc := 27) (c_X9_end hw hT A3 (rW (c := (-2147483648)) (d := 2147483647) hp2 rfl)) (gOk _ _ _ _ _) dX8_reason_27 (tX9_end _ _ _ _ _) ⟨wV_X9_end, wL_X9_end⟩ wM_X8_86 (gCX9 _ _ _ _ _) rfl A3 rfl ⟨le_t rfl, le_t rfl⟩ ⟨le_t rfl, le_t rfl⟩ rfl (le_t rfl) fun z17 h16 => ?_
  refine mr_istore (pc := 30) (lv' := [(6, iv z17), (5, .ref b10), (4, .ref b1), (0, .ref 32), (1, iv p1), (2, iv p2), (3, iv p3)]) dX8_reason_30 (by decide) rfl ?_
  refine sv_aload_n (pc := 32) dX8_reason_32 rfl rfl ?_
  refine gf_X8_0 (pc := 33) dX8_reason_33 wF_X8_9 (A_32 hw) hT ?_
  refine gf_X10_3 (pc := 36) dX8_reason_36 wF_X8_162 (A_6 hw) hT ?_
  refine mr_iload (pc := 39) (z := z17) dX8_reason_39 rfl ?_
  refine la_10 (pc := 41) dX8_reason_41 (A_10 hw) hT (rIx (n := 10) h16.1 rfl) (vc_X9_end_1 h16.2.1 h16.1) fun b18 q19 A20 => ?_
  refine mr_astore (pc := 42) (lv' := [(7, .ref b18), (6, iv z17), (5, .ref b10), (4, .ref b1), (0, .ref 32), (1, iv p1), (2, iv p2), (3, iv p3)]) dX8_reason_42 (by decide) rfl ?_
  refine sv_aload (pc := 44) dX8_reason_44 rfl ?_
  refine gf_X7_2 (pc := 46) dX8_reason_46 wF_X8_203 A12 hT fun z21 q22 h23 => ?_
  refine mr_if_ne (pc := 49) (tgt := 55) dX8_reason_49 (by decide) (r32 h23 rfl) (fun h24 => ?_) (fun h24 => ?_)
  · have h25 : 1 ≤ z21 ∧ z21 ≤ 1 := (vc_X12_letWay_11 h24 h23)
    refine sv_aload (pc := 55) dX8_reason_55 rfl ?_
    refine gf_X0_1 (pc := 57) dX8_reason_57 wF_X8_167 A20 hT fun A26 => ?_
    refine mr_iload_n (pc := 60) (z := p3) dX8_reason_60 rfl rfl ?_
    refine la_212 (pc := 61) dX8_reason_61 A26 hT (rIx (n := 10) hp3 rfl) fun z27 q28 h29 => ?_
    refine mr_iconst (pc := 62) (z := (-1)) dX8_reason_62 ?_
    refine mr_icmp_eq (pc := 63) (tgt := 69) dX8_reason_63 (by decide) (r32 h29 rfl) (r32 (rR (x := (-1))) rfl) (fun h30 => ?_) (fun h30 => ?_)
    · have h31 : (-1) ≤ z27 ∧ z27 ≤ (-1) := (vc_X8_look_22 h30 h29)
      refine sv_aload (pc := 69) dX8_reason_69 rfl ?_
      refine mr_iload (pc := 71) (z := z17) dX8_reason_71 rfl ?_
      refine mr_cVP (pc := 73) (c_X7_passes hw hT A12 (rW (c := (-2147483648)) (d := 2147483647) h16.1 rfl)) (gOk _ _ _ _ _) dX8_reason_73 (tX7_passes _ _ _ _ _) ⟨wV_X7_passes, wL_X7_passes⟩ wM_X8_206 (gCX7 _ _ _ _ _) rfl A12 rfl ⟨le_t rfl, le_t rfl⟩ ⟨le_t rfl, le_t rfl⟩ rfl (le_t rfl) fun z36 h35 => ?_
      refine mr_if_eq (pc := 76) (tgt := 82) dX8_reason_76 (by decide) (r32 h35.1 rfl) (fun h37 => ?_) (fun h37 => ?_)
      · have h38 : 0 ≤ z36 ∧ z36 ≤ 0 := (vc_X12_letWay_6 h37 h35.1)
        refine sv_aload_n (pc := 82) dX8_reason_82 rfl rfl ?_
        refine mr_iload (pc := 83) (z := z17) dX8_reason_83 rfl ?_
        refine mr_iload_n (pc := 85) (z := p3) dX8_reason_85 rfl rfl ?_
        refine mr_cVV (pc := 86) (c_X8_gather hw hT h16.1 hp3 hIPC) (gOk _ _ _ _ _) dX8_reason_86 (tX8_gather _ _ _ _ _) ⟨wV_X8_gather, wL_X8_gather⟩ wM_X8_175 (gCX8 _ _ _ _ _) rfl (A_32 hw) rfl ⟨le_t rfl, le_t rfl⟩ ⟨le_t rfl, le_t rfl⟩ rfl (le_t rfl) fun μ39 T40 F41 h42 => ?_
        refine sv_aload_n (pc := 89) dX8_reason_89 rfl rfl ?_
        refine mr_iload_n (pc := 90) (z := p1) dX8_reason_90 rfl rfl ?_
        refine mr_cVP (pc := 91) (c_X8_candidateOver hw T40 (rW (c := (-2147483648)) (d := 2147483647) hp1 rfl)) (gOk _ _ _ _ _) dX8_reason_91 (tX8_candidateOver _ _ _ _ _) ⟨wV_X8_candidateOver, wL_X8_candidateOver⟩ wM_X8_276 (gCX8 _ _ _ _ _) rfl (A_32 hw) rfl ⟨le_t rfl, le_t rfl⟩ ⟨le_t rfl, le_t rfl⟩ rfl (le_t rfl) fun z47 h46 => ?_
        refine mr_istore (pc := 94) (lv' := [(8, iv z47), (7, .ref b18), (6, iv z17), (5, .ref b10), (4, .ref b1), (0, .ref 32), (1, iv p1), (2, iv p2), (3, iv p3)]) dX8_reason_94 (by decide) rfl ?_
        refine sv_aload_n (pc := 96) dX8_reason_96 rfl rfl ?_
        refine sv_aload (pc := 97) dX8_reason_97 rfl ?_
        refine gf_X0_2 (pc := 99) dX8_reason_99 wF_X8_190 A20 T40 fun A48 => ?_
        refine mr_iload_n (pc := 102) (z := p3) dX8_reason_102 rfl rfl ?_
        refine la_213 (pc := 103) dX8_reason_103 A48 T40 (rIx (n := 10) hp3 rfl) fun z49 q50 h51 => ?_
        have h52 : (-99999999) ≤ z49 ∧ z49 ≤ 19 := (vc_X12_sends_3 h51.1)
        refine mr_cVP (pc := 104) (c_X8_candidateOver hw T40 (rW (c := (-2147483648)) (d := 2147483647) h52 rfl)) (gOk _ _ _ _ _) dX8_reason_104 (tX8_candidateOver _ _ _ _ _) ⟨wV_X8_candidateOver, wL_X8_candidateOver⟩ wM_X8_276 (gCX8 _ _ _ _ _) rfl (A_32 hw) rfl ⟨le_t rfl, le_t rfl⟩ ⟨le_t rfl, le_t rfl⟩ rfl (le_t rfl) fun z57 h56 => ?_
        refine mr_istore (pc := 107) (lv' := [(9, iv z57), (8, iv z47), (7, .ref b18), (6, iv z17), (5, .ref b10), (4, .ref b1), (0, .ref 32), (1, iv p1), (2, iv p2), (3, iv p3)]) dX8_reason_107 (by decide) rfl ?_
        refine mr_iload (pc := 109) (z := z47) dX8_reason_109 rfl ?_
        refine mr_if_ge (pc := 111) (tgt := 117) dX8_reason_111 (by decide) (r32 h46.1 rfl) (fun h58 => ?_) (fun h58 => ?_)
        · have h59 : 0 ≤ z47 ∧ z47 ≤ 9 := (vc_X12_isThere_6 h58 h46.1)
          refine mr_iload (pc := 117) (z := z47) dX8_reason_117 rfl ?_
          refine mr_iload (pc := 119) (z := z57) dX8_reason_119 rfl ?_
          refine mr_icmp_eq (pc := 121) (tgt := 129) dX8_reason_121 (by decide) (r32 h59 rfl) (r32 h56.1 rfl) (fun h60 => ?_) (fun h60 => ?_)
          · have h61 : 0 ≤ z57 ∧ z57 ≤ 9 := (vc_X8_reason_8 h60 h58 h59 h56.1)
            refine mr_iconst (pc := 129) (z := 0) dX8_reason_129 ?_
            exact mr_iret dX8_reason_130 rfl (le_t rfl) (le_t rfl) T40 (mF.call mF.refl F41 rfl) ⟨(rW (c := (-2147483648)) (d := 2147483647) (rR (x := 0)) rfl), trivial⟩
          refine mr_iload (pc := 124) (z := z57) dX8_reason_124 rfl ?_
          refine mr_if_ge (pc := 126) (tgt := 131) dX8_reason_126 (by decide) (r32 h56.1 rfl) (fun h62 => ?_) (fun h62 => ?_)
          · have h63 : 0 ≤ z57 ∧ z57 ≤ 9 := (vc_X8_reason_9 h62 h60 h59 h56.1)
            refine sv_aload (pc := 131) dX8_reason_131 rfl ?_
            refine sv_aload_n (pc := 133) dX8_reason_133 rfl rfl ?_
            refine gf_X8_4 (pc := 134) dX8_reason_134 wF_X8_34 (A_32 hw) T40 ?_
            refine mr_iload (pc := 137) (z := z47) dX8_reason_137 rfl ?_
            refine la_35 (pc := 139) dX8_reason_139 (A_35 hw) T40 (rIx (n := 10) h59 rfl) fun b64 q65 A66 => ?_
            refine sv_aload_n (pc := 140) dX8_reason_140 rfl rfl ?_
            refine gf_X8_4 (pc := 141) dX8_reason_141 wF_X8_34 (A_32 hw) T40 ?_
            refine mr_iload (pc := 144) (z := z57) dX8_reason_144 rfl ?_
            refine la_35 (pc := 146) dX8_reason_146 (A_35 hw) T40 (rIx (n := 10) h63 rfl) fun b67 q68 A69 => ?_
            refine mr_cVP (pc := 147) (c_X0_firstUnlikeStep hw T40 A20 A66 A69) (gOk _ _ _ _ _) dX8_reason_147 (tX0_firstUnlikeStep _ _ _ _ _) ⟨wV_X0_firstUnlikeStep, wL_X0_firstUnlikeStep⟩ wM_X8_279 (gCX0 _ _ _ _ _) rfl A20 rfl ⟨le_t rfl, le_t rfl⟩ ⟨le_t rfl, le_t rfl⟩ rfl (le_t rfl) fun z74 h73 => ?_
            exact mr_iret dX8_reason_150 rfl (le_t rfl) (le_t rfl) T40 (mF.call mF.refl F41 rfl) ⟨h73.1, trivial⟩
          have h75 : (-1) ≤ z57 ∧ z57 ≤ (-1) := (vc_X8_reason_10 h62 h60 h59 h56.1)
          refine mr_iconst (pc := 129) (z := 0) dX8_reason_129 ?_
          exact mr_iret dX8_reason_130 rfl (le_t rfl) (le_t rfl) T40 (mF.call mF.refl F41 rfl) ⟨(rW (c := (-2147483648)) (d := 2147483647) (rR (x := 0)) rfl), trivial⟩
        have h76 : (-1) ≤ z47 ∧ z47 ≤ (-1) := (vc_X12_isThere_3 h58 h46.1)
        refine mr_bipush (pc := 114) (z := 10) dX8_reason_114 (by decide) ?_
        exact mr_iret dX8_reason_116 rfl (le_t rfl) (le_t rfl) T40 (mF.call mF.refl F41 rfl) ⟨(rW (c := (-2147483648)) (d := 2147483647) (rR (x := 10)) rfl), trivial⟩
      have h77 : 1 ≤ z36 ∧ z36 ≤ 1 := (vc_X12_letWay_11 h37 h35.1)
      refine mr_bipush (pc := 79) (z := 9) dX8_reason_79 (by decide) ?_
      exact mr_iret dX8_reason_81 rfl (le_t rfl) (le_t rfl) hT mF.refl ⟨(rW (c := (-2147483648)) (d := 2147483647) (rR (x := 9)) rfl), trivial⟩
    have h78 : 0 ≤ z27 ∧ z27 ≤ 2 := (vc_X8_look_36 h30 h29)
    refine mr_bipush (pc := 66) (z := 8) dX8_reason_66 (by decide) ?_
    exact mr_iret dX8_reason_68 rfl (le_t rfl) (le_t rfl) hT mF.refl ⟨(rW (c := (-2147483648)) (d := 2147483647) (rR (x := 8)) rfl), trivial⟩
  have h79 : 0 ≤ z21 ∧ z21 ≤ 0 := (vc_X12_letWay_6 h24 h23)
  refine mr_ldc (pc := 52) (z := (-99999999)) dX8_reason_52 wG_X8_166 (by decide) ?_
  exact mr_iret dX8_reason_54 rfl (le_t rfl) (le_t rfl) hT mF.refl ⟨(rW (c := (-2147483648)) (d := 2147483647) (rR (x := (-99999999))) rfl), trivial⟩
end
