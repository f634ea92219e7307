section
theorem dX0_goBy_0 : decode cX0_goBy 0 = .ok (.aload_n 0, 1) := dc0 dO_42 (by decide +kernel)
theorem dX0_goBy_1 : decode cX0_goBy 1 = .ok (.iload_n 2, 1) := dc0 dO_28 (by decide +kernel)
theorem dX0_goBy_2 : decode cX0_goBy 2 = .ok (.putfield 33, 3) := dcU2 dO_181 (by decide +kernel)
theorem dX0_goBy_5 : decode cX0_goBy 5 = .ok (.aload_n 0, 1) := dc0 dO_42 (by decide +kernel)
theorem dX0_goBy_6 : decode cX0_goBy 6 = .ok (.iconst 0, 1) := dc0 dO_3 (by decide +kernel)
theorem dX0_goBy_7 : decode cX0_goBy 7 = .ok (.putfield 37, 3) := dcU2 dO_181 (by decide +kernel)
theorem dX0_goBy_10 : decode cX0_goBy 10 = .ok (.iload_n 1, 1) := dc0 dO_27 (by decide +kernel)
theorem dX0_goBy_11 : decode cX0_goBy 11 = .ok (.istore_n 3, 1) := dc0 dO_62 (by decide +kernel)
theorem dX0_goBy_12 : decode cX0_goBy 12 = .ok (.iload_n 3, 1) := dc0 dO_29 (by decide +kernel)
theorem dX0_goBy_13 : decode cX0_goBy 13 = .ok (.ifCond .le 21, 3) := dcS2 dO_158 (by decide +kernel)
theorem dX0_goBy_16 : decode cX0_goBy 16 = .ok (.aload_n 0, 1) := dc0 dO_42 (by decide +kernel)
theorem dX0_goBy_17 : decode cX0_goBy 17 = .ok (.dup, 1) := dc0 dO_89 (by decide +kernel)
theorem dX0_goBy_18 : decode cX0_goBy 18 = .ok (.getfield 37, 3) := dcU2 dO_180 (by decide +kernel)
theorem dX0_goBy_21 : decode cX0_goBy 21 = .ok (.iconst 1, 1) := dc0 dO_4 (by decide +kernel)
theorem dX0_goBy_22 : decode cX0_goBy 22 = .ok (.iadd, 1) := dc0 dO_96 (by decide +kernel)
theorem dX0_goBy_23 : decode cX0_goBy 23 = .ok (.putfield 37, 3) := dcU2 dO_181 (by decide +kernel)
theorem dX0_goBy_26 : decode cX0_goBy 26 = .ok (.iload_n 3, 1) := dc0 dO_29 (by decide +kernel)
theorem dX0_goBy_27 : decode cX0_goBy 27 = .ok (.bipush 10, 2) := dcS1 dO_16 (by decide +kernel)
theorem dX0_goBy_29 : decode cX0_goBy 29 = .ok (.idiv, 1) := dc0 dO_108 (by decide +kernel)
theorem dX0_goBy_30 : decode cX0_goBy 30 = .ok (.istore_n 3, 1) := dc0 dO_62 (by decide +kernel)
theorem dX0_goBy_31 : decode cX0_goBy 31 = .ok (.goto (-19), 3) := dcS2 dO_167 (by decide +kernel)
theorem dX0_goBy_34 : decode cX0_goBy 34 = .ok (.iload_n 1, 1) := dc0 dO_27 (by decide +kernel)
theorem dX0_goBy_35 : decode cX0_goBy 35 = .ok (.istore_n 3, 1) := dc0 dO_62 (by decide +kernel)
theorem dX0_goBy_36 : decode cX0_goBy 36 = .ok (.aload_n 0, 1) := dc0 dO_42 (by decide +kernel)
theorem dX0_goBy_37 : decode cX0_goBy 37 = .ok (.getfield 37, 3) := dcU2 dO_180 (by decide +kernel)
theorem dX0_goBy_40 : decode cX0_goBy 40 = .ok (.iconst 1, 1) := dc0 dO_4 (by decide +kernel)
theorem dX0_goBy_41 : decode cX0_goBy 41 = .ok (.isub, 1) := dc0 dO_100 (by decide +kernel)
theorem dX0_goBy_42 : decode cX0_goBy 42 = .ok (.istore 4, 2) := dcU1 dO_54 (by decide +kernel)
theorem dX0_goBy_44 : decode cX0_goBy 44 = .ok (.iload 4, 2) := dcU1 dO_21 (by decide +kernel)
theorem dX0_goBy_46 : decode cX0_goBy 46 = .ok (.ifCond .lt 25, 3) := dcS2 dO_155 (by decide +kernel)
theorem dX0_goBy_49 : decode cX0_goBy 49 = .ok (.aload_n 0, 1) := dc0 dO_42 (by decide +kernel)
theorem dX0_goBy_50 : decode cX0_goBy 50 = .ok (.getfield 9, 3) := dcU2 dO_180 (by decide +kernel)
theorem dX0_goBy_53 : decode cX0_goBy 53 = .ok (.iload 4, 2) := dcU1 dO_21 (by decide +kernel)
theorem dX0_goBy_55 : decode cX0_goBy 55 = .ok (.iload_n 3, 1) := dc0 dO_29 (by decide +kernel)
theorem dX0_goBy_56 : decode cX0_goBy 56 = .ok (.bipush 10, 2) := dcS1 dO_16 (by decide +kernel)
theorem dX0_goBy_58 : decode cX0_goBy 58 = .ok (.irem, 1) := dc0 dO_112 (by decide +kernel)
theorem dX0_goBy_59 : decode cX0_goBy 59 = .ok (.iastore, 1) := dc0 dO_79 (by decide +kernel)
theorem dX0_goBy_60 : decode cX0_goBy 60 = .ok (.iload_n 3, 1) := dc0 dO_29 (by decide +kernel)
theorem dX0_goBy_61 : decode cX0_goBy 61 = .ok (.bipush 10, 2) := dcS1 dO_16 (by decide +kernel)
theorem dX0_goBy_63 : decode cX0_goBy 63 = .ok (.idiv, 1) := dc0 dO_108 (by decide +kernel)
theorem dX0_goBy_64 : decode cX0_goBy 64 = .ok (.istore_n 3, 1) := dc0 dO_62 (by decide +kernel)
theorem dX0_goBy_65 : decode cX0_goBy 65 = .ok (.iinc 4 (-1), 3) := dcI dO_132 (by decide +kernel)
theorem dX0_goBy_68 : decode cX0_goBy 68 = .ok (.goto (-24), 3) := dcS2 dO_167 (by decide +kernel)
theorem dX0_goBy_71 : decode cX0_goBy 71 = .ok (.return_, 1) := dc0 dO_177 (by decide +kernel)
theorem dX11_announce_0 : decode cX11_announce 0 = .ok (.aload_n 0, 1) := dc0 dO_42 (by decide +kernel)
theorem dX11_announce_1 : decode cX11_announce 1 = .ok (.iload_n 1, 1) := dc0 dO_27 (by decide +kernel)
theorem dX11_announce_2 : decode cX11_announce 2 = .ok (.invokevirtual 105, 3) := dcU2 dO_182 (by decide +kernel)
theorem dX11_announce_5 : decode cX11_announce 5 = .ok (.ifCond .eq 20, 3) := dcS2 dO_153 (by decide +kernel)
theorem dX11_announce_8 : decode cX11_announce 8 = .ok (.aload_n 0, 1) := dc0 dO_42 (by decide +kernel)
theorem dX11_announce_9 : decode cX11_announce 9 = .ok (.iload_n 2, 1) := dc0 dO_28 (by decide +kernel)
theorem dX11_announce_10 : decode cX11_announce 10 = .ok (.invokevirtual 182, 3) := dcU2 dO_182 (by decide +kernel)
theorem dX11_announce_13 : decode cX11_announce 13 = .ok (.ifCond .eq 12, 3) := dcS2 dO_153 (by decide +kernel)
theorem dX11_announce_16 : decode cX11_announce 16 = .ok (.iload_n 3, 1) := dc0 dO_29 (by decide +kernel)
theorem dX11_announce_17 : decode cX11_announce 17 = .ok (.ifCond .lt 8, 3) := dcS2 dO_155 (by decide +kernel)
theorem dX11_announce_20 : decode cX11_announce 20 = .ok (.iload_n 3, 1) := dc0 dO_29 (by decide +kernel)
theorem dX11_announce_21 : decode cX11_announce 21 = .ok (.iconst 2, 1) := dc0 dO_5 (by decide +kernel)
theorem dX11_announce_22 : decode cX11_announce 22 = .ok (.if_icmp .le 5, 3) := dcS2 dO_164 (by decide +kernel)
theorem dX11_announce_25 : decode cX11_announce 25 = .ok (.iconst (-1), 1) := dc0 dO_2 (by decide +kernel)
theorem dX11_announce_26 : decode cX11_announce 26 = .ok (.ireturn, 1) := dc0 dO_172 (by decide +kernel)
theorem dX11_announce_27 : decode cX11_announce 27 = .ok (.aload_n 0, 1) := dc0 dO_42 (by decide +kernel)
theorem dX11_announce_28 : decode cX11_announce 28 = .ok (.getfield 26, 3) := dcU2 dO_180 (by decide +kernel)
theorem dX11_announce_31 : decode cX11_announce 31 = .ok (.getfield 283, 3) := dcU2 dO_180 (by decide +kernel)
theorem dX11_announce_34 : decode cX11_announce 34 = .ok (.iload_n 1, 1) := dc0 dO_27 (by decide +kernel)
theorem dX11_announce_35 : decode cX11_announce 35 = .ok (.aaload, 1) := dc0 dO_50 (by decide +kernel)
theorem dX11_announce_36 : decode cX11_announce 36 = .ok (.getfield 293, 3) := dcU2 dO_180 (by decide +kernel)
theorem dX11_announce_39 : decode cX11_announce 39 = .ok (.iload_n 2, 1) := dc0 dO_28 (by decide +kernel)
theorem dX11_announce_40 : decode cX11_announce 40 = .ok (.iaload, 1) := dc0 dO_46 (by decide +kernel)
theorem dX11_announce_41 : decode cX11_announce 41 = .ok (.iload_n 3, 1) := dc0 dO_29 (by decide +kernel)
theorem dX11_announce_42 : decode cX11_announce 42 = .ok (.if_icmp .ne 6, 3) := dcS2 dO_160 (by decide +kernel)
theorem dX11_announce_45 : decode cX11_announce 45 = .ok (.bipush (-2), 2) := dcS1 dO_16 (by decide +kernel)
theorem dX11_announce_47 : decode cX11_announce 47 = .ok (.ireturn, 1) := dc0 dO_172 (by decide +kernel)
theorem dX11_announce_48 : decode cX11_announce 48 = .ok (.aload_n 0, 1) := dc0 dO_42 (by decide +kernel)
theorem dX11_announce_49 : decode cX11_announce 49 = .ok (.getfield 26, 3) := dcU2 dO_180 (by decide +kernel)
theorem dX11_announce_52 : decode cX11_announce 52 = .ok (.getfield 283, 3) := dcU2 dO_180 (by decide +kernel)
theorem dX11_announce_55 : decode cX11_announce 55 = .ok (.iload_n 1, 1) := dc0 dO_27 (by decide +kernel)
theorem dX11_announce_56 : decode cX11_announce 56 = .ok (.aaload, 1) := dc0 dO_50 (by decide +kernel)
theorem dX11_announce_57 : decode cX11_announce 57 = .ok (.getfield 293, 3) := dcU2 dO_180 (by decide +kernel)
theorem dX11_announce_60 : decode cX11_announce 60 = .ok (.iload_n 2, 1) := dc0 dO_28 (by decide +kernel)
theorem dX11_announce_61 : decode cX11_announce 61 = .ok (.iload_n 3, 1) := dc0 dO_29 (by decide +kernel)
theorem dX11_announce_62 : decode cX11_announce 62 = .ok (.iastore, 1) := dc0 dO_79 (by decide +kernel)
theorem dX11_announce_63 : decode cX11_announce 63 = .ok (.aload_n 0, 1) := dc0 dO_42 (by decide +kernel)
theorem dX11_announce_64 : decode cX11_announce 64 = .ok (.getfield 51, 3) := dcU2 dO_180 (by decide +kernel)
theorem dX11_announce_67 : decode cX11_announce 67 = .ok (.iload_n 1, 1) := dc0 dO_27 (by decide +kernel)
theorem dX11_announce_68 : decode cX11_announce 68 = .ok (.iload_n 2, 1) := dc0 dO_28 (by decide +kernel)
theorem dX11_announce_69 : decode cX11_announce 69 = .ok (.invokevirtual 296, 3) := dcU2 dO_182 (by decide +kernel)
theorem dX11_announce_72 : decode cX11_announce 72 = .ok (.iconst 0, 1) := dc0 dO_3 (by decide +kernel)
theorem dX11_announce_73 : decode cX11_announce 73 = .ok (.ireturn, 1) := dc0 dO_172 (by decide +kernel)
theorem dX11_demand_0 : decode cX11_demand 0 = .ok (.aload_n 0, 1) := dc0 dO_42 (by decide +kernel)
theorem dX11_demand_1 : decode cX11_demand 1 = .ok (.iload_n 1, 1) := dc0 dO_27 (by decide +kernel)
theorem dX11_demand_2 : decode cX11_demand 2 = .ok (.invokevirtual 105, 3) := dcU2 dO_182 (by decide +kernel)
theorem dX11_demand_5 : decode cX11_demand 5 = .ok (.ifCond .eq 14, 3) := dcS2 dO_153 (by decide +kernel)
theorem dX11_demand_8 : decode cX11_demand 8 = .ok (.iload_n 3, 1) := dc0 dO_29 (by decide +kernel)
theorem dX11_demand_9 : decode cX11_demand 9 = .ok (.iconst 1, 1) := dc0 dO_4 (by decide +kernel)
theorem dX11_demand_10 : decode cX11_demand 10 = .ok (.if_icmp .lt 9, 3) := dcS2 dO_161 (by decide +kernel)
theorem dX11_demand_13 : decode cX11_demand 13 = .ok (.iload_n 3, 1) := dc0 dO_29 (by decide +kernel)
theorem dX11_demand_14 : decode cX11_demand 14 = .ok (.ldc 226, 2) := dcU1 dO_18 (by decide +kernel)
theorem dX11_demand_16 : decode cX11_demand 16 = .ok (.if_icmp .le 5, 3) := dcS2 dO_164 (by decide +kernel)
theorem dX11_demand_19 : decode cX11_demand 19 = .ok (.iconst (-1), 1) := dc0 dO_2 (by decide +kernel)
theorem dX11_demand_20 : decode cX11_demand 20 = .ok (.ireturn, 1) := dc0 dO_172 (by decide +kernel)
theorem dX11_demand_21 : decode cX11_demand 21 = .ok (.aload_n 0, 1) := dc0 dO_42 (by decide +kernel)
theorem dX11_demand_22 : decode cX11_demand 22 = .ok (.getfield 65, 3) := dcU2 dO_180 (by decide +kernel)
theorem dX11_demand_25 : decode cX11_demand 25 = .ok (.getfield 373, 3) := dcU2 dO_180 (by decide +kernel)
theorem dX11_demand_28 : decode cX11_demand 28 = .ok (.bipush 16, 2) := dcS1 dO_16 (by decide +kernel)
theorem dX11_demand_30 : decode cX11_demand 30 = .ok (.if_icmp .lt 6, 3) := dcS2 dO_161 (by decide +kernel)
theorem dX11_demand_33 : decode cX11_demand 33 = .ok (.bipush (-3), 2) := dcS1 dO_16 (by decide +kernel)
theorem dX11_demand_35 : decode cX11_demand 35 = .ok (.ireturn, 1) := dc0 dO_172 (by decide +kernel)
theorem dX11_demand_36 : decode cX11_demand 36 = .ok (.aload_n 0, 1) := dc0 dO_42 (by decide +kernel)
theorem dX11_demand_37 : decode cX11_demand 37 = .ok (.getfield 65, 3) := dcU2 dO_180 (by decide +kernel)
theorem dX11_demand_40 : decode cX11_demand 40 = .ok (.iload_n 1, 1) := dc0 dO_27 (by decide +kernel)
theorem dX11_demand_41 : decode cX11_demand 41 = .ok (.iload_n 2, 1) := dc0 dO_28 (by decide +kernel)
theorem dX11_demand_42 : decode cX11_demand 42 = .ok (.iload_n 3, 1) := dc0 dO_29 (by decide +kernel)
theorem dX11_demand_43 : decode cX11_demand 43 = .ok (.invokevirtual 376, 3) := dcU2 dO_182 (by decide +kernel)
theorem dX11_demand_46 : decode cX11_demand 46 = .ok (.ireturn, 1) := dc0 dO_172 (by decide +kernel)
theorem dX11_differ_0 : decode cX11_differ 0 = .ok (.aload_n 0, 1) := dc0 dO_42 (by decide +kernel)
theorem dX11_differ_1 : decode cX11_differ 1 = .ok (.iload_n 1, 1) := dc0 dO_27 (by decide +kernel)
theorem dX11_differ_2 : decode cX11_differ 2 = .ok (.invokevirtual 105, 3) := dcU2 dO_182 (by decide +kernel)
theorem dX11_differ_5 : decode cX11_differ 5 = .ok (.ifCond .eq 23, 3) := dcS2 dO_153 (by decide +kernel)
theorem dX11_differ_8 : decode cX11_differ 8 = .ok (.aload_n 0, 1) := dc0 dO_42 (by decide +kernel)
theorem dX11_differ_9 : decode cX11_differ 9 = .ok (.iload_n 2, 1) := dc0 dO_28 (by decide +kernel)
theorem dX11_differ_10 : decode cX11_differ 10 = .ok (.invokevirtual 105, 3) := dcU2 dO_182 (by decide +kernel)
theorem dX11_differ_13 : decode cX11_differ 13 = .ok (.ifCond .eq 15, 3) := dcS2 dO_153 (by decide +kernel)
theorem dX11_differ_16 : decode cX11_differ 16 = .ok (.aload_n 0, 1) := dc0 dO_42 (by decide +kernel)
theorem dX11_differ_17 : decode cX11_differ 17 = .ok (.getfield 65, 3) := dcU2 dO_180 (by decide +kernel)
theorem dX11_differ_20 : decode cX11_differ 20 = .ok (.iload_n 1, 1) := dc0 dO_27 (by decide +kernel)
theorem dX11_differ_21 : decode cX11_differ 21 = .ok (.iload_n 2, 1) := dc0 dO_28 (by decide +kernel)
theorem dX11_differ_22 : decode cX11_differ 22 = .ok (.invokevirtual 388, 3) := dcU2 dO_182 (by decide +kernel)
theorem dX11_differ_25 : decode cX11_differ 25 = .ok (.goto 6, 3) := dcS2 dO_167 (by decide +kernel)
theorem dX11_differ_28 : decode cX11_differ 28 = .ok (.ldc2_w 392, 3) := dcU2 dO_20 (by decide +kernel)
theorem dX11_differ_31 : decode cX11_differ 31 = .ok (.lreturn, 1) := dc0 dO_173 (by decide +kernel)
theorem dX11_go_0 : decode cX11_go 0 = .ok (.iload_n 1, 1) := dc0 dO_27 (by decide +kernel)
theorem dX11_go_1 : decode cX11_go 1 = .ok (.iconst 1, 1) := dc0 dO_4 (by decide +kernel)
theorem dX11_go_2 : decode cX11_go 2 = .ok (.if_icmp .lt 10, 3) := dcS2 dO_161 (by decide +kernel)
theorem dX11_go_5 : decode cX11_go 5 = .ok (.iload_n 1, 1) := dc0 dO_27 (by decide +kernel)
theorem dX11_go_6 : decode cX11_go 6 = .ok (.sipush 500, 3) := dcS2 dO_17 (by decide +kernel)
theorem dX11_go_9 : decode cX11_go 9 = .ok (.if_icmp .le 5, 3) := dcS2 dO_164 (by decide +kernel)
theorem dX11_go_12 : decode cX11_go 12 = .ok (.iconst (-1), 1) := dc0 dO_2 (by decide +kernel)
theorem dX11_go_13 : decode cX11_go 13 = .ok (.ireturn, 1) := dc0 dO_172 (by decide +kernel)
theorem dX11_go_14 : decode cX11_go 14 = .ok (.iconst 0, 1) := dc0 dO_3 (by decide +kernel)
theorem dX11_go_15 : decode cX11_go 15 = .ok (.istore_n 2, 1) := dc0 dO_61 (by decide +kernel)
theorem dX11_go_16 : decode cX11_go 16 = .ok (.iload_n 2, 1) := dc0 dO_28 (by decide +kernel)
theorem dX11_go_17 : decode cX11_go 17 = .ok (.iload_n 1, 1) := dc0 dO_27 (by decide +kernel)
theorem dX11_go_18 : decode cX11_go 18 = .ok (.if_icmp .ge 22, 3) := dcS2 dO_162 (by decide +kernel)
theorem dX11_go_21 : decode cX11_go 21 = .ok (.aload_n 0, 1) := dc0 dO_42 (by decide +kernel)
theorem dX11_go_22 : decode cX11_go 22 = .ok (.getfield 51, 3) := dcU2 dO_180 (by decide +kernel)
theorem dX11_go_25 : decode cX11_go 25 = .ok (.ldc_w 299, 3) := dcU2 dO_19 (by decide +kernel)
theorem dX11_go_28 : decode cX11_go 28 = .ok (.invokevirtual 300, 3) := dcU2 dO_182 (by decide +kernel)
theorem dX11_go_31 : decode cX11_go 31 = .ok (.ifCond .eq 9, 3) := dcS2 dO_153 (by decide +kernel)
theorem dX11_go_34 : decode cX11_go 34 = .ok (.iinc 2 1, 3) := dcI dO_132 (by decide +kernel)
theorem dX11_go_37 : decode cX11_go 37 = .ok (.goto (-21), 3) := dcS2 dO_167 (by decide +kernel)
theorem dX11_go_40 : decode cX11_go 40 = .ok (.iload_n 2, 1) := dc0 dO_28 (by decide +kernel)
theorem dX11_go_41 : decode cX11_go 41 = .ok (.ireturn, 1) := dc0 dO_172 (by decide +kernel)
theorem dX11_hear_0 : decode cX11_hear 0 = .ok (.aload_n 0, 1) := dc0 dO_42 (by decide +kernel)
theorem dX11_hear_1 : decode cX11_hear 1 = .ok (.iload_n 1, 1) := dc0 dO_27 (by decide +kernel)
theorem dX11_hear_2 : decode cX11_hear 2 = .ok (.invokevirtual 119, 3) := dcU2 dO_182 (by decide +kernel)
theorem dX11_hear_5 : decode cX11_hear 5 = .ok (.ifCond .eq 10, 3) := dcS2 dO_153 (by decide +kernel)
theorem dX11_hear_8 : decode cX11_hear 8 = .ok (.iload_n 2, 1) := dc0 dO_28 (by decide +kernel)
theorem dX11_hear_9 : decode cX11_hear 9 = .ok (.invokestatic 271, 3) := dcU2 dO_184 (by decide +kernel)
theorem dX11_hear_12 : decode cX11_hear 12 = .ok (.ifCond .ne 5, 3) := dcS2 dO_154 (by decide +kernel)
theorem dX11_hear_15 : decode cX11_hear 15 = .ok (.iconst (-1), 1) := dc0 dO_2 (by decide +kernel)
theorem dX11_hear_16 : decode cX11_hear 16 = .ok (.ireturn, 1) := dc0 dO_172 (by decide +kernel)
theorem dX11_hear_17 : decode cX11_hear 17 = .ok (.aload_n 0, 1) := dc0 dO_42 (by decide +kernel)
theorem dX11_hear_18 : decode cX11_hear 18 = .ok (.getfield 58, 3) := dcU2 dO_180 (by decide +kernel)
theorem dX11_hear_21 : decode cX11_hear 21 = .ok (.getfield 344, 3) := dcU2 dO_180 (by decide +kernel)
theorem dX11_hear_24 : decode cX11_hear 24 = .ok (.ifCond .eq 18, 3) := dcS2 dO_153 (by decide +kernel)
theorem dX11_hear_27 : decode cX11_hear 27 = .ok (.aload_n 0, 1) := dc0 dO_42 (by decide +kernel)
theorem dX11_hear_28 : decode cX11_hear 28 = .ok (.getfield 26, 3) := dcU2 dO_180 (by decide +kernel)
theorem dX11_hear_31 : decode cX11_hear 31 = .ok (.getfield 122, 3) := dcU2 dO_180 (by decide +kernel)
theorem dX11_hear_34 : decode cX11_hear 34 = .ok (.iload_n 1, 1) := dc0 dO_27 (by decide +kernel)
theorem dX11_hear_35 : decode cX11_hear 35 = .ok (.aaload, 1) := dc0 dO_50 (by decide +kernel)
theorem dX11_hear_36 : decode cX11_hear 36 = .ok (.getfield 134, 3) := dcU2 dO_180 (by decide +kernel)
theorem dX11_hear_39 : decode cX11_hear 39 = .ok (.ifCond .ne 6, 3) := dcS2 dO_154 (by decide +kernel)
theorem dX11_hear_42 : decode cX11_hear 42 = .ok (.bipush (-2), 2) := dcS1 dO_16 (by decide +kernel)
theorem dX11_hear_44 : decode cX11_hear 44 = .ok (.ireturn, 1) := dc0 dO_172 (by decide +kernel)
theorem dX11_hear_45 : decode cX11_hear 45 = .ok (.aload_n 0, 1) := dc0 dO_42 (by decide +kernel)
theorem dX11_hear_46 : decode cX11_hear 46 = .ok (.getfield 51, 3) := dcU2 dO_180 (by decide +kernel)
theorem dX11_hear_49 : decode cX11_hear 49 = .ok (.aload_n 0, 1) := dc0 dO_42 (by decide +kernel)
theorem dX11_hear_50 : decode cX11_hear 50 = .ok (.getfield 58, 3) := dcU2 dO_180 (by decide +kernel)
theorem dX11_hear_53 : decode cX11_hear 53 = .ok (.iload_n 1, 1) := dc0 dO_27 (by decide +kernel)
theorem dX11_hear_54 : decode cX11_hear 54 = .ok (.iload_n 2, 1) := dc0 dO_28 (by decide +kernel)
theorem dX11_hear_55 : decode cX11_hear 55 = .ok (.invokevirtual 347, 3) := dcU2 dO_182 (by decide +kernel)
theorem dX11_hear_58 : decode cX11_hear 58 = .ok (.ireturn, 1) := dc0 dO_172 (by decide +kernel)
theorem dX11_isRule_0 : decode cX11_isRule 0 = .ok (.iload_n 0, 1) := dc0 dO_26 (by decide +kernel)
theorem dX11_isRule_1 : decode cX11_isRule 1 = .ok (.ifCond .ge 5, 3) := dcS2 dO_156 (by decide +kernel)
theorem dX11_isRule_4 : decode cX11_isRule 4 = .ok (.iconst 0, 1) := dc0 dO_3 (by decide +kernel)
theorem dX11_isRule_5 : decode cX11_isRule 5 = .ok (.ireturn, 1) := dc0 dO_172 (by decide +kernel)
theorem dX11_isRule_6 : decode cX11_isRule 6 = .ok (.iconst 0, 1) := dc0 dO_3 (by decide +kernel)
theorem dX11_isRule_7 : decode cX11_isRule 7 = .ok (.istore_n 1, 1) := dc0 dO_60 (by decide +kernel)
theorem dX11_isRule_8 : decode cX11_isRule 8 = .ok (.iload_n 0, 1) := dc0 dO_26 (by decide +kernel)
theorem dX11_isRule_9 : decode cX11_isRule 9 = .ok (.istore_n 2, 1) := dc0 dO_61 (by decide +kernel)
theorem dX11_isRule_10 : decode cX11_isRule 10 = .ok (.iload_n 2, 1) := dc0 dO_28 (by decide +kernel)
theorem dX11_isRule_11 : decode cX11_isRule 11 = .ok (.ifCond .le 43, 3) := dcS2 dO_158 (by decide +kernel)
theorem dX11_isRule_14 : decode cX11_isRule 14 = .ok (.iload_n 2, 1) := dc0 dO_28 (by decide +kernel)
theorem dX11_isRule_15 : decode cX11_isRule 15 = .ok (.bipush 10, 2) := dcS1 dO_16 (by decide +kernel)
theorem dX11_isRule_17 : decode cX11_isRule 17 = .ok (.irem, 1) := dc0 dO_112 (by decide +kernel)
theorem dX11_isRule_18 : decode cX11_isRule 18 = .ok (.istore_n 3, 1) := dc0 dO_62 (by decide +kernel)
theorem dX11_isRule_19 : decode cX11_isRule 19 = .ok (.iload_n 3, 1) := dc0 dO_29 (by decide +kernel)
theorem dX11_isRule_20 : decode cX11_isRule 20 = .ok (.iconst 1, 1) := dc0 dO_4 (by decide +kernel)
theorem dX11_isRule_21 : decode cX11_isRule 21 = .ok (.if_icmp .lt 17, 3) := dcS2 dO_161 (by decide +kernel)
theorem dX11_isRule_24 : decode cX11_isRule 24 = .ok (.iload_n 3, 1) := dc0 dO_29 (by decide +kernel)
theorem dX11_isRule_25 : decode cX11_isRule 25 = .ok (.bipush 6, 2) := dcS1 dO_16 (by decide +kernel)
theorem dX11_isRule_27 : decode cX11_isRule 27 = .ok (.if_icmp .gt 11, 3) := dcS2 dO_163 (by decide +kernel)
theorem dX11_isRule_30 : decode cX11_isRule 30 = .ok (.iload_n 1, 1) := dc0 dO_27 (by decide +kernel)
theorem dX11_isRule_31 : decode cX11_isRule 31 = .ok (.iload_n 3, 1) := dc0 dO_29 (by decide +kernel)
theorem dX11_isRule_32 : decode cX11_isRule 32 = .ok (.ishr, 1) := dc0 dO_122 (by decide +kernel)
theorem dX11_isRule_33 : decode cX11_isRule 33 = .ok (.iconst 1, 1) := dc0 dO_4 (by decide +kernel)
theorem dX11_isRule_34 : decode cX11_isRule 34 = .ok (.iand, 1) := dc0 dO_126 (by decide +kernel)
theorem dX11_isRule_35 : decode cX11_isRule 35 = .ok (.ifCond .eq 5, 3) := dcS2 dO_153 (by decide +kernel)
theorem dX11_isRule_38 : decode cX11_isRule 38 = .ok (.iconst 0, 1) := dc0 dO_3 (by decide +kernel)
theorem dX11_isRule_39 : decode cX11_isRule 39 = .ok (.ireturn, 1) := dc0 dO_172 (by decide +kernel)
theorem dX11_isRule_40 : decode cX11_isRule 40 = .ok (.iload_n 1, 1) := dc0 dO_27 (by decide +kernel)
theorem dX11_isRule_41 : decode cX11_isRule 41 = .ok (.iconst 1, 1) := dc0 dO_4 (by decide +kernel)
theorem dX11_isRule_42 : decode cX11_isRule 42 = .ok (.iload_n 3, 1) := dc0 dO_29 (by decide +kernel)
theorem dX11_isRule_43 : decode cX11_isRule 43 = .ok (.ishl, 1) := dc0 dO_120 (by decide +kernel)
theorem dX11_isRule_44 : decode cX11_isRule 44 = .ok (.ior, 1) := dc0 dO_128 (by decide +kernel)
theorem dX11_isRule_45 : decode cX11_isRule 45 = .ok (.istore_n 1, 1) := dc0 dO_60 (by decide +kernel)
theorem dX11_isRule_46 : decode cX11_isRule 46 = .ok (.iload_n 2, 1) := dc0 dO_28 (by decide +kernel)
theorem dX11_isRule_47 : decode cX11_isRule 47 = .ok (.bipush 10, 2) := dcS1 dO_16 (by decide +kernel)
theorem dX11_isRule_49 : decode cX11_isRule 49 = .ok (.idiv, 1) := dc0 dO_108 (by decide +kernel)
theorem dX11_isRule_50 : decode cX11_isRule 50 = .ok (.istore_n 2, 1) := dc0 dO_61 (by decide +kernel)
theorem dX11_isRule_51 : decode cX11_isRule 51 = .ok (.goto (-41), 3) := dcS2 dO_167 (by decide +kernel)
theorem dX11_isRule_54 : decode cX11_isRule 54 = .ok (.iconst 1, 1) := dc0 dO_4 (by decide +kernel)
theorem dX11_isRule_55 : decode cX11_isRule 55 = .ok (.ireturn, 1) := dc0 dO_172 (by decide +kernel)
theorem dX11_letter_0 : decode cX11_letter 0 = .ok (.aload_n 0, 1) := dc0 dO_42 (by decide +kernel)
theorem dX11_letter_1 : decode cX11_letter 1 = .ok (.iload_n 1, 1) := dc0 dO_27 (by decide +kernel)
theorem dX11_letter_2 : decode cX11_letter 2 = .ok (.invokevirtual 105, 3) := dcU2 dO_182 (by decide +kernel)
theorem dX11_letter_5 : decode cX11_letter 5 = .ok (.ifCond .eq 15, 3) := dcS2 dO_153 (by decide +kernel)
theorem dX11_letter_8 : decode cX11_letter 8 = .ok (.aload_n 0, 1) := dc0 dO_42 (by decide +kernel)
theorem dX11_letter_9 : decode cX11_letter 9 = .ok (.getfield 65, 3) := dcU2 dO_180 (by decide +kernel)
theorem dX11_letter_12 : decode cX11_letter 12 = .ok (.iload_n 1, 1) := dc0 dO_27 (by decide +kernel)
theorem dX11_letter_13 : decode cX11_letter 13 = .ok (.iload_n 2, 1) := dc0 dO_28 (by decide +kernel)
theorem dX11_letter_14 : decode cX11_letter 14 = .ok (.invokevirtual 364, 3) := dcU2 dO_182 (by decide +kernel)
theorem dX11_letter_17 : decode cX11_letter 17 = .ok (.goto 4, 3) := dcS2 dO_167 (by decide +kernel)
theorem dX11_letter_20 : decode cX11_letter 20 = .ok (.iconst (-1), 1) := dc0 dO_2 (by decide +kernel)
theorem dX11_letter_21 : decode cX11_letter 21 = .ok (.ireturn, 1) := dc0 dO_172 (by decide +kernel)
theorem dX11_load_0 : decode cX11_load 0 = .ok (.aload_n 0, 1) := dc0 dO_42 (by decide +kernel)
theorem dX11_load_1 : decode cX11_load 1 = .ok (.iload_n 1, 1) := dc0 dO_27 (by decide +kernel)
theorem dX11_load_2 : decode cX11_load 2 = .ok (.invokevirtual 119, 3) := dcU2 dO_182 (by decide +kernel)
theorem dX11_load_5 : decode cX11_load 5 = .ok (.ifCond .eq 10, 3) := dcS2 dO_153 (by decide +kernel)
theorem dX11_load_8 : decode cX11_load 8 = .ok (.iload_n 2, 1) := dc0 dO_28 (by decide +kernel)
theorem dX11_load_9 : decode cX11_load 9 = .ok (.invokestatic 271, 3) := dcU2 dO_184 (by decide +kernel)
theorem dX11_load_12 : decode cX11_load 12 = .ok (.ifCond .ne 5, 3) := dcS2 dO_154 (by decide +kernel)
theorem dX11_load_15 : decode cX11_load 15 = .ok (.iconst (-1), 1) := dc0 dO_2 (by decide +kernel)
theorem dX11_load_16 : decode cX11_load 16 = .ok (.ireturn, 1) := dc0 dO_172 (by decide +kernel)
theorem dX11_load_17 : decode cX11_load 17 = .ok (.aload_n 0, 1) := dc0 dO_42 (by decide +kernel)
theorem dX11_load_18 : decode cX11_load 18 = .ok (.getfield 26, 3) := dcU2 dO_180 (by decide +kernel)
theorem dX11_load_21 : decode cX11_load 21 = .ok (.getfield 122, 3) := dcU2 dO_180 (by decide +kernel)
theorem dX11_load_24 : decode cX11_load 24 = .ok (.iload_n 1, 1) := dc0 dO_27 (by decide +kernel)
theorem dX11_load_25 : decode cX11_load 25 = .ok (.aaload, 1) := dc0 dO_50 (by decide +kernel)
theorem dX11_load_26 : decode cX11_load 26 = .ok (.astore_n 3, 1) := dc0 dO_78 (by decide +kernel)
theorem dX11_load_27 : decode cX11_load 27 = .ok (.aload_n 0, 1) := dc0 dO_42 (by decide +kernel)
theorem dX11_load_28 : decode cX11_load 28 = .ok (.getfield 65, 3) := dcU2 dO_180 (by decide +kernel)
theorem dX11_load_31 : decode cX11_load 31 = .ok (.aload_n 3, 1) := dc0 dO_45 (by decide +kernel)
theorem dX11_load_32 : decode cX11_load 32 = .ok (.iload_n 2, 1) := dc0 dO_28 (by decide +kernel)
theorem dX11_load_33 : decode cX11_load 33 = .ok (.invokevirtual 277, 3) := dcU2 dO_182 (by decide +kernel)
theorem dX11_load_36 : decode cX11_load 36 = .ok (.aload_n 3, 1) := dc0 dO_45 (by decide +kernel)
theorem dX11_load_37 : decode cX11_load 37 = .ok (.iconst 1, 1) := dc0 dO_4 (by decide +kernel)
theorem dX11_load_38 : decode cX11_load 38 = .ok (.iload_n 2, 1) := dc0 dO_28 (by decide +kernel)
theorem dX11_load_39 : decode cX11_load 39 = .ok (.isub, 1) := dc0 dO_100 (by decide +kernel)
theorem dX11_load_40 : decode cX11_load 40 = .ok (.invokevirtual 277, 3) := dcU2 dO_182 (by decide +kernel)
theorem dX11_load_43 : decode cX11_load 43 = .ok (.invokevirtual 379, 3) := dcU2 dO_182 (by decide +kernel)
theorem dX11_load_46 : decode cX11_load 46 = .ok (.ireturn, 1) := dc0 dO_172 (by decide +kernel)
theorem dX11_raise_0 : decode cX11_raise 0 = .ok (.aload_n 0, 1) := dc0 dO_42 (by decide +kernel)
theorem dX11_raise_1 : decode cX11_raise 1 = .ok (.iload_n 1, 1) := dc0 dO_27 (by decide +kernel)
theorem dX11_raise_2 : decode cX11_raise 2 = .ok (.invokevirtual 119, 3) := dcU2 dO_182 (by decide +kernel)
theorem dX11_raise_5 : decode cX11_raise 5 = .ok (.ifCond .ne 5, 3) := dcS2 dO_154 (by decide +kernel)
theorem dX11_raise_8 : decode cX11_raise 8 = .ok (.iconst (-1), 1) := dc0 dO_2 (by decide +kernel)
theorem dX11_raise_9 : decode cX11_raise 9 = .ok (.ireturn, 1) := dc0 dO_172 (by decide +kernel)
theorem dX11_raise_10 : decode cX11_raise 10 = .ok (.aload_n 0, 1) := dc0 dO_42 (by decide +kernel)
theorem dX11_raise_11 : decode cX11_raise 11 = .ok (.getfield 26, 3) := dcU2 dO_180 (by decide +kernel)
theorem dX11_raise_14 : decode cX11_raise 14 = .ok (.getfield 122, 3) := dcU2 dO_180 (by decide +kernel)
theorem dX11_raise_17 : decode cX11_raise 17 = .ok (.iload_n 1, 1) := dc0 dO_27 (by decide +kernel)
theorem dX11_raise_18 : decode cX11_raise 18 = .ok (.aaload, 1) := dc0 dO_50 (by decide +kernel)
theorem dX11_raise_19 : decode cX11_raise 19 = .ok (.getfield 134, 3) := dcU2 dO_180 (by decide +kernel)
theorem dX11_raise_22 : decode cX11_raise 22 = .ok (.ifCond .eq 7, 3) := dcS2 dO_153 (by decide +kernel)
theorem dX11_raise_25 : decode cX11_raise 25 = .ok (.iconst 1, 1) := dc0 dO_4 (by decide +kernel)
theorem dX11_raise_26 : decode cX11_raise 26 = .ok (.goto 4, 3) := dcS2 dO_167 (by decide +kernel)
theorem dX11_raise_29 : decode cX11_raise 29 = .ok (.iconst 0, 1) := dc0 dO_3 (by decide +kernel)
theorem dX11_raise_30 : decode cX11_raise 30 = .ok (.istore_n 3, 1) := dc0 dO_62 (by decide +kernel)
theorem dX11_raise_31 : decode cX11_raise 31 = .ok (.iload_n 2, 1) := dc0 dO_28 (by decide +kernel)
theorem dX11_raise_32 : decode cX11_raise 32 = .ok (.ifCond .eq 37, 3) := dcS2 dO_153 (by decide +kernel)
theorem dX11_raise_35 : decode cX11_raise 35 = .ok (.aload_n 0, 1) := dc0 dO_42 (by decide +kernel)
theorem dX11_raise_36 : decode cX11_raise 36 = .ok (.getfield 26, 3) := dcU2 dO_180 (by decide +kernel)
theorem dX11_raise_39 : decode cX11_raise 39 = .ok (.getfield 122, 3) := dcU2 dO_180 (by decide +kernel)
theorem dX11_raise_42 : decode cX11_raise 42 = .ok (.iload_n 1, 1) := dc0 dO_27 (by decide +kernel)
theorem dX11_raise_43 : decode cX11_raise 43 = .ok (.aaload, 1) := dc0 dO_50 (by decide +kernel)
theorem dX11_raise_44 : decode cX11_raise 44 = .ok (.iconst 1, 1) := dc0 dO_4 (by decide +kernel)
theorem dX11_raise_45 : decode cX11_raise 45 = .ok (.putfield 134, 3) := dcU2 dO_181 (by decide +kernel)
theorem dX11_raise_48 : decode cX11_raise 48 = .ok (.aload_n 0, 1) := dc0 dO_42 (by decide +kernel)
theorem dX11_raise_49 : decode cX11_raise 49 = .ok (.getfield 51, 3) := dcU2 dO_180 (by decide +kernel)
theorem dX11_raise_52 : decode cX11_raise 52 = .ok (.iload_n 1, 1) := dc0 dO_27 (by decide +kernel)
theorem dX11_raise_53 : decode cX11_raise 53 = .ok (.iconst 0, 1) := dc0 dO_3 (by decide +kernel)
theorem dX11_raise_54 : decode cX11_raise 54 = .ok (.invokevirtual 138, 3) := dcU2 dO_182 (by decide +kernel)
theorem dX11_raise_57 : decode cX11_raise 57 = .ok (.aload_n 0, 1) := dc0 dO_42 (by decide +kernel)
theorem dX11_raise_58 : decode cX11_raise 58 = .ok (.getfield 51, 3) := dcU2 dO_180 (by decide +kernel)
theorem dX11_raise_61 : decode cX11_raise 61 = .ok (.iload_n 1, 1) := dc0 dO_27 (by decide +kernel)
theorem dX11_raise_62 : decode cX11_raise 62 = .ok (.iconst 1, 1) := dc0 dO_4 (by decide +kernel)
theorem dX11_raise_63 : decode cX11_raise 63 = .ok (.invokevirtual 138, 3) := dcU2 dO_182 (by decide +kernel)
theorem dX11_raise_66 : decode cX11_raise 66 = .ok (.goto 54, 3) := dcS2 dO_167 (by decide +kernel)
theorem dX11_raise_69 : decode cX11_raise 69 = .ok (.iload_n 3, 1) := dc0 dO_29 (by decide +kernel)
theorem dX11_raise_70 : decode cX11_raise 70 = .ok (.iconst 1, 1) := dc0 dO_4 (by decide +kernel)
theorem dX11_raise_71 : decode cX11_raise 71 = .ok (.if_icmp .ne 49, 3) := dcS2 dO_160 (by decide +kernel)
theorem dX11_raise_74 : decode cX11_raise 74 = .ok (.aload_n 0, 1) := dc0 dO_42 (by decide +kernel)
theorem dX11_raise_75 : decode cX11_raise 75 = .ok (.getfield 51, 3) := dcU2 dO_180 (by decide +kernel)
theorem dX11_raise_78 : decode cX11_raise 78 = .ok (.iload_n 1, 1) := dc0 dO_27 (by decide +kernel)
theorem dX11_raise_79 : decode cX11_raise 79 = .ok (.invokevirtual 142, 3) := dcU2 dO_182 (by decide +kernel)
theorem dX11_raise_82 : decode cX11_raise 82 = .ok (.aload_n 0, 1) := dc0 dO_42 (by decide +kernel)
theorem dX11_raise_83 : decode cX11_raise 83 = .ok (.getfield 51, 3) := dcU2 dO_180 (by decide +kernel)
theorem dX11_raise_86 : decode cX11_raise 86 = .ok (.aload_n 0, 1) := dc0 dO_42 (by decide +kernel)
theorem dX11_raise_87 : decode cX11_raise 87 = .ok (.getfield 26, 3) := dcU2 dO_180 (by decide +kernel)
theorem dX11_raise_90 : decode cX11_raise 90 = .ok (.getfield 122, 3) := dcU2 dO_180 (by decide +kernel)
theorem dX11_raise_93 : decode cX11_raise 93 = .ok (.iload_n 1, 1) := dc0 dO_27 (by decide +kernel)
theorem dX11_raise_94 : decode cX11_raise 94 = .ok (.aaload, 1) := dc0 dO_50 (by decide +kernel)
theorem dX11_raise_95 : decode cX11_raise 95 = .ok (.getfield 145, 3) := dcU2 dO_180 (by decide +kernel)
theorem dX11_raise_98 : decode cX11_raise 98 = .ok (.invokevirtual 148, 3) := dcU2 dO_182 (by decide +kernel)
theorem dX11_raise_101 : decode cX11_raise 101 = .ok (.aload_n 0, 1) := dc0 dO_42 (by decide +kernel)
theorem dX11_raise_102 : decode cX11_raise 102 = .ok (.getfield 51, 3) := dcU2 dO_180 (by decide +kernel)
theorem dX11_raise_105 : decode cX11_raise 105 = .ok (.aload_n 0, 1) := dc0 dO_42 (by decide +kernel)
theorem dX11_raise_106 : decode cX11_raise 106 = .ok (.getfield 26, 3) := dcU2 dO_180 (by decide +kernel)
theorem dX11_raise_109 : decode cX11_raise 109 = .ok (.getfield 122, 3) := dcU2 dO_180 (by decide +kernel)
theorem dX11_raise_112 : decode cX11_raise 112 = .ok (.iload_n 1, 1) := dc0 dO_27 (by decide +kernel)
theorem dX11_raise_113 : decode cX11_raise 113 = .ok (.aaload, 1) := dc0 dO_50 (by decide +kernel)
theorem dX11_raise_114 : decode cX11_raise 114 = .ok (.getfield 151, 3) := dcU2 dO_180 (by decide +kernel)
theorem dX11_raise_117 : decode cX11_raise 117 = .ok (.invokevirtual 148, 3) := dcU2 dO_182 (by decide +kernel)
theorem dX11_raise_120 : decode cX11_raise 120 = .ok (.iload_n 3, 1) := dc0 dO_29 (by decide +kernel)
theorem dX11_raise_121 : decode cX11_raise 121 = .ok (.ireturn, 1) := dc0 dO_172 (by decide +kernel)
theorem dX11_right_0 : decode cX11_right 0 = .ok (.aload_n 0, 1) := dc0 dO_42 (by decide +kernel)
theorem dX11_right_1 : decode cX11_right 1 = .ok (.iload_n 1, 1) := dc0 dO_27 (by decide +kernel)
theorem dX11_right_2 : decode cX11_right 2 = .ok (.invokevirtual 182, 3) := dcU2 dO_182 (by decide +kernel)
theorem dX11_right_5 : decode cX11_right 5 = .ok (.ifCond .eq 30, 3) := dcS2 dO_153 (by decide +kernel)
theorem dX11_right_8 : decode cX11_right 8 = .ok (.aload_n 0, 1) := dc0 dO_42 (by decide +kernel)
theorem dX11_right_9 : decode cX11_right 9 = .ok (.iload_n 3, 1) := dc0 dO_29 (by decide +kernel)
theorem dX11_right_10 : decode cX11_right 10 = .ok (.invokevirtual 105, 3) := dcU2 dO_182 (by decide +kernel)
theorem dX11_right_13 : decode cX11_right 13 = .ok (.ifCond .eq 22, 3) := dcS2 dO_153 (by decide +kernel)
theorem dX11_right_16 : decode cX11_right 16 = .ok (.iload_n 2, 1) := dc0 dO_28 (by decide +kernel)
theorem dX11_right_17 : decode cX11_right 17 = .ok (.aload_n 0, 1) := dc0 dO_42 (by decide +kernel)
theorem dX11_right_18 : decode cX11_right 18 = .ok (.getfield 26, 3) := dcU2 dO_180 (by decide +kernel)
theorem dX11_right_21 : decode cX11_right 21 = .ok (.getfield 185, 3) := dcU2 dO_180 (by decide +kernel)
theorem dX11_right_24 : decode cX11_right 24 = .ok (.iload_n 1, 1) := dc0 dO_27 (by decide +kernel)
theorem dX11_right_25 : decode cX11_right 25 = .ok (.iaload, 1) := dc0 dO_46 (by decide +kernel)
theorem dX11_right_26 : decode cX11_right 26 = .ok (.if_icmp .lt 9, 3) := dcS2 dO_161 (by decide +kernel)
theorem dX11_right_29 : decode cX11_right 29 = .ok (.iload_n 2, 1) := dc0 dO_28 (by decide +kernel)
theorem dX11_right_30 : decode cX11_right 30 = .ok (.bipush 32, 2) := dcS1 dO_16 (by decide +kernel)
theorem dX11_right_32 : decode cX11_right 32 = .ok (.if_icmp .le 5, 3) := dcS2 dO_164 (by decide +kernel)
theorem dX11_right_35 : decode cX11_right 35 = .ok (.iconst (-1), 1) := dc0 dO_2 (by decide +kernel)
theorem dX11_right_36 : decode cX11_right 36 = .ok (.ireturn, 1) := dc0 dO_172 (by decide +kernel)
theorem dX11_right_37 : decode cX11_right 37 = .ok (.iload 4, 2) := dcU1 dO_21 (by decide +kernel)
theorem dX11_right_39 : decode cX11_right 39 = .ok (.ifCond .lt 15, 3) := dcS2 dO_155 (by decide +kernel)
theorem dX11_right_42 : decode cX11_right 42 = .ok (.iload 5, 2) := dcU1 dO_21 (by decide +kernel)
theorem dX11_right_44 : decode cX11_right 44 = .ok (.iload 4, 2) := dcU1 dO_21 (by decide +kernel)
theorem dX11_right_46 : decode cX11_right 46 = .ok (.if_icmp .le 8, 3) := dcS2 dO_164 (by decide +kernel)
theorem dX11_right_49 : decode cX11_right 49 = .ok (.iload 6, 2) := dcU1 dO_21 (by decide +kernel)
theorem dX11_right_51 : decode cX11_right 51 = .ok (.ifCond .ge 5, 3) := dcS2 dO_156 (by decide +kernel)
theorem dX11_right_54 : decode cX11_right 54 = .ok (.iconst (-1), 1) := dc0 dO_2 (by decide +kernel)
theorem dX11_right_55 : decode cX11_right 55 = .ok (.ireturn, 1) := dc0 dO_172 (by decide +kernel)
theorem dX11_right_56 : decode cX11_right 56 = .ok (.aload_n 0, 1) := dc0 dO_42 (by decide +kernel)
theorem dX11_right_57 : decode cX11_right 57 = .ok (.getfield 26, 3) := dcU2 dO_180 (by decide +kernel)
theorem dX11_right_60 : decode cX11_right 60 = .ok (.getfield 188, 3) := dcU2 dO_180 (by decide +kernel)
theorem dX11_right_63 : decode cX11_right 63 = .ok (.bipush 30, 2) := dcS1 dO_16 (by decide +kernel)
theorem dX11_right_65 : decode cX11_right 65 = .ok (.if_icmp .lt 6, 3) := dcS2 dO_161 (by decide +kernel)
theorem dX11_right_68 : decode cX11_right 68 = .ok (.bipush (-3), 2) := dcS1 dO_16 (by decide +kernel)
theorem dX11_right_70 : decode cX11_right 70 = .ok (.ireturn, 1) := dc0 dO_172 (by decide +kernel)
theorem dX11_right_71 : decode cX11_right 71 = .ok (.aload_n 0, 1) := dc0 dO_42 (by decide +kernel)
theorem dX11_right_72 : decode cX11_right 72 = .ok (.getfield 26, 3) := dcU2 dO_180 (by decide +kernel)
theorem dX11_right_75 : decode cX11_right 75 = .ok (.iload_n 1, 1) := dc0 dO_27 (by decide +kernel)
theorem dX11_right_76 : decode cX11_right 76 = .ok (.iload_n 2, 1) := dc0 dO_28 (by decide +kernel)
theorem dX11_right_77 : decode cX11_right 77 = .ok (.iload_n 3, 1) := dc0 dO_29 (by decide +kernel)
theorem dX11_right_78 : decode cX11_right 78 = .ok (.iload 4, 2) := dcU1 dO_21 (by decide +kernel)
theorem dX11_right_80 : decode cX11_right 80 = .ok (.iload 5, 2) := dcU1 dO_21 (by decide +kernel)
theorem dX11_right_82 : decode cX11_right 82 = .ok (.iload 6, 2) := dcU1 dO_21 (by decide +kernel)
theorem dX11_right_84 : decode cX11_right 84 = .ok (.invokevirtual 191, 3) := dcU2 dO_182 (by decide +kernel)
theorem dX11_right_87 : decode cX11_right 87 = .ok (.istore 7, 2) := dcU1 dO_54 (by decide +kernel)
theorem dX11_right_89 : decode cX11_right 89 = .ok (.aload_n 0, 1) := dc0 dO_42 (by decide +kernel)
theorem dX11_right_90 : decode cX11_right 90 = .ok (.getfield 51, 3) := dcU2 dO_180 (by decide +kernel)
theorem dX11_right_93 : decode cX11_right 93 = .ok (.invokevirtual 179, 3) := dcU2 dO_182 (by decide +kernel)
theorem dX11_right_96 : decode cX11_right 96 = .ok (.iload 7, 2) := dcU1 dO_21 (by decide +kernel)
theorem dX11_right_98 : decode cX11_right 98 = .ok (.ireturn, 1) := dc0 dO_172 (by decide +kernel)
theorem dX11_rule_0 : decode cX11_rule 0 = .ok (.aload_n 0, 1) := dc0 dO_42 (by decide +kernel)
theorem dX11_rule_1 : decode cX11_rule 1 = .ok (.iload_n 1, 1) := dc0 dO_27 (by decide +kernel)
theorem dX11_rule_2 : decode cX11_rule 2 = .ok (.invokevirtual 105, 3) := dcU2 dO_182 (by decide +kernel)
theorem dX11_rule_5 : decode cX11_rule 5 = .ok (.ifCond .eq 10, 3) := dcS2 dO_153 (by decide +kernel)
theorem dX11_rule_8 : decode cX11_rule 8 = .ok (.iload_n 2, 1) := dc0 dO_28 (by decide +kernel)
theorem dX11_rule_9 : decode cX11_rule 9 = .ok (.invokestatic 280, 3) := dcU2 dO_184 (by decide +kernel)
theorem dX11_rule_12 : decode cX11_rule 12 = .ok (.ifCond .ne 5, 3) := dcS2 dO_154 (by decide +kernel)
theorem dX11_rule_15 : decode cX11_rule 15 = .ok (.iconst (-1), 1) := dc0 dO_2 (by decide +kernel)
theorem dX11_rule_16 : decode cX11_rule 16 = .ok (.ireturn, 1) := dc0 dO_172 (by decide +kernel)
theorem dX11_rule_17 : decode cX11_rule 17 = .ok (.aload_n 0, 1) := dc0 dO_42 (by decide +kernel)
theorem dX11_rule_18 : decode cX11_rule 18 = .ok (.getfield 26, 3) := dcU2 dO_180 (by decide +kernel)
theorem dX11_rule_21 : decode cX11_rule 21 = .ok (.getfield 283, 3) := dcU2 dO_180 (by decide +kernel)
theorem dX11_rule_24 : decode cX11_rule 24 = .ok (.iload_n 1, 1) := dc0 dO_27 (by decide +kernel)
theorem dX11_rule_25 : decode cX11_rule 25 = .ok (.aaload, 1) := dc0 dO_50 (by decide +kernel)
theorem dX11_rule_26 : decode cX11_rule 26 = .ok (.iload_n 2, 1) := dc0 dO_28 (by decide +kernel)
theorem dX11_rule_27 : decode cX11_rule 27 = .ok (.iload_n 3, 1) := dc0 dO_29 (by decide +kernel)
theorem dX11_rule_28 : decode cX11_rule 28 = .ok (.invokevirtual 287, 3) := dcU2 dO_182 (by decide +kernel)
theorem dX11_rule_31 : decode cX11_rule 31 = .ok (.aload_n 0, 1) := dc0 dO_42 (by decide +kernel)
theorem dX11_rule_32 : decode cX11_rule 32 = .ok (.getfield 51, 3) := dcU2 dO_180 (by decide +kernel)
theorem dX11_rule_35 : decode cX11_rule 35 = .ok (.iload_n 1, 1) := dc0 dO_27 (by decide +kernel)
theorem dX11_rule_36 : decode cX11_rule 36 = .ok (.invokevirtual 148, 3) := dcU2 dO_182 (by decide +kernel)
theorem dX11_rule_39 : decode cX11_rule 39 = .ok (.iconst 0, 1) := dc0 dO_3 (by decide +kernel)
theorem dX11_rule_40 : decode cX11_rule 40 = .ok (.ireturn, 1) := dc0 dO_172 (by decide +kernel)
theorem dX11_strike_0 : decode cX11_strike 0 = .ok (.iload_n 1, 1) := dc0 dO_27 (by decide +kernel)
theorem dX11_strike_1 : decode cX11_strike 1 = .ok (.ifCond .lt 27, 3) := dcS2 dO_155 (by decide +kernel)
theorem dX11_strike_4 : decode cX11_strike 4 = .ok (.iload_n 1, 1) := dc0 dO_27 (by decide +kernel)
theorem dX11_strike_5 : decode cX11_strike 5 = .ok (.aload_n 0, 1) := dc0 dO_42 (by decide +kernel)
theorem dX11_strike_6 : decode cX11_strike 6 = .ok (.getfield 26, 3) := dcU2 dO_180 (by decide +kernel)
theorem dX11_strike_9 : decode cX11_strike 9 = .ok (.getfield 188, 3) := dcU2 dO_180 (by decide +kernel)
theorem dX11_strike_12 : decode cX11_strike 12 = .ok (.if_icmp .ge 16, 3) := dcS2 dO_162 (by decide +kernel)
theorem dX11_strike_15 : decode cX11_strike 15 = .ok (.iload_n 2, 1) := dc0 dO_28 (by decide +kernel)
theorem dX11_strike_16 : decode cX11_strike 16 = .ok (.aload_n 0, 1) := dc0 dO_42 (by decide +kernel)
theorem dX11_strike_17 : decode cX11_strike 17 = .ok (.getfield 26, 3) := dcU2 dO_180 (by decide +kernel)
theorem dX11_strike_20 : decode cX11_strike 20 = .ok (.getfield 195, 3) := dcU2 dO_180 (by decide +kernel)
theorem dX11_strike_23 : decode cX11_strike 23 = .ok (.iload_n 1, 1) := dc0 dO_27 (by decide +kernel)
theorem dX11_strike_24 : decode cX11_strike 24 = .ok (.iaload, 1) := dc0 dO_46 (by decide +kernel)
theorem dX11_strike_25 : decode cX11_strike 25 = .ok (.if_icmp .ge 5, 3) := dcS2 dO_162 (by decide +kernel)
theorem dX11_strike_28 : decode cX11_strike 28 = .ok (.iconst (-1), 1) := dc0 dO_2 (by decide +kernel)
theorem dX11_strike_29 : decode cX11_strike 29 = .ok (.ireturn, 1) := dc0 dO_172 (by decide +kernel)
theorem dX11_strike_30 : decode cX11_strike 30 = .ok (.aload_n 0, 1) := dc0 dO_42 (by decide +kernel)
theorem dX11_strike_31 : decode cX11_strike 31 = .ok (.getfield 26, 3) := dcU2 dO_180 (by decide +kernel)
theorem dX11_strike_34 : decode cX11_strike 34 = .ok (.getfield 198, 3) := dcU2 dO_180 (by decide +kernel)
theorem dX11_strike_37 : decode cX11_strike 37 = .ok (.iload_n 1, 1) := dc0 dO_27 (by decide +kernel)
theorem dX11_strike_38 : decode cX11_strike 38 = .ok (.iaload, 1) := dc0 dO_46 (by decide +kernel)
theorem dX11_strike_39 : decode cX11_strike 39 = .ok (.iconst (-1), 1) := dc0 dO_2 (by decide +kernel)
theorem dX11_strike_40 : decode cX11_strike 40 = .ok (.if_icmp .eq 6, 3) := dcS2 dO_159 (by decide +kernel)
theorem dX11_strike_43 : decode cX11_strike 43 = .ok (.bipush (-2), 2) := dcS1 dO_16 (by decide +kernel)
theorem dX11_strike_45 : decode cX11_strike 45 = .ok (.ireturn, 1) := dc0 dO_172 (by decide +kernel)
theorem dX11_strike_46 : decode cX11_strike 46 = .ok (.aload_n 0, 1) := dc0 dO_42 (by decide +kernel)
theorem dX11_strike_47 : decode cX11_strike 47 = .ok (.getfield 26, 3) := dcU2 dO_180 (by decide +kernel)
theorem dX11_strike_50 : decode cX11_strike 50 = .ok (.getfield 198, 3) := dcU2 dO_180 (by decide +kernel)
theorem dX11_strike_53 : decode cX11_strike 53 = .ok (.iload_n 1, 1) := dc0 dO_27 (by decide +kernel)
theorem dX11_strike_54 : decode cX11_strike 54 = .ok (.iload_n 2, 1) := dc0 dO_28 (by decide +kernel)
theorem dX11_strike_55 : decode cX11_strike 55 = .ok (.iastore, 1) := dc0 dO_79 (by decide +kernel)
theorem dX11_strike_56 : decode cX11_strike 56 = .ok (.aload_n 0, 1) := dc0 dO_42 (by decide +kernel)
theorem dX11_strike_57 : decode cX11_strike 57 = .ok (.getfield 51, 3) := dcU2 dO_180 (by decide +kernel)
theorem dX11_strike_60 : decode cX11_strike 60 = .ok (.invokevirtual 179, 3) := dcU2 dO_182 (by decide +kernel)
theorem dX11_strike_63 : decode cX11_strike 63 = .ok (.iconst 0, 1) := dc0 dO_3 (by decide +kernel)
theorem dX11_strike_64 : decode cX11_strike 64 = .ok (.ireturn, 1) := dc0 dO_172 (by decide +kernel)
theorem dX11_three_0 : decode cX11_three 0 = .ok (.aload_n 0, 1) := dc0 dO_42 (by decide +kernel)
theorem dX11_three_1 : decode cX11_three 1 = .ok (.iload_n 1, 1) := dc0 dO_27 (by decide +kernel)
theorem dX11_three_2 : decode cX11_three 2 = .ok (.invokevirtual 105, 3) := dcU2 dO_182 (by decide +kernel)
theorem dX11_three_5 : decode cX11_three 5 = .ok (.ifCond .eq 11, 3) := dcS2 dO_153 (by decide +kernel)
theorem dX11_three_8 : decode cX11_three 8 = .ok (.aload_n 0, 1) := dc0 dO_42 (by decide +kernel)
theorem dX11_three_9 : decode cX11_three 9 = .ok (.iload_n 2, 1) := dc0 dO_28 (by decide +kernel)
theorem dX11_three_10 : decode cX11_three 10 = .ok (.invokevirtual 182, 3) := dcU2 dO_182 (by decide +kernel)
theorem dX11_three_13 : decode cX11_three 13 = .ok (.ifCond .ne 5, 3) := dcS2 dO_154 (by decide +kernel)
theorem dX11_three_16 : decode cX11_three 16 = .ok (.iconst (-1), 1) := dc0 dO_2 (by decide +kernel)
theorem dX11_three_17 : decode cX11_three 17 = .ok (.ireturn, 1) := dc0 dO_172 (by decide +kernel)
theorem dX11_three_18 : decode cX11_three 18 = .ok (.iload_n 3, 1) := dc0 dO_29 (by decide +kernel)
theorem dX11_three_19 : decode cX11_three 19 = .ok (.ifCond .lt 8, 3) := dcS2 dO_155 (by decide +kernel)
theorem dX11_three_22 : decode cX11_three 22 = .ok (.iload_n 3, 1) := dc0 dO_29 (by decide +kernel)
theorem dX11_three_23 : decode cX11_three 23 = .ok (.iconst 2, 1) := dc0 dO_5 (by decide +kernel)
theorem dX11_three_24 : decode cX11_three 24 = .ok (.if_icmp .le 8, 3) := dcS2 dO_164 (by decide +kernel)
theorem dX11_three_27 : decode cX11_three 27 = .ok (.ldc 165, 2) := dcU1 dO_18 (by decide +kernel)
theorem dX11_three_29 : decode cX11_three 29 = .ok (.goto 13, 3) := dcS2 dO_167 (by decide +kernel)
theorem dX11_three_32 : decode cX11_three 32 = .ok (.aload_n 0, 1) := dc0 dO_42 (by decide +kernel)
theorem dX11_three_33 : decode cX11_three 33 = .ok (.getfield 51, 3) := dcU2 dO_180 (by decide +kernel)
theorem dX11_three_36 : decode cX11_three 36 = .ok (.iload_n 1, 1) := dc0 dO_27 (by decide +kernel)
theorem dX11_three_37 : decode cX11_three 37 = .ok (.iload_n 2, 1) := dc0 dO_28 (by decide +kernel)
theorem dX11_three_38 : decode cX11_three 38 = .ok (.iload_n 3, 1) := dc0 dO_29 (by decide +kernel)
theorem dX11_three_39 : decode cX11_three 39 = .ok (.invokevirtual 336, 3) := dcU2 dO_182 (by decide +kernel)
theorem dX11_three_42 : decode cX11_three 42 = .ok (.ireturn, 1) := dc0 dO_172 (by decide +kernel)
theorem dX11_today_0 : decode cX11_today 0 = .ok (.iload_n 1, 1) := dc0 dO_27 (by decide +kernel)
theorem dX11_today_1 : decode cX11_today 1 = .ok (.ifCond .ge 5, 3) := dcS2 dO_156 (by decide +kernel)
theorem dX11_today_4 : decode cX11_today 4 = .ok (.iconst (-1), 1) := dc0 dO_2 (by decide +kernel)
theorem dX11_today_5 : decode cX11_today 5 = .ok (.ireturn, 1) := dc0 dO_172 (by decide +kernel)
theorem dX11_today_6 : decode cX11_today 6 = .ok (.aload_n 0, 1) := dc0 dO_42 (by decide +kernel)
theorem dX11_today_7 : decode cX11_today 7 = .ok (.getfield 26, 3) := dcU2 dO_180 (by decide +kernel)
theorem dX11_today_10 : decode cX11_today 10 = .ok (.getfield 176, 3) := dcU2 dO_180 (by decide +kernel)
theorem dX11_today_13 : decode cX11_today 13 = .ok (.istore_n 2, 1) := dc0 dO_61 (by decide +kernel)
theorem dX11_today_14 : decode cX11_today 14 = .ok (.aload_n 0, 1) := dc0 dO_42 (by decide +kernel)
theorem dX11_today_15 : decode cX11_today 15 = .ok (.getfield 26, 3) := dcU2 dO_180 (by decide +kernel)
theorem dX11_today_18 : decode cX11_today 18 = .ok (.iload_n 1, 1) := dc0 dO_27 (by decide +kernel)
theorem dX11_today_19 : decode cX11_today 19 = .ok (.putfield 176, 3) := dcU2 dO_181 (by decide +kernel)
theorem dX11_today_22 : decode cX11_today 22 = .ok (.aload_n 0, 1) := dc0 dO_42 (by decide +kernel)
theorem dX11_today_23 : decode cX11_today 23 = .ok (.getfield 51, 3) := dcU2 dO_180 (by decide +kernel)
theorem dX11_today_26 : decode cX11_today 26 = .ok (.invokevirtual 179, 3) := dcU2 dO_182 (by decide +kernel)
theorem dX11_today_29 : decode cX11_today 29 = .ok (.iload_n 2, 1) := dc0 dO_28 (by decide +kernel)
theorem dX11_today_30 : decode cX11_today 30 = .ok (.ireturn, 1) := dc0 dO_172 (by decide +kernel)
theorem dX11_units_0 : decode cX11_units 0 = .ok (.iload_n 1, 1) := dc0 dO_27 (by decide +kernel)
theorem dX11_units_1 : decode cX11_units 1 = .ok (.ifCond .lt 8, 3) := dcS2 dO_155 (by decide +kernel)
theorem dX11_units_4 : decode cX11_units 4 = .ok (.iload_n 1, 1) := dc0 dO_27 (by decide +kernel)
theorem dX11_units_5 : decode cX11_units 5 = .ok (.iconst 2, 1) := dc0 dO_5 (by decide +kernel)
theorem dX11_units_6 : decode cX11_units 6 = .ok (.if_icmp .le 7, 3) := dcS2 dO_164 (by decide +kernel)
theorem dX11_units_9 : decode cX11_units 9 = .ok (.iconst (-1), 1) := dc0 dO_2 (by decide +kernel)
theorem dX11_units_10 : decode cX11_units 10 = .ok (.goto 11, 3) := dcS2 dO_167 (by decide +kernel)
theorem dX11_units_13 : decode cX11_units 13 = .ok (.aload_n 0, 1) := dc0 dO_42 (by decide +kernel)
theorem dX11_units_14 : decode cX11_units 14 = .ok (.getfield 65, 3) := dcU2 dO_180 (by decide +kernel)
theorem dX11_units_17 : decode cX11_units 17 = .ok (.iload_n 1, 1) := dc0 dO_27 (by decide +kernel)
theorem dX11_units_18 : decode cX11_units 18 = .ok (.invokevirtual 382, 3) := dcU2 dO_182 (by decide +kernel)
theorem dX11_units_21 : decode cX11_units 21 = .ok (.ireturn, 1) := dc0 dO_172 (by decide +kernel)
theorem dX11_until_0 : decode cX11_until 0 = .ok (.iload_n 1, 1) := dc0 dO_27 (by decide +kernel)
theorem dX11_until_1 : decode cX11_until 1 = .ok (.aload_n 0, 1) := dc0 dO_42 (by decide +kernel)
theorem dX11_until_2 : decode cX11_until 2 = .ok (.getfield 51, 3) := dcU2 dO_180 (by decide +kernel)
theorem dX11_until_5 : decode cX11_until 5 = .ok (.getfield 303, 3) := dcU2 dO_180 (by decide +kernel)
theorem dX11_until_8 : decode cX11_until 8 = .ok (.if_icmp .lt 10, 3) := dcS2 dO_161 (by decide +kernel)
theorem dX11_until_11 : decode cX11_until 11 = .ok (.iload_n 1, 1) := dc0 dO_27 (by decide +kernel)
theorem dX11_until_12 : decode cX11_until 12 = .ok (.ldc_w 306, 3) := dcU2 dO_19 (by decide +kernel)
theorem dX11_until_15 : decode cX11_until 15 = .ok (.if_icmp .le 5, 3) := dcS2 dO_164 (by decide +kernel)
theorem dX11_until_18 : decode cX11_until 18 = .ok (.iconst (-1), 1) := dc0 dO_2 (by decide +kernel)
theorem dX11_until_19 : decode cX11_until 19 = .ok (.ireturn, 1) := dc0 dO_172 (by decide +kernel)
theorem dX11_until_20 : decode cX11_until 20 = .ok (.iconst 0, 1) := dc0 dO_3 (by decide +kernel)
theorem dX11_until_21 : decode cX11_until 21 = .ok (.istore_n 2, 1) := dc0 dO_61 (by decide +kernel)
theorem dX11_until_22 : decode cX11_until 22 = .ok (.iload_n 2, 1) := dc0 dO_28 (by decide +kernel)
theorem dX11_until_23 : decode cX11_until 23 = .ok (.sipush 500, 3) := dcS2 dO_17 (by decide +kernel)
theorem dX11_until_26 : decode cX11_until 26 = .ok (.if_icmp .ge 20, 3) := dcS2 dO_162 (by decide +kernel)
theorem dX11_until_29 : decode cX11_until 29 = .ok (.aload_n 0, 1) := dc0 dO_42 (by decide +kernel)
theorem dX11_until_30 : decode cX11_until 30 = .ok (.getfield 51, 3) := dcU2 dO_180 (by decide +kernel)
theorem dX11_until_33 : decode cX11_until 33 = .ok (.iload_n 1, 1) := dc0 dO_27 (by decide +kernel)
theorem dX11_until_34 : decode cX11_until 34 = .ok (.invokevirtual 300, 3) := dcU2 dO_182 (by decide +kernel)
theorem dX11_until_37 : decode cX11_until 37 = .ok (.ifCond .eq 9, 3) := dcS2 dO_153 (by decide +kernel)
theorem dX11_until_40 : decode cX11_until 40 = .ok (.iinc 2 1, 3) := dcI dO_132 (by decide +kernel)
theorem dX11_until_43 : decode cX11_until 43 = .ok (.goto (-21), 3) := dcS2 dO_167 (by decide +kernel)
theorem dX11_until_46 : decode cX11_until 46 = .ok (.aload_n 0, 1) := dc0 dO_42 (by decide +kernel)
theorem dX11_until_47 : decode cX11_until 47 = .ok (.getfield 51, 3) := dcU2 dO_180 (by decide +kernel)
theorem dX11_until_50 : decode cX11_until 50 = .ok (.iload_n 1, 1) := dc0 dO_27 (by decide +kernel)
theorem dX11_until_51 : decode cX11_until 51 = .ok (.invokevirtual 307, 3) := dcU2 dO_182 (by decide +kernel)
theorem dX11_until_54 : decode cX11_until 54 = .ok (.iload_n 2, 1) := dc0 dO_28 (by decide +kernel)
theorem dX11_until_55 : decode cX11_until 55 = .ok (.ireturn, 1) := dc0 dO_172 (by decide +kernel)
theorem dX11_use_0 : decode cX11_use 0 = .ok (.aload_n 0, 1) := dc0 dO_42 (by decide +kernel)
theorem dX11_use_1 : decode cX11_use 1 = .ok (.iload_n 1, 1) := dc0 dO_27 (by decide +kernel)
theorem dX11_use_2 : decode cX11_use 2 = .ok (.invokevirtual 119, 3) := dcU2 dO_182 (by decide +kernel)
theorem dX11_use_5 : decode cX11_use 5 = .ok (.ifCond .eq 17, 3) := dcS2 dO_153 (by decide +kernel)
theorem dX11_use_8 : decode cX11_use 8 = .ok (.iload_n 2, 1) := dc0 dO_28 (by decide +kernel)
theorem dX11_use_9 : decode cX11_use 9 = .ok (.invokestatic 271, 3) := dcU2 dO_184 (by decide +kernel)
theorem dX11_use_12 : decode cX11_use 12 = .ok (.ifCond .eq 10, 3) := dcS2 dO_153 (by decide +kernel)
theorem dX11_use_15 : decode cX11_use 15 = .ok (.iload_n 3, 1) := dc0 dO_29 (by decide +kernel)
theorem dX11_use_16 : decode cX11_use 16 = .ok (.invokestatic 271, 3) := dcU2 dO_184 (by decide +kernel)
theorem dX11_use_19 : decode cX11_use 19 = .ok (.ifCond .ne 5, 3) := dcS2 dO_154 (by decide +kernel)
theorem dX11_use_22 : decode cX11_use 22 = .ok (.iconst (-1), 1) := dc0 dO_2 (by decide +kernel)
theorem dX11_use_23 : decode cX11_use 23 = .ok (.ireturn, 1) := dc0 dO_172 (by decide +kernel)
theorem dX11_use_24 : decode cX11_use 24 = .ok (.iload 4, 2) := dcU1 dO_21 (by decide +kernel)
theorem dX11_use_26 : decode cX11_use 26 = .ok (.ldc 165, 2) := dcU1 dO_18 (by decide +kernel)
theorem dX11_use_28 : decode cX11_use 28 = .ok (.if_icmp .eq 22, 3) := dcS2 dO_159 (by decide +kernel)
theorem dX11_use_31 : decode cX11_use 31 = .ok (.iload 4, 2) := dcU1 dO_21 (by decide +kernel)
theorem dX11_use_33 : decode cX11_use 33 = .ok (.ifCond .lt 15, 3) := dcS2 dO_155 (by decide +kernel)
theorem dX11_use_36 : decode cX11_use 36 = .ok (.iload 4, 2) := dcU1 dO_21 (by decide +kernel)
theorem dX11_use_38 : decode cX11_use 38 = .ok (.aload_n 0, 1) := dc0 dO_42 (by decide +kernel)
theorem dX11_use_39 : decode cX11_use 39 = .ok (.getfield 35, 3) := dcU2 dO_180 (by decide +kernel)
theorem dX11_use_42 : decode cX11_use 42 = .ok (.getfield 205, 3) := dcU2 dO_180 (by decide +kernel)
theorem dX11_use_45 : decode cX11_use 45 = .ok (.if_icmp .lt 5, 3) := dcS2 dO_161 (by decide +kernel)
theorem dX11_use_48 : decode cX11_use 48 = .ok (.iconst (-1), 1) := dc0 dO_2 (by decide +kernel)
theorem dX11_use_49 : decode cX11_use 49 = .ok (.ireturn, 1) := dc0 dO_172 (by decide +kernel)
theorem dX11_use_50 : decode cX11_use 50 = .ok (.aload_n 0, 1) := dc0 dO_42 (by decide +kernel)
theorem dX11_use_51 : decode cX11_use 51 = .ok (.getfield 26, 3) := dcU2 dO_180 (by decide +kernel)
theorem dX11_use_54 : decode cX11_use 54 = .ok (.getfield 122, 3) := dcU2 dO_180 (by decide +kernel)
theorem dX11_use_57 : decode cX11_use 57 = .ok (.iload_n 1, 1) := dc0 dO_27 (by decide +kernel)
theorem dX11_use_58 : decode cX11_use 58 = .ok (.aaload, 1) := dc0 dO_50 (by decide +kernel)
theorem dX11_use_59 : decode cX11_use 59 = .ok (.getfield 274, 3) := dcU2 dO_180 (by decide +kernel)
theorem dX11_use_62 : decode cX11_use 62 = .ok (.iload_n 2, 1) := dc0 dO_28 (by decide +kernel)
theorem dX11_use_63 : decode cX11_use 63 = .ok (.iconst 2, 1) := dc0 dO_5 (by decide +kernel)
theorem dX11_use_64 : decode cX11_use 64 = .ok (.imul, 1) := dc0 dO_104 (by decide +kernel)
theorem dX11_use_65 : decode cX11_use 65 = .ok (.iload_n 3, 1) := dc0 dO_29 (by decide +kernel)
theorem dX11_use_66 : decode cX11_use 66 = .ok (.iadd, 1) := dc0 dO_96 (by decide +kernel)
theorem dX11_use_67 : decode cX11_use 67 = .ok (.iload 4, 2) := dcU1 dO_21 (by decide +kernel)
theorem dX11_use_69 : decode cX11_use 69 = .ok (.iastore, 1) := dc0 dO_79 (by decide +kernel)
theorem dX11_use_70 : decode cX11_use 70 = .ok (.iload_n 3, 1) := dc0 dO_29 (by decide +kernel)
theorem dX11_use_71 : decode cX11_use 71 = .ok (.ifCond .ne 26, 3) := dcS2 dO_154 (by decide +kernel)
theorem dX11_use_74 : decode cX11_use 74 = .ok (.aload_n 0, 1) := dc0 dO_42 (by decide +kernel)
theorem dX11_use_75 : decode cX11_use 75 = .ok (.getfield 51, 3) := dcU2 dO_180 (by decide +kernel)
theorem dX11_use_78 : decode cX11_use 78 = .ok (.aload_n 0, 1) := dc0 dO_42 (by decide +kernel)
theorem dX11_use_79 : decode cX11_use 79 = .ok (.getfield 26, 3) := dcU2 dO_180 (by decide +kernel)
theorem dX11_use_82 : decode cX11_use 82 = .ok (.getfield 122, 3) := dcU2 dO_180 (by decide +kernel)
theorem dX11_use_85 : decode cX11_use 85 = .ok (.iload_n 1, 1) := dc0 dO_27 (by decide +kernel)
theorem dX11_use_86 : decode cX11_use 86 = .ok (.aaload, 1) := dc0 dO_50 (by decide +kernel)
theorem dX11_use_87 : decode cX11_use 87 = .ok (.iload_n 2, 1) := dc0 dO_28 (by decide +kernel)
theorem dX11_use_88 : decode cX11_use 88 = .ok (.invokevirtual 277, 3) := dcU2 dO_182 (by decide +kernel)
theorem dX11_use_91 : decode cX11_use 91 = .ok (.invokevirtual 148, 3) := dcU2 dO_182 (by decide +kernel)
theorem dX11_use_94 : decode cX11_use 94 = .ok (.goto 12, 3) := dcS2 dO_167 (by decide +kernel)
theorem dX11_use_97 : decode cX11_use 97 = .ok (.aload_n 0, 1) := dc0 dO_42 (by decide +kernel)
theorem dX11_use_98 : decode cX11_use 98 = .ok (.getfield 51, 3) := dcU2 dO_180 (by decide +kernel)
theorem dX11_use_101 : decode cX11_use 101 = .ok (.iload_n 1, 1) := dc0 dO_27 (by decide +kernel)
theorem dX11_use_102 : decode cX11_use 102 = .ok (.iload_n 2, 1) := dc0 dO_28 (by decide +kernel)
theorem dX11_use_103 : decode cX11_use 103 = .ok (.invokevirtual 138, 3) := dcU2 dO_182 (by decide +kernel)
theorem dX11_use_106 : decode cX11_use 106 = .ok (.iconst 0, 1) := dc0 dO_3 (by decide +kernel)
theorem dX11_use_107 : decode cX11_use 107 = .ok (.ireturn, 1) := dc0 dO_172 (by decide +kernel)
theorem dX11_why_0 : decode cX11_why 0 = .ok (.aload_n 0, 1) := dc0 dO_42 (by decide +kernel)
theorem dX11_why_1 : decode cX11_why 1 = .ok (.iload_n 1, 1) := dc0 dO_27 (by decide +kernel)
theorem dX11_why_2 : decode cX11_why 2 = .ok (.invokevirtual 119, 3) := dcU2 dO_182 (by decide +kernel)
theorem dX11_why_5 : decode cX11_why 5 = .ok (.ifCond .eq 18, 3) := dcS2 dO_153 (by decide +kernel)
theorem dX11_why_8 : decode cX11_why 8 = .ok (.iload_n 2, 1) := dc0 dO_28 (by decide +kernel)
theorem dX11_why_9 : decode cX11_why 9 = .ok (.invokestatic 271, 3) := dcU2 dO_184 (by decide +kernel)
theorem dX11_why_12 : decode cX11_why 12 = .ok (.ifCond .eq 11, 3) := dcS2 dO_153 (by decide +kernel)
theorem dX11_why_15 : decode cX11_why 15 = .ok (.aload_n 0, 1) := dc0 dO_42 (by decide +kernel)
theorem dX11_why_16 : decode cX11_why 16 = .ok (.iload_n 3, 1) := dc0 dO_29 (by decide +kernel)
theorem dX11_why_17 : decode cX11_why 17 = .ok (.invokevirtual 182, 3) := dcU2 dO_182 (by decide +kernel)
theorem dX11_why_20 : decode cX11_why 20 = .ok (.ifCond .ne 5, 3) := dcS2 dO_154 (by decide +kernel)
theorem dX11_why_23 : decode cX11_why 23 = .ok (.iconst (-1), 1) := dc0 dO_2 (by decide +kernel)
theorem dX11_why_24 : decode cX11_why 24 = .ok (.ireturn, 1) := dc0 dO_172 (by decide +kernel)
theorem dX11_why_25 : decode cX11_why 25 = .ok (.aload_n 0, 1) := dc0 dO_42 (by decide +kernel)
theorem dX11_why_26 : decode cX11_why 26 = .ok (.getfield 51, 3) := dcU2 dO_180 (by decide +kernel)
theorem dX11_why_29 : decode cX11_why 29 = .ok (.iload_n 1, 1) := dc0 dO_27 (by decide +kernel)
theorem dX11_why_30 : decode cX11_why 30 = .ok (.iload_n 2, 1) := dc0 dO_28 (by decide +kernel)
theorem dX11_why_31 : decode cX11_why 31 = .ok (.iload_n 3, 1) := dc0 dO_29 (by decide +kernel)
theorem dX11_why_32 : decode cX11_why 32 = .ok (.invokevirtual 333, 3) := dcU2 dO_182 (by decide +kernel)
theorem dX11_why_35 : decode cX11_why 35 = .ok (.ireturn, 1) := dc0 dO_172 (by decide +kernel)
theorem dX11_withdraw_0 : decode cX11_withdraw 0 = .ok (.aload_n 0, 1) := dc0 dO_42 (by decide +kernel)
theorem dX11_withdraw_1 : decode cX11_withdraw 1 = .ok (.iload_n 1, 1) := dc0 dO_27 (by decide +kernel)
theorem dX11_withdraw_2 : decode cX11_withdraw 2 = .ok (.invokevirtual 105, 3) := dcU2 dO_182 (by decide +kernel)
theorem dX11_withdraw_5 : decode cX11_withdraw 5 = .ok (.ifCond .eq 11, 3) := dcS2 dO_153 (by decide +kernel)
theorem dX11_withdraw_8 : decode cX11_withdraw 8 = .ok (.aload_n 0, 1) := dc0 dO_42 (by decide +kernel)
theorem dX11_withdraw_9 : decode cX11_withdraw 9 = .ok (.iload_n 2, 1) := dc0 dO_28 (by decide +kernel)
theorem dX11_withdraw_10 : decode cX11_withdraw 10 = .ok (.invokevirtual 182, 3) := dcU2 dO_182 (by decide +kernel)
theorem dX11_withdraw_13 : decode cX11_withdraw 13 = .ok (.ifCond .ne 5, 3) := dcS2 dO_154 (by decide +kernel)
theorem dX11_withdraw_16 : decode cX11_withdraw 16 = .ok (.iconst (-1), 1) := dc0 dO_2 (by decide +kernel)
theorem dX11_withdraw_17 : decode cX11_withdraw 17 = .ok (.ireturn, 1) := dc0 dO_172 (by decide +kernel)
theorem dX11_withdraw_18 : decode cX11_withdraw 18 = .ok (.aload_n 0, 1) := dc0 dO_42 (by decide +kernel)
theorem dX11_withdraw_19 : decode cX11_withdraw 19 = .ok (.getfield 26, 3) := dcU2 dO_180 (by decide +kernel)
theorem dX11_withdraw_22 : decode cX11_withdraw 22 = .ok (.getfield 283, 3) := dcU2 dO_180 (by decide +kernel)
theorem dX11_withdraw_25 : decode cX11_withdraw 25 = .ok (.iload_n 1, 1) := dc0 dO_27 (by decide +kernel)
theorem dX11_withdraw_26 : decode cX11_withdraw 26 = .ok (.aaload, 1) := dc0 dO_50 (by decide +kernel)
theorem dX11_withdraw_27 : decode cX11_withdraw 27 = .ok (.getfield 293, 3) := dcU2 dO_180 (by decide +kernel)
theorem dX11_withdraw_30 : decode cX11_withdraw 30 = .ok (.iload_n 2, 1) := dc0 dO_28 (by decide +kernel)
theorem dX11_withdraw_31 : decode cX11_withdraw 31 = .ok (.iaload, 1) := dc0 dO_46 (by decide +kernel)
theorem dX11_withdraw_32 : decode cX11_withdraw 32 = .ok (.iconst (-1), 1) := dc0 dO_2 (by decide +kernel)
theorem dX11_withdraw_33 : decode cX11_withdraw 33 = .ok (.if_icmp .ne 6, 3) := dcS2 dO_160 (by decide +kernel)
theorem dX11_withdraw_36 : decode cX11_withdraw 36 = .ok (.bipush (-2), 2) := dcS1 dO_16 (by decide +kernel)
theorem dX11_withdraw_38 : decode cX11_withdraw 38 = .ok (.ireturn, 1) := dc0 dO_172 (by decide +kernel)
theorem dX11_withdraw_39 : decode cX11_withdraw 39 = .ok (.aload_n 0, 1) := dc0 dO_42 (by decide +kernel)
theorem dX11_withdraw_40 : decode cX11_withdraw 40 = .ok (.getfield 26, 3) := dcU2 dO_180 (by decide +kernel)
theorem dX11_withdraw_43 : decode cX11_withdraw 43 = .ok (.getfield 283, 3) := dcU2 dO_180 (by decide +kernel)
theorem dX11_withdraw_46 : decode cX11_withdraw 46 = .ok (.iload_n 1, 1) := dc0 dO_27 (by decide +kernel)
theorem dX11_withdraw_47 : decode cX11_withdraw 47 = .ok (.aaload, 1) := dc0 dO_50 (by decide +kernel)
theorem dX11_withdraw_48 : decode cX11_withdraw 48 = .ok (.getfield 293, 3) := dcU2 dO_180 (by decide +kernel)
theorem dX11_withdraw_51 : decode cX11_withdraw 51 = .ok (.iload_n 2, 1) := dc0 dO_28 (by decide +kernel)
theorem dX11_withdraw_52 : decode cX11_withdraw 52 = .ok (.iconst (-1), 1) := dc0 dO_2 (by decide +kernel)
theorem dX11_withdraw_53 : decode cX11_withdraw 53 = .ok (.iastore, 1) := dc0 dO_79 (by decide +kernel)
theorem dX11_withdraw_54 : decode cX11_withdraw 54 = .ok (.aload_n 0, 1) := dc0 dO_42 (by decide +kernel)
theorem dX11_withdraw_55 : decode cX11_withdraw 55 = .ok (.getfield 51, 3) := dcU2 dO_180 (by decide +kernel)
theorem dX11_withdraw_58 : decode cX11_withdraw 58 = .ok (.iload_n 1, 1) := dc0 dO_27 (by decide +kernel)
theorem dX11_withdraw_59 : decode cX11_withdraw 59 = .ok (.iload_n 2, 1) := dc0 dO_28 (by decide +kernel)
theorem dX11_withdraw_60 : decode cX11_withdraw 60 = .ok (.invokevirtual 296, 3) := dcU2 dO_182 (by decide +kernel)
theorem dX11_withdraw_63 : decode cX11_withdraw 63 = .ok (.iconst 0, 1) := dc0 dO_3 (by decide +kernel)
theorem dX11_withdraw_64 : decode cX11_withdraw 64 = .ok (.ireturn, 1) := dc0 dO_172 (by decide +kernel)
theorem dX2_partnerFor_0 : decode cX2_partnerFor 0 = .ok (.aload_n 0, 1) := dc0 dO_42 (by decide +kernel)
theorem dX2_partnerFor_1 : decode cX2_partnerFor 1 = .ok (.iload_n 1, 1) := dc0 dO_27 (by decide +kernel)
theorem dX2_partnerFor_2 : decode cX2_partnerFor 2 = .ok (.iload_n 2, 1) := dc0 dO_28 (by decide +kernel)
theorem dX2_partnerFor_3 : decode cX2_partnerFor 3 = .ok (.invokevirtual 60, 3) := dcU2 dO_182 (by decide +kernel)
theorem dX2_partnerFor_6 : decode cX2_partnerFor 6 = .ok (.istore_n 3, 1) := dc0 dO_62 (by decide +kernel)
theorem dX2_partnerFor_7 : decode cX2_partnerFor 7 = .ok (.iload_n 3, 1) := dc0 dO_29 (by decide +kernel)
theorem dX2_partnerFor_8 : decode cX2_partnerFor 8 = .ok (.ifCond .ge 5, 3) := dcS2 dO_156 (by decide +kernel)
theorem dX2_partnerFor_11 : decode cX2_partnerFor 11 = .ok (.iload_n 3, 1) := dc0 dO_29 (by decide +kernel)
theorem dX2_partnerFor_12 : decode cX2_partnerFor 12 = .ok (.ireturn, 1) := dc0 dO_172 (by decide +kernel)
theorem dX2_partnerFor_13 : decode cX2_partnerFor 13 = .ok (.aload_n 0, 1) := dc0 dO_42 (by decide +kernel)
theorem dX2_partnerFor_14 : decode cX2_partnerFor 14 = .ok (.getfield 9, 3) := dcU2 dO_180 (by decide +kernel)
theorem dX2_partnerFor_17 : decode cX2_partnerFor 17 = .ok (.getfield 64, 3) := dcU2 dO_180 (by decide +kernel)
theorem dX2_partnerFor_20 : decode cX2_partnerFor 20 = .ok (.iload_n 3, 1) := dc0 dO_29 (by decide +kernel)
theorem dX2_partnerFor_21 : decode cX2_partnerFor 21 = .ok (.aaload, 1) := dc0 dO_50 (by decide +kernel)
theorem dX2_partnerFor_22 : decode cX2_partnerFor 22 = .ok (.astore 4, 2) := dcU1 dO_58 (by decide +kernel)
theorem dX2_partnerFor_24 : decode cX2_partnerFor 24 = .ok (.aload 4, 2) := dcU1 dO_25 (by decide +kernel)
theorem dX2_partnerFor_26 : decode cX2_partnerFor 26 = .ok (.iconst 1, 1) := dc0 dO_4 (by decide +kernel)
theorem dX2_partnerFor_27 : decode cX2_partnerFor 27 = .ok (.aload 4, 2) := dcU1 dO_25 (by decide +kernel)
theorem dX2_partnerFor_29 : decode cX2_partnerFor 29 = .ok (.iload_n 1, 1) := dc0 dO_27 (by decide +kernel)
theorem dX2_partnerFor_30 : decode cX2_partnerFor 30 = .ok (.invokevirtual 68, 3) := dcU2 dO_182 (by decide +kernel)
theorem dX2_partnerFor_33 : decode cX2_partnerFor 33 = .ok (.isub, 1) := dc0 dO_100 (by decide +kernel)
theorem dX2_partnerFor_34 : decode cX2_partnerFor 34 = .ok (.invokevirtual 74, 3) := dcU2 dO_182 (by decide +kernel)
theorem dX2_partnerFor_37 : decode cX2_partnerFor 37 = .ok (.ireturn, 1) := dc0 dO_172 (by decide +kernel)
theorem dX2_send_0 : decode cX2_send 0 = .ok (.aload_n 0, 1) := dc0 dO_42 (by decide +kernel)
theorem dX2_send_1 : decode cX2_send 1 = .ok (.iload_n 1, 1) := dc0 dO_27 (by decide +kernel)
theorem dX2_send_2 : decode cX2_send 2 = .ok (.iload_n 2, 1) := dc0 dO_28 (by decide +kernel)
theorem dX2_send_3 : decode cX2_send 3 = .ok (.invokevirtual 83, 3) := dcU2 dO_182 (by decide +kernel)
theorem dX2_send_6 : decode cX2_send 6 = .ok (.istore_n 3, 1) := dc0 dO_62 (by decide +kernel)
theorem dX2_send_7 : decode cX2_send 7 = .ok (.aload_n 0, 1) := dc0 dO_42 (by decide +kernel)
theorem dX2_send_8 : decode cX2_send 8 = .ok (.getfield 15, 3) := dcU2 dO_180 (by decide +kernel)
theorem dX2_send_11 : decode cX2_send 11 = .ok (.iconst 0, 1) := dc0 dO_3 (by decide +kernel)
theorem dX2_send_12 : decode cX2_send 12 = .ok (.aload_n 0, 1) := dc0 dO_42 (by decide +kernel)
theorem dX2_send_13 : decode cX2_send 13 = .ok (.getfield 19, 3) := dcU2 dO_180 (by decide +kernel)
theorem dX2_send_16 : decode cX2_send 16 = .ok (.iconst 0, 1) := dc0 dO_3 (by decide +kernel)
theorem dX2_send_17 : decode cX2_send 17 = .ok (.aload_n 0, 1) := dc0 dO_42 (by decide +kernel)
theorem dX2_send_18 : decode cX2_send 18 = .ok (.getfield 77, 3) := dcU2 dO_180 (by decide +kernel)
theorem dX2_send_21 : decode cX2_send 21 = .ok (.invokestatic 86, 3) := dcU2 dO_184 (by decide +kernel)
theorem dX2_send_24 : decode cX2_send 24 = .ok (.aload_n 0, 1) := dc0 dO_42 (by decide +kernel)
theorem dX2_send_25 : decode cX2_send 25 = .ok (.aload_n 0, 1) := dc0 dO_42 (by decide +kernel)
theorem dX2_send_26 : decode cX2_send 26 = .ok (.getfield 77, 3) := dcU2 dO_180 (by decide +kernel)
theorem dX2_send_29 : decode cX2_send 29 = .ok (.putfield 92, 3) := dcU2 dO_181 (by decide +kernel)
theorem dX2_send_32 : decode cX2_send 32 = .ok (.iload_n 3, 1) := dc0 dO_29 (by decide +kernel)
theorem dX2_send_33 : decode cX2_send 33 = .ok (.ireturn, 1) := dc0 dO_172 (by decide +kernel)
theorem dX2_travel_0 : decode cX2_travel 0 = .ok (.aload_n 0, 1) := dc0 dO_42 (by decide +kernel)
theorem dX2_travel_1 : decode cX2_travel 1 = .ok (.getfield 15, 3) := dcU2 dO_180 (by decide +kernel)
theorem dX2_travel_4 : decode cX2_travel 4 = .ok (.iconst 0, 1) := dc0 dO_3 (by decide +kernel)
theorem dX2_travel_5 : decode cX2_travel 5 = .ok (.iload_n 1, 1) := dc0 dO_27 (by decide +kernel)
theorem dX2_travel_6 : decode cX2_travel 6 = .ok (.iastore, 1) := dc0 dO_79 (by decide +kernel)
theorem dX2_travel_7 : decode cX2_travel 7 = .ok (.aload_n 0, 1) := dc0 dO_42 (by decide +kernel)
theorem dX2_travel_8 : decode cX2_travel 8 = .ok (.iconst 1, 1) := dc0 dO_4 (by decide +kernel)
theorem dX2_travel_9 : decode cX2_travel 9 = .ok (.putfield 77, 3) := dcU2 dO_181 (by decide +kernel)
theorem dX2_travel_12 : decode cX2_travel 12 = .ok (.iconst 1, 1) := dc0 dO_4 (by decide +kernel)
theorem dX2_travel_13 : decode cX2_travel 13 = .ok (.iload_n 1, 1) := dc0 dO_27 (by decide +kernel)
theorem dX2_travel_14 : decode cX2_travel 14 = .ok (.ishl, 1) := dc0 dO_120 (by decide +kernel)
theorem dX2_travel_15 : decode cX2_travel 15 = .ok (.istore_n 3, 1) := dc0 dO_62 (by decide +kernel)
theorem dX2_travel_16 : decode cX2_travel 16 = .ok (.iconst 0, 1) := dc0 dO_3 (by decide +kernel)
theorem dX2_travel_17 : decode cX2_travel 17 = .ok (.istore 4, 2) := dcU1 dO_54 (by decide +kernel)
theorem dX2_travel_19 : decode cX2_travel 19 = .ok (.iload 4, 2) := dcU1 dO_21 (by decide +kernel)
theorem dX2_travel_21 : decode cX2_travel 21 = .ok (.bipush 10, 2) := dcS1 dO_16 (by decide +kernel)
theorem dX2_travel_23 : decode cX2_travel 23 = .ok (.if_icmp .ge 80, 3) := dcS2 dO_162 (by decide +kernel)
theorem dX2_travel_26 : decode cX2_travel 26 = .ok (.aload_n 0, 1) := dc0 dO_42 (by decide +kernel)
theorem dX2_travel_27 : decode cX2_travel 27 = .ok (.aload_n 0, 1) := dc0 dO_42 (by decide +kernel)
theorem dX2_travel_28 : decode cX2_travel 28 = .ok (.getfield 15, 3) := dcU2 dO_180 (by decide +kernel)
theorem dX2_travel_31 : decode cX2_travel 31 = .ok (.iload 4, 2) := dcU1 dO_21 (by decide +kernel)
theorem dX2_travel_33 : decode cX2_travel 33 = .ok (.iaload, 1) := dc0 dO_46 (by decide +kernel)
theorem dX2_travel_34 : decode cX2_travel 34 = .ok (.iload_n 2, 1) := dc0 dO_28 (by decide +kernel)
theorem dX2_travel_35 : decode cX2_travel 35 = .ok (.invokevirtual 80, 3) := dcU2 dO_182 (by decide +kernel)
theorem dX2_travel_38 : decode cX2_travel 38 = .ok (.istore 5, 2) := dcU1 dO_54 (by decide +kernel)
theorem dX2_travel_40 : decode cX2_travel 40 = .ok (.iload 5, 2) := dcU1 dO_21 (by decide +kernel)
theorem dX2_travel_42 : decode cX2_travel 42 = .ok (.ifCond .ge 16, 3) := dcS2 dO_156 (by decide +kernel)
theorem dX2_travel_45 : decode cX2_travel 45 = .ok (.iload 5, 2) := dcU1 dO_21 (by decide +kernel)
theorem dX2_travel_47 : decode cX2_travel 47 = .ok (.bipush (-4), 2) := dcS1 dO_16 (by decide +kernel)
theorem dX2_travel_49 : decode cX2_travel 49 = .ok (.if_icmp .ne 7, 3) := dcS2 dO_160 (by decide +kernel)
theorem dX2_travel_52 : decode cX2_travel 52 = .ok (.iconst 0, 1) := dc0 dO_3 (by decide +kernel)
theorem dX2_travel_53 : decode cX2_travel 53 = .ok (.goto 4, 3) := dcS2 dO_167 (by decide +kernel)
theorem dX2_travel_56 : decode cX2_travel 56 = .ok (.iconst 1, 1) := dc0 dO_4 (by decide +kernel)
theorem dX2_travel_57 : decode cX2_travel 57 = .ok (.ireturn, 1) := dc0 dO_172 (by decide +kernel)
theorem dX2_travel_58 : decode cX2_travel 58 = .ok (.aload_n 0, 1) := dc0 dO_42 (by decide +kernel)
theorem dX2_travel_59 : decode cX2_travel 59 = .ok (.getfield 15, 3) := dcU2 dO_180 (by decide +kernel)
theorem dX2_travel_62 : decode cX2_travel 62 = .ok (.aload_n 0, 1) := dc0 dO_42 (by decide +kernel)
theorem dX2_travel_63 : decode cX2_travel 63 = .ok (.getfield 77, 3) := dcU2 dO_180 (by decide +kernel)
theorem dX2_travel_66 : decode cX2_travel 66 = .ok (.iload 5, 2) := dcU1 dO_21 (by decide +kernel)
theorem dX2_travel_68 : decode cX2_travel 68 = .ok (.iastore, 1) := dc0 dO_79 (by decide +kernel)
theorem dX2_travel_69 : decode cX2_travel 69 = .ok (.aload_n 0, 1) := dc0 dO_42 (by decide +kernel)
theorem dX2_travel_70 : decode cX2_travel 70 = .ok (.dup, 1) := dc0 dO_89 (by decide +kernel)
theorem dX2_travel_71 : decode cX2_travel 71 = .ok (.getfield 77, 3) := dcU2 dO_180 (by decide +kernel)
theorem dX2_travel_74 : decode cX2_travel 74 = .ok (.iconst 1, 1) := dc0 dO_4 (by decide +kernel)
theorem dX2_travel_75 : decode cX2_travel 75 = .ok (.iadd, 1) := dc0 dO_96 (by decide +kernel)
theorem dX2_travel_76 : decode cX2_travel 76 = .ok (.putfield 77, 3) := dcU2 dO_181 (by decide +kernel)
theorem dX2_travel_79 : decode cX2_travel 79 = .ok (.iload_n 3, 1) := dc0 dO_29 (by decide +kernel)
theorem dX2_travel_80 : decode cX2_travel 80 = .ok (.iload 5, 2) := dcU1 dO_21 (by decide +kernel)
theorem dX2_travel_82 : decode cX2_travel 82 = .ok (.ishr, 1) := dc0 dO_122 (by decide +kernel)
theorem dX2_travel_83 : decode cX2_travel 83 = .ok (.iconst 1, 1) := dc0 dO_4 (by decide +kernel)
theorem dX2_travel_84 : decode cX2_travel 84 = .ok (.iand, 1) := dc0 dO_126 (by decide +kernel)
theorem dX2_travel_85 : decode cX2_travel 85 = .ok (.ifCond .eq 5, 3) := dcS2 dO_153 (by decide +kernel)
theorem dX2_travel_88 : decode cX2_travel 88 = .ok (.iconst 2, 1) := dc0 dO_5 (by decide +kernel)
theorem dX2_travel_89 : decode cX2_travel 89 = .ok (.ireturn, 1) := dc0 dO_172 (by decide +kernel)
theorem dX2_travel_90 : decode cX2_travel 90 = .ok (.iload_n 3, 1) := dc0 dO_29 (by decide +kernel)
theorem dX2_travel_91 : decode cX2_travel 91 = .ok (.iconst 1, 1) := dc0 dO_4 (by decide +kernel)
theorem dX2_travel_92 : decode cX2_travel 92 = .ok (.iload 5, 2) := dcU1 dO_21 (by decide +kernel)
theorem dX2_travel_94 : decode cX2_travel 94 = .ok (.ishl, 1) := dc0 dO_120 (by decide +kernel)
theorem dX2_travel_95 : decode cX2_travel 95 = .ok (.ior, 1) := dc0 dO_128 (by decide +kernel)
theorem dX2_travel_96 : decode cX2_travel 96 = .ok (.istore_n 3, 1) := dc0 dO_62 (by decide +kernel)
theorem dX2_travel_97 : decode cX2_travel 97 = .ok (.iinc 4 1, 3) := dcI dO_132 (by decide +kernel)
theorem dX2_travel_100 : decode cX2_travel 100 = .ok (.goto (-81), 3) := dcS2 dO_167 (by decide +kernel)
theorem dX2_travel_103 : decode cX2_travel 103 = .ok (.iconst 2, 1) := dc0 dO_5 (by decide +kernel)
theorem dX2_travel_104 : decode cX2_travel 104 = .ok (.ireturn, 1) := dc0 dO_172 (by decide +kernel)
theorem dX2_unitsOver_0 : decode cX2_unitsOver 0 = .ok (.iconst 0, 1) := dc0 dO_3 (by decide +kernel)
theorem dX2_unitsOver_1 : decode cX2_unitsOver 1 = .ok (.istore_n 3, 1) := dc0 dO_62 (by decide +kernel)
theorem dX2_unitsOver_2 : decode cX2_unitsOver 2 = .ok (.iconst 0, 1) := dc0 dO_3 (by decide +kernel)
theorem dX2_unitsOver_3 : decode cX2_unitsOver 3 = .ok (.istore 4, 2) := dcU1 dO_54 (by decide +kernel)
theorem dX2_unitsOver_5 : decode cX2_unitsOver 5 = .ok (.iload 4, 2) := dcU1 dO_21 (by decide +kernel)
theorem dX2_unitsOver_7 : decode cX2_unitsOver 7 = .ok (.aload_n 0, 1) := dc0 dO_42 (by decide +kernel)
theorem dX2_unitsOver_8 : decode cX2_unitsOver 8 = .ok (.getfield 95, 3) := dcU2 dO_180 (by decide +kernel)
theorem dX2_unitsOver_11 : decode cX2_unitsOver 11 = .ok (.if_icmp .ge 82, 3) := dcS2 dO_162 (by decide +kernel)
theorem dX2_unitsOver_14 : decode cX2_unitsOver 14 = .ok (.aload_n 0, 1) := dc0 dO_42 (by decide +kernel)
theorem dX2_unitsOver_15 : decode cX2_unitsOver 15 = .ok (.aload_n 0, 1) := dc0 dO_42 (by decide +kernel)
theorem dX2_unitsOver_16 : decode cX2_unitsOver 16 = .ok (.getfield 22, 3) := dcU2 dO_180 (by decide +kernel)
theorem dX2_unitsOver_19 : decode cX2_unitsOver 19 = .ok (.iload 4, 2) := dcU1 dO_21 (by decide +kernel)
theorem dX2_unitsOver_21 : decode cX2_unitsOver 21 = .ok (.iaload, 1) := dc0 dO_46 (by decide +kernel)
theorem dX2_unitsOver_22 : decode cX2_unitsOver 22 = .ok (.aload_n 0, 1) := dc0 dO_42 (by decide +kernel)
theorem dX2_unitsOver_23 : decode cX2_unitsOver 23 = .ok (.getfield 25, 3) := dcU2 dO_180 (by decide +kernel)
theorem dX2_unitsOver_26 : decode cX2_unitsOver 26 = .ok (.iload 4, 2) := dcU1 dO_21 (by decide +kernel)
theorem dX2_unitsOver_28 : decode cX2_unitsOver 28 = .ok (.iaload, 1) := dc0 dO_46 (by decide +kernel)
theorem dX2_unitsOver_29 : decode cX2_unitsOver 29 = .ok (.invokevirtual 83, 3) := dcU2 dO_182 (by decide +kernel)
theorem dX2_unitsOver_32 : decode cX2_unitsOver 32 = .ok (.pop, 1) := dc0 dO_87 (by decide +kernel)
theorem dX2_unitsOver_33 : decode cX2_unitsOver 33 = .ok (.iconst 0, 1) := dc0 dO_3 (by decide +kernel)
theorem dX2_unitsOver_34 : decode cX2_unitsOver 34 = .ok (.istore 5, 2) := dcU1 dO_54 (by decide +kernel)
theorem dX2_unitsOver_36 : decode cX2_unitsOver 36 = .ok (.iload 5, 2) := dcU1 dO_21 (by decide +kernel)
theorem dX2_unitsOver_38 : decode cX2_unitsOver 38 = .ok (.iconst 1, 1) := dc0 dO_4 (by decide +kernel)
theorem dX2_unitsOver_39 : decode cX2_unitsOver 39 = .ok (.iadd, 1) := dc0 dO_96 (by decide +kernel)
theorem dX2_unitsOver_40 : decode cX2_unitsOver 40 = .ok (.aload_n 0, 1) := dc0 dO_42 (by decide +kernel)
theorem dX2_unitsOver_41 : decode cX2_unitsOver 41 = .ok (.getfield 77, 3) := dcU2 dO_180 (by decide +kernel)
theorem dX2_unitsOver_44 : decode cX2_unitsOver 44 = .ok (.if_icmp .ge 43, 3) := dcS2 dO_162 (by decide +kernel)
theorem dX2_unitsOver_47 : decode cX2_unitsOver 47 = .ok (.aload_n 0, 1) := dc0 dO_42 (by decide +kernel)
theorem dX2_unitsOver_48 : decode cX2_unitsOver 48 = .ok (.getfield 15, 3) := dcU2 dO_180 (by decide +kernel)
theorem dX2_unitsOver_51 : decode cX2_unitsOver 51 = .ok (.iload 5, 2) := dcU1 dO_21 (by decide +kernel)
theorem dX2_unitsOver_53 : decode cX2_unitsOver 53 = .ok (.iaload, 1) := dc0 dO_46 (by decide +kernel)
theorem dX2_unitsOver_54 : decode cX2_unitsOver 54 = .ok (.iload_n 1, 1) := dc0 dO_27 (by decide +kernel)
theorem dX2_unitsOver_55 : decode cX2_unitsOver 55 = .ok (.if_icmp .ne 26, 3) := dcS2 dO_160 (by decide +kernel)
theorem dX2_unitsOver_58 : decode cX2_unitsOver 58 = .ok (.aload_n 0, 1) := dc0 dO_42 (by decide +kernel)
theorem dX2_unitsOver_59 : decode cX2_unitsOver 59 = .ok (.getfield 15, 3) := dcU2 dO_180 (by decide +kernel)
theorem dX2_unitsOver_62 : decode cX2_unitsOver 62 = .ok (.iload 5, 2) := dcU1 dO_21 (by decide +kernel)
theorem dX2_unitsOver_64 : decode cX2_unitsOver 64 = .ok (.iconst 1, 1) := dc0 dO_4 (by decide +kernel)
theorem dX2_unitsOver_65 : decode cX2_unitsOver 65 = .ok (.iadd, 1) := dc0 dO_96 (by decide +kernel)
theorem dX2_unitsOver_66 : decode cX2_unitsOver 66 = .ok (.iaload, 1) := dc0 dO_46 (by decide +kernel)
theorem dX2_unitsOver_67 : decode cX2_unitsOver 67 = .ok (.iload_n 2, 1) := dc0 dO_28 (by decide +kernel)
theorem dX2_unitsOver_68 : decode cX2_unitsOver 68 = .ok (.if_icmp .ne 13, 3) := dcS2 dO_160 (by decide +kernel)
theorem dX2_unitsOver_71 : decode cX2_unitsOver 71 = .ok (.iload_n 3, 1) := dc0 dO_29 (by decide +kernel)
theorem dX2_unitsOver_72 : decode cX2_unitsOver 72 = .ok (.aload_n 0, 1) := dc0 dO_42 (by decide +kernel)
theorem dX2_unitsOver_73 : decode cX2_unitsOver 73 = .ok (.getfield 28, 3) := dcU2 dO_180 (by decide +kernel)
theorem dX2_unitsOver_76 : decode cX2_unitsOver 76 = .ok (.iload 4, 2) := dcU1 dO_21 (by decide +kernel)
theorem dX2_unitsOver_78 : decode cX2_unitsOver 78 = .ok (.iaload, 1) := dc0 dO_46 (by decide +kernel)
theorem dX2_unitsOver_79 : decode cX2_unitsOver 79 = .ok (.iadd, 1) := dc0 dO_96 (by decide +kernel)
theorem dX2_unitsOver_80 : decode cX2_unitsOver 80 = .ok (.istore_n 3, 1) := dc0 dO_62 (by decide +kernel)
theorem dX2_unitsOver_81 : decode cX2_unitsOver 81 = .ok (.iinc 5 1, 3) := dcI dO_132 (by decide +kernel)
theorem dX2_unitsOver_84 : decode cX2_unitsOver 84 = .ok (.goto (-48), 3) := dcS2 dO_167 (by decide +kernel)
theorem dX2_unitsOver_87 : decode cX2_unitsOver 87 = .ok (.iinc 4 1, 3) := dcI dO_132 (by decide +kernel)
theorem dX2_unitsOver_90 : decode cX2_unitsOver 90 = .ok (.goto (-85), 3) := dcS2 dO_167 (by decide +kernel)
theorem dX2_unitsOver_93 : decode cX2_unitsOver 93 = .ok (.iload_n 3, 1) := dc0 dO_29 (by decide +kernel)
theorem dX2_unitsOver_94 : decode cX2_unitsOver 94 = .ok (.ireturn, 1) := dc0 dO_172 (by decide +kernel)
theorem dX2_unitsThat_0 : decode cX2_unitsThat 0 = .ok (.iconst 0, 1) := dc0 dO_3 (by decide +kernel)
theorem dX2_unitsThat_1 : decode cX2_unitsThat 1 = .ok (.istore_n 2, 1) := dc0 dO_61 (by decide +kernel)
theorem dX2_unitsThat_2 : decode cX2_unitsThat 2 = .ok (.iconst 0, 1) := dc0 dO_3 (by decide +kernel)
theorem dX2_unitsThat_3 : decode cX2_unitsThat 3 = .ok (.istore_n 3, 1) := dc0 dO_62 (by decide +kernel)
theorem dX2_unitsThat_4 : decode cX2_unitsThat 4 = .ok (.iload_n 3, 1) := dc0 dO_29 (by decide +kernel)
theorem dX2_unitsThat_5 : decode cX2_unitsThat 5 = .ok (.aload_n 0, 1) := dc0 dO_42 (by decide +kernel)
theorem dX2_unitsThat_6 : decode cX2_unitsThat 6 = .ok (.getfield 95, 3) := dcU2 dO_180 (by decide +kernel)
theorem dX2_unitsThat_9 : decode cX2_unitsThat 9 = .ok (.if_icmp .ge 38, 3) := dcS2 dO_162 (by decide +kernel)
theorem dX2_unitsThat_12 : decode cX2_unitsThat 12 = .ok (.aload_n 0, 1) := dc0 dO_42 (by decide +kernel)
theorem dX2_unitsThat_13 : decode cX2_unitsThat 13 = .ok (.aload_n 0, 1) := dc0 dO_42 (by decide +kernel)
theorem dX2_unitsThat_14 : decode cX2_unitsThat 14 = .ok (.getfield 22, 3) := dcU2 dO_180 (by decide +kernel)
theorem dX2_unitsThat_17 : decode cX2_unitsThat 17 = .ok (.iload_n 3, 1) := dc0 dO_29 (by decide +kernel)
theorem dX2_unitsThat_18 : decode cX2_unitsThat 18 = .ok (.iaload, 1) := dc0 dO_46 (by decide +kernel)
theorem dX2_unitsThat_19 : decode cX2_unitsThat 19 = .ok (.aload_n 0, 1) := dc0 dO_42 (by decide +kernel)
theorem dX2_unitsThat_20 : decode cX2_unitsThat 20 = .ok (.getfield 25, 3) := dcU2 dO_180 (by decide +kernel)
theorem dX2_unitsThat_23 : decode cX2_unitsThat 23 = .ok (.iload_n 3, 1) := dc0 dO_29 (by decide +kernel)
theorem dX2_unitsThat_24 : decode cX2_unitsThat 24 = .ok (.iaload, 1) := dc0 dO_46 (by decide +kernel)
theorem dX2_unitsThat_25 : decode cX2_unitsThat 25 = .ok (.invokevirtual 83, 3) := dcU2 dO_182 (by decide +kernel)
theorem dX2_unitsThat_28 : decode cX2_unitsThat 28 = .ok (.iload_n 1, 1) := dc0 dO_27 (by decide +kernel)
theorem dX2_unitsThat_29 : decode cX2_unitsThat 29 = .ok (.if_icmp .ne 12, 3) := dcS2 dO_160 (by decide +kernel)
theorem dX2_unitsThat_32 : decode cX2_unitsThat 32 = .ok (.iload_n 2, 1) := dc0 dO_28 (by decide +kernel)
theorem dX2_unitsThat_33 : decode cX2_unitsThat 33 = .ok (.aload_n 0, 1) := dc0 dO_42 (by decide +kernel)
theorem dX2_unitsThat_34 : decode cX2_unitsThat 34 = .ok (.getfield 28, 3) := dcU2 dO_180 (by decide +kernel)
theorem dX2_unitsThat_37 : decode cX2_unitsThat 37 = .ok (.iload_n 3, 1) := dc0 dO_29 (by decide +kernel)
theorem dX2_unitsThat_38 : decode cX2_unitsThat 38 = .ok (.iaload, 1) := dc0 dO_46 (by decide +kernel)
theorem dX2_unitsThat_39 : decode cX2_unitsThat 39 = .ok (.iadd, 1) := dc0 dO_96 (by decide +kernel)
theorem dX2_unitsThat_40 : decode cX2_unitsThat 40 = .ok (.istore_n 2, 1) := dc0 dO_61 (by decide +kernel)
theorem dX2_unitsThat_41 : decode cX2_unitsThat 41 = .ok (.iinc 3 1, 3) := dcI dO_132 (by decide +kernel)
theorem dX2_unitsThat_44 : decode cX2_unitsThat 44 = .ok (.goto (-40), 3) := dcS2 dO_167 (by decide +kernel)
theorem dX2_unitsThat_47 : decode cX2_unitsThat 47 = .ok (.iload_n 2, 1) := dc0 dO_28 (by decide +kernel)
theorem dX2_unitsThat_48 : decode cX2_unitsThat 48 = .ok (.ireturn, 1) := dc0 dO_172 (by decide +kernel)
theorem dX2_unlikeAddresses_0 : decode cX2_unlikeAddresses 0 = .ok (.aload_n 0, 1) := dc0 dO_42 (by decide +kernel)
theorem dX2_unlikeAddresses_1 : decode cX2_unlikeAddresses 1 = .ok (.invokevirtual 117, 3) := dcU2 dO_182 (by decide +kernel)
theorem dX2_unlikeAddresses_4 : decode cX2_unlikeAddresses 4 = .ok (.istore_n 3, 1) := dc0 dO_62 (by decide +kernel)
theorem dX2_unlikeAddresses_5 : decode cX2_unlikeAddresses 5 = .ok (.lconst 0, 1) := dc0 dO_9 (by decide +kernel)
theorem dX2_unlikeAddresses_6 : decode cX2_unlikeAddresses 6 = .ok (.lstore 4, 2) := dcU1 dO_55 (by decide +kernel)
theorem dX2_unlikeAddresses_8 : decode cX2_unlikeAddresses 8 = .ok (.iconst 0, 1) := dc0 dO_3 (by decide +kernel)
theorem dX2_unlikeAddresses_9 : decode cX2_unlikeAddresses 9 = .ok (.istore 6, 2) := dcU1 dO_54 (by decide +kernel)
theorem dX2_unlikeAddresses_11 : decode cX2_unlikeAddresses 11 = .ok (.iload 6, 2) := dcU1 dO_21 (by decide +kernel)
theorem dX2_unlikeAddresses_13 : decode cX2_unlikeAddresses 13 = .ok (.iconst 1, 1) := dc0 dO_4 (by decide +kernel)
theorem dX2_unlikeAddresses_14 : decode cX2_unlikeAddresses 14 = .ok (.iadd, 1) := dc0 dO_96 (by decide +kernel)
theorem dX2_unlikeAddresses_15 : decode cX2_unlikeAddresses 15 = .ok (.iload_n 3, 1) := dc0 dO_29 (by decide +kernel)
theorem dX2_unlikeAddresses_16 : decode cX2_unlikeAddresses 16 = .ok (.if_icmp .ge 58, 3) := dcS2 dO_162 (by decide +kernel)
theorem dX2_unlikeAddresses_19 : decode cX2_unlikeAddresses 19 = .ok (.aload_n 0, 1) := dc0 dO_42 (by decide +kernel)
theorem dX2_unlikeAddresses_20 : decode cX2_unlikeAddresses 20 = .ok (.getfield 31, 3) := dcU2 dO_180 (by decide +kernel)
theorem dX2_unlikeAddresses_23 : decode cX2_unlikeAddresses 23 = .ok (.iload 6, 2) := dcU1 dO_21 (by decide +kernel)
theorem dX2_unlikeAddresses_25 : decode cX2_unlikeAddresses 25 = .ok (.laload, 1) := dc0 dO_47 (by decide +kernel)
theorem dX2_unlikeAddresses_26 : decode cX2_unlikeAddresses 26 = .ok (.l2i, 1) := dc0 dO_136 (by decide +kernel)
theorem dX2_unlikeAddresses_27 : decode cX2_unlikeAddresses 27 = .ok (.istore 7, 2) := dcU1 dO_54 (by decide +kernel)
theorem dX2_unlikeAddresses_29 : decode cX2_unlikeAddresses 29 = .ok (.aload_n 0, 1) := dc0 dO_42 (by decide +kernel)
theorem dX2_unlikeAddresses_30 : decode cX2_unlikeAddresses 30 = .ok (.iload_n 1, 1) := dc0 dO_27 (by decide +kernel)
theorem dX2_unlikeAddresses_31 : decode cX2_unlikeAddresses 31 = .ok (.iload 7, 2) := dcU1 dO_21 (by decide +kernel)
theorem dX2_unlikeAddresses_33 : decode cX2_unlikeAddresses 33 = .ok (.invokevirtual 80, 3) := dcU2 dO_182 (by decide +kernel)
theorem dX2_unlikeAddresses_36 : decode cX2_unlikeAddresses 36 = .ok (.aload_n 0, 1) := dc0 dO_42 (by decide +kernel)
theorem dX2_unlikeAddresses_37 : decode cX2_unlikeAddresses 37 = .ok (.iload_n 2, 1) := dc0 dO_28 (by decide +kernel)
theorem dX2_unlikeAddresses_38 : decode cX2_unlikeAddresses 38 = .ok (.iload 7, 2) := dcU1 dO_21 (by decide +kernel)
theorem dX2_unlikeAddresses_40 : decode cX2_unlikeAddresses 40 = .ok (.invokevirtual 80, 3) := dcU2 dO_182 (by decide +kernel)
theorem dX2_unlikeAddresses_43 : decode cX2_unlikeAddresses 43 = .ok (.if_icmp .eq 25, 3) := dcS2 dO_159 (by decide +kernel)
theorem dX2_unlikeAddresses_46 : decode cX2_unlikeAddresses 46 = .ok (.lload 4, 2) := dcU1 dO_22 (by decide +kernel)
theorem dX2_unlikeAddresses_48 : decode cX2_unlikeAddresses 48 = .ok (.aload_n 0, 1) := dc0 dO_42 (by decide +kernel)
theorem dX2_unlikeAddresses_49 : decode cX2_unlikeAddresses 49 = .ok (.getfield 31, 3) := dcU2 dO_180 (by decide +kernel)
theorem dX2_unlikeAddresses_52 : decode cX2_unlikeAddresses 52 = .ok (.iload 6, 2) := dcU1 dO_21 (by decide +kernel)
theorem dX2_unlikeAddresses_54 : decode cX2_unlikeAddresses 54 = .ok (.iconst 1, 1) := dc0 dO_4 (by decide +kernel)
theorem dX2_unlikeAddresses_55 : decode cX2_unlikeAddresses 55 = .ok (.iadd, 1) := dc0 dO_96 (by decide +kernel)
theorem dX2_unlikeAddresses_56 : decode cX2_unlikeAddresses 56 = .ok (.laload, 1) := dc0 dO_47 (by decide +kernel)
theorem dX2_unlikeAddresses_57 : decode cX2_unlikeAddresses 57 = .ok (.aload_n 0, 1) := dc0 dO_42 (by decide +kernel)
theorem dX2_unlikeAddresses_58 : decode cX2_unlikeAddresses 58 = .ok (.getfield 31, 3) := dcU2 dO_180 (by decide +kernel)
theorem dX2_unlikeAddresses_61 : decode cX2_unlikeAddresses 61 = .ok (.iload 6, 2) := dcU1 dO_21 (by decide +kernel)
theorem dX2_unlikeAddresses_63 : decode cX2_unlikeAddresses 63 = .ok (.laload, 1) := dc0 dO_47 (by decide +kernel)
theorem dX2_unlikeAddresses_64 : decode cX2_unlikeAddresses 64 = .ok (.lsub, 1) := dc0 dO_101 (by decide +kernel)
theorem dX2_unlikeAddresses_65 : decode cX2_unlikeAddresses 65 = .ok (.ladd, 1) := dc0 dO_97 (by decide +kernel)
theorem dX2_unlikeAddresses_66 : decode cX2_unlikeAddresses 66 = .ok (.lstore 4, 2) := dcU1 dO_55 (by decide +kernel)
theorem dX2_unlikeAddresses_68 : decode cX2_unlikeAddresses 68 = .ok (.iinc 6 1, 3) := dcI dO_132 (by decide +kernel)
theorem dX2_unlikeAddresses_71 : decode cX2_unlikeAddresses 71 = .ok (.goto (-60), 3) := dcS2 dO_167 (by decide +kernel)
theorem dX2_unlikeAddresses_74 : decode cX2_unlikeAddresses 74 = .ok (.lload 4, 2) := dcU1 dO_22 (by decide +kernel)
theorem dX2_unlikeAddresses_76 : decode cX2_unlikeAddresses 76 = .ok (.lreturn, 1) := dc0 dO_173 (by decide +kernel)
theorem dX3_fourAt_0 : decode cX3_fourAt 0 = .ok (.aload_n 0, 1) := dc0 dO_42 (by decide +kernel)
theorem dX3_fourAt_1 : decode cX3_fourAt 1 = .ok (.iload_n 1, 1) := dc0 dO_27 (by decide +kernel)
theorem dX3_fourAt_2 : decode cX3_fourAt 2 = .ok (.invokevirtual 88, 3) := dcU2 dO_182 (by decide +kernel)
theorem dX3_fourAt_5 : decode cX3_fourAt 5 = .ok (.bipush 16, 2) := dcS1 dO_16 (by decide +kernel)
theorem dX3_fourAt_7 : decode cX3_fourAt 7 = .ok (.ishl, 1) := dc0 dO_120 (by decide +kernel)
theorem dX3_fourAt_8 : decode cX3_fourAt 8 = .ok (.aload_n 0, 1) := dc0 dO_42 (by decide +kernel)
theorem dX3_fourAt_9 : decode cX3_fourAt 9 = .ok (.iload_n 1, 1) := dc0 dO_27 (by decide +kernel)
theorem dX3_fourAt_10 : decode cX3_fourAt 10 = .ok (.iconst 2, 1) := dc0 dO_5 (by decide +kernel)
theorem dX3_fourAt_11 : decode cX3_fourAt 11 = .ok (.iadd, 1) := dc0 dO_96 (by decide +kernel)
theorem dX3_fourAt_12 : decode cX3_fourAt 12 = .ok (.invokevirtual 88, 3) := dcU2 dO_182 (by decide +kernel)
theorem dX3_fourAt_15 : decode cX3_fourAt 15 = .ok (.ior, 1) := dc0 dO_128 (by decide +kernel)
theorem dX3_fourAt_16 : decode cX3_fourAt 16 = .ok (.ireturn, 1) := dc0 dO_172 (by decide +kernel)
theorem dX3_pairAt_0 : decode cX3_pairAt 0 = .ok (.aload_n 0, 1) := dc0 dO_42 (by decide +kernel)
theorem dX3_pairAt_1 : decode cX3_pairAt 1 = .ok (.getfield 41, 3) := dcU2 dO_180 (by decide +kernel)
theorem dX3_pairAt_4 : decode cX3_pairAt 4 = .ok (.iload_n 1, 1) := dc0 dO_27 (by decide +kernel)
theorem dX3_pairAt_5 : decode cX3_pairAt 5 = .ok (.iaload, 1) := dc0 dO_46 (by decide +kernel)
theorem dX3_pairAt_6 : decode cX3_pairAt 6 = .ok (.bipush 8, 2) := dcS1 dO_16 (by decide +kernel)
theorem dX3_pairAt_8 : decode cX3_pairAt 8 = .ok (.ishl, 1) := dc0 dO_120 (by decide +kernel)
theorem dX3_pairAt_9 : decode cX3_pairAt 9 = .ok (.aload_n 0, 1) := dc0 dO_42 (by decide +kernel)
theorem dX3_pairAt_10 : decode cX3_pairAt 10 = .ok (.getfield 41, 3) := dcU2 dO_180 (by decide +kernel)
theorem dX3_pairAt_13 : decode cX3_pairAt 13 = .ok (.iload_n 1, 1) := dc0 dO_27 (by decide +kernel)
theorem dX3_pairAt_14 : decode cX3_pairAt 14 = .ok (.iconst 1, 1) := dc0 dO_4 (by decide +kernel)
theorem dX3_pairAt_15 : decode cX3_pairAt 15 = .ok (.iadd, 1) := dc0 dO_96 (by decide +kernel)
theorem dX3_pairAt_16 : decode cX3_pairAt 16 = .ok (.iaload, 1) := dc0 dO_46 (by decide +kernel)
theorem dX3_pairAt_17 : decode cX3_pairAt 17 = .ok (.ior, 1) := dc0 dO_128 (by decide +kernel)
theorem dX3_pairAt_18 : decode cX3_pairAt 18 = .ok (.ireturn, 1) := dc0 dO_172 (by decide +kernel)
theorem dX3_readCost_0 : decode cX3_readCost 0 = .ok (.iload_n 2, 1) := dc0 dO_28 (by decide +kernel)
theorem dX3_readCost_1 : decode cX3_readCost 1 = .ok (.iconst 4, 1) := dc0 dO_7 (by decide +kernel)
theorem dX3_readCost_2 : decode cX3_readCost 2 = .ok (.if_icmp .eq 5, 3) := dcS2 dO_159 (by decide +kernel)
theorem dX3_readCost_5 : decode cX3_readCost 5 = .ok (.iconst 0, 1) := dc0 dO_3 (by decide +kernel)
theorem dX3_readCost_6 : decode cX3_readCost 6 = .ok (.ireturn, 1) := dc0 dO_172 (by decide +kernel)
theorem dX3_readCost_7 : decode cX3_readCost 7 = .ok (.aload_n 0, 1) := dc0 dO_42 (by decide +kernel)
theorem dX3_readCost_8 : decode cX3_readCost 8 = .ok (.iload_n 1, 1) := dc0 dO_27 (by decide +kernel)
theorem dX3_readCost_9 : decode cX3_readCost 9 = .ok (.invokevirtual 130, 3) := dcU2 dO_182 (by decide +kernel)
theorem dX3_readCost_12 : decode cX3_readCost 12 = .ok (.istore_n 3, 1) := dc0 dO_62 (by decide +kernel)
theorem dX3_readCost_13 : decode cX3_readCost 13 = .ok (.aload_n 0, 1) := dc0 dO_42 (by decide +kernel)
theorem dX3_readCost_14 : decode cX3_readCost 14 = .ok (.getfield 28, 3) := dcU2 dO_180 (by decide +kernel)
theorem dX3_readCost_17 : decode cX3_readCost 17 = .ok (.iload_n 3, 1) := dc0 dO_29 (by decide +kernel)
theorem dX3_readCost_18 : decode cX3_readCost 18 = .ok (.ifCond .lt 9, 3) := dcS2 dO_155 (by decide +kernel)
theorem dX3_readCost_21 : decode cX3_readCost 21 = .ok (.iload_n 3, 1) := dc0 dO_29 (by decide +kernel)
theorem dX3_readCost_22 : decode cX3_readCost 22 = .ok (.ldc 133, 2) := dcU1 dO_18 (by decide +kernel)
theorem dX3_readCost_24 : decode cX3_readCost 24 = .ok (.if_icmp .le 8, 3) := dcS2 dO_164 (by decide +kernel)
theorem dX3_readCost_27 : decode cX3_readCost 27 = .ok (.ldc 133, 2) := dcU1 dO_18 (by decide +kernel)
theorem dX3_readCost_29 : decode cX3_readCost 29 = .ok (.goto 4, 3) := dcS2 dO_167 (by decide +kernel)
theorem dX3_readCost_32 : decode cX3_readCost 32 = .ok (.iload_n 3, 1) := dc0 dO_29 (by decide +kernel)
theorem dX3_readCost_33 : decode cX3_readCost 33 = .ok (.putfield 134, 3) := dcU2 dO_181 (by decide +kernel)
theorem dX3_readCost_36 : decode cX3_readCost 36 = .ok (.iconst 1, 1) := dc0 dO_4 (by decide +kernel)
theorem dX3_readCost_37 : decode cX3_readCost 37 = .ok (.ireturn, 1) := dc0 dO_172 (by decide +kernel)
theorem dX3_readMarks_0 : decode cX3_readMarks 0 = .ok (.iload_n 2, 1) := dc0 dO_28 (by decide +kernel)
theorem dX3_readMarks_1 : decode cX3_readMarks 1 = .ok (.iconst 4, 1) := dc0 dO_7 (by decide +kernel)
theorem dX3_readMarks_2 : decode cX3_readMarks 2 = .ok (.irem, 1) := dc0 dO_112 (by decide +kernel)
theorem dX3_readMarks_3 : decode cX3_readMarks 3 = .ok (.ifCond .eq 5, 3) := dcS2 dO_153 (by decide +kernel)
theorem dX3_readMarks_6 : decode cX3_readMarks 6 = .ok (.iconst 0, 1) := dc0 dO_3 (by decide +kernel)
theorem dX3_readMarks_7 : decode cX3_readMarks 7 = .ok (.ireturn, 1) := dc0 dO_172 (by decide +kernel)
theorem dX3_readMarks_8 : decode cX3_readMarks 8 = .ok (.iload_n 1, 1) := dc0 dO_27 (by decide +kernel)
theorem dX3_readMarks_9 : decode cX3_readMarks 9 = .ok (.istore_n 3, 1) := dc0 dO_62 (by decide +kernel)
theorem dX3_readMarks_10 : decode cX3_readMarks 10 = .ok (.iload_n 3, 1) := dc0 dO_29 (by decide +kernel)
theorem dX3_readMarks_11 : decode cX3_readMarks 11 = .ok (.iload_n 1, 1) := dc0 dO_27 (by decide +kernel)
theorem dX3_readMarks_12 : decode cX3_readMarks 12 = .ok (.iload_n 2, 1) := dc0 dO_28 (by decide +kernel)
theorem dX3_readMarks_13 : decode cX3_readMarks 13 = .ok (.iadd, 1) := dc0 dO_96 (by decide +kernel)
theorem dX3_readMarks_14 : decode cX3_readMarks 14 = .ok (.if_icmp .ge 20, 3) := dcS2 dO_162 (by decide +kernel)
theorem dX3_readMarks_17 : decode cX3_readMarks 17 = .ok (.aload_n 0, 1) := dc0 dO_42 (by decide +kernel)
theorem dX3_readMarks_18 : decode cX3_readMarks 18 = .ok (.aload_n 0, 1) := dc0 dO_42 (by decide +kernel)
theorem dX3_readMarks_19 : decode cX3_readMarks 19 = .ok (.iload_n 3, 1) := dc0 dO_29 (by decide +kernel)
theorem dX3_readMarks_20 : decode cX3_readMarks 20 = .ok (.iconst 2, 1) := dc0 dO_5 (by decide +kernel)
theorem dX3_readMarks_21 : decode cX3_readMarks 21 = .ok (.iadd, 1) := dc0 dO_96 (by decide +kernel)
theorem dX3_readMarks_22 : decode cX3_readMarks 22 = .ok (.invokevirtual 88, 3) := dcU2 dO_182 (by decide +kernel)
theorem dX3_readMarks_25 : decode cX3_readMarks 25 = .ok (.invokevirtual 137, 3) := dcU2 dO_182 (by decide +kernel)
theorem dX3_readMarks_28 : decode cX3_readMarks 28 = .ok (.iinc 3 4, 3) := dcI dO_132 (by decide +kernel)
theorem dX3_readMarks_31 : decode cX3_readMarks 31 = .ok (.goto (-21), 3) := dcS2 dO_167 (by decide +kernel)
theorem dX3_readMarks_34 : decode cX3_readMarks 34 = .ok (.iconst 1, 1) := dc0 dO_4 (by decide +kernel)
theorem dX3_readMarks_35 : decode cX3_readMarks 35 = .ok (.ireturn, 1) := dc0 dO_172 (by decide +kernel)
theorem dX3_readOrigin_0 : decode cX3_readOrigin 0 = .ok (.iload_n 2, 1) := dc0 dO_28 (by decide +kernel)
theorem dX3_readOrigin_1 : decode cX3_readOrigin 1 = .ok (.iconst 1, 1) := dc0 dO_4 (by decide +kernel)
theorem dX3_readOrigin_2 : decode cX3_readOrigin 2 = .ok (.if_icmp .ne 13, 3) := dcS2 dO_160 (by decide +kernel)
theorem dX3_readOrigin_5 : decode cX3_readOrigin 5 = .ok (.aload_n 0, 1) := dc0 dO_42 (by decide +kernel)
theorem dX3_readOrigin_6 : decode cX3_readOrigin 6 = .ok (.getfield 41, 3) := dcU2 dO_180 (by decide +kernel)
theorem dX3_readOrigin_9 : decode cX3_readOrigin 9 = .ok (.iload_n 1, 1) := dc0 dO_27 (by decide +kernel)
theorem dX3_readOrigin_10 : decode cX3_readOrigin 10 = .ok (.iaload, 1) := dc0 dO_46 (by decide +kernel)
theorem dX3_readOrigin_11 : decode cX3_readOrigin 11 = .ok (.iconst 2, 1) := dc0 dO_5 (by decide +kernel)
theorem dX3_readOrigin_12 : decode cX3_readOrigin 12 = .ok (.if_icmp .le 5, 3) := dcS2 dO_164 (by decide +kernel)
theorem dX3_readOrigin_15 : decode cX3_readOrigin 15 = .ok (.iconst 0, 1) := dc0 dO_3 (by decide +kernel)
theorem dX3_readOrigin_16 : decode cX3_readOrigin 16 = .ok (.ireturn, 1) := dc0 dO_172 (by decide +kernel)
theorem dX3_readOrigin_17 : decode cX3_readOrigin 17 = .ok (.aload_n 0, 1) := dc0 dO_42 (by decide +kernel)
theorem dX3_readOrigin_18 : decode cX3_readOrigin 18 = .ok (.getfield 28, 3) := dcU2 dO_180 (by decide +kernel)
theorem dX3_readOrigin_21 : decode cX3_readOrigin 21 = .ok (.aload_n 0, 1) := dc0 dO_42 (by decide +kernel)
theorem dX3_readOrigin_22 : decode cX3_readOrigin 22 = .ok (.getfield 41, 3) := dcU2 dO_180 (by decide +kernel)
theorem dX3_readOrigin_25 : decode cX3_readOrigin 25 = .ok (.iload_n 1, 1) := dc0 dO_27 (by decide +kernel)
theorem dX3_readOrigin_26 : decode cX3_readOrigin 26 = .ok (.iaload, 1) := dc0 dO_46 (by decide +kernel)
theorem dX3_readOrigin_27 : decode cX3_readOrigin 27 = .ok (.putfield 127, 3) := dcU2 dO_181 (by decide +kernel)
theorem dX3_readOrigin_30 : decode cX3_readOrigin 30 = .ok (.iconst 1, 1) := dc0 dO_4 (by decide +kernel)
theorem dX3_readOrigin_31 : decode cX3_readOrigin 31 = .ok (.ireturn, 1) := dc0 dO_172 (by decide +kernel)
theorem dX3_readPrefixes_0 : decode cX3_readPrefixes 0 = .ok (.iload_n 1, 1) := dc0 dO_27 (by decide +kernel)
theorem dX3_readPrefixes_1 : decode cX3_readPrefixes 1 = .ok (.istore 4, 2) := dcU1 dO_54 (by decide +kernel)
theorem dX3_readPrefixes_3 : decode cX3_readPrefixes 3 = .ok (.iconst 0, 1) := dc0 dO_3 (by decide +kernel)
theorem dX3_readPrefixes_4 : decode cX3_readPrefixes 4 = .ok (.istore 5, 2) := dcU1 dO_54 (by decide +kernel)
theorem dX3_readPrefixes_6 : decode cX3_readPrefixes 6 = .ok (.iload 4, 2) := dcU1 dO_21 (by decide +kernel)
theorem dX3_readPrefixes_8 : decode cX3_readPrefixes 8 = .ok (.iload_n 2, 1) := dc0 dO_28 (by decide +kernel)
theorem dX3_readPrefixes_9 : decode cX3_readPrefixes 9 = .ok (.if_icmp .ge 148, 3) := dcS2 dO_162 (by decide +kernel)
theorem dX3_readPrefixes_12 : decode cX3_readPrefixes 12 = .ok (.aload_n 0, 1) := dc0 dO_42 (by decide +kernel)
theorem dX3_readPrefixes_13 : decode cX3_readPrefixes 13 = .ok (.getfield 41, 3) := dcU2 dO_180 (by decide +kernel)
theorem dX3_readPrefixes_16 : decode cX3_readPrefixes 16 = .ok (.iload 4, 2) := dcU1 dO_21 (by decide +kernel)
theorem dX3_readPrefixes_18 : decode cX3_readPrefixes 18 = .ok (.iaload, 1) := dc0 dO_46 (by decide +kernel)
theorem dX3_readPrefixes_19 : decode cX3_readPrefixes 19 = .ok (.istore 6, 2) := dcU1 dO_54 (by decide +kernel)
theorem dX3_readPrefixes_21 : decode cX3_readPrefixes 21 = .ok (.iload 6, 2) := dcU1 dO_21 (by decide +kernel)
theorem dX3_readPrefixes_23 : decode cX3_readPrefixes 23 = .ok (.bipush 7, 2) := dcS1 dO_16 (by decide +kernel)
theorem dX3_readPrefixes_25 : decode cX3_readPrefixes 25 = .ok (.iadd, 1) := dc0 dO_96 (by decide +kernel)
theorem dX3_readPrefixes_26 : decode cX3_readPrefixes 26 = .ok (.bipush 8, 2) := dcS1 dO_16 (by decide +kernel)
theorem dX3_readPrefixes_28 : decode cX3_readPrefixes 28 = .ok (.idiv, 1) := dc0 dO_108 (by decide +kernel)
theorem dX3_readPrefixes_29 : decode cX3_readPrefixes 29 = .ok (.istore 7, 2) := dcU1 dO_54 (by decide +kernel)
theorem dX3_readPrefixes_31 : decode cX3_readPrefixes 31 = .ok (.iload 6, 2) := dcU1 dO_21 (by decide +kernel)
theorem dX3_readPrefixes_33 : decode cX3_readPrefixes 33 = .ok (.bipush 32, 2) := dcS1 dO_16 (by decide +kernel)
theorem dX3_readPrefixes_35 : decode cX3_readPrefixes 35 = .ok (.if_icmp .gt 24, 3) := dcS2 dO_163 (by decide +kernel)
theorem dX3_readPrefixes_38 : decode cX3_readPrefixes 38 = .ok (.iload 4, 2) := dcU1 dO_21 (by decide +kernel)
theorem dX3_readPrefixes_40 : decode cX3_readPrefixes 40 = .ok (.iconst 1, 1) := dc0 dO_4 (by decide +kernel)
theorem dX3_readPrefixes_41 : decode cX3_readPrefixes 41 = .ok (.iadd, 1) := dc0 dO_96 (by decide +kernel)
theorem dX3_readPrefixes_42 : decode cX3_readPrefixes 42 = .ok (.iload 7, 2) := dcU1 dO_21 (by decide +kernel)
theorem dX3_readPrefixes_44 : decode cX3_readPrefixes 44 = .ok (.iadd, 1) := dc0 dO_96 (by decide +kernel)
theorem dX3_readPrefixes_45 : decode cX3_readPrefixes 45 = .ok (.iload_n 2, 1) := dc0 dO_28 (by decide +kernel)
theorem dX3_readPrefixes_46 : decode cX3_readPrefixes 46 = .ok (.if_icmp .gt 13, 3) := dcS2 dO_163 (by decide +kernel)
theorem dX3_readPrefixes_49 : decode cX3_readPrefixes 49 = .ok (.iload_n 3, 1) := dc0 dO_29 (by decide +kernel)
theorem dX3_readPrefixes_50 : decode cX3_readPrefixes 50 = .ok (.iload 5, 2) := dcU1 dO_21 (by decide +kernel)
theorem dX3_readPrefixes_52 : decode cX3_readPrefixes 52 = .ok (.iadd, 1) := dc0 dO_96 (by decide +kernel)
theorem dX3_readPrefixes_53 : decode cX3_readPrefixes 53 = .ok (.sipush 1000, 3) := dcS2 dO_17 (by decide +kernel)
theorem dX3_readPrefixes_56 : decode cX3_readPrefixes 56 = .ok (.if_icmp .lt 13, 3) := dcS2 dO_161 (by decide +kernel)
theorem dX3_readPrefixes_59 : decode cX3_readPrefixes 59 = .ok (.aload_n 0, 1) := dc0 dO_42 (by decide +kernel)
theorem dX3_readPrefixes_60 : decode cX3_readPrefixes 60 = .ok (.iconst 1, 1) := dc0 dO_4 (by decide +kernel)
theorem dX3_readPrefixes_61 : decode cX3_readPrefixes 61 = .ok (.iload 4, 2) := dcU1 dO_21 (by decide +kernel)
theorem dX3_readPrefixes_63 : decode cX3_readPrefixes 63 = .ok (.invokevirtual 92, 3) := dcU2 dO_182 (by decide +kernel)
theorem dX3_readPrefixes_66 : decode cX3_readPrefixes 66 = .ok (.iload 5, 2) := dcU1 dO_21 (by decide +kernel)
theorem dX3_readPrefixes_68 : decode cX3_readPrefixes 68 = .ok (.ireturn, 1) := dc0 dO_172 (by decide +kernel)
theorem dX3_readPrefixes_69 : decode cX3_readPrefixes 69 = .ok (.iconst 0, 1) := dc0 dO_3 (by decide +kernel)
theorem dX3_readPrefixes_70 : decode cX3_readPrefixes 70 = .ok (.istore 8, 2) := dcU1 dO_54 (by decide +kernel)
theorem dX3_readPrefixes_72 : decode cX3_readPrefixes 72 = .ok (.iconst 0, 1) := dc0 dO_3 (by decide +kernel)
theorem dX3_readPrefixes_73 : decode cX3_readPrefixes 73 = .ok (.istore 9, 2) := dcU1 dO_54 (by decide +kernel)
theorem dX3_readPrefixes_75 : decode cX3_readPrefixes 75 = .ok (.iload 9, 2) := dcU1 dO_21 (by decide +kernel)
theorem dX3_readPrefixes_77 : decode cX3_readPrefixes 77 = .ok (.iload 7, 2) := dcU1 dO_21 (by decide +kernel)
theorem dX3_readPrefixes_79 : decode cX3_readPrefixes 79 = .ok (.if_icmp .ge 35, 3) := dcS2 dO_162 (by decide +kernel)
theorem dX3_readPrefixes_82 : decode cX3_readPrefixes 82 = .ok (.iload 8, 2) := dcU1 dO_21 (by decide +kernel)
theorem dX3_readPrefixes_84 : decode cX3_readPrefixes 84 = .ok (.aload_n 0, 1) := dc0 dO_42 (by decide +kernel)
theorem dX3_readPrefixes_85 : decode cX3_readPrefixes 85 = .ok (.getfield 41, 3) := dcU2 dO_180 (by decide +kernel)
theorem dX3_readPrefixes_88 : decode cX3_readPrefixes 88 = .ok (.iload 4, 2) := dcU1 dO_21 (by decide +kernel)
theorem dX3_readPrefixes_90 : decode cX3_readPrefixes 90 = .ok (.iconst 1, 1) := dc0 dO_4 (by decide +kernel)
theorem dX3_readPrefixes_91 : decode cX3_readPrefixes 91 = .ok (.iadd, 1) := dc0 dO_96 (by decide +kernel)
theorem dX3_readPrefixes_92 : decode cX3_readPrefixes 92 = .ok (.iload 9, 2) := dcU1 dO_21 (by decide +kernel)
theorem dX3_readPrefixes_94 : decode cX3_readPrefixes 94 = .ok (.iadd, 1) := dc0 dO_96 (by decide +kernel)
theorem dX3_readPrefixes_95 : decode cX3_readPrefixes 95 = .ok (.iaload, 1) := dc0 dO_46 (by decide +kernel)
theorem dX3_readPrefixes_96 : decode cX3_readPrefixes 96 = .ok (.bipush 24, 2) := dcS1 dO_16 (by decide +kernel)
theorem dX3_readPrefixes_98 : decode cX3_readPrefixes 98 = .ok (.bipush 8, 2) := dcS1 dO_16 (by decide +kernel)
theorem dX3_readPrefixes_100 : decode cX3_readPrefixes 100 = .ok (.iload 9, 2) := dcU1 dO_21 (by decide +kernel)
theorem dX3_readPrefixes_102 : decode cX3_readPrefixes 102 = .ok (.imul, 1) := dc0 dO_104 (by decide +kernel)
theorem dX3_readPrefixes_103 : decode cX3_readPrefixes 103 = .ok (.isub, 1) := dc0 dO_100 (by decide +kernel)
theorem dX3_readPrefixes_104 : decode cX3_readPrefixes 104 = .ok (.ishl, 1) := dc0 dO_120 (by decide +kernel)
theorem dX3_readPrefixes_105 : decode cX3_readPrefixes 105 = .ok (.ior, 1) := dc0 dO_128 (by decide +kernel)
theorem dX3_readPrefixes_106 : decode cX3_readPrefixes 106 = .ok (.istore 8, 2) := dcU1 dO_54 (by decide +kernel)
theorem dX3_readPrefixes_108 : decode cX3_readPrefixes 108 = .ok (.iinc 9 1, 3) := dcI dO_132 (by decide +kernel)
theorem dX3_readPrefixes_111 : decode cX3_readPrefixes 111 = .ok (.goto (-36), 3) := dcS2 dO_167 (by decide +kernel)
theorem dX3_readPrefixes_114 : decode cX3_readPrefixes 114 = .ok (.aload_n 0, 1) := dc0 dO_42 (by decide +kernel)
theorem dX3_readPrefixes_115 : decode cX3_readPrefixes 115 = .ok (.getfield 32, 3) := dcU2 dO_180 (by decide +kernel)
theorem dX3_readPrefixes_118 : decode cX3_readPrefixes 118 = .ok (.iload_n 3, 1) := dc0 dO_29 (by decide +kernel)
theorem dX3_readPrefixes_119 : decode cX3_readPrefixes 119 = .ok (.iload 5, 2) := dcU1 dO_21 (by decide +kernel)
theorem dX3_readPrefixes_121 : decode cX3_readPrefixes 121 = .ok (.iadd, 1) := dc0 dO_96 (by decide +kernel)
theorem dX3_readPrefixes_122 : decode cX3_readPrefixes 122 = .ok (.iload 8, 2) := dcU1 dO_21 (by decide +kernel)
theorem dX3_readPrefixes_124 : decode cX3_readPrefixes 124 = .ok (.iload 6, 2) := dcU1 dO_21 (by decide +kernel)
theorem dX3_readPrefixes_126 : decode cX3_readPrefixes 126 = .ok (.invokestatic 102, 3) := dcU2 dO_184 (by decide +kernel)
theorem sfx_cX3_readPrefixes_128 : (cX3_readPrefixes.data.toList.drop 128).take 67 = [102, 126, 79, 42, 180, 0, 35, 29, 21, 5, 96, 21, 6, 79, 132, 5, 1, 21, 4, 4, 21, 7, 96, 96, 54, 4, 167, 255, 108, 21, 5, 172] := by decide +kernel
theorem dX3_readPrefixes_129 : decode cX3_readPrefixes 129 = .ok (.iand, 1) := dc0 dO_126 (rdB.ch sfx_cX3_readPrefixes_128 1 rfl (by decide +kernel))
theorem dX3_readPrefixes_130 : decode cX3_readPrefixes 130 = .ok (.iastore, 1) := dc0 dO_79 (rdB.ch sfx_cX3_readPrefixes_128 2 rfl (by decide +kernel))
theorem dX3_readPrefixes_131 : decode cX3_readPrefixes 131 = .ok (.aload_n 0, 1) := dc0 dO_42 (rdB.ch sfx_cX3_readPrefixes_128 3 rfl (by decide +kernel))
theorem dX3_readPrefixes_132 : decode cX3_readPrefixes 132 = .ok (.getfield 35, 3) := dcU2 dO_180 (rdU2.ch sfx_cX3_readPrefixes_128 4 rfl (by decide +kernel))
theorem dX3_readPrefixes_135 : decode cX3_readPrefixes 135 = .ok (.iload_n 3, 1) := dc0 dO_29 (rdB.ch sfx_cX3_readPrefixes_128 7 rfl (by decide +kernel))
theorem dX3_readPrefixes_136 : decode cX3_readPrefixes 136 = .ok (.iload 5, 2) := dcU1 dO_21 (rdU1.ch sfx_cX3_readPrefixes_128 8 rfl (by decide +kernel))
theorem dX3_readPrefixes_138 : decode cX3_readPrefixes 138 = .ok (.iadd, 1) := dc0 dO_96 (rdB.ch sfx_cX3_readPrefixes_128 10 rfl (by decide +kernel))
theorem dX3_readPrefixes_139 : decode cX3_readPrefixes 139 = .ok (.iload 6, 2) := dcU1 dO_21 (rdU1.ch sfx_cX3_readPrefixes_128 11 rfl (by decide +kernel))
theorem dX3_readPrefixes_141 : decode cX3_readPrefixes 141 = .ok (.iastore, 1) := dc0 dO_79 (rdB.ch sfx_cX3_readPrefixes_128 13 rfl (by decide +kernel))
theorem dX3_readPrefixes_142 : decode cX3_readPrefixes 142 = .ok (.iinc 5 1, 3) := dcI dO_132 (rdI.ch sfx_cX3_readPrefixes_128 14 rfl (by decide +kernel))
theorem dX3_readPrefixes_145 : decode cX3_readPrefixes 145 = .ok (.iload 4, 2) := dcU1 dO_21 (rdU1.ch sfx_cX3_readPrefixes_128 17 rfl (by decide +kernel))
theorem dX3_readPrefixes_147 : decode cX3_readPrefixes 147 = .ok (.iconst 1, 1) := dc0 dO_4 (rdB.ch sfx_cX3_readPrefixes_128 19 rfl (by decide +kernel))
theorem dX3_readPrefixes_148 : decode cX3_readPrefixes 148 = .ok (.iload 7, 2) := dcU1 dO_21 (rdU1.ch sfx_cX3_readPrefixes_128 20 rfl (by decide +kernel))
theorem dX3_readPrefixes_150 : decode cX3_readPrefixes 150 = .ok (.iadd, 1) := dc0 dO_96 (rdB.ch sfx_cX3_readPrefixes_128 22 rfl (by decide +kernel))
theorem dX3_readPrefixes_151 : decode cX3_readPrefixes 151 = .ok (.iadd, 1) := dc0 dO_96 (rdB.ch sfx_cX3_readPrefixes_128 23 rfl (by decide +kernel))
theorem dX3_readPrefixes_152 : decode cX3_readPrefixes 152 = .ok (.istore 4, 2) := dcU1 dO_54 (rdU1.ch sfx_cX3_readPrefixes_128 24 rfl (by decide +kernel))
theorem dX3_readPrefixes_154 : decode cX3_readPrefixes 154 = .ok (.goto (-148), 3) := dcS2 dO_167 (rdS2.ch sfx_cX3_readPrefixes_128 26 rfl (by decide +kernel))
theorem dX3_readPrefixes_157 : decode cX3_readPrefixes 157 = .ok (.iload 5, 2) := dcU1 dO_21 (rdU1.ch sfx_cX3_readPrefixes_128 29 rfl (by decide +kernel))
theorem dX3_readPrefixes_159 : decode cX3_readPrefixes 159 = .ok (.ireturn, 1) := dc0 dO_172 (rdB.ch sfx_cX3_readPrefixes_128 31 rfl (by decide +kernel))
theorem dX3_readWay_0 : decode cX3_readWay 0 = .ok (.iload_n 1, 1) := dc0 dO_27 (by decide +kernel)
theorem dX3_readWay_1 : decode cX3_readWay 1 = .ok (.iload_n 2, 1) := dc0 dO_28 (by decide +kernel)
theorem dX3_readWay_2 : decode cX3_readWay 2 = .ok (.iadd, 1) := dc0 dO_96 (by decide +kernel)
theorem dX3_readWay_3 : decode cX3_readWay 3 = .ok (.istore_n 3, 1) := dc0 dO_62 (by decide +kernel)
theorem dX3_readWay_4 : decode cX3_readWay 4 = .ok (.iload_n 1, 1) := dc0 dO_27 (by decide +kernel)
theorem dX3_readWay_5 : decode cX3_readWay 5 = .ok (.istore 4, 2) := dcU1 dO_54 (by decide +kernel)
theorem dX3_readWay_7 : decode cX3_readWay 7 = .ok (.iconst 0, 1) := dc0 dO_3 (by decide +kernel)
theorem dX3_readWay_8 : decode cX3_readWay 8 = .ok (.istore 5, 2) := dcU1 dO_54 (by decide +kernel)
theorem dX3_readWay_10 : decode cX3_readWay 10 = .ok (.iload 4, 2) := dcU1 dO_21 (by decide +kernel)
theorem dX3_readWay_12 : decode cX3_readWay 12 = .ok (.iload_n 3, 1) := dc0 dO_29 (by decide +kernel)
theorem dX3_readWay_13 : decode cX3_readWay 13 = .ok (.if_icmp .ge 164, 3) := dcS2 dO_162 (by decide +kernel)
theorem dX3_readWay_16 : decode cX3_readWay 16 = .ok (.iload 4, 2) := dcU1 dO_21 (by decide +kernel)
theorem dX3_readWay_18 : decode cX3_readWay 18 = .ok (.iconst 2, 1) := dc0 dO_5 (by decide +kernel)
theorem dX3_readWay_19 : decode cX3_readWay 19 = .ok (.iadd, 1) := dc0 dO_96 (by decide +kernel)
theorem dX3_readWay_20 : decode cX3_readWay 20 = .ok (.iload_n 3, 1) := dc0 dO_29 (by decide +kernel)
theorem dX3_readWay_21 : decode cX3_readWay 21 = .ok (.if_icmp .le 5, 3) := dcS2 dO_164 (by decide +kernel)
theorem dX3_readWay_24 : decode cX3_readWay 24 = .ok (.iconst 0, 1) := dc0 dO_3 (by decide +kernel)
theorem dX3_readWay_25 : decode cX3_readWay 25 = .ok (.ireturn, 1) := dc0 dO_172 (by decide +kernel)
theorem dX3_readWay_26 : decode cX3_readWay 26 = .ok (.aload_n 0, 1) := dc0 dO_42 (by decide +kernel)
theorem dX3_readWay_27 : decode cX3_readWay 27 = .ok (.getfield 41, 3) := dcU2 dO_180 (by decide +kernel)
theorem dX3_readWay_30 : decode cX3_readWay 30 = .ok (.iload 4, 2) := dcU1 dO_21 (by decide +kernel)
theorem dX3_readWay_32 : decode cX3_readWay 32 = .ok (.iaload, 1) := dc0 dO_46 (by decide +kernel)
theorem dX3_readWay_33 : decode cX3_readWay 33 = .ok (.istore 6, 2) := dcU1 dO_54 (by decide +kernel)
theorem dX3_readWay_35 : decode cX3_readWay 35 = .ok (.aload_n 0, 1) := dc0 dO_42 (by decide +kernel)
theorem dX3_readWay_36 : decode cX3_readWay 36 = .ok (.getfield 41, 3) := dcU2 dO_180 (by decide +kernel)
theorem dX3_readWay_39 : decode cX3_readWay 39 = .ok (.iload 4, 2) := dcU1 dO_21 (by decide +kernel)
theorem dX3_readWay_41 : decode cX3_readWay 41 = .ok (.iconst 1, 1) := dc0 dO_4 (by decide +kernel)
theorem dX3_readWay_42 : decode cX3_readWay 42 = .ok (.iadd, 1) := dc0 dO_96 (by decide +kernel)
theorem dX3_readWay_43 : decode cX3_readWay 43 = .ok (.iaload, 1) := dc0 dO_46 (by decide +kernel)
theorem dX3_readWay_44 : decode cX3_readWay 44 = .ok (.istore 7, 2) := dcU1 dO_54 (by decide +kernel)
theorem dX3_readWay_46 : decode cX3_readWay 46 = .ok (.iload 6, 2) := dcU1 dO_21 (by decide +kernel)
theorem dX3_readWay_48 : decode cX3_readWay 48 = .ok (.iconst 1, 1) := dc0 dO_4 (by decide +kernel)
theorem dX3_readWay_49 : decode cX3_readWay 49 = .ok (.if_icmp .lt 15, 3) := dcS2 dO_161 (by decide +kernel)
theorem dX3_readWay_52 : decode cX3_readWay 52 = .ok (.iload 6, 2) := dcU1 dO_21 (by decide +kernel)
theorem dX3_readWay_54 : decode cX3_readWay 54 = .ok (.iconst 2, 1) := dc0 dO_5 (by decide +kernel)
theorem dX3_readWay_55 : decode cX3_readWay 55 = .ok (.if_icmp .gt 9, 3) := dcS2 dO_163 (by decide +kernel)
theorem dX3_readWay_58 : decode cX3_readWay 58 = .ok (.iload 7, 2) := dcU1 dO_21 (by decide +kernel)
theorem dX3_readWay_60 : decode cX3_readWay 60 = .ok (.iconst 1, 1) := dc0 dO_4 (by decide +kernel)
theorem dX3_readWay_61 : decode cX3_readWay 61 = .ok (.if_icmp .ge 5, 3) := dcS2 dO_162 (by decide +kernel)
theorem dX3_readWay_64 : decode cX3_readWay 64 = .ok (.iconst 0, 1) := dc0 dO_3 (by decide +kernel)
theorem dX3_readWay_65 : decode cX3_readWay 65 = .ok (.ireturn, 1) := dc0 dO_172 (by decide +kernel)
theorem dX3_readWay_66 : decode cX3_readWay 66 = .ok (.iload 4, 2) := dcU1 dO_21 (by decide +kernel)
theorem dX3_readWay_68 : decode cX3_readWay 68 = .ok (.iconst 2, 1) := dc0 dO_5 (by decide +kernel)
theorem dX3_readWay_69 : decode cX3_readWay 69 = .ok (.iadd, 1) := dc0 dO_96 (by decide +kernel)
theorem dX3_readWay_70 : decode cX3_readWay 70 = .ok (.iconst 4, 1) := dc0 dO_7 (by decide +kernel)
theorem dX3_readWay_71 : decode cX3_readWay 71 = .ok (.iload 7, 2) := dcU1 dO_21 (by decide +kernel)
theorem dX3_readWay_73 : decode cX3_readWay 73 = .ok (.imul, 1) := dc0 dO_104 (by decide +kernel)
theorem dX3_readWay_74 : decode cX3_readWay 74 = .ok (.iadd, 1) := dc0 dO_96 (by decide +kernel)
theorem dX3_readWay_75 : decode cX3_readWay 75 = .ok (.iload_n 3, 1) := dc0 dO_29 (by decide +kernel)
theorem dX3_readWay_76 : decode cX3_readWay 76 = .ok (.if_icmp .gt 13, 3) := dcS2 dO_163 (by decide +kernel)
theorem dX3_readWay_79 : decode cX3_readWay 79 = .ok (.iload 5, 2) := dcU1 dO_21 (by decide +kernel)
theorem dX3_readWay_81 : decode cX3_readWay 81 = .ok (.iload 7, 2) := dcU1 dO_21 (by decide +kernel)
theorem dX3_readWay_83 : decode cX3_readWay 83 = .ok (.iadd, 1) := dc0 dO_96 (by decide +kernel)
theorem dX3_readWay_84 : decode cX3_readWay 84 = .ok (.bipush 20, 2) := dcS1 dO_16 (by decide +kernel)
theorem dX3_readWay_86 : decode cX3_readWay 86 = .ok (.if_icmp .le 5, 3) := dcS2 dO_164 (by decide +kernel)
theorem dX3_readWay_89 : decode cX3_readWay 89 = .ok (.iconst 0, 1) := dc0 dO_3 (by decide +kernel)
theorem dX3_readWay_90 : decode cX3_readWay 90 = .ok (.ireturn, 1) := dc0 dO_172 (by decide +kernel)
theorem dX3_readWay_91 : decode cX3_readWay 91 = .ok (.iconst 0, 1) := dc0 dO_3 (by decide +kernel)
theorem dX3_readWay_92 : decode cX3_readWay 92 = .ok (.istore 8, 2) := dcU1 dO_54 (by decide +kernel)
theorem dX3_readWay_94 : decode cX3_readWay 94 = .ok (.iload 8, 2) := dcU1 dO_21 (by decide +kernel)
theorem dX3_readWay_96 : decode cX3_readWay 96 = .ok (.iload 7, 2) := dcU1 dO_21 (by decide +kernel)
theorem dX3_readWay_98 : decode cX3_readWay 98 = .ok (.if_icmp .ge 35, 3) := dcS2 dO_162 (by decide +kernel)
theorem dX3_readWay_101 : decode cX3_readWay 101 = .ok (.aload_n 0, 1) := dc0 dO_42 (by decide +kernel)
theorem dX3_readWay_102 : decode cX3_readWay 102 = .ok (.getfield 28, 3) := dcU2 dO_180 (by decide +kernel)
theorem dX3_readWay_105 : decode cX3_readWay 105 = .ok (.getfield 140, 3) := dcU2 dO_180 (by decide +kernel)
theorem dX3_readWay_108 : decode cX3_readWay 108 = .ok (.iload 5, 2) := dcU1 dO_21 (by decide +kernel)
theorem dX3_readWay_110 : decode cX3_readWay 110 = .ok (.iload 8, 2) := dcU1 dO_21 (by decide +kernel)
theorem dX3_readWay_112 : decode cX3_readWay 112 = .ok (.iadd, 1) := dc0 dO_96 (by decide +kernel)
theorem dX3_readWay_113 : decode cX3_readWay 113 = .ok (.aload_n 0, 1) := dc0 dO_42 (by decide +kernel)
theorem dX3_readWay_114 : decode cX3_readWay 114 = .ok (.iload 4, 2) := dcU1 dO_21 (by decide +kernel)
theorem dX3_readWay_116 : decode cX3_readWay 116 = .ok (.iconst 2, 1) := dc0 dO_5 (by decide +kernel)
theorem dX3_readWay_117 : decode cX3_readWay 117 = .ok (.iadd, 1) := dc0 dO_96 (by decide +kernel)
theorem dX3_readWay_118 : decode cX3_readWay 118 = .ok (.iconst 4, 1) := dc0 dO_7 (by decide +kernel)
theorem dX3_readWay_119 : decode cX3_readWay 119 = .ok (.iload 8, 2) := dcU1 dO_21 (by decide +kernel)
theorem dX3_readWay_121 : decode cX3_readWay 121 = .ok (.imul, 1) := dc0 dO_104 (by decide +kernel)
theorem dX3_readWay_122 : decode cX3_readWay 122 = .ok (.iadd, 1) := dc0 dO_96 (by decide +kernel)
theorem dX3_readWay_123 : decode cX3_readWay 123 = .ok (.invokevirtual 130, 3) := dcU2 dO_182 (by decide +kernel)
theorem dX3_readWay_126 : decode cX3_readWay 126 = .ok (.iastore, 1) := dc0 dO_79 (by decide +kernel)
theorem dX3_readWay_127 : decode cX3_readWay 127 = .ok (.iinc 8 1, 3) := dcI dO_132 (by decide +kernel)
theorem sfx_cX3_readWay_128 : (cX3_readWay.data.toList.drop 128).take 67 = [8, 1, 167, 255, 220, 21, 6, 4, 160, 0, 20, 42, 180, 0, 28, 180, 0, 140, 21, 5, 21, 5, 21, 7, 96, 184, 0, 143, 21, 5, 21, 7, 96, 54, 5, 21, 4, 5, 7, 21, 7, 104, 96, 96, 54, 4, 167, 255, 92, 42, 180, 0, 28, 21, 5, 181, 0, 147, 4, 172] := by decide +kernel
theorem dX3_readWay_130 : decode cX3_readWay 130 = .ok (.goto (-36), 3) := dcS2 dO_167 (rdS2.ch sfx_cX3_readWay_128 2 rfl (by decide +kernel))
theorem dX3_readWay_133 : decode cX3_readWay 133 = .ok (.iload 6, 2) := dcU1 dO_21 (rdU1.ch sfx_cX3_readWay_128 5 rfl (by decide +kernel))
theorem dX3_readWay_135 : decode cX3_readWay 135 = .ok (.iconst 1, 1) := dc0 dO_4 (rdB.ch sfx_cX3_readWay_128 7 rfl (by decide +kernel))
theorem dX3_readWay_136 : decode cX3_readWay 136 = .ok (.if_icmp .ne 20, 3) := dcS2 dO_160 (rdS2.ch sfx_cX3_readWay_128 8 rfl (by decide +kernel))
theorem dX3_readWay_139 : decode cX3_readWay 139 = .ok (.aload_n 0, 1) := dc0 dO_42 (rdB.ch sfx_cX3_readWay_128 11 rfl (by decide +kernel))
theorem dX3_readWay_140 : decode cX3_readWay 140 = .ok (.getfield 28, 3) := dcU2 dO_180 (rdU2.ch sfx_cX3_readWay_128 12 rfl (by decide +kernel))
theorem dX3_readWay_143 : decode cX3_readWay 143 = .ok (.getfield 140, 3) := dcU2 dO_180 (rdU2.ch sfx_cX3_readWay_128 15 rfl (by decide +kernel))
theorem dX3_readWay_146 : decode cX3_readWay 146 = .ok (.iload 5, 2) := dcU1 dO_21 (rdU1.ch sfx_cX3_readWay_128 18 rfl (by decide +kernel))
theorem dX3_readWay_148 : decode cX3_readWay 148 = .ok (.iload 5, 2) := dcU1 dO_21 (rdU1.ch sfx_cX3_readWay_128 20 rfl (by decide +kernel))
theorem dX3_readWay_150 : decode cX3_readWay 150 = .ok (.iload 7, 2) := dcU1 dO_21 (rdU1.ch sfx_cX3_readWay_128 22 rfl (by decide +kernel))
theorem dX3_readWay_152 : decode cX3_readWay 152 = .ok (.iadd, 1) := dc0 dO_96 (rdB.ch sfx_cX3_readWay_128 24 rfl (by decide +kernel))
theorem dX3_readWay_153 : decode cX3_readWay 153 = .ok (.invokestatic 143, 3) := dcU2 dO_184 (rdU2.ch sfx_cX3_readWay_128 25 rfl (by decide +kernel))
theorem dX3_readWay_156 : decode cX3_readWay 156 = .ok (.iload 5, 2) := dcU1 dO_21 (rdU1.ch sfx_cX3_readWay_128 28 rfl (by decide +kernel))
theorem dX3_readWay_158 : decode cX3_readWay 158 = .ok (.iload 7, 2) := dcU1 dO_21 (rdU1.ch sfx_cX3_readWay_128 30 rfl (by decide +kernel))
theorem dX3_readWay_160 : decode cX3_readWay 160 = .ok (.iadd, 1) := dc0 dO_96 (rdB.ch sfx_cX3_readWay_128 32 rfl (by decide +kernel))
theorem dX3_readWay_161 : decode cX3_readWay 161 = .ok (.istore 5, 2) := dcU1 dO_54 (rdU1.ch sfx_cX3_readWay_128 33 rfl (by decide +kernel))
theorem dX3_readWay_163 : decode cX3_readWay 163 = .ok (.iload 4, 2) := dcU1 dO_21 (rdU1.ch sfx_cX3_readWay_128 35 rfl (by decide +kernel))
theorem dX3_readWay_165 : decode cX3_readWay 165 = .ok (.iconst 2, 1) := dc0 dO_5 (rdB.ch sfx_cX3_readWay_128 37 rfl (by decide +kernel))
theorem dX3_readWay_166 : decode cX3_readWay 166 = .ok (.iconst 4, 1) := dc0 dO_7 (rdB.ch sfx_cX3_readWay_128 38 rfl (by decide +kernel))
theorem dX3_readWay_167 : decode cX3_readWay 167 = .ok (.iload 7, 2) := dcU1 dO_21 (rdU1.ch sfx_cX3_readWay_128 39 rfl (by decide +kernel))
theorem dX3_readWay_169 : decode cX3_readWay 169 = .ok (.imul, 1) := dc0 dO_104 (rdB.ch sfx_cX3_readWay_128 41 rfl (by decide +kernel))
theorem dX3_readWay_170 : decode cX3_readWay 170 = .ok (.iadd, 1) := dc0 dO_96 (rdB.ch sfx_cX3_readWay_128 42 rfl (by decide +kernel))
theorem dX3_readWay_171 : decode cX3_readWay 171 = .ok (.iadd, 1) := dc0 dO_96 (rdB.ch sfx_cX3_readWay_128 43 rfl (by decide +kernel))
theorem dX3_readWay_172 : decode cX3_readWay 172 = .ok (.istore 4, 2) := dcU1 dO_54 (rdU1.ch sfx_cX3_readWay_128 44 rfl (by decide +kernel))
theorem dX3_readWay_174 : decode cX3_readWay 174 = .ok (.goto (-164), 3) := dcS2 dO_167 (rdS2.ch sfx_cX3_readWay_128 46 rfl (by decide +kernel))
theorem dX3_readWay_177 : decode cX3_readWay 177 = .ok (.aload_n 0, 1) := dc0 dO_42 (rdB.ch sfx_cX3_readWay_128 49 rfl (by decide +kernel))
theorem dX3_readWay_178 : decode cX3_readWay 178 = .ok (.getfield 28, 3) := dcU2 dO_180 (rdU2.ch sfx_cX3_readWay_128 50 rfl (by decide +kernel))
theorem dX3_readWay_181 : decode cX3_readWay 181 = .ok (.iload 5, 2) := dcU1 dO_21 (rdU1.ch sfx_cX3_readWay_128 53 rfl (by decide +kernel))
theorem dX3_readWay_183 : decode cX3_readWay 183 = .ok (.putfield 147, 3) := dcU2 dO_181 (rdU2.ch sfx_cX3_readWay_128 55 rfl (by decide +kernel))
theorem dX3_readWay_186 : decode cX3_readWay 186 = .ok (.iconst 1, 1) := dc0 dO_4 (rdB.ch sfx_cX3_readWay_128 58 rfl (by decide +kernel))
theorem dX3_readWay_187 : decode cX3_readWay 187 = .ok (.ireturn, 1) := dc0 dO_172 (rdB.ch sfx_cX3_readWay_128 59 rfl (by decide +kernel))
theorem dX8_compose_0 : decode cX8_compose 0 = .ok (.aload_n 1, 1) := dc0 dO_43 (by decide +kernel)
theorem dX8_compose_1 : decode cX8_compose 1 = .ok (.iload_n 3, 1) := dc0 dO_29 (by decide +kernel)
theorem dX8_compose_2 : decode cX8_compose 2 = .ok (.invokevirtual 86, 3) := dcU2 dO_182 (by decide +kernel)
theorem dX8_compose_5 : decode cX8_compose 5 = .ok (.istore 5, 2) := dcU1 dO_54 (by decide +kernel)
theorem dX8_compose_7 : decode cX8_compose 7 = .ok (.aload_n 0, 1) := dc0 dO_42 (by decide +kernel)
theorem dX8_compose_8 : decode cX8_compose 8 = .ok (.getfield 9, 3) := dcU2 dO_180 (by decide +kernel)
theorem dX8_compose_11 : decode cX8_compose 11 = .ok (.getfield 162, 3) := dcU2 dO_180 (by decide +kernel)
theorem dX8_compose_14 : decode cX8_compose 14 = .ok (.iload 5, 2) := dcU1 dO_21 (by decide +kernel)
theorem dX8_compose_16 : decode cX8_compose 16 = .ok (.aaload, 1) := dc0 dO_50 (by decide +kernel)
theorem dX8_compose_17 : decode cX8_compose 17 = .ok (.astore 6, 2) := dcU1 dO_58 (by decide +kernel)
theorem dX8_compose_19 : decode cX8_compose 19 = .ok (.aload_n 0, 1) := dc0 dO_42 (by decide +kernel)
theorem dX8_compose_20 : decode cX8_compose 20 = .ok (.getfield 49, 3) := dcU2 dO_180 (by decide +kernel)
theorem dX8_compose_23 : decode cX8_compose 23 = .ok (.aload 6, 2) := dcU1 dO_25 (by decide +kernel)
theorem dX8_compose_25 : decode cX8_compose 25 = .ok (.getfield 193, 3) := dcU2 dO_180 (by decide +kernel)
theorem dX8_compose_28 : decode cX8_compose 28 = .ok (.iload 4, 2) := dcU1 dO_21 (by decide +kernel)
theorem dX8_compose_30 : decode cX8_compose 30 = .ok (.aaload, 1) := dc0 dO_50 (by decide +kernel)
theorem dX8_compose_31 : decode cX8_compose 31 = .ok (.invokevirtual 106, 3) := dcU2 dO_182 (by decide +kernel)
theorem dX8_compose_34 : decode cX8_compose 34 = .ok (.aload_n 0, 1) := dc0 dO_42 (by decide +kernel)
theorem dX8_compose_35 : decode cX8_compose 35 = .ok (.getfield 49, 3) := dcU2 dO_180 (by decide +kernel)
theorem dX8_compose_38 : decode cX8_compose 38 = .ok (.bipush 100, 2) := dcS1 dO_16 (by decide +kernel)
theorem dX8_compose_40 : decode cX8_compose 40 = .ok (.putfield 260, 3) := dcU2 dO_181 (by decide +kernel)
theorem dX8_compose_43 : decode cX8_compose 43 = .ok (.aload 6, 2) := dcU1 dO_25 (by decide +kernel)
theorem dX8_compose_45 : decode cX8_compose 45 = .ok (.getfield 190, 3) := dcU2 dO_180 (by decide +kernel)
theorem dX8_compose_48 : decode cX8_compose 48 = .ok (.iload 4, 2) := dcU1 dO_21 (by decide +kernel)
theorem dX8_compose_50 : decode cX8_compose 50 = .ok (.iaload, 1) := dc0 dO_46 (by decide +kernel)
theorem dX8_compose_51 : decode cX8_compose 51 = .ok (.iload_n 2, 1) := dc0 dO_28 (by decide +kernel)
theorem dX8_compose_52 : decode cX8_compose 52 = .ok (.if_icmp .eq 16, 3) := dcS2 dO_159 (by decide +kernel)
theorem dX8_compose_55 : decode cX8_compose 55 = .ok (.aload_n 0, 1) := dc0 dO_42 (by decide +kernel)
theorem dX8_compose_56 : decode cX8_compose 56 = .ok (.getfield 49, 3) := dcU2 dO_180 (by decide +kernel)
theorem dX8_compose_59 : decode cX8_compose 59 = .ok (.iload 5, 2) := dcU1 dO_21 (by decide +kernel)
theorem dX8_compose_61 : decode cX8_compose 61 = .ok (.iconst 1, 1) := dc0 dO_4 (by decide +kernel)
theorem dX8_compose_62 : decode cX8_compose 62 = .ok (.invokevirtual 272, 3) := dcU2 dO_182 (by decide +kernel)
theorem dX8_compose_65 : decode cX8_compose 65 = .ok (.ifCond .ne 11, 3) := dcS2 dO_154 (by decide +kernel)
theorem dX8_compose_68 : decode cX8_compose 68 = .ok (.aload_n 0, 1) := dc0 dO_42 (by decide +kernel)
theorem dX8_compose_69 : decode cX8_compose 69 = .ok (.getfield 49, 3) := dcU2 dO_180 (by decide +kernel)
theorem dX8_compose_72 : decode cX8_compose 72 = .ok (.iconst 0, 1) := dc0 dO_3 (by decide +kernel)
theorem dX8_compose_73 : decode cX8_compose 73 = .ok (.putfield 203, 3) := dcU2 dO_181 (by decide +kernel)
theorem dX8_compose_76 : decode cX8_compose 76 = .ok (.return_, 1) := dc0 dO_177 (by decide +kernel)
theorem dX8_doNext_0 : decode cX8_doNext 0 = .ok (.aload_n 0, 1) := dc0 dO_42 (by decide +kernel)
theorem dX8_doNext_1 : decode cX8_doNext 1 = .ok (.getfield 52, 3) := dcU2 dO_180 (by decide +kernel)
theorem dX8_doNext_4 : decode cX8_doNext 4 = .ok (.ifCond .eq 18, 3) := dcS2 dO_153 (by decide +kernel)
theorem dX8_doNext_7 : decode cX8_doNext 7 = .ok (.aload_n 0, 1) := dc0 dO_42 (by decide +kernel)
theorem dX8_doNext_8 : decode cX8_doNext 8 = .ok (.getfield 23, 3) := dcU2 dO_180 (by decide +kernel)
theorem dX8_doNext_11 : decode cX8_doNext 11 = .ok (.aload_n 0, 1) := dc0 dO_42 (by decide +kernel)
theorem dX8_doNext_12 : decode cX8_doNext 12 = .ok (.getfield 19, 3) := dcU2 dO_180 (by decide +kernel)
theorem dX8_doNext_15 : decode cX8_doNext 15 = .ok (.iconst 0, 1) := dc0 dO_3 (by decide +kernel)
theorem dX8_doNext_16 : decode cX8_doNext 16 = .ok (.iaload, 1) := dc0 dO_46 (by decide +kernel)
theorem dX8_doNext_17 : decode cX8_doNext 17 = .ok (.iaload, 1) := dc0 dO_46 (by decide +kernel)
theorem dX8_doNext_18 : decode cX8_doNext 18 = .ok (.iload_n 1, 1) := dc0 dO_27 (by decide +kernel)
theorem dX8_doNext_19 : decode cX8_doNext 19 = .ok (.if_icmp .le 5, 3) := dcS2 dO_164 (by decide +kernel)
theorem dX8_doNext_22 : decode cX8_doNext 22 = .ok (.iconst 0, 1) := dc0 dO_3 (by decide +kernel)
theorem dX8_doNext_23 : decode cX8_doNext 23 = .ok (.ireturn, 1) := dc0 dO_172 (by decide +kernel)
theorem dX8_doNext_24 : decode cX8_doNext 24 = .ok (.aload_n 0, 1) := dc0 dO_42 (by decide +kernel)
theorem dX8_doNext_25 : decode cX8_doNext 25 = .ok (.getfield 19, 3) := dcU2 dO_180 (by decide +kernel)
theorem dX8_doNext_28 : decode cX8_doNext 28 = .ok (.iconst 0, 1) := dc0 dO_3 (by decide +kernel)
theorem dX8_doNext_29 : decode cX8_doNext 29 = .ok (.iaload, 1) := dc0 dO_46 (by decide +kernel)
theorem dX8_doNext_30 : decode cX8_doNext 30 = .ok (.istore_n 2, 1) := dc0 dO_61 (by decide +kernel)
theorem dX8_doNext_31 : decode cX8_doNext 31 = .ok (.aload_n 0, 1) := dc0 dO_42 (by decide +kernel)
theorem dX8_doNext_32 : decode cX8_doNext 32 = .ok (.aload_n 0, 1) := dc0 dO_42 (by decide +kernel)
theorem dX8_doNext_33 : decode cX8_doNext 33 = .ok (.getfield 23, 3) := dcU2 dO_180 (by decide +kernel)
theorem dX8_doNext_36 : decode cX8_doNext 36 = .ok (.iload_n 2, 1) := dc0 dO_28 (by decide +kernel)
theorem dX8_doNext_37 : decode cX8_doNext 37 = .ok (.iaload, 1) := dc0 dO_46 (by decide +kernel)
theorem dX8_doNext_38 : decode cX8_doNext 38 = .ok (.putfield 62, 3) := dcU2 dO_181 (by decide +kernel)
theorem dX8_doNext_41 : decode cX8_doNext 41 = .ok (.aload_n 0, 1) := dc0 dO_42 (by decide +kernel)
theorem dX8_doNext_42 : decode cX8_doNext 42 = .ok (.iload_n 2, 1) := dc0 dO_28 (by decide +kernel)
theorem dX8_doNext_43 : decode cX8_doNext 43 = .ok (.invokevirtual 65, 3) := dcU2 dO_182 (by decide +kernel)
theorem dX8_doNext_46 : decode cX8_doNext 46 = .ok (.aload_n 0, 1) := dc0 dO_42 (by decide +kernel)
theorem dX8_doNext_47 : decode cX8_doNext 47 = .ok (.dup, 1) := dc0 dO_89 (by decide +kernel)
theorem dX8_doNext_48 : decode cX8_doNext 48 = .ok (.getfield 69, 3) := dcU2 dO_180 (by decide +kernel)
theorem dX8_doNext_51 : decode cX8_doNext 51 = .ok (.iconst 1, 1) := dc0 dO_4 (by decide +kernel)
theorem dX8_doNext_52 : decode cX8_doNext 52 = .ok (.iadd, 1) := dc0 dO_96 (by decide +kernel)
theorem dX8_doNext_53 : decode cX8_doNext 53 = .ok (.putfield 69, 3) := dcU2 dO_181 (by decide +kernel)
theorem dX8_doNext_56 : decode cX8_doNext 56 = .ok (.iload_n 2, 1) := dc0 dO_28 (by decide +kernel)
theorem dX8_doNext_57 : decode cX8_doNext 57 = .ok (.iconst 2, 1) := dc0 dO_5 (by decide +kernel)
theorem dX8_doNext_58 : decode cX8_doNext 58 = .ok (.idiv, 1) := dc0 dO_108 (by decide +kernel)
theorem dX8_doNext_59 : decode cX8_doNext 59 = .ok (.bipush 10, 2) := dcS1 dO_16 (by decide +kernel)
theorem dX8_doNext_61 : decode cX8_doNext 61 = .ok (.irem, 1) := dc0 dO_112 (by decide +kernel)
theorem dX8_doNext_62 : decode cX8_doNext 62 = .ok (.istore_n 3, 1) := dc0 dO_62 (by decide +kernel)
theorem dX8_doNext_63 : decode cX8_doNext 63 = .ok (.iload_n 2, 1) := dc0 dO_28 (by decide +kernel)
theorem dX8_doNext_64 : decode cX8_doNext 64 = .ok (.iconst 2, 1) := dc0 dO_5 (by decide +kernel)
theorem dX8_doNext_65 : decode cX8_doNext 65 = .ok (.idiv, 1) := dc0 dO_108 (by decide +kernel)
theorem dX8_doNext_66 : decode cX8_doNext 66 = .ok (.bipush 10, 2) := dcS1 dO_16 (by decide +kernel)
theorem dX8_doNext_68 : decode cX8_doNext 68 = .ok (.idiv, 1) := dc0 dO_108 (by decide +kernel)
theorem dX8_doNext_69 : decode cX8_doNext 69 = .ok (.iconst 2, 1) := dc0 dO_5 (by decide +kernel)
theorem dX8_doNext_70 : decode cX8_doNext 70 = .ok (.irem, 1) := dc0 dO_112 (by decide +kernel)
theorem dX8_doNext_71 : decode cX8_doNext 71 = .ok (.istore 4, 2) := dcU1 dO_54 (by decide +kernel)
theorem dX8_doNext_73 : decode cX8_doNext 73 = .ok (.iload_n 2, 1) := dc0 dO_28 (by decide +kernel)
theorem dX8_doNext_74 : decode cX8_doNext 74 = .ok (.iconst 2, 1) := dc0 dO_5 (by decide +kernel)
theorem dX8_doNext_75 : decode cX8_doNext 75 = .ok (.idiv, 1) := dc0 dO_108 (by decide +kernel)
theorem dX8_doNext_76 : decode cX8_doNext 76 = .ok (.bipush 10, 2) := dcS1 dO_16 (by decide +kernel)
theorem dX8_doNext_78 : decode cX8_doNext 78 = .ok (.idiv, 1) := dc0 dO_108 (by decide +kernel)
theorem dX8_doNext_79 : decode cX8_doNext 79 = .ok (.iconst 2, 1) := dc0 dO_5 (by decide +kernel)
theorem dX8_doNext_80 : decode cX8_doNext 80 = .ok (.idiv, 1) := dc0 dO_108 (by decide +kernel)
theorem dX8_doNext_81 : decode cX8_doNext 81 = .ok (.istore 5, 2) := dcU1 dO_54 (by decide +kernel)
theorem dX8_doNext_83 : decode cX8_doNext 83 = .ok (.iload_n 2, 1) := dc0 dO_28 (by decide +kernel)
theorem dX8_doNext_84 : decode cX8_doNext 84 = .ok (.iconst 2, 1) := dc0 dO_5 (by decide +kernel)
theorem dX8_doNext_85 : decode cX8_doNext 85 = .ok (.irem, 1) := dc0 dO_112 (by decide +kernel)
theorem dX8_doNext_86 : decode cX8_doNext 86 = .ok (.iconst 1, 1) := dc0 dO_4 (by decide +kernel)
theorem dX8_doNext_87 : decode cX8_doNext 87 = .ok (.if_icmp .ne 15, 3) := dcS2 dO_160 (by decide +kernel)
theorem dX8_doNext_90 : decode cX8_doNext 90 = .ok (.aload_n 0, 1) := dc0 dO_42 (by decide +kernel)
theorem dX8_doNext_91 : decode cX8_doNext 91 = .ok (.iload 5, 2) := dcU1 dO_21 (by decide +kernel)
theorem dX8_doNext_93 : decode cX8_doNext 93 = .ok (.iload 4, 2) := dcU1 dO_21 (by decide +kernel)
theorem dX8_doNext_95 : decode cX8_doNext 95 = .ok (.iload_n 3, 1) := dc0 dO_29 (by decide +kernel)
theorem dX8_doNext_96 : decode cX8_doNext 96 = .ok (.invokevirtual 72, 3) := dcU2 dO_182 (by decide +kernel)
theorem dX8_doNext_99 : decode cX8_doNext 99 = .ok (.goto 42, 3) := dcS2 dO_167 (by decide +kernel)
theorem dX8_doNext_102 : decode cX8_doNext 102 = .ok (.aload_n 0, 1) := dc0 dO_42 (by decide +kernel)
theorem dX8_doNext_103 : decode cX8_doNext 103 = .ok (.aload_n 0, 1) := dc0 dO_42 (by decide +kernel)
theorem dX8_doNext_104 : decode cX8_doNext 104 = .ok (.getfield 9, 3) := dcU2 dO_180 (by decide +kernel)
theorem dX8_doNext_107 : decode cX8_doNext 107 = .ok (.getfield 76, 3) := dcU2 dO_180 (by decide +kernel)
theorem dX8_doNext_110 : decode cX8_doNext 110 = .ok (.iload 5, 2) := dcU1 dO_21 (by decide +kernel)
theorem dX8_doNext_112 : decode cX8_doNext 112 = .ok (.aaload, 1) := dc0 dO_50 (by decide +kernel)
theorem dX8_doNext_113 : decode cX8_doNext 113 = .ok (.iload 4, 2) := dcU1 dO_21 (by decide +kernel)
theorem dX8_doNext_115 : decode cX8_doNext 115 = .ok (.iload_n 3, 1) := dc0 dO_29 (by decide +kernel)
theorem dX8_doNext_116 : decode cX8_doNext 116 = .ok (.invokevirtual 82, 3) := dcU2 dO_182 (by decide +kernel)
theorem dX8_doNext_119 : decode cX8_doNext 119 = .ok (.aload_n 0, 1) := dc0 dO_42 (by decide +kernel)
theorem dX8_doNext_120 : decode cX8_doNext 120 = .ok (.aload_n 0, 1) := dc0 dO_42 (by decide +kernel)
theorem dX8_doNext_121 : decode cX8_doNext 121 = .ok (.getfield 9, 3) := dcU2 dO_180 (by decide +kernel)
theorem dX8_doNext_124 : decode cX8_doNext 124 = .ok (.getfield 76, 3) := dcU2 dO_180 (by decide +kernel)
theorem dX8_doNext_127 : decode cX8_doNext 127 = .ok (.iload 5, 2) := dcU1 dO_21 (by decide +kernel)
theorem sfx_cX8_doNext_128 : (cX8_doNext.data.toList.drop 128).take 67 = [5, 50, 4, 21, 4, 100, 182, 0, 86, 29, 182, 0, 92, 4, 172] := by decide +kernel
theorem dX8_doNext_129 : decode cX8_doNext 129 = .ok (.aaload, 1) := dc0 dO_50 (rdB.ch sfx_cX8_doNext_128 1 rfl (by decide +kernel))
theorem dX8_doNext_130 : decode cX8_doNext 130 = .ok (.iconst 1, 1) := dc0 dO_4 (rdB.ch sfx_cX8_doNext_128 2 rfl (by decide +kernel))
theorem dX8_doNext_131 : decode cX8_doNext 131 = .ok (.iload 4, 2) := dcU1 dO_21 (rdU1.ch sfx_cX8_doNext_128 3 rfl (by decide +kernel))
theorem dX8_doNext_133 : decode cX8_doNext 133 = .ok (.isub, 1) := dc0 dO_100 (rdB.ch sfx_cX8_doNext_128 5 rfl (by decide +kernel))
theorem dX8_doNext_134 : decode cX8_doNext 134 = .ok (.invokevirtual 86, 3) := dcU2 dO_182 (rdU2.ch sfx_cX8_doNext_128 6 rfl (by decide +kernel))
theorem dX8_doNext_137 : decode cX8_doNext 137 = .ok (.iload_n 3, 1) := dc0 dO_29 (rdB.ch sfx_cX8_doNext_128 9 rfl (by decide +kernel))
theorem dX8_doNext_138 : decode cX8_doNext 138 = .ok (.invokevirtual 92, 3) := dcU2 dO_182 (rdU2.ch sfx_cX8_doNext_128 10 rfl (by decide +kernel))
theorem dX8_doNext_141 : decode cX8_doNext 141 = .ok (.iconst 1, 1) := dc0 dO_4 (rdB.ch sfx_cX8_doNext_128 13 rfl (by decide +kernel))
theorem dX8_doNext_142 : decode cX8_doNext 142 = .ok (.ireturn, 1) := dc0 dO_172 (rdB.ch sfx_cX8_doNext_128 14 rfl (by decide +kernel))
theorem dX8_gather_0 : decode cX8_gather 0 = .ok (.aload_n 0, 1) := dc0 dO_42 (by decide +kernel)
theorem dX8_gather_1 : decode cX8_gather 1 = .ok (.iconst 0, 1) := dc0 dO_3 (by decide +kernel)
theorem dX8_gather_2 : decode cX8_gather 2 = .ok (.putfield 200, 3) := dcU2 dO_181 (by decide +kernel)
theorem dX8_gather_5 : decode cX8_gather 5 = .ok (.iconst 0, 1) := dc0 dO_3 (by decide +kernel)
theorem dX8_gather_6 : decode cX8_gather 6 = .ok (.istore_n 3, 1) := dc0 dO_62 (by decide +kernel)
theorem dX8_gather_7 : decode cX8_gather 7 = .ok (.iload_n 3, 1) := dc0 dO_29 (by decide +kernel)
theorem dX8_gather_8 : decode cX8_gather 8 = .ok (.aload_n 0, 1) := dc0 dO_42 (by decide +kernel)
theorem dX8_gather_9 : decode cX8_gather 9 = .ok (.getfield 9, 3) := dcU2 dO_180 (by decide +kernel)
theorem dX8_gather_12 : decode cX8_gather 12 = .ok (.getfield 153, 3) := dcU2 dO_180 (by decide +kernel)
theorem dX8_gather_15 : decode cX8_gather 15 = .ok (.if_icmp .ge 173, 3) := dcS2 dO_162 (by decide +kernel)
theorem dX8_gather_18 : decode cX8_gather 18 = .ok (.aload_n 0, 1) := dc0 dO_42 (by decide +kernel)
theorem dX8_gather_19 : decode cX8_gather 19 = .ok (.getfield 9, 3) := dcU2 dO_180 (by decide +kernel)
theorem dX8_gather_22 : decode cX8_gather 22 = .ok (.getfield 76, 3) := dcU2 dO_180 (by decide +kernel)
theorem dX8_gather_25 : decode cX8_gather 25 = .ok (.iload_n 3, 1) := dc0 dO_29 (by decide +kernel)
theorem dX8_gather_26 : decode cX8_gather 26 = .ok (.aaload, 1) := dc0 dO_50 (by decide +kernel)
theorem dX8_gather_27 : decode cX8_gather 27 = .ok (.astore 4, 2) := dcU1 dO_58 (by decide +kernel)
theorem dX8_gather_29 : decode cX8_gather 29 = .ok (.aload 4, 2) := dcU1 dO_25 (by decide +kernel)
theorem dX8_gather_31 : decode cX8_gather 31 = .ok (.iload_n 1, 1) := dc0 dO_27 (by decide +kernel)
theorem dX8_gather_32 : decode cX8_gather 32 = .ok (.invokevirtual 156, 3) := dcU2 dO_182 (by decide +kernel)
theorem dX8_gather_35 : decode cX8_gather 35 = .ok (.istore 5, 2) := dcU1 dO_54 (by decide +kernel)
theorem dX8_gather_37 : decode cX8_gather 37 = .ok (.iload 5, 2) := dcU1 dO_21 (by decide +kernel)
theorem dX8_gather_39 : decode cX8_gather 39 = .ok (.ifCond .lt 143, 3) := dcS2 dO_155 (by decide +kernel)
theorem dX8_gather_42 : decode cX8_gather 42 = .ok (.aload 4, 2) := dcU1 dO_25 (by decide +kernel)
theorem dX8_gather_44 : decode cX8_gather 44 = .ok (.getfield 136, 3) := dcU2 dO_180 (by decide +kernel)
theorem dX8_gather_47 : decode cX8_gather 47 = .ok (.ifCond .eq 135, 3) := dcS2 dO_153 (by decide +kernel)
theorem dX8_gather_50 : decode cX8_gather 50 = .ok (.aload_n 0, 1) := dc0 dO_42 (by decide +kernel)
theorem dX8_gather_51 : decode cX8_gather 51 = .ok (.getfield 200, 3) := dcU2 dO_180 (by decide +kernel)
theorem dX8_gather_54 : decode cX8_gather 54 = .ok (.bipush 10, 2) := dcS1 dO_16 (by decide +kernel)
theorem dX8_gather_56 : decode cX8_gather 56 = .ok (.if_icmp .lt 6, 3) := dcS2 dO_161 (by decide +kernel)
theorem dX8_gather_59 : decode cX8_gather 59 = .ok (.goto 123, 3) := dcS2 dO_167 (by decide +kernel)
theorem dX8_gather_62 : decode cX8_gather 62 = .ok (.aload 4, 2) := dcU1 dO_25 (by decide +kernel)
theorem dX8_gather_64 : decode cX8_gather 64 = .ok (.getfield 96, 3) := dcU2 dO_180 (by decide +kernel)
theorem dX8_gather_67 : decode cX8_gather 67 = .ok (.iload 5, 2) := dcU1 dO_21 (by decide +kernel)
theorem dX8_gather_69 : decode cX8_gather 69 = .ok (.iload_n 2, 1) := dc0 dO_28 (by decide +kernel)
theorem dX8_gather_70 : decode cX8_gather 70 = .ok (.invokestatic 99, 3) := dcU2 dO_184 (by decide +kernel)
theorem dX8_gather_73 : decode cX8_gather 73 = .ok (.aaload, 1) := dc0 dO_50 (by decide +kernel)
theorem dX8_gather_74 : decode cX8_gather 74 = .ok (.astore 6, 2) := dcU1 dO_58 (by decide +kernel)
theorem dX8_gather_76 : decode cX8_gather 76 = .ok (.aload 6, 2) := dcU1 dO_25 (by decide +kernel)
theorem dX8_gather_78 : decode cX8_gather 78 = .ok (.getfield 203, 3) := dcU2 dO_180 (by decide +kernel)
theorem dX8_gather_81 : decode cX8_gather 81 = .ok (.ifCond .eq 101, 3) := dcS2 dO_153 (by decide +kernel)
theorem dX8_gather_84 : decode cX8_gather 84 = .ok (.aload 6, 2) := dcU1 dO_25 (by decide +kernel)
theorem dX8_gather_86 : decode cX8_gather 86 = .ok (.iload_n 1, 1) := dc0 dO_27 (by decide +kernel)
theorem dX8_gather_87 : decode cX8_gather 87 = .ok (.invokevirtual 206, 3) := dcU2 dO_182 (by decide +kernel)
theorem dX8_gather_90 : decode cX8_gather 90 = .ok (.ifCond .eq 6, 3) := dcS2 dO_153 (by decide +kernel)
theorem dX8_gather_93 : decode cX8_gather 93 = .ok (.goto 89, 3) := dcS2 dO_167 (by decide +kernel)
theorem dX8_gather_96 : decode cX8_gather 96 = .ok (.aload_n 0, 1) := dc0 dO_42 (by decide +kernel)
theorem dX8_gather_97 : decode cX8_gather 97 = .ok (.getfield 34, 3) := dcU2 dO_180 (by decide +kernel)
theorem dX8_gather_100 : decode cX8_gather 100 = .ok (.aload_n 0, 1) := dc0 dO_42 (by decide +kernel)
theorem dX8_gather_101 : decode cX8_gather 101 = .ok (.getfield 200, 3) := dcU2 dO_180 (by decide +kernel)
theorem dX8_gather_104 : decode cX8_gather 104 = .ok (.aaload, 1) := dc0 dO_50 (by decide +kernel)
theorem dX8_gather_105 : decode cX8_gather 105 = .ok (.astore 7, 2) := dcU1 dO_58 (by decide +kernel)
theorem dX8_gather_107 : decode cX8_gather 107 = .ok (.aload 7, 2) := dcU1 dO_25 (by decide +kernel)
theorem dX8_gather_109 : decode cX8_gather 109 = .ok (.aload 6, 2) := dcU1 dO_25 (by decide +kernel)
theorem dX8_gather_111 : decode cX8_gather 111 = .ok (.invokevirtual 106, 3) := dcU2 dO_182 (by decide +kernel)
theorem dX8_gather_114 : decode cX8_gather 114 = .ok (.aload 7, 2) := dcU1 dO_25 (by decide +kernel)
theorem dX8_gather_116 : decode cX8_gather 116 = .ok (.aload 6, 2) := dcU1 dO_25 (by decide +kernel)
theorem dX8_gather_118 : decode cX8_gather 118 = .ok (.getfield 110, 3) := dcU2 dO_180 (by decide +kernel)
theorem dX8_gather_121 : decode cX8_gather 121 = .ok (.putfield 110, 3) := dcU2 dO_181 (by decide +kernel)
theorem dX8_gather_124 : decode cX8_gather 124 = .ok (.aload 7, 2) := dcU1 dO_25 (by decide +kernel)
theorem dX8_gather_126 : decode cX8_gather 126 = .ok (.iload_n 3, 1) := dc0 dO_29 (by decide +kernel)
theorem dX8_gather_127 : decode cX8_gather 127 = .ok (.putfield 188, 3) := dcU2 dO_181 (by decide +kernel)
theorem sfx_cX8_gather_128 : (cX8_gather.data.toList.drop 128).take 67 = [0, 188, 25, 7, 25, 4, 4, 21, 5, 100, 182, 0, 86, 181, 0, 210, 42, 180, 0, 15, 25, 4, 180, 0, 213, 21, 5, 5, 104, 3, 96, 46, 25, 7, 25, 4, 21, 5, 182, 0, 216, 153, 0, 13, 42, 89, 180, 0, 200, 4, 96, 181, 0, 200, 132, 3, 1, 167, 255, 78, 177] := by decide +kernel
theorem dX8_gather_130 : decode cX8_gather 130 = .ok (.aload 7, 2) := dcU1 dO_25 (rdU1.ch sfx_cX8_gather_128 2 rfl (by decide +kernel))
theorem dX8_gather_132 : decode cX8_gather 132 = .ok (.aload 4, 2) := dcU1 dO_25 (rdU1.ch sfx_cX8_gather_128 4 rfl (by decide +kernel))
theorem dX8_gather_134 : decode cX8_gather 134 = .ok (.iconst 1, 1) := dc0 dO_4 (rdB.ch sfx_cX8_gather_128 6 rfl (by decide +kernel))
theorem dX8_gather_135 : decode cX8_gather 135 = .ok (.iload 5, 2) := dcU1 dO_21 (rdU1.ch sfx_cX8_gather_128 7 rfl (by decide +kernel))
theorem dX8_gather_137 : decode cX8_gather 137 = .ok (.isub, 1) := dc0 dO_100 (rdB.ch sfx_cX8_gather_128 9 rfl (by decide +kernel))
theorem dX8_gather_138 : decode cX8_gather 138 = .ok (.invokevirtual 86, 3) := dcU2 dO_182 (rdU2.ch sfx_cX8_gather_128 10 rfl (by decide +kernel))
theorem dX8_gather_141 : decode cX8_gather 141 = .ok (.putfield 210, 3) := dcU2 dO_181 (rdU2.ch sfx_cX8_gather_128 13 rfl (by decide +kernel))
theorem dX8_gather_144 : decode cX8_gather 144 = .ok (.aload_n 0, 1) := dc0 dO_42 (rdB.ch sfx_cX8_gather_128 16 rfl (by decide +kernel))
theorem dX8_gather_145 : decode cX8_gather 145 = .ok (.getfield 15, 3) := dcU2 dO_180 (rdU2.ch sfx_cX8_gather_128 17 rfl (by decide +kernel))
theorem dX8_gather_148 : decode cX8_gather 148 = .ok (.aload 4, 2) := dcU1 dO_25 (rdU1.ch sfx_cX8_gather_128 20 rfl (by decide +kernel))
theorem dX8_gather_150 : decode cX8_gather 150 = .ok (.getfield 213, 3) := dcU2 dO_180 (rdU2.ch sfx_cX8_gather_128 22 rfl (by decide +kernel))
theorem dX8_gather_153 : decode cX8_gather 153 = .ok (.iload 5, 2) := dcU1 dO_21 (rdU1.ch sfx_cX8_gather_128 25 rfl (by decide +kernel))
theorem dX8_gather_155 : decode cX8_gather 155 = .ok (.iconst 2, 1) := dc0 dO_5 (rdB.ch sfx_cX8_gather_128 27 rfl (by decide +kernel))
theorem dX8_gather_156 : decode cX8_gather 156 = .ok (.imul, 1) := dc0 dO_104 (rdB.ch sfx_cX8_gather_128 28 rfl (by decide +kernel))
theorem dX8_gather_157 : decode cX8_gather 157 = .ok (.iconst 0, 1) := dc0 dO_3 (rdB.ch sfx_cX8_gather_128 29 rfl (by decide +kernel))
theorem dX8_gather_158 : decode cX8_gather 158 = .ok (.iadd, 1) := dc0 dO_96 (rdB.ch sfx_cX8_gather_128 30 rfl (by decide +kernel))
theorem dX8_gather_159 : decode cX8_gather 159 = .ok (.iaload, 1) := dc0 dO_46 (rdB.ch sfx_cX8_gather_128 31 rfl (by decide +kernel))
theorem dX8_gather_160 : decode cX8_gather 160 = .ok (.aload 7, 2) := dcU1 dO_25 (rdU1.ch sfx_cX8_gather_128 32 rfl (by decide +kernel))
theorem dX8_gather_162 : decode cX8_gather 162 = .ok (.aload 4, 2) := dcU1 dO_25 (rdU1.ch sfx_cX8_gather_128 34 rfl (by decide +kernel))
theorem dX8_gather_164 : decode cX8_gather 164 = .ok (.iload 5, 2) := dcU1 dO_21 (rdU1.ch sfx_cX8_gather_128 36 rfl (by decide +kernel))
theorem dX8_gather_166 : decode cX8_gather 166 = .ok (.invokevirtual 216, 3) := dcU2 dO_182 (rdU2.ch sfx_cX8_gather_128 38 rfl (by decide +kernel))
theorem dX8_gather_169 : decode cX8_gather 169 = .ok (.ifCond .eq 13, 3) := dcS2 dO_153 (rdS2.ch sfx_cX8_gather_128 41 rfl (by decide +kernel))
theorem dX8_gather_172 : decode cX8_gather 172 = .ok (.aload_n 0, 1) := dc0 dO_42 (rdB.ch sfx_cX8_gather_128 44 rfl (by decide +kernel))
theorem dX8_gather_173 : decode cX8_gather 173 = .ok (.dup, 1) := dc0 dO_89 (rdB.ch sfx_cX8_gather_128 45 rfl (by decide +kernel))
theorem dX8_gather_174 : decode cX8_gather 174 = .ok (.getfield 200, 3) := dcU2 dO_180 (rdU2.ch sfx_cX8_gather_128 46 rfl (by decide +kernel))
theorem dX8_gather_177 : decode cX8_gather 177 = .ok (.iconst 1, 1) := dc0 dO_4 (rdB.ch sfx_cX8_gather_128 49 rfl (by decide +kernel))
theorem dX8_gather_178 : decode cX8_gather 178 = .ok (.iadd, 1) := dc0 dO_96 (rdB.ch sfx_cX8_gather_128 50 rfl (by decide +kernel))
theorem dX8_gather_179 : decode cX8_gather 179 = .ok (.putfield 200, 3) := dcU2 dO_181 (rdU2.ch sfx_cX8_gather_128 51 rfl (by decide +kernel))
theorem dX8_gather_182 : decode cX8_gather 182 = .ok (.iinc 3 1, 3) := dcI dO_132 (rdI.ch sfx_cX8_gather_128 54 rfl (by decide +kernel))
theorem dX8_gather_185 : decode cX8_gather 185 = .ok (.goto (-178), 3) := dcS2 dO_167 (rdS2.ch sfx_cX8_gather_128 57 rfl (by decide +kernel))
theorem dX8_gather_188 : decode cX8_gather 188 = .ok (.return_, 1) := dc0 dO_177 (rdB.ch sfx_cX8_gather_128 60 rfl (by decide +kernel))
theorem dX8_handOver_0 : decode cX8_handOver 0 = .ok (.aload_n 1, 1) := dc0 dO_43 (by decide +kernel)
theorem dX8_handOver_1 : decode cX8_handOver 1 = .ok (.getfield 96, 3) := dcU2 dO_180 (by decide +kernel)
theorem dX8_handOver_4 : decode cX8_handOver 4 = .ok (.iconst 1, 1) := dc0 dO_4 (by decide +kernel)
theorem dX8_handOver_5 : decode cX8_handOver 5 = .ok (.iload_n 2, 1) := dc0 dO_28 (by decide +kernel)
theorem dX8_handOver_6 : decode cX8_handOver 6 = .ok (.isub, 1) := dc0 dO_100 (by decide +kernel)
theorem dX8_handOver_7 : decode cX8_handOver 7 = .ok (.iload_n 3, 1) := dc0 dO_29 (by decide +kernel)
theorem dX8_handOver_8 : decode cX8_handOver 8 = .ok (.invokestatic 99, 3) := dcU2 dO_184 (by decide +kernel)
theorem dX8_handOver_11 : decode cX8_handOver 11 = .ok (.aaload, 1) := dc0 dO_50 (by decide +kernel)
theorem dX8_handOver_12 : decode cX8_handOver 12 = .ok (.astore 4, 2) := dcU1 dO_58 (by decide +kernel)
theorem dX8_handOver_14 : decode cX8_handOver 14 = .ok (.aload 4, 2) := dcU1 dO_25 (by decide +kernel)
theorem dX8_handOver_16 : decode cX8_handOver 16 = .ok (.aload_n 1, 1) := dc0 dO_43 (by decide +kernel)
theorem dX8_handOver_17 : decode cX8_handOver 17 = .ok (.getfield 103, 3) := dcU2 dO_180 (by decide +kernel)
theorem dX8_handOver_20 : decode cX8_handOver 20 = .ok (.iload_n 2, 1) := dc0 dO_28 (by decide +kernel)
theorem dX8_handOver_21 : decode cX8_handOver 21 = .ok (.iload_n 3, 1) := dc0 dO_29 (by decide +kernel)
theorem dX8_handOver_22 : decode cX8_handOver 22 = .ok (.invokestatic 99, 3) := dcU2 dO_184 (by decide +kernel)
theorem dX8_handOver_25 : decode cX8_handOver 25 = .ok (.aaload, 1) := dc0 dO_50 (by decide +kernel)
theorem dX8_handOver_26 : decode cX8_handOver 26 = .ok (.invokevirtual 106, 3) := dcU2 dO_182 (by decide +kernel)
theorem dX8_handOver_29 : decode cX8_handOver 29 = .ok (.aload 4, 2) := dcU1 dO_25 (by decide +kernel)
theorem dX8_handOver_31 : decode cX8_handOver 31 = .ok (.aload_n 0, 1) := dc0 dO_42 (by decide +kernel)
theorem dX8_handOver_32 : decode cX8_handOver 32 = .ok (.getfield 62, 3) := dcU2 dO_180 (by decide +kernel)
theorem dX8_handOver_35 : decode cX8_handOver 35 = .ok (.putfield 110, 3) := dcU2 dO_181 (by decide +kernel)
theorem dX8_handOver_38 : decode cX8_handOver 38 = .ok (.return_, 1) := dc0 dO_177 (by decide +kernel)
theorem dX8_look_0 : decode cX8_look 0 = .ok (.aload_n 0, 1) := dc0 dO_42 (by decide +kernel)
theorem dX8_look_1 : decode cX8_look 1 = .ok (.getfield 9, 3) := dcU2 dO_180 (by decide +kernel)
theorem dX8_look_4 : decode cX8_look 4 = .ok (.getfield 162, 3) := dcU2 dO_180 (by decide +kernel)
theorem dX8_look_7 : decode cX8_look 7 = .ok (.iload_n 1, 1) := dc0 dO_27 (by decide +kernel)
theorem dX8_look_8 : decode cX8_look 8 = .ok (.aaload, 1) := dc0 dO_50 (by decide +kernel)
theorem dX8_look_9 : decode cX8_look 9 = .ok (.astore_n 3, 1) := dc0 dO_78 (by decide +kernel)
theorem dX8_look_10 : decode cX8_look 10 = .ok (.aload_n 0, 1) := dc0 dO_42 (by decide +kernel)
theorem dX8_look_11 : decode cX8_look 11 = .ok (.getfield 46, 3) := dcU2 dO_180 (by decide +kernel)
theorem dX8_look_14 : decode cX8_look 14 = .ok (.astore 4, 2) := dcU1 dO_58 (by decide +kernel)
theorem dX8_look_16 : decode cX8_look 16 = .ok (.ldc 166, 2) := dcU1 dO_18 (by decide +kernel)
theorem dX8_look_18 : decode cX8_look 18 = .ok (.istore 5, 2) := dcU1 dO_54 (by decide +kernel)
theorem dX8_look_20 : decode cX8_look 20 = .ok (.aload_n 3, 1) := dc0 dO_45 (by decide +kernel)
theorem dX8_look_21 : decode cX8_look 21 = .ok (.getfield 167, 3) := dcU2 dO_180 (by decide +kernel)
theorem dX8_look_24 : decode cX8_look 24 = .ok (.iload_n 2, 1) := dc0 dO_28 (by decide +kernel)
theorem dX8_look_25 : decode cX8_look 25 = .ok (.iaload, 1) := dc0 dO_46 (by decide +kernel)
theorem dX8_look_26 : decode cX8_look 26 = .ok (.iconst (-1), 1) := dc0 dO_2 (by decide +kernel)
theorem dX8_look_27 : decode cX8_look 27 = .ok (.if_icmp .eq 30, 3) := dcS2 dO_159 (by decide +kernel)
theorem dX8_look_30 : decode cX8_look 30 = .ok (.aload_n 0, 1) := dc0 dO_42 (by decide +kernel)
theorem dX8_look_31 : decode cX8_look 31 = .ok (.getfield 42, 3) := dcU2 dO_180 (by decide +kernel)
theorem dX8_look_34 : decode cX8_look 34 = .ok (.iload_n 2, 1) := dc0 dO_28 (by decide +kernel)
theorem dX8_look_35 : decode cX8_look 35 = .ok (.aload_n 3, 1) := dc0 dO_45 (by decide +kernel)
theorem dX8_look_36 : decode cX8_look 36 = .ok (.getfield 167, 3) := dcU2 dO_180 (by decide +kernel)
theorem dX8_look_39 : decode cX8_look 39 = .ok (.iload_n 2, 1) := dc0 dO_28 (by decide +kernel)
theorem dX8_look_40 : decode cX8_look 40 = .ok (.iaload, 1) := dc0 dO_46 (by decide +kernel)
theorem dX8_look_41 : decode cX8_look 41 = .ok (.invokevirtual 172, 3) := dcU2 dO_182 (by decide +kernel)
theorem dX8_look_44 : decode cX8_look 44 = .ok (.aload_n 0, 1) := dc0 dO_42 (by decide +kernel)
theorem dX8_look_45 : decode cX8_look 45 = .ok (.getfield 42, 3) := dcU2 dO_180 (by decide +kernel)
theorem dX8_look_48 : decode cX8_look 48 = .ok (.astore 4, 2) := dcU1 dO_58 (by decide +kernel)
theorem dX8_look_50 : decode cX8_look 50 = .ok (.bipush (-4), 2) := dcS1 dO_16 (by decide +kernel)
theorem dX8_look_52 : decode cX8_look 52 = .ok (.istore 5, 2) := dcU1 dO_54 (by decide +kernel)
theorem dX8_look_54 : decode cX8_look 54 = .ok (.goto 52, 3) := dcS2 dO_167 (by decide +kernel)
theorem dX8_look_57 : decode cX8_look 57 = .ok (.aload_n 0, 1) := dc0 dO_42 (by decide +kernel)
theorem dX8_look_58 : decode cX8_look 58 = .ok (.iload_n 1, 1) := dc0 dO_27 (by decide +kernel)
theorem dX8_look_59 : decode cX8_look 59 = .ok (.iload_n 2, 1) := dc0 dO_28 (by decide +kernel)
theorem dX8_look_60 : decode cX8_look 60 = .ok (.invokevirtual 175, 3) := dcU2 dO_182 (by decide +kernel)
theorem dX8_look_63 : decode cX8_look 63 = .ok (.aload_n 3, 1) := dc0 dO_45 (by decide +kernel)
theorem dX8_look_64 : decode cX8_look 64 = .ok (.getfield 178, 3) := dcU2 dO_180 (by decide +kernel)
theorem dX8_look_67 : decode cX8_look 67 = .ok (.ifCond .eq 11, 3) := dcS2 dO_153 (by decide +kernel)
theorem dX8_look_70 : decode cX8_look 70 = .ok (.aload_n 0, 1) := dc0 dO_42 (by decide +kernel)
theorem dX8_look_71 : decode cX8_look 71 = .ok (.aload_n 3, 1) := dc0 dO_45 (by decide +kernel)
theorem dX8_look_72 : decode cX8_look 72 = .ok (.invokevirtual 181, 3) := dcU2 dO_182 (by decide +kernel)
theorem dX8_look_75 : decode cX8_look 75 = .ok (.goto 8, 3) := dcS2 dO_167 (by decide +kernel)
theorem dX8_look_78 : decode cX8_look 78 = .ok (.aload_n 0, 1) := dc0 dO_42 (by decide +kernel)
theorem dX8_look_79 : decode cX8_look 79 = .ok (.aload_n 3, 1) := dc0 dO_45 (by decide +kernel)
theorem dX8_look_80 : decode cX8_look 80 = .ok (.invokevirtual 185, 3) := dcU2 dO_182 (by decide +kernel)
theorem dX8_look_83 : decode cX8_look 83 = .ok (.istore 6, 2) := dcU1 dO_54 (by decide +kernel)
theorem dX8_look_85 : decode cX8_look 85 = .ok (.iload 6, 2) := dcU1 dO_21 (by decide +kernel)
theorem dX8_look_87 : decode cX8_look 87 = .ok (.ifCond .lt 19, 3) := dcS2 dO_155 (by decide +kernel)
theorem dX8_look_90 : decode cX8_look 90 = .ok (.aload_n 0, 1) := dc0 dO_42 (by decide +kernel)
theorem dX8_look_91 : decode cX8_look 91 = .ok (.getfield 34, 3) := dcU2 dO_180 (by decide +kernel)
theorem dX8_look_94 : decode cX8_look 94 = .ok (.iload 6, 2) := dcU1 dO_21 (by decide +kernel)
theorem dX8_look_96 : decode cX8_look 96 = .ok (.aaload, 1) := dc0 dO_50 (by decide +kernel)
theorem dX8_look_97 : decode cX8_look 97 = .ok (.astore 4, 2) := dcU1 dO_58 (by decide +kernel)
theorem dX8_look_99 : decode cX8_look 99 = .ok (.aload 4, 2) := dcU1 dO_25 (by decide +kernel)
theorem dX8_look_101 : decode cX8_look 101 = .ok (.getfield 188, 3) := dcU2 dO_180 (by decide +kernel)
theorem dX8_look_104 : decode cX8_look 104 = .ok (.istore 5, 2) := dcU1 dO_54 (by decide +kernel)
theorem dX8_look_106 : decode cX8_look 106 = .ok (.iload 5, 2) := dcU1 dO_21 (by decide +kernel)
theorem dX8_look_108 : decode cX8_look 108 = .ok (.aload_n 3, 1) := dc0 dO_45 (by decide +kernel)
theorem dX8_look_109 : decode cX8_look 109 = .ok (.getfield 190, 3) := dcU2 dO_180 (by decide +kernel)
theorem dX8_look_112 : decode cX8_look 112 = .ok (.iload_n 2, 1) := dc0 dO_28 (by decide +kernel)
theorem dX8_look_113 : decode cX8_look 113 = .ok (.iaload, 1) := dc0 dO_46 (by decide +kernel)
theorem dX8_look_114 : decode cX8_look 114 = .ok (.if_icmp .ne 18, 3) := dcS2 dO_160 (by decide +kernel)
theorem dX8_look_117 : decode cX8_look 117 = .ok (.aload 4, 2) := dcU1 dO_25 (by decide +kernel)
theorem dX8_look_119 : decode cX8_look 119 = .ok (.aload_n 3, 1) := dc0 dO_45 (by decide +kernel)
theorem dX8_look_120 : decode cX8_look 120 = .ok (.getfield 193, 3) := dcU2 dO_180 (by decide +kernel)
theorem dX8_look_123 : decode cX8_look 123 = .ok (.iload_n 2, 1) := dc0 dO_28 (by decide +kernel)
theorem dX8_look_124 : decode cX8_look 124 = .ok (.aaload, 1) := dc0 dO_50 (by decide +kernel)
theorem dX8_look_125 : decode cX8_look 125 = .ok (.invokevirtual 196, 3) := dcU2 dO_182 (by decide +kernel)
theorem sfx_cX8_look_128 : (cX8_look.data.toList.drop 128).take 67 = [153, 0, 4, 177, 45, 180, 0, 190, 28, 21, 5, 79, 45, 180, 0, 193, 28, 50, 25, 4, 182, 0, 106, 3, 54, 6, 21, 6, 42, 180, 0, 9, 180, 0, 153, 162, 0, 39, 42, 180, 0, 9, 180, 0, 76, 21, 6, 50, 27, 182, 0, 156, 54, 7, 21, 7, 155, 0, 12, 42, 21, 6, 21, 7, 28, 182, 0] := by decide +kernel
theorem dX8_look_128 : decode cX8_look 128 = .ok (.ifCond .eq 4, 3) := dcS2 dO_153 (rdS2.ch sfx_cX8_look_128 0 rfl (by decide +kernel))
theorem dX8_look_131 : decode cX8_look 131 = .ok (.return_, 1) := dc0 dO_177 (rdB.ch sfx_cX8_look_128 3 rfl (by decide +kernel))
theorem dX8_look_132 : decode cX8_look 132 = .ok (.aload_n 3, 1) := dc0 dO_45 (rdB.ch sfx_cX8_look_128 4 rfl (by decide +kernel))
theorem dX8_look_133 : decode cX8_look 133 = .ok (.getfield 190, 3) := dcU2 dO_180 (rdU2.ch sfx_cX8_look_128 5 rfl (by decide +kernel))
theorem dX8_look_136 : decode cX8_look 136 = .ok (.iload_n 2, 1) := dc0 dO_28 (rdB.ch sfx_cX8_look_128 8 rfl (by decide +kernel))
theorem dX8_look_137 : decode cX8_look 137 = .ok (.iload 5, 2) := dcU1 dO_21 (rdU1.ch sfx_cX8_look_128 9 rfl (by decide +kernel))
theorem dX8_look_139 : decode cX8_look 139 = .ok (.iastore, 1) := dc0 dO_79 (rdB.ch sfx_cX8_look_128 11 rfl (by decide +kernel))
theorem dX8_look_140 : decode cX8_look 140 = .ok (.aload_n 3, 1) := dc0 dO_45 (rdB.ch sfx_cX8_look_128 12 rfl (by decide +kernel))
theorem dX8_look_141 : decode cX8_look 141 = .ok (.getfield 193, 3) := dcU2 dO_180 (rdU2.ch sfx_cX8_look_128 13 rfl (by decide +kernel))
theorem dX8_look_144 : decode cX8_look 144 = .ok (.iload_n 2, 1) := dc0 dO_28 (rdB.ch sfx_cX8_look_128 16 rfl (by decide +kernel))
theorem dX8_look_145 : decode cX8_look 145 = .ok (.aaload, 1) := dc0 dO_50 (rdB.ch sfx_cX8_look_128 17 rfl (by decide +kernel))
theorem dX8_look_146 : decode cX8_look 146 = .ok (.aload 4, 2) := dcU1 dO_25 (rdU1.ch sfx_cX8_look_128 18 rfl (by decide +kernel))
theorem dX8_look_148 : decode cX8_look 148 = .ok (.invokevirtual 106, 3) := dcU2 dO_182 (rdU2.ch sfx_cX8_look_128 20 rfl (by decide +kernel))
theorem dX8_look_151 : decode cX8_look 151 = .ok (.iconst 0, 1) := dc0 dO_3 (rdB.ch sfx_cX8_look_128 23 rfl (by decide +kernel))
theorem dX8_look_152 : decode cX8_look 152 = .ok (.istore 6, 2) := dcU1 dO_54 (rdU1.ch sfx_cX8_look_128 24 rfl (by decide +kernel))
theorem dX8_look_154 : decode cX8_look 154 = .ok (.iload 6, 2) := dcU1 dO_21 (rdU1.ch sfx_cX8_look_128 26 rfl (by decide +kernel))
theorem dX8_look_156 : decode cX8_look 156 = .ok (.aload_n 0, 1) := dc0 dO_42 (rdB.ch sfx_cX8_look_128 28 rfl (by decide +kernel))
theorem dX8_look_157 : decode cX8_look 157 = .ok (.getfield 9, 3) := dcU2 dO_180 (rdU2.ch sfx_cX8_look_128 29 rfl (by decide +kernel))
theorem dX8_look_160 : decode cX8_look 160 = .ok (.getfield 153, 3) := dcU2 dO_180 (rdU2.ch sfx_cX8_look_128 32 rfl (by decide +kernel))
theorem dX8_look_163 : decode cX8_look 163 = .ok (.if_icmp .ge 39, 3) := dcS2 dO_162 (rdS2.ch sfx_cX8_look_128 35 rfl (by decide +kernel))
theorem dX8_look_166 : decode cX8_look 166 = .ok (.aload_n 0, 1) := dc0 dO_42 (rdB.ch sfx_cX8_look_128 38 rfl (by decide +kernel))
theorem dX8_look_167 : decode cX8_look 167 = .ok (.getfield 9, 3) := dcU2 dO_180 (rdU2.ch sfx_cX8_look_128 39 rfl (by decide +kernel))
theorem dX8_look_170 : decode cX8_look 170 = .ok (.getfield 76, 3) := dcU2 dO_180 (rdU2.ch sfx_cX8_look_128 42 rfl (by decide +kernel))
theorem dX8_look_173 : decode cX8_look 173 = .ok (.iload 6, 2) := dcU1 dO_21 (rdU1.ch sfx_cX8_look_128 45 rfl (by decide +kernel))
theorem dX8_look_175 : decode cX8_look 175 = .ok (.aaload, 1) := dc0 dO_50 (rdB.ch sfx_cX8_look_128 47 rfl (by decide +kernel))
theorem dX8_look_176 : decode cX8_look 176 = .ok (.iload_n 1, 1) := dc0 dO_27 (rdB.ch sfx_cX8_look_128 48 rfl (by decide +kernel))
theorem dX8_look_177 : decode cX8_look 177 = .ok (.invokevirtual 156, 3) := dcU2 dO_182 (rdU2.ch sfx_cX8_look_128 49 rfl (by decide +kernel))
theorem dX8_look_180 : decode cX8_look 180 = .ok (.istore 7, 2) := dcU1 dO_54 (rdU1.ch sfx_cX8_look_128 52 rfl (by decide +kernel))
theorem dX8_look_182 : decode cX8_look 182 = .ok (.iload 7, 2) := dcU1 dO_21 (rdU1.ch sfx_cX8_look_128 54 rfl (by decide +kernel))
theorem dX8_look_184 : decode cX8_look 184 = .ok (.ifCond .lt 12, 3) := dcS2 dO_155 (rdS2.ch sfx_cX8_look_128 56 rfl (by decide +kernel))
theorem dX8_look_187 : decode cX8_look 187 = .ok (.aload_n 0, 1) := dc0 dO_42 (rdB.ch sfx_cX8_look_128 59 rfl (by decide +kernel))
theorem dX8_look_188 : decode cX8_look 188 = .ok (.iload 6, 2) := dcU1 dO_21 (rdU1.ch sfx_cX8_look_128 60 rfl (by decide +kernel))
theorem dX8_look_190 : decode cX8_look 190 = .ok (.iload 7, 2) := dcU1 dO_21 (rdU1.ch sfx_cX8_look_128 62 rfl (by decide +kernel))
theorem sfx_cX8_look_192 : (cX8_look.data.toList.drop 192).take 67 = [28, 182, 0, 72, 132, 6, 1, 167, 255, 211, 177] := by decide +kernel
theorem dX8_look_192 : decode cX8_look 192 = .ok (.iload_n 2, 1) := dc0 dO_28 (rdB.ch sfx_cX8_look_192 0 rfl (by decide +kernel))
theorem dX8_look_193 : decode cX8_look 193 = .ok (.invokevirtual 72, 3) := dcU2 dO_182 (rdU2.ch sfx_cX8_look_192 1 rfl (by decide +kernel))
theorem dX8_look_196 : decode cX8_look 196 = .ok (.iinc 6 1, 3) := dcI dO_132 (rdI.ch sfx_cX8_look_192 4 rfl (by decide +kernel))
theorem dX8_look_199 : decode cX8_look 199 = .ok (.goto (-45), 3) := dcS2 dO_167 (rdS2.ch sfx_cX8_look_192 7 rfl (by decide +kernel))
theorem dX8_look_202 : decode cX8_look 202 = .ok (.return_, 1) := dc0 dO_177 (rdB.ch sfx_cX8_look_192 10 rfl (by decide +kernel))
theorem dX8_lookAtAll_0 : decode cX8_lookAtAll 0 = .ok (.iconst 0, 1) := dc0 dO_3 (by decide +kernel)
theorem dX8_lookAtAll_1 : decode cX8_lookAtAll 1 = .ok (.istore_n 2, 1) := dc0 dO_61 (by decide +kernel)
theorem dX8_lookAtAll_2 : decode cX8_lookAtAll 2 = .ok (.iload_n 2, 1) := dc0 dO_28 (by decide +kernel)
theorem dX8_lookAtAll_3 : decode cX8_lookAtAll 3 = .ok (.aload_n 0, 1) := dc0 dO_42 (by decide +kernel)
theorem dX8_lookAtAll_4 : decode cX8_lookAtAll 4 = .ok (.getfield 9, 3) := dcU2 dO_180 (by decide +kernel)
theorem dX8_lookAtAll_7 : decode cX8_lookAtAll 7 = .ok (.getfield 150, 3) := dcU2 dO_180 (by decide +kernel)
theorem dX8_lookAtAll_10 : decode cX8_lookAtAll 10 = .ok (.if_icmp .ge 15, 3) := dcS2 dO_162 (by decide +kernel)
theorem dX8_lookAtAll_13 : decode cX8_lookAtAll 13 = .ok (.aload_n 0, 1) := dc0 dO_42 (by decide +kernel)
theorem dX8_lookAtAll_14 : decode cX8_lookAtAll 14 = .ok (.iload_n 1, 1) := dc0 dO_27 (by decide +kernel)
theorem dX8_lookAtAll_15 : decode cX8_lookAtAll 15 = .ok (.iload_n 2, 1) := dc0 dO_28 (by decide +kernel)
theorem dX8_lookAtAll_16 : decode cX8_lookAtAll 16 = .ok (.invokevirtual 92, 3) := dcU2 dO_182 (by decide +kernel)
theorem dX8_lookAtAll_19 : decode cX8_lookAtAll 19 = .ok (.iinc 2 1, 3) := dcI dO_132 (by decide +kernel)
theorem dX8_lookAtAll_22 : decode cX8_lookAtAll 22 = .ok (.goto (-20), 3) := dcS2 dO_167 (by decide +kernel)
theorem dX8_lookAtAll_25 : decode cX8_lookAtAll 25 = .ok (.return_, 1) := dc0 dO_177 (by decide +kernel)
theorem dX8_reason_0 : decode cX8_reason 0 = .ok (.aload_n 0, 1) := dc0 dO_42 (by decide +kernel)
theorem dX8_reason_1 : decode cX8_reason 1 = .ok (.getfield 9, 3) := dcU2 dO_180 (by decide +kernel)
theorem dX8_reason_4 : decode cX8_reason 4 = .ok (.getfield 76, 3) := dcU2 dO_180 (by decide +kernel)
theorem dX8_reason_7 : decode cX8_reason 7 = .ok (.iload_n 1, 1) := dc0 dO_27 (by decide +kernel)
theorem dX8_reason_8 : decode cX8_reason 8 = .ok (.aaload, 1) := dc0 dO_50 (by decide +kernel)
theorem dX8_reason_9 : decode cX8_reason 9 = .ok (.astore 4, 2) := dcU1 dO_58 (by decide +kernel)
theorem dX8_reason_11 : decode cX8_reason 11 = .ok (.aload 4, 2) := dcU1 dO_25 (by decide +kernel)
theorem dX8_reason_13 : decode cX8_reason 13 = .ok (.getfield 96, 3) := dcU2 dO_180 (by decide +kernel)
theorem dX8_reason_16 : decode cX8_reason 16 = .ok (.iload_n 2, 1) := dc0 dO_28 (by decide +kernel)
theorem dX8_reason_17 : decode cX8_reason 17 = .ok (.iload_n 3, 1) := dc0 dO_29 (by decide +kernel)
theorem dX8_reason_18 : decode cX8_reason 18 = .ok (.invokestatic 99, 3) := dcU2 dO_184 (by decide +kernel)
theorem dX8_reason_21 : decode cX8_reason 21 = .ok (.aaload, 1) := dc0 dO_50 (by decide +kernel)
theorem dX8_reason_22 : decode cX8_reason 22 = .ok (.astore 5, 2) := dcU1 dO_58 (by decide +kernel)
theorem dX8_reason_24 : decode cX8_reason 24 = .ok (.aload 4, 2) := dcU1 dO_25 (by decide +kernel)
theorem dX8_reason_26 : decode cX8_reason 26 = .ok (.iload_n 2, 1) := dc0 dO_28 (by decide +kernel)
theorem dX8_reason_27 : decode cX8_reason 27 = .ok (.invokevirtual 86, 3) := dcU2 dO_182 (by decide +kernel)
theorem dX8_reason_30 : decode cX8_reason 30 = .ok (.istore 6, 2) := dcU1 dO_54 (by decide +kernel)
theorem dX8_reason_32 : decode cX8_reason 32 = .ok (.aload_n 0, 1) := dc0 dO_42 (by decide +kernel)
theorem dX8_reason_33 : decode cX8_reason 33 = .ok (.getfield 9, 3) := dcU2 dO_180 (by decide +kernel)
theorem dX8_reason_36 : decode cX8_reason 36 = .ok (.getfield 162, 3) := dcU2 dO_180 (by decide +kernel)
theorem dX8_reason_39 : decode cX8_reason 39 = .ok (.iload 6, 2) := dcU1 dO_21 (by decide +kernel)
theorem dX8_reason_41 : decode cX8_reason 41 = .ok (.aaload, 1) := dc0 dO_50 (by decide +kernel)
theorem dX8_reason_42 : decode cX8_reason 42 = .ok (.astore 7, 2) := dcU1 dO_58 (by decide +kernel)
theorem dX8_reason_44 : decode cX8_reason 44 = .ok (.aload 5, 2) := dcU1 dO_25 (by decide +kernel)
theorem dX8_reason_46 : decode cX8_reason 46 = .ok (.getfield 203, 3) := dcU2 dO_180 (by decide +kernel)
theorem dX8_reason_49 : decode cX8_reason 49 = .ok (.ifCond .ne 6, 3) := dcS2 dO_154 (by decide +kernel)
theorem dX8_reason_52 : decode cX8_reason 52 = .ok (.ldc 166, 2) := dcU1 dO_18 (by decide +kernel)
theorem dX8_reason_54 : decode cX8_reason 54 = .ok (.ireturn, 1) := dc0 dO_172 (by decide +kernel)
theorem dX8_reason_55 : decode cX8_reason 55 = .ok (.aload 7, 2) := dcU1 dO_25 (by decide +kernel)
theorem dX8_reason_57 : decode cX8_reason 57 = .ok (.getfield 167, 3) := dcU2 dO_180 (by decide +kernel)
theorem dX8_reason_60 : decode cX8_reason 60 = .ok (.iload_n 3, 1) := dc0 dO_29 (by decide +kernel)
theorem dX8_reason_61 : decode cX8_reason 61 = .ok (.iaload, 1) := dc0 dO_46 (by decide +kernel)
theorem dX8_reason_62 : decode cX8_reason 62 = .ok (.iconst (-1), 1) := dc0 dO_2 (by decide +kernel)
theorem dX8_reason_63 : decode cX8_reason 63 = .ok (.if_icmp .eq 6, 3) := dcS2 dO_159 (by decide +kernel)
theorem dX8_reason_66 : decode cX8_reason 66 = .ok (.bipush 8, 2) := dcS1 dO_16 (by decide +kernel)
theorem dX8_reason_68 : decode cX8_reason 68 = .ok (.ireturn, 1) := dc0 dO_172 (by decide +kernel)
theorem dX8_reason_69 : decode cX8_reason 69 = .ok (.aload 5, 2) := dcU1 dO_25 (by decide +kernel)
theorem dX8_reason_71 : decode cX8_reason 71 = .ok (.iload 6, 2) := dcU1 dO_21 (by decide +kernel)
theorem dX8_reason_73 : decode cX8_reason 73 = .ok (.invokevirtual 206, 3) := dcU2 dO_182 (by decide +kernel)
theorem dX8_reason_76 : decode cX8_reason 76 = .ok (.ifCond .eq 6, 3) := dcS2 dO_153 (by decide +kernel)
theorem dX8_reason_79 : decode cX8_reason 79 = .ok (.bipush 9, 2) := dcS1 dO_16 (by decide +kernel)
theorem dX8_reason_81 : decode cX8_reason 81 = .ok (.ireturn, 1) := dc0 dO_172 (by decide +kernel)
theorem dX8_reason_82 : decode cX8_reason 82 = .ok (.aload_n 0, 1) := dc0 dO_42 (by decide +kernel)
theorem dX8_reason_83 : decode cX8_reason 83 = .ok (.iload 6, 2) := dcU1 dO_21 (by decide +kernel)
theorem dX8_reason_85 : decode cX8_reason 85 = .ok (.iload_n 3, 1) := dc0 dO_29 (by decide +kernel)
theorem dX8_reason_86 : decode cX8_reason 86 = .ok (.invokevirtual 175, 3) := dcU2 dO_182 (by decide +kernel)
theorem dX8_reason_89 : decode cX8_reason 89 = .ok (.aload_n 0, 1) := dc0 dO_42 (by decide +kernel)
theorem dX8_reason_90 : decode cX8_reason 90 = .ok (.iload_n 1, 1) := dc0 dO_27 (by decide +kernel)
theorem dX8_reason_91 : decode cX8_reason 91 = .ok (.invokevirtual 276, 3) := dcU2 dO_182 (by decide +kernel)
theorem dX8_reason_94 : decode cX8_reason 94 = .ok (.istore 8, 2) := dcU1 dO_54 (by decide +kernel)
theorem dX8_reason_96 : decode cX8_reason 96 = .ok (.aload_n 0, 1) := dc0 dO_42 (by decide +kernel)
theorem dX8_reason_97 : decode cX8_reason 97 = .ok (.aload 7, 2) := dcU1 dO_25 (by decide +kernel)
theorem dX8_reason_99 : decode cX8_reason 99 = .ok (.getfield 190, 3) := dcU2 dO_180 (by decide +kernel)
theorem dX8_reason_102 : decode cX8_reason 102 = .ok (.iload_n 3, 1) := dc0 dO_29 (by decide +kernel)
theorem dX8_reason_103 : decode cX8_reason 103 = .ok (.iaload, 1) := dc0 dO_46 (by decide +kernel)
theorem dX8_reason_104 : decode cX8_reason 104 = .ok (.invokevirtual 276, 3) := dcU2 dO_182 (by decide +kernel)
theorem dX8_reason_107 : decode cX8_reason 107 = .ok (.istore 9, 2) := dcU1 dO_54 (by decide +kernel)
theorem dX8_reason_109 : decode cX8_reason 109 = .ok (.iload 8, 2) := dcU1 dO_21 (by decide +kernel)
theorem dX8_reason_111 : decode cX8_reason 111 = .ok (.ifCond .ge 6, 3) := dcS2 dO_156 (by decide +kernel)
theorem dX8_reason_114 : decode cX8_reason 114 = .ok (.bipush 10, 2) := dcS1 dO_16 (by decide +kernel)
theorem dX8_reason_116 : decode cX8_reason 116 = .ok (.ireturn, 1) := dc0 dO_172 (by decide +kernel)
theorem dX8_reason_117 : decode cX8_reason 117 = .ok (.iload 8, 2) := dcU1 dO_21 (by decide +kernel)
theorem dX8_reason_119 : decode cX8_reason 119 = .ok (.iload 9, 2) := dcU1 dO_21 (by decide +kernel)
theorem dX8_reason_121 : decode cX8_reason 121 = .ok (.if_icmp .eq 8, 3) := dcS2 dO_159 (by decide +kernel)
theorem dX8_reason_124 : decode cX8_reason 124 = .ok (.iload 9, 2) := dcU1 dO_21 (by decide +kernel)
theorem dX8_reason_126 : decode cX8_reason 126 = .ok (.ifCond .ge 5, 3) := dcS2 dO_156 (by decide +kernel)
theorem sfx_cX8_reason_128 : (cX8_reason.data.toList.drop 128).take 67 = [5, 3, 172, 25, 7, 42, 180, 0, 34, 21, 8, 50, 42, 180, 0, 34, 21, 9, 50, 182, 1, 23, 172] := by decide +kernel
theorem dX8_reason_129 : decode cX8_reason 129 = .ok (.iconst 0, 1) := dc0 dO_3 (rdB.ch sfx_cX8_reason_128 1 rfl (by decide +kernel))
theorem dX8_reason_130 : decode cX8_reason 130 = .ok (.ireturn, 1) := dc0 dO_172 (rdB.ch sfx_cX8_reason_128 2 rfl (by decide +kernel))
theorem dX8_reason_131 : decode cX8_reason 131 = .ok (.aload 7, 2) := dcU1 dO_25 (rdU1.ch sfx_cX8_reason_128 3 rfl (by decide +kernel))
theorem dX8_reason_133 : decode cX8_reason 133 = .ok (.aload_n 0, 1) := dc0 dO_42 (rdB.ch sfx_cX8_reason_128 5 rfl (by decide +kernel))
theorem dX8_reason_134 : decode cX8_reason 134 = .ok (.getfield 34, 3) := dcU2 dO_180 (rdU2.ch sfx_cX8_reason_128 6 rfl (by decide +kernel))
theorem dX8_reason_137 : decode cX8_reason 137 = .ok (.iload 8, 2) := dcU1 dO_21 (rdU1.ch sfx_cX8_reason_128 9 rfl (by decide +kernel))
theorem dX8_reason_139 : decode cX8_reason 139 = .ok (.aaload, 1) := dc0 dO_50 (rdB.ch sfx_cX8_reason_128 11 rfl (by decide +kernel))
theorem dX8_reason_140 : decode cX8_reason 140 = .ok (.aload_n 0, 1) := dc0 dO_42 (rdB.ch sfx_cX8_reason_128 12 rfl (by decide +kernel))
theorem dX8_reason_141 : decode cX8_reason 141 = .ok (.getfield 34, 3) := dcU2 dO_180 (rdU2.ch sfx_cX8_reason_128 13 rfl (by decide +kernel))
theorem dX8_reason_144 : decode cX8_reason 144 = .ok (.iload 9, 2) := dcU1 dO_21 (rdU1.ch sfx_cX8_reason_128 16 rfl (by decide +kernel))
theorem dX8_reason_146 : decode cX8_reason 146 = .ok (.aaload, 1) := dc0 dO_50 (rdB.ch sfx_cX8_reason_128 18 rfl (by decide +kernel))
theorem dX8_reason_147 : decode cX8_reason 147 = .ok (.invokevirtual 279, 3) := dcU2 dO_182 (rdU2.ch sfx_cX8_reason_128 19 rfl (by decide +kernel))
theorem dX8_reason_150 : decode cX8_reason 150 = .ok (.ireturn, 1) := dc0 dO_172 (rdB.ch sfx_cX8_reason_128 22 rfl (by decide +kernel))
theorem dX8_say_0 : decode cX8_say 0 = .ok (.aload_n 0, 1) := dc0 dO_42 (by decide +kernel)
theorem dX8_say_1 : decode cX8_say 1 = .ok (.getfield 9, 3) := dcU2 dO_180 (by decide +kernel)
theorem dX8_say_4 : decode cX8_say 4 = .ok (.getfield 76, 3) := dcU2 dO_180 (by decide +kernel)
theorem dX8_say_7 : decode cX8_say 7 = .ok (.iload_n 1, 1) := dc0 dO_27 (by decide +kernel)
theorem dX8_say_8 : decode cX8_say 8 = .ok (.aaload, 1) := dc0 dO_50 (by decide +kernel)
theorem dX8_say_9 : decode cX8_say 9 = .ok (.astore 4, 2) := dcU1 dO_58 (by decide +kernel)
theorem dX8_say_11 : decode cX8_say 11 = .ok (.aload 4, 2) := dcU1 dO_25 (by decide +kernel)
theorem dX8_say_13 : decode cX8_say 13 = .ok (.getfield 136, 3) := dcU2 dO_180 (by decide +kernel)
theorem dX8_say_16 : decode cX8_say 16 = .ok (.ifCond .ne 4, 3) := dcS2 dO_154 (by decide +kernel)
theorem dX8_say_19 : decode cX8_say 19 = .ok (.return_, 1) := dc0 dO_177 (by decide +kernel)
theorem dX8_say_20 : decode cX8_say 20 = .ok (.aload_n 0, 1) := dc0 dO_42 (by decide +kernel)
theorem dX8_say_21 : decode cX8_say 21 = .ok (.aload 4, 2) := dcU1 dO_25 (by decide +kernel)
theorem dX8_say_23 : decode cX8_say 23 = .ok (.iload_n 1, 1) := dc0 dO_27 (by decide +kernel)
theorem dX8_say_24 : decode cX8_say 24 = .ok (.iload_n 2, 1) := dc0 dO_28 (by decide +kernel)
theorem dX8_say_25 : decode cX8_say 25 = .ok (.iload_n 3, 1) := dc0 dO_29 (by decide +kernel)
theorem dX8_say_26 : decode cX8_say 26 = .ok (.invokevirtual 256, 3) := dcU2 dO_182 (by decide +kernel)
theorem dX8_say_29 : decode cX8_say 29 = .ok (.aload_n 0, 1) := dc0 dO_42 (by decide +kernel)
theorem dX8_say_30 : decode cX8_say 30 = .ok (.getfield 49, 3) := dcU2 dO_180 (by decide +kernel)
theorem dX8_say_33 : decode cX8_say 33 = .ok (.getfield 203, 3) := dcU2 dO_180 (by decide +kernel)
theorem dX8_say_36 : decode cX8_say 36 = .ok (.ifCond .eq 39, 3) := dcS2 dO_153 (by decide +kernel)
theorem dX8_say_39 : decode cX8_say 39 = .ok (.aload_n 0, 1) := dc0 dO_42 (by decide +kernel)
theorem dX8_say_40 : decode cX8_say 40 = .ok (.getfield 15, 3) := dcU2 dO_180 (by decide +kernel)
theorem dX8_say_43 : decode cX8_say 43 = .ok (.aload 4, 2) := dcU1 dO_25 (by decide +kernel)
theorem dX8_say_45 : decode cX8_say 45 = .ok (.getfield 213, 3) := dcU2 dO_180 (by decide +kernel)
theorem dX8_say_48 : decode cX8_say 48 = .ok (.iload_n 2, 1) := dc0 dO_28 (by decide +kernel)
theorem dX8_say_49 : decode cX8_say 49 = .ok (.iconst 2, 1) := dc0 dO_5 (by decide +kernel)
theorem dX8_say_50 : decode cX8_say 50 = .ok (.imul, 1) := dc0 dO_104 (by decide +kernel)
theorem dX8_say_51 : decode cX8_say 51 = .ok (.iconst 1, 1) := dc0 dO_4 (by decide +kernel)
theorem dX8_say_52 : decode cX8_say 52 = .ok (.iadd, 1) := dc0 dO_96 (by decide +kernel)
theorem dX8_say_53 : decode cX8_say 53 = .ok (.iaload, 1) := dc0 dO_46 (by decide +kernel)
theorem dX8_say_54 : decode cX8_say 54 = .ok (.aload_n 0, 1) := dc0 dO_42 (by decide +kernel)
theorem dX8_say_55 : decode cX8_say 55 = .ok (.getfield 49, 3) := dcU2 dO_180 (by decide +kernel)
theorem dX8_say_58 : decode cX8_say 58 = .ok (.aload 4, 2) := dcU1 dO_25 (by decide +kernel)
theorem dX8_say_60 : decode cX8_say 60 = .ok (.iload_n 2, 1) := dc0 dO_28 (by decide +kernel)
theorem dX8_say_61 : decode cX8_say 61 = .ok (.invokevirtual 216, 3) := dcU2 dO_182 (by decide +kernel)
theorem dX8_say_64 : decode cX8_say 64 = .ok (.ifCond .ne 11, 3) := dcS2 dO_154 (by decide +kernel)
theorem dX8_say_67 : decode cX8_say 67 = .ok (.aload_n 0, 1) := dc0 dO_42 (by decide +kernel)
theorem dX8_say_68 : decode cX8_say 68 = .ok (.getfield 49, 3) := dcU2 dO_180 (by decide +kernel)
theorem dX8_say_71 : decode cX8_say 71 = .ok (.iconst 0, 1) := dc0 dO_3 (by decide +kernel)
theorem dX8_say_72 : decode cX8_say 72 = .ok (.putfield 203, 3) := dcU2 dO_181 (by decide +kernel)
theorem dX8_say_75 : decode cX8_say 75 = .ok (.aload_n 0, 1) := dc0 dO_42 (by decide +kernel)
theorem dX8_say_76 : decode cX8_say 76 = .ok (.getfield 49, 3) := dcU2 dO_180 (by decide +kernel)
theorem dX8_say_79 : decode cX8_say 79 = .ok (.bipush 100, 2) := dcS1 dO_16 (by decide +kernel)
theorem dX8_say_81 : decode cX8_say 81 = .ok (.putfield 260, 3) := dcU2 dO_181 (by decide +kernel)
theorem dX8_say_84 : decode cX8_say 84 = .ok (.aload 4, 2) := dcU1 dO_25 (by decide +kernel)
theorem dX8_say_86 : decode cX8_say 86 = .ok (.getfield 103, 3) := dcU2 dO_180 (by decide +kernel)
theorem dX8_say_89 : decode cX8_say 89 = .ok (.iload_n 2, 1) := dc0 dO_28 (by decide +kernel)
theorem dX8_say_90 : decode cX8_say 90 = .ok (.iload_n 3, 1) := dc0 dO_29 (by decide +kernel)
theorem dX8_say_91 : decode cX8_say 91 = .ok (.invokestatic 99, 3) := dcU2 dO_184 (by decide +kernel)
theorem dX8_say_94 : decode cX8_say 94 = .ok (.aaload, 1) := dc0 dO_50 (by decide +kernel)
theorem dX8_say_95 : decode cX8_say 95 = .ok (.astore 5, 2) := dcU1 dO_58 (by decide +kernel)
theorem dX8_say_97 : decode cX8_say 97 = .ok (.aload_n 0, 1) := dc0 dO_42 (by decide +kernel)
theorem dX8_say_98 : decode cX8_say 98 = .ok (.getfield 49, 3) := dcU2 dO_180 (by decide +kernel)
theorem dX8_say_101 : decode cX8_say 101 = .ok (.aload 5, 2) := dcU1 dO_25 (by decide +kernel)
theorem dX8_say_103 : decode cX8_say 103 = .ok (.invokevirtual 196, 3) := dcU2 dO_182 (by decide +kernel)
theorem dX8_say_106 : decode cX8_say 106 = .ok (.ifCond .eq 4, 3) := dcS2 dO_153 (by decide +kernel)
theorem dX8_say_109 : decode cX8_say 109 = .ok (.return_, 1) := dc0 dO_177 (by decide +kernel)
theorem dX8_say_110 : decode cX8_say 110 = .ok (.aload 5, 2) := dcU1 dO_25 (by decide +kernel)
theorem dX8_say_112 : decode cX8_say 112 = .ok (.getfield 110, 3) := dcU2 dO_180 (by decide +kernel)
theorem dX8_say_115 : decode cX8_say 115 = .ok (.iconst (-1), 1) := dc0 dO_2 (by decide +kernel)
theorem dX8_say_116 : decode cX8_say 116 = .ok (.if_icmp .eq 59, 3) := dcS2 dO_159 (by decide +kernel)
theorem dX8_say_119 : decode cX8_say 119 = .ok (.aload_n 0, 1) := dc0 dO_42 (by decide +kernel)
theorem dX8_say_120 : decode cX8_say 120 = .ok (.getfield 62, 3) := dcU2 dO_180 (by decide +kernel)
theorem dX8_say_123 : decode cX8_say 123 = .ok (.aload 5, 2) := dcU1 dO_25 (by decide +kernel)
theorem dX8_say_125 : decode cX8_say 125 = .ok (.getfield 110, 3) := dcU2 dO_180 (by decide +kernel)
theorem sfx_cX8_say_128 : (cX8_say.data.toList.drop 128).take 67 = [25, 4, 180, 1, 7, 96, 162, 0, 41, 27, 28, 29, 4, 184, 0, 143, 54, 6, 42, 180, 0, 23, 21, 6, 46, 2, 160, 0, 20, 42, 21, 6, 25, 5, 180, 0, 110, 25, 4, 180, 1, 7, 96, 182, 1, 10, 177, 25, 5, 42, 180, 0, 49, 182, 0, 106, 25, 5, 42, 180, 0, 62, 181, 0, 110, 27, 28] := by decide +kernel
theorem dX8_say_128 : decode cX8_say 128 = .ok (.aload 4, 2) := dcU1 dO_25 (rdU1.ch sfx_cX8_say_128 0 rfl (by decide +kernel))
theorem dX8_say_130 : decode cX8_say 130 = .ok (.getfield 263, 3) := dcU2 dO_180 (rdU2.ch sfx_cX8_say_128 2 rfl (by decide +kernel))
theorem dX8_say_133 : decode cX8_say 133 = .ok (.iadd, 1) := dc0 dO_96 (rdB.ch sfx_cX8_say_128 5 rfl (by decide +kernel))
theorem dX8_say_134 : decode cX8_say 134 = .ok (.if_icmp .ge 41, 3) := dcS2 dO_162 (rdS2.ch sfx_cX8_say_128 6 rfl (by decide +kernel))
theorem dX8_say_137 : decode cX8_say 137 = .ok (.iload_n 1, 1) := dc0 dO_27 (rdB.ch sfx_cX8_say_128 9 rfl (by decide +kernel))
theorem dX8_say_138 : decode cX8_say 138 = .ok (.iload_n 2, 1) := dc0 dO_28 (rdB.ch sfx_cX8_say_128 10 rfl (by decide +kernel))
theorem dX8_say_139 : decode cX8_say 139 = .ok (.iload_n 3, 1) := dc0 dO_29 (rdB.ch sfx_cX8_say_128 11 rfl (by decide +kernel))
theorem dX8_say_140 : decode cX8_say 140 = .ok (.iconst 1, 1) := dc0 dO_4 (rdB.ch sfx_cX8_say_128 12 rfl (by decide +kernel))
theorem dX8_say_141 : decode cX8_say 141 = .ok (.invokestatic 143, 3) := dcU2 dO_184 (rdU2.ch sfx_cX8_say_128 13 rfl (by decide +kernel))
theorem dX8_say_144 : decode cX8_say 144 = .ok (.istore 6, 2) := dcU1 dO_54 (rdU1.ch sfx_cX8_say_128 16 rfl (by decide +kernel))
theorem dX8_say_146 : decode cX8_say 146 = .ok (.aload_n 0, 1) := dc0 dO_42 (rdB.ch sfx_cX8_say_128 18 rfl (by decide +kernel))
theorem dX8_say_147 : decode cX8_say 147 = .ok (.getfield 23, 3) := dcU2 dO_180 (rdU2.ch sfx_cX8_say_128 19 rfl (by decide +kernel))
theorem dX8_say_150 : decode cX8_say 150 = .ok (.iload 6, 2) := dcU1 dO_21 (rdU1.ch sfx_cX8_say_128 22 rfl (by decide +kernel))
theorem dX8_say_152 : decode cX8_say 152 = .ok (.iaload, 1) := dc0 dO_46 (rdB.ch sfx_cX8_say_128 24 rfl (by decide +kernel))
theorem dX8_say_153 : decode cX8_say 153 = .ok (.iconst (-1), 1) := dc0 dO_2 (rdB.ch sfx_cX8_say_128 25 rfl (by decide +kernel))
theorem dX8_say_154 : decode cX8_say 154 = .ok (.if_icmp .ne 20, 3) := dcS2 dO_160 (rdS2.ch sfx_cX8_say_128 26 rfl (by decide +kernel))
theorem dX8_say_157 : decode cX8_say 157 = .ok (.aload_n 0, 1) := dc0 dO_42 (rdB.ch sfx_cX8_say_128 29 rfl (by decide +kernel))
theorem dX8_say_158 : decode cX8_say 158 = .ok (.iload 6, 2) := dcU1 dO_21 (rdU1.ch sfx_cX8_say_128 30 rfl (by decide +kernel))
theorem dX8_say_160 : decode cX8_say 160 = .ok (.aload 5, 2) := dcU1 dO_25 (rdU1.ch sfx_cX8_say_128 32 rfl (by decide +kernel))
theorem dX8_say_162 : decode cX8_say 162 = .ok (.getfield 110, 3) := dcU2 dO_180 (rdU2.ch sfx_cX8_say_128 34 rfl (by decide +kernel))
theorem dX8_say_165 : decode cX8_say 165 = .ok (.aload 4, 2) := dcU1 dO_25 (rdU1.ch sfx_cX8_say_128 37 rfl (by decide +kernel))
theorem dX8_say_167 : decode cX8_say 167 = .ok (.getfield 263, 3) := dcU2 dO_180 (rdU2.ch sfx_cX8_say_128 39 rfl (by decide +kernel))
theorem dX8_say_170 : decode cX8_say 170 = .ok (.iadd, 1) := dc0 dO_96 (rdB.ch sfx_cX8_say_128 42 rfl (by decide +kernel))
theorem dX8_say_171 : decode cX8_say 171 = .ok (.invokevirtual 266, 3) := dcU2 dO_182 (rdU2.ch sfx_cX8_say_128 43 rfl (by decide +kernel))
theorem dX8_say_174 : decode cX8_say 174 = .ok (.return_, 1) := dc0 dO_177 (rdB.ch sfx_cX8_say_128 46 rfl (by decide +kernel))
theorem dX8_say_175 : decode cX8_say 175 = .ok (.aload 5, 2) := dcU1 dO_25 (rdU1.ch sfx_cX8_say_128 47 rfl (by decide +kernel))
theorem dX8_say_177 : decode cX8_say 177 = .ok (.aload_n 0, 1) := dc0 dO_42 (rdB.ch sfx_cX8_say_128 49 rfl (by decide +kernel))
theorem dX8_say_178 : decode cX8_say 178 = .ok (.getfield 49, 3) := dcU2 dO_180 (rdU2.ch sfx_cX8_say_128 50 rfl (by decide +kernel))
theorem dX8_say_181 : decode cX8_say 181 = .ok (.invokevirtual 106, 3) := dcU2 dO_182 (rdU2.ch sfx_cX8_say_128 53 rfl (by decide +kernel))
theorem dX8_say_184 : decode cX8_say 184 = .ok (.aload 5, 2) := dcU1 dO_25 (rdU1.ch sfx_cX8_say_128 56 rfl (by decide +kernel))
theorem dX8_say_186 : decode cX8_say 186 = .ok (.aload_n 0, 1) := dc0 dO_42 (rdB.ch sfx_cX8_say_128 58 rfl (by decide +kernel))
theorem dX8_say_187 : decode cX8_say 187 = .ok (.getfield 62, 3) := dcU2 dO_180 (rdU2.ch sfx_cX8_say_128 59 rfl (by decide +kernel))
theorem dX8_say_190 : decode cX8_say 190 = .ok (.putfield 110, 3) := dcU2 dO_181 (rdU2.ch sfx_cX8_say_128 62 rfl (by decide +kernel))
theorem sfx_cX8_say_192 : (cX8_say.data.toList.drop 192).take 67 = [110, 27, 28, 29, 3, 184, 0, 143, 54, 6, 42, 21, 6, 182, 0, 65, 42, 21, 6, 42, 180, 0, 62, 25, 4, 180, 1, 13, 96, 182, 1, 10, 177] := by decide +kernel
theorem dX8_say_193 : decode cX8_say 193 = .ok (.iload_n 1, 1) := dc0 dO_27 (rdB.ch sfx_cX8_say_192 1 rfl (by decide +kernel))
theorem dX8_say_194 : decode cX8_say 194 = .ok (.iload_n 2, 1) := dc0 dO_28 (rdB.ch sfx_cX8_say_192 2 rfl (by decide +kernel))
theorem dX8_say_195 : decode cX8_say 195 = .ok (.iload_n 3, 1) := dc0 dO_29 (rdB.ch sfx_cX8_say_192 3 rfl (by decide +kernel))
theorem dX8_say_196 : decode cX8_say 196 = .ok (.iconst 0, 1) := dc0 dO_3 (rdB.ch sfx_cX8_say_192 4 rfl (by decide +kernel))
theorem dX8_say_197 : decode cX8_say 197 = .ok (.invokestatic 143, 3) := dcU2 dO_184 (rdU2.ch sfx_cX8_say_192 5 rfl (by decide +kernel))
theorem dX8_say_200 : decode cX8_say 200 = .ok (.istore 6, 2) := dcU1 dO_54 (rdU1.ch sfx_cX8_say_192 8 rfl (by decide +kernel))
theorem dX8_say_202 : decode cX8_say 202 = .ok (.aload_n 0, 1) := dc0 dO_42 (rdB.ch sfx_cX8_say_192 10 rfl (by decide +kernel))
theorem dX8_say_203 : decode cX8_say 203 = .ok (.iload 6, 2) := dcU1 dO_21 (rdU1.ch sfx_cX8_say_192 11 rfl (by decide +kernel))
theorem dX8_say_205 : decode cX8_say 205 = .ok (.invokevirtual 65, 3) := dcU2 dO_182 (rdU2.ch sfx_cX8_say_192 13 rfl (by decide +kernel))
theorem dX8_say_208 : decode cX8_say 208 = .ok (.aload_n 0, 1) := dc0 dO_42 (rdB.ch sfx_cX8_say_192 16 rfl (by decide +kernel))
theorem dX8_say_209 : decode cX8_say 209 = .ok (.iload 6, 2) := dcU1 dO_21 (rdU1.ch sfx_cX8_say_192 17 rfl (by decide +kernel))
theorem dX8_say_211 : decode cX8_say 211 = .ok (.aload_n 0, 1) := dc0 dO_42 (rdB.ch sfx_cX8_say_192 19 rfl (by decide +kernel))
theorem dX8_say_212 : decode cX8_say 212 = .ok (.getfield 62, 3) := dcU2 dO_180 (rdU2.ch sfx_cX8_say_192 20 rfl (by decide +kernel))
theorem dX8_say_215 : decode cX8_say 215 = .ok (.aload 4, 2) := dcU1 dO_25 (rdU1.ch sfx_cX8_say_192 23 rfl (by decide +kernel))
theorem dX8_say_217 : decode cX8_say 217 = .ok (.getfield 269, 3) := dcU2 dO_180 (rdU2.ch sfx_cX8_say_192 25 rfl (by decide +kernel))
theorem dX8_say_220 : decode cX8_say 220 = .ok (.iadd, 1) := dc0 dO_96 (rdB.ch sfx_cX8_say_192 28 rfl (by decide +kernel))
theorem dX8_say_221 : decode cX8_say 221 = .ok (.invokevirtual 266, 3) := dcU2 dO_182 (rdU2.ch sfx_cX8_say_192 29 rfl (by decide +kernel))
theorem dX8_say_224 : decode cX8_say 224 = .ok (.return_, 1) := dc0 dO_177 (rdB.ch sfx_cX8_say_192 32 rfl (by decide +kernel))
theorem dX8_sayAll_0 : decode cX8_sayAll 0 = .ok (.iconst 0, 1) := dc0 dO_3 (by decide +kernel)
theorem dX8_sayAll_1 : decode cX8_sayAll 1 = .ok (.istore_n 3, 1) := dc0 dO_62 (by decide +kernel)
theorem dX8_sayAll_2 : decode cX8_sayAll 2 = .ok (.iload_n 3, 1) := dc0 dO_29 (by decide +kernel)
theorem dX8_sayAll_3 : decode cX8_sayAll 3 = .ok (.aload_n 0, 1) := dc0 dO_42 (by decide +kernel)
theorem dX8_sayAll_4 : decode cX8_sayAll 4 = .ok (.getfield 9, 3) := dcU2 dO_180 (by decide +kernel)
theorem dX8_sayAll_7 : decode cX8_sayAll 7 = .ok (.getfield 150, 3) := dcU2 dO_180 (by decide +kernel)
theorem dX8_sayAll_10 : decode cX8_sayAll 10 = .ok (.if_icmp .ge 16, 3) := dcS2 dO_162 (by decide +kernel)
theorem dX8_sayAll_13 : decode cX8_sayAll 13 = .ok (.aload_n 0, 1) := dc0 dO_42 (by decide +kernel)
theorem dX8_sayAll_14 : decode cX8_sayAll 14 = .ok (.iload_n 1, 1) := dc0 dO_27 (by decide +kernel)
theorem dX8_sayAll_15 : decode cX8_sayAll 15 = .ok (.iload_n 2, 1) := dc0 dO_28 (by decide +kernel)
theorem dX8_sayAll_16 : decode cX8_sayAll 16 = .ok (.iload_n 3, 1) := dc0 dO_29 (by decide +kernel)
theorem dX8_sayAll_17 : decode cX8_sayAll 17 = .ok (.invokevirtual 72, 3) := dcU2 dO_182 (by decide +kernel)
theorem dX8_sayAll_20 : decode cX8_sayAll 20 = .ok (.iinc 3 1, 3) := dcI dO_132 (by decide +kernel)
theorem dX8_sayAll_23 : decode cX8_sayAll 23 = .ok (.goto (-21), 3) := dcS2 dO_167 (by decide +kernel)
theorem dX8_sayAll_26 : decode cX8_sayAll 26 = .ok (.return_, 1) := dc0 dO_177 (by decide +kernel)
theorem dX8_silence_0 : decode cX8_silence 0 = .ok (.aload_n 0, 1) := dc0 dO_42 (by decide +kernel)
theorem dX8_silence_1 : decode cX8_silence 1 = .ok (.getfield 9, 3) := dcU2 dO_180 (by decide +kernel)
theorem dX8_silence_4 : decode cX8_silence 4 = .ok (.getfield 76, 3) := dcU2 dO_180 (by decide +kernel)
theorem dX8_silence_7 : decode cX8_silence 7 = .ok (.iload_n 1, 1) := dc0 dO_27 (by decide +kernel)
theorem dX8_silence_8 : decode cX8_silence 8 = .ok (.aaload, 1) := dc0 dO_50 (by decide +kernel)
theorem dX8_silence_9 : decode cX8_silence 9 = .ok (.astore_n 2, 1) := dc0 dO_77 (by decide +kernel)
theorem dX8_silence_10 : decode cX8_silence 10 = .ok (.aload_n 2, 1) := dc0 dO_44 (by decide +kernel)
theorem dX8_silence_11 : decode cX8_silence 11 = .ok (.iconst 0, 1) := dc0 dO_3 (by decide +kernel)
theorem dX8_silence_12 : decode cX8_silence 12 = .ok (.putfield 136, 3) := dcU2 dO_181 (by decide +kernel)
theorem dX8_silence_15 : decode cX8_silence 15 = .ok (.iconst 0, 1) := dc0 dO_3 (by decide +kernel)
theorem dX8_silence_16 : decode cX8_silence 16 = .ok (.istore_n 3, 1) := dc0 dO_62 (by decide +kernel)
theorem dX8_silence_17 : decode cX8_silence 17 = .ok (.iload_n 3, 1) := dc0 dO_29 (by decide +kernel)
theorem dX8_silence_18 : decode cX8_silence 18 = .ok (.bipush 20, 2) := dcS1 dO_16 (by decide +kernel)
theorem dX8_silence_20 : decode cX8_silence 20 = .ok (.if_icmp .ge 27, 3) := dcS2 dO_162 (by decide +kernel)
theorem dX8_silence_23 : decode cX8_silence 23 = .ok (.aload_n 2, 1) := dc0 dO_44 (by decide +kernel)
theorem dX8_silence_24 : decode cX8_silence 24 = .ok (.getfield 96, 3) := dcU2 dO_180 (by decide +kernel)
theorem dX8_silence_27 : decode cX8_silence 27 = .ok (.iload_n 3, 1) := dc0 dO_29 (by decide +kernel)
theorem dX8_silence_28 : decode cX8_silence 28 = .ok (.aaload, 1) := dc0 dO_50 (by decide +kernel)
theorem dX8_silence_29 : decode cX8_silence 29 = .ok (.invokevirtual 140, 3) := dcU2 dO_182 (by decide +kernel)
theorem dX8_silence_32 : decode cX8_silence 32 = .ok (.aload_n 2, 1) := dc0 dO_44 (by decide +kernel)
theorem dX8_silence_33 : decode cX8_silence 33 = .ok (.getfield 103, 3) := dcU2 dO_180 (by decide +kernel)
theorem dX8_silence_36 : decode cX8_silence 36 = .ok (.iload_n 3, 1) := dc0 dO_29 (by decide +kernel)
theorem dX8_silence_37 : decode cX8_silence 37 = .ok (.aaload, 1) := dc0 dO_50 (by decide +kernel)
theorem dX8_silence_38 : decode cX8_silence 38 = .ok (.invokevirtual 140, 3) := dcU2 dO_182 (by decide +kernel)
theorem dX8_silence_41 : decode cX8_silence 41 = .ok (.iinc 3 1, 3) := dcI dO_132 (by decide +kernel)
theorem dX8_silence_44 : decode cX8_silence 44 = .ok (.goto (-27), 3) := dcS2 dO_167 (by decide +kernel)
theorem dX8_silence_47 : decode cX8_silence 47 = .ok (.iload_n 1, 1) := dc0 dO_27 (by decide +kernel)
theorem dX8_silence_48 : decode cX8_silence 48 = .ok (.iconst 0, 1) := dc0 dO_3 (by decide +kernel)
theorem dX8_silence_49 : decode cX8_silence 49 = .ok (.iconst 0, 1) := dc0 dO_3 (by decide +kernel)
theorem dX8_silence_50 : decode cX8_silence 50 = .ok (.iconst 0, 1) := dc0 dO_3 (by decide +kernel)
theorem dX8_silence_51 : decode cX8_silence 51 = .ok (.invokestatic 143, 3) := dcU2 dO_184 (by decide +kernel)
theorem dX8_silence_54 : decode cX8_silence 54 = .ok (.istore_n 3, 1) := dc0 dO_62 (by decide +kernel)
theorem dX8_silence_55 : decode cX8_silence 55 = .ok (.iload_n 1, 1) := dc0 dO_27 (by decide +kernel)
theorem dX8_silence_56 : decode cX8_silence 56 = .ok (.iconst 1, 1) := dc0 dO_4 (by decide +kernel)
theorem dX8_silence_57 : decode cX8_silence 57 = .ok (.iadd, 1) := dc0 dO_96 (by decide +kernel)
theorem dX8_silence_58 : decode cX8_silence 58 = .ok (.iconst 0, 1) := dc0 dO_3 (by decide +kernel)
theorem dX8_silence_59 : decode cX8_silence 59 = .ok (.iconst 0, 1) := dc0 dO_3 (by decide +kernel)
theorem dX8_silence_60 : decode cX8_silence 60 = .ok (.iconst 0, 1) := dc0 dO_3 (by decide +kernel)
theorem dX8_silence_61 : decode cX8_silence 61 = .ok (.invokestatic 143, 3) := dcU2 dO_184 (by decide +kernel)
theorem dX8_silence_64 : decode cX8_silence 64 = .ok (.istore 4, 2) := dcU1 dO_54 (by decide +kernel)
theorem dX8_silence_66 : decode cX8_silence 66 = .ok (.iload_n 3, 1) := dc0 dO_29 (by decide +kernel)
theorem dX8_silence_67 : decode cX8_silence 67 = .ok (.istore 5, 2) := dcU1 dO_54 (by decide +kernel)
theorem dX8_silence_69 : decode cX8_silence 69 = .ok (.iload 5, 2) := dcU1 dO_21 (by decide +kernel)
theorem dX8_silence_71 : decode cX8_silence 71 = .ok (.iload 4, 2) := dcU1 dO_21 (by decide +kernel)
theorem dX8_silence_73 : decode cX8_silence 73 = .ok (.if_icmp .ge 15, 3) := dcS2 dO_162 (by decide +kernel)
theorem dX8_silence_76 : decode cX8_silence 76 = .ok (.aload_n 0, 1) := dc0 dO_42 (by decide +kernel)
theorem dX8_silence_77 : decode cX8_silence 77 = .ok (.iload 5, 2) := dcU1 dO_21 (by decide +kernel)
theorem dX8_silence_79 : decode cX8_silence 79 = .ok (.invokevirtual 65, 3) := dcU2 dO_182 (by decide +kernel)
theorem dX8_silence_82 : decode cX8_silence 82 = .ok (.iinc 5 1, 3) := dcI dO_132 (by decide +kernel)
theorem dX8_silence_85 : decode cX8_silence 85 = .ok (.goto (-16), 3) := dcS2 dO_167 (by decide +kernel)
theorem dX8_silence_88 : decode cX8_silence 88 = .ok (.return_, 1) := dc0 dO_177 (by decide +kernel)
theorem dX8_takeIn_0 : decode cX8_takeIn 0 = .ok (.aload_n 0, 1) := dc0 dO_42 (by decide +kernel)
theorem dX8_takeIn_1 : decode cX8_takeIn 1 = .ok (.getfield 9, 3) := dcU2 dO_180 (by decide +kernel)
theorem dX8_takeIn_4 : decode cX8_takeIn 4 = .ok (.getfield 76, 3) := dcU2 dO_180 (by decide +kernel)
theorem dX8_takeIn_7 : decode cX8_takeIn 7 = .ok (.iload_n 2, 1) := dc0 dO_28 (by decide +kernel)
theorem dX8_takeIn_8 : decode cX8_takeIn 8 = .ok (.aaload, 1) := dc0 dO_50 (by decide +kernel)
theorem dX8_takeIn_9 : decode cX8_takeIn 9 = .ok (.astore 4, 2) := dcU1 dO_58 (by decide +kernel)
theorem dX8_takeIn_11 : decode cX8_takeIn 11 = .ok (.aload_n 1, 1) := dc0 dO_43 (by decide +kernel)
theorem dX8_takeIn_12 : decode cX8_takeIn 12 = .ok (.getfield 113, 3) := dcU2 dO_180 (by decide +kernel)
theorem dX8_takeIn_15 : decode cX8_takeIn 15 = .ok (.aload_n 1, 1) := dc0 dO_43 (by decide +kernel)
theorem dX8_takeIn_16 : decode cX8_takeIn 16 = .ok (.getfield 118, 3) := dcU2 dO_180 (by decide +kernel)
theorem dX8_takeIn_19 : decode cX8_takeIn 19 = .ok (.iadd, 1) := dc0 dO_96 (by decide +kernel)
theorem dX8_takeIn_20 : decode cX8_takeIn 20 = .ok (.istore 5, 2) := dcU1 dO_54 (by decide +kernel)
theorem dX8_takeIn_22 : decode cX8_takeIn 22 = .ok (.iconst 0, 1) := dc0 dO_3 (by decide +kernel)
theorem dX8_takeIn_23 : decode cX8_takeIn 23 = .ok (.istore 6, 2) := dcU1 dO_54 (by decide +kernel)
theorem dX8_takeIn_25 : decode cX8_takeIn 25 = .ok (.iconst 0, 1) := dc0 dO_3 (by decide +kernel)
theorem dX8_takeIn_26 : decode cX8_takeIn 26 = .ok (.istore 7, 2) := dcU1 dO_54 (by decide +kernel)
theorem dX8_takeIn_28 : decode cX8_takeIn 28 = .ok (.iload 7, 2) := dcU1 dO_21 (by decide +kernel)
theorem dX8_takeIn_30 : decode cX8_takeIn 30 = .ok (.iload 5, 2) := dcU1 dO_21 (by decide +kernel)
theorem dX8_takeIn_32 : decode cX8_takeIn 32 = .ok (.if_icmp .ge 110, 3) := dcS2 dO_162 (by decide +kernel)
theorem dX8_takeIn_35 : decode cX8_takeIn 35 = .ok (.aload_n 0, 1) := dc0 dO_42 (by decide +kernel)
theorem dX8_takeIn_36 : decode cX8_takeIn 36 = .ok (.getfield 9, 3) := dcU2 dO_180 (by decide +kernel)
theorem dX8_takeIn_39 : decode cX8_takeIn 39 = .ok (.aload_n 1, 1) := dc0 dO_43 (by decide +kernel)
theorem dX8_takeIn_40 : decode cX8_takeIn 40 = .ok (.getfield 121, 3) := dcU2 dO_180 (by decide +kernel)
theorem dX8_takeIn_43 : decode cX8_takeIn 43 = .ok (.iload 7, 2) := dcU1 dO_21 (by decide +kernel)
theorem dX8_takeIn_45 : decode cX8_takeIn 45 = .ok (.iaload, 1) := dc0 dO_46 (by decide +kernel)
theorem dX8_takeIn_46 : decode cX8_takeIn 46 = .ok (.aload_n 1, 1) := dc0 dO_43 (by decide +kernel)
theorem dX8_takeIn_47 : decode cX8_takeIn 47 = .ok (.getfield 124, 3) := dcU2 dO_180 (by decide +kernel)
theorem dX8_takeIn_50 : decode cX8_takeIn 50 = .ok (.iload 7, 2) := dcU1 dO_21 (by decide +kernel)
theorem dX8_takeIn_52 : decode cX8_takeIn 52 = .ok (.iaload, 1) := dc0 dO_46 (by decide +kernel)
theorem dX8_takeIn_53 : decode cX8_takeIn 53 = .ok (.invokevirtual 127, 3) := dcU2 dO_182 (by decide +kernel)
theorem dX8_takeIn_56 : decode cX8_takeIn 56 = .ok (.istore 8, 2) := dcU1 dO_54 (by decide +kernel)
theorem dX8_takeIn_58 : decode cX8_takeIn 58 = .ok (.iload 8, 2) := dcU1 dO_21 (by decide +kernel)
theorem dX8_takeIn_60 : decode cX8_takeIn 60 = .ok (.ifCond .ge 6, 3) := dcS2 dO_156 (by decide +kernel)
theorem dX8_takeIn_63 : decode cX8_takeIn 63 = .ok (.goto 73, 3) := dcS2 dO_167 (by decide +kernel)
theorem dX8_takeIn_66 : decode cX8_takeIn 66 = .ok (.aload 4, 2) := dcU1 dO_25 (by decide +kernel)
theorem dX8_takeIn_68 : decode cX8_takeIn 68 = .ok (.getfield 96, 3) := dcU2 dO_180 (by decide +kernel)
theorem dX8_takeIn_71 : decode cX8_takeIn 71 = .ok (.iload_n 3, 1) := dc0 dO_29 (by decide +kernel)
theorem dX8_takeIn_72 : decode cX8_takeIn 72 = .ok (.iload 8, 2) := dcU1 dO_21 (by decide +kernel)
theorem dX8_takeIn_74 : decode cX8_takeIn 74 = .ok (.invokestatic 99, 3) := dcU2 dO_184 (by decide +kernel)
theorem dX8_takeIn_77 : decode cX8_takeIn 77 = .ok (.aaload, 1) := dc0 dO_50 (by decide +kernel)
theorem dX8_takeIn_78 : decode cX8_takeIn 78 = .ok (.astore 9, 2) := dcU1 dO_58 (by decide +kernel)
theorem dX8_takeIn_80 : decode cX8_takeIn 80 = .ok (.aload 9, 2) := dcU1 dO_25 (by decide +kernel)
theorem dX8_takeIn_82 : decode cX8_takeIn 82 = .ok (.iload 7, 2) := dcU1 dO_21 (by decide +kernel)
theorem dX8_takeIn_84 : decode cX8_takeIn 84 = .ok (.aload_n 1, 1) := dc0 dO_43 (by decide +kernel)
theorem dX8_takeIn_85 : decode cX8_takeIn 85 = .ok (.getfield 113, 3) := dcU2 dO_180 (by decide +kernel)
theorem dX8_takeIn_88 : decode cX8_takeIn 88 = .ok (.if_icmp .ge 10, 3) := dcS2 dO_162 (by decide +kernel)
theorem dX8_takeIn_91 : decode cX8_takeIn 91 = .ok (.aload_n 0, 1) := dc0 dO_42 (by decide +kernel)
theorem dX8_takeIn_92 : decode cX8_takeIn 92 = .ok (.getfield 46, 3) := dcU2 dO_180 (by decide +kernel)
theorem dX8_takeIn_95 : decode cX8_takeIn 95 = .ok (.goto 7, 3) := dcS2 dO_167 (by decide +kernel)
theorem dX8_takeIn_98 : decode cX8_takeIn 98 = .ok (.aload_n 1, 1) := dc0 dO_43 (by decide +kernel)
theorem dX8_takeIn_99 : decode cX8_takeIn 99 = .ok (.getfield 130, 3) := dcU2 dO_180 (by decide +kernel)
theorem dX8_takeIn_102 : decode cX8_takeIn 102 = .ok (.invokevirtual 106, 3) := dcU2 dO_182 (by decide +kernel)
theorem dX8_takeIn_105 : decode cX8_takeIn 105 = .ok (.aload 9, 2) := dcU1 dO_25 (by decide +kernel)
theorem dX8_takeIn_107 : decode cX8_takeIn 107 = .ok (.iload 8, 2) := dcU1 dO_21 (by decide +kernel)
theorem dX8_takeIn_109 : decode cX8_takeIn 109 = .ok (.putfield 133, 3) := dcU2 dO_181 (by decide +kernel)
theorem dX8_takeIn_112 : decode cX8_takeIn 112 = .ok (.aload 9, 2) := dcU1 dO_25 (by decide +kernel)
theorem dX8_takeIn_114 : decode cX8_takeIn 114 = .ok (.aload_n 0, 1) := dc0 dO_42 (by decide +kernel)
theorem dX8_takeIn_115 : decode cX8_takeIn 115 = .ok (.getfield 62, 3) := dcU2 dO_180 (by decide +kernel)
theorem dX8_takeIn_118 : decode cX8_takeIn 118 = .ok (.putfield 110, 3) := dcU2 dO_181 (by decide +kernel)
theorem dX8_takeIn_121 : decode cX8_takeIn 121 = .ok (.aload_n 0, 1) := dc0 dO_42 (by decide +kernel)
theorem dX8_takeIn_122 : decode cX8_takeIn 122 = .ok (.aload 4, 2) := dcU1 dO_25 (by decide +kernel)
theorem dX8_takeIn_124 : decode cX8_takeIn 124 = .ok (.iload_n 3, 1) := dc0 dO_29 (by decide +kernel)
theorem dX8_takeIn_125 : decode cX8_takeIn 125 = .ok (.invokevirtual 86, 3) := dcU2 dO_182 (by decide +kernel)
theorem sfx_cX8_takeIn_128 : (cX8_takeIn.data.toList.drop 128).take 67 = [21, 8, 182, 0, 92, 132, 6, 1, 132, 7, 1, 167, 255, 145, 21, 6, 172] := by decide +kernel
theorem dX8_takeIn_128 : decode cX8_takeIn 128 = .ok (.iload 8, 2) := dcU1 dO_21 (rdU1.ch sfx_cX8_takeIn_128 0 rfl (by decide +kernel))
theorem dX8_takeIn_130 : decode cX8_takeIn 130 = .ok (.invokevirtual 92, 3) := dcU2 dO_182 (rdU2.ch sfx_cX8_takeIn_128 2 rfl (by decide +kernel))
theorem dX8_takeIn_133 : decode cX8_takeIn 133 = .ok (.iinc 6 1, 3) := dcI dO_132 (rdI.ch sfx_cX8_takeIn_128 5 rfl (by decide +kernel))
theorem dX8_takeIn_136 : decode cX8_takeIn 136 = .ok (.iinc 7 1, 3) := dcI dO_132 (rdI.ch sfx_cX8_takeIn_128 8 rfl (by decide +kernel))
theorem dX8_takeIn_139 : decode cX8_takeIn 139 = .ok (.goto (-111), 3) := dcS2 dO_167 (rdS2.ch sfx_cX8_takeIn_128 11 rfl (by decide +kernel))
theorem dX8_takeIn_142 : decode cX8_takeIn 142 = .ok (.iload 6, 2) := dcU1 dO_21 (rdU1.ch sfx_cX8_takeIn_128 14 rfl (by decide +kernel))
theorem dX8_takeIn_144 : decode cX8_takeIn 144 = .ok (.ireturn, 1) := dc0 dO_172 (rdB.ch sfx_cX8_takeIn_128 16 rfl (by decide +kernel))
theorem dX8_tellAllAnew_0 : decode cX8_tellAllAnew 0 = .ok (.iconst 0, 1) := dc0 dO_3 (by decide +kernel)
theorem dX8_tellAllAnew_1 : decode cX8_tellAllAnew 1 = .ok (.istore_n 1, 1) := dc0 dO_60 (by decide +kernel)
theorem dX8_tellAllAnew_2 : decode cX8_tellAllAnew 2 = .ok (.iload_n 1, 1) := dc0 dO_27 (by decide +kernel)
theorem dX8_tellAllAnew_3 : decode cX8_tellAllAnew 3 = .ok (.aload_n 0, 1) := dc0 dO_42 (by decide +kernel)
theorem dX8_tellAllAnew_4 : decode cX8_tellAllAnew 4 = .ok (.getfield 9, 3) := dcU2 dO_180 (by decide +kernel)
theorem dX8_tellAllAnew_7 : decode cX8_tellAllAnew 7 = .ok (.getfield 147, 3) := dcU2 dO_180 (by decide +kernel)
theorem dX8_tellAllAnew_10 : decode cX8_tellAllAnew 10 = .ok (.if_icmp .ge 34, 3) := dcS2 dO_162 (by decide +kernel)
theorem dX8_tellAllAnew_13 : decode cX8_tellAllAnew 13 = .ok (.iconst 0, 1) := dc0 dO_3 (by decide +kernel)
theorem dX8_tellAllAnew_14 : decode cX8_tellAllAnew 14 = .ok (.istore_n 2, 1) := dc0 dO_61 (by decide +kernel)
theorem dX8_tellAllAnew_15 : decode cX8_tellAllAnew 15 = .ok (.iload_n 2, 1) := dc0 dO_28 (by decide +kernel)
theorem dX8_tellAllAnew_16 : decode cX8_tellAllAnew 16 = .ok (.aload_n 0, 1) := dc0 dO_42 (by decide +kernel)
theorem dX8_tellAllAnew_17 : decode cX8_tellAllAnew 17 = .ok (.getfield 9, 3) := dcU2 dO_180 (by decide +kernel)
theorem dX8_tellAllAnew_20 : decode cX8_tellAllAnew 20 = .ok (.getfield 150, 3) := dcU2 dO_180 (by decide +kernel)
theorem dX8_tellAllAnew_23 : decode cX8_tellAllAnew 23 = .ok (.if_icmp .ge 15, 3) := dcS2 dO_162 (by decide +kernel)
theorem dX8_tellAllAnew_26 : decode cX8_tellAllAnew 26 = .ok (.aload_n 0, 1) := dc0 dO_42 (by decide +kernel)
theorem dX8_tellAllAnew_27 : decode cX8_tellAllAnew 27 = .ok (.iload_n 1, 1) := dc0 dO_27 (by decide +kernel)
theorem dX8_tellAllAnew_28 : decode cX8_tellAllAnew 28 = .ok (.iload_n 2, 1) := dc0 dO_28 (by decide +kernel)
theorem dX8_tellAllAnew_29 : decode cX8_tellAllAnew 29 = .ok (.invokevirtual 92, 3) := dcU2 dO_182 (by decide +kernel)
theorem dX8_tellAllAnew_32 : decode cX8_tellAllAnew 32 = .ok (.iinc 2 1, 3) := dcI dO_132 (by decide +kernel)
theorem dX8_tellAllAnew_35 : decode cX8_tellAllAnew 35 = .ok (.goto (-20), 3) := dcS2 dO_167 (by decide +kernel)
theorem dX8_tellAllAnew_38 : decode cX8_tellAllAnew 38 = .ok (.iinc 1 1, 3) := dcI dO_132 (by decide +kernel)
theorem dX8_tellAllAnew_41 : decode cX8_tellAllAnew 41 = .ok (.goto (-39), 3) := dcS2 dO_167 (by decide +kernel)
theorem dX8_tellAllAnew_44 : decode cX8_tellAllAnew 44 = .ok (.iconst 0, 1) := dc0 dO_3 (by decide +kernel)
theorem dX8_tellAllAnew_45 : decode cX8_tellAllAnew 45 = .ok (.istore_n 1, 1) := dc0 dO_60 (by decide +kernel)
theorem dX8_tellAllAnew_46 : decode cX8_tellAllAnew 46 = .ok (.iload_n 1, 1) := dc0 dO_27 (by decide +kernel)
theorem dX8_tellAllAnew_47 : decode cX8_tellAllAnew 47 = .ok (.aload_n 0, 1) := dc0 dO_42 (by decide +kernel)
theorem dX8_tellAllAnew_48 : decode cX8_tellAllAnew 48 = .ok (.getfield 9, 3) := dcU2 dO_180 (by decide +kernel)
theorem dX8_tellAllAnew_51 : decode cX8_tellAllAnew 51 = .ok (.getfield 147, 3) := dcU2 dO_180 (by decide +kernel)
theorem dX8_tellAllAnew_54 : decode cX8_tellAllAnew 54 = .ok (.if_icmp .ge 52, 3) := dcS2 dO_162 (by decide +kernel)
theorem dX8_tellAllAnew_57 : decode cX8_tellAllAnew 57 = .ok (.iconst 0, 1) := dc0 dO_3 (by decide +kernel)
theorem dX8_tellAllAnew_58 : decode cX8_tellAllAnew 58 = .ok (.istore_n 2, 1) := dc0 dO_61 (by decide +kernel)
theorem dX8_tellAllAnew_59 : decode cX8_tellAllAnew 59 = .ok (.iload_n 2, 1) := dc0 dO_28 (by decide +kernel)
theorem dX8_tellAllAnew_60 : decode cX8_tellAllAnew 60 = .ok (.aload_n 0, 1) := dc0 dO_42 (by decide +kernel)
theorem dX8_tellAllAnew_61 : decode cX8_tellAllAnew 61 = .ok (.getfield 9, 3) := dcU2 dO_180 (by decide +kernel)
theorem dX8_tellAllAnew_64 : decode cX8_tellAllAnew 64 = .ok (.getfield 153, 3) := dcU2 dO_180 (by decide +kernel)
theorem dX8_tellAllAnew_67 : decode cX8_tellAllAnew 67 = .ok (.if_icmp .ge 33, 3) := dcS2 dO_162 (by decide +kernel)
theorem dX8_tellAllAnew_70 : decode cX8_tellAllAnew 70 = .ok (.aload_n 0, 1) := dc0 dO_42 (by decide +kernel)
theorem dX8_tellAllAnew_71 : decode cX8_tellAllAnew 71 = .ok (.getfield 9, 3) := dcU2 dO_180 (by decide +kernel)
theorem dX8_tellAllAnew_74 : decode cX8_tellAllAnew 74 = .ok (.getfield 76, 3) := dcU2 dO_180 (by decide +kernel)
theorem dX8_tellAllAnew_77 : decode cX8_tellAllAnew 77 = .ok (.iload_n 2, 1) := dc0 dO_28 (by decide +kernel)
theorem dX8_tellAllAnew_78 : decode cX8_tellAllAnew 78 = .ok (.aaload, 1) := dc0 dO_50 (by decide +kernel)
theorem dX8_tellAllAnew_79 : decode cX8_tellAllAnew 79 = .ok (.iload_n 1, 1) := dc0 dO_27 (by decide +kernel)
theorem dX8_tellAllAnew_80 : decode cX8_tellAllAnew 80 = .ok (.invokevirtual 156, 3) := dcU2 dO_182 (by decide +kernel)
theorem dX8_tellAllAnew_83 : decode cX8_tellAllAnew 83 = .ok (.istore_n 3, 1) := dc0 dO_62 (by decide +kernel)
theorem dX8_tellAllAnew_84 : decode cX8_tellAllAnew 84 = .ok (.iload_n 3, 1) := dc0 dO_29 (by decide +kernel)
theorem dX8_tellAllAnew_85 : decode cX8_tellAllAnew 85 = .ok (.ifCond .lt 9, 3) := dcS2 dO_155 (by decide +kernel)
theorem dX8_tellAllAnew_88 : decode cX8_tellAllAnew 88 = .ok (.aload_n 0, 1) := dc0 dO_42 (by decide +kernel)
theorem dX8_tellAllAnew_89 : decode cX8_tellAllAnew 89 = .ok (.iload_n 2, 1) := dc0 dO_28 (by decide +kernel)
theorem dX8_tellAllAnew_90 : decode cX8_tellAllAnew 90 = .ok (.iload_n 3, 1) := dc0 dO_29 (by decide +kernel)
theorem dX8_tellAllAnew_91 : decode cX8_tellAllAnew 91 = .ok (.invokevirtual 159, 3) := dcU2 dO_182 (by decide +kernel)
theorem dX8_tellAllAnew_94 : decode cX8_tellAllAnew 94 = .ok (.iinc 2 1, 3) := dcI dO_132 (by decide +kernel)
theorem dX8_tellAllAnew_97 : decode cX8_tellAllAnew 97 = .ok (.goto (-38), 3) := dcS2 dO_167 (by decide +kernel)
theorem dX8_tellAllAnew_100 : decode cX8_tellAllAnew 100 = .ok (.iinc 1 1, 3) := dcI dO_132 (by decide +kernel)
theorem dX8_tellAllAnew_103 : decode cX8_tellAllAnew 103 = .ok (.goto (-57), 3) := dcS2 dO_167 (by decide +kernel)
theorem dX8_tellAllAnew_106 : decode cX8_tellAllAnew 106 = .ok (.return_, 1) := dc0 dO_177 (by decide +kernel)
theorem dX8_threeInRing_0 : decode cX8_threeInRing 0 = .ok (.aload_n 0, 1) := dc0 dO_42 (by decide +kernel)
theorem dX8_threeInRing_1 : decode cX8_threeInRing 1 = .ok (.getfield 9, 3) := dcU2 dO_180 (by decide +kernel)
theorem dX8_threeInRing_4 : decode cX8_threeInRing 4 = .ok (.getfield 162, 3) := dcU2 dO_180 (by decide +kernel)
theorem dX8_threeInRing_7 : decode cX8_threeInRing 7 = .ok (.iload_n 1, 1) := dc0 dO_27 (by decide +kernel)
theorem dX8_threeInRing_8 : decode cX8_threeInRing 8 = .ok (.aaload, 1) := dc0 dO_50 (by decide +kernel)
theorem dX8_threeInRing_9 : decode cX8_threeInRing 9 = .ok (.astore 4, 2) := dcU1 dO_58 (by decide +kernel)
theorem dX8_threeInRing_11 : decode cX8_threeInRing 11 = .ok (.aload 4, 2) := dcU1 dO_25 (by decide +kernel)
theorem dX8_threeInRing_13 : decode cX8_threeInRing 13 = .ok (.getfield 167, 3) := dcU2 dO_180 (by decide +kernel)
theorem dX8_threeInRing_16 : decode cX8_threeInRing 16 = .ok (.iload_n 2, 1) := dc0 dO_28 (by decide +kernel)
theorem dX8_threeInRing_17 : decode cX8_threeInRing 17 = .ok (.iaload, 1) := dc0 dO_46 (by decide +kernel)
theorem dX8_threeInRing_18 : decode cX8_threeInRing 18 = .ok (.iconst (-1), 1) := dc0 dO_2 (by decide +kernel)
theorem dX8_threeInRing_19 : decode cX8_threeInRing 19 = .ok (.if_icmp .eq 6, 3) := dcS2 dO_159 (by decide +kernel)
theorem dX8_threeInRing_22 : decode cX8_threeInRing 22 = .ok (.ldc 166, 2) := dcU1 dO_18 (by decide +kernel)
theorem dX8_threeInRing_24 : decode cX8_threeInRing 24 = .ok (.ireturn, 1) := dc0 dO_172 (by decide +kernel)
theorem dX8_threeInRing_25 : decode cX8_threeInRing 25 = .ok (.aload_n 0, 1) := dc0 dO_42 (by decide +kernel)
theorem dX8_threeInRing_26 : decode cX8_threeInRing 26 = .ok (.iload_n 1, 1) := dc0 dO_27 (by decide +kernel)
theorem dX8_threeInRing_27 : decode cX8_threeInRing 27 = .ok (.iload_n 2, 1) := dc0 dO_28 (by decide +kernel)
theorem dX8_threeInRing_28 : decode cX8_threeInRing 28 = .ok (.invokevirtual 175, 3) := dcU2 dO_182 (by decide +kernel)
theorem dX8_threeInRing_31 : decode cX8_threeInRing 31 = .ok (.iconst 0, 1) := dc0 dO_3 (by decide +kernel)
theorem dX8_threeInRing_32 : decode cX8_threeInRing 32 = .ok (.istore 5, 2) := dcU1 dO_54 (by decide +kernel)
theorem dX8_threeInRing_34 : decode cX8_threeInRing 34 = .ok (.iload 5, 2) := dcU1 dO_21 (by decide +kernel)
theorem dX8_threeInRing_36 : decode cX8_threeInRing 36 = .ok (.aload_n 0, 1) := dc0 dO_42 (by decide +kernel)
theorem dX8_threeInRing_37 : decode cX8_threeInRing 37 = .ok (.getfield 200, 3) := dcU2 dO_180 (by decide +kernel)
theorem dX8_threeInRing_40 : decode cX8_threeInRing 40 = .ok (.if_icmp .ge 148, 3) := dcS2 dO_162 (by decide +kernel)
theorem dX8_threeInRing_43 : decode cX8_threeInRing 43 = .ok (.iconst 0, 1) := dc0 dO_3 (by decide +kernel)
theorem dX8_threeInRing_44 : decode cX8_threeInRing 44 = .ok (.istore 6, 2) := dcU1 dO_54 (by decide +kernel)
theorem dX8_threeInRing_46 : decode cX8_threeInRing 46 = .ok (.iload 6, 2) := dcU1 dO_21 (by decide +kernel)
theorem dX8_threeInRing_48 : decode cX8_threeInRing 48 = .ok (.aload_n 0, 1) := dc0 dO_42 (by decide +kernel)
theorem dX8_threeInRing_49 : decode cX8_threeInRing 49 = .ok (.getfield 200, 3) := dcU2 dO_180 (by decide +kernel)
theorem dX8_threeInRing_52 : decode cX8_threeInRing 52 = .ok (.if_icmp .ge 130, 3) := dcS2 dO_162 (by decide +kernel)
theorem dX8_threeInRing_55 : decode cX8_threeInRing 55 = .ok (.aload 4, 2) := dcU1 dO_25 (by decide +kernel)
theorem dX8_threeInRing_57 : decode cX8_threeInRing 57 = .ok (.aload_n 0, 1) := dc0 dO_42 (by decide +kernel)
theorem dX8_threeInRing_58 : decode cX8_threeInRing 58 = .ok (.getfield 34, 3) := dcU2 dO_180 (by decide +kernel)
theorem dX8_threeInRing_61 : decode cX8_threeInRing 61 = .ok (.iload 5, 2) := dcU1 dO_21 (by decide +kernel)
theorem dX8_threeInRing_63 : decode cX8_threeInRing 63 = .ok (.aaload, 1) := dc0 dO_50 (by decide +kernel)
theorem dX8_threeInRing_64 : decode cX8_threeInRing 64 = .ok (.aload_n 0, 1) := dc0 dO_42 (by decide +kernel)
theorem dX8_threeInRing_65 : decode cX8_threeInRing 65 = .ok (.getfield 34, 3) := dcU2 dO_180 (by decide +kernel)
theorem dX8_threeInRing_68 : decode cX8_threeInRing 68 = .ok (.iload 6, 2) := dcU1 dO_21 (by decide +kernel)
theorem dX8_threeInRing_70 : decode cX8_threeInRing 70 = .ok (.aaload, 1) := dc0 dO_50 (by decide +kernel)
theorem dX8_threeInRing_71 : decode cX8_threeInRing 71 = .ok (.invokevirtual 235, 3) := dcU2 dO_182 (by decide +kernel)
theorem dX8_threeInRing_74 : decode cX8_threeInRing 74 = .ok (.ifCond .ne 6, 3) := dcS2 dO_154 (by decide +kernel)
theorem dX8_threeInRing_77 : decode cX8_threeInRing 77 = .ok (.goto 99, 3) := dcS2 dO_167 (by decide +kernel)
theorem dX8_threeInRing_80 : decode cX8_threeInRing 80 = .ok (.iconst 0, 1) := dc0 dO_3 (by decide +kernel)
theorem dX8_threeInRing_81 : decode cX8_threeInRing 81 = .ok (.istore 7, 2) := dcU1 dO_54 (by decide +kernel)
theorem dX8_threeInRing_83 : decode cX8_threeInRing 83 = .ok (.iload 7, 2) := dcU1 dO_21 (by decide +kernel)
theorem dX8_threeInRing_85 : decode cX8_threeInRing 85 = .ok (.aload_n 0, 1) := dc0 dO_42 (by decide +kernel)
theorem dX8_threeInRing_86 : decode cX8_threeInRing 86 = .ok (.getfield 200, 3) := dcU2 dO_180 (by decide +kernel)
theorem dX8_threeInRing_89 : decode cX8_threeInRing 89 = .ok (.if_icmp .ge 87, 3) := dcS2 dO_162 (by decide +kernel)
theorem dX8_threeInRing_92 : decode cX8_threeInRing 92 = .ok (.aload 4, 2) := dcU1 dO_25 (by decide +kernel)
theorem dX8_threeInRing_94 : decode cX8_threeInRing 94 = .ok (.aload_n 0, 1) := dc0 dO_42 (by decide +kernel)
theorem dX8_threeInRing_95 : decode cX8_threeInRing 95 = .ok (.getfield 34, 3) := dcU2 dO_180 (by decide +kernel)
theorem dX8_threeInRing_98 : decode cX8_threeInRing 98 = .ok (.iload 6, 2) := dcU1 dO_21 (by decide +kernel)
theorem dX8_threeInRing_100 : decode cX8_threeInRing 100 = .ok (.aaload, 1) := dc0 dO_50 (by decide +kernel)
theorem dX8_threeInRing_101 : decode cX8_threeInRing 101 = .ok (.aload_n 0, 1) := dc0 dO_42 (by decide +kernel)
theorem dX8_threeInRing_102 : decode cX8_threeInRing 102 = .ok (.getfield 34, 3) := dcU2 dO_180 (by decide +kernel)
theorem dX8_threeInRing_105 : decode cX8_threeInRing 105 = .ok (.iload 7, 2) := dcU1 dO_21 (by decide +kernel)
theorem dX8_threeInRing_107 : decode cX8_threeInRing 107 = .ok (.aaload, 1) := dc0 dO_50 (by decide +kernel)
theorem dX8_threeInRing_108 : decode cX8_threeInRing 108 = .ok (.invokevirtual 235, 3) := dcU2 dO_182 (by decide +kernel)
theorem dX8_threeInRing_111 : decode cX8_threeInRing 111 = .ok (.ifCond .eq 59, 3) := dcS2 dO_153 (by decide +kernel)
theorem dX8_threeInRing_114 : decode cX8_threeInRing 114 = .ok (.aload 4, 2) := dcU1 dO_25 (by decide +kernel)
theorem dX8_threeInRing_116 : decode cX8_threeInRing 116 = .ok (.aload_n 0, 1) := dc0 dO_42 (by decide +kernel)
theorem dX8_threeInRing_117 : decode cX8_threeInRing 117 = .ok (.getfield 34, 3) := dcU2 dO_180 (by decide +kernel)
theorem dX8_threeInRing_120 : decode cX8_threeInRing 120 = .ok (.iload 7, 2) := dcU1 dO_21 (by decide +kernel)
theorem dX8_threeInRing_122 : decode cX8_threeInRing 122 = .ok (.aaload, 1) := dc0 dO_50 (by decide +kernel)
theorem dX8_threeInRing_123 : decode cX8_threeInRing 123 = .ok (.aload_n 0, 1) := dc0 dO_42 (by decide +kernel)
theorem dX8_threeInRing_124 : decode cX8_threeInRing 124 = .ok (.getfield 34, 3) := dcU2 dO_180 (by decide +kernel)
theorem dX8_threeInRing_127 : decode cX8_threeInRing 127 = .ok (.iload 5, 2) := dcU1 dO_21 (by decide +kernel)
theorem sfx_cX8_threeInRing_128 : (cX8_threeInRing.data.toList.drop 128).take 67 = [5, 50, 182, 0, 235, 153, 0, 37, 29, 154, 0, 8, 21, 5, 167, 0, 15, 29, 4, 160, 0, 8, 21, 6, 167, 0, 5, 21, 7, 54, 8, 42, 180, 0, 34, 21, 8, 50, 180, 0, 188, 172, 132, 7, 1, 167, 255, 166, 132, 6, 1, 167, 255, 123, 132, 5, 1, 167, 255, 105, 18, 166, 172] := by decide +kernel
theorem dX8_threeInRing_129 : decode cX8_threeInRing 129 = .ok (.aaload, 1) := dc0 dO_50 (rdB.ch sfx_cX8_threeInRing_128 1 rfl (by decide +kernel))
theorem dX8_threeInRing_130 : decode cX8_threeInRing 130 = .ok (.invokevirtual 235, 3) := dcU2 dO_182 (rdU2.ch sfx_cX8_threeInRing_128 2 rfl (by decide +kernel))
theorem dX8_threeInRing_133 : decode cX8_threeInRing 133 = .ok (.ifCond .eq 37, 3) := dcS2 dO_153 (rdS2.ch sfx_cX8_threeInRing_128 5 rfl (by decide +kernel))
theorem dX8_threeInRing_136 : decode cX8_threeInRing 136 = .ok (.iload_n 3, 1) := dc0 dO_29 (rdB.ch sfx_cX8_threeInRing_128 8 rfl (by decide +kernel))
theorem dX8_threeInRing_137 : decode cX8_threeInRing 137 = .ok (.ifCond .ne 8, 3) := dcS2 dO_154 (rdS2.ch sfx_cX8_threeInRing_128 9 rfl (by decide +kernel))
theorem dX8_threeInRing_140 : decode cX8_threeInRing 140 = .ok (.iload 5, 2) := dcU1 dO_21 (rdU1.ch sfx_cX8_threeInRing_128 12 rfl (by decide +kernel))
theorem dX8_threeInRing_142 : decode cX8_threeInRing 142 = .ok (.goto 15, 3) := dcS2 dO_167 (rdS2.ch sfx_cX8_threeInRing_128 14 rfl (by decide +kernel))
theorem dX8_threeInRing_145 : decode cX8_threeInRing 145 = .ok (.iload_n 3, 1) := dc0 dO_29 (rdB.ch sfx_cX8_threeInRing_128 17 rfl (by decide +kernel))
theorem dX8_threeInRing_146 : decode cX8_threeInRing 146 = .ok (.iconst 1, 1) := dc0 dO_4 (rdB.ch sfx_cX8_threeInRing_128 18 rfl (by decide +kernel))
theorem dX8_threeInRing_147 : decode cX8_threeInRing 147 = .ok (.if_icmp .ne 8, 3) := dcS2 dO_160 (rdS2.ch sfx_cX8_threeInRing_128 19 rfl (by decide +kernel))
theorem dX8_threeInRing_150 : decode cX8_threeInRing 150 = .ok (.iload 6, 2) := dcU1 dO_21 (rdU1.ch sfx_cX8_threeInRing_128 22 rfl (by decide +kernel))
theorem dX8_threeInRing_152 : decode cX8_threeInRing 152 = .ok (.goto 5, 3) := dcS2 dO_167 (rdS2.ch sfx_cX8_threeInRing_128 24 rfl (by decide +kernel))
theorem dX8_threeInRing_155 : decode cX8_threeInRing 155 = .ok (.iload 7, 2) := dcU1 dO_21 (rdU1.ch sfx_cX8_threeInRing_128 27 rfl (by decide +kernel))
theorem dX8_threeInRing_157 : decode cX8_threeInRing 157 = .ok (.istore 8, 2) := dcU1 dO_54 (rdU1.ch sfx_cX8_threeInRing_128 29 rfl (by decide +kernel))
theorem dX8_threeInRing_159 : decode cX8_threeInRing 159 = .ok (.aload_n 0, 1) := dc0 dO_42 (rdB.ch sfx_cX8_threeInRing_128 31 rfl (by decide +kernel))
theorem dX8_threeInRing_160 : decode cX8_threeInRing 160 = .ok (.getfield 34, 3) := dcU2 dO_180 (rdU2.ch sfx_cX8_threeInRing_128 32 rfl (by decide +kernel))
theorem dX8_threeInRing_163 : decode cX8_threeInRing 163 = .ok (.iload 8, 2) := dcU1 dO_21 (rdU1.ch sfx_cX8_threeInRing_128 35 rfl (by decide +kernel))
theorem dX8_threeInRing_165 : decode cX8_threeInRing 165 = .ok (.aaload, 1) := dc0 dO_50 (rdB.ch sfx_cX8_threeInRing_128 37 rfl (by decide +kernel))
theorem dX8_threeInRing_166 : decode cX8_threeInRing 166 = .ok (.getfield 188, 3) := dcU2 dO_180 (rdU2.ch sfx_cX8_threeInRing_128 38 rfl (by decide +kernel))
theorem dX8_threeInRing_169 : decode cX8_threeInRing 169 = .ok (.ireturn, 1) := dc0 dO_172 (rdB.ch sfx_cX8_threeInRing_128 41 rfl (by decide +kernel))
theorem dX8_threeInRing_170 : decode cX8_threeInRing 170 = .ok (.iinc 7 1, 3) := dcI dO_132 (rdI.ch sfx_cX8_threeInRing_128 42 rfl (by decide +kernel))
theorem dX8_threeInRing_173 : decode cX8_threeInRing 173 = .ok (.goto (-90), 3) := dcS2 dO_167 (rdS2.ch sfx_cX8_threeInRing_128 45 rfl (by decide +kernel))
theorem dX8_threeInRing_176 : decode cX8_threeInRing 176 = .ok (.iinc 6 1, 3) := dcI dO_132 (rdI.ch sfx_cX8_threeInRing_128 48 rfl (by decide +kernel))
theorem dX8_threeInRing_179 : decode cX8_threeInRing 179 = .ok (.goto (-133), 3) := dcS2 dO_167 (rdS2.ch sfx_cX8_threeInRing_128 51 rfl (by decide +kernel))
theorem dX8_threeInRing_182 : decode cX8_threeInRing 182 = .ok (.iinc 5 1, 3) := dcI dO_132 (rdI.ch sfx_cX8_threeInRing_128 54 rfl (by decide +kernel))
theorem dX8_threeInRing_185 : decode cX8_threeInRing 185 = .ok (.goto (-151), 3) := dcS2 dO_167 (rdS2.ch sfx_cX8_threeInRing_128 57 rfl (by decide +kernel))
theorem dX8_threeInRing_188 : decode cX8_threeInRing 188 = .ok (.ldc 166, 2) := dcU1 dO_18 (rdU1.ch sfx_cX8_threeInRing_128 60 rfl (by decide +kernel))
theorem dX8_threeInRing_190 : decode cX8_threeInRing 190 = .ok (.ireturn, 1) := dc0 dO_172 (rdB.ch sfx_cX8_threeInRing_128 62 rfl (by decide +kernel))
end
section
/-! no rows -/
end
section
theorem vc_X2_partnerFor_2 {n1 z5 : Int} (h0 : 0 ≤ z5) (h1 : z5 = -99999999 ∨ z5 = -4 ∨ (0 ≤ z5 ∧ z5 ≤ 19)) (h2 : 0 ≤ z5 → z5 < n1) (h3 : (-99999999) ≤ z5 ∧ z5 ≤ 19) : 0 ≤ z5 ∧ z5 ≤ 19 := by omega
theorem vc_X2_partnerFor_3 {n1 z5 : Int} (h0 : z5 = -99999999 ∨ z5 = -4 ∨ (0 ≤ z5 ∧ z5 ≤ 19)) (h1 : 0 ≤ z5 → z5 < n1) (h2 : 0 ≤ z5) (h3 : 0 ≤ z5 ∧ z5 ≤ 19) : z5 < n1 := by omega
theorem vc_X2_partnerFor_4 {n0 p1 z20 : Int} (h0 : z20 < n0) (h1 : p1 < n0) (h2 : 0 ≤ p1 ∧ p1 ≤ 9) (h3 : 0 ≤ z20 ∧ z20 ≤ 9) : z20 = -99999999 ∨ z20 = -4 ∨ (0 ≤ z20 ∧ z20 ≤ 9) := by omega
theorem vc_X2_partnerFor_5 {n0 p1 z20 : Int} (h0 : p1 < n0) (h1 : z20 < n0) (h2 : 0 ≤ p1 ∧ p1 ≤ 9) (h3 : 0 ≤ z20 ∧ z20 ≤ 9) : z20 < n0 := by omega
theorem vc_X2_partnerFor_6 {n1 z5 : Int} (h0 : z5 < 0) (h1 : z5 = -99999999 ∨ z5 = -4 ∨ (0 ≤ z5 ∧ z5 ≤ 19)) (h2 : 0 ≤ z5 → z5 < n1) (h3 : (-99999999) ≤ z5 ∧ z5 ≤ 19) : (-99999999) ≤ z5 ∧ z5 ≤ (-4) := by omega
theorem vc_X2_partnerFor_7 {n1 z5 : Int} (h0 : z5 = -99999999 ∨ z5 = -4 ∨ (0 ≤ z5 ∧ z5 ≤ 19)) (h1 : 0 ≤ z5 → z5 < n1) (h2 : z5 < 0) (h3 : (-99999999) ≤ z5 ∧ z5 ≤ (-4)) : z5 = -99999999 ∨ z5 = -4 ∨ (0 ≤ z5 ∧ z5 ≤ 9) := by omega
theorem vc_X2_partnerFor_8 {n0 n1 p1 z5 : Int} (h0 : p1 < n0) (h1 : z5 = -99999999 ∨ z5 = -4 ∨ (0 ≤ z5 ∧ z5 ≤ 19)) (h2 : 0 ≤ z5 → z5 < n1) (h3 : z5 < 0) (h4 : 0 ≤ p1 ∧ p1 ≤ 9) (h5 : (-99999999) ≤ z5 ∧ z5 ≤ (-4)) : z5 < n0 := by omega
set_option maxRecDepth 4000 in
set_option maxHeartbeats 4000000 in
theorem c_X2_partnerFor {l : Launch} {D : va_G} {c : Nat → ClassId} {H0 : Heap} {sa : Nat × Nat × (Nat → Int32)} {w : mW} {μ : mM} (hw : mWF w) (hT : mT w μ) {p1 : Int} (hp1 : 0 ≤ p1 ∧ p1 ≤ 9) {p2 : Int} (hp2 : (-2147483648) ≤ p2 ∧ p2 ≤ 2147483647) (hq0 : p1 < w.2.2.2 0) : sC (gG l D c H0 sa) mX2_partnerFor 2 0 0 [.ref 87, iv p1, iv p2] (mk w μ) (qP w μ (fun z => ((-99999999) ≤ z ∧ z ≤ 9) ∧ (z = -99999999 ∨ z = -4 ∨ (0 ≤ z ∧ z ≤ 9)) ∧ (z < w.2.2.2 0) ∧ True)) := by
  refine sC.of rfl (by decide) (le_t rfl) ?_
  refine mr_lvE (lv' := [(0, .ref 87), (1, iv p1), (2, iv p2)]) rfl ?_
  refine sv_aload_n (pc := 0) dX2_partnerFor_0 rfl rfl ?_
  refine mr_iload_n (pc := 1) (z := p1) dX2_partnerFor_1 rfl rfl ?_
  refine mr_iload_n (pc := 2) (z := p2) dX2_partnerFor_2 rfl rfl ?_
  refine mr_cVP (pc := 3) (c_X2_tieFor hw hT hp1 hp2 (vc_X9_end_1 hq0 hp1)) (gOk _ _ _ _ _) dX2_partnerFor_3 (tX2_tieFor _ _ _ _ _) ⟨wV_X2_tieFor, wL_X2_tieFor⟩ wM_X2_60 (gCX2 _ _ _ _ _) rfl (A_87 hw) rfl ⟨le_t rfl, le_t rfl⟩ ⟨le_t rfl, le_t rfl⟩ rfl (le_t rfl) fun z5 h4 => ?_
  refine mr_istore_n (pc := 6) (lv' := [(3, iv z5), (0, .ref 87), (1, iv p1), (2, iv p2)]) dX2_partnerFor_6 rfl (by decide) rfl ?_
  refine mr_iload_n (pc := 7) (z := z5) dX2_partnerFor_7 rfl rfl ?_
  refine mr_if_ge (pc := 8) (tgt := 13) dX2_partnerFor_8 (by decide) (r32 h4.1 rfl) (fun h6 => ?_) (fun h6 => ?_)
  · have h7 : 0 ≤ z5 ∧ z5 ≤ 19 := (vc_X2_partnerFor_2 h6 h4.2.1 h4.2.2.1 h4.1)
    refine sv_aload_n (pc := 13) dX2_partnerFor_13 rfl rfl ?_
    refine gf_X2_0 (pc := 14) dX2_partnerFor_14 wF_X2_9 (A_87 hw) hT ?_
    refine gf_X10_4 (pc := 17) dX2_partnerFor_17 wF_X2_64 (A_6 hw) hT ?_
    refine mr_iload_n (pc := 20) (z := z5) dX2_partnerFor_20 rfl rfl ?_
    refine la_11 (pc := 21) dX2_partnerFor_21 (A_11 hw) hT (rIx (n := 20) h7 rfl) (vc_X2_partnerFor_3 h4.2.1 h4.2.2.1 h6 h7) fun b8 q9 A10 => ?_
    refine mr_astore (pc := 22) (lv' := [(4, .ref b8), (3, iv z5), (0, .ref 87), (1, iv p1), (2, iv p2)]) dX2_partnerFor_22 (by decide) rfl ?_
    refine sv_aload (pc := 24) dX2_partnerFor_24 rfl ?_
    refine mr_iconst (pc := 26) (z := 1) dX2_partnerFor_26 ?_
    refine sv_aload (pc := 27) dX2_partnerFor_27 rfl ?_
    refine mr_iload_n (pc := 29) (z := p1) dX2_partnerFor_29 rfl rfl ?_
    refine mr_cVP (pc := 30) (c_X9_sideOf hw hT A10 (rW (c := (-2147483648)) (d := 2147483647) hp1 rfl)) (gOk _ _ _ _ _) dX2_partnerFor_30 (tX9_sideOf _ _ _ _ _) ⟨wV_X9_sideOf, wL_X9_sideOf⟩ wM_X2_68 (gCX9 _ _ _ _ _) rfl A10 rfl ⟨le_t rfl, le_t rfl⟩ ⟨le_t rfl, le_t rfl⟩ rfl (le_t rfl) fun z15 h14 => ?_
    refine mr_isub (pc := 33) (x := 1) (y := z15) dX2_partnerFor_33 ?_
    refine mr_cVP (pc := 34) (c_X9_end hw hT A10 (rW (c := (-2147483648)) (d := 2147483647) (rSub (e := 0) (f := 2) (rR (x := 1)) h14.1 rfl) rfl)) (gOk _ _ _ _ _) dX2_partnerFor_34 (tX9_end _ _ _ _ _) ⟨wV_X9_end, wL_X9_end⟩ wM_X2_74 (gCX9 _ _ _ _ _) rfl A10 rfl ⟨le_t rfl, le_t rfl⟩ ⟨le_t rfl, le_t rfl⟩ rfl (le_t rfl) fun z20 h19 => ?_
    exact mr_iretP dX2_partnerFor_37 rfl (le_t rfl) (le_t rfl) ⟨(rW (c := (-99999999)) (d := 9) h19.1 rfl), (vc_X2_partnerFor_4 h19.2.1 hq0 hp1 h19.1), (vc_X2_partnerFor_5 hq0 h19.2.1 hp1 h19.1), trivial⟩
  have h21 : (-99999999) ≤ z5 ∧ z5 ≤ (-4) := (vc_X2_partnerFor_6 h6 h4.2.1 h4.2.2.1 h4.1)
  refine mr_iload_n (pc := 11) (z := z5) dX2_partnerFor_11 rfl rfl ?_
  exact mr_iretP dX2_partnerFor_12 rfl (le_t rfl) (le_t rfl) ⟨(rW (c := (-99999999)) (d := 9) h21 rfl), (vc_X2_partnerFor_7 h4.2.1 h4.2.2.1 h6 h21), (vc_X2_partnerFor_8 hq0 h4.2.1 h4.2.2.1 h6 hp1 h21), trivial⟩
theorem vc_X2_travel_1 {n0 p1 : Int} (h0 : p1 < n0) (h1 : 0 ≤ p1 ∧ p1 ≤ 9) : 0 ≤ p1 ∧ p1 ≤ 9 ∧ (p1 = 0 ∨ p1 < n0) := by omega
theorem vc_X2_travel_2 {f_s z318 : Int} (h0 : (11 - z318) < ((0 : Nat) : Int)) (h1 : f_s = z318 + 1) (h2 : 0 ≤ z318 ∧ z318 ≤ 10) : False := by omega
theorem vc_X2_travel_3 {f_s z318 : Int} (h0 : 10 ≤ z318) (h1 : f_s = z318 + 1) (h2 : 0 ≤ f_s ∧ f_s ≤ 11) (h3 : 0 ≤ z318 ∧ z318 ≤ 10) : 10 ≤ z318 ∧ z318 ≤ 10 := by omega
theorem vc_X2_travel_4 {f_s z318 : Int} (h0 : z318 < 10) (h1 : f_s = z318 + 1) (h2 : 0 ≤ f_s ∧ f_s ≤ 11) (h3 : 0 ≤ z318 ∧ z318 ≤ 10) : 0 ≤ z318 ∧ z318 ≤ 9 := by omega
theorem vc_X2_travel_5 {n0 p1 z335 : Int} (h0 : p1 < n0) (h1 : (z335 = 0 ∨ z335 < n0)) (h2 : 0 ≤ p1 ∧ p1 ≤ 9) (h3 : 0 ≤ z335 ∧ z335 ≤ 9) : z335 < n0 := by omega
theorem vc_X2_travel_6 {n0 z343 : Int} (h0 : 0 ≤ z343) (h1 : z343 = -99999999 ∨ z343 = -4 ∨ (0 ≤ z343 ∧ z343 ≤ 9)) (h2 : z343 < n0) (h3 : (-99999999) ≤ z343 ∧ z343 ≤ 9) : 0 ≤ z343 ∧ z343 ≤ 9 := by omega
theorem vc_X2_travel_7 {f_s z318 : Int} (h0 : f_s = z318 + 1) (h1 : z318 < 10) (h2 : 0 ≤ f_s ∧ f_s ≤ 11) (h3 : 0 ≤ z318 ∧ z318 ≤ 9) : 0 ≤ f_s ∧ f_s < 11 := by omega
theorem vc_X2_travel_8 {n0 p1 z335 z343 : Int} (h0 : p1 < n0) (h1 : (z335 = 0 ∨ z335 < n0)) (h2 : z343 = -99999999 ∨ z343 = -4 ∨ (0 ≤ z343 ∧ z343 ≤ 9)) (h3 : z343 < n0) (h4 : 0 ≤ z343) (h5 : 0 ≤ p1 ∧ p1 ≤ 9) (h6 : 0 ≤ z335 ∧ z335 ≤ 9) (h7 : 0 ≤ z343 ∧ z343 ≤ 9) : 0 ≤ z343 ∧ z343 ≤ 9 ∧ (z343 = 0 ∨ z343 < n0) := by omega
theorem vc_X2_travel_9 {f_s z318 : Int} (h0 : f_s = z318 + 1) (h1 : z318 < 10) (h2 : 0 ≤ f_s ∧ f_s ≤ 11) (h3 : 0 ≤ z318 ∧ z318 ≤ 9) : 0 ≤ (f_s + 1) ∧ (f_s + 1) ≤ 11 := by omega
theorem vc_X2_travel_11 {f_s z318 : Int} (h0 : f_s = z318 + 1) (h1 : z318 < 10) (h2 : 0 ≤ f_s ∧ f_s ≤ 11) (h3 : 0 ≤ z318 ∧ z318 ≤ 9) : (f_s + 1) = (z318 + 1) + 1 := by omega
theorem vc_X2_travel_12 {N f_s z318 : Int} (h0 : (11 - z318) < N + 1) (h1 : f_s = z318 + 1) (h2 : z318 < 10) (h3 : 0 ≤ f_s ∧ f_s ≤ 11) (h4 : 0 ≤ z318 ∧ z318 ≤ 9) : (11 - (z318 + 1)) < N := by omega
theorem vc_X2_travel_14 {n0 z343 : Int} (h0 : z343 < 0) (h1 : z343 = -99999999 ∨ z343 = -4 ∨ (0 ≤ z343 ∧ z343 ≤ 9)) (h2 : z343 < n0) (h3 : (-99999999) ≤ z343 ∧ z343 ≤ 9) : (-99999999) ≤ z343 ∧ z343 ≤ (-4) := by omega
theorem vc_X2_travel_15 {n0 z343 : Int} (h0 : ¬ z343 = (-4)) (h1 : z343 = -99999999 ∨ z343 = -4 ∨ (0 ≤ z343 ∧ z343 ≤ 9)) (h2 : z343 < n0) (h3 : z343 < 0) (h4 : (-99999999) ≤ z343 ∧ z343 ≤ (-4)) : (-99999999) ≤ z343 ∧ z343 ≤ (-99999999) := by omega
theorem vc_X2_travel_16 {n0 z343 : Int} (h0 : z343 = (-4)) (h1 : z343 = -99999999 ∨ z343 = -4 ∨ (0 ≤ z343 ∧ z343 ≤ 9)) (h2 : z343 < n0) (h3 : z343 < 0) (h4 : (-99999999) ≤ z343 ∧ z343 ≤ (-4)) : (-4) ≤ z343 ∧ z343 ≤ (-4) := by omega
theorem vc_X2_travel_17  : ((1 : Int) : Int) = ((0 : Int) : Int) + (1 : Int) := by omega
set_option maxRecDepth 4000 in
set_option maxHeartbeats 4000000 in
theorem c_X2_travel {l : Launch} {D : va_G} {c : Nat → ClassId} {H0 : Heap} {sa : Nat × Nat × (Nat → Int32)} {w : mW} {μ : mM} (hw : mWF w) (hT : mT w μ) {p1 : Int} (hp1 : 0 ≤ p1 ∧ p1 ≤ 9) {p2 : Int} (hp2 : (-2147483648) ≤ p2 ∧ p2 ≤ 2147483647) (hq0 : p1 < w.2.2.2 0) : sC (gG l D c H0 sa) mX2_travel 3 0 0 [.ref 87, iv p1, iv p2] (mk w μ) (qI w [87006, 88999] μ (fun z μ1 => ((-2147483648) ≤ z ∧ z ≤ 2147483647) ∧ True)) := by
  refine sC.of rfl (by decide) (le_t rfl) ?_
  refine mr_lvE (lv' := [(0, .ref 87), (1, iv p1), (2, iv p2)]) rfl ?_
  refine sv_aload_n (pc := 0) dX2_travel_0 rfl rfl ?_
  refine gf_X2_1 (pc := 1) dX2_travel_1 wF_X2_15 (A_87 hw) hT ?_
  refine mr_iconst (pc := 4) (z := 0) dX2_travel_4 ?_
  refine mr_iload_n (pc := 5) (z := p1) dX2_travel_5 rfl rfl ?_
  refine ss_88 (pc := 6) dX2_travel_6 (A_88 hw) hT (rIx (n := 11) (rR (x := 0)) rfl) (vc_X2_travel_1 hq0 hp1) fun μ1 u2 T3 => ?_
  refine sv_aload_n (pc := 7) dX2_travel_7 rfl rfl ?_
  refine mr_iconst (pc := 8) (z := 1) dX2_travel_8 ?_
  refine pf_X2_6 (pc := 9) dX2_travel_9 wF_X2_77 (A_87 hw) T3 (rW (c := 0) (d := 11) (rR (x := 1)) rfl) fun μ4 u5 T6 => ?_
  refine mr_iconst (pc := 12) (z := 1) dX2_travel_12 ?_
  refine mr_iload_n (pc := 13) (z := p1) dX2_travel_13 rfl rfl ?_
  refine mr_ishl (pc := 14) (x := 1) (y := p1) dX2_travel_14 ?_
  refine mr_gen (P := fun z => (-2147483648) ≤ z ∧ z ≤ 2147483647) (r32i _) fun z7 q8 h9 => ?_
  refine mr_istore_n (pc := 15) (lv' := [(3, iv z7), (0, .ref 87), (1, iv p1), (2, iv p2)]) dX2_travel_15 rfl (by decide) rfl ?_
  refine mr_iconst (pc := 16) (z := 0) dX2_travel_16 ?_
  refine mr_istore (pc := 17) (lv' := [(4, iv 0), (3, iv z7), (0, .ref 87), (1, iv p1), (2, iv p2)]) dX2_travel_17 (by decide) rfl ?_
  have L321 : ∀ (nL321 : Nat) (z319 z318 : Int) (μ320 : mM) (f_s : Int), mT w μ320 → mF [87006, 88999] w μ4 μ320 → μ320 87 (6) = f_s → ((-2147483648) ≤ z319 ∧ z319 ≤ 2147483647) → (0 ≤ z318 ∧ z318 ≤ 10) → (f_s = z318 + 1) → (11 - z318) < (nL321 : Int) → sV (gG l D c H0 sa) mX2_travel (sRm 3 0 0) (sZ (gG l D c H0 sa) 0 0 (qI w [87006, 88999] μ (fun z μ1 => ((-2147483648) ≤ z ∧ z ≤ 2147483647) ∧ True))) 19 [(0, .ref 87), (2, iv p2), (3, iv z319), (4, iv z318)] [] (mk w μ320) 0 0 := by
    intro nL321
    induction nL321 with
    | zero => intro z319 z318 μ320 f_s T324 F325 q329 h322 h323 h327 h328; exact ((vc_X2_travel_2 h328 h327 h323)).elim
    | succ nL321 ih330 =>
      intro z319 z318 μ320 f_s T324 F325 q329 h322 h323 h327 h328
      have h331 : (0 ≤ f_s ∧ f_s ≤ 11) := by rw [← q329]; exact T324 87 87 (A_87 hw) (6)
      refine mr_iload (pc := 19) (z := z318) dX2_travel_19 rfl ?_
      refine mr_bipush (pc := 21) (z := 10) dX2_travel_21 (by decide) ?_
      refine mr_icmp_ge (pc := 23) (tgt := 103) dX2_travel_23 (by decide) (r32 h323 rfl) (r32 (rR (x := 10)) rfl) (fun h332 => ?_) (fun h332 => ?_)
      · have h333 : 10 ≤ z318 ∧ z318 ≤ 10 := (vc_X2_travel_3 h332 h327 h331 h323)
        refine mr_iconst (pc := 103) (z := 2) dX2_travel_103 ?_
        exact mr_iret dX2_travel_104 rfl (le_t rfl) (le_t rfl) T324 (mF.call (mF.up (mF.up mF.refl (A_88 hw) u2 rfl) (A_87 hw) u5 rfl) F325 rfl) ⟨(rW (c := (-2147483648)) (d := 2147483647) (rR (x := 2)) rfl), trivial⟩
      have h334 : 0 ≤ z318 ∧ z318 ≤ 9 := (vc_X2_travel_4 h332 h327 h331 h323)
      refine sv_aload_n (pc := 26) dX2_travel_26 rfl rfl ?_
      refine sv_aload_n (pc := 27) dX2_travel_27 rfl rfl ?_
      refine gf_X2_1 (pc := 28) dX2_travel_28 wF_X2_15 (A_87 hw) T324 ?_
      refine mr_iload (pc := 31) (z := z318) dX2_travel_31 rfl ?_
      refine la_88 (pc := 33) dX2_travel_33 (A_88 hw) T324 (rIx (n := 11) h334 rfl) fun z335 q336 h337 => ?_
      have h338 : 0 ≤ z335 ∧ z335 ≤ 9 := ⟨h337.1, h337.2.1⟩
      refine mr_iload_n (pc := 34) (z := p2) dX2_travel_34 rfl rfl ?_
      refine mr_cVP (pc := 35) (c_X2_partnerFor hw T324 h338 hp2 (vc_X2_travel_5 hq0 h337.2.2 hp1 h338)) (gOk _ _ _ _ _) dX2_travel_35 (tX2_partnerFor _ _ _ _ _) ⟨wV_X2_partnerFor, wL_X2_partnerFor⟩ wM_X2_80 (gCX2 _ _ _ _ _) rfl (A_87 hw) rfl ⟨le_t rfl, le_t rfl⟩ ⟨le_t rfl, le_t rfl⟩ rfl (le_t rfl) fun z343 h342 => ?_
      refine mr_istore (pc := 38) (lv' := [(5, iv z343), (0, .ref 87), (2, iv p2), (3, iv z319), (4, iv z318)]) dX2_travel_38 (by decide) rfl ?_
      refine mr_iload (pc := 40) (z := z343) dX2_travel_40 rfl ?_
      refine mr_if_ge (pc := 42) (tgt := 58) dX2_travel_42 (by decide) (r32 h342.1 rfl) (fun h344 => ?_) (fun h344 => ?_)
      · have h345 : 0 ≤ z343 ∧ z343 ≤ 9 := (vc_X2_travel_6 h344 h342.2.1 h342.2.2.1 h342.1)
        refine sv_aload_n (pc := 58) dX2_travel_58 rfl rfl ?_
        refine gf_X2_1 (pc := 59) dX2_travel_59 wF_X2_15 (A_87 hw) T324 ?_
        refine sv_aload_n (pc := 62) dX2_travel_62 rfl rfl ?_
        refine gk_X2_6 (pc := 63) dX2_travel_63 wF_X2_77 (A_87 hw) q329 ?_
        refine mr_iload (pc := 66) (z := z343) dX2_travel_66 rfl ?_
        refine ss_88 (pc := 68) dX2_travel_68 (A_88 hw) T324 (vc_X2_travel_7 h327 h332 h331 h334) (vc_X2_travel_8 hq0 h337.2.2 h342.2.1 h342.2.2.1 h344 hp1 h338 h345) fun μ346 u347 T348 => ?_
        refine sv_aload_n (pc := 69) dX2_travel_69 rfl rfl ?_
        refine sv_dup (pc := 70) dX2_travel_70 rfl ?_
        refine gk_X2_6 (pc := 71) dX2_travel_71 wF_X2_77 (A_87 hw) (u347.f (Or.inl (mAt.ne (A_88 hw) (A_87 hw) rfl)) q329) ?_
        refine mr_iconst (pc := 74) (z := 1) dX2_travel_74 ?_
        refine mr_iadd (pc := 75) (x := f_s) (y := 1) dX2_travel_75 ?_
        refine pf_X2_6 (pc := 76) dX2_travel_76 wF_X2_77 (A_87 hw) T348 (vc_X2_travel_9 h327 h332 h331 h334) fun μ349 u350 T351 => ?_
        refine mr_iload_n (pc := 79) (z := z319) dX2_travel_79 rfl rfl ?_
        refine mr_iload (pc := 80) (z := z343) dX2_travel_80 rfl ?_
        refine mr_ishr (pc := 82) (x := z319) (y := z343) dX2_travel_82 ?_
        refine mr_gen (P := fun z => (-2147483648) ≤ z ∧ z ≤ 2147483647) (r32i _) fun z352 q353 h354 => ?_
        refine mr_iconst (pc := 83) (z := 1) dX2_travel_83 ?_
        refine mr_iand (pc := 84) (x := z352) (y := 1) dX2_travel_84 ?_
        refine mr_gen (P := fun z => 0 ≤ z ∧ z ≤ 1) (rAndR (rR (x := 1)) rfl) fun z355 q356 h357 => ?_
        refine mr_if_eq (pc := 85) (tgt := 90) dX2_travel_85 (by decide) (r32 h357 rfl) (fun h358 => ?_) (fun h358 => ?_)
        · have h359 : 0 ≤ z355 ∧ z355 ≤ 0 := (vc_X12_ring_22 h358 h357)
          refine mr_iload_n (pc := 90) (z := z319) dX2_travel_90 rfl rfl ?_
          refine mr_iconst (pc := 91) (z := 1) dX2_travel_91 ?_
          refine mr_iload (pc := 92) (z := z343) dX2_travel_92 rfl ?_
          refine mr_ishl (pc := 94) (x := 1) (y := z343) dX2_travel_94 ?_
          refine mr_gen (P := fun z => (-2147483648) ≤ z ∧ z ≤ 2147483647) (r32i _) fun z360 q361 h362 => ?_
          refine mr_ior (pc := 95) (x := z319) (y := z360) dX2_travel_95 ?_
          refine mr_gen (P := fun z => (-2147483648) ≤ z ∧ z ≤ 2147483647) (r32i _) fun z363 q364 h365 => ?_
          refine mr_istore_n (pc := 96) (lv' := [(3, iv z363), (5, iv z343), (0, .ref 87), (2, iv p2), (4, iv z318)]) dX2_travel_96 rfl (by decide) rfl ?_
          refine mr_iinc (pc := 97) (lv' := [(4, iv (z318 + 1)), (3, iv z363), (5, iv z343), (0, .ref 87), (2, iv p2)]) dX2_travel_97 rfl (by decide) rfl ?_
          refine sv_goto (pc := 100) (tgt := 19) dX2_travel_100 (by decide) ?_
          refine mr_lvS (lv' := [(0, .ref 87), (2, iv p2), (3, iv z363), (4, iv (z318 + 1))]) (List.forall_mem_cons.mpr ⟨rfl, List.forall_mem_cons.mpr ⟨rfl, List.forall_mem_cons.mpr ⟨rfl, List.forall_mem_cons.mpr ⟨rfl, fun _ h => absurd h List.not_mem_nil⟩⟩⟩⟩) ?_
          exact ih330 z363 (z318 + 1) μ349 (f_s + 1) T351 (mF.up (mF.up (mF.call mF.refl F325 rfl) (A_88 hw) u347 rfl) (A_87 hw) u350 rfl) u350.1 h365 (rW (c := 0) (d := 10) (rAdd (e := 1) (f := 10) h334 (rR (x := 1)) rfl) rfl) (vc_X2_travel_11 h327 h332 h331 h334) (vc_X2_travel_12 (nS h328) h327 h332 h331 h334)
        have h366 : 1 ≤ z355 ∧ z355 ≤ 1 := (vc_X12_ring_24 h358 h357)
        refine mr_iconst (pc := 88) (z := 2) dX2_travel_88 ?_
        exact mr_iret dX2_travel_89 rfl (le_t rfl) (le_t rfl) T351 (mF.up (mF.up (mF.call (mF.up (mF.up mF.refl (A_88 hw) u2 rfl) (A_87 hw) u5 rfl) F325 rfl) (A_88 hw) u347 rfl) (A_87 hw) u350 rfl) ⟨(rW (c := (-2147483648)) (d := 2147483647) (rR (x := 2)) rfl), trivial⟩
      have h367 : (-99999999) ≤ z343 ∧ z343 ≤ (-4) := (vc_X2_travel_14 h344 h342.2.1 h342.2.2.1 h342.1)
      refine mr_iload (pc := 45) (z := z343) dX2_travel_45 rfl ?_
      refine mr_bipush (pc := 47) (z := (-4)) dX2_travel_47 (by decide) ?_
      refine mr_icmp_ne (pc := 49) (tgt := 56) dX2_travel_49 (by decide) (r32 h367 rfl) (r32 (rR (x := (-4))) rfl) (fun h370 => ?_) (fun h370 => ?_)
      · have h371 : (-99999999) ≤ z343 ∧ z343 ≤ (-99999999) := (vc_X2_travel_15 h370 h342.2.1 h342.2.2.1 h344 h367)
        refine mr_iconst (pc := 56) (z := 1) dX2_travel_56 ?_
        exact mr_iret dX2_travel_57 rfl (le_t rfl) (le_t rfl) T324 (mF.call (mF.up (mF.up mF.refl (A_88 hw) u2 rfl) (A_87 hw) u5 rfl) F325 rfl) ⟨(rW (c := (-2147483648)) (d := 2147483647) (rR (x := 1)) rfl), trivial⟩
      have h372 : (-4) ≤ z343 ∧ z343 ≤ (-4) := (vc_X2_travel_16 h370 h342.2.1 h342.2.2.1 h344 h367)
      refine mr_iconst (pc := 52) (z := 0) dX2_travel_52 ?_
      refine sv_goto (pc := 53) (tgt := 57) dX2_travel_53 (by decide) ?_
      exact mr_iret dX2_travel_57 rfl (le_t rfl) (le_t rfl) T324 (mF.call (mF.up (mF.up mF.refl (A_88 hw) u2 rfl) (A_87 hw) u5 rfl) F325 rfl) ⟨(rW (c := (-2147483648)) (d := 2147483647) (rR (x := 0)) rfl), trivial⟩
  refine mr_lvS (lv' := [(0, .ref 87), (2, iv p2), (3, iv z7), (4, iv 0)]) (List.forall_mem_cons.mpr ⟨rfl, List.forall_mem_cons.mpr ⟨rfl, List.forall_mem_cons.mpr ⟨rfl, List.forall_mem_cons.mpr ⟨rfl, fun _ h => absurd h List.not_mem_nil⟩⟩⟩⟩) ?_
  exact L321 12 z7 0 μ4 1 T6 mF.refl u5.1 h9 (rW (c := 0) (d := 10) (rR (x := 0)) rfl) vc_X2_travel_17 vc_X12_ring_27
theorem vc_X2_send_2  : (0 : Int) ≤ (0 : Int) := by omega
theorem vc_X2_send_3 {z6 : Int} (h0 : 0 ≤ z6 ∧ z6 ≤ 11) : 0 ≤ z6 := by omega
theorem vc_X2_send_4 {z6 : Int} (h0 : 0 ≤ z6 ∧ z6 ≤ 11) : 0 + z6 ≤ ((11 : Nat) : Int) := by omega
set_option maxRecDepth 4000 in
set_option maxHeartbeats 4000000 in
theorem c_X2_send {l : Launch} {D : va_G} {c : Nat → ClassId} {H0 : Heap} {sa : Nat × Nat × (Nat → Int32)} {w : mW} {μ : mM} (hw : mWF w) (hT : mT w μ) {p1 : Int} (hp1 : 0 ≤ p1 ∧ p1 ≤ 9) {p2 : Int} (hp2 : (-2147483648) ≤ p2 ∧ p2 ≤ 2147483647) (hq0 : p1 < w.2.2.2 0) : sC (gG l D c H0 sa) mX2_send 4 0 0 [.ref 87, iv p1, iv p2] (mk w μ) (qI w [87006, 87009, 88999, 89999] μ (fun z μ1 => ((-2147483648) ≤ z ∧ z ≤ 2147483647) ∧ True)) := by
  refine sC.of rfl (by decide) (le_t rfl) ?_
  refine mr_lvE (lv' := [(0, .ref 87), (1, iv p1), (2, iv p2)]) rfl ?_
  refine sv_aload_n (pc := 0) dX2_send_0 rfl rfl ?_
  refine mr_iload_n (pc := 1) (z := p1) dX2_send_1 rfl rfl ?_
  refine mr_iload_n (pc := 2) (z := p2) dX2_send_2 rfl rfl ?_
  refine mr_cVI (pc := 3) (c_X2_travel hw hT hp1 hp2 (vc_X9_end_1 hq0 hp1)) (gOk _ _ _ _ _) dX2_send_3 (tX2_travel _ _ _ _ _) ⟨wV_X2_travel, wL_X2_travel⟩ wM_X2_83 (gCX2 _ _ _ _ _) rfl (A_87 hw) rfl ⟨le_t rfl, le_t rfl⟩ ⟨le_t rfl, le_t rfl⟩ rfl (le_t rfl) fun z5 μ1 T2 F3 h4 => ?_
  refine mr_istore_n (pc := 6) (lv' := [(3, iv z5), (0, .ref 87), (1, iv p1), (2, iv p2)]) dX2_send_6 rfl (by decide) rfl ?_
  refine sv_aload_n (pc := 7) dX2_send_7 rfl rfl ?_
  refine gf_X2_1 (pc := 8) dX2_send_8 wF_X2_15 (A_87 hw) T2 ?_
  refine mr_iconst (pc := 11) (z := 0) dX2_send_11 ?_
  refine sv_aload_n (pc := 12) dX2_send_12 rfl rfl ?_
  refine gf_X2_8 (pc := 13) dX2_send_13 wF_X2_19 (A_87 hw) T2 ?_
  refine mr_iconst (pc := 16) (z := 0) dX2_send_16 ?_
  refine sv_aload_n (pc := 17) dX2_send_17 rfl rfl ?_
  refine gf_X2_6 (pc := 18) dX2_send_18 wF_X2_77 (A_87 hw) T2 fun z6 q7 h8 => ?_
  refine mr_ac (pc := 21) (sp := 0) (dp := 0) (n := z6) dX2_send_21 wM_X2_86 wN_J_ac wS_J_ac wI_J_sys rfl (A_88 hw) rfl (A_89 hw) rfl vc_X2_send_2 vc_X2_send_2 (vc_X2_send_3 h8) (by have h := (A_88 hw).2.2.2 rfl; rw [h]; exact (vc_X2_send_4 h8)) (by have h := (A_89 hw).2.2.2 rfl; rw [h]; exact (vc_X2_send_4 h8)) (Nat.le_trans (A_88 hw).2.2.1 (le_t rfl)) (Nat.le_trans (A_89 hw).2.2.1 (le_t rfl)) (le_t rfl) (le_t rfl) (le_t rfl) T2 (fun i j _ _ => rW (a := 0) (b := 9) ⟨(T2 _ _ (A_88 hw) i).1, (T2 _ _ (A_88 hw) i).2.1⟩ rfl) fun μ9 q10 T11 => ?_
  have F12 : mF [89999] w μ1 μ9 := mF.cell q10.1 (A_89 hw) rfl
  refine sv_aload_n (pc := 24) dX2_send_24 rfl rfl ?_
  refine sv_aload_n (pc := 25) dX2_send_25 rfl rfl ?_
  refine gk_X2_6 (pc := 26) dX2_send_26 wF_X2_77 (A_87 hw) (F12.f (A_87 hw) rfl q7) ?_
  refine pf_X2_9 (pc := 29) dX2_send_29 wF_X2_92 (A_87 hw) T11 h8 fun μ13 u14 T15 => ?_
  refine mr_iload_n (pc := 32) (z := z5) dX2_send_32 rfl rfl ?_
  exact mr_iret dX2_send_33 rfl (le_t rfl) (le_t rfl) T15 (mF.up (mF.call (mF.call mF.refl F3 rfl) F12 rfl) (A_87 hw) u14 rfl) ⟨h4.1, trivial⟩
theorem vc_X2_unitsOver_1 {z651 : Int} (h0 : (17 - z651) < ((0 : Nat) : Int)) (h1 : 0 ≤ z651 ∧ z651 ≤ 16) : False := by omega
theorem vc_X2_unitsOver_2 {n0 z651 z662 : Int} (h0 : z651 < z662) (h1 : (z662 = 0 ∨ 0 < n0)) (h2 : 0 ≤ z651 ∧ z651 ≤ 16) (h3 : 0 ≤ z662 ∧ z662 ≤ 16) : 0 ≤ z651 ∧ z651 ≤ 15 := by omega
theorem vc_X2_unitsOver_3 {n0 z651 z662 : Int} (h0 : z651 < z662) (h1 : (z662 = 0 ∨ 0 < n0)) (h2 : 0 ≤ z651 ∧ z651 ≤ 15) (h3 : 0 ≤ z662 ∧ z662 ≤ 16) : 1 ≤ z662 ∧ z662 ≤ 16 := by omega
theorem vc_X2_unitsOver_4 {n0 z651 z662 z727 : Int} (h0 : (z662 = 0 ∨ 0 < n0)) (h1 : (z727 = 0 ∨ z727 < n0)) (h2 : z651 < z662) (h3 : 0 ≤ z651 ∧ z651 ≤ 15) (h4 : 1 ≤ z662 ∧ z662 ≤ 16) (h5 : 0 ≤ z727 ∧ z727 ≤ 9) : z727 < n0 := by omega
theorem vc_X2_unitsOver_6 {N n0 z651 z662 : Int} (h0 : (17 - z651) < N + 1) (h1 : z651 < z662) (h2 : (z662 = 0 ∨ 0 < n0)) (h3 : 0 ≤ z651 ∧ z651 ≤ 15) (h4 : 1 ≤ z662 ∧ z662 ≤ 16) : (17 - (z651 + 1)) < N := by omega
theorem vc_X2_unitsOver_7 {z893 z903 : Int} (h0 : (z893 + 1) < z903) (h1 : 0 ≤ z893 ∧ z893 ≤ 10) (h2 : 0 ≤ z903 ∧ z903 ≤ 11) : 0 ≤ z893 ∧ z893 ≤ 9 := by omega
theorem vc_X2_unitsOver_8 {z893 z903 : Int} (h0 : (z893 + 1) < z903) (h1 : 0 ≤ z893 ∧ z893 ≤ 9) (h2 : 0 ≤ z903 ∧ z903 ≤ 11) : 2 ≤ z903 ∧ z903 ≤ 11 := by omega
theorem vc_X2_unitsOver_9 {N z893 z903 : Int} (h0 : (11 - z893) < N + 1) (h1 : (z893 + 1) < z903) (h2 : 0 ≤ z893 ∧ z893 ≤ 9) (h3 : 2 ≤ z903 ∧ z903 ≤ 11) : (11 - (z893 + 1)) < N := by omega
theorem vc_X2_unitsOver_10 {n0 p1 z926 : Int} (h0 : z926 = p1) (h1 : (z926 = 0 ∨ z926 < n0)) (h2 : (-2147483648) ≤ p1 ∧ p1 ≤ 2147483647) (h3 : 0 ≤ z926 ∧ z926 ≤ 9) : 0 ≤ p1 ∧ p1 ≤ 9 := by omega
theorem vc_X2_unitsOver_13  : (17 - 0) < ((18 : Nat) : Int) := by omega
set_option maxRecDepth 4000 in
set_option maxHeartbeats 4000000 in
theorem c_X2_unitsOver {l : Launch} {D : va_G} {c : Nat → ClassId} {H0 : Heap} {sa : Nat × Nat × (Nat → Int32)} {w : mW} {μ : mM} (hw : mWF w) (hT : mT w μ) {p1 : Int} (hp1 : (-2147483648) ≤ p1 ∧ p1 ≤ 2147483647) {p2 : Int} (hp2 : (-2147483648) ≤ p2 ∧ p2 ≤ 2147483647) : sC (gG l D c H0 sa) mX2_unitsOver 4 0 0 [.ref 87, iv p1, iv p2] (mk w μ) (qI w [87006, 88999] μ (fun z μ1 => ((-2147483648) ≤ z ∧ z ≤ 2147483647) ∧ True)) := by
  refine sC.of rfl (by decide) (le_t rfl) ?_
  refine mr_lvE (lv' := [(0, .ref 87), (1, iv p1), (2, iv p2)]) rfl ?_
  refine mr_iconst (pc := 0) (z := 0) dX2_unitsOver_0 ?_
  refine mr_istore_n (pc := 1) (lv' := [(3, iv 0), (0, .ref 87), (1, iv p1), (2, iv p2)]) dX2_unitsOver_1 rfl (by decide) rfl ?_
  refine mr_iconst (pc := 2) (z := 0) dX2_unitsOver_2 ?_
  refine mr_istore (pc := 3) (lv' := [(4, iv 0), (3, iv 0), (0, .ref 87), (1, iv p1), (2, iv p2)]) dX2_unitsOver_3 (by decide) rfl ?_
  have L654 : ∀ (nL654 : Nat) (z652 z651 : Int) (μ653 : mM), mT w μ653 → mF [87006, 88999] w μ μ653 → ((-2147483648) ≤ z652 ∧ z652 ≤ 2147483647) → (0 ≤ z651 ∧ z651 ≤ 16) → (17 - z651) < (nL654 : Int) → sV (gG l D c H0 sa) mX2_unitsOver (sRm 4 0 0) (sZ (gG l D c H0 sa) 0 0 (qI w [87006, 88999] μ (fun z μ1 => ((-2147483648) ≤ z ∧ z ≤ 2147483647) ∧ True))) 5 [(0, .ref 87), (1, iv p1), (2, iv p2), (3, iv z652), (4, iv z651)] [] (mk w μ653) 0 0 := by
    intro nL654
    induction nL654 with
    | zero => intro z652 z651 μ653 T657 F658 h655 h656 h660; exact ((vc_X2_unitsOver_1 h660 h656)).elim
    | succ nL654 ih661 =>
      intro z652 z651 μ653 T657 F658 h655 h656 h660
      refine mr_iload (pc := 5) (z := z651) dX2_unitsOver_5 rfl ?_
      refine sv_aload_n (pc := 7) dX2_unitsOver_7 rfl rfl ?_
      refine gf_X2_10 (pc := 8) dX2_unitsOver_8 wF_X2_95 (A_87 hw) T657 fun z662 q663 h664 => ?_
      have h665 : 0 ≤ z662 ∧ z662 ≤ 16 := ⟨h664.1, h664.2.1⟩
      refine mr_icmp_ge (pc := 11) (tgt := 93) dX2_unitsOver_11 (by decide) (r32 h656 rfl) (r32 h665 rfl) (fun h724 => ?_) (fun h724 => ?_)
      · refine mr_iload_n (pc := 93) (z := z652) dX2_unitsOver_93 rfl rfl ?_
        exact mr_iret dX2_unitsOver_94 rfl (le_t rfl) (le_t rfl) T657 (mF.call mF.refl F658 rfl) ⟨h655, trivial⟩
      have h725 : 0 ≤ z651 ∧ z651 ≤ 15 := (vc_X2_unitsOver_2 h724 h664.2.2 h656 h665)
      have h726 : 1 ≤ z662 ∧ z662 ≤ 16 := (vc_X2_unitsOver_3 h724 h664.2.2 h725 h665)
      refine sv_aload_n (pc := 14) dX2_unitsOver_14 rfl rfl ?_
      refine sv_aload_n (pc := 15) dX2_unitsOver_15 rfl rfl ?_
      refine gf_X2_2 (pc := 16) dX2_unitsOver_16 wF_X2_22 (A_87 hw) T657 ?_
      refine mr_iload (pc := 19) (z := z651) dX2_unitsOver_19 rfl ?_
      refine la_90 (pc := 21) dX2_unitsOver_21 (A_90 hw) T657 (rIx (n := 16) h725 rfl) fun z727 q728 h729 => ?_
      have h730 : 0 ≤ z727 ∧ z727 ≤ 9 := ⟨h729.1, h729.2.1⟩
      refine sv_aload_n (pc := 22) dX2_unitsOver_22 rfl rfl ?_
      refine gf_X2_3 (pc := 23) dX2_unitsOver_23 wF_X2_25 (A_87 hw) T657 ?_
      refine mr_iload (pc := 26) (z := z651) dX2_unitsOver_26 rfl ?_
      refine la_91 (pc := 28) dX2_unitsOver_28 (A_91 hw) T657 (rIx (n := 16) h725 rfl) fun z731 q732 h733 => ?_
      refine mr_cVI (pc := 29) (c_X2_travel hw T657 h730 h733 (vc_X2_unitsOver_4 h664.2.2 h729.2.2 h724 h725 h726 h730)) (gOk _ _ _ _ _) dX2_unitsOver_29 (tX2_travel _ _ _ _ _) ⟨wV_X2_travel, wL_X2_travel⟩ wM_X2_83 (gCX2 _ _ _ _ _) rfl (A_87 hw) rfl ⟨le_t rfl, le_t rfl⟩ ⟨le_t rfl, le_t rfl⟩ rfl (le_t rfl) fun z738 μ734 T735 F736 h737 => ?_
      refine sv_pop (pc := 32) dX2_unitsOver_32 rfl ?_
      refine mr_iconst (pc := 33) (z := 0) dX2_unitsOver_33 ?_
      refine mr_istore (pc := 34) (lv' := [(5, iv 0), (0, .ref 87), (1, iv p1), (2, iv p2), (3, iv z652), (4, iv z651)]) dX2_unitsOver_34 (by decide) rfl ?_
      have L895 : ∀ (nL895 : Nat) (z894 z893 : Int), True → ((-2147483648) ≤ z894 ∧ z894 ≤ 2147483647) → (0 ≤ z893 ∧ z893 ≤ 10) → (11 - z893) < (nL895 : Int) → sV (gG l D c H0 sa) mX2_unitsOver (sRm 4 0 0) (sZ (gG l D c H0 sa) 0 0 (qI w [87006, 88999] μ (fun z μ1 => ((-2147483648) ≤ z ∧ z ≤ 2147483647) ∧ True))) 36 [(0, .ref 87), (1, iv p1), (2, iv p2), (3, iv z894), (4, iv z651), (5, iv z893)] [] (mk w μ734) 0 0 := by
        intro nL895
        induction nL895 with
        | zero => intro z894 z893 _ h896 h897 h901; exact ((vc_X12_ring_2 h901 h897)).elim
        | succ nL895 ih902 =>
          intro z894 z893 _ h896 h897 h901
          refine mr_iload (pc := 36) (z := z893) dX2_unitsOver_36 rfl ?_
          refine mr_iconst (pc := 38) (z := 1) dX2_unitsOver_38 ?_
          refine mr_iadd (pc := 39) (x := z893) (y := 1) dX2_unitsOver_39 ?_
          refine sv_aload_n (pc := 40) dX2_unitsOver_40 rfl rfl ?_
          refine gf_X2_6 (pc := 41) dX2_unitsOver_41 wF_X2_77 (A_87 hw) T735 fun z903 q904 h905 => ?_
          refine mr_icmp_ge (pc := 44) (tgt := 87) dX2_unitsOver_44 (by decide) (r32 (rAdd (e := 1) (f := 11) h897 (rR (x := 1)) rfl) rfl) (r32 h905 rfl) (fun h923 => ?_) (fun h923 => ?_)
          · refine mr_iinc (pc := 87) (lv' := [(4, iv (z651 + 1)), (0, .ref 87), (1, iv p1), (2, iv p2), (3, iv z894), (5, iv z893)]) dX2_unitsOver_87 rfl (by decide) rfl ?_
            refine sv_goto (pc := 90) (tgt := 5) dX2_unitsOver_90 (by decide) ?_
            refine mr_lvS (lv' := [(0, .ref 87), (1, iv p1), (2, iv p2), (3, iv z894), (4, iv (z651 + 1))]) (List.forall_mem_cons.mpr ⟨rfl, List.forall_mem_cons.mpr ⟨rfl, List.forall_mem_cons.mpr ⟨rfl, List.forall_mem_cons.mpr ⟨rfl, List.forall_mem_cons.mpr ⟨rfl, fun _ h => absurd h List.not_mem_nil⟩⟩⟩⟩⟩) ?_
            exact ih661 z894 (z651 + 1) μ734 T735 (mF.call (mF.call mF.refl F658 rfl) F736 rfl) h896 (rW (c := 0) (d := 16) (rAdd (e := 1) (f := 16) h725 (rR (x := 1)) rfl) rfl) (vc_X2_unitsOver_6 (nS h660) h724 h664.2.2 h725 h726)
          have h924 : 0 ≤ z893 ∧ z893 ≤ 9 := (vc_X2_unitsOver_7 h923 h897 h905)
          have h925 : 2 ≤ z903 ∧ z903 ≤ 11 := (vc_X2_unitsOver_8 h923 h924 h905)
          refine sv_aload_n (pc := 47) dX2_unitsOver_47 rfl rfl ?_
          refine gf_X2_1 (pc := 48) dX2_unitsOver_48 wF_X2_15 (A_87 hw) T735 ?_
          refine mr_iload (pc := 51) (z := z893) dX2_unitsOver_51 rfl ?_
          refine la_88 (pc := 53) dX2_unitsOver_53 (A_88 hw) T735 (rIx (n := 11) h924 rfl) fun z926 q927 h928 => ?_
          have h929 : 0 ≤ z926 ∧ z926 ≤ 9 := ⟨h928.1, h928.2.1⟩
          refine mr_iload_n (pc := 54) (z := p1) dX2_unitsOver_54 rfl rfl ?_
          refine mr_icmp_ne (pc := 55) (tgt := 81) dX2_unitsOver_55 (by decide) (r32 h929 rfl) hp1 (fun h941 => ?_) (fun h941 => ?_)
          · refine mr_iinc (pc := 81) (lv' := [(5, iv (z893 + 1)), (0, .ref 87), (1, iv p1), (2, iv p2), (3, iv z894), (4, iv z651)]) dX2_unitsOver_81 rfl (by decide) rfl ?_
            refine sv_goto (pc := 84) (tgt := 36) dX2_unitsOver_84 (by decide) ?_
            refine mr_lvS (lv' := [(0, .ref 87), (1, iv p1), (2, iv p2), (3, iv z894), (4, iv z651), (5, iv (z893 + 1))]) (List.forall_mem_cons.mpr ⟨rfl, List.forall_mem_cons.mpr ⟨rfl, List.forall_mem_cons.mpr ⟨rfl, List.forall_mem_cons.mpr ⟨rfl, List.forall_mem_cons.mpr ⟨rfl, List.forall_mem_cons.mpr ⟨rfl, fun _ h => absurd h List.not_mem_nil⟩⟩⟩⟩⟩⟩) ?_
            exact ih902 z894 (z893 + 1) trivial h896 (rW (c := 0) (d := 10) (rAdd (e := 1) (f := 10) h924 (rR (x := 1)) rfl) rfl) (vc_X2_unitsOver_9 (nS h901) h923 h924 h925)
          have h942 : 0 ≤ p1 ∧ p1 ≤ 9 := (vc_X2_unitsOver_10 h941 h928.2.2 hp1 h929)
          refine sv_aload_n (pc := 58) dX2_unitsOver_58 rfl rfl ?_
          refine gf_X2_1 (pc := 59) dX2_unitsOver_59 wF_X2_15 (A_87 hw) T735 ?_
          refine mr_iload (pc := 62) (z := z893) dX2_unitsOver_62 rfl ?_
          refine mr_iconst (pc := 64) (z := 1) dX2_unitsOver_64 ?_
          refine mr_iadd (pc := 65) (x := z893) (y := 1) dX2_unitsOver_65 ?_
          refine la_88 (pc := 66) dX2_unitsOver_66 (A_88 hw) T735 (rIx (n := 11) (rAdd (e := 1) (f := 10) h924 (rR (x := 1)) rfl) rfl) fun z943 q944 h945 => ?_
          have h946 : 0 ≤ z943 ∧ z943 ≤ 9 := ⟨h945.1, h945.2.1⟩
          refine mr_iload_n (pc := 67) (z := p2) dX2_unitsOver_67 rfl rfl ?_
          refine mr_icmp_ne (pc := 68) (tgt := 81) dX2_unitsOver_68 (by decide) (r32 h946 rfl) hp2 (fun h953 => ?_) (fun h953 => ?_)
          · refine mr_iinc (pc := 81) (lv' := [(5, iv (z893 + 1)), (0, .ref 87), (1, iv p1), (2, iv p2), (3, iv z894), (4, iv z651)]) dX2_unitsOver_81 rfl (by decide) rfl ?_
            refine sv_goto (pc := 84) (tgt := 36) dX2_unitsOver_84 (by decide) ?_
            refine mr_lvS (lv' := [(0, .ref 87), (1, iv p1), (2, iv p2), (3, iv z894), (4, iv z651), (5, iv (z893 + 1))]) (List.forall_mem_cons.mpr ⟨rfl, List.forall_mem_cons.mpr ⟨rfl, List.forall_mem_cons.mpr ⟨rfl, List.forall_mem_cons.mpr ⟨rfl, List.forall_mem_cons.mpr ⟨rfl, List.forall_mem_cons.mpr ⟨rfl, fun _ h => absurd h List.not_mem_nil⟩⟩⟩⟩⟩⟩) ?_
            exact ih902 z894 (z893 + 1) trivial h896 (rW (c := 0) (d := 10) (rAdd (e := 1) (f := 10) h924 (rR (x := 1)) rfl) rfl) (vc_X2_unitsOver_9 (nS h901) h923 h924 h925)
          have h954 : 0 ≤ p2 ∧ p2 ≤ 9 := (vc_X2_unitsOver_10 h953 h945.2.2 hp2 h946)
          refine mr_iload_n (pc := 71) (z := z894) dX2_unitsOver_71 rfl rfl ?_
          refine sv_aload_n (pc := 72) dX2_unitsOver_72 rfl rfl ?_
          refine gf_X2_4 (pc := 73) dX2_unitsOver_73 wF_X2_28 (A_87 hw) T735 ?_
          refine mr_iload (pc := 76) (z := z651) dX2_unitsOver_76 rfl ?_
          refine la_92 (pc := 78) dX2_unitsOver_78 (A_92 hw) T735 (rIx (n := 16) h725 rfl) fun z955 q956 h957 => ?_
          refine mr_iadd (pc := 79) (x := z894) (y := z955) dX2_unitsOver_79 ?_
          refine mr_wrap fun z958 h959 => ?_
          refine mr_istore_n (pc := 80) (lv' := [(3, iv z958), (0, .ref 87), (1, iv p1), (2, iv p2), (4, iv z651), (5, iv z893)]) dX2_unitsOver_80 rfl (by decide) rfl ?_
          refine mr_iinc (pc := 81) (lv' := [(5, iv (z893 + 1)), (3, iv z958), (0, .ref 87), (1, iv p1), (2, iv p2), (4, iv z651)]) dX2_unitsOver_81 rfl (by decide) rfl ?_
          refine sv_goto (pc := 84) (tgt := 36) dX2_unitsOver_84 (by decide) ?_
          refine mr_lvS (lv' := [(0, .ref 87), (1, iv p1), (2, iv p2), (3, iv z958), (4, iv z651), (5, iv (z893 + 1))]) (List.forall_mem_cons.mpr ⟨rfl, List.forall_mem_cons.mpr ⟨rfl, List.forall_mem_cons.mpr ⟨rfl, List.forall_mem_cons.mpr ⟨rfl, List.forall_mem_cons.mpr ⟨rfl, List.forall_mem_cons.mpr ⟨rfl, fun _ h => absurd h List.not_mem_nil⟩⟩⟩⟩⟩⟩) ?_
          exact ih902 z958 (z893 + 1) trivial h959 (rW (c := 0) (d := 10) (rAdd (e := 1) (f := 10) h924 (rR (x := 1)) rfl) rfl) (vc_X2_unitsOver_9 (nS h901) h923 h924 h925)
      refine mr_lvS (lv' := [(0, .ref 87), (1, iv p1), (2, iv p2), (3, iv z652), (4, iv z651), (5, iv 0)]) (List.forall_mem_cons.mpr ⟨rfl, List.forall_mem_cons.mpr ⟨rfl, List.forall_mem_cons.mpr ⟨rfl, List.forall_mem_cons.mpr ⟨rfl, List.forall_mem_cons.mpr ⟨rfl, List.forall_mem_cons.mpr ⟨rfl, fun _ h => absurd h List.not_mem_nil⟩⟩⟩⟩⟩⟩) ?_
      exact L895 12 z652 0 trivial h655 (rW (c := 0) (d := 10) (rR (x := 0)) rfl) vc_X12_ring_27
  refine mr_lvS (lv' := [(0, .ref 87), (1, iv p1), (2, iv p2), (3, iv 0), (4, iv 0)]) (List.forall_mem_cons.mpr ⟨rfl, List.forall_mem_cons.mpr ⟨rfl, List.forall_mem_cons.mpr ⟨rfl, List.forall_mem_cons.mpr ⟨rfl, List.forall_mem_cons.mpr ⟨rfl, fun _ h => absurd h List.not_mem_nil⟩⟩⟩⟩⟩) ?_
  exact L654 18 0 0 μ hT mF.refl (rW (c := (-2147483648)) (d := 2147483647) (rR (x := 0)) rfl) (rW (c := 0) (d := 16) (rR (x := 0)) rfl) vc_X2_unitsOver_13
end
section
set_option maxRecDepth 4000 in
set_option maxHeartbeats 4000000 in
theorem c_X2_unitsThat {l : Launch} {D : va_G} {c : Nat → ClassId} {H0 : Heap} {sa : Nat × Nat × (Nat → Int32)} {w : mW} {μ : mM} (hw : mWF w) (hT : mT w μ) {p1 : Int} (hp1 : (-2147483648) ≤ p1 ∧ p1 ≤ 2147483647) : sC (gG l D c H0 sa) mX2_unitsThat 4 0 0 [.ref 87, iv p1] (mk w μ) (qI w [87006, 88999] μ (fun z μ1 => ((-2147483648) ≤ z ∧ z ≤ 2147483647) ∧ True)) := by
  refine sC.of rfl (by decide) (le_t rfl) ?_
  refine mr_lvE (lv' := [(0, .ref 87), (1, iv p1)]) rfl ?_
  refine mr_iconst (pc := 0) (z := 0) dX2_unitsThat_0 ?_
  refine mr_istore_n (pc := 1) (lv' := [(2, iv 0), (0, .ref 87), (1, iv p1)]) dX2_unitsThat_1 rfl (by decide) rfl ?_
  refine mr_iconst (pc := 2) (z := 0) dX2_unitsThat_2 ?_
  refine mr_istore_n (pc := 3) (lv' := [(3, iv 0), (2, iv 0), (0, .ref 87), (1, iv p1)]) dX2_unitsThat_3 rfl (by decide) rfl ?_
  have L210 : ∀ (nL210 : Nat) (z208 z207 : Int) (μ209 : mM), mT w μ209 → mF [87006, 88999] w μ μ209 → ((-2147483648) ≤ z208 ∧ z208 ≤ 2147483647) → (0 ≤ z207 ∧ z207 ≤ 16) → (17 - z207) < (nL210 : Int) → sV (gG l D c H0 sa) mX2_unitsThat (sRm 4 0 0) (sZ (gG l D c H0 sa) 0 0 (qI w [87006, 88999] μ (fun z μ1 => ((-2147483648) ≤ z ∧ z ≤ 2147483647) ∧ True))) 4 [(0, .ref 87), (1, iv p1), (2, iv z208), (3, iv z207)] [] (mk w μ209) 0 0 := by
    intro nL210
    induction nL210 with
    | zero => intro z208 z207 μ209 T213 F214 h211 h212 h216; exact ((vc_X2_unitsOver_1 h216 h212)).elim
    | succ nL210 ih217 =>
      intro z208 z207 μ209 T213 F214 h211 h212 h216
      refine mr_iload_n (pc := 4) (z := z207) dX2_unitsThat_4 rfl rfl ?_
      refine sv_aload_n (pc := 5) dX2_unitsThat_5 rfl rfl ?_
      refine gf_X2_10 (pc := 6) dX2_unitsThat_6 wF_X2_95 (A_87 hw) T213 fun z218 q219 h220 => ?_
      have h221 : 0 ≤ z218 ∧ z218 ≤ 16 := ⟨h220.1, h220.2.1⟩
      refine mr_icmp_ge (pc := 9) (tgt := 47) dX2_unitsThat_9 (by decide) (r32 h212 rfl) (r32 h221 rfl) (fun h241 => ?_) (fun h241 => ?_)
      · refine mr_iload_n (pc := 47) (z := z208) dX2_unitsThat_47 rfl rfl ?_
        exact mr_iret dX2_unitsThat_48 rfl (le_t rfl) (le_t rfl) T213 (mF.call mF.refl F214 rfl) ⟨h211, trivial⟩
      have h242 : 0 ≤ z207 ∧ z207 ≤ 15 := (vc_X2_unitsOver_2 h241 h220.2.2 h212 h221)
      have h243 : 1 ≤ z218 ∧ z218 ≤ 16 := (vc_X2_unitsOver_3 h241 h220.2.2 h242 h221)
      refine sv_aload_n (pc := 12) dX2_unitsThat_12 rfl rfl ?_
      refine sv_aload_n (pc := 13) dX2_unitsThat_13 rfl rfl ?_
      refine gf_X2_2 (pc := 14) dX2_unitsThat_14 wF_X2_22 (A_87 hw) T213 ?_
      refine mr_iload_n (pc := 17) (z := z207) dX2_unitsThat_17 rfl rfl ?_
      refine la_90 (pc := 18) dX2_unitsThat_18 (A_90 hw) T213 (rIx (n := 16) h242 rfl) fun z244 q245 h246 => ?_
      have h247 : 0 ≤ z244 ∧ z244 ≤ 9 := ⟨h246.1, h246.2.1⟩
      refine sv_aload_n (pc := 19) dX2_unitsThat_19 rfl rfl ?_
      refine gf_X2_3 (pc := 20) dX2_unitsThat_20 wF_X2_25 (A_87 hw) T213 ?_
      refine mr_iload_n (pc := 23) (z := z207) dX2_unitsThat_23 rfl rfl ?_
      refine la_91 (pc := 24) dX2_unitsThat_24 (A_91 hw) T213 (rIx (n := 16) h242 rfl) fun z248 q249 h250 => ?_
      refine mr_cVI (pc := 25) (c_X2_travel hw T213 h247 h250 (vc_X2_unitsOver_4 h220.2.2 h246.2.2 h241 h242 h243 h247)) (gOk _ _ _ _ _) dX2_unitsThat_25 (tX2_travel _ _ _ _ _) ⟨wV_X2_travel, wL_X2_travel⟩ wM_X2_83 (gCX2 _ _ _ _ _) rfl (A_87 hw) rfl ⟨le_t rfl, le_t rfl⟩ ⟨le_t rfl, le_t rfl⟩ rfl (le_t rfl) fun z255 μ251 T252 F253 h254 => ?_
      refine mr_iload_n (pc := 28) (z := p1) dX2_unitsThat_28 rfl rfl ?_
      refine mr_icmp_ne (pc := 29) (tgt := 41) dX2_unitsThat_29 (by decide) h254.1 hp1 (fun h261 => ?_) (fun h261 => ?_)
      · refine mr_iinc (pc := 41) (lv' := [(3, iv (z207 + 1)), (0, .ref 87), (1, iv p1), (2, iv z208)]) dX2_unitsThat_41 rfl (by decide) rfl ?_
        refine sv_goto (pc := 44) (tgt := 4) dX2_unitsThat_44 (by decide) ?_
        refine mr_lvS (lv' := [(0, .ref 87), (1, iv p1), (2, iv z208), (3, iv (z207 + 1))]) (List.forall_mem_cons.mpr ⟨rfl, List.forall_mem_cons.mpr ⟨rfl, List.forall_mem_cons.mpr ⟨rfl, List.forall_mem_cons.mpr ⟨rfl, fun _ h => absurd h List.not_mem_nil⟩⟩⟩⟩) ?_
        exact ih217 z208 (z207 + 1) μ251 T252 (mF.call (mF.call mF.refl F214 rfl) F253 rfl) h211 (rW (c := 0) (d := 16) (rAdd (e := 1) (f := 16) h242 (rR (x := 1)) rfl) rfl) (vc_X2_unitsOver_6 (nS h216) h241 h220.2.2 h242 h243)
      refine mr_iload_n (pc := 32) (z := z208) dX2_unitsThat_32 rfl rfl ?_
      refine sv_aload_n (pc := 33) dX2_unitsThat_33 rfl rfl ?_
      refine gf_X2_4 (pc := 34) dX2_unitsThat_34 wF_X2_28 (A_87 hw) T252 ?_
      refine mr_iload_n (pc := 37) (z := z207) dX2_unitsThat_37 rfl rfl ?_
      refine la_92 (pc := 38) dX2_unitsThat_38 (A_92 hw) T252 (rIx (n := 16) h242 rfl) fun z262 q263 h264 => ?_
      refine mr_iadd (pc := 39) (x := z208) (y := z262) dX2_unitsThat_39 ?_
      refine mr_wrap fun z265 h266 => ?_
      refine mr_istore_n (pc := 40) (lv' := [(2, iv z265), (0, .ref 87), (1, iv p1), (3, iv z207)]) dX2_unitsThat_40 rfl (by decide) rfl ?_
      refine mr_iinc (pc := 41) (lv' := [(3, iv (z207 + 1)), (2, iv z265), (0, .ref 87), (1, iv p1)]) dX2_unitsThat_41 rfl (by decide) rfl ?_
      refine sv_goto (pc := 44) (tgt := 4) dX2_unitsThat_44 (by decide) ?_
      refine mr_lvS (lv' := [(0, .ref 87), (1, iv p1), (2, iv z265), (3, iv (z207 + 1))]) (List.forall_mem_cons.mpr ⟨rfl, List.forall_mem_cons.mpr ⟨rfl, List.forall_mem_cons.mpr ⟨rfl, List.forall_mem_cons.mpr ⟨rfl, fun _ h => absurd h List.not_mem_nil⟩⟩⟩⟩) ?_
      exact ih217 z265 (z207 + 1) μ251 T252 (mF.call (mF.call mF.refl F214 rfl) F253 rfl) h266 (rW (c := 0) (d := 16) (rAdd (e := 1) (f := 16) h242 (rR (x := 1)) rfl) rfl) (vc_X2_unitsOver_6 (nS h216) h241 h220.2.2 h242 h243)
  refine mr_lvS (lv' := [(0, .ref 87), (1, iv p1), (2, iv 0), (3, iv 0)]) (List.forall_mem_cons.mpr ⟨rfl, List.forall_mem_cons.mpr ⟨rfl, List.forall_mem_cons.mpr ⟨rfl, List.forall_mem_cons.mpr ⟨rfl, fun _ h => absurd h List.not_mem_nil⟩⟩⟩⟩) ?_
  exact L210 18 0 0 μ hT mF.refl (rW (c := (-2147483648)) (d := 2147483647) (rR (x := 0)) rfl) (rW (c := 0) (d := 16) (rR (x := 0)) rfl) vc_X2_unitsOver_13
theorem vc_X2_unlikeAddresses_4 {n0 p1 p2 : Int} (h0 : p1 < n0) (h1 : p2 < n0) (h2 : 0 ≤ p1 ∧ p1 ≤ 9) (h3 : 0 ≤ p2 ∧ p2 ≤ 9) : p1 < n0 := by omega
theorem vc_X2_unlikeAddresses_5 {n0 p1 p2 z288 : Int} (h0 : p1 < n0) (h1 : p2 < n0) (h2 : z288 < n0) (h3 : z288 = -99999999 ∨ z288 = -4 ∨ (0 ≤ z288 ∧ z288 ≤ 9)) (h4 : 0 ≤ p1 ∧ p1 ≤ 9) (h5 : 0 ≤ p2 ∧ p2 ≤ 9) (h6 : (-99999999) ≤ z288 ∧ z288 ≤ 9) : p2 < n0 := by omega
set_option maxRecDepth 4000 in
set_option maxHeartbeats 4000000 in
theorem c_X2_unlikeAddresses {l : Launch} {D : va_G} {c : Nat → ClassId} {H0 : Heap} {sa : Nat × Nat × (Nat → Int32)} {w : mW} {μ : mM} (hw : mWF w) (hT : mT w μ) {p1 : Int} (hp1 : 0 ≤ p1 ∧ p1 ≤ 9) {p2 : Int} (hp2 : 0 ≤ p2 ∧ p2 ≤ 9) (hq0 : p1 < w.2.2.2 0) (hq1 : p2 < w.2.2.2 0) : sC (gG l D c H0 sa) mX2_unlikeAddresses 3 0 0 [.ref 87, iv p1, iv p2] (mk w μ) (qJ w [93999] μ (fun z μ1 => ((-9223372036854775808) ≤ z ∧ z ≤ 9223372036854775807) ∧ True)) := by
  refine sC.of rfl (by decide) (le_t rfl) ?_
  refine mr_lvE (lv' := [(0, .ref 87), (1, iv p1), (2, iv p2)]) rfl ?_
  refine sv_aload_n (pc := 0) dX2_unlikeAddresses_0 rfl rfl ?_
  refine mr_cVI (pc := 1) (c_X2_layBorders hw hT) (gOk _ _ _ _ _) dX2_unlikeAddresses_1 (tX2_layBorders _ _ _ _ _) ⟨wV_X2_layBorders, wL_X2_layBorders⟩ wM_X2_117 (gCX2 _ _ _ _ _) rfl (A_87 hw) rfl ⟨le_t rfl, le_t rfl⟩ ⟨le_t rfl, le_t rfl⟩ rfl (le_t rfl) fun z5 μ1 T2 F3 h4 => ?_
  refine mr_istore_n (pc := 4) (lv' := [(3, iv z5), (0, .ref 87), (1, iv p1), (2, iv p2)]) dX2_unlikeAddresses_4 rfl (by decide) rfl ?_
  refine mr_lconst (pc := 5) (z := 0) dX2_unlikeAddresses_5 (by decide) ?_
  refine mr_lstore (pc := 6) (lv' := [(4, jv 0), (3, iv z5), (0, .ref 87), (1, iv p1), (2, iv p2)]) dX2_unlikeAddresses_6 (by decide) rfl ?_
  refine mr_iconst (pc := 8) (z := 0) dX2_unlikeAddresses_8 ?_
  refine mr_istore (pc := 9) (lv' := [(6, iv 0), (4, jv 0), (3, iv z5), (0, .ref 87), (1, iv p1), (2, iv p2)]) dX2_unlikeAddresses_9 (by decide) rfl ?_
  have L240 : ∀ (nL240 : Nat) (z239 z238 : Int), True → ((-9223372036854775808) ≤ z239 ∧ z239 ≤ 9223372036854775807) → (0 ≤ z238 ∧ z238 ≤ 19) → (20 - z238) < (nL240 : Int) → sV (gG l D c H0 sa) mX2_unlikeAddresses (sRm 3 0 0) (sZ (gG l D c H0 sa) 0 0 (qJ w [93999] μ (fun z μ1 => ((-9223372036854775808) ≤ z ∧ z ≤ 9223372036854775807) ∧ True))) 11 [(0, .ref 87), (1, iv p1), (2, iv p2), (3, iv z5), (4, jv z239), (6, iv z238)] [] (mk w μ1) 0 0 := by
    intro nL240
    induction nL240 with
    | zero => intro z239 z238 _ h241 h242 h246; exact ((vc_X12_letWay_1 h246 h242)).elim
    | succ nL240 ih247 =>
      intro z239 z238 _ h241 h242 h246
      refine mr_iload (pc := 11) (z := z238) dX2_unlikeAddresses_11 rfl ?_
      refine mr_iconst (pc := 13) (z := 1) dX2_unlikeAddresses_13 ?_
      refine mr_iadd (pc := 14) (x := z238) (y := 1) dX2_unlikeAddresses_14 ?_
      refine mr_iload_n (pc := 15) (z := z5) dX2_unlikeAddresses_15 rfl rfl ?_
      refine mr_icmp_ge (pc := 16) (tgt := 74) dX2_unlikeAddresses_16 (by decide) (r32 (rAdd (e := 1) (f := 20) h242 (rR (x := 1)) rfl) rfl) (r32 h4.1 rfl) (fun h275 => ?_) (fun h275 => ?_)
      · refine mr_lload (pc := 74) (z := z239) dX2_unlikeAddresses_74 rfl ?_
        exact mr_lret dX2_unlikeAddresses_76 rfl (le_t rfl) (le_t rfl) T2 (mF.call mF.refl F3 rfl) ⟨h241, trivial⟩
      have h276 : 0 ≤ z238 ∧ z238 ≤ 18 := (vc_X12_letWay_2 h275 h242 h4.1)
      have h277 : 2 ≤ z5 ∧ z5 ≤ 20 := (vc_X12_letWay_3 h275 h276 h4.1)
      refine sv_aload_n (pc := 19) dX2_unlikeAddresses_19 rfl rfl ?_
      refine gf_X2_5 (pc := 20) dX2_unlikeAddresses_20 wF_X2_31 (A_87 hw) T2 ?_
      refine mr_iload (pc := 23) (z := z238) dX2_unlikeAddresses_23 rfl ?_
      refine la_93 (pc := 25) dX2_unlikeAddresses_25 (A_93 hw) T2 (rIx (n := 20) h276 rfl) fun z278 q279 h280 => ?_
      refine mr_l2i (pc := 26) dX2_unlikeAddresses_26 ?_
      refine mr_gen (P := fun z => (-2147483648) ≤ z ∧ z ≤ 2147483647) (r32i _) fun z281 q282 h283 => ?_
      refine mr_istore (pc := 27) (lv' := [(7, iv z281), (0, .ref 87), (1, iv p1), (2, iv p2), (3, iv z5), (4, jv z239), (6, iv z238)]) dX2_unlikeAddresses_27 (by decide) rfl ?_
      refine sv_aload_n (pc := 29) dX2_unlikeAddresses_29 rfl rfl ?_
      refine mr_iload_n (pc := 30) (z := p1) dX2_unlikeAddresses_30 rfl rfl ?_
      refine mr_iload (pc := 31) (z := z281) dX2_unlikeAddresses_31 rfl ?_
      refine mr_cVP (pc := 33) (c_X2_partnerFor hw T2 hp1 h283 (vc_X2_unlikeAddresses_4 hq0 hq1 hp1 hp2)) (gOk _ _ _ _ _) dX2_unlikeAddresses_33 (tX2_partnerFor _ _ _ _ _) ⟨wV_X2_partnerFor, wL_X2_partnerFor⟩ wM_X2_80 (gCX2 _ _ _ _ _) rfl (A_87 hw) rfl ⟨le_t rfl, le_t rfl⟩ ⟨le_t rfl, le_t rfl⟩ rfl (le_t rfl) fun z288 h287 => ?_
      refine sv_aload_n (pc := 36) dX2_unlikeAddresses_36 rfl rfl ?_
      refine mr_iload_n (pc := 37) (z := p2) dX2_unlikeAddresses_37 rfl rfl ?_
      refine mr_iload (pc := 38) (z := z281) dX2_unlikeAddresses_38 rfl ?_
      refine mr_cVP (pc := 40) (c_X2_partnerFor hw T2 hp2 h283 (vc_X2_unlikeAddresses_5 hq0 hq1 h287.2.2.1 h287.2.1 hp1 hp2 h287.1)) (gOk _ _ _ _ _) dX2_unlikeAddresses_40 (tX2_partnerFor _ _ _ _ _) ⟨wV_X2_partnerFor, wL_X2_partnerFor⟩ wM_X2_80 (gCX2 _ _ _ _ _) rfl (A_87 hw) rfl ⟨le_t rfl, le_t rfl⟩ ⟨le_t rfl, le_t rfl⟩ rfl (le_t rfl) fun z293 h292 => ?_
      refine mr_icmp_eq (pc := 43) (tgt := 68) dX2_unlikeAddresses_43 (by decide) (r32 h287.1 rfl) (r32 h292.1 rfl) (fun h303 => ?_) (fun h303 => ?_)
      · refine mr_iinc (pc := 68) (lv' := [(6, iv (z238 + 1)), (7, iv z281), (0, .ref 87), (1, iv p1), (2, iv p2), (3, iv z5), (4, jv z239)]) dX2_unlikeAddresses_68 rfl (by decide) rfl ?_
        refine sv_goto (pc := 71) (tgt := 11) dX2_unlikeAddresses_71 (by decide) ?_
        refine mr_lvS (lv' := [(0, .ref 87), (1, iv p1), (2, iv p2), (3, iv z5), (4, jv z239), (6, iv (z238 + 1))]) (List.forall_mem_cons.mpr ⟨rfl, List.forall_mem_cons.mpr ⟨rfl, List.forall_mem_cons.mpr ⟨rfl, List.forall_mem_cons.mpr ⟨rfl, List.forall_mem_cons.mpr ⟨rfl, List.forall_mem_cons.mpr ⟨rfl, fun _ h => absurd h List.not_mem_nil⟩⟩⟩⟩⟩⟩) ?_
        exact ih247 z239 (z238 + 1) trivial h241 (rW (c := 0) (d := 19) (rAdd (e := 1) (f := 19) h276 (rR (x := 1)) rfl) rfl) (vc_X12_letWay_8 (nS h246) h275 h276 h277)
      refine mr_lload (pc := 46) (z := z239) dX2_unlikeAddresses_46 rfl ?_
      refine sv_aload_n (pc := 48) dX2_unlikeAddresses_48 rfl rfl ?_
      refine gf_X2_5 (pc := 49) dX2_unlikeAddresses_49 wF_X2_31 (A_87 hw) T2 ?_
      refine mr_iload (pc := 52) (z := z238) dX2_unlikeAddresses_52 rfl ?_
      refine mr_iconst (pc := 54) (z := 1) dX2_unlikeAddresses_54 ?_
      refine mr_iadd (pc := 55) (x := z238) (y := 1) dX2_unlikeAddresses_55 ?_
      refine la_93 (pc := 56) dX2_unlikeAddresses_56 (A_93 hw) T2 (rIx (n := 20) (rAdd (e := 1) (f := 19) h276 (rR (x := 1)) rfl) rfl) fun z304 q305 h306 => ?_
      refine sv_aload_n (pc := 57) dX2_unlikeAddresses_57 rfl rfl ?_
      refine gf_X2_5 (pc := 58) dX2_unlikeAddresses_58 wF_X2_31 (A_87 hw) T2 ?_
      refine mr_iload (pc := 61) (z := z238) dX2_unlikeAddresses_61 rfl ?_
      refine lk_93 (pc := 63) dX2_unlikeAddresses_63 (A_93 hw) (rIx (n := 20) h276 rfl) q279 ?_
      refine mr_lsub (pc := 64) dX2_unlikeAddresses_64 ?_
      refine mr_genL (r64i _) fun z307 q308 h309 => ?_
      refine mr_ladd (pc := 65) dX2_unlikeAddresses_65 ?_
      refine mr_genL (r64i _) fun z310 q311 h312 => ?_
      refine mr_lstore (pc := 66) (lv' := [(4, jv z310), (7, iv z281), (0, .ref 87), (1, iv p1), (2, iv p2), (3, iv z5), (6, iv z238)]) dX2_unlikeAddresses_66 (by decide) rfl ?_
      refine mr_iinc (pc := 68) (lv' := [(6, iv (z238 + 1)), (4, jv z310), (7, iv z281), (0, .ref 87), (1, iv p1), (2, iv p2), (3, iv z5)]) dX2_unlikeAddresses_68 rfl (by decide) rfl ?_
      refine sv_goto (pc := 71) (tgt := 11) dX2_unlikeAddresses_71 (by decide) ?_
      refine mr_lvS (lv' := [(0, .ref 87), (1, iv p1), (2, iv p2), (3, iv z5), (4, jv z310), (6, iv (z238 + 1))]) (List.forall_mem_cons.mpr ⟨rfl, List.forall_mem_cons.mpr ⟨rfl, List.forall_mem_cons.mpr ⟨rfl, List.forall_mem_cons.mpr ⟨rfl, List.forall_mem_cons.mpr ⟨rfl, List.forall_mem_cons.mpr ⟨rfl, fun _ h => absurd h List.not_mem_nil⟩⟩⟩⟩⟩⟩) ?_
      exact ih247 z310 (z238 + 1) trivial h312 (rW (c := 0) (d := 19) (rAdd (e := 1) (f := 19) h276 (rR (x := 1)) rfl) rfl) (vc_X12_letWay_8 (nS h246) h275 h276 h277)
  refine mr_lvS (lv' := [(0, .ref 87), (1, iv p1), (2, iv p2), (3, iv z5), (4, jv 0), (6, iv 0)]) (List.forall_mem_cons.mpr ⟨rfl, List.forall_mem_cons.mpr ⟨rfl, List.forall_mem_cons.mpr ⟨rfl, List.forall_mem_cons.mpr ⟨rfl, List.forall_mem_cons.mpr ⟨rfl, List.forall_mem_cons.mpr ⟨rfl, fun _ h => absurd h List.not_mem_nil⟩⟩⟩⟩⟩⟩) ?_
  exact L240 21 0 0 trivial (rW (c := -9223372036854775808) (d := 9223372036854775807) (rR (x := 0)) rfl) (rW (c := 0) (d := 19) (rR (x := 0)) rfl) vc_X12_letWay_18
theorem vc_X11_letter_2 {n0 p1 z1 z8 : Int} (h0 : (z8 = 1 → 0 ≤ p1 ∧ p1 < z1)) (h1 : (z8 = 0 → p1 < 0 ∨ z1 ≤ p1)) (h2 : z8 = 0) (h3 : z1 = n0) (h4 : (-2147483648) ≤ p1 ∧ p1 ≤ 2147483647) (h5 : 0 ≤ z1 ∧ z1 ≤ 10) (h6 : 0 ≤ z8 ∧ z8 ≤ 0) : z8 = 0 := by omega
theorem vc_X11_letter_4 {n0 p1 z1 z8 : Int} (h0 : (z8 = 1 → 0 ≤ p1 ∧ p1 < z1)) (h1 : (z8 = 0 → p1 < 0 ∨ z1 ≤ p1)) (h2 : ¬ z8 = 0) (h3 : z1 = n0) (h4 : (-2147483648) ≤ p1 ∧ p1 ≤ 2147483647) (h5 : 0 ≤ z1 ∧ z1 ≤ 10) (h6 : 1 ≤ z8 ∧ z8 ≤ 1) : z8 = 1 := by omega
theorem vc_X11_letter_5 {n0 p1 z1 z8 : Int} (h0 : 0 ≤ p1 ∧ p1 < z1) (h1 : z1 = n0) (h2 : (z8 = 1 → 0 ≤ p1 ∧ p1 < z1)) (h3 : (z8 = 0 → p1 < 0 ∨ z1 ≤ p1)) (h4 : (-2147483648) ≤ p1 ∧ p1 ≤ 2147483647) (h5 : 0 ≤ z1 ∧ z1 ≤ 10) (h6 : 1 ≤ z8 ∧ z8 ≤ 1) : 0 ≤ p1 ∧ p1 ≤ 9 := by omega
theorem vc_X11_letter_6 {n0 p1 z1 z8 : Int} (h0 : 0 ≤ p1 ∧ p1 < z1) (h1 : z1 = n0) (h2 : (z8 = 1 → 0 ≤ p1 ∧ p1 < z1)) (h3 : (z8 = 0 → p1 < 0 ∨ z1 ≤ p1)) (h4 : 0 ≤ p1 ∧ p1 ≤ 9) (h5 : 0 ≤ z1 ∧ z1 ≤ 10) (h6 : 1 ≤ z8 ∧ z8 ≤ 1) : 1 ≤ z1 ∧ z1 ≤ 10 := by omega
theorem vc_X11_letter_7 {n0 p1 z1 z8 : Int} (h0 : z1 = n0) (h1 : (z8 = 1 → 0 ≤ p1 ∧ p1 < z1)) (h2 : (z8 = 0 → p1 < 0 ∨ z1 ≤ p1)) (h3 : 0 ≤ p1 ∧ p1 < z1) (h4 : ¬ z8 = 0) (h5 : 0 ≤ p1 ∧ p1 ≤ 9) (h6 : 1 ≤ z1 ∧ z1 ≤ 10) (h7 : 1 ≤ z8 ∧ z8 ≤ 1) : p1 < n0 := by omega
set_option maxRecDepth 4000 in
set_option maxHeartbeats 4000000 in
theorem c_X11_letter {l : Launch} {D : va_G} {c : Nat → ClassId} {H0 : Heap} {sa : Nat × Nat × (Nat → Int32)} {w : mW} {μ : mM} (hw : mWF w) (hT : mT w μ) {p1 : Int} (hp1 : (-2147483648) ≤ p1 ∧ p1 ≤ 2147483647) {p2 : Int} (hp2 : (-2147483648) ≤ p2 ∧ p2 ≤ 2147483647) : sC (gG l D c H0 sa) mX11_letter 5 0 0 [.ref 0, iv p1, iv p2] (mk w μ) (qI w [87006, 87009, 88999, 89999] μ (fun z μ1 => ((-2147483648) ≤ z ∧ z ≤ 2147483647) ∧ True)) := by
  refine sC.of rfl (by decide) (le_t rfl) ?_
  refine mr_lvE (lv' := [(0, .ref 0), (1, iv p1), (2, iv p2)]) rfl ?_
  refine sv_aload_n (pc := 0) dX11_letter_0 rfl rfl ?_
  refine mr_iload_n (pc := 1) (z := p1) dX11_letter_1 rfl rfl ?_
  obtain ⟨z1, q2⟩ : ∃ z, μ 6 15 = z := ⟨_, rfl⟩
  have h3 : (z1 = w.2.2.2 0 ∧ 0 ≤ z1 ∧ z1 ≤ 10) := by rw [← q2]; exact hT 6 6 (A_6 hw) 15
  refine mr_cVP (pc := 2) (c_X11_isDomain hw hT hp1 q2) (gOk _ _ _ _ _) dX11_letter_2 (tX11_isDomain _ _ _ _ _) ⟨wV_X11_isDomain, wL_X11_isDomain⟩ wM_X11_105 (gCX11 _ _ _ _ _) rfl (A_0 hw) rfl ⟨le_t rfl, le_t rfl⟩ ⟨le_t rfl, le_t rfl⟩ rfl (le_t rfl) fun z8 h7 => ?_
  refine mr_if_eq (pc := 5) (tgt := 20) dX11_letter_5 (by decide) (r32 h7.1 rfl) (fun h20 => ?_) (fun h20 => ?_)
  · have h21 : 0 ≤ z8 ∧ z8 ≤ 0 := (vc_X12_write_78 h20 h7.2.1 h7.2.2.1 hp1 h3.2 h7.1)
    have h22 : p1 < 0 ∨ z1 ≤ p1 := (h7.2.2.1 (vc_X11_letter_2 h7.2.1 h7.2.2.1 h20 h3.1 hp1 h3.2 h21))
    refine mr_iconst (pc := 20) (z := (-1)) dX11_letter_20 ?_
    exact mr_iret dX11_letter_21 rfl (le_t rfl) (le_t rfl) hT mF.refl ⟨(rW (c := (-2147483648)) (d := 2147483647) (rR (x := (-1))) rfl), trivial⟩
  have h23 : 1 ≤ z8 ∧ z8 ≤ 1 := (vc_X12_write_12 h20 h7.2.1 h7.2.2.1 hp1 h3.2 h7.1)
  have h24 : 0 ≤ p1 ∧ p1 < z1 := (h7.2.1 (vc_X11_letter_4 h7.2.1 h7.2.2.1 h20 h3.1 hp1 h3.2 h23))
  have h25 : 0 ≤ p1 ∧ p1 ≤ 9 := (vc_X11_letter_5 h24 h3.1 h7.2.1 h7.2.2.1 hp1 h3.2 h23)
  have h26 : 1 ≤ z1 ∧ z1 ≤ 10 := (vc_X11_letter_6 h24 h3.1 h7.2.1 h7.2.2.1 h25 h3.2 h23)
  refine sv_aload_n (pc := 8) dX11_letter_8 rfl rfl ?_
  refine gf_X11_8 (pc := 9) dX11_letter_9 wF_X11_65 (A_0 hw) hT ?_
  refine mr_iload_n (pc := 12) (z := p1) dX11_letter_12 rfl rfl ?_
  refine mr_iload_n (pc := 13) (z := p2) dX11_letter_13 rfl rfl ?_
  refine mr_cVI (pc := 14) (c_X2_send hw hT h25 hp2 (vc_X11_letter_7 h3.1 h7.2.1 h7.2.2.1 h24 h20 h25 h26 h23)) (gOk _ _ _ _ _) dX11_letter_14 (tX2_send _ _ _ _ _) ⟨wV_X2_send, wL_X2_send⟩ wM_X11_364 (gCX2 _ _ _ _ _) rfl (A_87 hw) rfl ⟨le_t rfl, le_t rfl⟩ ⟨le_t rfl, le_t rfl⟩ rfl (le_t rfl) fun z31 μ27 T28 F29 h30 => ?_
  refine sv_goto (pc := 17) (tgt := 21) dX11_letter_17 (by decide) ?_
  exact mr_iret dX11_letter_21 rfl (le_t rfl) (le_t rfl) T28 (mF.call mF.refl F29 rfl) ⟨h30.1, trivial⟩
theorem vc_X11_demand_7 {p3 : Int} (h0 : p3 < 1) (h1 : (-2147483648) ≤ p3 ∧ p3 ≤ 2147483647) : (-2147483648) ≤ p3 ∧ p3 ≤ 0 := by omega
theorem vc_X11_demand_8 {p3 : Int} (h0 : 1 ≤ p3) (h1 : (-2147483648) ≤ p3 ∧ p3 ≤ 2147483647) : 1 ≤ p3 ∧ p3 ≤ 2147483647 := by omega
theorem vc_X11_demand_9 {p3 : Int} (h0 : p3 ≤ 1000000) (h1 : 1 ≤ p3) (h2 : 1 ≤ p3 ∧ p3 ≤ 2147483647) : 1 ≤ p3 ∧ p3 ≤ 1000000 := by omega
theorem vc_X11_demand_10 {n0 z21 : Int} (h0 : z21 < 16) (h1 : (z21 = 0 ∨ 0 < n0)) (h2 : 0 ≤ z21 ∧ z21 ≤ 16) : 0 ≤ z21 ∧ z21 ≤ 15 := by omega
theorem vc_X11_demand_11 {n0 p1 z1 z21 z8 : Int} (h0 : z1 = n0) (h1 : (z8 = 1 → 0 ≤ p1 ∧ p1 < z1)) (h2 : (z8 = 0 → p1 < 0 ∨ z1 ≤ p1)) (h3 : 0 ≤ p1 ∧ p1 < z1) (h4 : (z21 = 0 ∨ 0 < n0)) (h5 : ¬ z8 = 0) (h6 : z21 < 16) (h7 : 0 ≤ p1 ∧ p1 ≤ 9) (h8 : 1 ≤ z1 ∧ z1 ≤ 10) (h9 : 0 ≤ z21 ∧ z21 ≤ 15) (h10 : 1 ≤ z8 ∧ z8 ≤ 1) : p1 < n0 := by omega
theorem vc_X11_demand_12 {n0 z1 z21 : Int} (h0 : (z21 = 0 ∨ 0 < n0)) (h1 : z21 < 16) (h2 : z1 = n0) (h3 : 1 ≤ z1 ∧ z1 ≤ 10) (h4 : 0 ≤ z21 ∧ z21 ≤ 15) : z21 ≤ 15 := by omega
theorem vc_X11_demand_13 {n0 z21 : Int} (h0 : 16 ≤ z21) (h1 : (z21 = 0 ∨ 0 < n0)) (h2 : 0 ≤ z21 ∧ z21 ≤ 16) : 16 ≤ z21 ∧ z21 ≤ 16 := by omega
theorem vc_X11_demand_14 {p3 : Int} (h0 : 1000000 < p3) (h1 : 1 ≤ p3) (h2 : 1 ≤ p3 ∧ p3 ≤ 2147483647) : 1000001 ≤ p3 ∧ p3 ≤ 2147483647 := by omega
set_option maxRecDepth 4000 in
set_option maxHeartbeats 4000000 in
theorem c_X11_demand {l : Launch} {D : va_G} {c : Nat → ClassId} {H0 : Heap} {sa : Nat × Nat × (Nat → Int32)} {w : mW} {μ : mM} (hw : mWF w) (hT : mT w μ) {p1 : Int} (hp1 : (-2147483648) ≤ p1 ∧ p1 ≤ 2147483647) {p2 : Int} (hp2 : (-2147483648) ≤ p2 ∧ p2 ≤ 2147483647) {p3 : Int} (hp3 : (-2147483648) ≤ p3 ∧ p3 ≤ 2147483647) : sC (gG l D c H0 sa) mX11_demand 2 0 0 [.ref 0, iv p1, iv p2, iv p3] (mk w μ) (qI w [87010, 90999, 91999, 92999] μ (fun z μ1 => ((-2147483648) ≤ z ∧ z ≤ 2147483647) ∧ True)) := by
  refine sC.of rfl (by decide) (le_t rfl) ?_
  refine mr_lvE (lv' := [(0, .ref 0), (1, iv p1), (2, iv p2), (3, iv p3)]) rfl ?_
  refine sv_aload_n (pc := 0) dX11_demand_0 rfl rfl ?_
  refine mr_iload_n (pc := 1) (z := p1) dX11_demand_1 rfl rfl ?_
  obtain ⟨z1, q2⟩ : ∃ z, μ 6 15 = z := ⟨_, rfl⟩
  have h3 : (z1 = w.2.2.2 0 ∧ 0 ≤ z1 ∧ z1 ≤ 10) := by rw [← q2]; exact hT 6 6 (A_6 hw) 15
  refine mr_cVP (pc := 2) (c_X11_isDomain hw hT hp1 q2) (gOk _ _ _ _ _) dX11_demand_2 (tX11_isDomain _ _ _ _ _) ⟨wV_X11_isDomain, wL_X11_isDomain⟩ wM_X11_105 (gCX11 _ _ _ _ _) rfl (A_0 hw) rfl ⟨le_t rfl, le_t rfl⟩ ⟨le_t rfl, le_t rfl⟩ rfl (le_t rfl) fun z8 h7 => ?_
  refine mr_if_eq (pc := 5) (tgt := 19) dX11_demand_5 (by decide) (r32 h7.1 rfl) (fun h9 => ?_) (fun h9 => ?_)
  · have h10 : 0 ≤ z8 ∧ z8 ≤ 0 := (vc_X12_write_78 h9 h7.2.1 h7.2.2.1 hp1 h3.2 h7.1)
    have h11 : p1 < 0 ∨ z1 ≤ p1 := (h7.2.2.1 (vc_X11_letter_2 h7.2.1 h7.2.2.1 h9 h3.1 hp1 h3.2 h10))
    refine mr_iconst (pc := 19) (z := (-1)) dX11_demand_19 ?_
    exact mr_iret dX11_demand_20 rfl (le_t rfl) (le_t rfl) hT mF.refl ⟨(rW (c := (-2147483648)) (d := 2147483647) (rR (x := (-1))) rfl), trivial⟩
  have h12 : 1 ≤ z8 ∧ z8 ≤ 1 := (vc_X12_write_12 h9 h7.2.1 h7.2.2.1 hp1 h3.2 h7.1)
  have h13 : 0 ≤ p1 ∧ p1 < z1 := (h7.2.1 (vc_X11_letter_4 h7.2.1 h7.2.2.1 h9 h3.1 hp1 h3.2 h12))
  have h14 : 0 ≤ p1 ∧ p1 ≤ 9 := (vc_X11_letter_5 h13 h3.1 h7.2.1 h7.2.2.1 hp1 h3.2 h12)
  have h15 : 1 ≤ z1 ∧ z1 ≤ 10 := (vc_X11_letter_6 h13 h3.1 h7.2.1 h7.2.2.1 h14 h3.2 h12)
  refine mr_iload_n (pc := 8) (z := p3) dX11_demand_8 rfl rfl ?_
  refine mr_iconst (pc := 9) (z := 1) dX11_demand_9 ?_
  refine mr_icmp_lt (pc := 10) (tgt := 19) dX11_demand_10 (by decide) hp3 (r32 (rR (x := 1)) rfl) (fun h16 => ?_) (fun h16 => ?_)
  · have h17 : (-2147483648) ≤ p3 ∧ p3 ≤ 0 := (vc_X11_demand_7 h16 hp3)
    refine mr_iconst (pc := 19) (z := (-1)) dX11_demand_19 ?_
    exact mr_iret dX11_demand_20 rfl (le_t rfl) (le_t rfl) hT mF.refl ⟨(rW (c := (-2147483648)) (d := 2147483647) (rR (x := (-1))) rfl), trivial⟩
  have h18 : 1 ≤ p3 ∧ p3 ≤ 2147483647 := (vc_X11_demand_8 h16 hp3)
  refine mr_iload_n (pc := 13) (z := p3) dX11_demand_13 rfl rfl ?_
  refine mr_ldc (pc := 14) (z := 1000000) dX11_demand_14 wG_X11_226 (by decide) ?_
  refine mr_icmp_le (pc := 16) (tgt := 21) dX11_demand_16 (by decide) (r32 h18 rfl) (r32 (rR (x := 1000000)) rfl) (fun h19 => ?_) (fun h19 => ?_)
  · have h20 : 1 ≤ p3 ∧ p3 ≤ 1000000 := (vc_X11_demand_9 h19 h16 h18)
    refine sv_aload_n (pc := 21) dX11_demand_21 rfl rfl ?_
    refine gf_X11_8 (pc := 22) dX11_demand_22 wF_X11_65 (A_0 hw) hT ?_
    refine gf_X2_10 (pc := 25) dX11_demand_25 wF_X11_373 (A_87 hw) hT fun z21 q22 h23 => ?_
    have h24 : 0 ≤ z21 ∧ z21 ≤ 16 := ⟨h23.1, h23.2.1⟩
    refine mr_bipush (pc := 28) (z := 16) dX11_demand_28 (by decide) ?_
    refine mr_icmp_lt (pc := 30) (tgt := 36) dX11_demand_30 (by decide) (r32 h24 rfl) (r32 (rR (x := 16)) rfl) (fun h25 => ?_) (fun h25 => ?_)
    · have h26 : 0 ≤ z21 ∧ z21 ≤ 15 := (vc_X11_demand_10 h25 h23.2.2 h24)
      refine sv_aload_n (pc := 36) dX11_demand_36 rfl rfl ?_
      refine gf_X11_8 (pc := 37) dX11_demand_37 wF_X11_65 (A_0 hw) hT ?_
      refine mr_iload_n (pc := 40) (z := p1) dX11_demand_40 rfl rfl ?_
      refine mr_iload_n (pc := 41) (z := p2) dX11_demand_41 rfl rfl ?_
      refine mr_iload_n (pc := 42) (z := p3) dX11_demand_42 rfl rfl ?_
      refine mr_cVI (pc := 43) (c_X2_addDemand hw hT h14 hp2 (rW (c := (-2147483648)) (d := 2147483647) h20 rfl) q22 (vc_X11_demand_11 h3.1 h7.2.1 h7.2.2.1 h13 h23.2.2 h9 h25 h14 h15 h26 h12) (vc_X11_demand_12 h23.2.2 h25 h3.1 h15 h26)) (gOk _ _ _ _ _) dX11_demand_43 (tX2_addDemand _ _ _ _ _) ⟨wV_X2_addDemand, wL_X2_addDemand⟩ wM_X11_376 (gCX2 _ _ _ _ _) rfl (A_87 hw) rfl ⟨le_t rfl, le_t rfl⟩ ⟨le_t rfl, le_t rfl⟩ rfl (le_t rfl) fun z31 μ27 T28 F29 h30 => ?_
      exact mr_iret dX11_demand_46 rfl (le_t rfl) (le_t rfl) T28 (mF.call mF.refl F29 rfl) ⟨h30.1, trivial⟩
    have h32 : 16 ≤ z21 ∧ z21 ≤ 16 := (vc_X11_demand_13 h25 h23.2.2 h24)
    refine mr_bipush (pc := 33) (z := (-3)) dX11_demand_33 (by decide) ?_
    exact mr_iret dX11_demand_35 rfl (le_t rfl) (le_t rfl) hT mF.refl ⟨(rW (c := (-2147483648)) (d := 2147483647) (rR (x := (-3))) rfl), trivial⟩
  have h33 : 1000001 ≤ p3 ∧ p3 ≤ 2147483647 := (vc_X11_demand_14 h19 h16 h18)
  refine mr_iconst (pc := 19) (z := (-1)) dX11_demand_19 ?_
  exact mr_iret dX11_demand_20 rfl (le_t rfl) (le_t rfl) hT mF.refl ⟨(rW (c := (-2147483648)) (d := 2147483647) (rR (x := (-1))) rfl), trivial⟩
set_option maxRecDepth 4000 in
set_option maxHeartbeats 4000000 in
theorem c_X11_load {l : Launch} {D : va_G} {c : Nat → ClassId} {H0 : Heap} {sa : Nat × Nat × (Nat → Int32)} {w : mW} {μ : mM} (hw : mWF w) (hT : mT w μ) {p1 : Int} (hp1 : (-2147483648) ≤ p1 ∧ p1 ≤ 2147483647) {p2 : Int} (hp2 : (-2147483648) ≤ p2 ∧ p2 ≤ 2147483647) : sC (gG l D c H0 sa) mX11_load 5 0 0 [.ref 0, iv p1, iv p2] (mk w μ) (qI w [87006, 88999] μ (fun z μ1 => ((-2147483648) ≤ z ∧ z ≤ 2147483647) ∧ True)) := by
  refine sC.of rfl (by decide) (le_t rfl) ?_
  refine mr_lvE (lv' := [(0, .ref 0), (1, iv p1), (2, iv p2)]) rfl ?_
  refine sv_aload_n (pc := 0) dX11_load_0 rfl rfl ?_
  refine mr_iload_n (pc := 1) (z := p1) dX11_load_1 rfl rfl ?_
  obtain ⟨z1, q2⟩ : ∃ z, μ 6 16 = z := ⟨_, rfl⟩
  have h3 : (z1 = w.2.2.2 1 ∧ 0 ≤ z1 ∧ z1 ≤ 20) := by rw [← q2]; exact hT 6 6 (A_6 hw) 16
  refine mr_cVP (pc := 2) (c_X11_isTie hw hT hp1 q2) (gOk _ _ _ _ _) dX11_load_2 (tX11_isTie _ _ _ _ _) ⟨wV_X11_isTie, wL_X11_isTie⟩ wM_X11_119 (gCX11 _ _ _ _ _) rfl (A_0 hw) rfl ⟨le_t rfl, le_t rfl⟩ ⟨le_t rfl, le_t rfl⟩ rfl (le_t rfl) fun z8 h7 => ?_
  refine mr_if_eq (pc := 5) (tgt := 15) dX11_load_5 (by decide) (r32 h7.1 rfl) (fun h9 => ?_) (fun h9 => ?_)
  · have h10 : 0 ≤ z8 ∧ z8 ≤ 0 := (vc_X12_write_1 h9 h7.2.1 h7.2.2.1 hp1 h3.2 h7.1)
    have h11 : p1 < 0 ∨ z1 ≤ p1 := (h7.2.2.1 (vc_X11_write_2 h7.2.1 h7.2.2.1 h9 h3.1 hp1 h3.2 h10))
    refine mr_iconst (pc := 15) (z := (-1)) dX11_load_15 ?_
    exact mr_iret dX11_load_16 rfl (le_t rfl) (le_t rfl) hT mF.refl ⟨(rW (c := (-2147483648)) (d := 2147483647) (rR (x := (-1))) rfl), trivial⟩
  have h12 : 1 ≤ z8 ∧ z8 ≤ 1 := (vc_X12_write_3 h9 h7.2.1 h7.2.2.1 hp1 h3.2 h7.1)
  have h13 : 0 ≤ p1 ∧ p1 < z1 := (h7.2.1 (vc_X11_write_4 h7.2.1 h7.2.2.1 h9 h3.1 hp1 h3.2 h12))
  have h14 : 0 ≤ p1 ∧ p1 ≤ 19 := (vc_X11_write_5 h13 h3.1 h7.2.1 h7.2.2.1 hp1 h3.2 h12)
  have h15 : 1 ≤ z1 ∧ z1 ≤ 20 := (vc_X11_write_6 h13 h3.1 h7.2.1 h7.2.2.1 h14 h3.2 h12)
  refine mr_iload_n (pc := 8) (z := p2) dX11_load_8 rfl rfl ?_
  refine mr_cSP (pc := 9) (c_X11_isEither hw hT hp2) (gOk _ _ _ _ _) dX11_load_9 (tX11_isEither _ _ _ _ _) wS_X11_isEither wM_X11_271 ⟨le_t rfl, le_t rfl⟩ ⟨le_t rfl, le_t rfl⟩ rfl (le_t rfl) fun z20 h19 => ?_
  refine mr_if_ne (pc := 12) (tgt := 17) dX11_load_12 (by decide) (r32 h19.1 rfl) (fun h21 => ?_) (fun h21 => ?_)
  · have h22 : 1 ≤ z20 ∧ z20 ≤ 1 := (vc_X11_write_9 h21 h19.2.1 h19.2.2.1 hp2 h19.1)
    have h23 : 0 ≤ p2 ∧ p2 ≤ 1 := (h19.2.1 (vc_X11_write_10 h19.2.1 h19.2.2.1 h21 hp2 h22))
    have h24 : 0 ≤ p2 ∧ p2 ≤ 1 := (vc_X11_write_11 h23 h19.2.1 h19.2.2.1 hp2 h22)
    refine sv_aload_n (pc := 17) dX11_load_17 rfl rfl ?_
    refine gf_X11_3 (pc := 18) dX11_load_18 wF_X11_26 (A_0 hw) hT ?_
    refine gf_X10_4 (pc := 21) dX11_load_21 wF_X11_122 (A_6 hw) hT ?_
    refine mr_iload_n (pc := 24) (z := p1) dX11_load_24 rfl rfl ?_
    refine la_11 (pc := 25) dX11_load_25 (A_11 hw) hT (rIx (n := 20) h14 rfl) (vc_X11_write_16 h3.1 h7.2.1 h7.2.2.1 h13 h9 h14 h15 h12) fun b25 q26 A27 => ?_
    refine mr_astore_n (pc := 26) (lv' := [(3, .ref b25), (0, .ref 0), (1, iv p1), (2, iv p2)]) dX11_load_26 rfl (by decide) rfl ?_
    refine sv_aload_n (pc := 27) dX11_load_27 rfl rfl ?_
    refine gf_X11_8 (pc := 28) dX11_load_28 wF_X11_65 (A_0 hw) hT ?_
    refine sv_aload_n (pc := 31) dX11_load_31 rfl rfl ?_
    refine mr_iload_n (pc := 32) (z := p2) dX11_load_32 rfl rfl ?_
    refine mr_cVP (pc := 33) (c_X9_end hw hT A27 (rW (c := (-2147483648)) (d := 2147483647) h24 rfl)) (gOk _ _ _ _ _) dX11_load_33 (tX9_end _ _ _ _ _) ⟨wV_X9_end, wL_X9_end⟩ wM_X11_277 (gCX9 _ _ _ _ _) rfl A27 rfl ⟨le_t rfl, le_t rfl⟩ ⟨le_t rfl, le_t rfl⟩ rfl (le_t rfl) fun z32 h31 => ?_
    refine sv_aload_n (pc := 36) dX11_load_36 rfl rfl ?_
    refine mr_iconst (pc := 37) (z := 1) dX11_load_37 ?_
    refine mr_iload_n (pc := 38) (z := p2) dX11_load_38 rfl rfl ?_
    refine mr_isub (pc := 39) (x := 1) (y := p2) dX11_load_39 ?_
    refine mr_cVP (pc := 40) (c_X9_end hw hT A27 (rW (c := (-2147483648)) (d := 2147483647) (rSub (e := 0) (f := 1) (rR (x := 1)) h24 rfl) rfl)) (gOk _ _ _ _ _) dX11_load_40 (tX9_end _ _ _ _ _) ⟨wV_X9_end, wL_X9_end⟩ wM_X11_277 (gCX9 _ _ _ _ _) rfl A27 rfl ⟨le_t rfl, le_t rfl⟩ ⟨le_t rfl, le_t rfl⟩ rfl (le_t rfl) fun z37 h36 => ?_
    refine mr_cVI (pc := 43) (c_X2_unitsOver hw hT (rW (c := (-2147483648)) (d := 2147483647) h31.1 rfl) (rW (c := (-2147483648)) (d := 2147483647) h36.1 rfl)) (gOk _ _ _ _ _) dX11_load_43 (tX2_unitsOver _ _ _ _ _) ⟨wV_X2_unitsOver, wL_X2_unitsOver⟩ wM_X11_379 (gCX2 _ _ _ _ _) rfl (A_87 hw) rfl ⟨le_t rfl, le_t rfl⟩ ⟨le_t rfl, le_t rfl⟩ rfl (le_t rfl) fun z42 μ38 T39 F40 h41 => ?_
    exact mr_iret dX11_load_46 rfl (le_t rfl) (le_t rfl) T39 (mF.call mF.refl F40 rfl) ⟨h41.1, trivial⟩
  have h43 : 0 ≤ z20 ∧ z20 ≤ 0 := (vc_X11_write_7 h21 h19.2.1 h19.2.2.1 hp2 h19.1)
  have h44 : p2 < 0 ∨ 1 < p2 := (h19.2.2.1 (vc_X11_write_8 h19.2.1 h19.2.2.1 h21 hp2 h43))
  refine mr_iconst (pc := 15) (z := (-1)) dX11_load_15 ?_
  exact mr_iret dX11_load_16 rfl (le_t rfl) (le_t rfl) hT mF.refl ⟨(rW (c := (-2147483648)) (d := 2147483647) (rR (x := (-1))) rfl), trivial⟩
theorem vc_X11_units_3 {p1 : Int} (h0 : p1 ≤ 2) (h1 : 0 ≤ p1) (h2 : 0 ≤ p1 ∧ p1 ≤ 2147483647) : 0 ≤ p1 ∧ p1 ≤ 2 := by omega
theorem vc_X11_units_4 {p1 : Int} (h0 : 2 < p1) (h1 : 0 ≤ p1) (h2 : 0 ≤ p1 ∧ p1 ≤ 2147483647) : 3 ≤ p1 ∧ p1 ≤ 2147483647 := by omega
set_option maxRecDepth 4000 in
set_option maxHeartbeats 4000000 in
theorem c_X11_units {l : Launch} {D : va_G} {c : Nat → ClassId} {H0 : Heap} {sa : Nat × Nat × (Nat → Int32)} {w : mW} {μ : mM} (hw : mWF w) (hT : mT w μ) {p1 : Int} (hp1 : (-2147483648) ≤ p1 ∧ p1 ≤ 2147483647) : sC (gG l D c H0 sa) mX11_units 5 0 0 [.ref 0, iv p1] (mk w μ) (qI w [87006, 88999] μ (fun z μ1 => ((-2147483648) ≤ z ∧ z ≤ 2147483647) ∧ True)) := by
  refine sC.of rfl (by decide) (le_t rfl) ?_
  refine mr_lvE (lv' := [(0, .ref 0), (1, iv p1)]) rfl ?_
  refine mr_iload_n (pc := 0) (z := p1) dX11_units_0 rfl rfl ?_
  refine mr_if_lt (pc := 1) (tgt := 9) dX11_units_1 (by decide) hp1 (fun h10 => ?_) (fun h10 => ?_)
  · have h11 : (-2147483648) ≤ p1 ∧ p1 ≤ (-1) := (vc_X12_ring_60 h10 hp1)
    refine mr_iconst (pc := 9) (z := (-1)) dX11_units_9 ?_
    refine sv_goto (pc := 10) (tgt := 21) dX11_units_10 (by decide) ?_
    exact mr_iret dX11_units_21 rfl (le_t rfl) (le_t rfl) hT mF.refl ⟨(rW (c := (-2147483648)) (d := 2147483647) (rR (x := (-1))) rfl), trivial⟩
  have h12 : 0 ≤ p1 ∧ p1 ≤ 2147483647 := (vc_X12_ring_1 h10 hp1)
  refine mr_iload_n (pc := 4) (z := p1) dX11_units_4 rfl rfl ?_
  refine mr_iconst (pc := 5) (z := 2) dX11_units_5 ?_
  refine mr_icmp_le (pc := 6) (tgt := 13) dX11_units_6 (by decide) (r32 h12 rfl) (r32 (rR (x := 2)) rfl) (fun h20 => ?_) (fun h20 => ?_)
  · have h21 : 0 ≤ p1 ∧ p1 ≤ 2 := (vc_X11_units_3 h20 h10 h12)
    refine sv_aload_n (pc := 13) dX11_units_13 rfl rfl ?_
    refine gf_X11_8 (pc := 14) dX11_units_14 wF_X11_65 (A_0 hw) hT ?_
    refine mr_iload_n (pc := 17) (z := p1) dX11_units_17 rfl rfl ?_
    refine mr_cVI (pc := 18) (c_X2_unitsThat hw hT (rW (c := (-2147483648)) (d := 2147483647) h21 rfl)) (gOk _ _ _ _ _) dX11_units_18 (tX2_unitsThat _ _ _ _ _) ⟨wV_X2_unitsThat, wL_X2_unitsThat⟩ wM_X11_382 (gCX2 _ _ _ _ _) rfl (A_87 hw) rfl ⟨le_t rfl, le_t rfl⟩ ⟨le_t rfl, le_t rfl⟩ rfl (le_t rfl) fun z26 μ22 T23 F24 h25 => ?_
    exact mr_iret dX11_units_21 rfl (le_t rfl) (le_t rfl) T23 (mF.call mF.refl F24 rfl) ⟨h25.1, trivial⟩
  have h27 : 3 ≤ p1 ∧ p1 ≤ 2147483647 := (vc_X11_units_4 h20 h10 h12)
  refine mr_iconst (pc := 9) (z := (-1)) dX11_units_9 ?_
  refine sv_goto (pc := 10) (tgt := 21) dX11_units_10 (by decide) ?_
  exact mr_iret dX11_units_21 rfl (le_t rfl) (le_t rfl) hT mF.refl ⟨(rW (c := (-2147483648)) (d := 2147483647) (rR (x := (-1))) rfl), trivial⟩
theorem vc_X11_differ_8 {n0 p1 p2 z1 z41 z8 : Int} (h0 : (z41 = 1 → 0 ≤ p2 ∧ p2 < z1)) (h1 : (z41 = 0 → p2 < 0 ∨ z1 ≤ p2)) (h2 : z41 = 0) (h3 : z1 = n0) (h4 : (z8 = 1 → 0 ≤ p1 ∧ p1 < z1)) (h5 : (z8 = 0 → p1 < 0 ∨ z1 ≤ p1)) (h6 : 0 ≤ p1 ∧ p1 < z1) (h7 : 0 ≤ p1 ∧ p1 ≤ 9) (h8 : (-2147483648) ≤ p2 ∧ p2 ≤ 2147483647) (h9 : 1 ≤ z1 ∧ z1 ≤ 10) (h10 : 0 ≤ z41 ∧ z41 ≤ 0) (h11 : 1 ≤ z8 ∧ z8 ≤ 1) : z41 = 0 := by omega
theorem vc_X11_differ_10 {n0 p1 p2 z1 z41 z8 : Int} (h0 : (z41 = 1 → 0 ≤ p2 ∧ p2 < z1)) (h1 : (z41 = 0 → p2 < 0 ∨ z1 ≤ p2)) (h2 : ¬ z41 = 0) (h3 : z1 = n0) (h4 : (z8 = 1 → 0 ≤ p1 ∧ p1 < z1)) (h5 : (z8 = 0 → p1 < 0 ∨ z1 ≤ p1)) (h6 : 0 ≤ p1 ∧ p1 < z1) (h7 : 0 ≤ p1 ∧ p1 ≤ 9) (h8 : (-2147483648) ≤ p2 ∧ p2 ≤ 2147483647) (h9 : 1 ≤ z1 ∧ z1 ≤ 10) (h10 : 1 ≤ z41 ∧ z41 ≤ 1) (h11 : 1 ≤ z8 ∧ z8 ≤ 1) : z41 = 1 := by omega
theorem vc_X11_differ_11 {n0 p1 p2 z1 z41 z8 : Int} (h0 : 0 ≤ p2 ∧ p2 < z1) (h1 : z1 = n0) (h2 : (z8 = 1 → 0 ≤ p1 ∧ p1 < z1)) (h3 : (z8 = 0 → p1 < 0 ∨ z1 ≤ p1)) (h4 : 0 ≤ p1 ∧ p1 < z1) (h5 : (z41 = 1 → 0 ≤ p2 ∧ p2 < z1)) (h6 : (z41 = 0 → p2 < 0 ∨ z1 ≤ p2)) (h7 : 0 ≤ p1 ∧ p1 ≤ 9) (h8 : (-2147483648) ≤ p2 ∧ p2 ≤ 2147483647) (h9 : 1 ≤ z1 ∧ z1 ≤ 10) (h10 : 1 ≤ z41 ∧ z41 ≤ 1) (h11 : 1 ≤ z8 ∧ z8 ≤ 1) : 0 ≤ p2 ∧ p2 ≤ 9 := by omega
theorem vc_X11_differ_12 {n0 p1 p2 z1 z41 z8 : Int} (h0 : z1 = n0) (h1 : (z8 = 1 → 0 ≤ p1 ∧ p1 < z1)) (h2 : (z8 = 0 → p1 < 0 ∨ z1 ≤ p1)) (h3 : 0 ≤ p1 ∧ p1 < z1) (h4 : ¬ z8 = 0) (h5 : (z41 = 1 → 0 ≤ p2 ∧ p2 < z1)) (h6 : (z41 = 0 → p2 < 0 ∨ z1 ≤ p2)) (h7 : 0 ≤ p2 ∧ p2 < z1) (h8 : 0 ≤ p1 ∧ p1 ≤ 9) (h9 : 0 ≤ p2 ∧ p2 ≤ 9) (h10 : 1 ≤ z1 ∧ z1 ≤ 10) (h11 : 1 ≤ z41 ∧ z41 ≤ 1) (h12 : 1 ≤ z8 ∧ z8 ≤ 1) : p1 < n0 := by omega
theorem vc_X11_differ_13 {n0 p1 p2 z1 z41 z8 : Int} (h0 : z1 = n0) (h1 : (z41 = 1 → 0 ≤ p2 ∧ p2 < z1)) (h2 : (z41 = 0 → p2 < 0 ∨ z1 ≤ p2)) (h3 : 0 ≤ p2 ∧ p2 < z1) (h4 : (z8 = 1 → 0 ≤ p1 ∧ p1 < z1)) (h5 : (z8 = 0 → p1 < 0 ∨ z1 ≤ p1)) (h6 : 0 ≤ p1 ∧ p1 < z1) (h7 : ¬ z41 = 0) (h8 : 0 ≤ p1 ∧ p1 ≤ 9) (h9 : 0 ≤ p2 ∧ p2 ≤ 9) (h10 : 1 ≤ z1 ∧ z1 ≤ 10) (h11 : 1 ≤ z41 ∧ z41 ≤ 1) (h12 : 1 ≤ z8 ∧ z8 ≤ 1) : p2 < n0 := by omega
set_option maxRecDepth 4000 in
set_option maxHeartbeats 4000000 in
theorem c_X11_differ {l : Launch} {D : va_G} {c : Nat → ClassId} {H0 : Heap} {sa : Nat × Nat × (Nat → Int32)} {w : mW} {μ : mM} (hw : mWF w) (hT : mT w μ) {p1 : Int} (hp1 : (-2147483648) ≤ p1 ∧ p1 ≤ 2147483647) {p2 : Int} (hp2 : (-2147483648) ≤ p2 ∧ p2 ≤ 2147483647) : sC (gG l D c H0 sa) mX11_differ 4 0 0 [.ref 0, iv p1, iv p2] (mk w μ) (qJ w [93999] μ (fun z μ1 => ((-9223372036854775808) ≤ z ∧ z ≤ 9223372036854775807) ∧ True)) := by
  refine sC.of rfl (by decide) (le_t rfl) ?_
  refine mr_lvE (lv' := [(0, .ref 0), (1, iv p1), (2, iv p2)]) rfl ?_
  refine sv_aload_n (pc := 0) dX11_differ_0 rfl rfl ?_
  refine mr_iload_n (pc := 1) (z := p1) dX11_differ_1 rfl rfl ?_
  obtain ⟨z1, q2⟩ : ∃ z, μ 6 15 = z := ⟨_, rfl⟩
  have h3 : (z1 = w.2.2.2 0 ∧ 0 ≤ z1 ∧ z1 ≤ 10) := by rw [← q2]; exact hT 6 6 (A_6 hw) 15
  refine mr_cVP (pc := 2) (c_X11_isDomain hw hT hp1 q2) (gOk _ _ _ _ _) dX11_differ_2 (tX11_isDomain _ _ _ _ _) ⟨wV_X11_isDomain, wL_X11_isDomain⟩ wM_X11_105 (gCX11 _ _ _ _ _) rfl (A_0 hw) rfl ⟨le_t rfl, le_t rfl⟩ ⟨le_t rfl, le_t rfl⟩ rfl (le_t rfl) fun z8 h7 => ?_
  refine mr_if_eq (pc := 5) (tgt := 28) dX11_differ_5 (by decide) (r32 h7.1 rfl) (fun h30 => ?_) (fun h30 => ?_)
  · have h31 : 0 ≤ z8 ∧ z8 ≤ 0 := (vc_X12_write_78 h30 h7.2.1 h7.2.2.1 hp1 h3.2 h7.1)
    have h32 : p1 < 0 ∨ z1 ≤ p1 := (h7.2.2.1 (vc_X11_letter_2 h7.2.1 h7.2.2.1 h30 h3.1 hp1 h3.2 h31))
    refine mr_ldc2 (pc := 28) (z := (-1)) dX11_differ_28 wH_X11_392 (by decide) ?_
    exact mr_lret dX11_differ_31 rfl (le_t rfl) (le_t rfl) hT mF.refl ⟨(rW (c := -9223372036854775808) (d := 9223372036854775807) (rR (x := (-1))) rfl), trivial⟩
  have h33 : 1 ≤ z8 ∧ z8 ≤ 1 := (vc_X12_write_12 h30 h7.2.1 h7.2.2.1 hp1 h3.2 h7.1)
  have h34 : 0 ≤ p1 ∧ p1 < z1 := (h7.2.1 (vc_X11_letter_4 h7.2.1 h7.2.2.1 h30 h3.1 hp1 h3.2 h33))
  have h35 : 0 ≤ p1 ∧ p1 ≤ 9 := (vc_X11_letter_5 h34 h3.1 h7.2.1 h7.2.2.1 hp1 h3.2 h33)
  have h36 : 1 ≤ z1 ∧ z1 ≤ 10 := (vc_X11_letter_6 h34 h3.1 h7.2.1 h7.2.2.1 h35 h3.2 h33)
  refine sv_aload_n (pc := 8) dX11_differ_8 rfl rfl ?_
  refine mr_iload_n (pc := 9) (z := p2) dX11_differ_9 rfl rfl ?_
  refine mr_cVP (pc := 10) (c_X11_isDomain hw hT hp2 q2) (gOk _ _ _ _ _) dX11_differ_10 (tX11_isDomain _ _ _ _ _) ⟨wV_X11_isDomain, wL_X11_isDomain⟩ wM_X11_105 (gCX11 _ _ _ _ _) rfl (A_0 hw) rfl ⟨le_t rfl, le_t rfl⟩ ⟨le_t rfl, le_t rfl⟩ rfl (le_t rfl) fun z41 h40 => ?_
  refine mr_if_eq (pc := 13) (tgt := 28) dX11_differ_13 (by decide) (r32 h40.1 rfl) (fun h52 => ?_) (fun h52 => ?_)
  · have h53 : 0 ≤ z41 ∧ z41 ≤ 0 := (vc_X12_differ_44 h52 h40.2.1 h40.2.2.1 hp2 h36 h40.1)
    have h54 : p2 < 0 ∨ z1 ≤ p2 := (h40.2.2.1 (vc_X11_differ_8 h40.2.1 h40.2.2.1 h52 h3.1 h7.2.1 h7.2.2.1 h34 h35 hp2 h36 h53 h33))
    refine mr_ldc2 (pc := 28) (z := (-1)) dX11_differ_28 wH_X11_392 (by decide) ?_
    exact mr_lret dX11_differ_31 rfl (le_t rfl) (le_t rfl) hT mF.refl ⟨(rW (c := -9223372036854775808) (d := 9223372036854775807) (rR (x := (-1))) rfl), trivial⟩
  have h55 : 1 ≤ z41 ∧ z41 ≤ 1 := (vc_X12_differ_7 h52 h40.2.1 h40.2.2.1 hp2 h36 h40.1)
  have h56 : 0 ≤ p2 ∧ p2 < z1 := (h40.2.1 (vc_X11_differ_10 h40.2.1 h40.2.2.1 h52 h3.1 h7.2.1 h7.2.2.1 h34 h35 hp2 h36 h55 h33))
  have h57 : 0 ≤ p2 ∧ p2 ≤ 9 := (vc_X11_differ_11 h56 h3.1 h7.2.1 h7.2.2.1 h34 h40.2.1 h40.2.2.1 h35 hp2 h36 h55 h33)
  refine sv_aload_n (pc := 16) dX11_differ_16 rfl rfl ?_
  refine gf_X11_8 (pc := 17) dX11_differ_17 wF_X11_65 (A_0 hw) hT ?_
  refine mr_iload_n (pc := 20) (z := p1) dX11_differ_20 rfl rfl ?_
  refine mr_iload_n (pc := 21) (z := p2) dX11_differ_21 rfl rfl ?_
  refine mr_cVJ (pc := 22) (c_X2_unlikeAddresses hw hT h35 h57 (vc_X11_differ_12 h3.1 h7.2.1 h7.2.2.1 h34 h30 h40.2.1 h40.2.2.1 h56 h35 h57 h36 h55 h33) (vc_X11_differ_13 h3.1 h40.2.1 h40.2.2.1 h56 h7.2.1 h7.2.2.1 h34 h52 h35 h57 h36 h55 h33)) (gOk _ _ _ _ _) dX11_differ_22 (tX2_unlikeAddresses _ _ _ _ _) ⟨wV_X2_unlikeAddresses, wL_X2_unlikeAddresses⟩ wM_X11_388 (gCX2 _ _ _ _ _) rfl (A_87 hw) rfl ⟨le_t rfl, le_t rfl⟩ ⟨le_t rfl, le_t rfl⟩ rfl (le_t rfl) fun z62 μ58 T59 F60 h61 => ?_
  refine sv_goto (pc := 25) (tgt := 31) dX11_differ_25 (by decide) ?_
  exact mr_lret dX11_differ_31 rfl (le_t rfl) (le_t rfl) T59 (mF.call mF.refl F60 rfl) ⟨h61.1, trivial⟩
end
section
/-! What the reference keeps of its routes and policies. -/
def G1 (μ : mM) : Prop := (μ 106 70 = 0 ∨ 0 ≤ μ 126 0) ∧ ∀ k : Nat, k < 100 → μ 161 k = -99999999 ∨ 0 ≤ μ 126 (1200 + 40 * k)
theorem G1.keep {l : List Nat} {w : mW} {μ μ1 : mM} {rs : List (Int × Int)} (h : G1 μ) (hw : mWF w) (hF : mF l w μ μ1) (hl1 : l.elem 106070 = false) (hl2 : l.elem 161999 = false) (hG : mG rs μ μ1) (hrs : ∀ r ∈ rs, (1 ≤ r.1 ∧ r.2 ≤ 1200) ∨ 5200 ≤ r.1) : G1 μ1 := by
  have e1 : μ1 106 70 = μ 106 70 := hF.f (A_106 hw) hl1 rfl
  have e2 : ∀ k, μ1 161 k = μ 161 k := fun k => hF.f (A_161 hw) hl2 rfl
  have e3 : μ1 126 0 = μ 126 0 := hG 0 (fun r hr => by rcases hrs r hr with q | q <;> omega)
  have e4 : ∀ k : Nat, k < 100 → μ1 126 (1200 + 40 * k) = μ 126 (1200 + 40 * k) := fun k hk => hG _ (fun r hr => by rcases hrs r hr with q | q <;> omega)
  refine ⟨by rw [e1, e3]; exact h.1, fun k hk => ?_⟩
  rw [e2, e4 k hk]; exact h.2 k hk
theorem G1.at {μ : mM} {e z x : Int} {f : Int} (h : G1 μ) (h0 : 0 ≤ e ∧ e ≤ 99) (q : μ 161 e.toNat = z) (hf : f = 1200 + 40 * e) (r : μ 126 f.toNat = x) : z = -99999999 ∨ 0 ≤ x := by
  have := h.2 e.toNat (by omega)
  have e1 : 1200 + 40 * e.toNat = f.toNat := by omega
  rw [q, e1, r] at this; exact this
theorem G1.hand {μ : mM} {z x : Int} (h : G1 μ) (q : μ 106 70 = z) (r : μ 126 (0 : Int).toNat = x) : z = 0 ∨ 0 ≤ x := by
  have := h.1
  have e : (0 : Int).toNat = 0 := rfl
  rw [e] at r
  rw [q, r] at this; exact this
/-- a route was put into the hand -/
theorem G1.take {l : List Nat} {w : mW} {μ μ1 : mM} {rs : List (Int × Int)} {x : Int} (h : G1 μ) (hw : mWF w) (hF : mF l w μ μ1) (hl2 : l.elem 161999 = false) (hG : mG rs μ μ1) (hrs : ∀ r ∈ rs, r.2 ≤ 1200 ∨ 5200 ≤ r.1) (hx : μ1 126 (0 : Int).toNat = x) (hp : 0 ≤ x) : G1 μ1 := by
  have e2 : ∀ k, μ1 161 k = μ 161 k := fun k => hF.f (A_161 hw) hl2 rfl
  have e4 : ∀ k : Nat, k < 100 → μ1 126 (1200 + 40 * k) = μ 126 (1200 + 40 * k) := fun k hk => hG _ (fun r hr => by rcases hrs r hr with q | q <;> omega)
  refine ⟨Or.inr (by have e : (0 : Int).toNat = 0 := rfl; rw [e] at hx; omega), fun k hk => ?_⟩
  rw [e2, e4 k hk]; exact h.2 k hk
/-- a route was picked -/
theorem G1.look {w : mW} {μ μ1 μ2 : mM} {e f t x : Int} (h : G1 μ) (hw : mWF w) (h0 : 0 ≤ e ∧ e ≤ 99) (hU : mU μ 161 e.toNat t μ1) (hF : mF [126999] w μ1 μ2) (hf : f = 1200 + 40 * e) (hG : mG [(f, f + 40)] μ1 μ2) (hx : μ2 126 f.toNat = x) (ht : t = -99999999 ∨ 0 ≤ x) : G1 μ2 := by
  have a1 : μ2 106 70 = μ 106 70 := (hF.f (A_106 hw) rfl rfl).trans (hU.2 106 70 (Or.inl (by decide)))
  have a2 : ∀ i : Nat, ((i : Int) < f ∨ f + 40 ≤ (i : Int)) → μ2 126 i = μ 126 i := fun i hi => (hG i (fun r hr => by
    rcases List.mem_cons.mp hr with rfl | hr
    · exact hi
    · cases hr)).trans (hU.2 126 i (Or.inl (by decide)))
  refine ⟨by rw [a1, a2 0 (by left; omega)]; exact h.1, fun k hk => ?_⟩
  have a3 : μ2 161 k = μ1 161 k := hF.f (A_161 hw) rfl rfl
  by_cases hke : (k : Int) = e
  · have : e.toNat = k := by omega
    rw [a3, ← this, hU.1]
    have e2 : 1200 + 40 * e.toNat = f.toNat := by omega
    rw [e2, hx]; exact ht
  · rw [a3, hU.2 161 k (Or.inr (fun q => hke (by omega))), a2 (1200 + 40 * k) (by omega)]
    exact h.2 k hk
def polT (μ : mM) (p : Nat) : Prop := (∀ r : Nat, (r : Int) < μ 127 p → μ 129 (31 * p + r) ≤ μ 129 (31 * p + r + 1) ∧ μ 129 (31 * p + r + 1) ≤ μ 131 p) ∧ ∀ c : Nat, (c : Int) < μ 131 p → μ 140 (300 * p + c) = 28 → 0 ≤ μ 141 (300 * p + c) ∧ μ 141 (300 * p + c) < (p : Int)
def PK (μ : mM) : Prop := (∀ i : Nat, i < 80 → (i : Int) < 4 * μ 106 6 → μ 115 i = -99999999 ∨ (0 ≤ μ 115 i ∧ μ 115 i < μ 106 39)) ∧ ∀ p : Nat, (p : Int) < μ 106 39 → polT μ p
def pkFree (l : List Nat) : Bool := !(l.elem 115999) && (!(l.elem 106006) && (!(l.elem 106039) && (!(l.elem 127999) && (!(l.elem 129999) && (!(l.elem 131999) && (!(l.elem 140999) && !(l.elem 141999)))))))
theorem PK.keep {l : List Nat} {w : mW} {μ μ1 : mM} (h : PK μ) (hw : mWF w) (hF : mF l w μ μ1) (hl : pkFree l = true) : PK μ1 := by
  simp only [pkFree, Bool.and_eq_true, Bool.not_eq_true'] at hl
  obtain ⟨l1, l8, l2, l3, l4, l5, l6, l7⟩ := hl
  have e8 : μ1 106 6 = μ 106 6 := hF.f (A_106 hw) l8 rfl
  have e1 : μ1 115 = μ 115 := funext fun i => hF.f (A_115 hw) l1 rfl
  have e2 : μ1 106 39 = μ 106 39 := hF.f (A_106 hw) l2 rfl
  have e3 : μ1 127 = μ 127 := funext fun i => hF.f (A_127 hw) l3 rfl
  have e4 : μ1 129 = μ 129 := funext fun i => hF.f (A_129 hw) l4 rfl
  have e5 : μ1 131 = μ 131 := funext fun i => hF.f (A_131 hw) l5 rfl
  have e6 : μ1 140 = μ 140 := funext fun i => hF.f (A_140 hw) l6 rfl
  have e7 : μ1 141 = μ 141 := funext fun i => hF.f (A_141 hw) l7 rfl
  unfold PK polT at h ⊢
  rw [e1, e2, e3, e4, e5, e6, e7, e8]; exact h
theorem PK.pol {μ : mM} {e z n t : Int} (h : PK μ) (h0 : 0 ≤ e ∧ e < 80) (q : μ 115 e.toNat = z) (r : μ 106 39 = n) (qt : μ 106 6 = t) (ht : e < 4 * t) : z = -99999999 ∨ (0 ≤ z ∧ z < n) := by
  have := h.1 e.toNat (by omega) (by omega)
  rw [q, r] at this; exact this
theorem pk_use {μ : mM} {z e x : Int} (h : z = -99999999 ∨ 0 ≤ μ 126 (160 + 40 * z).toNat) (hn : ¬ z = -99999999) (he : 160 + 40 * z = e) (q : μ 126 e.toNat = x) : 0 ≤ x := by
  have := h.resolve_left hn
  rw [he, q] at this; exact this
theorem PK.use {μ μ1 : mM} {e z n : Int} (h : PK μ) (hU : mU μ 115 e.toNat z μ1) (q : μ 106 39 = n) (hz : z = -99999999 ∨ (0 ≤ z ∧ z < n)) : PK μ1 := by
  have e2 : μ1 106 39 = μ 106 39 := hU.2 106 39 (Or.inl (by decide))
  have e3 : μ1 127 = μ 127 := funext fun i => hU.2 127 i (Or.inl (by decide))
  have e4 : μ1 129 = μ 129 := funext fun i => hU.2 129 i (Or.inl (by decide))
  have e5 : μ1 131 = μ 131 := funext fun i => hU.2 131 i (Or.inl (by decide))
  have e6 : μ1 140 = μ 140 := funext fun i => hU.2 140 i (Or.inl (by decide))
  have e7 : μ1 141 = μ 141 := funext fun i => hU.2 141 i (Or.inl (by decide))
  have e8 : μ1 106 6 = μ 106 6 := hU.2 106 6 (Or.inl (by decide))
  refine ⟨fun i hi ht => ?_, ?_⟩
  · by_cases hk : i = e.toNat
    · rw [hk, hU.1, e2, q]; exact hz
    · rw [hU.2 115 i (Or.inr hk), e2]; exact h.1 i hi (by rw [← e8]; exact ht)
  · have := h.2
    unfold polT at this ⊢
    rw [e2, e3, e4, e5, e6, e7]; exact this
/-- the new tie's four entries -/
def pnT (μ : mM) (t L : Int) : Prop := ∀ k : Int, 0 ≤ k → k < L → μ 115 (4 * t + k).toNat = -99999999
theorem pnT.zero {μ : mM} {t L : Int} (h : L = 0) : pnT μ t L := fun k h0 h1 => by omega
theorem pnT.succ {μ μ1 : mM} {t L e z L1 : Int} (h : pnT μ t L) (hU : mU μ 115 e.toNat z μ1) (he : e = 4 * t + L) (h0 : 0 ≤ t ∧ 0 ≤ L) (hz : z = -99999999) (hL : L1 = L + 1) : pnT μ1 t L1 := fun k k0 k1 => by
  by_cases hk : k = L
  · rw [hk, ← he, hU.1, hz]
  · rw [hU.2 115 _ (Or.inr (by omega))]; exact h k k0 (by omega)
theorem PK.grow {μ μ1 : mM} {t z L : Int} (h : PK μ) (q : μ 106 6 = t) (hU : mU μ 106 6 z μ1) (hz : z = t + 1) (ht : 0 ≤ t) (hn : pnT μ t L) (hL : L = 4) : PK μ1 := by
  have f : ∀ a j, a ≠ 106 → μ1 a j = μ a j := fun a j ha => hU.2 a j (Or.inl ha)
  have e2 : μ1 106 39 = μ 106 39 := hU.2 106 39 (Or.inr (by decide))
  refine ⟨fun i hi hi2 => ?_, fun p hp => ?_⟩
  · rw [f 115 i (by decide), e2]
    by_cases g : (i : Int) < 4 * t
    · exact h.1 i hi (by rw [q]; exact g)
    · left
      have := hn ((i : Int) - 4 * t) (by omega) (by rw [hU.1] at hi2; omega)
      rw [show (4 * t + ((i : Int) - 4 * t)).toNat = i by omega] at this
      exact this
  · rw [e2] at hp
    have := h.2 p hp
    unfold polT at this ⊢
    have f1 : μ1 127 = μ 127 := funext fun i => f 127 i (by decide)
    have f2 : μ1 129 = μ 129 := funext fun i => f 129 i (by decide)
    have f3 : μ1 131 = μ 131 := funext fun i => f 131 i (by decide)
    have f4 : μ1 140 = μ 140 := funext fun i => f 140 i (by decide)
    have f5 : μ1 141 = μ 141 := funext fun i => f 141 i (by decide)
    rw [f1, f2, f3, f4, f5]; exact this
end
section
/-! Counting over a row. -/
def cnt (μ : mM) (a : Nat) : Nat → Int
  | 0 => 0
  | n + 1 => cnt μ a n + μ a n
theorem cnt_same {μ μ1 : mM} {a : Nat} : ∀ {n : Nat}, (∀ i, i < n → μ1 a i = μ a i) → cnt μ1 a n = cnt μ a n
  | 0, _ => rfl
  | n + 1, h => by
    simp only [cnt]
    rw [cnt_same (fun i hi => h i (Nat.lt_succ_of_lt hi)), h n (Nat.lt_succ_self n)]
theorem cnt_up {μ μ1 : mM} {a k : Nat} {z : Int} (hU : mU μ a k z μ1) : ∀ {n : Nat}, k < n → cnt μ1 a n = cnt μ a n + z - μ a k
  | 0, h => absurd h (Nat.not_lt_zero k)
  | n + 1, h => by
    simp only [cnt]
    by_cases hk : k = n
    · subst hk
      rw [cnt_same (fun i hi => hU.2 a i (Or.inr (Nat.ne_of_lt hi))), hU.1]
      omega
    · rw [cnt_up hU (by omega), hU.2 a n (Or.inr (Ne.symm hk))]
      omega
theorem cnt_rng {μ : mM} {a : Nat} (h : ∀ i, 0 ≤ μ a i ∧ μ a i ≤ 1) : ∀ n : Nat, 0 ≤ cnt μ a n ∧ cnt μ a n ≤ (n : Int)
  | 0 => ⟨Int.le_refl 0, Int.le_refl 0⟩
  | n + 1 => by
    have h1 := cnt_rng h n
    have h2 := h n
    simp only [cnt]
    omega
theorem cntU {μ μ1 : mM} {a n : Nat} {e z c o : Int} {m : Int} (hU : mU μ a e.toNat z μ1) (hi : 0 ≤ e ∧ e < m) (hm : (n : Int) = m) (qc : cnt μ a n = c) (qo : μ a e.toNat = o) : cnt μ1 a n = c + z - o := by
  rw [cnt_up hU (by omega), qc, qo]
theorem cntO {μ μ1 : mM} {a n b k : Nat} {z c : Int} (hU : mU μ b k z μ1) (hb : a ≠ b) (qc : cnt μ a n = c) : cnt μ1 a n = c := by
  rw [cnt_same (fun i _ => hU.2 a i (Or.inl hb)), qc]
theorem cntF {l : List Nat} {w : mW} {μ μ1 : mM} {a s n : Nat} {c : Int} (hF : mF l w μ μ1) (hA : mAt w a s) (hs : mArr s = true) (hl : l.elem (1000 * s + 999) = false) (qc : cnt μ a n = c) : cnt μ1 a n = c := by
  rw [cnt_same (fun i _ => hF a i (by simp only [mRg, hA.1, hs, if_true]; exact hl)), qc]
end
section
/-! Bytes of the reference's tape. -/
def byteF (μ : mM) (k : Int) : Int := if k < μ 106 1 then bAnd (μ 107 k.toNat) 255 else -1
def tpFree (l : List Nat) : Bool := !(l.elem 107999) && !(l.elem 106001)
theorem byteF.keep {l : List Nat} {w : mW} {μ μ1 : mM} {k : Int} (hw : mWF w) (hF : mF l w μ μ1) (hl : tpFree l = true) : byteF μ1 k = byteF μ k := by
  simp only [tpFree, Bool.and_eq_true, Bool.not_eq_true'] at hl
  have e1 : μ1 106 1 = μ 106 1 := hF.f (A_106 hw) hl.2 rfl
  have e2 : μ1 107 k.toNat = μ 107 k.toNat := hF.f (A_107 hw) hl.1 rfl
  simp only [byteF, e1, e2]
theorem byteF.in {μ : mM} {k n a z : Int} (q : μ 106 1 = n) (h : k < n) (q1 : μ 107 k.toNat = a) (q2 : bAnd a 255 = z) : z = byteF μ k := by
  simp only [byteF, q, if_pos h, q1, q2]
theorem byteF.out {μ : mM} {k n : Int} (q : μ 106 1 = n) (h : n ≤ k) : -1 = byteF μ k := by
  simp only [byteF, q]
  rw [if_neg (by omega)]
def numN (μ : mM) (a : Int) : Nat → Int
  | 0 => 0
  | n + 1 => bOr (bShl (numN μ a n) 8) (byteF μ (a + n))
def numF (μ : mM) (a n : Int) : Int := numN μ a n.toNat
theorem numN.keep {l : List Nat} {w : mW} {μ μ1 : mM} {a : Int} (hw : mWF w) (hF : mF l w μ μ1) (hl : tpFree l = true) : ∀ n, numN μ1 a n = numN μ a n
  | 0 => rfl
  | n + 1 => by simp only [numN, numN.keep hw hF hl n, byteF.keep hw hF hl]
theorem numF.keep {l : List Nat} {w : mW} {μ μ1 : mM} {a n : Int} (hw : mWF w) (hF : mF l w μ μ1) (hl : tpFree l = true) : numF μ1 a n = numF μ a n := numN.keep hw hF hl _
theorem numF.zero {μ : mM} {a : Int} : numF μ a 0 = 0 := rfl
theorem numF.succ {μ : mM} {a n v s b v' e : Int} (h : numF μ a n = v) (h0 : 0 ≤ n) (q1 : bShl v 8 = s) (he : e = a + n) (q2 : b = byteF μ e) (q3 : bOr s b = v') : numF μ a (n + 1) = v' := by
  have e1 : (n + 1).toNat = n.toNat + 1 := by omega
  have e2 : ((n.toNat : Nat) : Int) = n := Int.toNat_of_nonneg h0
  simp only [numF, e1, numN, e2]
  rw [show numN μ a n.toNat = v from h, q1, ← he, ← q2, q3]
theorem numF.fin {μ : mM} {a k v p : Int} (h : numF μ a k = v) (e : p = k) : v = numF μ a p := by rw [e]; exact h.symm
end
section
/-! Numbers that wrap, exactly. -/
section MV13
variable {g : sG} {M : sM} {R : Room} {Z : sZT} {pc : Nat} {lv : List (Nat × Value)} {st : List Value} {hp : sHp} {ce sl : Nat}
theorem wrap_mod (e : Int) : ((Int32.ofInt e).toInt - e) % 4294967296 = 0 := by
  rw [Int32.toInt_ofInt]
  have hs : Int32.size = 4294967296 := rfl
  simp only [Int.bmod, hs]
  split <;> omega
theorem mr_wrapF {e : Int} (k : ∀ z, (-2147483648 ≤ z ∧ z ≤ 2147483647) → (z - e) % 4294967296 = 0 → sV g M R Z pc lv (iv z :: st) hp ce sl) : sV g M R Z pc lv (iv e :: st) hp ce sl := by
  have h := k (Int32.ofInt e).toInt (r32i _) (wrap_mod e)
  simp only [iv, Int32.ofInt_toInt] at h ⊢
  exact h
end MV13
end
section
/-! Rows: all below a bound, none equal, no two equal; events of the reference. -/
theorem ixE {μ : mM} {a : Nat} {e f z : Int} (q : μ a e.toNat = z) (h : f = e) : μ a f.toNat = z := by rw [h]; exact q
def allLe (μ : mM) (a : Nat) (n c : Int) : Prop := ∀ i : Int, 0 ≤ i → i < n → μ a i.toNat ≤ c
theorem allLe.zero {μ : mM} {a : Nat} {n c : Int} (h : n ≤ 0) : allLe μ a n c := fun i h0 h1 => by omega
theorem allLe.succ {μ : mM} {a : Nat} {n c v : Int} (h : allLe μ a n c) (q : μ a n.toNat = v) (hv : v ≤ c) : allLe μ a (n + 1) c := by
  intro i h0 h1
  by_cases hi : i = n
  · rw [hi, q]; exact hv
  · exact h i h0 (by omega)
theorem allLe.at {μ : mM} {a : Nat} {n c e v : Int} (h : allLe μ a n c) (h0 : 0 ≤ e) (h1 : e < n) (q : μ a e.toNat = v) : v ≤ c := by
  rw [← q]; exact h e h0 h1
def noneEq (μ : mM) (a : Nat) (n c : Int) : Prop := ∀ i : Int, 0 ≤ i → i < n → μ a i.toNat ≠ c
theorem noneEq.zero {μ : mM} {a : Nat} {c : Int} : noneEq μ a 0 c := fun i h0 h1 => by omega
theorem noneEq.succ {μ : mM} {a : Nat} {n c v : Int} (h : noneEq μ a n c) (q : μ a n.toNat = v) (hv : ¬ v = c) : noneEq μ a (n + 1) c := by
  intro i h0 h1
  by_cases hi : i = n
  · rw [hi, q]; exact hv
  · exact h i h0 (by omega)
def dist (μ : mM) (a : Nat) (n : Int) : Prop := ∀ i j : Int, 0 ≤ i → i < j → j < n → μ a i.toNat ≠ μ a j.toNat
theorem dist.zero {μ : mM} {a : Nat} {n : Int} (h : n ≤ 0) : dist μ a n := fun i j h0 h1 h2 => by omega
theorem dist.succ {μ μ1 : mM} {a : Nat} {n v : Int} (h : dist μ a n) (hn : noneEq μ a n v) (h0 : 0 ≤ n) (hU : mU μ a n.toNat v μ1) : dist μ1 a (n + 1) := by
  intro i j hi hij hj
  have e1 : μ1 a i.toNat = μ a i.toNat := hU.2 a _ (Or.inr (by omega))
  by_cases hjn : j = n
  · rw [e1, hjn, hU.1]; exact hn i hi (by omega)
  · have e2 : μ1 a j.toNat = μ a j.toNat := hU.2 a _ (Or.inr (by omega))
    rw [e1, e2]; exact h i j hi hij (by omega)
theorem dist.keep {l : List Nat} {w : mW} {μ μ1 : mM} {a s : Nat} {n : Int} (h : dist μ a n) (hF : mF l w μ μ1) (hA : mAt w a s) (hl : ∀ i, l.elem (1000 * s + (if mArr s then 999 else i)) = false) : dist μ1 a n := by
  intro i j hi hij hj
  rw [hF.f (z := μ a i.toNat) hA (hl _) rfl, hF.f (z := μ a j.toNat) hA (hl _) rfl]
  exact h i j hi hij hj
theorem pigeon : ∀ (m n : Nat) (f : Nat → Nat), (∀ i, i < n → f i < m) → (∀ i j, i < j → j < n → f i ≠ f j) → n ≤ m
  | 0, n, f, h, _ => by
    rcases Nat.eq_zero_or_pos n with q | q
    · omega
    · exact absurd (h 0 q) (Nat.not_lt_zero _)
  | m + 1, n, f, h, d => by
    by_cases hx : ∃ k, k < n ∧ f k = m
    · obtain ⟨k, hk, hkm⟩ := hx
      have := pigeon m (n - 1) (fun i => if i < k then f i else f (i + 1)) (by
        intro i hi
        by_cases hik : i < k
        · simp only [hik, if_true]
          have h1 := h i (by omega)
          have h2 := d i k hik hk
          omega
        · simp only [hik, if_false]
          have h1 := h (i + 1) (by omega)
          have h2 := d k (i + 1) (by omega) (by omega)
          omega) (by
        intro i j hij hj
        by_cases hik : i < k
        · by_cases hjk : j < k
          · simp only [hik, hjk, if_true]; exact d i j hij (by omega)
          · simp only [hik, hjk, if_true, if_false]; exact d i (j + 1) (by omega) (by omega)
        · have hjk : ¬ j < k := by omega
          simp only [hik, hjk, if_false]; exact d (i + 1) (j + 1) (by omega) (by omega))
      omega
    · have := pigeon m n f (fun i hi => by
        have h1 := h i hi
        have h2 : f i ≠ m := fun q => hx ⟨i, hi, q⟩
        omega) d
      omega
theorem dist.pig {μ : mM} {a : Nat} {n m : Int} (h : dist μ a n) (hr : ∀ i, 0 ≤ μ a i ∧ μ a i < m) : n ≤ m := by
  by_cases h0 : n ≤ 0
  · have := hr 0; omega
  · have := pigeon m.toNat n.toNat (fun i => (μ a i).toNat) (fun i _ => by have := hr i; show (μ a i).toNat < m.toNat; omega) (fun i j hij hj => by
      have h1 := h i j (by omega) (by omega) (by omega)
      have h2 := hr i
      have h3 := hr j
      have e1 : ((i : Int)).toNat = i := rfl
      have e2 : ((j : Int)).toNat = j := rfl
      rw [e1, e2] at h1
      show (μ a i).toNat ≠ (μ a j).toNat
      omega)
    omega
/-! events: only ties that are there have them -/
def EV (μ : mM) : Prop := ∀ s : Nat, s < 400 → (0 ≤ μ 157 s ∨ 0 ≤ μ 159 s) → (s : Int) < 20 * μ 106 6
def evFree (l : List Nat) : Bool := !(l.elem 157999) && (!(l.elem 159999) && !(l.elem 106006))
theorem EV.keep {l : List Nat} {w : mW} {μ μ1 : mM} (h : EV μ) (hw : mWF w) (hF : mF l w μ μ1) (hl : evFree l = true) : EV μ1 := by
  simp only [evFree, Bool.and_eq_true, Bool.not_eq_true'] at hl
  obtain ⟨l1, l2, l3⟩ := hl
  have e1 : μ1 157 = μ 157 := funext fun i => hF.f (A_157 hw) l1 rfl
  have e2 : μ1 159 = μ 159 := funext fun i => hF.f (A_159 hw) l2 rfl
  have e3 : μ1 106 6 = μ 106 6 := hF.f (A_106 hw) l3 rfl
  unfold EV at h ⊢
  rw [e1, e2, e3]; exact h
theorem EV.up1 {μ μ1 : mM} {e z n : Int} (h : EV μ) (hU : mU μ 157 e.toNat z μ1) (q : μ1 106 6 = n) (h0 : 0 ≤ e) (hz : z < 0 ∨ e < 20 * n) : EV μ1 := by
  have e3 : μ1 106 6 = μ 106 6 := hU.2 106 6 (Or.inl (by decide))
  intro s hs hp
  rw [hU.2 159 s (Or.inl (by decide))] at hp
  by_cases hk : s = e.toNat
  · subst hk
    rw [hU.1] at hp
    rcases hz with hz | hz
    · have := h e.toNat hs (Or.inr (by omega)); rw [e3]; exact this
    · rw [q]; omega
  · rw [hU.2 157 s (Or.inr hk)] at hp
    rw [e3]; exact h s hs hp
theorem EV.up2 {μ μ1 : mM} {e z n : Int} (h : EV μ) (hU : mU μ 159 e.toNat z μ1) (q : μ1 106 6 = n) (h0 : 0 ≤ e) (hz : z < 0 ∨ e < 20 * n) : EV μ1 := by
  have e3 : μ1 106 6 = μ 106 6 := hU.2 106 6 (Or.inl (by decide))
  intro s hs hp
  rw [hU.2 157 s (Or.inl (by decide))] at hp
  by_cases hk : s = e.toNat
  · subst hk
    rw [hU.1] at hp
    rcases hz with hz | hz
    · have := h e.toNat hs (Or.inl (by omega)); rw [e3]; exact this
    · rw [q]; omega
  · rw [hU.2 159 s (Or.inr hk)] at hp
    rw [e3]; exact h s hs hp
theorem EV.grow {μ μ1 : mM} {z o : Int} (h : EV μ) (q : μ 106 6 = o) (hU : mU μ 106 6 z μ1) (hz : o ≤ z) : EV μ1 := by
  intro s hs hp
  rw [hU.2 157 s (Or.inl (by decide)), hU.2 159 s (Or.inl (by decide))] at hp
  have := h s hs hp
  rw [hU.1]; omega
def evF (μ : mM) (e : Int) : Int := if e < 400 then μ 157 e.toNat else μ 159 (e - 400).toNat
def evM (μ : mM) (e : Int) : Int := if e < 400 then μ 158 e.toNat else μ 160 (e - 400).toNat
def ev1Free (l : List Nat) : Bool := !(l.elem 157999) && !(l.elem 159999)
theorem evF.keep {l : List Nat} {w : mW} {μ μ1 : mM} {e : Int} (hw : mWF w) (hF : mF l w μ μ1) (hl : ev1Free l = true) : evF μ1 e = evF μ e := by
  simp only [ev1Free, Bool.and_eq_true, Bool.not_eq_true'] at hl
  simp only [evF, hF.f (A_157 hw) hl.1 rfl, hF.f (A_159 hw) hl.2 rfl]
theorem evF.lo {μ : mM} {e z : Int} (h : e < 400) (q : μ 157 e.toNat = z) : z = evF μ e := by rw [evF, if_pos h, q]
theorem evF.hi {μ : mM} {e f z : Int} (h : 400 ≤ e) (hf : f = e - 400) (q : μ 159 f.toNat = z) : z = evF μ e := by rw [evF, if_neg (by omega), ← hf, q]
theorem evM.lo {μ : mM} {e z : Int} (h : e < 400) (q : μ 158 e.toNat = z) : z = evM μ e := by rw [evM, if_pos h, q]
theorem evM.hi {μ : mM} {e f z : Int} (h : 400 ≤ e) (hf : f = e - 400) (q : μ 160 f.toNat = z) : z = evM μ e := by rw [evM, if_neg (by omega), ← hf, q]
abbrev nevC (w m : Int) (x : Int × Int × Int) : Prop := 0 ≤ w ∧ w ≤ 2000000000 ∧ (x.1 = -99999999 ∨ w < x.2.1 ∨ (w = x.2.1 ∧ m < x.2.2))
def nevL (μ : mM) : Nat → Int × Int × Int
  | 0 => (-99999999, 0, 0)
  | n + 1 => if nevC (evF μ n) (evM μ n) (nevL μ n) then ((n : Int), evF μ n, evM μ n) else nevL μ n
def nevF (μ : mM) : Int := (nevL μ 800).1
theorem nevF.keep {l : List Nat} {w : mW} {μ μ1 : mM} (hw : mWF w) (hF : mF l w μ μ1) (hl : (!(l.elem 157999) && (!(l.elem 158999) && (!(l.elem 159999) && !(l.elem 160999)))) = true) : nevF μ1 = nevF μ := by
  simp only [Bool.and_eq_true, Bool.not_eq_true'] at hl
  obtain ⟨l1, l2, l3, l4⟩ := hl
  have e1 : ∀ e, evF μ1 e = evF μ e := fun e => by simp only [evF, hF.f (A_157 hw) l1 rfl, hF.f (A_159 hw) l3 rfl]
  have e2 : ∀ e, evM μ1 e = evM μ e := fun e => by simp only [evM, hF.f (A_158 hw) l2 rfl, hF.f (A_160 hw) l4 rfl]
  have : ∀ n, nevL μ1 n = nevL μ n := by
    intro n
    induction n with
    | zero => rfl
    | succ n ih => simp only [nevL, e1, e2, ih]
  simp only [nevF, this]
theorem nev.zero {μ : mM} : nevL μ (0 : Int).toNat = (-99999999, 0, 0) := rfl
theorem nev.upd {μ : mM} {k a b c w m : Int} (h : nevL μ k.toNat = (a, b, c)) (h0 : 0 ≤ k) (qw : w = evF μ k) (qm : m = evM μ k) (hc : 0 ≤ w ∧ w ≤ 2000000000 ∧ (a = -99999999 ∨ w < b ∨ (w = b ∧ m < c))) : nevL μ (k + 1).toNat = (k, w, m) := by
  have e1 : (k + 1).toNat = k.toNat + 1 := by omega
  have e2 : ((k.toNat : Nat) : Int) = k := Int.toNat_of_nonneg h0
  rw [e1]
  simp only [nevL, e2]
  rw [← qw, ← qm, h, if_pos hc]
theorem nev.not {μ : mM} {k a b c w m : Int} (h : nevL μ k.toNat = (a, b, c)) (h0 : 0 ≤ k) (qw : w = evF μ k) (qm : m = evM μ k) (hc : ¬ (0 ≤ w ∧ w ≤ 2000000000 ∧ (a = -99999999 ∨ w < b ∨ (w = b ∧ m < c)))) : nevL μ (k + 1).toNat = (a, b, c) := by
  have e1 : (k + 1).toNat = k.toNat + 1 := by omega
  have e2 : ((k.toNat : Nat) : Int) = k := Int.toNat_of_nonneg h0
  rw [e1]
  simp only [nevL, e2]
  rw [← qw, ← qm, h, if_neg hc]
theorem nev.fin {μ : mM} {k a b c : Int} (h : nevL μ k.toNat = (a, b, c)) (hk : k = 800) : a = nevF μ := by
  subst hk; rw [nevF]; have e : (800 : Int).toNat = 800 := rfl; rw [e] at h; rw [h]
theorem nevL.ok (μ : mM) : ∀ n : Nat, (nevL μ n).1 = -99999999 ∨ (0 ≤ (nevL μ n).1 ∧ (nevL μ n).1 < (n : Int) ∧ evF μ (nevL μ n).1 = (nevL μ n).2.1 ∧ 0 ≤ (nevL μ n).2.1 ∧ (nevL μ n).2.1 ≤ 2000000000)
  | 0 => Or.inl rfl
  | n + 1 => by
    simp only [nevL]
    by_cases hc : nevC (evF μ n) (evM μ n) (nevL μ n)
    · rw [if_pos hc]
      refine Or.inr ?_
      dsimp only
      refine ⟨Int.natCast_nonneg n, ?_, ?_, hc.1, hc.2.1⟩
      · omega
      · exact Eq.refl _
    · rw [if_neg hc]
      rcases nevL.ok μ n with h | ⟨h1, h2, h3⟩
      · exact Or.inl h
      · exact Or.inr ⟨h1, by omega, h3⟩
theorem nev.ok {μ : mM} {z e : Int} (q : nevF μ = z) (h : e = z) (hn : ¬ e = -99999999) : 0 ≤ evF μ e ∧ evF μ e ≤ 2000000000 := by
  subst h; rw [← q] at hn ⊢
  rcases nevL.ok μ 800 with h | ⟨h1, h2, h3, h4, h5⟩
  · exact absurd h hn
  · show 0 ≤ evF μ (nevL μ 800).1 ∧ evF μ (nevL μ 800).1 ≤ 2000000000
    omega
theorem EV.at {μ : mM} {e s n : Int} (h : EV μ) (he : 0 ≤ e ∧ e ≤ 799) (hv : 0 ≤ evF μ e) (hs : e % 400 = s) (q : μ 106 6 = n) : s < 20 * n := by
  by_cases hl : e < 400
  · rw [evF, if_pos hl] at hv
    have := h e.toNat (by omega) (Or.inl hv)
    rw [q] at this; omega
  · rw [evF, if_neg hl] at hv
    have := h (e - 400).toNat (by omega) (Or.inr hv)
    rw [q] at this; omega
end
section
/-! The reference picks: what is left, what is hit, what wins. -/
def bestOK (μ : mM) (n z : Int) : Prop := (z = -99999999 ∨ μ 165 z.toNat = 1) ∧ (z = -99999999 → noneEq μ 165 n 1)
theorem bestOK.zero {μ : mM} : bestOK μ 0 (-99999999) := ⟨Or.inl rfl, fun _ => noneEq.zero⟩
theorem bestOK.put {μ : mM} {t v : Int} (q : μ 165 t.toNat = v) (hv : v = 1) (h0 : 0 ≤ t) : bestOK μ (t + 1) t := ⟨Or.inr (by rw [q]; exact hv), fun h => by omega⟩
theorem bestOK.not {μ : mM} {t v z : Int} (h : bestOK μ t z) (q : μ 165 t.toNat = v) (hc : ¬ v = 1 ∨ ¬ z = -99999999) : bestOK μ (t + 1) z :=
  ⟨h.1, fun hz => (h.2 hz).succ q (hc.resolve_right (fun k => k hz))⟩
def wOK (μ : mM) (z : Int) : Prop := z = -99999999 ∨ 0 ≤ μ 126 (160 + 40 * z).toNat
theorem wOK.keep {l : List Nat} {w : mW} {μ μ1 : mM} {z : Int} (h : wOK μ z) (hw : mWF w) (hF : mF l w μ μ1) (hl : l.elem 126999 = false) : wOK μ1 z := by
  have e : μ1 126 (160 + 40 * z).toNat = μ 126 (160 + 40 * z).toNat := hF.f (A_126 hw) hl rfl
  unfold wOK at h ⊢; rw [e]; exact h
theorem wOK.of {μ : mM} {z f x : Int} (hf : f = 160 + 40 * z) (q : μ 126 f.toNat = x) (hx : 0 ≤ x) : wOK μ z := Or.inr (by rw [← hf, q]; exact hx)
def leftOK (μ : mM) (n : Int) : Prop := ∀ i : Int, 0 ≤ i → i < n → μ 165 i.toNat = 1 → 0 ≤ μ 126 (160 + 40 * i).toNat
theorem leftOK.zero {μ : mM} : leftOK μ 0 := fun i h0 h1 => by omega
theorem leftOK.put {μ μ1 : mM} {n v f x : Int} (h : leftOK μ n) (h0 : 0 ≤ n) (hU : mU μ 165 n.toNat v μ1) (hf : f = 160 + 40 * n) (q : μ1 126 f.toNat = x) (hv : ¬ v = 1 ∨ 0 ≤ x) : leftOK μ1 (n + 1) := by
  intro i hi hin h1
  by_cases he : i = n
  · subst he
    rw [hU.1] at h1
    rw [← hf, q]; exact hv.resolve_left (fun k => k h1)
  · rw [hU.2 165 i.toNat (Or.inr (by omega))] at h1
    rw [hU.2 126 _ (Or.inl (by decide))]
    exact h i hi (by omega) h1
theorem leftOK.best {μ : mM} {n z : Int} (h : leftOK μ n) (hb : bestOK μ n z) (hz : z < n) (h0 : z = -99999999 ∨ (0 ≤ z ∧ z ≤ 19)) : wOK μ z := by
  rcases h0 with h0 | h0
  · exact Or.inl h0
  · exact Or.inr (h z h0.1 hz (hb.1.resolve_left (by omega)))
def hit (μ : mM) (n v : Int) : Prop := ∃ i : Int, 0 ≤ i ∧ i < n ∧ 0 ≤ μ 126 (160 + 40 * i).toNat ∧ 0 < μ 126 (164 + 40 * i).toNat ∧ μ 126 (166 + 40 * i).toNat = v
theorem hit.new {μ : mM} {t v f g k x y : Int} (h0 : 0 ≤ t) (hf : f = 160 + 40 * t) (qf : μ 126 f.toNat = x) (hx : 0 ≤ x) (hg : g = 164 + 40 * t) (qg : μ 126 g.toNat = y) (hy : 0 < y) (hk : k = 166 + 40 * t) (qk : μ 126 k.toNat = v) : hit μ (t + 1) v :=
  ⟨t, h0, by omega, by rw [← hf, qf]; exact hx, by rw [← hg, qg]; exact hy, by rw [← hk, qk]⟩
theorem hit.or {μ : mM} {n m v b : Int} (h : b = 0 ∨ hit μ n v) (hm : n ≤ m) : b = 0 ∨ hit μ m v := by
  rcases h with h | ⟨i, h0, h1, h2⟩
  · exact Or.inl h
  · exact Or.inr ⟨i, h0, by omega, h2⟩
theorem hit.keep {l : List Nat} {w : mW} {μ μ1 : mM} {n v : Int} (h : hit μ n v) (hw : mWF w) (hF : mF l w μ μ1) (hl : l.elem 126999 = false) : hit μ1 n v := by
  have e : ∀ i, μ1 126 i = μ 126 i := fun i => hF.f (A_126 hw) hl rfl
  unfold hit at h ⊢; simp only [e]; exact h
def lft (μ : mM) (v n : Int) : Prop := leftOK μ n ∧ ∀ i : Int, 0 ≤ i → i < n → 0 ≤ μ 126 (160 + 40 * i).toNat → 0 < μ 126 (164 + 40 * i).toNat → μ 126 (166 + 40 * i).toNat = v → μ 165 i.toNat = 1
theorem lft.zero {μ : mM} {v : Int} : lft μ v 0 := ⟨leftOK.zero, fun i h0 h1 => by omega⟩
theorem lft.put {μ μ1 : mM} {v n b : Int} (h : lft μ v n) (h0 : 0 ≤ n) (hU : mU μ 165 n.toNat b μ1) (h1 : ¬ b = 1 ∨ 0 ≤ μ1 126 (160 + 40 * n).toNat) (h2 : b = 1 ∨ ¬ (0 ≤ μ1 126 (160 + 40 * n).toNat ∧ 0 < μ1 126 (164 + 40 * n).toNat ∧ μ1 126 (166 + 40 * n).toNat = v)) : lft μ1 v (n + 1) := by
  refine ⟨h.1.put h0 hU rfl rfl h1, fun i hi hin a1 a2 a3 => ?_⟩
  by_cases he : i = n
  · subst he
    rw [hU.1]; exact h2.resolve_right (fun k => k ⟨a1, a2, a3⟩)
  · rw [hU.2 165 i.toNat (Or.inr (by omega))]
    rw [hU.2 126 _ (Or.inl (by decide))] at a1 a2 a3
    exact h.2 i hi (by omega) a1 a2 a3
theorem lft.p1 {μ μ1 : mM} {v n b f x : Int} (h : lft μ v n) (h0 : 0 ≤ n) (hU : mU μ 165 n.toNat b μ1) (hb : b = 1) (hf : f = 160 + 40 * n) (q : μ1 126 f.toNat = x) (hx : 0 ≤ x) : lft μ1 v (n + 1) :=
  h.put h0 hU (Or.inr (by rw [← hf, q]; exact hx)) (Or.inl hb)
theorem lft.z1 {μ μ1 : mM} {v n b f x : Int} (h : lft μ v n) (h0 : 0 ≤ n) (hU : mU μ 165 n.toNat b μ1) (hb : ¬ b = 1) (hf : f = 160 + 40 * n) (q : μ1 126 f.toNat = x) (hx : x < 0) : lft μ1 v (n + 1) :=
  h.put h0 hU (Or.inl hb) (Or.inr (fun k => by have := k.1; rw [← hf, q] at this; omega))
theorem lft.z2 {μ μ1 : mM} {v n b f x : Int} (h : lft μ v n) (h0 : 0 ≤ n) (hU : mU μ 165 n.toNat b μ1) (hb : ¬ b = 1) (hf : f = 164 + 40 * n) (q : μ1 126 f.toNat = x) (hx : x ≤ 0) : lft μ1 v (n + 1) :=
  h.put h0 hU (Or.inl hb) (Or.inr (fun k => by have := k.2.1; rw [← hf, q] at this; omega))
theorem lft.z3 {μ μ1 : mM} {v n b f x : Int} (h : lft μ v n) (h0 : 0 ≤ n) (hU : mU μ 165 n.toNat b μ1) (hb : ¬ b = 1) (hf : f = 166 + 40 * n) (q : μ1 126 f.toNat = x) (hx : ¬ x = v) : lft μ1 v (n + 1) :=
  h.put h0 hU (Or.inl hb) (Or.inr (fun k => by have := k.2.2; rw [← hf, q] at this; exact hx this))
theorem lft.some {μ : mM} {v n k z : Int} (hl : lft μ v k) (hk : n ≤ k) (hh : hit μ n v) (hb : bestOK μ n z) (hz : z < n) (h0 : z = -99999999 ∨ (0 ≤ z ∧ z ≤ 19)) : 0 ≤ z ∧ wOK μ z := by
  obtain ⟨i, i0, i1, i2, i3, i4⟩ := hh
  have hi := hl.2 i i0 (by omega) i2 i3 i4
  rcases h0 with h0 | h0
  · exact absurd hi (hb.2 h0 i i0 i1)
  · refine ⟨h0.1, leftOK.best (n := n) (fun j j0 j1 => hl.1 j j0 (by omega)) hb hz (Or.inr h0)⟩
end
section
/-! Going through a policy: what stands at the levels. -/
theorem PK.act {μ : mM} {p n r R e v A : Int} (h : PK μ) (hp : 0 ≤ p ∧ p < n) (qn : μ 106 39 = n) (hr : 0 ≤ r ∧ r < R) (qR : μ 127 p.toNat = R) (he : e = 31 * p + r + 1) (qv : μ 129 e.toNat = v) (qA : μ 131 p.toNat = A) : v ≤ A := by
  have h1 := (h.2 p.toNat (by rw [qn]; omega)).1 r.toNat (by rw [qR]; omega)
  have e1 : 31 * p.toNat + r.toNat + 1 = e.toNat := by omega
  rw [e1, qv, qA] at h1; exact h1.2
theorem PK.call {μ : mM} {p n a A c y x : Int} (h : PK μ) (hp : 0 ≤ p ∧ p < n) (qn : μ 106 39 = n) (ha : 0 ≤ a ∧ a < A) (qA : μ 131 p.toNat = A) (hc : c = 300 * p + a) (qw : μ 140 c.toNat = y) (hy : y = 28) (qx : μ 141 c.toNat = x) : 0 ≤ x ∧ x < p := by
  have h1 := (h.2 p.toNat (by rw [qn]; omega)).2 a.toNat (by rw [qA]; omega)
  have e1 : 300 * p.toNat + a.toNat = c.toNat := by omega
  rw [e1, qw, qx] at h1
  have := h1 hy
  omega
def lvOK (μ : mM) (d : Int) : Prop := ∀ i : Nat, (i : Int) < d → 0 ≤ μ 151 i ∧ μ 151 i < μ 106 39 ∧ μ 151 i + (i : Int) ≤ 11 ∧ μ 152 i < μ 127 (μ 151 i).toNat ∧ (0 ≤ μ 152 i → μ 153 i ≤ μ 129 (31 * (μ 151 i).toNat + (μ 152 i).toNat + 1))
theorem lvOK.zero {μ : mM} : lvOK μ 0 := fun i h => by omega
def lvFree (l : List Nat) : Bool := !(l.elem 106039) && (!(l.elem 127999) && (!(l.elem 129999) && (!(l.elem 151999) && (!(l.elem 152999) && !(l.elem 153999)))))
theorem lvOK.keep {l : List Nat} {w : mW} {μ μ1 : mM} {d : Int} (h : lvOK μ d) (hw : mWF w) (hF : mF l w μ μ1) (hl : lvFree l = true) : lvOK μ1 d := by
  simp only [lvFree, Bool.and_eq_true, Bool.not_eq_true'] at hl
  obtain ⟨l1, l2, l3, l4, l5, l6⟩ := hl
  have e1 : μ1 106 39 = μ 106 39 := hF.f (A_106 hw) l1 rfl
  have e2 : μ1 127 = μ 127 := funext fun i => hF.f (A_127 hw) l2 rfl
  have e3 : μ1 129 = μ 129 := funext fun i => hF.f (A_129 hw) l3 rfl
  have e4 : μ1 151 = μ 151 := funext fun i => hF.f (A_151 hw) l4 rfl
  have e5 : μ1 152 = μ 152 := funext fun i => hF.f (A_152 hw) l5 rfl
  have e6 : μ1 153 = μ 153 := funext fun i => hF.f (A_153 hw) l6 rfl
  unfold lvOK at h ⊢
  rw [e1, e2, e3, e4, e5, e6]; exact h
theorem lvOK.pred {μ : mM} {d k : Int} (h : lvOK μ d) (hk : k ≤ d) : lvOK μ k := fun i hi => h i (by omega)
theorem lvOK.p {μ : mM} {d l p n : Int} (h : lvOK μ d) (h0 : 0 ≤ l ∧ l < d) (q : μ 151 l.toNat = p) (qn : μ 106 39 = n) : 0 ≤ p ∧ p < n ∧ p + l ≤ 11 := by
  have := h l.toNat (by omega)
  rw [q, qn] at this
  omega
theorem lvOK.r {μ : mM} {d l p r R : Int} (h : lvOK μ d) (h0 : 0 ≤ l ∧ l < d) (q : μ 151 l.toNat = p) (qr : μ 152 l.toNat = r) (qR : μ 127 p.toNat = R) : r < R := by
  have := h l.toNat (by omega)
  rw [q, qr, qR] at this
  exact this.2.2.2.1
theorem lvOK.a {μ : mM} {d l p r a e v : Int} (h : lvOK μ d) (h0 : 0 ≤ l ∧ l < d) (q : μ 151 l.toNat = p) (qr : μ 152 l.toNat = r) (qa : μ 153 l.toNat = a) (hp : 0 ≤ p) (hr : 0 ≤ r) (he : e = 31 * p + r + 1) (qv : μ 129 e.toNat = v) : a ≤ v := by
  have := (h l.toNat (by omega)).2.2.2.2
  rw [q, qr, qa] at this
  have e1 : 31 * p.toNat + r.toNat + 1 = e.toNat := by omega
  rw [e1, qv] at this
  exact this hr
theorem lvOK.push {μ μ1 μ2 μ3 : mM} {d x n y R : Int} (h : lvOK μ d) (h0 : 0 ≤ d) (u1 : mU μ 151 d.toNat x μ1) (u2 : mU μ1 152 d.toNat (-1) μ2) (u3 : mU μ2 153 d.toNat y μ3) (qn : μ3 106 39 = n) (hx : 0 ≤ x ∧ x < n ∧ x + d ≤ 11) (qR : μ3 127 x.toNat = R) (hR : 0 ≤ R) : lvOK μ3 (d + 1) := by
  have f : ∀ a k, a ≠ 151 → a ≠ 152 → a ≠ 153 → μ3 a k = μ a k := fun a k h1 h2 h3 => by rw [u3.2 a k (Or.inl h3), u2.2 a k (Or.inl h2), u1.2 a k (Or.inl h1)]
  intro i hi
  by_cases hk : i = d.toNat
  · subst hk
    have e1 : μ3 151 d.toNat = x := by rw [u3.2 151 _ (Or.inl (by decide)), u2.2 151 _ (Or.inl (by decide)), u1.1]
    have e2 : μ3 152 d.toNat = -1 := by rw [u3.2 152 _ (Or.inl (by decide)), u2.1]
    rw [e1, e2, qn, qR]
    refine ⟨hx.1, hx.2.1, by omega, by omega, fun q => by omega⟩
  · have e1 : μ3 151 i = μ 151 i := by rw [u3.2 151 _ (Or.inl (by decide)), u2.2 151 _ (Or.inl (by decide)), u1.2 151 i (Or.inr hk)]
    have e2 : μ3 152 i = μ 152 i := by rw [u3.2 152 _ (Or.inl (by decide)), u2.2 152 i (Or.inr hk), u1.2 152 i (Or.inl (by decide))]
    have e3 : μ3 153 i = μ 153 i := by rw [u3.2 153 i (Or.inr hk), u2.2 153 i (Or.inl (by decide)), u1.2 153 i (Or.inl (by decide))]
    rw [e1, e2, e3, f 106 39 (by decide) (by decide) (by decide)]
    rw [f 127 _ (by decide) (by decide) (by decide), f 129 _ (by decide) (by decide) (by decide)]
    exact h i (by omega)
theorem lvOK.act {μ μ1 : mM} {d l p r b e v : Int} (h : lvOK μ d) (h0 : 0 ≤ l ∧ l < d) (u : mU μ 153 l.toNat b μ1) (q : μ1 151 l.toNat = p) (qr : μ1 152 l.toNat = r) (hp : 0 ≤ p) (hr : 0 ≤ r) (he : e = 31 * p + r + 1) (qv : μ1 129 e.toNat = v) (hb : b ≤ v) : lvOK μ1 d := by
  intro i hi
  have f : ∀ a k, a ≠ 153 → μ1 a k = μ a k := fun a k h1 => u.2 a k (Or.inl h1)
  have g := h i hi
  by_cases hk : i = l.toNat
  · subst hk
    have e1 : 31 * p.toNat + r.toNat + 1 = e.toNat := by omega
    rw [f 106 39 (by decide), f 127 _ (by decide), f 151 _ (by decide), f 152 _ (by decide)]
    refine ⟨g.1, g.2.1, g.2.2.1, g.2.2.2.1, fun _ => ?_⟩
    rw [u.1]
    rw [f 151 _ (by decide)] at q
    rw [f 152 _ (by decide)] at qr
    rw [q, qr, e1, qv]; exact hb
  · rw [f 106 39 (by decide), f 127 _ (by decide), f 151 _ (by decide), f 152 _ (by decide), u.2 153 i (Or.inr hk), f 129 _ (by decide)]
    exact g
theorem lvOK.row {μ μ1 μ2 : mM} {d l p n r R b e : Int} (h : lvOK μ d) (hk : PK μ2) (h0 : 0 ≤ l ∧ l < d) (u1 : mU μ 152 l.toNat r μ1) (u2 : mU μ1 153 l.toNat b μ2) (q : μ2 151 l.toNat = p) (hp : 0 ≤ p ∧ p < n) (qn : μ2 106 39 = n) (hr : 0 ≤ r ∧ r < R) (qR : μ2 127 p.toNat = R) (he : e = 31 * p + r) (qb : μ2 129 e.toNat = b) : lvOK μ2 d := by
  intro i hi
  have f : ∀ a k, a ≠ 152 → a ≠ 153 → μ2 a k = μ a k := fun a k h1 h2 => by rw [u2.2 a k (Or.inl h2), u1.2 a k (Or.inl h1)]
  have g := h i hi
  by_cases hk2 : i = l.toNat
  · subst hk2
    have e1 : 31 * p.toNat + r.toNat = e.toNat := by omega
    have e2 : μ2 152 l.toNat = r := by rw [u2.2 152 _ (Or.inl (by decide)), u1.1]
    have e3 : μ2 153 l.toNat = b := u2.1
    have g1 := ((hk.2 p.toNat (by rw [qn]; omega)).1 r.toNat (by rw [qR]; omega)).1
    rw [e1, qb] at g1
    rw [q, e2, e3, qR, qn]
    refine ⟨hp.1, hp.2, ?_, hr.2, fun _ => by rw [e1]; exact g1⟩
    have g2 := g.2.2.1
    rw [← f 151 _ (by decide) (by decide), q] at g2
    exact g2
  · have e2 : μ2 152 i = μ 152 i := by rw [u2.2 152 _ (Or.inl (by decide)), u1.2 152 i (Or.inr hk2)]
    have e3 : μ2 153 i = μ 153 i := by rw [u2.2 153 i (Or.inr hk2), u1.2 153 i (Or.inl (by decide))]
    rw [e2, e3, f 106 39 (by decide) (by decide), f 127 _ (by decide) (by decide), f 151 _ (by decide) (by decide), f 129 _ (by decide) (by decide)]
    exact g
theorem topE {μ : mM} {d l R z : Int} (h : d = 0 ∨ μ 152 (d - 1).toNat = R) (hd : ¬ d = 0) (hl : l = d - 1) (q : μ 152 l.toNat = z) : z = R := by
  have := h.resolve_left hd
  rw [← hl, q] at this; exact this
end
section
/-! The pieces of a way as bytes: each count once more than it stands, all within the end. -/
def ChnN (μ : mM) (e : Int) : Nat → Int → Int → Prop
  | 0, k, s => e ≤ k ∧ s = 0
  | n + 1, k, s => k < e ∧ k + 2 ≤ e ∧ 1 ≤ byteF μ (k + 1) ∧ k + 2 + 4 * byteF μ (k + 1) ≤ e ∧ ChnN μ e n (k + 2 + 4 * byteF μ (k + 1)) (s - byteF μ (k + 1))
def Chn (μ : mM) (e k s : Int) : Prop := ∃ n, ChnN μ e n k s
theorem ChnN.nn {μ : mM} {e : Int} : ∀ {n : Nat} {k s : Int}, ChnN μ e n k s → 0 ≤ s
  | 0, _, _, h => by have := h.2; omega
  | n + 1, k, s, h => by have h1 := ChnN.nn h.2.2.2.2; have h2 := h.2.2.1; omega
theorem ChnN.keep {l : List Nat} {w : mW} {μ μ1 : mM} {e : Int} (hw : mWF w) (hF : mF l w μ μ1) (hl : tpFree l = true) : ∀ {n : Nat} {k s : Int}, ChnN μ e n k s → ChnN μ1 e n k s
  | 0, _, _, h => h
  | n + 1, k, s, h => by
    have e1 : byteF μ1 (k + 1) = byteF μ (k + 1) := byteF.keep hw hF hl
    simp only [ChnN, e1]
    exact ⟨h.1, h.2.1, h.2.2.1, h.2.2.2.1, ChnN.keep hw hF hl h.2.2.2.2⟩
theorem Chn.keep {l : List Nat} {w : mW} {μ μ1 : mM} {e k s : Int} (h : Chn μ e k s) (hw : mWF w) (hF : mF l w μ μ1) (hl : tpFree l = true) : Chn μ1 e k s := by
  obtain ⟨n, h⟩ := h; exact ⟨n, ChnN.keep hw hF hl h⟩
theorem Chn.un {μ : mM} {e k s : Int} (h : Chn μ e k s) (hk : k < e) : k + 2 ≤ e ∧ 1 ≤ byteF μ (k + 1) ∧ k + 2 + 4 * byteF μ (k + 1) ≤ e ∧ byteF μ (k + 1) ≤ s ∧ Chn μ e (k + 2 + 4 * byteF μ (k + 1)) (s - byteF μ (k + 1)) := by
  obtain ⟨n, h⟩ := h
  cases n with
  | zero => have := h.1; omega
  | succ n =>
    have h5 := h.2.2.2.2
    have := h5.nn
    exact ⟨h.2.1, h.2.2.1, h.2.2.2.1, by omega, ⟨n, h5⟩⟩
theorem Chn.id {μ : mM} {e k m : Int} (hm : m = 0) : ∀ s, Chn μ e k s → Chn μ e k (m + s) := fun s h => by rw [hm, Int.zero_add]; exact h
theorem Chn.step {μ : mM} {e k a b m k' m' : Int} (R : ∀ s, Chn μ e k s → Chn μ e a (m + s)) (h0 : k < e) (h1 : k + 2 ≤ e) (q : byteF μ (k + 1) = b) (hb : 1 ≤ b) (h2 : k + 2 + 4 * b ≤ e) (hk : k' = k + 2 + 4 * b) (hm : m' = m + b) : ∀ s, Chn μ e k' s → Chn μ e a (m' + s) := by
  intro s h
  obtain ⟨n, h⟩ := h
  have := R (b + s) ⟨n + 1, h0, h1, by rw [q]; exact hb, by rw [q]; exact h2, by rw [q, ← hk]; have e1 : b + s - b = s := by omega
                                                                                 rw [e1]; exact h⟩
  have e2 : m' + s = m + (b + s) := by omega
  rw [e2]; exact this
theorem Chn.fin {μ : mM} {e k a m s : Int} (R : ∀ s, Chn μ e k s → Chn μ e a (m + s)) (hk : e ≤ k) (hs : s = m) : Chn μ e a s := by
  have := R 0 ⟨0, hk, rfl⟩
  rw [hs]; rw [Int.add_zero] at this; exact this
theorem Chn.cg {μ : mM} {e k s k' s' : Int} (h : Chn μ e k s) (hk : k' = k) (hs : s' = s) : Chn μ e k' s' := by rw [hk, hs]; exact h
end
section
/-! Words as numbers; what a policy's draft keeps. -/
theorem lCmp_eq {x y z : Int} (q : lCmp x y = z) (hx : -9223372036854775808 ≤ x ∧ x ≤ 9223372036854775807) (hy : -9223372036854775808 ≤ y ∧ y ≤ 9223372036854775807) (hz : z = 0) : x = y := by
  subst q
  unfold lCmp lg_cmp at hz
  split at hz
  · exact absurd hz (by decide)
  · split at hz
    · rename_i _ h
      have h2 := congrArg Int64.toInt h
      rw [jvI hx, jvI hy] at h2; exact h2
    · exact absurd hz (by decide)
theorem lShl8_fin : ∀ b : Fin 256, lShl ((b.val : Nat) : Int) 8 = ((b.val : Nat) : Int) * 256 := by decide +kernel
theorem lShl0_fin : ∀ b : Fin 256, lShl ((b.val : Nat) : Int) 0 = ((b.val : Nat) : Int) := by decide +kernel
theorem lOr_r {a b : Int} (k : Nat) (hk : k ≤ 62) (ha : 0 ≤ a ∧ a < 2 ^ k) (hb : 0 ≤ b ∧ b < 2 ^ k) : 0 ≤ lOr a b ∧ lOr a b < 2 ^ k := by
  have hp : (2 : Nat) ^ k ≤ 2 ^ 62 := Nat.pow_le_pow_right (by decide) hk
  have hc : ((2 ^ k : Nat) : Int) = (2 : Int) ^ k := by exact Int.natCast_pow 2 k
  have h1 : (BitVec.ofInt 64 b).toNat = b.toNat := by rw [BitVec.toNat_ofInt]; omega
  have h0 : (BitVec.ofInt 64 a).toNat = a.toNat := by rw [BitVec.toNat_ofInt]; omega
  have h2 : (Int64.ofInt a ||| Int64.ofInt b).toBitVec.toNat < 2 ^ k := by
    rw [Int64.toBitVec_or, BitVec.toNat_or, Int64.toBitVec_ofInt, Int64.toBitVec_ofInt, h1, h0]
    exact Nat.or_lt_two_pow (by omega) (by omega)
  have h3 : (Int64.ofInt a ||| Int64.ofInt b).toInt = ((Int64.ofInt a ||| Int64.ofInt b).toBitVec.toNat : Int) := BitVec.toInt_eq_toNat_of_lt (by omega)
  unfold lOr; omega
theorem word1 {b c s z : Int} (hb : 0 ≤ b ∧ b ≤ 255) (q0 : b = c) (q1 : lShl c 0 = s) (q2 : lOr 0 s = z) : 0 ≤ z ∧ z ≤ 255 := by
  subst q0; subst q1; subst q2
  have hs : ((b.toNat : Nat) : Int) = b := Int.toNat_of_nonneg hb.1
  have := lShl0_fin ⟨b.toNat, by omega⟩
  simp only [hs] at this
  rw [this]
  have := lOr_r (a := 0) (b := b) 8 (by decide) (by omega) (by omega)
  omega
theorem word2 {b c s v z : Int} (hv : 0 ≤ v ∧ v ≤ 255) (hb : 0 ≤ b ∧ b ≤ 255) (q0 : b = c) (q1 : lShl c 8 = s) (q2 : lOr v s = z) : 0 ≤ z ∧ z ≤ 65535 := by
  subst q0; subst q1; subst q2
  have hs : ((b.toNat : Nat) : Int) = b := Int.toNat_of_nonneg hb.1
  have := lShl8_fin ⟨b.toNat, by omega⟩
  simp only [hs] at this
  rw [this]
  have := lOr_r (a := v) (b := b * 256) 16 (by decide) (by omega) (by omega)
  omega
end
