theorem dX10_addDomain_0 : decode cX10_addDomain 0 = .ok (.aload_n 0, 1) := by decide +kernel
theorem dX10_addDomain_1 : decode cX10_addDomain 1 = .ok (.getfield 23, 3) := by decide +kernel
theorem dX10_addDomain_4 : decode cX10_addDomain 4 = .ok (.aload_n 0, 1) := by decide +kernel
theorem dX10_addDomain_5 : decode cX10_addDomain 5 = .ok (.getfield 68, 3) := by decide +kernel
theorem dX10_addDomain_8 : decode cX10_addDomain 8 = .ok (.new 21, 3) := by decide +kernel
theorem dX10_addDomain_11 : decode cX10_addDomain 11 = .ok (.dup, 1) := by decide +kernel
theorem dX10_addDomain_12 : decode cX10_addDomain 12 = .ok (.invokespecial 71, 3) := by decide +kernel
theorem dX10_addDomain_15 : decode cX10_addDomain 15 = .ok (.aastore, 1) := by decide +kernel
theorem dX10_addDomain_16 : decode cX10_addDomain 16 = .ok (.aload_n 0, 1) := by decide +kernel
theorem dX10_addDomain_17 : decode cX10_addDomain 17 = .ok (.dup, 1) := by decide +kernel
theorem dX10_addDomain_18 : decode cX10_addDomain 18 = .ok (.getfield 68, 3) := by decide +kernel
theorem dX10_addDomain_21 : decode cX10_addDomain 21 = .ok (.iconst 1, 1) := by decide +kernel
theorem dX10_addDomain_22 : decode cX10_addDomain 22 = .ok (.iadd, 1) := by decide +kernel
theorem dX10_addDomain_23 : decode cX10_addDomain 23 = .ok (.putfield 68, 3) := by decide +kernel
theorem dX10_addDomain_26 : decode cX10_addDomain 26 = .ok (.aload_n 0, 1) := by decide +kernel
theorem dX10_addDomain_27 : decode cX10_addDomain 27 = .ok (.getfield 68, 3) := by decide +kernel
theorem dX10_addDomain_30 : decode cX10_addDomain 30 = .ok (.iconst 1, 1) := by decide +kernel
theorem dX10_addDomain_31 : decode cX10_addDomain 31 = .ok (.isub, 1) := by decide +kernel
theorem dX10_addDomain_32 : decode cX10_addDomain 32 = .ok (.ireturn, 1) := by decide +kernel
theorem dX10_addTie_0 : decode cX10_addTie 0 = .ok (.aload_n 0, 1) := by decide +kernel
theorem dX10_addTie_1 : decode cX10_addTie 1 = .ok (.getfield 29, 3) := by decide +kernel
theorem dX10_addTie_4 : decode cX10_addTie 4 = .ok (.aload_n 0, 1) := by decide +kernel
theorem dX10_addTie_5 : decode cX10_addTie 5 = .ok (.getfield 72, 3) := by decide +kernel
theorem dX10_addTie_8 : decode cX10_addTie 8 = .ok (.new 27, 3) := by decide +kernel
theorem dX10_addTie_11 : decode cX10_addTie 11 = .ok (.dup, 1) := by decide +kernel
theorem dX10_addTie_12 : decode cX10_addTie 12 = .ok (.iload_n 1, 1) := by decide +kernel
theorem dX10_addTie_13 : decode cX10_addTie 13 = .ok (.iload_n 2, 1) := by decide +kernel
theorem dX10_addTie_14 : decode cX10_addTie 14 = .ok (.iload_n 3, 1) := by decide +kernel
theorem dX10_addTie_15 : decode cX10_addTie 15 = .ok (.invokespecial 75, 3) := by decide +kernel
theorem dX10_addTie_18 : decode cX10_addTie 18 = .ok (.aastore, 1) := by decide +kernel
theorem dX10_addTie_19 : decode cX10_addTie 19 = .ok (.aload_n 0, 1) := by decide +kernel
theorem dX10_addTie_20 : decode cX10_addTie 20 = .ok (.dup, 1) := by decide +kernel
theorem dX10_addTie_21 : decode cX10_addTie 21 = .ok (.getfield 72, 3) := by decide +kernel
theorem dX10_addTie_24 : decode cX10_addTie 24 = .ok (.iconst 1, 1) := by decide +kernel
theorem dX10_addTie_25 : decode cX10_addTie 25 = .ok (.iadd, 1) := by decide +kernel
theorem dX10_addTie_26 : decode cX10_addTie 26 = .ok (.putfield 72, 3) := by decide +kernel
theorem dX10_addTie_29 : decode cX10_addTie 29 = .ok (.aload_n 0, 1) := by decide +kernel
theorem dX10_addTie_30 : decode cX10_addTie 30 = .ok (.getfield 72, 3) := by decide +kernel
theorem dX10_addTie_33 : decode cX10_addTie 33 = .ok (.iconst 1, 1) := by decide +kernel
theorem dX10_addTie_34 : decode cX10_addTie 34 = .ok (.isub, 1) := by decide +kernel
theorem dX10_addTie_35 : decode cX10_addTie 35 = .ok (.ireturn, 1) := by decide +kernel
theorem dX11_domain_0 : decode cX11_domain 0 = .ok (.aload_n 0, 1) := by decide +kernel
theorem dX11_domain_1 : decode cX11_domain 1 = .ok (.getfield 26, 3) := by decide +kernel
theorem dX11_domain_4 : decode cX11_domain 4 = .ok (.getfield 98, 3) := by decide +kernel
theorem dX11_domain_7 : decode cX11_domain 7 = .ok (.bipush 10, 2) := by decide +kernel
theorem dX11_domain_9 : decode cX11_domain 9 = .ok (.if_icmp .lt 6, 3) := by decide +kernel
theorem dX11_domain_12 : decode cX11_domain 12 = .ok (.bipush (-3), 2) := by decide +kernel
theorem dX11_domain_14 : decode cX11_domain 14 = .ok (.ireturn, 1) := by decide +kernel
theorem dX11_domain_15 : decode cX11_domain 15 = .ok (.aload_n 0, 1) := by decide +kernel
theorem dX11_domain_16 : decode cX11_domain 16 = .ok (.getfield 26, 3) := by decide +kernel
theorem dX11_domain_19 : decode cX11_domain 19 = .ok (.invokevirtual 101, 3) := by decide +kernel
theorem dX11_domain_22 : decode cX11_domain 22 = .ok (.ireturn, 1) := by decide +kernel
theorem dX11_policy_0 : decode cX11_policy 0 = .ok (.aload_n 0, 1) := by decide +kernel
theorem dX11_policy_1 : decode cX11_policy 1 = .ok (.getfield 42, 3) := by decide +kernel
theorem dX11_policy_4 : decode cX11_policy 4 = .ok (.aload_n 0, 1) := by decide +kernel
theorem dX11_policy_5 : decode cX11_policy 5 = .ok (.getfield 9, 3) := by decide +kernel
theorem dX11_policy_8 : decode cX11_policy 8 = .ok (.aload_n 0, 1) := by decide +kernel
theorem dX11_policy_9 : decode cX11_policy 9 = .ok (.getfield 76, 3) := by decide +kernel
theorem dX11_policy_12 : decode cX11_policy 12 = .ok (.aload_n 0, 1) := by decide +kernel
theorem dX11_policy_13 : decode cX11_policy 13 = .ok (.getfield 35, 3) := by decide +kernel
theorem dX11_policy_16 : decode cX11_policy 16 = .ok (.getfield 205, 3) := by decide +kernel
theorem dX11_policy_19 : decode cX11_policy 19 = .ok (.invokevirtual 208, 3) := by decide +kernel
theorem dX11_policy_22 : decode cX11_policy 22 = .ok (.aload_n 0, 1) := by decide +kernel
theorem dX11_policy_23 : decode cX11_policy 23 = .ok (.iconst 0, 1) := by decide +kernel
theorem dX11_policy_24 : decode cX11_policy 24 = .ok (.putfield 76, 3) := by decide +kernel
theorem dX11_policy_27 : decode cX11_policy 27 = .ok (.aload_n 0, 1) := by decide +kernel
theorem dX11_policy_28 : decode cX11_policy 28 = .ok (.getfield 42, 3) := by decide +kernel
theorem dX11_policy_31 : decode cX11_policy 31 = .ok (.getfield 212, 3) := by decide +kernel
theorem dX11_policy_34 : decode cX11_policy 34 = .ok (.ifCond .eq 14, 3) := by decide +kernel
theorem dX11_policy_37 : decode cX11_policy 37 = .ok (.bipush (-10), 2) := by decide +kernel
theorem dX11_policy_39 : decode cX11_policy 39 = .ok (.aload_n 0, 1) := by decide +kernel
theorem dX11_policy_40 : decode cX11_policy 40 = .ok (.getfield 42, 3) := by decide +kernel
theorem dX11_policy_43 : decode cX11_policy 43 = .ok (.getfield 215, 3) := by decide +kernel
theorem dX11_policy_46 : decode cX11_policy 46 = .ok (.isub, 1) := by decide +kernel
theorem dX11_policy_47 : decode cX11_policy 47 = .ok (.ireturn, 1) := by decide +kernel
theorem dX11_policy_48 : decode cX11_policy 48 = .ok (.aload_n 0, 1) := by decide +kernel
theorem dX11_policy_49 : decode cX11_policy 49 = .ok (.getfield 35, 3) := by decide +kernel
theorem dX11_policy_52 : decode cX11_policy 52 = .ok (.getfield 205, 3) := by decide +kernel
theorem dX11_policy_55 : decode cX11_policy 55 = .ok (.bipush 12, 2) := by decide +kernel
theorem dX11_policy_57 : decode cX11_policy 57 = .ok (.if_icmp .lt 6, 3) := by decide +kernel
theorem dX11_policy_60 : decode cX11_policy 60 = .ok (.bipush (-3), 2) := by decide +kernel
theorem dX11_policy_62 : decode cX11_policy 62 = .ok (.ireturn, 1) := by decide +kernel
theorem dX11_policy_63 : decode cX11_policy 63 = .ok (.aload_n 0, 1) := by decide +kernel
theorem dX11_policy_64 : decode cX11_policy 64 = .ok (.getfield 35, 3) := by decide +kernel
theorem dX11_policy_67 : decode cX11_policy 67 = .ok (.aload_n 0, 1) := by decide +kernel
theorem dX11_policy_68 : decode cX11_policy 68 = .ok (.getfield 42, 3) := by decide +kernel
theorem dX11_policy_71 : decode cX11_policy 71 = .ok (.invokevirtual 218, 3) := by decide +kernel
theorem dX11_policy_74 : decode cX11_policy 74 = .ok (.invokevirtual 222, 3) := by decide +kernel
theorem dX11_policy_77 : decode cX11_policy 77 = .ok (.ireturn, 1) := by decide +kernel
theorem dX11_tie_0 : decode cX11_tie 0 = .ok (.aload_n 0, 1) := by decide +kernel
theorem dX11_tie_1 : decode cX11_tie 1 = .ok (.iload_n 1, 1) := by decide +kernel
theorem dX11_tie_2 : decode cX11_tie 2 = .ok (.invokevirtual 105, 3) := by decide +kernel
theorem dX11_tie_5 : decode cX11_tie 5 = .ok (.ifCond .eq 25, 3) := by decide +kernel
theorem dX11_tie_8 : decode cX11_tie 8 = .ok (.aload_n 0, 1) := by decide +kernel
theorem dX11_tie_9 : decode cX11_tie 9 = .ok (.iload_n 2, 1) := by decide +kernel
theorem dX11_tie_10 : decode cX11_tie 10 = .ok (.invokevirtual 105, 3) := by decide +kernel
theorem dX11_tie_13 : decode cX11_tie 13 = .ok (.ifCond .eq 17, 3) := by decide +kernel
theorem dX11_tie_16 : decode cX11_tie 16 = .ok (.iload_n 1, 1) := by decide +kernel
theorem dX11_tie_17 : decode cX11_tie 17 = .ok (.iload_n 2, 1) := by decide +kernel
theorem dX11_tie_18 : decode cX11_tie 18 = .ok (.if_icmp .eq 12, 3) := by decide +kernel
theorem dX11_tie_21 : decode cX11_tie 21 = .ok (.iload_n 3, 1) := by decide +kernel
theorem dX11_tie_22 : decode cX11_tie 22 = .ok (.ifCond .lt 8, 3) := by decide +kernel
theorem dX11_tie_25 : decode cX11_tie 25 = .ok (.iload_n 3, 1) := by decide +kernel
theorem dX11_tie_26 : decode cX11_tie 26 = .ok (.iconst 2, 1) := by decide +kernel
theorem dX11_tie_27 : decode cX11_tie 27 = .ok (.if_icmp .le 5, 3) := by decide +kernel
theorem dX11_tie_30 : decode cX11_tie 30 = .ok (.iconst (-1), 1) := by decide +kernel
theorem dX11_tie_31 : decode cX11_tie 31 = .ok (.ireturn, 1) := by decide +kernel
theorem dX11_tie_32 : decode cX11_tie 32 = .ok (.aload_n 0, 1) := by decide +kernel
theorem dX11_tie_33 : decode cX11_tie 33 = .ok (.getfield 26, 3) := by decide +kernel
theorem dX11_tie_36 : decode cX11_tie 36 = .ok (.iload_n 1, 1) := by decide +kernel
theorem dX11_tie_37 : decode cX11_tie 37 = .ok (.iload_n 2, 1) := by decide +kernel
theorem dX11_tie_38 : decode cX11_tie 38 = .ok (.invokevirtual 109, 3) := by decide +kernel
theorem dX11_tie_41 : decode cX11_tie 41 = .ok (.ifCond .lt 6, 3) := by decide +kernel
theorem dX11_tie_44 : decode cX11_tie 44 = .ok (.bipush (-2), 2) := by decide +kernel
theorem dX11_tie_46 : decode cX11_tie 46 = .ok (.ireturn, 1) := by decide +kernel
theorem dX11_tie_47 : decode cX11_tie 47 = .ok (.aload_n 0, 1) := by decide +kernel
theorem dX11_tie_48 : decode cX11_tie 48 = .ok (.getfield 26, 3) := by decide +kernel
theorem dX11_tie_51 : decode cX11_tie 51 = .ok (.getfield 112, 3) := by decide +kernel
theorem dX11_tie_54 : decode cX11_tie 54 = .ok (.bipush 20, 2) := by decide +kernel
theorem dX11_tie_56 : decode cX11_tie 56 = .ok (.if_icmp .lt 6, 3) := by decide +kernel
theorem dX11_tie_59 : decode cX11_tie 59 = .ok (.bipush (-3), 2) := by decide +kernel
theorem dX11_tie_61 : decode cX11_tie 61 = .ok (.ireturn, 1) := by decide +kernel
theorem dX11_tie_62 : decode cX11_tie 62 = .ok (.aload_n 0, 1) := by decide +kernel
theorem dX11_tie_63 : decode cX11_tie 63 = .ok (.getfield 26, 3) := by decide +kernel
theorem dX11_tie_66 : decode cX11_tie 66 = .ok (.iload_n 1, 1) := by decide +kernel
theorem dX11_tie_67 : decode cX11_tie 67 = .ok (.iload_n 2, 1) := by decide +kernel
theorem dX11_tie_68 : decode cX11_tie 68 = .ok (.iload_n 3, 1) := by decide +kernel
theorem dX11_tie_69 : decode cX11_tie 69 = .ok (.invokevirtual 115, 3) := by decide +kernel
theorem dX11_tie_72 : decode cX11_tie 72 = .ok (.ireturn, 1) := by decide +kernel
theorem dX1_addPolicy_0 : decode cX1_addPolicy 0 = .ok (.aload_n 0, 1) := by decide +kernel
theorem dX1_addPolicy_1 : decode cX1_addPolicy 1 = .ok (.getfield 17, 3) := by decide +kernel
theorem dX1_addPolicy_4 : decode cX1_addPolicy 4 = .ok (.aload_n 0, 1) := by decide +kernel
theorem dX1_addPolicy_5 : decode cX1_addPolicy 5 = .ok (.getfield 21, 3) := by decide +kernel
theorem dX1_addPolicy_8 : decode cX1_addPolicy 8 = .ok (.aload_n 1, 1) := by decide +kernel
theorem dX1_addPolicy_9 : decode cX1_addPolicy 9 = .ok (.aastore, 1) := by decide +kernel
theorem dX1_addPolicy_10 : decode cX1_addPolicy 10 = .ok (.aload_n 0, 1) := by decide +kernel
theorem dX1_addPolicy_11 : decode cX1_addPolicy 11 = .ok (.dup, 1) := by decide +kernel
theorem dX1_addPolicy_12 : decode cX1_addPolicy 12 = .ok (.getfield 21, 3) := by decide +kernel
theorem dX1_addPolicy_15 : decode cX1_addPolicy 15 = .ok (.iconst 1, 1) := by decide +kernel
theorem dX1_addPolicy_16 : decode cX1_addPolicy 16 = .ok (.iadd, 1) := by decide +kernel
theorem dX1_addPolicy_17 : decode cX1_addPolicy 17 = .ok (.putfield 21, 3) := by decide +kernel
theorem dX1_addPolicy_20 : decode cX1_addPolicy 20 = .ok (.aload_n 0, 1) := by decide +kernel
theorem dX1_addPolicy_21 : decode cX1_addPolicy 21 = .ok (.getfield 21, 3) := by decide +kernel
theorem dX1_addPolicy_24 : decode cX1_addPolicy 24 = .ok (.iconst 1, 1) := by decide +kernel
theorem dX1_addPolicy_25 : decode cX1_addPolicy 25 = .ok (.isub, 1) := by decide +kernel
theorem dX1_addPolicy_26 : decode cX1_addPolicy 26 = .ok (.ireturn, 1) := by decide +kernel
theorem dX5_init_0 : decode cX5_init 0 = .ok (.aload_n 0, 1) := by decide +kernel
theorem dX5_init_1 : decode cX5_init 1 = .ok (.invokespecial 1, 3) := by decide +kernel
theorem dX5_init_4 : decode cX5_init 4 = .ok (.aload_n 0, 1) := by decide +kernel
theorem dX5_init_5 : decode cX5_init 5 = .ok (.iload_n 1, 1) := by decide +kernel
theorem dX5_init_6 : decode cX5_init 6 = .ok (.putfield 7, 3) := by decide +kernel
theorem dX5_init_9 : decode cX5_init 9 = .ok (.aload_n 0, 1) := by decide +kernel
theorem dX5_init_10 : decode cX5_init 10 = .ok (.aload_n 2, 1) := by decide +kernel
theorem dX5_init_11 : decode cX5_init 11 = .ok (.putfield 13, 3) := by decide +kernel
theorem dX5_init_14 : decode cX5_init 14 = .ok (.aload_n 0, 1) := by decide +kernel
theorem dX5_init_15 : decode cX5_init 15 = .ok (.aload_n 3, 1) := by decide +kernel
theorem dX5_init_16 : decode cX5_init 16 = .ok (.putfield 17, 3) := by decide +kernel
theorem dX5_init_19 : decode cX5_init 19 = .ok (.aload_n 0, 1) := by decide +kernel
theorem dX5_init_20 : decode cX5_init 20 = .ok (.aload 4, 2) := by decide +kernel
theorem dX5_init_22 : decode cX5_init 22 = .ok (.putfield 20, 3) := by decide +kernel
theorem dX5_init_25 : decode cX5_init 25 = .ok (.aload_n 0, 1) := by decide +kernel
theorem dX5_init_26 : decode cX5_init 26 = .ok (.aload 5, 2) := by decide +kernel
theorem dX5_init_28 : decode cX5_init 28 = .ok (.putfield 24, 3) := by decide +kernel
theorem dX5_init_31 : decode cX5_init 31 = .ok (.aload_n 0, 1) := by decide +kernel
theorem dX5_init_32 : decode cX5_init 32 = .ok (.aload 6, 2) := by decide +kernel
theorem dX5_init_34 : decode cX5_init 34 = .ok (.putfield 27, 3) := by decide +kernel
theorem dX5_init_37 : decode cX5_init 37 = .ok (.return_, 1) := by decide +kernel
theorem dX6_result_0 : decode cX6_result 0 = .ok (.new 69, 3) := by decide +kernel
theorem dX6_result_3 : decode cX6_result 3 = .ok (.dup, 1) := by decide +kernel
theorem dX6_result_4 : decode cX6_result 4 = .ok (.aload_n 0, 1) := by decide +kernel
theorem dX6_result_5 : decode cX6_result 5 = .ok (.getfield 44, 3) := by decide +kernel
theorem dX6_result_8 : decode cX6_result 8 = .ok (.aload_n 0, 1) := by decide +kernel
theorem dX6_result_9 : decode cX6_result 9 = .ok (.getfield 21, 3) := by decide +kernel
theorem dX6_result_12 : decode cX6_result 12 = .ok (.aload_n 0, 1) := by decide +kernel
theorem dX6_result_13 : decode cX6_result 13 = .ok (.getfield 47, 3) := by decide +kernel
theorem dX6_result_16 : decode cX6_result 16 = .ok (.invokestatic 71, 3) := by decide +kernel
theorem dX6_result_19 : decode cX6_result 19 = .ok (.aload_n 0, 1) := by decide +kernel
theorem dX6_result_20 : decode cX6_result 20 = .ok (.getfield 24, 3) := by decide +kernel
theorem dX6_result_23 : decode cX6_result 23 = .ok (.aload_n 0, 1) := by decide +kernel
theorem dX6_result_24 : decode cX6_result 24 = .ok (.getfield 50, 3) := by decide +kernel
theorem dX6_result_27 : decode cX6_result 27 = .ok (.invokestatic 71, 3) := by decide +kernel
theorem dX6_result_30 : decode cX6_result 30 = .ok (.aload_n 0, 1) := by decide +kernel
theorem dX6_result_31 : decode cX6_result 31 = .ok (.getfield 27, 3) := by decide +kernel
theorem dX6_result_34 : decode cX6_result 34 = .ok (.aload_n 0, 1) := by decide +kernel
theorem dX6_result_35 : decode cX6_result 35 = .ok (.getfield 50, 3) := by decide +kernel
theorem dX6_result_38 : decode cX6_result 38 = .ok (.invokestatic 77, 3) := by decide +kernel
theorem dX6_result_41 : decode cX6_result 41 = .ok (.aload_n 0, 1) := by decide +kernel
theorem dX6_result_42 : decode cX6_result 42 = .ok (.getfield 31, 3) := by decide +kernel
theorem dX6_result_45 : decode cX6_result 45 = .ok (.aload_n 0, 1) := by decide +kernel
theorem dX6_result_46 : decode cX6_result 46 = .ok (.getfield 53, 3) := by decide +kernel
theorem dX6_result_49 : decode cX6_result 49 = .ok (.invokestatic 77, 3) := by decide +kernel
theorem dX6_result_52 : decode cX6_result 52 = .ok (.aload_n 0, 1) := by decide +kernel
theorem dX6_result_53 : decode cX6_result 53 = .ok (.getfield 34, 3) := by decide +kernel
theorem dX6_result_56 : decode cX6_result 56 = .ok (.aload_n 0, 1) := by decide +kernel
theorem dX6_result_57 : decode cX6_result 57 = .ok (.getfield 53, 3) := by decide +kernel
theorem dX6_result_60 : decode cX6_result 60 = .ok (.invokestatic 77, 3) := by decide +kernel
theorem dX6_result_63 : decode cX6_result 63 = .ok (.invokespecial 80, 3) := by decide +kernel
theorem dX6_result_66 : decode cX6_result 66 = .ok (.areturn, 1) := by decide +kernel
