theorem dX12_until_25 : decode cX12_until 25 = .ok (.sipush 500, 3) := by decide +kernel
theorem dX12_until_28 : decode cX12_until 28 = .ok (.if_icmp .ge 34, 3) := by decide +kernel
theorem dX12_until_31 : decode cX12_until 31 = .ok (.iload_n 3, 1) := by decide +kernel
theorem dX12_until_32 : decode cX12_until 32 = .ok (.ldc 29, 2) := by decide +kernel
theorem dX12_until_34 : decode cX12_until 34 = .ok (.if_icmp .eq 28, 3) := by decide +kernel
theorem dX12_until_62 : decode cX12_until 62 = .ok (.iload_n 3, 1) := by decide +kernel
theorem dX12_until_63 : decode cX12_until 63 = .ok (.ldc 29, 2) := by decide +kernel
theorem dX12_until_65 : decode cX12_until 65 = .ok (.if_icmp .eq 12, 3) := by decide +kernel
theorem dX12_until_77 : decode cX12_until 77 = .ok (.aload_n 0, 1) := by decide +kernel
theorem dX12_until_78 : decode cX12_until 78 = .ok (.iload_n 1, 1) := by decide +kernel
theorem dX12_until_79 : decode cX12_until 79 = .ok (.putfield 591, 3) := by decide +kernel
theorem dX12_until_82 : decode cX12_until 82 = .ok (.iload_n 2, 1) := by decide +kernel
theorem dX12_until_83 : decode cX12_until 83 = .ok (.ireturn, 1) := by decide +kernel
theorem dX12_use_0 : decode cX12_use 0 = .ok (.aload_n 0, 1) := by decide +kernel
theorem dX12_use_1 : decode cX12_use 1 = .ok (.iload_n 1, 1) := by decide +kernel
theorem dX12_use_2 : decode cX12_use 2 = .ok (.invokevirtual 66, 3) := by decide +kernel
theorem dX12_use_5 : decode cX12_use 5 = .ok (.ifCond .eq 43, 3) := by decide +kernel
theorem dX12_use_48 : decode cX12_use 48 = .ok (.iconst (-1), 1) := by decide +kernel
theorem dX12_use_49 : decode cX12_use 49 = .ok (.ireturn, 1) := by decide +kernel
theorem dX12_verdict_0 : decode cX12_verdict 0 = .ok (.aload_n 0, 1) := by decide +kernel
theorem dX12_verdict_1 : decode cX12_verdict 1 = .ok (.iload_n 1, 1) := by decide +kernel
theorem dX12_verdict_2 : decode cX12_verdict 2 = .ok (.invokevirtual 92, 3) := by decide +kernel
theorem dX12_verdict_5 : decode cX12_verdict 5 = .ok (.ifCond .eq 12, 3) := by decide +kernel
theorem dX12_verdict_17 : decode cX12_verdict 17 = .ok (.iconst (-1), 1) := by decide +kernel
theorem dX12_verdict_18 : decode cX12_verdict 18 = .ok (.ireturn, 1) := by decide +kernel
theorem dX12_walk_0 : decode cX12_walk 0 = .ok (.iload_n 1, 1) := by decide +kernel
theorem dX12_walk_1 : decode cX12_walk 1 = .ok (.iconst (-1), 1) := by decide +kernel
theorem dX12_walk_2 : decode cX12_walk 2 = .ok (.bipush 9, 2) := by decide +kernel
theorem dX12_walk_4 : decode cX12_walk 4 = .ok (.invokestatic 18, 3) := by decide +kernel
theorem dX12_walk_7 : decode cX12_walk 7 = .ok (.ifCond .ne 5, 3) := by decide +kernel
theorem dX12_walk_10 : decode cX12_walk 10 = .ok (.iconst (-1), 1) := by decide +kernel
theorem dX12_walk_11 : decode cX12_walk 11 = .ok (.ireturn, 1) := by decide +kernel
theorem dX12_walk_12 : decode cX12_walk 12 = .ok (.iload_n 1, 1) := by decide +kernel
theorem dX12_walk_13 : decode cX12_walk 13 = .ok (.iconst (-1), 1) := by decide +kernel
theorem dX12_walk_14 : decode cX12_walk 14 = .ok (.if_icmp .ne 10, 3) := by decide +kernel
theorem dX12_walk_17 : decode cX12_walk 17 = .ok (.aload_n 0, 1) := by decide +kernel
theorem dX12_walk_18 : decode cX12_walk 18 = .ok (.iconst 0, 1) := by decide +kernel
theorem dX12_walk_19 : decode cX12_walk 19 = .ok (.putfield 79, 3) := by decide +kernel
theorem dX12_walk_22 : decode cX12_walk 22 = .ok (.iconst 0, 1) := by decide +kernel
theorem dX12_walk_23 : decode cX12_walk 23 = .ok (.ireturn, 1) := by decide +kernel
theorem dX12_walk_24 : decode cX12_walk 24 = .ok (.aload_n 0, 1) := by decide +kernel
theorem dX12_walk_25 : decode cX12_walk 25 = .ok (.getfield 79, 3) := by decide +kernel
theorem dX12_walk_28 : decode cX12_walk 28 = .ok (.bipush 20, 2) := by decide +kernel
theorem dX12_walk_30 : decode cX12_walk 30 = .ok (.if_icmp .ne 6, 3) := by decide +kernel
theorem dX12_walk_36 : decode cX12_walk 36 = .ok (.aload_n 0, 1) := by decide +kernel
theorem dX12_walk_37 : decode cX12_walk 37 = .ok (.getfield 82, 3) := by decide +kernel
theorem dX12_walk_40 : decode cX12_walk 40 = .ok (.aload_n 0, 1) := by decide +kernel
theorem dX12_walk_41 : decode cX12_walk 41 = .ok (.getfield 79, 3) := by decide +kernel
theorem dX12_walk_44 : decode cX12_walk 44 = .ok (.iload_n 1, 1) := by decide +kernel
theorem dX12_walk_45 : decode cX12_walk 45 = .ok (.iastore, 1) := by decide +kernel
theorem dX12_walk_46 : decode cX12_walk 46 = .ok (.aload_n 0, 1) := by decide +kernel
theorem dX12_walk_47 : decode cX12_walk 47 = .ok (.dup, 1) := by decide +kernel
theorem dX12_walk_48 : decode cX12_walk 48 = .ok (.getfield 79, 3) := by decide +kernel
theorem dX12_walk_51 : decode cX12_walk 51 = .ok (.iconst 1, 1) := by decide +kernel
theorem dX12_walk_52 : decode cX12_walk 52 = .ok (.iadd, 1) := by decide +kernel
theorem dX12_walk_53 : decode cX12_walk 53 = .ok (.putfield 79, 3) := by decide +kernel
theorem dX12_walk_56 : decode cX12_walk 56 = .ok (.aload_n 0, 1) := by decide +kernel
theorem dX12_walk_57 : decode cX12_walk 57 = .ok (.getfield 79, 3) := by decide +kernel
theorem dX12_walk_60 : decode cX12_walk 60 = .ok (.ireturn, 1) := by decide +kernel
theorem dX12_why_0 : decode cX12_why 0 = .ok (.aload_n 0, 1) := by decide +kernel
theorem dX12_why_1 : decode cX12_why 1 = .ok (.iload_n 1, 1) := by decide +kernel
theorem dX12_why_2 : decode cX12_why 2 = .ok (.invokevirtual 66, 3) := by decide +kernel
theorem dX12_why_5 : decode cX12_why 5 = .ok (.ifCond .eq 20, 3) := by decide +kernel
theorem dX12_why_25 : decode cX12_why 25 = .ok (.iconst (-1), 1) := by decide +kernel
theorem dX12_why_26 : decode cX12_why 26 = .ok (.ireturn, 1) := by decide +kernel
theorem dX12_wish_0 : decode cX12_wish 0 = .ok (.aload_n 0, 1) := by decide +kernel
theorem dX12_wish_1 : decode cX12_wish 1 = .ok (.getfield 79, 3) := by decide +kernel
theorem dX12_wish_4 : decode cX12_wish 4 = .ok (.iconst 2, 1) := by decide +kernel
theorem dX12_wish_5 : decode cX12_wish 5 = .ok (.if_icmp .lt 39, 3) := by decide +kernel
theorem dX12_wish_44 : decode cX12_wish 44 = .ok (.iconst 0, 1) := by decide +kernel
theorem dX12_wish_45 : decode cX12_wish 45 = .ok (.istore_n 1, 1) := by decide +kernel
theorem dX12_wish_46 : decode cX12_wish 46 = .ok (.iconst 0, 1) := by decide +kernel
theorem dX12_wish_47 : decode cX12_wish 47 = .ok (.istore_n 2, 1) := by decide +kernel
theorem dX12_wish_48 : decode cX12_wish 48 = .ok (.iload_n 2, 1) := by decide +kernel
theorem dX12_wish_49 : decode cX12_wish 49 = .ok (.aload_n 0, 1) := by decide +kernel
theorem dX12_wish_50 : decode cX12_wish 50 = .ok (.getfield 79, 3) := by decide +kernel
theorem dX12_wish_53 : decode cX12_wish 53 = .ok (.if_icmp .ge 68, 3) := by decide +kernel
theorem dX12_wish_121 : decode cX12_wish 121 = .ok (.iload_n 1, 1) := by decide +kernel
theorem dX12_wish_122 : decode cX12_wish 122 = .ok (.ifCond .ne 5, 3) := by decide +kernel
theorem dX12_wish_125 : decode cX12_wish 125 = .ok (.iconst (-1), 1) := by decide +kernel
theorem dX12_wish_126 : decode cX12_wish 126 = .ok (.ireturn, 1) := by decide +kernel
theorem dX12_withdraw_0 : decode cX12_withdraw 0 = .ok (.aload_n 0, 1) := by decide +kernel
theorem dX12_withdraw_1 : decode cX12_withdraw 1 = .ok (.iload_n 1, 1) := by decide +kernel
theorem dX12_withdraw_2 : decode cX12_withdraw 2 = .ok (.invokevirtual 49, 3) := by decide +kernel
theorem dX12_withdraw_5 : decode cX12_withdraw 5 = .ok (.ifCond .eq 11, 3) := by decide +kernel
theorem dX12_withdraw_16 : decode cX12_withdraw 16 = .ok (.iconst (-1), 1) := by decide +kernel
theorem dX12_withdraw_17 : decode cX12_withdraw 17 = .ok (.ireturn, 1) := by decide +kernel
theorem dX12_write_0 : decode cX12_write 0 = .ok (.aload_n 0, 1) := by decide +kernel
theorem dX12_write_1 : decode cX12_write 1 = .ok (.iload_n 1, 1) := by decide +kernel
theorem dX12_write_2 : decode cX12_write 2 = .ok (.invokevirtual 66, 3) := by decide +kernel
theorem dX12_write_5 : decode cX12_write 5 = .ok (.ifCond .eq 20, 3) := by decide +kernel
theorem dX12_write_25 : decode cX12_write 25 = .ok (.iconst (-1), 1) := by decide +kernel
theorem dX12_write_26 : decode cX12_write 26 = .ok (.ireturn, 1) := by decide +kernel
theorem dX1_addPolicy_0 : decode cX1_addPolicy 0 = .ok (.aload_n 0, 1) := by decide +kernel
theorem dX1_addPolicy_1 : decode cX1_addPolicy 1 = .ok (.getfield 17, 3) := by decide +kernel
theorem dX1_addPolicy_4 : decode cX1_addPolicy 4 = .ok (.aload_n 0, 1) := by decide +kernel
theorem dX1_addPolicy_5 : decode cX1_addPolicy 5 = .ok (.getfield 21, 3) := by decide +kernel
theorem dX1_addPolicy_8 : decode cX1_addPolicy 8 = .ok (.aload_n 1, 1) := by decide +kernel
theorem dX1_addPolicy_9 : decode cX1_addPolicy 9 = .ok (.aastore, 1) := by decide +kernel
theorem dX1_addPolicy_10 : decode cX1_addPolicy 10 = .ok (.aload_n 0, 1) := by decide +kernel
theorem dX1_addPolicy_11 : decode cX1_addPolicy 11 = .ok (.dup, 1) := by decide +kernel
theorem dX1_addPolicy_12 : decode cX1_addPolicy 12 = .ok (.getfield 21, 3) := by decide +kernel
theorem dX1_addPolicy_15 : decode cX1_addPolicy 15 = .ok (.iconst 1, 1) := by decide +kernel
theorem dX1_addPolicy_16 : decode cX1_addPolicy 16 = .ok (.iadd, 1) := by decide +kernel
theorem dX1_addPolicy_17 : decode cX1_addPolicy 17 = .ok (.putfield 21, 3) := by decide +kernel
theorem dX1_addPolicy_20 : decode cX1_addPolicy 20 = .ok (.aload_n 0, 1) := by decide +kernel
theorem dX1_addPolicy_21 : decode cX1_addPolicy 21 = .ok (.getfield 21, 3) := by decide +kernel
theorem dX1_addPolicy_24 : decode cX1_addPolicy 24 = .ok (.iconst 1, 1) := by decide +kernel
theorem dX1_addPolicy_25 : decode cX1_addPolicy 25 = .ok (.isub, 1) := by decide +kernel
theorem dX1_addPolicy_26 : decode cX1_addPolicy 26 = .ok (.ireturn, 1) := by decide +kernel
theorem dX2_unitsThat_0 : decode cX2_unitsThat 0 = .ok (.iconst 0, 1) := by decide +kernel
theorem dX2_unitsThat_1 : decode cX2_unitsThat 1 = .ok (.istore_n 2, 1) := by decide +kernel
theorem dX2_unitsThat_2 : decode cX2_unitsThat 2 = .ok (.iconst 0, 1) := by decide +kernel
theorem dX2_unitsThat_3 : decode cX2_unitsThat 3 = .ok (.istore_n 3, 1) := by decide +kernel
theorem dX2_unitsThat_4 : decode cX2_unitsThat 4 = .ok (.iload_n 3, 1) := by decide +kernel
theorem dX2_unitsThat_5 : decode cX2_unitsThat 5 = .ok (.aload_n 0, 1) := by decide +kernel
theorem dX2_unitsThat_6 : decode cX2_unitsThat 6 = .ok (.getfield 95, 3) := by decide +kernel
theorem dX2_unitsThat_9 : decode cX2_unitsThat 9 = .ok (.if_icmp .ge 38, 3) := by decide +kernel
theorem dX2_unitsThat_47 : decode cX2_unitsThat 47 = .ok (.iload_n 2, 1) := by decide +kernel
theorem dX2_unitsThat_48 : decode cX2_unitsThat 48 = .ok (.ireturn, 1) := by decide +kernel
theorem dX3_forget_0 : decode cX3_forget 0 = .ok (.aload_n 0, 1) := by decide +kernel
theorem dX3_forget_1 : decode cX3_forget 1 = .ok (.getfield 22, 3) := by decide +kernel
theorem dX3_forget_4 : decode cX3_forget 4 = .ok (.ldc 21, 2) := by decide +kernel
theorem dX3_forget_6 : decode cX3_forget 6 = .ok (.invokestatic 69, 3) := by decide +kernel
theorem dX3_forget_9 : decode cX3_forget 9 = .ok (.aload_n 0, 1) := by decide +kernel
theorem dX3_forget_10 : decode cX3_forget 10 = .ok (.getfield 11, 3) := by decide +kernel
theorem dX3_forget_13 : decode cX3_forget 13 = .ok (.iconst 0, 1) := by decide +kernel
theorem dX3_forget_14 : decode cX3_forget 14 = .ok (.invokestatic 69, 3) := by decide +kernel
theorem dX3_forget_17 : decode cX3_forget 17 = .ok (.aload_n 0, 1) := by decide +kernel
theorem dX3_forget_18 : decode cX3_forget 18 = .ok (.getfield 28, 3) := by decide +kernel
theorem dX3_forget_21 : decode cX3_forget 21 = .ok (.iconst 0, 1) := by decide +kernel
theorem dX3_forget_22 : decode cX3_forget 22 = .ok (.iconst 0, 1) := by decide +kernel
theorem dX3_forget_23 : decode cX3_forget 23 = .ok (.invokevirtual 75, 3) := by decide +kernel
theorem dX3_forget_26 : decode cX3_forget 26 = .ok (.aload_n 0, 1) := by decide +kernel
theorem dX3_forget_27 : decode cX3_forget 27 = .ok (.iconst 0, 1) := by decide +kernel
theorem dX3_forget_28 : decode cX3_forget 28 = .ok (.putfield 79, 3) := by decide +kernel
theorem dX3_forget_31 : decode cX3_forget 31 = .ok (.aload_n 0, 1) := by decide +kernel
theorem dX3_forget_32 : decode cX3_forget 32 = .ok (.iconst 0, 1) := by decide +kernel
theorem dX3_forget_33 : decode cX3_forget 33 = .ok (.putfield 59, 3) := by decide +kernel
theorem dX3_forget_36 : decode cX3_forget 36 = .ok (.aload_n 0, 1) := by decide +kernel
theorem dX3_forget_37 : decode cX3_forget 37 = .ok (.iconst 0, 1) := by decide +kernel
theorem dX3_forget_38 : decode cX3_forget 38 = .ok (.putfield 82, 3) := by decide +kernel
theorem dX3_forget_41 : decode cX3_forget 41 = .ok (.aload_n 0, 1) := by decide +kernel
theorem dX3_forget_42 : decode cX3_forget 42 = .ok (.iconst 0, 1) := by decide +kernel
theorem dX3_forget_43 : decode cX3_forget 43 = .ok (.putfield 85, 3) := by decide +kernel
theorem dX3_forget_46 : decode cX3_forget 46 = .ok (.aload_n 0, 1) := by decide +kernel
theorem dX3_forget_47 : decode cX3_forget 47 = .ok (.iconst 0, 1) := by decide +kernel
theorem dX3_forget_48 : decode cX3_forget 48 = .ok (.putfield 63, 3) := by decide +kernel
theorem dX3_forget_51 : decode cX3_forget 51 = .ok (.aload_n 0, 1) := by decide +kernel
theorem dX3_forget_52 : decode cX3_forget 52 = .ok (.iconst 0, 1) := by decide +kernel
theorem dX3_forget_53 : decode cX3_forget 53 = .ok (.putfield 66, 3) := by decide +kernel
theorem dX3_forget_56 : decode cX3_forget 56 = .ok (.aload_n 0, 1) := by decide +kernel
theorem dX3_forget_57 : decode cX3_forget 57 = .ok (.iconst 0, 1) := by decide +kernel
theorem dX3_forget_58 : decode cX3_forget 58 = .ok (.putfield 51, 3) := by decide +kernel
theorem dX3_forget_61 : decode cX3_forget 61 = .ok (.return_, 1) := by decide +kernel
theorem dX3_note_0 : decode cX3_note 0 = .ok (.aload_n 0, 1) := by decide +kernel
theorem dX3_note_1 : decode cX3_note 1 = .ok (.getfield 22, 3) := by decide +kernel
theorem dX3_note_4 : decode cX3_note 4 = .ok (.iload_n 1, 1) := by decide +kernel
theorem dX3_note_5 : decode cX3_note 5 = .ok (.iaload, 1) := by decide +kernel
theorem dX3_note_6 : decode cX3_note 6 = .ok (.ldc 21, 2) := by decide +kernel
theorem dX3_note_8 : decode cX3_note 8 = .ok (.if_icmp .ne 10, 3) := by decide +kernel
theorem dX3_note_11 : decode cX3_note 11 = .ok (.aload_n 0, 1) := by decide +kernel
theorem dX3_note_12 : decode cX3_note 12 = .ok (.getfield 22, 3) := by decide +kernel
theorem dX3_note_15 : decode cX3_note 15 = .ok (.iload_n 1, 1) := by decide +kernel
theorem dX3_note_16 : decode cX3_note 16 = .ok (.iload_n 2, 1) := by decide +kernel
theorem dX3_note_17 : decode cX3_note 17 = .ok (.iastore, 1) := by decide +kernel
theorem dX3_note_18 : decode cX3_note 18 = .ok (.return_, 1) := by decide +kernel
theorem dX3_placeTold_0 : decode cX3_placeTold 0 = .ok (.iconst 1, 1) := by decide +kernel
theorem dX3_placeTold_1 : decode cX3_placeTold 1 = .ok (.istore_n 1, 1) := by decide +kernel
theorem dX3_placeTold_2 : decode cX3_placeTold 2 = .ok (.iload_n 1, 1) := by decide +kernel
theorem dX3_placeTold_3 : decode cX3_placeTold 3 = .ok (.iconst 3, 1) := by decide +kernel
theorem dX3_placeTold_4 : decode cX3_placeTold 4 = .ok (.if_icmp .gt 27, 3) := by decide +kernel
theorem dX3_placeTold_7 : decode cX3_placeTold 7 = .ok (.aload_n 0, 1) := by decide +kernel
theorem dX3_placeTold_8 : decode cX3_placeTold 8 = .ok (.getfield 22, 3) := by decide +kernel
theorem dX3_placeTold_11 : decode cX3_placeTold 11 = .ok (.iload_n 1, 1) := by decide +kernel
theorem dX3_placeTold_12 : decode cX3_placeTold 12 = .ok (.iaload, 1) := by decide +kernel
theorem dX3_placeTold_13 : decode cX3_placeTold 13 = .ok (.ldc 21, 2) := by decide +kernel
theorem dX3_placeTold_15 : decode cX3_placeTold 15 = .ok (.if_icmp .eq 10, 3) := by decide +kernel
theorem dX3_placeTold_25 : decode cX3_placeTold 25 = .ok (.iinc 1 1, 3) := by decide +kernel
theorem dX3_placeTold_28 : decode cX3_placeTold 28 = .ok (.goto (-26), 3) := by decide +kernel
theorem dX3_placeTold_31 : decode cX3_placeTold 31 = .ok (.ldc 21, 2) := by decide +kernel
theorem dX3_placeTold_33 : decode cX3_placeTold 33 = .ok (.ireturn, 1) := by decide +kernel
theorem dX3_read_0 : decode cX3_read 0 = .ok (.aload_n 0, 1) := by decide +kernel
theorem dX3_read_1 : decode cX3_read 1 = .ok (.aload_n 1, 1) := by decide +kernel
theorem dX3_read_2 : decode cX3_read 2 = .ok (.putfield 41, 3) := by decide +kernel
theorem dX3_read_5 : decode cX3_read 5 = .ok (.aload_n 0, 1) := by decide +kernel
theorem dX3_read_6 : decode cX3_read 6 = .ok (.invokevirtual 44, 3) := by decide +kernel
theorem dX3_read_9 : decode cX3_read 9 = .ok (.aload_n 0, 1) := by decide +kernel
theorem dX3_read_10 : decode cX3_read 10 = .ok (.iload_n 2, 1) := by decide +kernel
theorem dX3_read_11 : decode cX3_read 11 = .ok (.invokevirtual 47, 3) := by decide +kernel
theorem dX3_read_14 : decode cX3_read 14 = .ok (.aload_n 0, 1) := by decide +kernel
theorem dX3_read_15 : decode cX3_read 15 = .ok (.getfield 22, 3) := by decide +kernel
theorem dX3_read_18 : decode cX3_read 18 = .ok (.iconst 1, 1) := by decide +kernel
theorem dX3_read_19 : decode cX3_read 19 = .ok (.iaload, 1) := by decide +kernel
theorem dX3_read_20 : decode cX3_read 20 = .ok (.ldc 21, 2) := by decide +kernel
theorem dX3_read_22 : decode cX3_read 22 = .ok (.if_icmp .eq 5, 3) := by decide +kernel
theorem dX3_read_25 : decode cX3_read 25 = .ok (.iconst 1, 1) := by decide +kernel
theorem dX3_read_26 : decode cX3_read 26 = .ok (.ireturn, 1) := by decide +kernel
theorem dX3_readParts_0 : decode cX3_readParts 0 = .ok (.iconst 2, 1) := by decide +kernel
theorem dX3_readParts_1 : decode cX3_readParts 1 = .ok (.istore_n 2, 1) := by decide +kernel
theorem dX3_readParts_2 : decode cX3_readParts 2 = .ok (.iload_n 1, 1) := by decide +kernel
theorem dX3_readParts_3 : decode cX3_readParts 3 = .ok (.iconst 2, 1) := by decide +kernel
theorem dX3_readParts_4 : decode cX3_readParts 4 = .ok (.if_icmp .lt 11, 3) := by decide +kernel
theorem dX3_readParts_15 : decode cX3_readParts 15 = .ok (.iload_n 2, 1) := by decide +kernel
theorem dX3_readParts_16 : decode cX3_readParts 16 = .ok (.iload_n 1, 1) := by decide +kernel
theorem dX3_readParts_17 : decode cX3_readParts 17 = .ok (.if_icmp .le 10, 3) := by decide +kernel
theorem dX3_readParts_20 : decode cX3_readParts 20 = .ok (.aload_n 0, 1) := by decide +kernel
theorem dX3_readParts_21 : decode cX3_readParts 21 = .ok (.iconst 1, 1) := by decide +kernel
theorem dX3_readParts_22 : decode cX3_readParts 22 = .ok (.iconst 0, 1) := by decide +kernel
theorem dX3_readParts_23 : decode cX3_readParts 23 = .ok (.invokevirtual 92, 3) := by decide +kernel
theorem dX3_readParts_26 : decode cX3_readParts 26 = .ok (.return_, 1) := by decide +kernel
theorem dX3_told_0 : decode cX3_told 0 = .ok (.iload_n 1, 1) := by decide +kernel
theorem dX3_told_1 : decode cX3_told 1 = .ok (.ifCond .ne 8, 3) := by decide +kernel
theorem dX3_told_4 : decode cX3_told 4 = .ok (.aload_n 0, 1) := by decide +kernel
theorem dX3_told_5 : decode cX3_told 5 = .ok (.invokevirtual 153, 3) := by decide +kernel
theorem dX3_told_8 : decode cX3_told 8 = .ok (.ireturn, 1) := by decide +kernel
theorem dX3_told_9 : decode cX3_told 9 = .ok (.aload_n 0, 1) := by decide +kernel
theorem dX3_told_10 : decode cX3_told 10 = .ok (.getfield 51, 3) := by decide +kernel
theorem dX3_told_13 : decode cX3_told 13 = .ok (.ifCond .eq 7, 3) := by decide +kernel
theorem dX3_told_20 : decode cX3_told 20 = .ok (.ldc 21, 2) := by decide +kernel
theorem dX3_told_22 : decode cX3_told 22 = .ok (.ireturn, 1) := by decide +kernel
theorem dX4_actOf_0 : decode cX4_actOf 0 = .ok (.iconst 0, 1) := by decide +kernel
theorem dX4_actOf_1 : decode cX4_actOf 1 = .ok (.istore_n 2, 1) := by decide +kernel
theorem dX4_actOf_2 : decode cX4_actOf 2 = .ok (.iload_n 2, 1) := by decide +kernel
theorem dX4_actOf_3 : decode cX4_actOf 3 = .ok (.aload_n 0, 1) := by decide +kernel
theorem dX4_actOf_4 : decode cX4_actOf 4 = .ok (.getfield 11, 3) := by decide +kernel
theorem dX4_actOf_7 : decode cX4_actOf 7 = .ok (.iload_n 1, 1) := by decide +kernel
theorem dX4_actOf_8 : decode cX4_actOf 8 = .ok (.iaload, 1) := by decide +kernel
theorem dX4_actOf_9 : decode cX4_actOf 9 = .ok (.if_icmp .ge 46, 3) := by decide +kernel
theorem dX4_actOf_55 : decode cX4_actOf 55 = .ok (.aload_n 0, 1) := by decide +kernel
theorem dX4_actOf_56 : decode cX4_actOf 56 = .ok (.getfield 11, 3) := by decide +kernel
theorem dX4_actOf_59 : decode cX4_actOf 59 = .ok (.iload_n 1, 1) := by decide +kernel
theorem dX4_actOf_60 : decode cX4_actOf 60 = .ok (.iaload, 1) := by decide +kernel
theorem dX4_actOf_61 : decode cX4_actOf 61 = .ok (.ireturn, 1) := by decide +kernel
theorem dX4_addNeighbours_0 : decode cX4_addNeighbours 0 = .ok (.iload_n 2, 1) := by decide +kernel
theorem dX4_addNeighbours_1 : decode cX4_addNeighbours 1 = .ok (.istore_n 3, 1) := by decide +kernel
theorem dX4_addNeighbours_2 : decode cX4_addNeighbours 2 = .ok (.iconst 1, 1) := by decide +kernel
theorem dX4_addNeighbours_3 : decode cX4_addNeighbours 3 = .ok (.istore 4, 2) := by decide +kernel
theorem dX4_addNeighbours_5 : decode cX4_addNeighbours 5 = .ok (.iload 4, 2) := by decide +kernel
theorem dX4_addNeighbours_7 : decode cX4_addNeighbours 7 = .ok (.bipush 7, 2) := by decide +kernel
theorem dX4_addNeighbours_9 : decode cX4_addNeighbours 9 = .ok (.if_icmp .ge 64, 3) := by decide +kernel
theorem dX4_addNeighbours_12 : decode cX4_addNeighbours 12 = .ok (.iload_n 1, 1) := by decide +kernel
theorem dX4_addNeighbours_13 : decode cX4_addNeighbours 13 = .ok (.aload_n 0, 1) := by decide +kernel
theorem dX4_addNeighbours_14 : decode cX4_addNeighbours 14 = .ok (.iload 4, 2) := by decide +kernel
theorem dX4_addNeighbours_16 : decode cX4_addNeighbours 16 = .ok (.invokevirtual 71, 3) := by decide +kernel
theorem dX4_addNeighbours_19 : decode cX4_addNeighbours 19 = .ok (.aload_n 0, 1) := by decide +kernel
theorem dX4_addNeighbours_20 : decode cX4_addNeighbours 20 = .ok (.getfield 30, 3) := by decide +kernel
theorem dX4_addNeighbours_23 : decode cX4_addNeighbours 23 = .ok (.iload 4, 2) := by decide +kernel
theorem dX4_addNeighbours_25 : decode cX4_addNeighbours 25 = .ok (.iaload, 1) := by decide +kernel
theorem dX4_addNeighbours_26 : decode cX4_addNeighbours 26 = .ok (.isub, 1) := by decide +kernel
theorem dX4_addNeighbours_27 : decode cX4_addNeighbours 27 = .ok (.aload_n 0, 1) := by decide +kernel
theorem dX4_addNeighbours_28 : decode cX4_addNeighbours 28 = .ok (.getfield 27, 3) := by decide +kernel
theorem dX4_addNeighbours_31 : decode cX4_addNeighbours 31 = .ok (.iload 4, 2) := by decide +kernel
theorem dX4_addNeighbours_33 : decode cX4_addNeighbours 33 = .ok (.iaload, 1) := by decide +kernel
theorem dX4_addNeighbours_34 : decode cX4_addNeighbours 34 = .ok (.imul, 1) := by decide +kernel
theorem dX4_addNeighbours_35 : decode cX4_addNeighbours 35 = .ok (.iadd, 1) := by decide +kernel
theorem dX4_addNeighbours_36 : decode cX4_addNeighbours 36 = .ok (.istore 5, 2) := by decide +kernel
theorem dX4_addNeighbours_38 : decode cX4_addNeighbours 38 = .ok (.aload_n 0, 1) := by decide +kernel
theorem dX4_addNeighbours_39 : decode cX4_addNeighbours 39 = .ok (.getfield 39, 3) := by decide +kernel
theorem dX4_addNeighbours_42 : decode cX4_addNeighbours 42 = .ok (.iload 5, 2) := by decide +kernel
theorem dX4_addNeighbours_44 : decode cX4_addNeighbours 44 = .ok (.baload, 1) := by decide +kernel
theorem dX4_addNeighbours_45 : decode cX4_addNeighbours 45 = .ok (.ifCond .ne 22, 3) := by decide +kernel
theorem dX4_addNeighbours_67 : decode cX4_addNeighbours 67 = .ok (.iinc 4 1, 3) := by decide +kernel
theorem dX4_addNeighbours_70 : decode cX4_addNeighbours 70 = .ok (.goto (-65), 3) := by decide +kernel
theorem dX4_addNeighbours_73 : decode cX4_addNeighbours 73 = .ok (.iload_n 3, 1) := by decide +kernel
theorem dX4_addNeighbours_74 : decode cX4_addNeighbours 74 = .ok (.ireturn, 1) := by decide +kernel
theorem dX4_addSources_0 : decode cX4_addSources 0 = .ok (.iload_n 2, 1) := by decide +kernel
theorem dX4_addSources_1 : decode cX4_addSources 1 = .ok (.istore_n 3, 1) := by decide +kernel
theorem dX4_addSources_2 : decode cX4_addSources 2 = .ok (.iconst 1, 1) := by decide +kernel
theorem dX4_addSources_3 : decode cX4_addSources 3 = .ok (.istore 4, 2) := by decide +kernel
theorem dX4_addSources_5 : decode cX4_addSources 5 = .ok (.iload 4, 2) := by decide +kernel
theorem dX4_addSources_7 : decode cX4_addSources 7 = .ok (.bipush 7, 2) := by decide +kernel
theorem dX4_addSources_9 : decode cX4_addSources 9 = .ok (.if_icmp .ge 105, 3) := by decide +kernel
theorem dX4_addSources_12 : decode cX4_addSources 12 = .ok (.aload_n 0, 1) := by decide +kernel
theorem dX4_addSources_13 : decode cX4_addSources 13 = .ok (.iload 4, 2) := by decide +kernel
theorem dX4_addSources_15 : decode cX4_addSources 15 = .ok (.invokevirtual 71, 3) := by decide +kernel
theorem dX4_addSources_18 : decode cX4_addSources 18 = .ok (.aload_n 0, 1) := by decide +kernel
theorem dX4_addSources_19 : decode cX4_addSources 19 = .ok (.getfield 30, 3) := by decide +kernel
theorem dX4_addSources_22 : decode cX4_addSources 22 = .ok (.iload 4, 2) := by decide +kernel
theorem dX4_addSources_24 : decode cX4_addSources 24 = .ok (.iaload, 1) := by decide +kernel
theorem dX4_addSources_25 : decode cX4_addSources 25 = .ok (.if_icmp .eq 6, 3) := by decide +kernel
theorem dX4_addSources_31 : decode cX4_addSources 31 = .ok (.iconst 0, 1) := by decide +kernel
theorem dX4_addSources_32 : decode cX4_addSources 32 = .ok (.istore 5, 2) := by decide +kernel
theorem dX4_addSources_34 : decode cX4_addSources 34 = .ok (.iload 5, 2) := by decide +kernel
theorem dX4_addSources_36 : decode cX4_addSources 36 = .ok (.aload_n 0, 1) := by decide +kernel
theorem dX4_addSources_37 : decode cX4_addSources 37 = .ok (.getfield 11, 3) := by decide +kernel
theorem dX4_addSources_40 : decode cX4_addSources 40 = .ok (.iload 4, 2) := by decide +kernel
theorem dX4_addSources_42 : decode cX4_addSources 42 = .ok (.iaload, 1) := by decide +kernel
theorem dX4_addSources_43 : decode cX4_addSources 43 = .ok (.if_icmp .gt 65, 3) := by decide +kernel
theorem dX4_addSources_46 : decode cX4_addSources 46 = .ok (.iload_n 1, 1) := by decide +kernel
theorem dX4_addSources_47 : decode cX4_addSources 47 = .ok (.iload 5, 2) := by decide +kernel
theorem dX4_addSources_49 : decode cX4_addSources 49 = .ok (.aload_n 0, 1) := by decide +kernel
theorem dX4_addSources_50 : decode cX4_addSources 50 = .ok (.getfield 30, 3) := by decide +kernel
theorem dX4_addSources_53 : decode cX4_addSources 53 = .ok (.iload 4, 2) := by decide +kernel
theorem dX4_addSources_55 : decode cX4_addSources 55 = .ok (.iaload, 1) := by decide +kernel
theorem dX4_addSources_56 : decode cX4_addSources 56 = .ok (.isub, 1) := by decide +kernel
theorem dX4_addSources_57 : decode cX4_addSources 57 = .ok (.aload_n 0, 1) := by decide +kernel
theorem dX4_addSources_58 : decode cX4_addSources 58 = .ok (.getfield 27, 3) := by decide +kernel
theorem dX4_addSources_61 : decode cX4_addSources 61 = .ok (.iload 4, 2) := by decide +kernel
theorem dX4_addSources_63 : decode cX4_addSources 63 = .ok (.iaload, 1) := by decide +kernel
theorem dX4_addSources_64 : decode cX4_addSources 64 = .ok (.imul, 1) := by decide +kernel
theorem dX4_addSources_65 : decode cX4_addSources 65 = .ok (.iadd, 1) := by decide +kernel
theorem dX4_addSources_66 : decode cX4_addSources 66 = .ok (.istore 6, 2) := by decide +kernel
theorem dX4_addSources_68 : decode cX4_addSources 68 = .ok (.aload_n 0, 1) := by decide +kernel
theorem dX4_addSources_69 : decode cX4_addSources 69 = .ok (.getfield 39, 3) := by decide +kernel
theorem dX4_addSources_72 : decode cX4_addSources 72 = .ok (.iload 6, 2) := by decide +kernel
theorem dX4_addSources_74 : decode cX4_addSources 74 = .ok (.baload, 1) := by decide +kernel
theorem dX4_addSources_75 : decode cX4_addSources 75 = .ok (.iconst 1, 1) := by decide +kernel
theorem dX4_addSources_76 : decode cX4_addSources 76 = .ok (.if_icmp .ne 26, 3) := by decide +kernel
theorem dX4_addSources_102 : decode cX4_addSources 102 = .ok (.iinc 5 1, 3) := by decide +kernel
theorem dX4_addSources_105 : decode cX4_addSources 105 = .ok (.goto (-71), 3) := by decide +kernel
theorem dX4_addSources_108 : decode cX4_addSources 108 = .ok (.iinc 4 1, 3) := by decide +kernel
theorem dX4_addSources_111 : decode cX4_addSources 111 = .ok (.goto (-106), 3) := by decide +kernel
theorem dX4_addSources_114 : decode cX4_addSources 114 = .ok (.iload_n 3, 1) := by decide +kernel
theorem dX4_addSources_115 : decode cX4_addSources 115 = .ok (.ireturn, 1) := by decide +kernel
theorem dX4_countUp_0 : decode cX4_countUp 0 = .ok (.bipush 6, 2) := by decide +kernel
theorem dX4_countUp_2 : decode cX4_countUp 2 = .ok (.istore_n 1, 1) := by decide +kernel
theorem dX4_countUp_3 : decode cX4_countUp 3 = .ok (.iload_n 1, 1) := by decide +kernel
theorem dX4_countUp_4 : decode cX4_countUp 4 = .ok (.iconst 1, 1) := by decide +kernel
theorem dX4_countUp_5 : decode cX4_countUp 5 = .ok (.if_icmp .le 31, 3) := by decide +kernel
theorem dX4_countUp_8 : decode cX4_countUp 8 = .ok (.aload_n 0, 1) := by decide +kernel
theorem dX4_countUp_9 : decode cX4_countUp 9 = .ok (.getfield 30, 3) := by decide +kernel
theorem dX4_countUp_12 : decode cX4_countUp 12 = .ok (.iload_n 1, 1) := by decide +kernel
theorem dX4_countUp_13 : decode cX4_countUp 13 = .ok (.iaload, 1) := by decide +kernel
theorem dX4_countUp_14 : decode cX4_countUp 14 = .ok (.aload_n 0, 1) := by decide +kernel
theorem dX4_countUp_15 : decode cX4_countUp 15 = .ok (.getfield 11, 3) := by decide +kernel
theorem dX4_countUp_18 : decode cX4_countUp 18 = .ok (.iload_n 1, 1) := by decide +kernel
theorem dX4_countUp_19 : decode cX4_countUp 19 = .ok (.iaload, 1) := by decide +kernel
theorem dX4_countUp_20 : decode cX4_countUp 20 = .ok (.if_icmp .ne 16, 3) := by decide +kernel
theorem dX4_countUp_23 : decode cX4_countUp 23 = .ok (.aload_n 0, 1) := by decide +kernel
theorem dX4_countUp_24 : decode cX4_countUp 24 = .ok (.getfield 30, 3) := by decide +kernel
theorem dX4_countUp_27 : decode cX4_countUp 27 = .ok (.iload_n 1, 1) := by decide +kernel
theorem dX4_countUp_28 : decode cX4_countUp 28 = .ok (.iconst 0, 1) := by decide +kernel
theorem dX4_countUp_29 : decode cX4_countUp 29 = .ok (.iastore, 1) := by decide +kernel
theorem dX4_countUp_30 : decode cX4_countUp 30 = .ok (.iinc 1 (-1), 3) := by decide +kernel
theorem dX4_countUp_33 : decode cX4_countUp 33 = .ok (.goto (-30), 3) := by decide +kernel
theorem dX4_countUp_36 : decode cX4_countUp 36 = .ok (.aload_n 0, 1) := by decide +kernel
theorem dX4_countUp_37 : decode cX4_countUp 37 = .ok (.getfield 30, 3) := by decide +kernel
theorem dX4_countUp_40 : decode cX4_countUp 40 = .ok (.iload_n 1, 1) := by decide +kernel
theorem dX4_countUp_41 : decode cX4_countUp 41 = .ok (.dup2, 1) := by decide +kernel
theorem dX4_countUp_42 : decode cX4_countUp 42 = .ok (.iaload, 1) := by decide +kernel
theorem dX4_countUp_43 : decode cX4_countUp 43 = .ok (.iconst 1, 1) := by decide +kernel
theorem dX4_countUp_44 : decode cX4_countUp 44 = .ok (.iadd, 1) := by decide +kernel
theorem dX4_countUp_45 : decode cX4_countUp 45 = .ok (.iastore, 1) := by decide +kernel
theorem dX4_countUp_46 : decode cX4_countUp 46 = .ok (.return_, 1) := by decide +kernel
theorem dX4_explore_0 : decode cX4_explore 0 = .ok (.aload_n 0, 1) := by decide +kernel
theorem dX4_explore_1 : decode cX4_explore 1 = .ok (.getfield 56, 3) := by decide +kernel
theorem dX4_explore_4 : decode cX4_explore 4 = .ok (.ifCond .eq 4, 3) := by decide +kernel
theorem dX4_explore_8 : decode cX4_explore 8 = .ok (.aload_n 0, 1) := by decide +kernel
theorem dX4_explore_9 : decode cX4_explore 9 = .ok (.invokevirtual 79, 3) := by decide +kernel
theorem dX4_explore_12 : decode cX4_explore 12 = .ok (.aload_n 0, 1) := by decide +kernel
theorem dX4_explore_13 : decode cX4_explore 13 = .ok (.invokevirtual 104, 3) := by decide +kernel
theorem dX4_explore_16 : decode cX4_explore 16 = .ok (.aload_n 0, 1) := by decide +kernel
theorem dX4_explore_17 : decode cX4_explore 17 = .ok (.invokevirtual 107, 3) := by decide +kernel
theorem dX4_explore_20 : decode cX4_explore 20 = .ok (.istore_n 1, 1) := by decide +kernel
theorem dX4_explore_21 : decode cX4_explore 21 = .ok (.aload_n 0, 1) := by decide +kernel
theorem dX4_explore_22 : decode cX4_explore 22 = .ok (.invokevirtual 111, 3) := by decide +kernel
theorem dX4_explore_25 : decode cX4_explore 25 = .ok (.istore_n 2, 1) := by decide +kernel
theorem dX4_explore_26 : decode cX4_explore 26 = .ok (.aload_n 0, 1) := by decide +kernel
theorem dX4_explore_27 : decode cX4_explore 27 = .ok (.getfield 43, 3) := by decide +kernel
theorem dX4_explore_30 : decode cX4_explore 30 = .ok (.iconst 0, 1) := by decide +kernel
theorem dX4_explore_31 : decode cX4_explore 31 = .ok (.iload_n 1, 1) := by decide +kernel
theorem dX4_explore_32 : decode cX4_explore 32 = .ok (.iastore, 1) := by decide +kernel
theorem dX4_explore_33 : decode cX4_explore 33 = .ok (.aload_n 0, 1) := by decide +kernel
theorem dX4_explore_34 : decode cX4_explore 34 = .ok (.getfield 43, 3) := by decide +kernel
theorem dX4_explore_37 : decode cX4_explore 37 = .ok (.iconst 2, 1) := by decide +kernel
theorem dX4_explore_38 : decode cX4_explore 38 = .ok (.iload_n 1, 1) := by decide +kernel
theorem dX4_explore_39 : decode cX4_explore 39 = .ok (.iload_n 2, 1) := by decide +kernel
theorem dX4_explore_40 : decode cX4_explore 40 = .ok (.isub, 1) := by decide +kernel
theorem dX4_explore_41 : decode cX4_explore 41 = .ok (.iastore, 1) := by decide +kernel
theorem dX4_explore_42 : decode cX4_explore 42 = .ok (.aload_n 0, 1) := by decide +kernel
theorem dX4_explore_43 : decode cX4_explore 43 = .ok (.iconst 1, 1) := by decide +kernel
theorem dX4_explore_44 : decode cX4_explore 44 = .ok (.putfield 56, 3) := by decide +kernel
theorem dX4_explore_47 : decode cX4_explore 47 = .ok (.return_, 1) := by decide +kernel
theorem dX4_figure_0 : decode cX4_figure 0 = .ok (.aload_n 0, 1) := by decide +kernel
theorem dX4_figure_1 : decode cX4_figure 1 = .ok (.getfield 27, 3) := by decide +kernel
theorem dX4_figure_4 : decode cX4_figure 4 = .ok (.iload_n 2, 1) := by decide +kernel
theorem dX4_figure_5 : decode cX4_figure 5 = .ok (.iaload, 1) := by decide +kernel
theorem dX4_figure_6 : decode cX4_figure 6 = .ok (.istore_n 3, 1) := by decide +kernel
theorem dX4_figure_7 : decode cX4_figure 7 = .ok (.iload_n 3, 1) := by decide +kernel
theorem dX4_figure_8 : decode cX4_figure 8 = .ok (.ifCond .le 18, 3) := by decide +kernel
theorem dX4_figure_11 : decode cX4_figure 11 = .ok (.iload_n 1, 1) := by decide +kernel
theorem dX4_figure_12 : decode cX4_figure 12 = .ok (.iload_n 3, 1) := by decide +kernel
theorem dX4_figure_13 : decode cX4_figure 13 = .ok (.idiv, 1) := by decide +kernel
theorem dX4_figure_14 : decode cX4_figure 14 = .ok (.aload_n 0, 1) := by decide +kernel
theorem dX4_figure_15 : decode cX4_figure 15 = .ok (.getfield 11, 3) := by decide +kernel
theorem dX4_figure_18 : decode cX4_figure 18 = .ok (.iload_n 2, 1) := by decide +kernel
theorem dX4_figure_19 : decode cX4_figure 19 = .ok (.iaload, 1) := by decide +kernel
theorem dX4_figure_20 : decode cX4_figure 20 = .ok (.iconst 1, 1) := by decide +kernel
theorem dX4_figure_21 : decode cX4_figure 21 = .ok (.iadd, 1) := by decide +kernel
theorem dX4_figure_22 : decode cX4_figure 22 = .ok (.irem, 1) := by decide +kernel
theorem dX4_figure_23 : decode cX4_figure 23 = .ok (.goto 4, 3) := by decide +kernel
theorem dX4_figure_27 : decode cX4_figure 27 = .ok (.ireturn, 1) := by decide +kernel
theorem dX4_findRests_0 : decode cX4_findRests 0 = .ok (.aload_n 0, 1) := by decide +kernel
theorem dX4_findRests_1 : decode cX4_findRests 1 = .ok (.getfield 52, 3) := by decide +kernel
theorem dX4_findRests_4 : decode cX4_findRests 4 = .ok (.ifCond .eq 4, 3) := by decide +kernel
theorem dX4_findRests_8 : decode cX4_findRests 8 = .ok (.aload_n 0, 1) := by decide +kernel
theorem dX4_findRests_9 : decode cX4_findRests 9 = .ok (.invokevirtual 79, 3) := by decide +kernel
theorem dX4_findRests_12 : decode cX4_findRests 12 = .ok (.aload_n 0, 1) := by decide +kernel
theorem dX4_findRests_13 : decode cX4_findRests 13 = .ok (.iconst 0, 1) := by decide +kernel
theorem dX4_findRests_14 : decode cX4_findRests 14 = .ok (.putfield 82, 3) := by decide +kernel
theorem dX4_findRests_17 : decode cX4_findRests 17 = .ok (.aload_n 0, 1) := by decide +kernel
theorem dX4_findRests_18 : decode cX4_findRests 18 = .ok (.iconst 0, 1) := by decide +kernel
theorem dX4_findRests_19 : decode cX4_findRests 19 = .ok (.invokevirtual 85, 3) := by decide +kernel
theorem dX4_findRests_22 : decode cX4_findRests 22 = .ok (.iconst 0, 1) := by decide +kernel
theorem dX4_findRests_23 : decode cX4_findRests 23 = .ok (.istore_n 1, 1) := by decide +kernel
theorem dX4_findRests_24 : decode cX4_findRests 24 = .ok (.iload_n 1, 1) := by decide +kernel
theorem dX4_findRests_25 : decode cX4_findRests 25 = .ok (.aload_n 0, 1) := by decide +kernel
theorem dX4_findRests_26 : decode cX4_findRests 26 = .ok (.getfield 59, 3) := by decide +kernel
theorem dX4_findRests_29 : decode cX4_findRests 29 = .ok (.if_icmp .ge 25, 3) := by decide +kernel
theorem dX4_findRests_32 : decode cX4_findRests 32 = .ok (.aload_n 0, 1) := by decide +kernel
theorem dX4_findRests_33 : decode cX4_findRests 33 = .ok (.invokevirtual 88, 3) := by decide +kernel
theorem dX4_findRests_36 : decode cX4_findRests 36 = .ok (.ifCond .eq 8, 3) := by decide +kernel
theorem dX4_findRests_39 : decode cX4_findRests 39 = .ok (.aload_n 0, 1) := by decide +kernel
theorem dX4_findRests_40 : decode cX4_findRests 40 = .ok (.iload_n 1, 1) := by decide +kernel
theorem dX4_findRests_41 : decode cX4_findRests 41 = .ok (.invokevirtual 92, 3) := by decide +kernel
theorem dX4_findRests_44 : decode cX4_findRests 44 = .ok (.aload_n 0, 1) := by decide +kernel
theorem dX4_findRests_45 : decode cX4_findRests 45 = .ok (.invokevirtual 95, 3) := by decide +kernel
theorem dX4_findRests_48 : decode cX4_findRests 48 = .ok (.iinc 1 1, 3) := by decide +kernel
theorem dX4_findRests_51 : decode cX4_findRests 51 = .ok (.goto (-27), 3) := by decide +kernel
theorem dX4_findRests_54 : decode cX4_findRests 54 = .ok (.aload_n 0, 1) := by decide +kernel
theorem dX4_findRests_55 : decode cX4_findRests 55 = .ok (.iconst 1, 1) := by decide +kernel
theorem dX4_findRests_56 : decode cX4_findRests 56 = .ok (.putfield 52, 3) := by decide +kernel
theorem dX4_findRests_59 : decode cX4_findRests 59 = .ok (.return_, 1) := by decide +kernel
theorem dX4_forget_0 : decode cX4_forget 0 = .ok (.iconst 0, 1) := by decide +kernel
theorem dX4_forget_1 : decode cX4_forget 1 = .ok (.istore_n 1, 1) := by decide +kernel
theorem dX4_forget_2 : decode cX4_forget 2 = .ok (.iconst 1, 1) := by decide +kernel
theorem dX4_forget_3 : decode cX4_forget 3 = .ok (.istore_n 2, 1) := by decide +kernel
theorem dX4_forget_4 : decode cX4_forget 4 = .ok (.iload_n 2, 1) := by decide +kernel
theorem dX4_forget_5 : decode cX4_forget 5 = .ok (.bipush 7, 2) := by decide +kernel
theorem dX4_forget_7 : decode cX4_forget 7 = .ok (.if_icmp .ge 25, 3) := by decide +kernel
theorem dX4_forget_10 : decode cX4_forget 10 = .ok (.iload_n 1, 1) := by decide +kernel
theorem dX4_forget_11 : decode cX4_forget 11 = .ok (.aload_n 0, 1) := by decide +kernel
theorem dX4_forget_12 : decode cX4_forget 12 = .ok (.getfield 11, 3) := by decide +kernel
theorem dX4_forget_15 : decode cX4_forget 15 = .ok (.iload_n 2, 1) := by decide +kernel
theorem dX4_forget_16 : decode cX4_forget 16 = .ok (.iaload, 1) := by decide +kernel
theorem dX4_forget_17 : decode cX4_forget 17 = .ok (.iadd, 1) := by decide +kernel
theorem dX4_forget_18 : decode cX4_forget 18 = .ok (.istore_n 1, 1) := by decide +kernel
theorem dX4_forget_19 : decode cX4_forget 19 = .ok (.aload_n 0, 1) := by decide +kernel
theorem dX4_forget_20 : decode cX4_forget 20 = .ok (.getfield 11, 3) := by decide +kernel
theorem dX4_forget_23 : decode cX4_forget 23 = .ok (.iload_n 2, 1) := by decide +kernel
theorem dX4_forget_24 : decode cX4_forget 24 = .ok (.iconst 0, 1) := by decide +kernel
theorem dX4_forget_25 : decode cX4_forget 25 = .ok (.iastore, 1) := by decide +kernel
theorem dX4_forget_26 : decode cX4_forget 26 = .ok (.iinc 2 1, 3) := by decide +kernel
theorem dX4_forget_29 : decode cX4_forget 29 = .ok (.goto (-25), 3) := by decide +kernel
theorem dX4_forget_32 : decode cX4_forget 32 = .ok (.aload_n 0, 1) := by decide +kernel
theorem dX4_forget_33 : decode cX4_forget 33 = .ok (.iconst 0, 1) := by decide +kernel
theorem dX4_forget_34 : decode cX4_forget 34 = .ok (.putfield 52, 3) := by decide +kernel
theorem dX4_forget_37 : decode cX4_forget 37 = .ok (.aload_n 0, 1) := by decide +kernel
theorem dX4_forget_38 : decode cX4_forget 38 = .ok (.iconst 0, 1) := by decide +kernel
theorem dX4_forget_39 : decode cX4_forget 39 = .ok (.putfield 56, 3) := by decide +kernel
theorem dX4_forget_42 : decode cX4_forget 42 = .ok (.iload_n 1, 1) := by decide +kernel
theorem dX4_forget_43 : decode cX4_forget 43 = .ok (.ireturn, 1) := by decide +kernel
theorem dX4_isRest_0 : decode cX4_isRest 0 = .ok (.iconst 1, 1) := by decide +kernel
theorem dX4_isRest_1 : decode cX4_isRest 1 = .ok (.istore_n 1, 1) := by decide +kernel
theorem dX4_isRest_2 : decode cX4_isRest 2 = .ok (.iload_n 1, 1) := by decide +kernel
theorem dX4_isRest_3 : decode cX4_isRest 3 = .ok (.bipush 7, 2) := by decide +kernel
theorem dX4_isRest_5 : decode cX4_isRest 5 = .ok (.if_icmp .ge 25, 3) := by decide +kernel
theorem dX4_isRest_8 : decode cX4_isRest 8 = .ok (.aload_n 0, 1) := by decide +kernel
theorem dX4_isRest_9 : decode cX4_isRest 9 = .ok (.getfield 30, 3) := by decide +kernel
theorem dX4_isRest_12 : decode cX4_isRest 12 = .ok (.iload_n 1, 1) := by decide +kernel
theorem dX4_isRest_13 : decode cX4_isRest 13 = .ok (.iaload, 1) := by decide +kernel
theorem dX4_isRest_14 : decode cX4_isRest 14 = .ok (.aload_n 0, 1) := by decide +kernel
theorem dX4_isRest_15 : decode cX4_isRest 15 = .ok (.iload_n 1, 1) := by decide +kernel
theorem dX4_isRest_16 : decode cX4_isRest 16 = .ok (.invokevirtual 71, 3) := by decide +kernel
theorem dX4_isRest_19 : decode cX4_isRest 19 = .ok (.if_icmp .eq 5, 3) := by decide +kernel
theorem dX4_isRest_24 : decode cX4_isRest 24 = .ok (.iinc 1 1, 3) := by decide +kernel
theorem dX4_isRest_27 : decode cX4_isRest 27 = .ok (.goto (-25), 3) := by decide +kernel
theorem dX4_isRest_30 : decode cX4_isRest 30 = .ok (.iconst 1, 1) := by decide +kernel
theorem dX4_isRest_31 : decode cX4_isRest 31 = .ok (.ireturn, 1) := by decide +kernel
theorem dX4_isWish_0 : decode cX4_isWish 0 = .ok (.iload_n 1, 1) := by decide +kernel
theorem dX4_isWish_1 : decode cX4_isWish 1 = .ok (.iconst 2, 1) := by decide +kernel
theorem dX4_isWish_2 : decode cX4_isWish 2 = .ok (.if_icmp .lt 17, 3) := by decide +kernel
theorem dX4_isWish_19 : decode cX4_isWish 19 = .ok (.iconst 0, 1) := by decide +kernel
theorem dX4_isWish_20 : decode cX4_isWish 20 = .ok (.ireturn, 1) := by decide +kernel
theorem dX4_keepRest_0 : decode cX4_keepRest 0 = .ok (.aload_n 0, 1) := by decide +kernel
theorem dX4_keepRest_1 : decode cX4_keepRest 1 = .ok (.getfield 82, 3) := by decide +kernel
theorem dX4_keepRest_4 : decode cX4_keepRest 4 = .ok (.aload_n 0, 1) := by decide +kernel
theorem dX4_keepRest_5 : decode cX4_keepRest 5 = .ok (.getfield 36, 3) := by decide +kernel
theorem dX4_keepRest_8 : decode cX4_keepRest 8 = .ok (.arraylength, 1) := by decide +kernel
theorem dX4_keepRest_9 : decode cX4_keepRest 9 = .ok (.if_icmp .lt 20, 3) := by decide +kernel
theorem dX4_keepRest_29 : decode cX4_keepRest 29 = .ok (.aload_n 0, 1) := by decide +kernel
theorem dX4_keepRest_30 : decode cX4_keepRest 30 = .ok (.getfield 36, 3) := by decide +kernel
theorem dX4_keepRest_33 : decode cX4_keepRest 33 = .ok (.aload_n 0, 1) := by decide +kernel
theorem dX4_keepRest_34 : decode cX4_keepRest 34 = .ok (.getfield 82, 3) := by decide +kernel
theorem dX4_keepRest_37 : decode cX4_keepRest 37 = .ok (.iload_n 1, 1) := by decide +kernel
theorem dX4_keepRest_38 : decode cX4_keepRest 38 = .ok (.iastore, 1) := by decide +kernel
theorem dX4_keepRest_39 : decode cX4_keepRest 39 = .ok (.aload_n 0, 1) := by decide +kernel
theorem dX4_keepRest_40 : decode cX4_keepRest 40 = .ok (.dup, 1) := by decide +kernel
theorem dX4_keepRest_41 : decode cX4_keepRest 41 = .ok (.getfield 82, 3) := by decide +kernel
theorem dX4_keepRest_44 : decode cX4_keepRest 44 = .ok (.iconst 1, 1) := by decide +kernel
theorem dX4_keepRest_45 : decode cX4_keepRest 45 = .ok (.iadd, 1) := by decide +kernel
theorem dX4_keepRest_46 : decode cX4_keepRest 46 = .ok (.putfield 82, 3) := by decide +kernel
theorem dX4_keepRest_49 : decode cX4_keepRest 49 = .ok (.return_, 1) := by decide +kernel
theorem dX4_leadBack_0 : decode cX4_leadBack 0 = .ok (.iconst 0, 1) := by decide +kernel
theorem dX4_leadBack_1 : decode cX4_leadBack 1 = .ok (.istore_n 1, 1) := by decide +kernel
theorem dX4_leadBack_2 : decode cX4_leadBack 2 = .ok (.iconst 0, 1) := by decide +kernel
theorem dX4_leadBack_3 : decode cX4_leadBack 3 = .ok (.istore_n 2, 1) := by decide +kernel
theorem dX4_leadBack_4 : decode cX4_leadBack 4 = .ok (.iload_n 2, 1) := by decide +kernel
theorem dX4_leadBack_5 : decode cX4_leadBack 5 = .ok (.aload_n 0, 1) := by decide +kernel
theorem dX4_leadBack_6 : decode cX4_leadBack 6 = .ok (.getfield 59, 3) := by decide +kernel
theorem dX4_leadBack_9 : decode cX4_leadBack 9 = .ok (.if_icmp .ge 30, 3) := by decide +kernel
theorem dX4_leadBack_12 : decode cX4_leadBack 12 = .ok (.aload_n 0, 1) := by decide +kernel
theorem dX4_leadBack_13 : decode cX4_leadBack 13 = .ok (.getfield 39, 3) := by decide +kernel
theorem dX4_leadBack_16 : decode cX4_leadBack 16 = .ok (.iload_n 2, 1) := by decide +kernel
theorem dX4_leadBack_17 : decode cX4_leadBack 17 = .ok (.baload, 1) := by decide +kernel
theorem dX4_leadBack_18 : decode cX4_leadBack 18 = .ok (.iconst 2, 1) := by decide +kernel
theorem dX4_leadBack_19 : decode cX4_leadBack 19 = .ok (.iand, 1) := by decide +kernel
theorem dX4_leadBack_20 : decode cX4_leadBack 20 = .ok (.ifCond .eq 13, 3) := by decide +kernel
theorem dX4_leadBack_23 : decode cX4_leadBack 23 = .ok (.aload_n 0, 1) := by decide +kernel
theorem dX4_leadBack_24 : decode cX4_leadBack 24 = .ok (.getfield 33, 3) := by decide +kernel
theorem dX4_leadBack_27 : decode cX4_leadBack 27 = .ok (.iload_n 1, 1) := by decide +kernel
theorem dX4_leadBack_28 : decode cX4_leadBack 28 = .ok (.iload_n 2, 1) := by decide +kernel
theorem dX4_leadBack_29 : decode cX4_leadBack 29 = .ok (.iastore, 1) := by decide +kernel
theorem dX4_leadBack_30 : decode cX4_leadBack 30 = .ok (.iinc 1 1, 3) := by decide +kernel
theorem dX4_leadBack_33 : decode cX4_leadBack 33 = .ok (.iinc 2 1, 3) := by decide +kernel
theorem dX4_leadBack_36 : decode cX4_leadBack 36 = .ok (.goto (-32), 3) := by decide +kernel
theorem dX4_leadBack_39 : decode cX4_leadBack 39 = .ok (.iconst 0, 1) := by decide +kernel
theorem dX4_leadBack_40 : decode cX4_leadBack 40 = .ok (.istore_n 2, 1) := by decide +kernel
theorem dX4_leadBack_41 : decode cX4_leadBack 41 = .ok (.iload_n 2, 1) := by decide +kernel
theorem dX4_leadBack_42 : decode cX4_leadBack 42 = .ok (.iload_n 1, 1) := by decide +kernel
theorem dX4_leadBack_43 : decode cX4_leadBack 43 = .ok (.if_icmp .ge 31, 3) := by decide +kernel
theorem dX4_leadBack_46 : decode cX4_leadBack 46 = .ok (.aload_n 0, 1) := by decide +kernel
theorem dX4_leadBack_47 : decode cX4_leadBack 47 = .ok (.aload_n 0, 1) := by decide +kernel
theorem dX4_leadBack_48 : decode cX4_leadBack 48 = .ok (.getfield 33, 3) := by decide +kernel
theorem dX4_leadBack_51 : decode cX4_leadBack 51 = .ok (.iload_n 2, 1) := by decide +kernel
theorem dX4_leadBack_52 : decode cX4_leadBack 52 = .ok (.iaload, 1) := by decide +kernel
theorem dX4_leadBack_53 : decode cX4_leadBack 53 = .ok (.invokevirtual 85, 3) := by decide +kernel
theorem dX4_leadBack_56 : decode cX4_leadBack 56 = .ok (.aload_n 0, 1) := by decide +kernel
theorem dX4_leadBack_57 : decode cX4_leadBack 57 = .ok (.aload_n 0, 1) := by decide +kernel
theorem dX4_leadBack_58 : decode cX4_leadBack 58 = .ok (.getfield 33, 3) := by decide +kernel
theorem dX4_leadBack_61 : decode cX4_leadBack 61 = .ok (.iload_n 2, 1) := by decide +kernel
theorem dX4_leadBack_62 : decode cX4_leadBack 62 = .ok (.iaload, 1) := by decide +kernel
theorem dX4_leadBack_63 : decode cX4_leadBack 63 = .ok (.iload_n 1, 1) := by decide +kernel
theorem dX4_leadBack_64 : decode cX4_leadBack 64 = .ok (.invokevirtual 127, 3) := by decide +kernel
theorem dX4_leadBack_67 : decode cX4_leadBack 67 = .ok (.istore_n 1, 1) := by decide +kernel
theorem dX4_leadBack_68 : decode cX4_leadBack 68 = .ok (.iinc 2 1, 3) := by decide +kernel
theorem dX4_leadBack_71 : decode cX4_leadBack 71 = .ok (.goto (-30), 3) := by decide +kernel
theorem dX4_leadBack_74 : decode cX4_leadBack 74 = .ok (.iload_n 1, 1) := by decide +kernel
theorem dX4_leadBack_75 : decode cX4_leadBack 75 = .ok (.ireturn, 1) := by decide +kernel
theorem dX4_makeRoom_0 : decode cX4_makeRoom 0 = .ok (.aload_n 0, 1) := by decide +kernel
theorem dX4_makeRoom_1 : decode cX4_makeRoom 1 = .ok (.getfield 59, 3) := by decide +kernel
theorem dX4_makeRoom_4 : decode cX4_makeRoom 4 = .ok (.aload_n 0, 1) := by decide +kernel
theorem dX4_makeRoom_5 : decode cX4_makeRoom 5 = .ok (.getfield 33, 3) := by decide +kernel
theorem dX4_makeRoom_8 : decode cX4_makeRoom 8 = .ok (.arraylength, 1) := by decide +kernel
theorem dX4_makeRoom_9 : decode cX4_makeRoom 9 = .ok (.if_icmp .le 32, 3) := by decide +kernel
theorem dX4_makeRoom_41 : decode cX4_makeRoom 41 = .ok (.aload_n 0, 1) := by decide +kernel
theorem dX4_makeRoom_42 : decode cX4_makeRoom 42 = .ok (.getfield 39, 3) := by decide +kernel
theorem dX4_makeRoom_45 : decode cX4_makeRoom 45 = .ok (.iconst 0, 1) := by decide +kernel
theorem dX4_makeRoom_46 : decode cX4_makeRoom 46 = .ok (.invokestatic 119, 3) := by decide +kernel
theorem dX4_makeRoom_49 : decode cX4_makeRoom 49 = .ok (.return_, 1) := by decide +kernel
theorem dX4_prepare_0 : decode cX4_prepare 0 = .ok (.aload_n 0, 1) := by decide +kernel
theorem dX4_prepare_1 : decode cX4_prepare 1 = .ok (.iconst 1, 1) := by decide +kernel
theorem dX4_prepare_2 : decode cX4_prepare 2 = .ok (.putfield 59, 3) := by decide +kernel
theorem dX4_prepare_5 : decode cX4_prepare 5 = .ok (.bipush 6, 2) := by decide +kernel
theorem dX4_prepare_7 : decode cX4_prepare 7 = .ok (.istore_n 1, 1) := by decide +kernel
theorem dX4_prepare_8 : decode cX4_prepare 8 = .ok (.iload_n 1, 1) := by decide +kernel
theorem dX4_prepare_9 : decode cX4_prepare 9 = .ok (.iconst 1, 1) := by decide +kernel
theorem dX4_prepare_10 : decode cX4_prepare 10 = .ok (.if_icmp .lt 63, 3) := by decide +kernel
theorem dX4_prepare_13 : decode cX4_prepare 13 = .ok (.aload_n 0, 1) := by decide +kernel
theorem dX4_prepare_14 : decode cX4_prepare 14 = .ok (.getfield 27, 3) := by decide +kernel
theorem dX4_prepare_17 : decode cX4_prepare 17 = .ok (.iload_n 1, 1) := by decide +kernel
theorem dX4_prepare_18 : decode cX4_prepare 18 = .ok (.aload_n 0, 1) := by decide +kernel
theorem dX4_prepare_19 : decode cX4_prepare 19 = .ok (.getfield 59, 3) := by decide +kernel
theorem dX4_prepare_22 : decode cX4_prepare 22 = .ok (.iastore, 1) := by decide +kernel
theorem dX4_prepare_23 : decode cX4_prepare 23 = .ok (.aload_n 0, 1) := by decide +kernel
theorem dX4_prepare_24 : decode cX4_prepare 24 = .ok (.dup, 1) := by decide +kernel
theorem dX4_prepare_25 : decode cX4_prepare 25 = .ok (.getfield 59, 3) := by decide +kernel
theorem dX4_prepare_28 : decode cX4_prepare 28 = .ok (.aload_n 0, 1) := by decide +kernel
theorem dX4_prepare_29 : decode cX4_prepare 29 = .ok (.getfield 11, 3) := by decide +kernel
theorem dX4_prepare_32 : decode cX4_prepare 32 = .ok (.iload_n 1, 1) := by decide +kernel
theorem dX4_prepare_33 : decode cX4_prepare 33 = .ok (.iaload, 1) := by decide +kernel
theorem dX4_prepare_34 : decode cX4_prepare 34 = .ok (.iconst 1, 1) := by decide +kernel
theorem dX4_prepare_35 : decode cX4_prepare 35 = .ok (.iadd, 1) := by decide +kernel
theorem dX4_prepare_36 : decode cX4_prepare 36 = .ok (.imul, 1) := by decide +kernel
theorem dX4_prepare_37 : decode cX4_prepare 37 = .ok (.putfield 59, 3) := by decide +kernel
theorem dX4_prepare_40 : decode cX4_prepare 40 = .ok (.iconst 0, 1) := by decide +kernel
theorem dX4_prepare_41 : decode cX4_prepare 41 = .ok (.istore_n 2, 1) := by decide +kernel
theorem dX4_prepare_42 : decode cX4_prepare 42 = .ok (.iload_n 2, 1) := by decide +kernel
theorem dX4_prepare_43 : decode cX4_prepare 43 = .ok (.aload_n 0, 1) := by decide +kernel
theorem dX4_prepare_44 : decode cX4_prepare 44 = .ok (.getfield 11, 3) := by decide +kernel
theorem dX4_prepare_47 : decode cX4_prepare 47 = .ok (.iload_n 1, 1) := by decide +kernel
theorem dX4_prepare_48 : decode cX4_prepare 48 = .ok (.iaload, 1) := by decide +kernel
theorem dX4_prepare_49 : decode cX4_prepare 49 = .ok (.if_icmp .ge 18, 3) := by decide +kernel
theorem dX4_prepare_67 : decode cX4_prepare 67 = .ok (.iinc 1 (-1), 3) := by decide +kernel
theorem dX4_prepare_70 : decode cX4_prepare 70 = .ok (.goto (-62), 3) := by decide +kernel
theorem dX4_prepare_73 : decode cX4_prepare 73 = .ok (.return_, 1) := by decide +kernel
theorem dX4_spread_0 : decode cX4_spread 0 = .ok (.aload_n 0, 1) := by decide +kernel
theorem dX4_spread_1 : decode cX4_spread 1 = .ok (.getfield 43, 3) := by decide +kernel
theorem dX4_spread_4 : decode cX4_spread 4 = .ok (.iconst 1, 1) := by decide +kernel
theorem dX4_spread_5 : decode cX4_spread 5 = .ok (.iconst 0, 1) := by decide +kernel
theorem dX4_spread_6 : decode cX4_spread 6 = .ok (.iastore, 1) := by decide +kernel
theorem dX4_spread_7 : decode cX4_spread 7 = .ok (.aload_n 0, 1) := by decide +kernel
theorem dX4_spread_8 : decode cX4_spread 8 = .ok (.getfield 43, 3) := by decide +kernel
theorem dX4_spread_11 : decode cX4_spread 11 = .ok (.iconst 3, 1) := by decide +kernel
theorem dX4_spread_12 : decode cX4_spread 12 = .ok (.ldc 123, 2) := by decide +kernel
theorem dX4_spread_14 : decode cX4_spread 14 = .ok (.iastore, 1) := by decide +kernel
theorem dX4_spread_15 : decode cX4_spread 15 = .ok (.aload_n 0, 1) := by decide +kernel
theorem dX4_spread_16 : decode cX4_spread 16 = .ok (.getfield 33, 3) := by decide +kernel
theorem dX4_spread_19 : decode cX4_spread 19 = .ok (.iconst 0, 1) := by decide +kernel
theorem dX4_spread_20 : decode cX4_spread 20 = .ok (.aload_n 0, 1) := by decide +kernel
theorem dX4_spread_21 : decode cX4_spread 21 = .ok (.getfield 59, 3) := by decide +kernel
theorem dX4_spread_24 : decode cX4_spread 24 = .ok (.iconst 1, 1) := by decide +kernel
theorem dX4_spread_25 : decode cX4_spread 25 = .ok (.isub, 1) := by decide +kernel
theorem dX4_spread_26 : decode cX4_spread 26 = .ok (.iastore, 1) := by decide +kernel
theorem dX4_spread_27 : decode cX4_spread 27 = .ok (.aload_n 0, 1) := by decide +kernel
theorem dX4_spread_28 : decode cX4_spread 28 = .ok (.getfield 39, 3) := by decide +kernel
theorem dX4_spread_31 : decode cX4_spread 31 = .ok (.aload_n 0, 1) := by decide +kernel
theorem dX4_spread_32 : decode cX4_spread 32 = .ok (.getfield 59, 3) := by decide +kernel
theorem dX4_spread_35 : decode cX4_spread 35 = .ok (.iconst 1, 1) := by decide +kernel
theorem dX4_spread_36 : decode cX4_spread 36 = .ok (.isub, 1) := by decide +kernel
theorem dX4_spread_37 : decode cX4_spread 37 = .ok (.iconst 1, 1) := by decide +kernel
theorem dX4_spread_38 : decode cX4_spread 38 = .ok (.bastore, 1) := by decide +kernel
theorem dX4_spread_39 : decode cX4_spread 39 = .ok (.iconst 1, 1) := by decide +kernel
theorem dX4_spread_40 : decode cX4_spread 40 = .ok (.istore_n 1, 1) := by decide +kernel
theorem dX4_spread_41 : decode cX4_spread 41 = .ok (.iconst 0, 1) := by decide +kernel
theorem dX4_spread_42 : decode cX4_spread 42 = .ok (.istore_n 2, 1) := by decide +kernel
theorem dX4_spread_43 : decode cX4_spread 43 = .ok (.iconst 1, 1) := by decide +kernel
theorem dX4_spread_44 : decode cX4_spread 44 = .ok (.istore_n 3, 1) := by decide +kernel
theorem dX4_spread_45 : decode cX4_spread 45 = .ok (.iconst 0, 1) := by decide +kernel
theorem dX4_spread_46 : decode cX4_spread 46 = .ok (.istore 4, 2) := by decide +kernel
theorem dX4_spread_48 : decode cX4_spread 48 = .ok (.iload 4, 2) := by decide +kernel
theorem dX4_spread_50 : decode cX4_spread 50 = .ok (.iload_n 1, 1) := by decide +kernel
theorem dX4_spread_51 : decode cX4_spread 51 = .ok (.if_icmp .ge 105, 3) := by decide +kernel
theorem dX4_spread_54 : decode cX4_spread 54 = .ok (.iload 4, 2) := by decide +kernel
theorem dX4_spread_56 : decode cX4_spread 56 = .ok (.iload_n 3, 1) := by decide +kernel
theorem dX4_spread_57 : decode cX4_spread 57 = .ok (.if_icmp .ne 8, 3) := by decide +kernel
theorem dX4_spread_65 : decode cX4_spread 65 = .ok (.aload_n 0, 1) := by decide +kernel
theorem dX4_spread_66 : decode cX4_spread 66 = .ok (.aload_n 0, 1) := by decide +kernel
theorem dX4_spread_67 : decode cX4_spread 67 = .ok (.getfield 33, 3) := by decide +kernel
theorem dX4_spread_70 : decode cX4_spread 70 = .ok (.iload 4, 2) := by decide +kernel
theorem dX4_spread_72 : decode cX4_spread 72 = .ok (.iaload, 1) := by decide +kernel
theorem dX4_spread_73 : decode cX4_spread 73 = .ok (.invokevirtual 85, 3) := by decide +kernel
theorem dX4_spread_76 : decode cX4_spread 76 = .ok (.aload_n 0, 1) := by decide +kernel
theorem dX4_spread_77 : decode cX4_spread 77 = .ok (.aload_n 0, 1) := by decide +kernel
theorem dX4_spread_78 : decode cX4_spread 78 = .ok (.getfield 33, 3) := by decide +kernel
theorem dX4_spread_81 : decode cX4_spread 81 = .ok (.iload 4, 2) := by decide +kernel
theorem dX4_spread_83 : decode cX4_spread 83 = .ok (.iaload, 1) := by decide +kernel
theorem dX4_spread_84 : decode cX4_spread 84 = .ok (.iload_n 1, 1) := by decide +kernel
theorem dX4_spread_85 : decode cX4_spread 85 = .ok (.invokevirtual 124, 3) := by decide +kernel
theorem dX4_spread_88 : decode cX4_spread 88 = .ok (.istore_n 1, 1) := by decide +kernel
theorem dX4_spread_89 : decode cX4_spread 89 = .ok (.aload_n 0, 1) := by decide +kernel
theorem dX4_spread_90 : decode cX4_spread 90 = .ok (.invokevirtual 88, 3) := by decide +kernel
theorem dX4_spread_93 : decode cX4_spread 93 = .ok (.ifCond .eq 57, 3) := by decide +kernel
theorem dX4_spread_96 : decode cX4_spread 96 = .ok (.aload_n 0, 1) := by decide +kernel
theorem dX4_spread_97 : decode cX4_spread 97 = .ok (.getfield 39, 3) := by decide +kernel
theorem dX4_spread_100 : decode cX4_spread 100 = .ok (.aload_n 0, 1) := by decide +kernel
theorem dX4_spread_101 : decode cX4_spread 101 = .ok (.getfield 33, 3) := by decide +kernel
theorem dX4_spread_104 : decode cX4_spread 104 = .ok (.iload 4, 2) := by decide +kernel
theorem dX4_spread_106 : decode cX4_spread 106 = .ok (.iaload, 1) := by decide +kernel
theorem dX4_spread_107 : decode cX4_spread 107 = .ok (.dup2, 1) := by decide +kernel
theorem dX4_spread_108 : decode cX4_spread 108 = .ok (.baload, 1) := by decide +kernel
theorem dX4_spread_109 : decode cX4_spread 109 = .ok (.iconst 2, 1) := by decide +kernel
theorem dX4_spread_110 : decode cX4_spread 110 = .ok (.ior, 1) := by decide +kernel
theorem dX4_spread_111 : decode cX4_spread 111 = .ok (.i2b, 1) := by decide +kernel
theorem dX4_spread_112 : decode cX4_spread 112 = .ok (.bastore, 1) := by decide +kernel
theorem dX4_spread_113 : decode cX4_spread 113 = .ok (.aload_n 0, 1) := by decide +kernel
theorem dX4_spread_114 : decode cX4_spread 114 = .ok (.getfield 43, 3) := by decide +kernel
theorem dX4_spread_117 : decode cX4_spread 117 = .ok (.iconst 1, 1) := by decide +kernel
theorem dX4_spread_118 : decode cX4_spread 118 = .ok (.dup2, 1) := by decide +kernel
theorem dX4_spread_119 : decode cX4_spread 119 = .ok (.iaload, 1) := by decide +kernel
theorem dX4_spread_120 : decode cX4_spread 120 = .ok (.iconst 1, 1) := by decide +kernel
theorem dX4_spread_121 : decode cX4_spread 121 = .ok (.iadd, 1) := by decide +kernel
theorem dX4_spread_122 : decode cX4_spread 122 = .ok (.iastore, 1) := by decide +kernel
theorem dX4_spread_123 : decode cX4_spread 123 = .ok (.aload_n 0, 1) := by decide +kernel
theorem dX4_spread_124 : decode cX4_spread 124 = .ok (.getfield 43, 3) := by decide +kernel
theorem dX4_spread_127 : decode cX4_spread 127 = .ok (.iconst 3, 1) := by decide +kernel
theorem dX4_spread_128 : decode cX4_spread 128 = .ok (.aload_n 0, 1) := by decide +kernel
theorem dX4_spread_129 : decode cX4_spread 129 = .ok (.getfield 43, 3) := by decide +kernel
theorem dX4_spread_132 : decode cX4_spread 132 = .ok (.iconst 3, 1) := by decide +kernel
theorem dX4_spread_133 : decode cX4_spread 133 = .ok (.iaload, 1) := by decide +kernel
theorem dX4_spread_134 : decode cX4_spread 134 = .ok (.ldc 123, 2) := by decide +kernel
theorem dX4_spread_136 : decode cX4_spread 136 = .ok (.if_icmp .ne 7, 3) := by decide +kernel
theorem dX4_spread_139 : decode cX4_spread 139 = .ok (.iload_n 2, 1) := by decide +kernel
theorem dX4_spread_140 : decode cX4_spread 140 = .ok (.goto 9, 3) := by decide +kernel
theorem dX4_spread_149 : decode cX4_spread 149 = .ok (.iastore, 1) := by decide +kernel
theorem dX4_spread_150 : decode cX4_spread 150 = .ok (.iinc 4 1, 3) := by decide +kernel
theorem dX4_spread_153 : decode cX4_spread 153 = .ok (.goto (-105), 3) := by decide +kernel
theorem dX4_spread_156 : decode cX4_spread 156 = .ok (.iload_n 1, 1) := by decide +kernel
theorem dX4_spread_157 : decode cX4_spread 157 = .ok (.ireturn, 1) := by decide +kernel
theorem dX4_unfold_0 : decode cX4_unfold 0 = .ok (.iconst 1, 1) := by decide +kernel
theorem dX4_unfold_1 : decode cX4_unfold 1 = .ok (.istore_n 2, 1) := by decide +kernel
theorem dX4_unfold_2 : decode cX4_unfold 2 = .ok (.iload_n 2, 1) := by decide +kernel
theorem dX4_unfold_3 : decode cX4_unfold 3 = .ok (.bipush 7, 2) := by decide +kernel
theorem dX4_unfold_5 : decode cX4_unfold 5 = .ok (.if_icmp .ge 21, 3) := by decide +kernel
theorem dX4_unfold_8 : decode cX4_unfold 8 = .ok (.aload_n 0, 1) := by decide +kernel
theorem dX4_unfold_9 : decode cX4_unfold 9 = .ok (.getfield 30, 3) := by decide +kernel
theorem dX4_unfold_12 : decode cX4_unfold 12 = .ok (.iload_n 2, 1) := by decide +kernel
theorem dX4_unfold_13 : decode cX4_unfold 13 = .ok (.aload_n 0, 1) := by decide +kernel
theorem dX4_unfold_14 : decode cX4_unfold 14 = .ok (.iload_n 1, 1) := by decide +kernel
theorem dX4_unfold_15 : decode cX4_unfold 15 = .ok (.iload_n 2, 1) := by decide +kernel
theorem dX4_unfold_16 : decode cX4_unfold 16 = .ok (.invokevirtual 75, 3) := by decide +kernel
theorem dX4_unfold_19 : decode cX4_unfold 19 = .ok (.iastore, 1) := by decide +kernel
theorem dX4_unfold_20 : decode cX4_unfold 20 = .ok (.iinc 2 1, 3) := by decide +kernel
theorem dX4_unfold_23 : decode cX4_unfold 23 = .ok (.goto (-21), 3) := by decide +kernel
theorem dX4_unfold_26 : decode cX4_unfold 26 = .ok (.return_, 1) := by decide +kernel
theorem dX4_wayInRest_0 : decode cX4_wayInRest 0 = .ok (.aload_n 0, 1) := by decide +kernel
theorem dX4_wayInRest_1 : decode cX4_wayInRest 1 = .ok (.aload_n 0, 1) := by decide +kernel
theorem dX4_wayInRest_2 : decode cX4_wayInRest 2 = .ok (.getfield 36, 3) := by decide +kernel
theorem dX4_wayInRest_5 : decode cX4_wayInRest 5 = .ok (.iload_n 1, 1) := by decide +kernel
theorem dX4_wayInRest_6 : decode cX4_wayInRest 6 = .ok (.iaload, 1) := by decide +kernel
theorem dX4_wayInRest_7 : decode cX4_wayInRest 7 = .ok (.iload_n 2, 1) := by decide +kernel
theorem dX4_wayInRest_8 : decode cX4_wayInRest 8 = .ok (.invokevirtual 75, 3) := by decide +kernel
theorem dX4_wayInRest_11 : decode cX4_wayInRest 11 = .ok (.istore_n 3, 1) := by decide +kernel
theorem dX4_wayInRest_12 : decode cX4_wayInRest 12 = .ok (.iload_n 3, 1) := by decide +kernel
theorem dX4_wayInRest_13 : decode cX4_wayInRest 13 = .ok (.aload_n 0, 1) := by decide +kernel
theorem dX4_wayInRest_14 : decode cX4_wayInRest 14 = .ok (.getfield 11, 3) := by decide +kernel
theorem dX4_wayInRest_17 : decode cX4_wayInRest 17 = .ok (.iload_n 2, 1) := by decide +kernel
theorem dX4_wayInRest_18 : decode cX4_wayInRest 18 = .ok (.iaload, 1) := by decide +kernel
theorem dX4_wayInRest_19 : decode cX4_wayInRest 19 = .ok (.if_icmp .ne 8, 3) := by decide +kernel
theorem dX4_wayInRest_22 : decode cX4_wayInRest 22 = .ok (.bipush (-4), 2) := by decide +kernel
theorem dX4_wayInRest_24 : decode cX4_wayInRest 24 = .ok (.goto 4, 3) := by decide +kernel
theorem dX4_wayInRest_28 : decode cX4_wayInRest 28 = .ok (.ireturn, 1) := by decide +kernel
theorem dX5_init_0 : decode cX5_init 0 = .ok (.aload_n 0, 1) := by decide +kernel
theorem dX5_init_1 : decode cX5_init 1 = .ok (.invokespecial 1, 3) := by decide +kernel
theorem dX5_init_4 : decode cX5_init 4 = .ok (.aload_n 0, 1) := by decide +kernel
theorem dX5_init_5 : decode cX5_init 5 = .ok (.iload_n 1, 1) := by decide +kernel
theorem dX5_init_6 : decode cX5_init 6 = .ok (.putfield 7, 3) := by decide +kernel
theorem dX5_init_9 : decode cX5_init 9 = .ok (.aload_n 0, 1) := by decide +kernel
theorem dX5_init_10 : decode cX5_init 10 = .ok (.aload_n 2, 1) := by decide +kernel
theorem dX5_init_11 : decode cX5_init 11 = .ok (.putfield 13, 3) := by decide +kernel
theorem dX5_init_14 : decode cX5_init 14 = .ok (.aload_n 0, 1) := by decide +kernel
theorem dX5_init_15 : decode cX5_init 15 = .ok (.aload_n 3, 1) := by decide +kernel
theorem dX5_init_16 : decode cX5_init 16 = .ok (.putfield 17, 3) := by decide +kernel
theorem dX5_init_19 : decode cX5_init 19 = .ok (.aload_n 0, 1) := by decide +kernel
theorem dX5_init_20 : decode cX5_init 20 = .ok (.aload 4, 2) := by decide +kernel
theorem dX5_init_22 : decode cX5_init 22 = .ok (.putfield 20, 3) := by decide +kernel
theorem dX5_init_25 : decode cX5_init 25 = .ok (.aload_n 0, 1) := by decide +kernel
theorem dX5_init_26 : decode cX5_init 26 = .ok (.aload 5, 2) := by decide +kernel
theorem dX5_init_28 : decode cX5_init 28 = .ok (.putfield 24, 3) := by decide +kernel
theorem dX5_init_31 : decode cX5_init 31 = .ok (.aload_n 0, 1) := by decide +kernel
theorem dX5_init_32 : decode cX5_init 32 = .ok (.aload 6, 2) := by decide +kernel
theorem dX5_init_34 : decode cX5_init 34 = .ok (.putfield 27, 3) := by decide +kernel
theorem dX5_init_37 : decode cX5_init 37 = .ok (.return_, 1) := by decide +kernel
theorem dX6_read_0 : decode cX6_read 0 = .ok (.aload_n 0, 1) := by decide +kernel
theorem dX6_read_1 : decode cX6_read 1 = .ok (.iconst 0, 1) := by decide +kernel
theorem dX6_read_2 : decode cX6_read 2 = .ok (.putfield 37, 3) := by decide +kernel
theorem dX6_read_5 : decode cX6_read 5 = .ok (.aload_n 0, 1) := by decide +kernel
theorem dX6_read_6 : decode cX6_read 6 = .ok (.iconst 0, 1) := by decide +kernel
theorem dX6_read_7 : decode cX6_read 7 = .ok (.putfield 41, 3) := by decide +kernel
theorem dX6_read_10 : decode cX6_read 10 = .ok (.aload_n 0, 1) := by decide +kernel
theorem dX6_read_11 : decode cX6_read 11 = .ok (.iconst 0, 1) := by decide +kernel
theorem dX6_read_12 : decode cX6_read 12 = .ok (.putfield 44, 3) := by decide +kernel
theorem dX6_read_15 : decode cX6_read 15 = .ok (.aload_n 0, 1) := by decide +kernel
theorem dX6_read_16 : decode cX6_read 16 = .ok (.iconst 0, 1) := by decide +kernel
theorem dX6_read_17 : decode cX6_read 17 = .ok (.putfield 47, 3) := by decide +kernel
theorem dX6_read_20 : decode cX6_read 20 = .ok (.aload_n 0, 1) := by decide +kernel
theorem dX6_read_21 : decode cX6_read 21 = .ok (.iconst 0, 1) := by decide +kernel
theorem dX6_read_22 : decode cX6_read 22 = .ok (.putfield 50, 3) := by decide +kernel
theorem dX6_read_25 : decode cX6_read 25 = .ok (.aload_n 0, 1) := by decide +kernel
theorem dX6_read_26 : decode cX6_read 26 = .ok (.iconst 0, 1) := by decide +kernel
theorem dX6_read_27 : decode cX6_read 27 = .ok (.putfield 53, 3) := by decide +kernel
theorem dX6_read_30 : decode cX6_read 30 = .ok (.aload_n 0, 1) := by decide +kernel
theorem dX6_read_31 : decode cX6_read 31 = .ok (.iload_n 3, 1) := by decide +kernel
theorem dX6_read_32 : decode cX6_read 32 = .ok (.putfield 56, 3) := by decide +kernel
theorem dX6_read_35 : decode cX6_read 35 = .ok (.aload_n 0, 1) := by decide +kernel
theorem dX6_read_36 : decode cX6_read 36 = .ok (.aload_n 1, 1) := by decide +kernel
theorem dX6_read_37 : decode cX6_read 37 = .ok (.iload_n 2, 1) := by decide +kernel
theorem dX6_read_38 : decode cX6_read 38 = .ok (.invokevirtual 59, 3) := by decide +kernel
theorem dX6_read_41 : decode cX6_read 41 = .ok (.aload_n 0, 1) := by decide +kernel
theorem dX6_read_42 : decode cX6_read 42 = .ok (.iconst 0, 1) := by decide +kernel
theorem dX6_read_43 : decode cX6_read 43 = .ok (.putfield 63, 3) := by decide +kernel
theorem dX6_read_46 : decode cX6_read 46 = .ok (.iconst 0, 1) := by decide +kernel
theorem dX6_read_47 : decode cX6_read 47 = .ok (.istore 4, 2) := by decide +kernel
theorem dX6_read_49 : decode cX6_read 49 = .ok (.iload 4, 2) := by decide +kernel
theorem dX6_read_51 : decode cX6_read 51 = .ok (.sipush 1000, 3) := by decide +kernel
theorem dX6_read_54 : decode cX6_read 54 = .ok (.if_icmp .gt 26, 3) := by decide +kernel
theorem dX6_read_57 : decode cX6_read 57 = .ok (.aload_n 0, 1) := by decide +kernel
theorem dX6_read_58 : decode cX6_read 58 = .ok (.getfield 9, 3) := by decide +kernel
theorem dX6_read_61 : decode cX6_read 61 = .ok (.aload_n 0, 1) := by decide +kernel
theorem dX6_read_62 : decode cX6_read 62 = .ok (.getfield 63, 3) := by decide +kernel
theorem dX6_read_65 : decode cX6_read 65 = .ok (.iaload, 1) := by decide +kernel
theorem dX6_read_66 : decode cX6_read 66 = .ok (.iconst (-1), 1) := by decide +kernel
theorem dX6_read_67 : decode cX6_read 67 = .ok (.if_icmp .eq 13, 3) := by decide +kernel
theorem dX6_read_80 : decode cX6_read 80 = .ok (.return_, 1) := by decide +kernel
theorem dX6_result_0 : decode cX6_result 0 = .ok (.new 69, 3) := by decide +kernel
theorem dX6_result_3 : decode cX6_result 3 = .ok (.dup, 1) := by decide +kernel
theorem dX6_result_4 : decode cX6_result 4 = .ok (.aload_n 0, 1) := by decide +kernel
theorem dX6_result_5 : decode cX6_result 5 = .ok (.getfield 44, 3) := by decide +kernel
theorem dX6_result_8 : decode cX6_result 8 = .ok (.aload_n 0, 1) := by decide +kernel
theorem dX6_result_9 : decode cX6_result 9 = .ok (.getfield 21, 3) := by decide +kernel
theorem dX6_result_12 : decode cX6_result 12 = .ok (.aload_n 0, 1) := by decide +kernel
theorem dX6_result_13 : decode cX6_result 13 = .ok (.getfield 47, 3) := by decide +kernel
theorem dX6_result_16 : decode cX6_result 16 = .ok (.invokestatic 71, 3) := by decide +kernel
theorem dX6_result_19 : decode cX6_result 19 = .ok (.aload_n 0, 1) := by decide +kernel
theorem dX6_result_20 : decode cX6_result 20 = .ok (.getfield 24, 3) := by decide +kernel
theorem dX6_result_23 : decode cX6_result 23 = .ok (.aload_n 0, 1) := by decide +kernel
theorem dX6_result_24 : decode cX6_result 24 = .ok (.getfield 50, 3) := by decide +kernel
theorem dX6_result_27 : decode cX6_result 27 = .ok (.invokestatic 71, 3) := by decide +kernel
theorem dX6_result_30 : decode cX6_result 30 = .ok (.aload_n 0, 1) := by decide +kernel
theorem dX6_result_31 : decode cX6_result 31 = .ok (.getfield 27, 3) := by decide +kernel
theorem dX6_result_34 : decode cX6_result 34 = .ok (.aload_n 0, 1) := by decide +kernel
theorem dX6_result_35 : decode cX6_result 35 = .ok (.getfield 50, 3) := by decide +kernel
theorem dX6_result_38 : decode cX6_result 38 = .ok (.invokestatic 77, 3) := by decide +kernel
theorem dX6_result_41 : decode cX6_result 41 = .ok (.aload_n 0, 1) := by decide +kernel
theorem dX6_result_42 : decode cX6_result 42 = .ok (.getfield 31, 3) := by decide +kernel
theorem dX6_result_45 : decode cX6_result 45 = .ok (.aload_n 0, 1) := by decide +kernel
theorem dX6_result_46 : decode cX6_result 46 = .ok (.getfield 53, 3) := by decide +kernel
theorem dX6_result_49 : decode cX6_result 49 = .ok (.invokestatic 77, 3) := by decide +kernel
theorem dX6_result_52 : decode cX6_result 52 = .ok (.aload_n 0, 1) := by decide +kernel
theorem dX6_result_53 : decode cX6_result 53 = .ok (.getfield 34, 3) := by decide +kernel
theorem dX6_result_56 : decode cX6_result 56 = .ok (.aload_n 0, 1) := by decide +kernel
theorem dX6_result_57 : decode cX6_result 57 = .ok (.getfield 53, 3) := by decide +kernel
theorem dX6_result_60 : decode cX6_result 60 = .ok (.invokestatic 77, 3) := by decide +kernel
theorem dX6_result_63 : decode cX6_result 63 = .ok (.invokespecial 80, 3) := by decide +kernel
theorem dX6_result_66 : decode cX6_result 66 = .ok (.areturn, 1) := by decide +kernel
theorem dX6_split_0 : decode cX6_split 0 = .ok (.aload_n 0, 1) := by decide +kernel
theorem dX6_split_1 : decode cX6_split 1 = .ok (.iconst 0, 1) := by decide +kernel
theorem dX6_split_2 : decode cX6_split 2 = .ok (.putfield 83, 3) := by decide +kernel
theorem dX6_split_5 : decode cX6_split 5 = .ok (.iconst 0, 1) := by decide +kernel
theorem dX6_split_6 : decode cX6_split 6 = .ok (.istore_n 3, 1) := by decide +kernel
theorem dX6_split_7 : decode cX6_split 7 = .ok (.iload_n 3, 1) := by decide +kernel
theorem dX6_split_8 : decode cX6_split 8 = .ok (.iload_n 2, 1) := by decide +kernel
theorem dX6_split_9 : decode cX6_split 9 = .ok (.if_icmp .ge 134, 3) := by decide +kernel
theorem dX6_split_143 : decode cX6_split 143 = .ok (.aload_n 0, 1) := by decide +kernel
theorem dX6_split_144 : decode cX6_split 144 = .ok (.getfield 9, 3) := by decide +kernel
theorem dX6_split_147 : decode cX6_split 147 = .ok (.aload_n 0, 1) := by decide +kernel
theorem dX6_split_148 : decode cX6_split 148 = .ok (.getfield 83, 3) := by decide +kernel
theorem dX6_split_151 : decode cX6_split 151 = .ok (.iconst (-1), 1) := by decide +kernel
theorem dX6_split_152 : decode cX6_split 152 = .ok (.iastore, 1) := by decide +kernel
theorem dX6_split_153 : decode cX6_split 153 = .ok (.aload_n 0, 1) := by decide +kernel
theorem dX6_split_154 : decode cX6_split 154 = .ok (.getfield 18, 3) := by decide +kernel
theorem dX6_split_157 : decode cX6_split 157 = .ok (.aload_n 0, 1) := by decide +kernel
theorem dX6_split_158 : decode cX6_split 158 = .ok (.getfield 83, 3) := by decide +kernel
theorem dX6_split_161 : decode cX6_split 161 = .ok (.iload_n 2, 1) := by decide +kernel
theorem dX6_split_162 : decode cX6_split 162 = .ok (.iastore, 1) := by decide +kernel
theorem dX6_split_163 : decode cX6_split 163 = .ok (.return_, 1) := by decide +kernel
theorem dX7_begin_0 : decode cX7_begin 0 = .ok (.aload_n 0, 1) := by decide +kernel
theorem dX7_begin_1 : decode cX7_begin 1 = .ok (.iconst 1, 1) := by decide +kernel
theorem dX7_begin_2 : decode cX7_begin 2 = .ok (.putfield 22, 3) := by decide +kernel
theorem dX7_begin_5 : decode cX7_begin 5 = .ok (.aload_n 0, 1) := by decide +kernel
theorem dX7_begin_6 : decode cX7_begin 6 = .ok (.iload_n 1, 1) := by decide +kernel
theorem dX7_begin_7 : decode cX7_begin 7 = .ok (.putfield 26, 3) := by decide +kernel
theorem dX7_begin_10 : decode cX7_begin 10 = .ok (.aload_n 0, 1) := by decide +kernel
theorem dX7_begin_11 : decode cX7_begin 11 = .ok (.bipush 100, 2) := by decide +kernel
theorem dX7_begin_13 : decode cX7_begin 13 = .ok (.putfield 29, 3) := by decide +kernel
theorem dX7_begin_16 : decode cX7_begin 16 = .ok (.aload_n 0, 1) := by decide +kernel
theorem dX7_begin_17 : decode cX7_begin 17 = .ok (.iload_n 2, 1) := by decide +kernel
theorem dX7_begin_18 : decode cX7_begin 18 = .ok (.putfield 32, 3) := by decide +kernel
theorem dX7_begin_21 : decode cX7_begin 21 = .ok (.aload_n 0, 1) := by decide +kernel
theorem dX7_begin_22 : decode cX7_begin 22 = .ok (.iconst 0, 1) := by decide +kernel
theorem dX7_begin_23 : decode cX7_begin 23 = .ok (.putfield 35, 3) := by decide +kernel
theorem dX7_begin_26 : decode cX7_begin 26 = .ok (.aload_n 0, 1) := by decide +kernel
theorem dX7_begin_27 : decode cX7_begin 27 = .ok (.iconst 0, 1) := by decide +kernel
theorem dX7_begin_28 : decode cX7_begin 28 = .ok (.putfield 38, 3) := by decide +kernel
theorem dX7_begin_31 : decode cX7_begin 31 = .ok (.aload_n 0, 1) := by decide +kernel
theorem dX7_begin_32 : decode cX7_begin 32 = .ok (.iconst 0, 1) := by decide +kernel
theorem dX7_begin_33 : decode cX7_begin 33 = .ok (.putfield 41, 3) := by decide +kernel
theorem dX7_begin_36 : decode cX7_begin 36 = .ok (.return_, 1) := by decide +kernel
theorem dX8_doNext_0 : decode cX8_doNext 0 = .ok (.aload_n 0, 1) := by decide +kernel
theorem dX8_doNext_1 : decode cX8_doNext 1 = .ok (.getfield 52, 3) := by decide +kernel
theorem dX8_doNext_4 : decode cX8_doNext 4 = .ok (.ifCond .eq 18, 3) := by decide +kernel
theorem dX8_doNext_22 : decode cX8_doNext 22 = .ok (.iconst 0, 1) := by decide +kernel
theorem dX8_doNext_23 : decode cX8_doNext 23 = .ok (.ireturn, 1) := by decide +kernel
theorem dX8_passTo_0 : decode cX8_passTo 0 = .ok (.aload_n 0, 1) := by decide +kernel
theorem dX8_passTo_1 : decode cX8_passTo 1 = .ok (.getfield 52, 3) := by decide +kernel
theorem dX8_passTo_4 : decode cX8_passTo 4 = .ok (.ifCond .eq 18, 3) := by decide +kernel
theorem dX8_passTo_22 : decode cX8_passTo 22 = .ok (.aload_n 0, 1) := by decide +kernel
theorem dX8_passTo_23 : decode cX8_passTo 23 = .ok (.iload_n 1, 1) := by decide +kernel
theorem dX8_passTo_24 : decode cX8_passTo 24 = .ok (.putfield 62, 3) := by decide +kernel
theorem dX8_passTo_27 : decode cX8_passTo 27 = .ok (.return_, 1) := by decide +kernel
theorem dX8_tellAllAnew_0 : decode cX8_tellAllAnew 0 = .ok (.iconst 0, 1) := by decide +kernel
theorem dX8_tellAllAnew_1 : decode cX8_tellAllAnew 1 = .ok (.istore_n 1, 1) := by decide +kernel
theorem dX8_tellAllAnew_2 : decode cX8_tellAllAnew 2 = .ok (.iload_n 1, 1) := by decide +kernel
theorem dX8_tellAllAnew_3 : decode cX8_tellAllAnew 3 = .ok (.aload_n 0, 1) := by decide +kernel
theorem dX8_tellAllAnew_4 : decode cX8_tellAllAnew 4 = .ok (.getfield 9, 3) := by decide +kernel
theorem dX8_tellAllAnew_7 : decode cX8_tellAllAnew 7 = .ok (.getfield 147, 3) := by decide +kernel
theorem dX8_tellAllAnew_10 : decode cX8_tellAllAnew 10 = .ok (.if_icmp .ge 34, 3) := by decide +kernel
theorem dX8_tellAllAnew_44 : decode cX8_tellAllAnew 44 = .ok (.iconst 0, 1) := by decide +kernel
theorem dX8_tellAllAnew_45 : decode cX8_tellAllAnew 45 = .ok (.istore_n 1, 1) := by decide +kernel
theorem dX8_tellAllAnew_46 : decode cX8_tellAllAnew 46 = .ok (.iload_n 1, 1) := by decide +kernel
theorem dX8_tellAllAnew_47 : decode cX8_tellAllAnew 47 = .ok (.aload_n 0, 1) := by decide +kernel
theorem dX8_tellAllAnew_48 : decode cX8_tellAllAnew 48 = .ok (.getfield 9, 3) := by decide +kernel
theorem dX8_tellAllAnew_51 : decode cX8_tellAllAnew 51 = .ok (.getfield 147, 3) := by decide +kernel
theorem dX8_tellAllAnew_54 : decode cX8_tellAllAnew 54 = .ok (.if_icmp .ge 52, 3) := by decide +kernel
theorem dX8_tellAllAnew_106 : decode cX8_tellAllAnew 106 = .ok (.return_, 1) := by decide +kernel
