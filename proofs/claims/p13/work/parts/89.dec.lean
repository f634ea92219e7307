theorem dX11_wish_0 : decode cX11_wish 0 = .ok (.aload_n 0, 1) := by decide +kernel
theorem dX11_wish_1 : decode cX11_wish 1 = .ok (.getfield 13, 3) := by decide +kernel
theorem dX11_wish_4 : decode cX11_wish 4 = .ok (.aload_n 0, 1) := by decide +kernel
theorem dX11_wish_5 : decode cX11_wish 5 = .ok (.getfield 169, 3) := by decide +kernel
theorem dX11_wish_8 : decode cX11_wish 8 = .ok (.invokestatic 397, 3) := by decide +kernel
theorem dX11_wish_11 : decode cX11_wish 11 = .ok (.ifCond .ne 5, 3) := by decide +kernel
theorem dX11_wish_14 : decode cX11_wish 14 = .ok (.iconst (-1), 1) := by decide +kernel
theorem dX11_wish_15 : decode cX11_wish 15 = .ok (.ireturn, 1) := by decide +kernel
theorem dX11_wish_16 : decode cX11_wish 16 = .ok (.aload_n 0, 1) := by decide +kernel
theorem dX11_wish_17 : decode cX11_wish 17 = .ok (.getfield 72, 3) := by decide +kernel
theorem dX11_wish_20 : decode cX11_wish 20 = .ok (.aload_n 0, 1) := by decide +kernel
theorem dX11_wish_21 : decode cX11_wish 21 = .ok (.getfield 13, 3) := by decide +kernel
theorem dX11_wish_24 : decode cX11_wish 24 = .ok (.iconst 0, 1) := by decide +kernel
theorem dX11_wish_25 : decode cX11_wish 25 = .ok (.aload_n 0, 1) := by decide +kernel
theorem dX11_wish_26 : decode cX11_wish 26 = .ok (.getfield 169, 3) := by decide +kernel
theorem dX11_wish_29 : decode cX11_wish 29 = .ok (.invokevirtual 401, 3) := by decide +kernel
theorem dX11_wish_32 : decode cX11_wish 32 = .ok (.ifCond .lt 6, 3) := by decide +kernel
theorem dX11_wish_35 : decode cX11_wish 35 = .ok (.bipush (-2), 2) := by decide +kernel
theorem dX11_wish_37 : decode cX11_wish 37 = .ok (.ireturn, 1) := by decide +kernel
theorem dX11_wish_38 : decode cX11_wish 38 = .ok (.aload_n 0, 1) := by decide +kernel
theorem dX11_wish_39 : decode cX11_wish 39 = .ok (.getfield 72, 3) := by decide +kernel
theorem dX11_wish_42 : decode cX11_wish 42 = .ok (.getfield 405, 3) := by decide +kernel
theorem dX11_wish_45 : decode cX11_wish 45 = .ok (.aload_n 0, 1) := by decide +kernel
theorem dX11_wish_46 : decode cX11_wish 46 = .ok (.getfield 13, 3) := by decide +kernel
theorem dX11_wish_49 : decode cX11_wish 49 = .ok (.iconst 0, 1) := by decide +kernel
theorem dX11_wish_50 : decode cX11_wish 50 = .ok (.iaload, 1) := by decide +kernel
theorem dX11_wish_51 : decode cX11_wish 51 = .ok (.iaload, 1) := by decide +kernel
theorem dX11_wish_52 : decode cX11_wish 52 = .ok (.iconst 5, 1) := by decide +kernel
theorem dX11_wish_53 : decode cX11_wish 53 = .ok (.if_icmp .lt 6, 3) := by decide +kernel
theorem dX11_wish_56 : decode cX11_wish 56 = .ok (.bipush (-3), 2) := by decide +kernel
theorem dX11_wish_58 : decode cX11_wish 58 = .ok (.ireturn, 1) := by decide +kernel
theorem dX11_wish_59 : decode cX11_wish 59 = .ok (.aload_n 0, 1) := by decide +kernel
theorem dX11_wish_60 : decode cX11_wish 60 = .ok (.getfield 72, 3) := by decide +kernel
theorem dX11_wish_63 : decode cX11_wish 63 = .ok (.aload_n 0, 1) := by decide +kernel
theorem dX11_wish_64 : decode cX11_wish 64 = .ok (.getfield 13, 3) := by decide +kernel
theorem dX11_wish_67 : decode cX11_wish 67 = .ok (.aload_n 0, 1) := by decide +kernel
theorem dX11_wish_68 : decode cX11_wish 68 = .ok (.getfield 169, 3) := by decide +kernel
theorem dX11_wish_71 : decode cX11_wish 71 = .ok (.invokevirtual 408, 3) := by decide +kernel
theorem dX11_wish_74 : decode cX11_wish 74 = .ok (.ireturn, 1) := by decide +kernel
theorem dX4_addWish_0 : decode cX4_addWish 0 = .ok (.aload_n 1, 1) := by decide +kernel
theorem dX4_addWish_1 : decode cX4_addWish 1 = .ok (.iconst 0, 1) := by decide +kernel
theorem dX4_addWish_2 : decode cX4_addWish 2 = .ok (.iaload, 1) := by decide +kernel
theorem dX4_addWish_3 : decode cX4_addWish 3 = .ok (.istore_n 3, 1) := by decide +kernel
theorem dX4_addWish_4 : decode cX4_addWish 4 = .ok (.iload_n 3, 1) := by decide +kernel
theorem dX4_addWish_5 : decode cX4_addWish 5 = .ok (.iconst 5, 1) := by decide +kernel
theorem dX4_addWish_6 : decode cX4_addWish 6 = .ok (.imul, 1) := by decide +kernel
theorem dX4_addWish_7 : decode cX4_addWish 7 = .ok (.aload_n 0, 1) := by decide +kernel
theorem dX4_addWish_8 : decode cX4_addWish 8 = .ok (.getfield 11, 3) := by decide +kernel
theorem dX4_addWish_11 : decode cX4_addWish 11 = .ok (.iload_n 3, 1) := by decide +kernel
theorem dX4_addWish_12 : decode cX4_addWish 12 = .ok (.iaload, 1) := by decide +kernel
theorem dX4_addWish_13 : decode cX4_addWish 13 = .ok (.iadd, 1) := by decide +kernel
theorem dX4_addWish_14 : decode cX4_addWish 14 = .ok (.istore 4, 2) := by decide +kernel
theorem dX4_addWish_16 : decode cX4_addWish 16 = .ok (.aload_n 1, 1) := by decide +kernel
theorem dX4_addWish_17 : decode cX4_addWish 17 = .ok (.iconst 0, 1) := by decide +kernel
theorem dX4_addWish_18 : decode cX4_addWish 18 = .ok (.aload_n 0, 1) := by decide +kernel
theorem dX4_addWish_19 : decode cX4_addWish 19 = .ok (.getfield 15, 3) := by decide +kernel
theorem dX4_addWish_22 : decode cX4_addWish 22 = .ok (.iload 4, 2) := by decide +kernel
theorem dX4_addWish_24 : decode cX4_addWish 24 = .ok (.bipush 7, 2) := by decide +kernel
theorem dX4_addWish_26 : decode cX4_addWish 26 = .ok (.imul, 1) := by decide +kernel
theorem dX4_addWish_27 : decode cX4_addWish 27 = .ok (.iload_n 2, 1) := by decide +kernel
theorem dX4_addWish_28 : decode cX4_addWish 28 = .ok (.invokestatic 46, 3) := by decide +kernel
theorem dX4_addWish_31 : decode cX4_addWish 31 = .ok (.aload_n 0, 1) := by decide +kernel
theorem dX4_addWish_32 : decode cX4_addWish 32 = .ok (.getfield 18, 3) := by decide +kernel
theorem dX4_addWish_35 : decode cX4_addWish 35 = .ok (.iload 4, 2) := by decide +kernel
theorem dX4_addWish_37 : decode cX4_addWish 37 = .ok (.iload_n 2, 1) := by decide +kernel
theorem dX4_addWish_38 : decode cX4_addWish 38 = .ok (.iastore, 1) := by decide +kernel
theorem dX4_addWish_39 : decode cX4_addWish 39 = .ok (.aload_n 0, 1) := by decide +kernel
theorem dX4_addWish_40 : decode cX4_addWish 40 = .ok (.getfield 11, 3) := by decide +kernel
theorem dX4_addWish_43 : decode cX4_addWish 43 = .ok (.iload_n 3, 1) := by decide +kernel
theorem dX4_addWish_44 : decode cX4_addWish 44 = .ok (.dup2, 1) := by decide +kernel
theorem dX4_addWish_45 : decode cX4_addWish 45 = .ok (.iaload, 1) := by decide +kernel
theorem dX4_addWish_46 : decode cX4_addWish 46 = .ok (.iconst 1, 1) := by decide +kernel
theorem dX4_addWish_47 : decode cX4_addWish 47 = .ok (.iadd, 1) := by decide +kernel
theorem dX4_addWish_48 : decode cX4_addWish 48 = .ok (.iastore, 1) := by decide +kernel
theorem dX4_addWish_49 : decode cX4_addWish 49 = .ok (.aload_n 0, 1) := by decide +kernel
theorem dX4_addWish_50 : decode cX4_addWish 50 = .ok (.iconst 0, 1) := by decide +kernel
theorem dX4_addWish_51 : decode cX4_addWish 51 = .ok (.putfield 52, 3) := by decide +kernel
theorem dX4_addWish_54 : decode cX4_addWish 54 = .ok (.aload_n 0, 1) := by decide +kernel
theorem dX4_addWish_55 : decode cX4_addWish 55 = .ok (.iconst 0, 1) := by decide +kernel
theorem dX4_addWish_56 : decode cX4_addWish 56 = .ok (.putfield 56, 3) := by decide +kernel
theorem dX4_addWish_59 : decode cX4_addWish 59 = .ok (.aload_n 0, 1) := by decide +kernel
theorem dX4_addWish_60 : decode cX4_addWish 60 = .ok (.getfield 11, 3) := by decide +kernel
theorem dX4_addWish_63 : decode cX4_addWish 63 = .ok (.iload_n 3, 1) := by decide +kernel
theorem dX4_addWish_64 : decode cX4_addWish 64 = .ok (.iaload, 1) := by decide +kernel
theorem dX4_addWish_65 : decode cX4_addWish 65 = .ok (.ireturn, 1) := by decide +kernel
theorem dX6_putNumber_0 : decode cX6_putNumber 0 = .ok (.iload_n 3, 1) := by decide +kernel
theorem dX6_putNumber_1 : decode cX6_putNumber 1 = .ok (.iload_n 2, 1) := by decide +kernel
theorem dX6_putNumber_2 : decode cX6_putNumber 2 = .ok (.isub, 1) := by decide +kernel
theorem dX6_putNumber_3 : decode cX6_putNumber 3 = .ok (.bipush 9, 2) := by decide +kernel
theorem dX6_putNumber_5 : decode cX6_putNumber 5 = .ok (.if_icmp .le 12, 3) := by decide +kernel
theorem dX6_putNumber_8 : decode cX6_putNumber 8 = .ok (.aload_n 0, 1) := by decide +kernel
theorem dX6_putNumber_9 : decode cX6_putNumber 9 = .ok (.bipush (-3), 2) := by decide +kernel
theorem dX6_putNumber_11 : decode cX6_putNumber 11 = .ok (.iconst 0, 1) := by decide +kernel
theorem dX6_putNumber_12 : decode cX6_putNumber 12 = .ok (.iload_n 2, 1) := by decide +kernel
theorem dX6_putNumber_13 : decode cX6_putNumber 13 = .ok (.invokevirtual 94, 3) := by decide +kernel
theorem dX6_putNumber_16 : decode cX6_putNumber 16 = .ok (.return_, 1) := by decide +kernel
theorem dX6_putNumber_17 : decode cX6_putNumber 17 = .ok (.iconst 0, 1) := by decide +kernel
theorem dX6_putNumber_18 : decode cX6_putNumber 18 = .ok (.istore 4, 2) := by decide +kernel
theorem dX6_putNumber_20 : decode cX6_putNumber 20 = .ok (.iload_n 2, 1) := by decide +kernel
theorem dX6_putNumber_21 : decode cX6_putNumber 21 = .ok (.istore 5, 2) := by decide +kernel
theorem dX6_putNumber_23 : decode cX6_putNumber 23 = .ok (.iload 5, 2) := by decide +kernel
theorem dX6_putNumber_25 : decode cX6_putNumber 25 = .ok (.iload_n 3, 1) := by decide +kernel
theorem dX6_putNumber_26 : decode cX6_putNumber 26 = .ok (.if_icmp .ge 24, 3) := by decide +kernel
theorem dX6_putNumber_29 : decode cX6_putNumber 29 = .ok (.iload 4, 2) := by decide +kernel
theorem dX6_putNumber_31 : decode cX6_putNumber 31 = .ok (.bipush 10, 2) := by decide +kernel
theorem dX6_putNumber_33 : decode cX6_putNumber 33 = .ok (.imul, 1) := by decide +kernel
theorem dX6_putNumber_34 : decode cX6_putNumber 34 = .ok (.aload_n 1, 1) := by decide +kernel
theorem dX6_putNumber_35 : decode cX6_putNumber 35 = .ok (.iload 5, 2) := by decide +kernel
theorem dX6_putNumber_37 : decode cX6_putNumber 37 = .ok (.iaload, 1) := by decide +kernel
theorem dX6_putNumber_38 : decode cX6_putNumber 38 = .ok (.iadd, 1) := by decide +kernel
theorem dX6_putNumber_39 : decode cX6_putNumber 39 = .ok (.bipush 48, 2) := by decide +kernel
theorem dX6_putNumber_41 : decode cX6_putNumber 41 = .ok (.isub, 1) := by decide +kernel
theorem dX6_putNumber_42 : decode cX6_putNumber 42 = .ok (.istore 4, 2) := by decide +kernel
theorem dX6_putNumber_44 : decode cX6_putNumber 44 = .ok (.iinc 5 1, 3) := by decide +kernel
theorem dX6_putNumber_47 : decode cX6_putNumber 47 = .ok (.goto (-24), 3) := by decide +kernel
theorem dX6_putNumber_50 : decode cX6_putNumber 50 = .ok (.aload_n 0, 1) := by decide +kernel
theorem dX6_putNumber_51 : decode cX6_putNumber 51 = .ok (.bipush (-2), 2) := by decide +kernel
theorem dX6_putNumber_53 : decode cX6_putNumber 53 = .ok (.iload 4, 2) := by decide +kernel
theorem dX6_putNumber_55 : decode cX6_putNumber 55 = .ok (.iload_n 2, 1) := by decide +kernel
theorem dX6_putNumber_56 : decode cX6_putNumber 56 = .ok (.invokevirtual 94, 3) := by decide +kernel
theorem dX6_putNumber_59 : decode cX6_putNumber 59 = .ok (.return_, 1) := by decide +kernel
theorem dX6_read_0 : decode cX6_read 0 = .ok (.aload_n 0, 1) := by decide +kernel
theorem dX6_read_1 : decode cX6_read 1 = .ok (.iconst 0, 1) := by decide +kernel
theorem dX6_read_2 : decode cX6_read 2 = .ok (.putfield 37, 3) := by decide +kernel
theorem dX6_read_5 : decode cX6_read 5 = .ok (.aload_n 0, 1) := by decide +kernel
theorem dX6_read_6 : decode cX6_read 6 = .ok (.iconst 0, 1) := by decide +kernel
theorem dX6_read_7 : decode cX6_read 7 = .ok (.putfield 41, 3) := by decide +kernel
theorem dX6_read_10 : decode cX6_read 10 = .ok (.aload_n 0, 1) := by decide +kernel
theorem dX6_read_11 : decode cX6_read 11 = .ok (.iconst 0, 1) := by decide +kernel
theorem dX6_read_12 : decode cX6_read 12 = .ok (.putfield 44, 3) := by decide +kernel
theorem dX6_read_15 : decode cX6_read 15 = .ok (.aload_n 0, 1) := by decide +kernel
theorem dX6_read_16 : decode cX6_read 16 = .ok (.iconst 0, 1) := by decide +kernel
theorem dX6_read_17 : decode cX6_read 17 = .ok (.putfield 47, 3) := by decide +kernel
theorem dX6_read_20 : decode cX6_read 20 = .ok (.aload_n 0, 1) := by decide +kernel
theorem dX6_read_21 : decode cX6_read 21 = .ok (.iconst 0, 1) := by decide +kernel
theorem dX6_read_22 : decode cX6_read 22 = .ok (.putfield 50, 3) := by decide +kernel
theorem dX6_read_25 : decode cX6_read 25 = .ok (.aload_n 0, 1) := by decide +kernel
theorem dX6_read_26 : decode cX6_read 26 = .ok (.iconst 0, 1) := by decide +kernel
theorem dX6_read_27 : decode cX6_read 27 = .ok (.putfield 53, 3) := by decide +kernel
theorem dX6_read_30 : decode cX6_read 30 = .ok (.aload_n 0, 1) := by decide +kernel
theorem dX6_read_31 : decode cX6_read 31 = .ok (.iload_n 3, 1) := by decide +kernel
theorem dX6_read_32 : decode cX6_read 32 = .ok (.putfield 56, 3) := by decide +kernel
theorem dX6_read_35 : decode cX6_read 35 = .ok (.aload_n 0, 1) := by decide +kernel
theorem dX6_read_36 : decode cX6_read 36 = .ok (.aload_n 1, 1) := by decide +kernel
theorem dX6_read_37 : decode cX6_read 37 = .ok (.iload_n 2, 1) := by decide +kernel
theorem dX6_read_38 : decode cX6_read 38 = .ok (.invokevirtual 59, 3) := by decide +kernel
theorem dX6_read_41 : decode cX6_read 41 = .ok (.aload_n 0, 1) := by decide +kernel
theorem dX6_read_42 : decode cX6_read 42 = .ok (.iconst 0, 1) := by decide +kernel
theorem dX6_read_43 : decode cX6_read 43 = .ok (.putfield 63, 3) := by decide +kernel
theorem dX6_read_46 : decode cX6_read 46 = .ok (.iconst 0, 1) := by decide +kernel
theorem dX6_read_47 : decode cX6_read 47 = .ok (.istore 4, 2) := by decide +kernel
theorem dX6_read_49 : decode cX6_read 49 = .ok (.iload 4, 2) := by decide +kernel
theorem dX6_read_51 : decode cX6_read 51 = .ok (.sipush 1000, 3) := by decide +kernel
theorem dX6_read_54 : decode cX6_read 54 = .ok (.if_icmp .gt 26, 3) := by decide +kernel
theorem dX6_read_57 : decode cX6_read 57 = .ok (.aload_n 0, 1) := by decide +kernel
theorem dX6_read_58 : decode cX6_read 58 = .ok (.getfield 9, 3) := by decide +kernel
theorem dX6_read_61 : decode cX6_read 61 = .ok (.aload_n 0, 1) := by decide +kernel
theorem dX6_read_62 : decode cX6_read 62 = .ok (.getfield 63, 3) := by decide +kernel
theorem dX6_read_65 : decode cX6_read 65 = .ok (.iaload, 1) := by decide +kernel
theorem dX6_read_66 : decode cX6_read 66 = .ok (.iconst (-1), 1) := by decide +kernel
theorem dX6_read_67 : decode cX6_read 67 = .ok (.if_icmp .eq 13, 3) := by decide +kernel
theorem dX6_read_70 : decode cX6_read 70 = .ok (.aload_n 0, 1) := by decide +kernel
theorem dX6_read_71 : decode cX6_read 71 = .ok (.invokevirtual 66, 3) := by decide +kernel
theorem dX6_read_74 : decode cX6_read 74 = .ok (.iinc 4 1, 3) := by decide +kernel
theorem dX6_read_77 : decode cX6_read 77 = .ok (.goto (-28), 3) := by decide +kernel
theorem dX6_read_80 : decode cX6_read 80 = .ok (.return_, 1) := by decide +kernel
theorem dX6_split_0 : decode cX6_split 0 = .ok (.aload_n 0, 1) := by decide +kernel
theorem dX6_split_1 : decode cX6_split 1 = .ok (.iconst 0, 1) := by decide +kernel
theorem dX6_split_2 : decode cX6_split 2 = .ok (.putfield 83, 3) := by decide +kernel
theorem dX6_split_5 : decode cX6_split 5 = .ok (.iconst 0, 1) := by decide +kernel
theorem dX6_split_6 : decode cX6_split 6 = .ok (.istore_n 3, 1) := by decide +kernel
theorem dX6_split_7 : decode cX6_split 7 = .ok (.iload_n 3, 1) := by decide +kernel
theorem dX6_split_8 : decode cX6_split 8 = .ok (.iload_n 2, 1) := by decide +kernel
theorem dX6_split_9 : decode cX6_split 9 = .ok (.if_icmp .ge 134, 3) := by decide +kernel
theorem dX6_split_12 : decode cX6_split 12 = .ok (.aload_n 1, 1) := by decide +kernel
theorem dX6_split_13 : decode cX6_split 13 = .ok (.iload_n 3, 1) := by decide +kernel
theorem dX6_split_14 : decode cX6_split 14 = .ok (.iaload, 1) := by decide +kernel
theorem dX6_split_15 : decode cX6_split 15 = .ok (.istore 4, 2) := by decide +kernel
theorem dX6_split_17 : decode cX6_split 17 = .ok (.iload_n 3, 1) := by decide +kernel
theorem dX6_split_18 : decode cX6_split 18 = .ok (.iconst 1, 1) := by decide +kernel
theorem dX6_split_19 : decode cX6_split 19 = .ok (.iadd, 1) := by decide +kernel
theorem dX6_split_20 : decode cX6_split 20 = .ok (.istore 5, 2) := by decide +kernel
theorem dX6_split_22 : decode cX6_split 22 = .ok (.iload 4, 2) := by decide +kernel
theorem dX6_split_24 : decode cX6_split 24 = .ok (.invokestatic 86, 3) := by decide +kernel
theorem dX6_split_27 : decode cX6_split 27 = .ok (.ifCond .eq 43, 3) := by decide +kernel
theorem dX6_split_30 : decode cX6_split 30 = .ok (.iload 5, 2) := by decide +kernel
theorem dX6_split_32 : decode cX6_split 32 = .ok (.iload_n 2, 1) := by decide +kernel
theorem dX6_split_33 : decode cX6_split 33 = .ok (.if_icmp .ge 19, 3) := by decide +kernel
theorem dX6_split_36 : decode cX6_split 36 = .ok (.aload_n 1, 1) := by decide +kernel
theorem dX6_split_37 : decode cX6_split 37 = .ok (.iload 5, 2) := by decide +kernel
theorem dX6_split_39 : decode cX6_split 39 = .ok (.iaload, 1) := by decide +kernel
theorem dX6_split_40 : decode cX6_split 40 = .ok (.invokestatic 86, 3) := by decide +kernel
theorem dX6_split_43 : decode cX6_split 43 = .ok (.ifCond .eq 9, 3) := by decide +kernel
theorem dX6_split_46 : decode cX6_split 46 = .ok (.iinc 5 1, 3) := by decide +kernel
theorem dX6_split_49 : decode cX6_split 49 = .ok (.goto (-19), 3) := by decide +kernel
theorem dX6_split_52 : decode cX6_split 52 = .ok (.aload_n 0, 1) := by decide +kernel
theorem dX6_split_53 : decode cX6_split 53 = .ok (.aload_n 1, 1) := by decide +kernel
theorem dX6_split_54 : decode cX6_split 54 = .ok (.iload_n 3, 1) := by decide +kernel
theorem dX6_split_55 : decode cX6_split 55 = .ok (.iload 5, 2) := by decide +kernel
theorem dX6_split_57 : decode cX6_split 57 = .ok (.iload_n 3, 1) := by decide +kernel
theorem dX6_split_58 : decode cX6_split 58 = .ok (.isub, 1) := by decide +kernel
theorem dX6_split_59 : decode cX6_split 59 = .ok (.invokestatic 90, 3) := by decide +kernel
theorem dX6_split_62 : decode cX6_split 62 = .ok (.iconst 0, 1) := by decide +kernel
theorem dX6_split_63 : decode cX6_split 63 = .ok (.iload_n 3, 1) := by decide +kernel
theorem dX6_split_64 : decode cX6_split 64 = .ok (.invokevirtual 94, 3) := by decide +kernel
theorem dX6_split_67 : decode cX6_split 67 = .ok (.goto 70, 3) := by decide +kernel
theorem dX6_split_70 : decode cX6_split 70 = .ok (.iload 4, 2) := by decide +kernel
theorem dX6_split_72 : decode cX6_split 72 = .ok (.invokestatic 98, 3) := by decide +kernel
theorem dX6_split_75 : decode cX6_split 75 = .ok (.ifCond .eq 36, 3) := by decide +kernel
theorem dX6_split_78 : decode cX6_split 78 = .ok (.iload 5, 2) := by decide +kernel
theorem dX6_split_80 : decode cX6_split 80 = .ok (.iload_n 2, 1) := by decide +kernel
theorem dX6_split_81 : decode cX6_split 81 = .ok (.if_icmp .ge 19, 3) := by decide +kernel
theorem dX6_split_84 : decode cX6_split 84 = .ok (.aload_n 1, 1) := by decide +kernel
theorem dX6_split_85 : decode cX6_split 85 = .ok (.iload 5, 2) := by decide +kernel
theorem dX6_split_87 : decode cX6_split 87 = .ok (.iaload, 1) := by decide +kernel
theorem dX6_split_88 : decode cX6_split 88 = .ok (.invokestatic 98, 3) := by decide +kernel
theorem dX6_split_91 : decode cX6_split 91 = .ok (.ifCond .eq 9, 3) := by decide +kernel
theorem dX6_split_94 : decode cX6_split 94 = .ok (.iinc 5 1, 3) := by decide +kernel
theorem dX6_split_97 : decode cX6_split 97 = .ok (.goto (-19), 3) := by decide +kernel
theorem dX6_split_100 : decode cX6_split 100 = .ok (.aload_n 0, 1) := by decide +kernel
theorem dX6_split_101 : decode cX6_split 101 = .ok (.aload_n 1, 1) := by decide +kernel
theorem dX6_split_102 : decode cX6_split 102 = .ok (.iload_n 3, 1) := by decide +kernel
theorem dX6_split_103 : decode cX6_split 103 = .ok (.iload 5, 2) := by decide +kernel
theorem dX6_split_105 : decode cX6_split 105 = .ok (.invokevirtual 101, 3) := by decide +kernel
theorem dX6_split_108 : decode cX6_split 108 = .ok (.goto 29, 3) := by decide +kernel
theorem dX6_split_111 : decode cX6_split 111 = .ok (.iload 4, 2) := by decide +kernel
theorem dX6_split_113 : decode cX6_split 113 = .ok (.bipush 32, 2) := by decide +kernel
theorem dX6_split_115 : decode cX6_split 115 = .ok (.if_icmp .eq 22, 3) := by decide +kernel
theorem dX6_split_118 : decode cX6_split 118 = .ok (.iload 4, 2) := by decide +kernel
theorem dX6_split_120 : decode cX6_split 120 = .ok (.bipush 10, 2) := by decide +kernel
theorem dX6_split_122 : decode cX6_split 122 = .ok (.if_icmp .eq 15, 3) := by decide +kernel
theorem dX6_split_125 : decode cX6_split 125 = .ok (.aload_n 0, 1) := by decide +kernel
theorem dX6_split_126 : decode cX6_split 126 = .ok (.sipush 1000, 3) := by decide +kernel
theorem dX6_split_129 : decode cX6_split 129 = .ok (.iload 4, 2) := by decide +kernel
theorem dX6_split_131 : decode cX6_split 131 = .ok (.iadd, 1) := by decide +kernel
theorem dX6_split_132 : decode cX6_split 132 = .ok (.iconst 0, 1) := by decide +kernel
theorem dX6_split_133 : decode cX6_split 133 = .ok (.iload_n 3, 1) := by decide +kernel
theorem dX6_split_134 : decode cX6_split 134 = .ok (.invokevirtual 94, 3) := by decide +kernel
theorem dX6_split_137 : decode cX6_split 137 = .ok (.iload 5, 2) := by decide +kernel
theorem dX6_split_139 : decode cX6_split 139 = .ok (.istore_n 3, 1) := by decide +kernel
theorem dX6_split_140 : decode cX6_split 140 = .ok (.goto (-133), 3) := by decide +kernel
theorem dX6_split_143 : decode cX6_split 143 = .ok (.aload_n 0, 1) := by decide +kernel
theorem dX6_split_144 : decode cX6_split 144 = .ok (.getfield 9, 3) := by decide +kernel
theorem dX6_split_147 : decode cX6_split 147 = .ok (.aload_n 0, 1) := by decide +kernel
theorem dX6_split_148 : decode cX6_split 148 = .ok (.getfield 83, 3) := by decide +kernel
theorem dX6_split_151 : decode cX6_split 151 = .ok (.iconst (-1), 1) := by decide +kernel
theorem dX6_split_152 : decode cX6_split 152 = .ok (.iastore, 1) := by decide +kernel
theorem dX6_split_153 : decode cX6_split 153 = .ok (.aload_n 0, 1) := by decide +kernel
theorem dX6_split_154 : decode cX6_split 154 = .ok (.getfield 18, 3) := by decide +kernel
theorem dX6_split_157 : decode cX6_split 157 = .ok (.aload_n 0, 1) := by decide +kernel
theorem dX6_split_158 : decode cX6_split 158 = .ok (.getfield 83, 3) := by decide +kernel
theorem dX6_split_161 : decode cX6_split 161 = .ok (.iload_n 2, 1) := by decide +kernel
theorem dX6_split_162 : decode cX6_split 162 = .ok (.iastore, 1) := by decide +kernel
theorem dX6_split_163 : decode cX6_split 163 = .ok (.return_, 1) := by decide +kernel
theorem dX6_wordAt_0 : decode cX6_wordAt 0 = .ok (.iconst 0, 1) := by decide +kernel
theorem dX6_wordAt_1 : decode cX6_wordAt 1 = .ok (.istore_n 3, 1) := by decide +kernel
theorem dX6_wordAt_2 : decode cX6_wordAt 2 = .ok (.iconst 0, 1) := by decide +kernel
theorem dX6_wordAt_3 : decode cX6_wordAt 3 = .ok (.istore 4, 2) := by decide +kernel
theorem dX6_wordAt_5 : decode cX6_wordAt 5 = .ok (.iconst 1, 1) := by decide +kernel
theorem dX6_wordAt_6 : decode cX6_wordAt 6 = .ok (.istore 5, 2) := by decide +kernel
theorem dX6_wordAt_8 : decode cX6_wordAt 8 = .ok (.iconst 0, 1) := by decide +kernel
theorem dX6_wordAt_9 : decode cX6_wordAt 9 = .ok (.istore 6, 2) := by decide +kernel
theorem dX6_wordAt_11 : decode cX6_wordAt 11 = .ok (.iload 6, 2) := by decide +kernel
theorem dX6_wordAt_13 : decode cX6_wordAt 13 = .ok (.ldc 105, 2) := by decide +kernel
theorem dX6_wordAt_15 : decode cX6_wordAt 15 = .ok (.invokevirtual 107, 3) := by decide +kernel
theorem dX6_wordAt_18 : decode cX6_wordAt 18 = .ok (.if_icmp .ge 91, 3) := by decide +kernel
theorem dX6_wordAt_21 : decode cX6_wordAt 21 = .ok (.ldc 105, 2) := by decide +kernel
theorem dX6_wordAt_23 : decode cX6_wordAt 23 = .ok (.iload 6, 2) := by decide +kernel
theorem dX6_wordAt_25 : decode cX6_wordAt 25 = .ok (.invokevirtual 113, 3) := by decide +kernel
theorem dX6_wordAt_28 : decode cX6_wordAt 28 = .ok (.istore 7, 2) := by decide +kernel
theorem dX6_wordAt_30 : decode cX6_wordAt 30 = .ok (.iload 7, 2) := by decide +kernel
theorem dX6_wordAt_32 : decode cX6_wordAt 32 = .ok (.bipush 32, 2) := by decide +kernel
theorem dX6_wordAt_34 : decode cX6_wordAt 34 = .ok (.if_icmp .eq 41, 3) := by decide +kernel
theorem dX6_wordAt_37 : decode cX6_wordAt 37 = .ok (.iload 5, 2) := by decide +kernel
theorem dX6_wordAt_39 : decode cX6_wordAt 39 = .ok (.ifCond .eq 30, 3) := by decide +kernel
theorem dX6_wordAt_42 : decode cX6_wordAt 42 = .ok (.iload 6, 2) := by decide +kernel
theorem dX6_wordAt_44 : decode cX6_wordAt 44 = .ok (.iload 4, 2) := by decide +kernel
theorem dX6_wordAt_46 : decode cX6_wordAt 46 = .ok (.isub, 1) := by decide +kernel
theorem dX6_wordAt_47 : decode cX6_wordAt 47 = .ok (.iload_n 2, 1) := by decide +kernel
theorem dX6_wordAt_48 : decode cX6_wordAt 48 = .ok (.if_icmp .ge 21, 3) := by decide +kernel
theorem dX6_wordAt_51 : decode cX6_wordAt 51 = .ok (.aload_n 0, 1) := by decide +kernel
theorem dX6_wordAt_52 : decode cX6_wordAt 52 = .ok (.iload_n 1, 1) := by decide +kernel
theorem dX6_wordAt_53 : decode cX6_wordAt 53 = .ok (.iload 6, 2) := by decide +kernel
theorem dX6_wordAt_55 : decode cX6_wordAt 55 = .ok (.iadd, 1) := by decide +kernel
theorem dX6_wordAt_56 : decode cX6_wordAt 56 = .ok (.iload 4, 2) := by decide +kernel
theorem dX6_wordAt_58 : decode cX6_wordAt 58 = .ok (.isub, 1) := by decide +kernel
theorem dX6_wordAt_59 : decode cX6_wordAt 59 = .ok (.iaload, 1) := by decide +kernel
theorem dX6_wordAt_60 : decode cX6_wordAt 60 = .ok (.iload 7, 2) := by decide +kernel
theorem dX6_wordAt_62 : decode cX6_wordAt 62 = .ok (.if_icmp .ne 7, 3) := by decide +kernel
theorem dX6_wordAt_65 : decode cX6_wordAt 65 = .ok (.iconst 1, 1) := by decide +kernel
theorem dX6_wordAt_66 : decode cX6_wordAt 66 = .ok (.goto 4, 3) := by decide +kernel
theorem dX6_wordAt_69 : decode cX6_wordAt 69 = .ok (.iconst 0, 1) := by decide +kernel
theorem dX6_wordAt_70 : decode cX6_wordAt 70 = .ok (.istore 5, 2) := by decide +kernel
theorem dX6_wordAt_72 : decode cX6_wordAt 72 = .ok (.goto 31, 3) := by decide +kernel
theorem dX6_wordAt_75 : decode cX6_wordAt 75 = .ok (.iload 5, 2) := by decide +kernel
theorem dX6_wordAt_77 : decode cX6_wordAt 77 = .ok (.ifCond .eq 14, 3) := by decide +kernel
theorem dX6_wordAt_80 : decode cX6_wordAt 80 = .ok (.iload 6, 2) := by decide +kernel
theorem dX6_wordAt_82 : decode cX6_wordAt 82 = .ok (.iload 4, 2) := by decide +kernel
theorem dX6_wordAt_84 : decode cX6_wordAt 84 = .ok (.isub, 1) := by decide +kernel
theorem dX6_wordAt_85 : decode cX6_wordAt 85 = .ok (.iload_n 2, 1) := by decide +kernel
theorem dX6_wordAt_86 : decode cX6_wordAt 86 = .ok (.if_icmp .ne 5, 3) := by decide +kernel
theorem dX6_wordAt_89 : decode cX6_wordAt 89 = .ok (.iload_n 3, 1) := by decide +kernel
theorem dX6_wordAt_90 : decode cX6_wordAt 90 = .ok (.ireturn, 1) := by decide +kernel
theorem dX6_wordAt_91 : decode cX6_wordAt 91 = .ok (.iinc 3 1, 3) := by decide +kernel
theorem dX6_wordAt_94 : decode cX6_wordAt 94 = .ok (.iload 6, 2) := by decide +kernel
theorem dX6_wordAt_96 : decode cX6_wordAt 96 = .ok (.iconst 1, 1) := by decide +kernel
theorem dX6_wordAt_97 : decode cX6_wordAt 97 = .ok (.iadd, 1) := by decide +kernel
theorem dX6_wordAt_98 : decode cX6_wordAt 98 = .ok (.istore 4, 2) := by decide +kernel
theorem dX6_wordAt_100 : decode cX6_wordAt 100 = .ok (.iconst 1, 1) := by decide +kernel
theorem dX6_wordAt_101 : decode cX6_wordAt 101 = .ok (.istore 5, 2) := by decide +kernel
theorem dX6_wordAt_103 : decode cX6_wordAt 103 = .ok (.iinc 6 1, 3) := by decide +kernel
theorem dX6_wordAt_106 : decode cX6_wordAt 106 = .ok (.goto (-95), 3) := by decide +kernel
theorem dX6_wordAt_109 : decode cX6_wordAt 109 = .ok (.bipush (-3), 2) := by decide +kernel
theorem dX6_wordAt_111 : decode cX6_wordAt 111 = .ok (.ireturn, 1) := by decide +kernel
