theorem dX11_tries_0 : decode cX11_tries 0 = .ok (.iload_n 1, 1) := by decide +kernel
theorem dX11_tries_1 : decode cX11_tries 1 = .ok (.ifCond .lt 8, 3) := by decide +kernel
theorem dX11_tries_4 : decode cX11_tries 4 = .ok (.iload_n 1, 1) := by decide +kernel
theorem dX11_tries_5 : decode cX11_tries 5 = .ok (.iconst 3, 1) := by decide +kernel
theorem dX11_tries_6 : decode cX11_tries 6 = .ok (.if_icmp .le 5, 3) := by decide +kernel
theorem dX11_tries_9 : decode cX11_tries 9 = .ok (.iconst (-1), 1) := by decide +kernel
theorem dX11_tries_10 : decode cX11_tries 10 = .ok (.ireturn, 1) := by decide +kernel
theorem dX11_tries_11 : decode cX11_tries 11 = .ok (.aload_n 0, 1) := by decide +kernel
theorem dX11_tries_12 : decode cX11_tries 12 = .ok (.getfield 72, 3) := by decide +kernel
theorem dX11_tries_15 : decode cX11_tries 15 = .ok (.invokevirtual 420, 3) := by decide +kernel
theorem dX11_tries_18 : decode cX11_tries 18 = .ok (.aload_n 0, 1) := by decide +kernel
theorem dX11_tries_19 : decode cX11_tries 19 = .ok (.getfield 72, 3) := by decide +kernel
theorem dX11_tries_22 : decode cX11_tries 22 = .ok (.getfield 423, 3) := by decide +kernel
theorem dX11_tries_25 : decode cX11_tries 25 = .ok (.iload_n 1, 1) := by decide +kernel
theorem dX11_tries_26 : decode cX11_tries 26 = .ok (.iaload, 1) := by decide +kernel
theorem dX11_tries_27 : decode cX11_tries 27 = .ok (.ireturn, 1) := by decide +kernel
theorem dX4_explore_0 : decode cX4_explore 0 = .ok (.aload_n 0, 1) := by decide +kernel
theorem dX4_explore_1 : decode cX4_explore 1 = .ok (.getfield 56, 3) := by decide +kernel
theorem dX4_explore_4 : decode cX4_explore 4 = .ok (.ifCond .eq 4, 3) := by decide +kernel
theorem dX4_explore_7 : decode cX4_explore 7 = .ok (.return_, 1) := by decide +kernel
theorem dX4_explore_8 : decode cX4_explore 8 = .ok (.aload_n 0, 1) := by decide +kernel
theorem dX4_explore_9 : decode cX4_explore 9 = .ok (.invokevirtual 79, 3) := by decide +kernel
theorem dX4_explore_12 : decode cX4_explore 12 = .ok (.aload_n 0, 1) := by decide +kernel
theorem dX4_explore_13 : decode cX4_explore 13 = .ok (.invokevirtual 104, 3) := by decide +kernel
theorem dX4_explore_16 : decode cX4_explore 16 = .ok (.aload_n 0, 1) := by decide +kernel
theorem dX4_explore_17 : decode cX4_explore 17 = .ok (.invokevirtual 107, 3) := by decide +kernel
theorem dX4_explore_20 : decode cX4_explore 20 = .ok (.istore_n 1, 1) := by decide +kernel
theorem dX4_explore_21 : decode cX4_explore 21 = .ok (.aload_n 0, 1) := by decide +kernel
theorem dX4_explore_22 : decode cX4_explore 22 = .ok (.invokevirtual 111, 3) := by decide +kernel
theorem dX4_explore_25 : decode cX4_explore 25 = .ok (.istore_n 2, 1) := by decide +kernel
theorem dX4_explore_26 : decode cX4_explore 26 = .ok (.aload_n 0, 1) := by decide +kernel
theorem dX4_explore_27 : decode cX4_explore 27 = .ok (.getfield 43, 3) := by decide +kernel
theorem dX4_explore_30 : decode cX4_explore 30 = .ok (.iconst 0, 1) := by decide +kernel
theorem dX4_explore_31 : decode cX4_explore 31 = .ok (.iload_n 1, 1) := by decide +kernel
theorem dX4_explore_32 : decode cX4_explore 32 = .ok (.iastore, 1) := by decide +kernel
theorem dX4_explore_33 : decode cX4_explore 33 = .ok (.aload_n 0, 1) := by decide +kernel
theorem dX4_explore_34 : decode cX4_explore 34 = .ok (.getfield 43, 3) := by decide +kernel
theorem dX4_explore_37 : decode cX4_explore 37 = .ok (.iconst 2, 1) := by decide +kernel
theorem dX4_explore_38 : decode cX4_explore 38 = .ok (.iload_n 1, 1) := by decide +kernel
theorem dX4_explore_39 : decode cX4_explore 39 = .ok (.iload_n 2, 1) := by decide +kernel
theorem dX4_explore_40 : decode cX4_explore 40 = .ok (.isub, 1) := by decide +kernel
theorem dX4_explore_41 : decode cX4_explore 41 = .ok (.iastore, 1) := by decide +kernel
theorem dX4_explore_42 : decode cX4_explore 42 = .ok (.aload_n 0, 1) := by decide +kernel
theorem dX4_explore_43 : decode cX4_explore 43 = .ok (.iconst 1, 1) := by decide +kernel
theorem dX4_explore_44 : decode cX4_explore 44 = .ok (.putfield 56, 3) := by decide +kernel
theorem dX4_explore_47 : decode cX4_explore 47 = .ok (.return_, 1) := by decide +kernel
theorem dX4_keepRest_0 : decode cX4_keepRest 0 = .ok (.aload_n 0, 1) := by decide +kernel
theorem dX4_keepRest_1 : decode cX4_keepRest 1 = .ok (.getfield 82, 3) := by decide +kernel
theorem dX4_keepRest_4 : decode cX4_keepRest 4 = .ok (.aload_n 0, 1) := by decide +kernel
theorem dX4_keepRest_5 : decode cX4_keepRest 5 = .ok (.getfield 36, 3) := by decide +kernel
theorem dX4_keepRest_8 : decode cX4_keepRest 8 = .ok (.arraylength, 1) := by decide +kernel
theorem dX4_keepRest_9 : decode cX4_keepRest 9 = .ok (.if_icmp .lt 20, 3) := by decide +kernel
theorem dX4_keepRest_29 : decode cX4_keepRest 29 = .ok (.aload_n 0, 1) := by decide +kernel
theorem dX4_keepRest_30 : decode cX4_keepRest 30 = .ok (.getfield 36, 3) := by decide +kernel
theorem dX4_keepRest_33 : decode cX4_keepRest 33 = .ok (.aload_n 0, 1) := by decide +kernel
theorem dX4_keepRest_34 : decode cX4_keepRest 34 = .ok (.getfield 82, 3) := by decide +kernel
theorem dX4_keepRest_37 : decode cX4_keepRest 37 = .ok (.iload_n 1, 1) := by decide +kernel
theorem dX4_keepRest_38 : decode cX4_keepRest 38 = .ok (.iastore, 1) := by decide +kernel
theorem dX4_keepRest_39 : decode cX4_keepRest 39 = .ok (.aload_n 0, 1) := by decide +kernel
theorem dX4_keepRest_40 : decode cX4_keepRest 40 = .ok (.dup, 1) := by decide +kernel
theorem dX4_keepRest_41 : decode cX4_keepRest 41 = .ok (.getfield 82, 3) := by decide +kernel
theorem dX4_keepRest_44 : decode cX4_keepRest 44 = .ok (.iconst 1, 1) := by decide +kernel
theorem dX4_keepRest_45 : decode cX4_keepRest 45 = .ok (.iadd, 1) := by decide +kernel
theorem dX4_keepRest_46 : decode cX4_keepRest 46 = .ok (.putfield 82, 3) := by decide +kernel
theorem dX4_keepRest_49 : decode cX4_keepRest 49 = .ok (.return_, 1) := by decide +kernel
theorem dX4_makeRoom_0 : decode cX4_makeRoom 0 = .ok (.aload_n 0, 1) := by decide +kernel
theorem dX4_makeRoom_1 : decode cX4_makeRoom 1 = .ok (.getfield 59, 3) := by decide +kernel
theorem dX4_makeRoom_4 : decode cX4_makeRoom 4 = .ok (.aload_n 0, 1) := by decide +kernel
theorem dX4_makeRoom_5 : decode cX4_makeRoom 5 = .ok (.getfield 33, 3) := by decide +kernel
theorem dX4_makeRoom_8 : decode cX4_makeRoom 8 = .ok (.arraylength, 1) := by decide +kernel
theorem dX4_makeRoom_9 : decode cX4_makeRoom 9 = .ok (.if_icmp .le 32, 3) := by decide +kernel
theorem dX4_makeRoom_12 : decode cX4_makeRoom 12 = .ok (.aload_n 0, 1) := by decide +kernel
theorem dX4_makeRoom_13 : decode cX4_makeRoom 13 = .ok (.getfield 59, 3) := by decide +kernel
theorem dX4_makeRoom_16 : decode cX4_makeRoom 16 = .ok (.iconst 2, 1) := by decide +kernel
theorem dX4_makeRoom_17 : decode cX4_makeRoom 17 = .ok (.aload_n 0, 1) := by decide +kernel
theorem dX4_makeRoom_18 : decode cX4_makeRoom 18 = .ok (.getfield 33, 3) := by decide +kernel
theorem dX4_makeRoom_21 : decode cX4_makeRoom 21 = .ok (.arraylength, 1) := by decide +kernel
theorem dX4_makeRoom_22 : decode cX4_makeRoom 22 = .ok (.imul, 1) := by decide +kernel
theorem dX4_makeRoom_23 : decode cX4_makeRoom 23 = .ok (.invokestatic 114, 3) := by decide +kernel
theorem dX4_makeRoom_26 : decode cX4_makeRoom 26 = .ok (.istore_n 1, 1) := by decide +kernel
theorem dX4_makeRoom_27 : decode cX4_makeRoom 27 = .ok (.aload_n 0, 1) := by decide +kernel
theorem dX4_makeRoom_28 : decode cX4_makeRoom 28 = .ok (.iload_n 1, 1) := by decide +kernel
theorem dX4_makeRoom_29 : decode cX4_makeRoom 29 = .ok (.newarray .int, 2) := by decide +kernel
theorem dX4_makeRoom_31 : decode cX4_makeRoom 31 = .ok (.putfield 33, 3) := by decide +kernel
theorem dX4_makeRoom_34 : decode cX4_makeRoom 34 = .ok (.aload_n 0, 1) := by decide +kernel
theorem dX4_makeRoom_35 : decode cX4_makeRoom 35 = .ok (.iload_n 1, 1) := by decide +kernel
theorem dX4_makeRoom_36 : decode cX4_makeRoom 36 = .ok (.newarray .byte, 2) := by decide +kernel
theorem dX4_makeRoom_38 : decode cX4_makeRoom 38 = .ok (.putfield 39, 3) := by decide +kernel
theorem dX4_makeRoom_41 : decode cX4_makeRoom 41 = .ok (.aload_n 0, 1) := by decide +kernel
theorem dX4_makeRoom_42 : decode cX4_makeRoom 42 = .ok (.getfield 39, 3) := by decide +kernel
theorem dX4_makeRoom_45 : decode cX4_makeRoom 45 = .ok (.iconst 0, 1) := by decide +kernel
theorem dX4_makeRoom_46 : decode cX4_makeRoom 46 = .ok (.invokestatic 119, 3) := by decide +kernel
theorem dX4_makeRoom_49 : decode cX4_makeRoom 49 = .ok (.return_, 1) := by decide +kernel
