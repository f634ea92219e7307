theorem dX4_keepRest_12 : decode cX4_keepRest 12 = .ok (.aload_n 0, 1) := by decide +kernel
theorem dX4_keepRest_13 : decode cX4_keepRest 13 = .ok (.aload_n 0, 1) := by decide +kernel
theorem dX4_keepRest_14 : decode cX4_keepRest 14 = .ok (.getfield 36, 3) := by decide +kernel
theorem dX4_keepRest_17 : decode cX4_keepRest 17 = .ok (.iconst 2, 1) := by decide +kernel
theorem dX4_keepRest_18 : decode cX4_keepRest 18 = .ok (.aload_n 0, 1) := by decide +kernel
theorem dX4_keepRest_19 : decode cX4_keepRest 19 = .ok (.getfield 82, 3) := by decide +kernel
theorem dX4_keepRest_22 : decode cX4_keepRest 22 = .ok (.imul, 1) := by decide +kernel
theorem dX4_keepRest_23 : decode cX4_keepRest 23 = .ok (.invokestatic 98, 3) := by decide +kernel
theorem dX4_keepRest_26 : decode cX4_keepRest 26 = .ok (.putfield 36, 3) := by decide +kernel
