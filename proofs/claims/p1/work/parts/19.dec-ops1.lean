theorem dX11_go_18 : decode cX11_go 18 = .ok (.if_icmp .ge 22, 3) := by decide +kernel
theorem dX11_go_21 : decode cX11_go 21 = .ok (.aload_n 0, 1) := by decide +kernel
theorem dX11_go_22 : decode cX11_go 22 = .ok (.getfield 51, 3) := by decide +kernel
theorem dX11_go_25 : decode cX11_go 25 = .ok (.ldc_w 299, 3) := by decide +kernel
theorem dX11_go_28 : decode cX11_go 28 = .ok (.invokevirtual 300, 3) := by decide +kernel
theorem dX11_go_31 : decode cX11_go 31 = .ok (.ifCond .eq 9, 3) := by decide +kernel
theorem dX11_go_40 : decode cX11_go 40 = .ok (.iload_n 2, 1) := by decide +kernel
theorem dX11_go_41 : decode cX11_go 41 = .ok (.ireturn, 1) := by decide +kernel
theorem dX11_hand_0 : decode cX11_hand 0 = .ok (.aload_n 0, 1) := by decide +kernel
theorem dX11_hand_1 : decode cX11_hand 1 = .ok (.getfield 19, 3) := by decide +kernel
theorem dX11_hand_4 : decode cX11_hand 4 = .ok (.getfield 246, 3) := by decide +kernel
theorem dX11_hand_7 : decode cX11_hand 7 = .ok (.ifCond .ne 6, 3) := by decide +kernel
theorem dX11_hand_10 : decode cX11_hand 10 = .ok (.ldc 165, 2) := by decide +kernel
theorem dX11_hand_12 : decode cX11_hand 12 = .ok (.ireturn, 1) := by decide +kernel
theorem dX11_hear_0 : decode cX11_hear 0 = .ok (.aload_n 0, 1) := by decide +kernel
theorem dX11_hear_1 : decode cX11_hear 1 = .ok (.iload_n 1, 1) := by decide +kernel
theorem dX11_hear_2 : decode cX11_hear 2 = .ok (.invokevirtual 119, 3) := by decide +kernel
theorem dX11_hear_5 : decode cX11_hear 5 = .ok (.ifCond .eq 10, 3) := by decide +kernel
theorem dX11_hear_15 : decode cX11_hear 15 = .ok (.iconst (-1), 1) := by decide +kernel
theorem dX11_hear_16 : decode cX11_hear 16 = .ok (.ireturn, 1) := by decide +kernel
theorem dX11_heard_0 : decode cX11_heard 0 = .ok (.aload_n 0, 1) := by decide +kernel
theorem dX11_heard_1 : decode cX11_heard 1 = .ok (.iload_n 1, 1) := by decide +kernel
theorem dX11_heard_2 : decode cX11_heard 2 = .ok (.invokevirtual 119, 3) := by decide +kernel
theorem dX11_heard_5 : decode cX11_heard 5 = .ok (.ifCond .eq 26, 3) := by decide +kernel
theorem dX11_heard_31 : decode cX11_heard 31 = .ok (.iconst (-1), 1) := by decide +kernel
theorem dX11_heard_32 : decode cX11_heard 32 = .ok (.ireturn, 1) := by decide +kernel
theorem dX11_isDomain_0 : decode cX11_isDomain 0 = .ok (.iload_n 1, 1) := by decide +kernel
theorem dX11_isDomain_1 : decode cX11_isDomain 1 = .ok (.ifCond .lt 18, 3) := by decide +kernel
theorem dX11_isDomain_4 : decode cX11_isDomain 4 = .ok (.iload_n 1, 1) := by decide +kernel
theorem dX11_isDomain_5 : decode cX11_isDomain 5 = .ok (.aload_n 0, 1) := by decide +kernel
theorem dX11_isDomain_6 : decode cX11_isDomain 6 = .ok (.getfield 26, 3) := by decide +kernel
theorem dX11_isDomain_9 : decode cX11_isDomain 9 = .ok (.getfield 98, 3) := by decide +kernel
theorem dX11_isDomain_12 : decode cX11_isDomain 12 = .ok (.if_icmp .ge 7, 3) := by decide +kernel
theorem dX11_isDomain_19 : decode cX11_isDomain 19 = .ok (.iconst 0, 1) := by decide +kernel
theorem dX11_isDomain_20 : decode cX11_isDomain 20 = .ok (.ireturn, 1) := by decide +kernel
theorem dX11_isPrefix_0 : decode cX11_isPrefix 0 = .ok (.iload_n 1, 1) := by decide +kernel
theorem dX11_isPrefix_1 : decode cX11_isPrefix 1 = .ok (.ifCond .lt 18, 3) := by decide +kernel
theorem dX11_isPrefix_4 : decode cX11_isPrefix 4 = .ok (.iload_n 1, 1) := by decide +kernel
theorem dX11_isPrefix_5 : decode cX11_isPrefix 5 = .ok (.aload_n 0, 1) := by decide +kernel
theorem dX11_isPrefix_6 : decode cX11_isPrefix 6 = .ok (.getfield 26, 3) := by decide +kernel
theorem dX11_isPrefix_9 : decode cX11_isPrefix 9 = .ok (.getfield 92, 3) := by decide +kernel
theorem dX11_isPrefix_12 : decode cX11_isPrefix 12 = .ok (.if_icmp .ge 7, 3) := by decide +kernel
theorem dX11_isPrefix_19 : decode cX11_isPrefix 19 = .ok (.iconst 0, 1) := by decide +kernel
theorem dX11_isPrefix_20 : decode cX11_isPrefix 20 = .ok (.ireturn, 1) := by decide +kernel
theorem dX11_isTie_0 : decode cX11_isTie 0 = .ok (.iload_n 1, 1) := by decide +kernel
theorem dX11_isTie_1 : decode cX11_isTie 1 = .ok (.ifCond .lt 18, 3) := by decide +kernel
theorem dX11_isTie_4 : decode cX11_isTie 4 = .ok (.iload_n 1, 1) := by decide +kernel
theorem dX11_isTie_5 : decode cX11_isTie 5 = .ok (.aload_n 0, 1) := by decide +kernel
theorem dX11_isTie_6 : decode cX11_isTie 6 = .ok (.getfield 26, 3) := by decide +kernel
theorem dX11_isTie_9 : decode cX11_isTie 9 = .ok (.getfield 112, 3) := by decide +kernel
theorem dX11_isTie_12 : decode cX11_isTie 12 = .ok (.if_icmp .ge 7, 3) := by decide +kernel
theorem dX11_isTie_19 : decode cX11_isTie 19 = .ok (.iconst 0, 1) := by decide +kernel
theorem dX11_isTie_20 : decode cX11_isTie 20 = .ok (.ireturn, 1) := by decide +kernel
theorem dX11_judge_0 : decode cX11_judge 0 = .ok (.iload_n 1, 1) := by decide +kernel
theorem dX11_judge_1 : decode cX11_judge 1 = .ok (.ifCond .lt 30, 3) := by decide +kernel
theorem dX11_judge_4 : decode cX11_judge 4 = .ok (.iload_n 1, 1) := by decide +kernel
theorem dX11_judge_5 : decode cX11_judge 5 = .ok (.aload_n 0, 1) := by decide +kernel
theorem dX11_judge_6 : decode cX11_judge 6 = .ok (.getfield 35, 3) := by decide +kernel
theorem dX11_judge_9 : decode cX11_judge 9 = .ok (.getfield 205, 3) := by decide +kernel
theorem dX11_judge_12 : decode cX11_judge 12 = .ok (.if_icmp .ge 19, 3) := by decide +kernel
theorem dX11_judge_31 : decode cX11_judge 31 = .ok (.iconst (-1), 1) := by decide +kernel
theorem dX11_judge_32 : decode cX11_judge 32 = .ok (.ireturn, 1) := by decide +kernel
theorem dX11_least_0 : decode cX11_least 0 = .ok (.aload_n 0, 1) := by decide +kernel
theorem dX11_least_1 : decode cX11_least 1 = .ok (.iload_n 1, 1) := by decide +kernel
theorem dX11_least_2 : decode cX11_least 2 = .ok (.invokevirtual 105, 3) := by decide +kernel
theorem dX11_least_5 : decode cX11_least 5 = .ok (.ifCond .eq 14, 3) := by decide +kernel
theorem dX11_least_19 : decode cX11_least 19 = .ok (.iconst (-1), 1) := by decide +kernel
theorem dX11_least_20 : decode cX11_least 20 = .ok (.ireturn, 1) := by decide +kernel
theorem dX11_led_0 : decode cX11_led 0 = .ok (.iload_n 1, 1) := by decide +kernel
theorem dX11_led_1 : decode cX11_led 1 = .ok (.ifCond .lt 14, 3) := by decide +kernel
theorem dX11_led_4 : decode cX11_led 4 = .ok (.iload_n 1, 1) := by decide +kernel
theorem dX11_led_5 : decode cX11_led 5 = .ok (.aload_n 0, 1) := by decide +kernel
theorem dX11_led_6 : decode cX11_led 6 = .ok (.getfield 65, 3) := by decide +kernel
theorem dX11_led_9 : decode cX11_led 9 = .ok (.getfield 367, 3) := by decide +kernel
theorem dX11_led_12 : decode cX11_led 12 = .ok (.if_icmp .lt 8, 3) := by decide +kernel
theorem dX11_led_15 : decode cX11_led 15 = .ok (.ldc 165, 2) := by decide +kernel
theorem dX11_led_17 : decode cX11_led 17 = .ok (.goto 12, 3) := by decide +kernel
theorem dX11_led_29 : decode cX11_led 29 = .ok (.ireturn, 1) := by decide +kernel
theorem dX11_letWay_0 : decode cX11_letWay 0 = .ok (.aload_n 0, 1) := by decide +kernel
theorem dX11_letWay_1 : decode cX11_letWay 1 = .ok (.getfield 26, 3) := by decide +kernel
theorem dX11_letWay_4 : decode cX11_letWay 4 = .ok (.aload_n 0, 1) := by decide +kernel
theorem dX11_letWay_5 : decode cX11_letWay 5 = .ok (.getfield 13, 3) := by decide +kernel
theorem dX11_letWay_8 : decode cX11_letWay 8 = .ok (.aload_n 0, 1) := by decide +kernel
theorem dX11_letWay_9 : decode cX11_letWay 9 = .ok (.getfield 169, 3) := by decide +kernel
theorem dX11_letWay_12 : decode cX11_letWay 12 = .ok (.invokevirtual 172, 3) := by decide +kernel
theorem dX11_letWay_15 : decode cX11_letWay 15 = .ok (.iconst 1, 1) := by decide +kernel
theorem dX11_letWay_16 : decode cX11_letWay 16 = .ok (.iadd, 1) := by decide +kernel
theorem dX11_letWay_17 : decode cX11_letWay 17 = .ok (.ireturn, 1) := by decide +kernel
theorem dX11_letter_0 : decode cX11_letter 0 = .ok (.aload_n 0, 1) := by decide +kernel
theorem dX11_letter_1 : decode cX11_letter 1 = .ok (.iload_n 1, 1) := by decide +kernel
theorem dX11_letter_2 : decode cX11_letter 2 = .ok (.invokevirtual 105, 3) := by decide +kernel
theorem dX11_letter_5 : decode cX11_letter 5 = .ok (.ifCond .eq 15, 3) := by decide +kernel
theorem dX11_letter_20 : decode cX11_letter 20 = .ok (.iconst (-1), 1) := by decide +kernel
theorem dX11_letter_21 : decode cX11_letter 21 = .ok (.ireturn, 1) := by decide +kernel
theorem dX11_load_0 : decode cX11_load 0 = .ok (.aload_n 0, 1) := by decide +kernel
theorem dX11_load_1 : decode cX11_load 1 = .ok (.iload_n 1, 1) := by decide +kernel
theorem dX11_load_2 : decode cX11_load 2 = .ok (.invokevirtual 119, 3) := by decide +kernel
theorem dX11_load_5 : decode cX11_load 5 = .ok (.ifCond .eq 10, 3) := by decide +kernel
theorem dX11_load_15 : decode cX11_load 15 = .ok (.iconst (-1), 1) := by decide +kernel
theorem dX11_load_16 : decode cX11_load 16 = .ok (.ireturn, 1) := by decide +kernel
theorem dX11_message_0 : decode cX11_message 0 = .ok (.aload_n 0, 1) := by decide +kernel
theorem dX11_message_1 : decode cX11_message 1 = .ok (.getfield 58, 3) := by decide +kernel
theorem dX11_message_4 : decode cX11_message 4 = .ok (.aload_n 0, 1) := by decide +kernel
theorem dX11_message_5 : decode cX11_message 5 = .ok (.getfield 9, 3) := by decide +kernel
theorem dX11_message_8 : decode cX11_message 8 = .ok (.aload_n 0, 1) := by decide +kernel
theorem dX11_message_9 : decode cX11_message 9 = .ok (.getfield 76, 3) := by decide +kernel
theorem dX11_message_12 : decode cX11_message 12 = .ok (.invokevirtual 339, 3) := by decide +kernel
theorem dX11_message_15 : decode cX11_message 15 = .ok (.istore_n 1, 1) := by decide +kernel
theorem dX11_message_16 : decode cX11_message 16 = .ok (.aload_n 0, 1) := by decide +kernel
theorem dX11_message_17 : decode cX11_message 17 = .ok (.iconst 0, 1) := by decide +kernel
theorem dX11_message_18 : decode cX11_message 18 = .ok (.putfield 76, 3) := by decide +kernel
theorem dX11_message_21 : decode cX11_message 21 = .ok (.iload_n 1, 1) := by decide +kernel
theorem dX11_message_22 : decode cX11_message 22 = .ok (.ireturn, 1) := by decide +kernel
theorem dX11_octet_0 : decode cX11_octet 0 = .ok (.iload_n 1, 1) := by decide +kernel
theorem dX11_octet_1 : decode cX11_octet 1 = .ok (.ifCond .lt 14, 3) := by decide +kernel
theorem dX11_octet_4 : decode cX11_octet 4 = .ok (.iload_n 1, 1) := by decide +kernel
theorem dX11_octet_5 : decode cX11_octet 5 = .ok (.aload_n 0, 1) := by decide +kernel
theorem dX11_octet_6 : decode cX11_octet 6 = .ok (.getfield 58, 3) := by decide +kernel
theorem dX11_octet_9 : decode cX11_octet 9 = .ok (.getfield 358, 3) := by decide +kernel
theorem dX11_octet_12 : decode cX11_octet 12 = .ok (.if_icmp .lt 8, 3) := by decide +kernel
theorem dX11_octet_15 : decode cX11_octet 15 = .ok (.ldc 165, 2) := by decide +kernel
theorem dX11_octet_17 : decode cX11_octet 17 = .ok (.goto 12, 3) := by decide +kernel
theorem dX11_octet_29 : decode cX11_octet 29 = .ok (.ireturn, 1) := by decide +kernel
theorem dX11_pace_0 : decode cX11_pace 0 = .ok (.aload_n 0, 1) := by decide +kernel
theorem dX11_pace_1 : decode cX11_pace 1 = .ok (.iload_n 1, 1) := by decide +kernel
theorem dX11_pace_2 : decode cX11_pace 2 = .ok (.invokevirtual 119, 3) := by decide +kernel
theorem dX11_pace_5 : decode cX11_pace 5 = .ok (.ifCond .eq 26, 3) := by decide +kernel
theorem dX11_pace_31 : decode cX11_pace 31 = .ok (.iconst (-1), 1) := by decide +kernel
theorem dX11_pace_32 : decode cX11_pace 32 = .ok (.ireturn, 1) := by decide +kernel
theorem dX11_part_0 : decode cX11_part 0 = .ok (.aload_n 0, 1) := by decide +kernel
theorem dX11_part_1 : decode cX11_part 1 = .ok (.getfield 58, 3) := by decide +kernel
theorem dX11_part_4 : decode cX11_part 4 = .ok (.iload_n 1, 1) := by decide +kernel
theorem dX11_part_5 : decode cX11_part 5 = .ok (.invokevirtual 341, 3) := by decide +kernel
theorem dX11_part_8 : decode cX11_part 8 = .ok (.ireturn, 1) := by decide +kernel
theorem dX11_picked_0 : decode cX11_picked 0 = .ok (.aload_n 0, 1) := by decide +kernel
theorem dX11_picked_1 : decode cX11_picked 1 = .ok (.iload_n 1, 1) := by decide +kernel
theorem dX11_picked_2 : decode cX11_picked 2 = .ok (.invokevirtual 105, 3) := by decide +kernel
theorem dX11_picked_5 : decode cX11_picked 5 = .ok (.ifCond .eq 11, 3) := by decide +kernel
theorem dX11_picked_16 : decode cX11_picked 16 = .ok (.iconst (-1), 1) := by decide +kernel
theorem dX11_picked_17 : decode cX11_picked 17 = .ok (.ireturn, 1) := by decide +kernel
theorem dX11_policy_0 : decode cX11_policy 0 = .ok (.aload_n 0, 1) := by decide +kernel
theorem dX11_policy_1 : decode cX11_policy 1 = .ok (.getfield 42, 3) := by decide +kernel
theorem dX11_policy_4 : decode cX11_policy 4 = .ok (.aload_n 0, 1) := by decide +kernel
theorem dX11_policy_5 : decode cX11_policy 5 = .ok (.getfield 9, 3) := by decide +kernel
theorem dX11_policy_8 : decode cX11_policy 8 = .ok (.aload_n 0, 1) := by decide +kernel
theorem dX11_policy_9 : decode cX11_policy 9 = .ok (.getfield 76, 3) := by decide +kernel
theorem dX11_policy_12 : decode cX11_policy 12 = .ok (.aload_n 0, 1) := by decide +kernel
theorem dX11_policy_13 : decode cX11_policy 13 = .ok (.getfield 35, 3) := by decide +kernel
theorem dX11_policy_16 : decode cX11_policy 16 = .ok (.getfield 205, 3) := by decide +kernel
theorem dX11_policy_19 : decode cX11_policy 19 = .ok (.invokevirtual 208, 3) := by decide +kernel
theorem dX11_policy_22 : decode cX11_policy 22 = .ok (.aload_n 0, 1) := by decide +kernel
theorem dX11_policy_23 : decode cX11_policy 23 = .ok (.iconst 0, 1) := by decide +kernel
theorem dX11_policy_24 : decode cX11_policy 24 = .ok (.putfield 76, 3) := by decide +kernel
theorem dX11_policy_27 : decode cX11_policy 27 = .ok (.aload_n 0, 1) := by decide +kernel
theorem dX11_policy_28 : decode cX11_policy 28 = .ok (.getfield 42, 3) := by decide +kernel
theorem dX11_policy_31 : decode cX11_policy 31 = .ok (.getfield 212, 3) := by decide +kernel
theorem dX11_policy_34 : decode cX11_policy 34 = .ok (.ifCond .eq 14, 3) := by decide +kernel
theorem dX11_policy_48 : decode cX11_policy 48 = .ok (.aload_n 0, 1) := by decide +kernel
theorem dX11_policy_49 : decode cX11_policy 49 = .ok (.getfield 35, 3) := by decide +kernel
theorem dX11_policy_52 : decode cX11_policy 52 = .ok (.getfield 205, 3) := by decide +kernel
theorem dX11_policy_55 : decode cX11_policy 55 = .ok (.bipush 12, 2) := by decide +kernel
theorem dX11_policy_57 : decode cX11_policy 57 = .ok (.if_icmp .lt 6, 3) := by decide +kernel
theorem dX11_policy_63 : decode cX11_policy 63 = .ok (.aload_n 0, 1) := by decide +kernel
theorem dX11_policy_64 : decode cX11_policy 64 = .ok (.getfield 35, 3) := by decide +kernel
theorem dX11_policy_67 : decode cX11_policy 67 = .ok (.aload_n 0, 1) := by decide +kernel
theorem dX11_policy_68 : decode cX11_policy 68 = .ok (.getfield 42, 3) := by decide +kernel
theorem dX11_policy_71 : decode cX11_policy 71 = .ok (.invokevirtual 218, 3) := by decide +kernel
theorem dX11_policy_74 : decode cX11_policy 74 = .ok (.invokevirtual 222, 3) := by decide +kernel
theorem dX11_policy_77 : decode cX11_policy 77 = .ok (.ireturn, 1) := by decide +kernel
theorem dX11_prefix_0 : decode cX11_prefix 0 = .ok (.iload_n 2, 1) := by decide +kernel
theorem dX11_prefix_1 : decode cX11_prefix 1 = .ok (.ifCond .lt 20, 3) := by decide +kernel
theorem dX11_prefix_4 : decode cX11_prefix 4 = .ok (.iload_n 2, 1) := by decide +kernel
theorem dX11_prefix_5 : decode cX11_prefix 5 = .ok (.bipush 32, 2) := by decide +kernel
theorem dX11_prefix_7 : decode cX11_prefix 7 = .ok (.if_icmp .gt 14, 3) := by decide +kernel
theorem dX11_prefix_10 : decode cX11_prefix 10 = .ok (.iload_n 1, 1) := by decide +kernel
theorem dX11_prefix_11 : decode cX11_prefix 11 = .ok (.iload_n 2, 1) := by decide +kernel
theorem dX11_prefix_12 : decode cX11_prefix 12 = .ok (.invokestatic 84, 3) := by decide +kernel
theorem dX11_prefix_15 : decode cX11_prefix 15 = .ok (.iconst (-1), 1) := by decide +kernel
theorem dX11_prefix_16 : decode cX11_prefix 16 = .ok (.ixor, 1) := by decide +kernel
theorem dX11_prefix_17 : decode cX11_prefix 17 = .ok (.iand, 1) := by decide +kernel
theorem dX11_prefix_18 : decode cX11_prefix 18 = .ok (.ifCond .eq 5, 3) := by decide +kernel
theorem dX11_prefix_21 : decode cX11_prefix 21 = .ok (.iconst (-1), 1) := by decide +kernel
theorem dX11_prefix_22 : decode cX11_prefix 22 = .ok (.ireturn, 1) := by decide +kernel
theorem dX11_prefix_23 : decode cX11_prefix 23 = .ok (.aload_n 0, 1) := by decide +kernel
theorem dX11_prefix_24 : decode cX11_prefix 24 = .ok (.getfield 26, 3) := by decide +kernel
theorem dX11_prefix_27 : decode cX11_prefix 27 = .ok (.iload_n 1, 1) := by decide +kernel
theorem dX11_prefix_28 : decode cX11_prefix 28 = .ok (.iload_n 2, 1) := by decide +kernel
theorem dX11_prefix_29 : decode cX11_prefix 29 = .ok (.invokevirtual 88, 3) := by decide +kernel
theorem dX11_prefix_32 : decode cX11_prefix 32 = .ok (.ifCond .lt 6, 3) := by decide +kernel
theorem dX11_prefix_38 : decode cX11_prefix 38 = .ok (.aload_n 0, 1) := by decide +kernel
theorem dX11_prefix_39 : decode cX11_prefix 39 = .ok (.getfield 26, 3) := by decide +kernel
theorem dX11_prefix_42 : decode cX11_prefix 42 = .ok (.getfield 92, 3) := by decide +kernel
theorem dX11_prefix_45 : decode cX11_prefix 45 = .ok (.bipush 10, 2) := by decide +kernel
theorem dX11_prefix_47 : decode cX11_prefix 47 = .ok (.if_icmp .lt 6, 3) := by decide +kernel
theorem dX11_prefix_53 : decode cX11_prefix 53 = .ok (.aload_n 0, 1) := by decide +kernel
theorem dX11_prefix_54 : decode cX11_prefix 54 = .ok (.getfield 26, 3) := by decide +kernel
theorem dX11_prefix_57 : decode cX11_prefix 57 = .ok (.iload_n 1, 1) := by decide +kernel
theorem dX11_prefix_58 : decode cX11_prefix 58 = .ok (.iload_n 2, 1) := by decide +kernel
theorem dX11_prefix_59 : decode cX11_prefix 59 = .ok (.invokevirtual 95, 3) := by decide +kernel
theorem dX11_prefix_62 : decode cX11_prefix 62 = .ok (.ireturn, 1) := by decide +kernel
theorem dX11_raise_0 : decode cX11_raise 0 = .ok (.aload_n 0, 1) := by decide +kernel
theorem dX11_raise_1 : decode cX11_raise 1 = .ok (.iload_n 1, 1) := by decide +kernel
theorem dX11_raise_2 : decode cX11_raise 2 = .ok (.invokevirtual 119, 3) := by decide +kernel
theorem dX11_raise_5 : decode cX11_raise 5 = .ok (.ifCond .ne 5, 3) := by decide +kernel
theorem dX11_raise_8 : decode cX11_raise 8 = .ok (.iconst (-1), 1) := by decide +kernel
theorem dX11_raise_9 : decode cX11_raise 9 = .ok (.ireturn, 1) := by decide +kernel
theorem dX11_rest_0 : decode cX11_rest 0 = .ok (.aload_n 0, 1) := by decide +kernel
theorem dX11_rest_1 : decode cX11_rest 1 = .ok (.getfield 72, 3) := by decide +kernel
theorem dX11_rest_4 : decode cX11_rest 4 = .ok (.invokevirtual 411, 3) := by decide +kernel
theorem dX11_rest_7 : decode cX11_rest 7 = .ok (.iload_n 1, 1) := by decide +kernel
theorem dX11_rest_8 : decode cX11_rest 8 = .ok (.ifCond .lt 25, 3) := by decide +kernel
theorem dX11_rest_11 : decode cX11_rest 11 = .ok (.iload_n 1, 1) := by decide +kernel
theorem dX11_rest_12 : decode cX11_rest 12 = .ok (.aload_n 0, 1) := by decide +kernel
theorem dX11_rest_13 : decode cX11_rest 13 = .ok (.getfield 72, 3) := by decide +kernel
theorem dX11_rest_16 : decode cX11_rest 16 = .ok (.getfield 414, 3) := by decide +kernel
theorem dX11_rest_19 : decode cX11_rest 19 = .ok (.if_icmp .ge 14, 3) := by decide +kernel
theorem dX11_rest_22 : decode cX11_rest 22 = .ok (.iload_n 2, 1) := by decide +kernel
theorem dX11_rest_23 : decode cX11_rest 23 = .ok (.iconst 1, 1) := by decide +kernel
theorem dX11_rest_24 : decode cX11_rest 24 = .ok (.if_icmp .lt 9, 3) := by decide +kernel
theorem dX11_rest_27 : decode cX11_rest 27 = .ok (.iload_n 2, 1) := by decide +kernel
theorem dX11_rest_28 : decode cX11_rest 28 = .ok (.bipush 7, 2) := by decide +kernel
theorem dX11_rest_30 : decode cX11_rest 30 = .ok (.if_icmp .lt 5, 3) := by decide +kernel
theorem dX11_rest_33 : decode cX11_rest 33 = .ok (.iconst (-1), 1) := by decide +kernel
theorem dX11_rest_34 : decode cX11_rest 34 = .ok (.ireturn, 1) := by decide +kernel
theorem dX11_rest_35 : decode cX11_rest 35 = .ok (.aload_n 0, 1) := by decide +kernel
theorem dX11_rest_36 : decode cX11_rest 36 = .ok (.getfield 72, 3) := by decide +kernel
theorem dX11_rest_39 : decode cX11_rest 39 = .ok (.iload_n 1, 1) := by decide +kernel
theorem dX11_rest_40 : decode cX11_rest 40 = .ok (.iload_n 2, 1) := by decide +kernel
theorem dX11_rest_41 : decode cX11_rest 41 = .ok (.invokevirtual 417, 3) := by decide +kernel
theorem dX11_rest_44 : decode cX11_rest 44 = .ok (.ireturn, 1) := by decide +kernel
theorem dX11_rests_0 : decode cX11_rests 0 = .ok (.aload_n 0, 1) := by decide +kernel
theorem dX11_rests_1 : decode cX11_rests 1 = .ok (.getfield 72, 3) := by decide +kernel
theorem dX11_rests_4 : decode cX11_rests 4 = .ok (.invokevirtual 411, 3) := by decide +kernel
theorem dX11_rests_7 : decode cX11_rests 7 = .ok (.aload_n 0, 1) := by decide +kernel
theorem dX11_rests_8 : decode cX11_rests 8 = .ok (.getfield 72, 3) := by decide +kernel
theorem dX11_rests_11 : decode cX11_rests 11 = .ok (.getfield 414, 3) := by decide +kernel
theorem dX11_rests_14 : decode cX11_rests 14 = .ok (.ireturn, 1) := by decide +kernel
theorem dX11_right_0 : decode cX11_right 0 = .ok (.aload_n 0, 1) := by decide +kernel
theorem dX11_right_1 : decode cX11_right 1 = .ok (.iload_n 1, 1) := by decide +kernel
theorem dX11_right_2 : decode cX11_right 2 = .ok (.invokevirtual 182, 3) := by decide +kernel
theorem dX11_right_5 : decode cX11_right 5 = .ok (.ifCond .eq 30, 3) := by decide +kernel
theorem dX11_right_35 : decode cX11_right 35 = .ok (.iconst (-1), 1) := by decide +kernel
theorem dX11_right_36 : decode cX11_right 36 = .ok (.ireturn, 1) := by decide +kernel
theorem dX11_ring_0 : decode cX11_ring 0 = .ok (.aload_n 0, 1) := by decide +kernel
theorem dX11_ring_1 : decode cX11_ring 1 = .ok (.getfield 26, 3) := by decide +kernel
theorem dX11_ring_4 : decode cX11_ring 4 = .ok (.invokevirtual 162, 3) := by decide +kernel
theorem dX11_ring_7 : decode cX11_ring 7 = .ok (.istore_n 2, 1) := by decide +kernel
theorem dX11_ring_8 : decode cX11_ring 8 = .ok (.iload_n 1, 1) := by decide +kernel
theorem dX11_ring_9 : decode cX11_ring 9 = .ok (.ifCond .lt 8, 3) := by decide +kernel
theorem dX11_ring_12 : decode cX11_ring 12 = .ok (.iload_n 1, 1) := by decide +kernel
theorem dX11_ring_13 : decode cX11_ring 13 = .ok (.iload_n 2, 1) := by decide +kernel
theorem dX11_ring_14 : decode cX11_ring 14 = .ok (.if_icmp .lt 8, 3) := by decide +kernel
theorem dX11_ring_17 : decode cX11_ring 17 = .ok (.ldc 165, 2) := by decide +kernel
theorem dX11_ring_19 : decode cX11_ring 19 = .ok (.goto 12, 3) := by decide +kernel
theorem dX11_ring_31 : decode cX11_ring 31 = .ok (.ireturn, 1) := by decide +kernel
theorem dX11_route_0 : decode cX11_route 0 = .ok (.aload_n 0, 1) := by decide +kernel
theorem dX11_route_1 : decode cX11_route 1 = .ok (.iload_n 1, 1) := by decide +kernel
theorem dX11_route_2 : decode cX11_route 2 = .ok (.invokevirtual 182, 3) := by decide +kernel
theorem dX11_route_5 : decode cX11_route 5 = .ok (.ifCond .eq 14, 3) := by decide +kernel
theorem dX11_route_19 : decode cX11_route 19 = .ok (.iconst (-1), 1) := by decide +kernel
theorem dX11_route_20 : decode cX11_route 20 = .ok (.ireturn, 1) := by decide +kernel
theorem dX11_rule_0 : decode cX11_rule 0 = .ok (.aload_n 0, 1) := by decide +kernel
theorem dX11_rule_1 : decode cX11_rule 1 = .ok (.iload_n 1, 1) := by decide +kernel
theorem dX11_rule_2 : decode cX11_rule 2 = .ok (.invokevirtual 105, 3) := by decide +kernel
theorem dX11_rule_5 : decode cX11_rule 5 = .ok (.ifCond .eq 10, 3) := by decide +kernel
theorem dX11_rule_15 : decode cX11_rule 15 = .ok (.iconst (-1), 1) := by decide +kernel
theorem dX11_rule_16 : decode cX11_rule 16 = .ok (.ireturn, 1) := by decide +kernel
theorem dX11_strike_0 : decode cX11_strike 0 = .ok (.iload_n 1, 1) := by decide +kernel
theorem dX11_strike_1 : decode cX11_strike 1 = .ok (.ifCond .lt 27, 3) := by decide +kernel
theorem dX11_strike_4 : decode cX11_strike 4 = .ok (.iload_n 1, 1) := by decide +kernel
theorem dX11_strike_5 : decode cX11_strike 5 = .ok (.aload_n 0, 1) := by decide +kernel
theorem dX11_strike_6 : decode cX11_strike 6 = .ok (.getfield 26, 3) := by decide +kernel
theorem dX11_strike_9 : decode cX11_strike 9 = .ok (.getfield 188, 3) := by decide +kernel
theorem dX11_strike_12 : decode cX11_strike 12 = .ok (.if_icmp .ge 16, 3) := by decide +kernel
theorem dX11_strike_28 : decode cX11_strike 28 = .ok (.iconst (-1), 1) := by decide +kernel
theorem dX11_strike_29 : decode cX11_strike 29 = .ok (.ireturn, 1) := by decide +kernel
theorem dX11_three_0 : decode cX11_three 0 = .ok (.aload_n 0, 1) := by decide +kernel
theorem dX11_three_1 : decode cX11_three 1 = .ok (.iload_n 1, 1) := by decide +kernel
theorem dX11_three_2 : decode cX11_three 2 = .ok (.invokevirtual 105, 3) := by decide +kernel
theorem dX11_three_5 : decode cX11_three 5 = .ok (.ifCond .eq 11, 3) := by decide +kernel
theorem dX11_three_16 : decode cX11_three 16 = .ok (.iconst (-1), 1) := by decide +kernel
theorem dX11_three_17 : decode cX11_three 17 = .ok (.ireturn, 1) := by decide +kernel
theorem dX11_tie_0 : decode cX11_tie 0 = .ok (.aload_n 0, 1) := by decide +kernel
theorem dX11_tie_1 : decode cX11_tie 1 = .ok (.iload_n 1, 1) := by decide +kernel
theorem dX11_tie_2 : decode cX11_tie 2 = .ok (.invokevirtual 105, 3) := by decide +kernel
theorem dX11_tie_5 : decode cX11_tie 5 = .ok (.ifCond .eq 25, 3) := by decide +kernel
theorem dX11_tie_30 : decode cX11_tie 30 = .ok (.iconst (-1), 1) := by decide +kernel
theorem dX11_tie_31 : decode cX11_tie 31 = .ok (.ireturn, 1) := by decide +kernel
theorem dX11_today_0 : decode cX11_today 0 = .ok (.iload_n 1, 1) := by decide +kernel
theorem dX11_today_1 : decode cX11_today 1 = .ok (.ifCond .ge 5, 3) := by decide +kernel
theorem dX11_today_4 : decode cX11_today 4 = .ok (.iconst (-1), 1) := by decide +kernel
theorem dX11_today_5 : decode cX11_today 5 = .ok (.ireturn, 1) := by decide +kernel
theorem dX11_today_6 : decode cX11_today 6 = .ok (.aload_n 0, 1) := by decide +kernel
theorem dX11_today_7 : decode cX11_today 7 = .ok (.getfield 26, 3) := by decide +kernel
theorem dX11_today_10 : decode cX11_today 10 = .ok (.getfield 176, 3) := by decide +kernel
theorem dX11_today_13 : decode cX11_today 13 = .ok (.istore_n 2, 1) := by decide +kernel
theorem dX11_today_14 : decode cX11_today 14 = .ok (.aload_n 0, 1) := by decide +kernel
theorem dX11_today_15 : decode cX11_today 15 = .ok (.getfield 26, 3) := by decide +kernel
theorem dX11_today_18 : decode cX11_today 18 = .ok (.iload_n 1, 1) := by decide +kernel
theorem dX11_today_19 : decode cX11_today 19 = .ok (.putfield 176, 3) := by decide +kernel
theorem dX11_today_22 : decode cX11_today 22 = .ok (.aload_n 0, 1) := by decide +kernel
theorem dX11_today_23 : decode cX11_today 23 = .ok (.getfield 51, 3) := by decide +kernel
theorem dX11_today_26 : decode cX11_today 26 = .ok (.invokevirtual 179, 3) := by decide +kernel
theorem dX11_today_29 : decode cX11_today 29 = .ok (.iload_n 2, 1) := by decide +kernel
theorem dX11_today_30 : decode cX11_today 30 = .ok (.ireturn, 1) := by decide +kernel
theorem dX11_tries_0 : decode cX11_tries 0 = .ok (.iload_n 1, 1) := by decide +kernel
theorem dX11_tries_1 : decode cX11_tries 1 = .ok (.ifCond .lt 8, 3) := by decide +kernel
theorem dX11_tries_4 : decode cX11_tries 4 = .ok (.iload_n 1, 1) := by decide +kernel
theorem dX11_tries_5 : decode cX11_tries 5 = .ok (.iconst 3, 1) := by decide +kernel
theorem dX11_tries_6 : decode cX11_tries 6 = .ok (.if_icmp .le 5, 3) := by decide +kernel
theorem dX11_tries_9 : decode cX11_tries 9 = .ok (.iconst (-1), 1) := by decide +kernel
theorem dX11_tries_10 : decode cX11_tries 10 = .ok (.ireturn, 1) := by decide +kernel
theorem dX11_tries_11 : decode cX11_tries 11 = .ok (.aload_n 0, 1) := by decide +kernel
theorem dX11_tries_12 : decode cX11_tries 12 = .ok (.getfield 72, 3) := by decide +kernel
theorem dX11_tries_15 : decode cX11_tries 15 = .ok (.invokevirtual 420, 3) := by decide +kernel
theorem dX11_tries_18 : decode cX11_tries 18 = .ok (.aload_n 0, 1) := by decide +kernel
theorem dX11_tries_19 : decode cX11_tries 19 = .ok (.getfield 72, 3) := by decide +kernel
theorem dX11_tries_22 : decode cX11_tries 22 = .ok (.getfield 423, 3) := by decide +kernel
theorem dX11_tries_25 : decode cX11_tries 25 = .ok (.iload_n 1, 1) := by decide +kernel
theorem dX11_tries_26 : decode cX11_tries 26 = .ok (.iaload, 1) := by decide +kernel
theorem dX11_tries_27 : decode cX11_tries 27 = .ok (.ireturn, 1) := by decide +kernel
theorem dX11_units_0 : decode cX11_units 0 = .ok (.iload_n 1, 1) := by decide +kernel
theorem dX11_units_1 : decode cX11_units 1 = .ok (.ifCond .lt 8, 3) := by decide +kernel
theorem dX11_units_4 : decode cX11_units 4 = .ok (.iload_n 1, 1) := by decide +kernel
theorem dX11_units_5 : decode cX11_units 5 = .ok (.iconst 2, 1) := by decide +kernel
theorem dX11_units_6 : decode cX11_units 6 = .ok (.if_icmp .le 7, 3) := by decide +kernel
theorem dX11_units_9 : decode cX11_units 9 = .ok (.iconst (-1), 1) := by decide +kernel
theorem dX11_units_10 : decode cX11_units 10 = .ok (.goto 11, 3) := by decide +kernel
theorem dX11_units_13 : decode cX11_units 13 = .ok (.aload_n 0, 1) := by decide +kernel
theorem dX11_units_14 : decode cX11_units 14 = .ok (.getfield 65, 3) := by decide +kernel
theorem dX11_units_17 : decode cX11_units 17 = .ok (.iload_n 1, 1) := by decide +kernel
theorem dX11_units_18 : decode cX11_units 18 = .ok (.invokevirtual 382, 3) := by decide +kernel
theorem dX11_units_21 : decode cX11_units 21 = .ok (.ireturn, 1) := by decide +kernel
theorem dX11_until_0 : decode cX11_until 0 = .ok (.iload_n 1, 1) := by decide +kernel
theorem dX11_until_1 : decode cX11_until 1 = .ok (.aload_n 0, 1) := by decide +kernel
theorem dX11_until_2 : decode cX11_until 2 = .ok (.getfield 51, 3) := by decide +kernel
theorem dX11_until_5 : decode cX11_until 5 = .ok (.getfield 303, 3) := by decide +kernel
theorem dX11_until_8 : decode cX11_until 8 = .ok (.if_icmp .lt 10, 3) := by decide +kernel
theorem dX11_until_11 : decode cX11_until 11 = .ok (.iload_n 1, 1) := by decide +kernel
theorem dX11_until_12 : decode cX11_until 12 = .ok (.ldc_w 306, 3) := by decide +kernel
theorem dX11_until_15 : decode cX11_until 15 = .ok (.if_icmp .le 5, 3) := by decide +kernel
theorem dX11_until_18 : decode cX11_until 18 = .ok (.iconst (-1), 1) := by decide +kernel
theorem dX11_until_19 : decode cX11_until 19 = .ok (.ireturn, 1) := by decide +kernel
theorem dX11_until_20 : decode cX11_until 20 = .ok (.iconst 0, 1) := by decide +kernel
theorem dX11_until_21 : decode cX11_until 21 = .ok (.istore_n 2, 1) := by decide +kernel
theorem dX11_until_22 : decode cX11_until 22 = .ok (.iload_n 2, 1) := by decide +kernel
theorem dX11_until_23 : decode cX11_until 23 = .ok (.sipush 500, 3) := by decide +kernel
theorem dX11_until_26 : decode cX11_until 26 = .ok (.if_icmp .ge 20, 3) := by decide +kernel
theorem dX11_until_29 : decode cX11_until 29 = .ok (.aload_n 0, 1) := by decide +kernel
theorem dX11_until_30 : decode cX11_until 30 = .ok (.getfield 51, 3) := by decide +kernel
theorem dX11_until_33 : decode cX11_until 33 = .ok (.iload_n 1, 1) := by decide +kernel
theorem dX11_until_34 : decode cX11_until 34 = .ok (.invokevirtual 300, 3) := by decide +kernel
theorem dX11_until_37 : decode cX11_until 37 = .ok (.ifCond .eq 9, 3) := by decide +kernel
theorem dX11_until_46 : decode cX11_until 46 = .ok (.aload_n 0, 1) := by decide +kernel
theorem dX11_until_47 : decode cX11_until 47 = .ok (.getfield 51, 3) := by decide +kernel
theorem dX11_until_50 : decode cX11_until 50 = .ok (.iload_n 1, 1) := by decide +kernel
theorem dX11_until_51 : decode cX11_until 51 = .ok (.invokevirtual 307, 3) := by decide +kernel
theorem dX11_until_54 : decode cX11_until 54 = .ok (.iload_n 2, 1) := by decide +kernel
theorem dX11_until_55 : decode cX11_until 55 = .ok (.ireturn, 1) := by decide +kernel
theorem dX11_use_0 : decode cX11_use 0 = .ok (.aload_n 0, 1) := by decide +kernel
theorem dX11_use_1 : decode cX11_use 1 = .ok (.iload_n 1, 1) := by decide +kernel
theorem dX11_use_2 : decode cX11_use 2 = .ok (.invokevirtual 119, 3) := by decide +kernel
theorem dX11_use_5 : decode cX11_use 5 = .ok (.ifCond .eq 17, 3) := by decide +kernel
theorem dX11_use_22 : decode cX11_use 22 = .ok (.iconst (-1), 1) := by decide +kernel
theorem dX11_use_23 : decode cX11_use 23 = .ok (.ireturn, 1) := by decide +kernel
theorem dX11_verdict_0 : decode cX11_verdict 0 = .ok (.aload_n 0, 1) := by decide +kernel
theorem dX11_verdict_1 : decode cX11_verdict 1 = .ok (.iload_n 1, 1) := by decide +kernel
theorem dX11_verdict_2 : decode cX11_verdict 2 = .ok (.invokevirtual 182, 3) := by decide +kernel
theorem dX11_verdict_5 : decode cX11_verdict 5 = .ok (.ifCond .eq 12, 3) := by decide +kernel
theorem dX11_verdict_17 : decode cX11_verdict 17 = .ok (.iconst (-1), 1) := by decide +kernel
theorem dX11_verdict_18 : decode cX11_verdict 18 = .ok (.ireturn, 1) := by decide +kernel
theorem dX11_walk_0 : decode cX11_walk 0 = .ok (.iload_n 1, 1) := by decide +kernel
theorem dX11_walk_1 : decode cX11_walk 1 = .ok (.iconst (-1), 1) := by decide +kernel
theorem dX11_walk_2 : decode cX11_walk 2 = .ok (.if_icmp .lt 9, 3) := by decide +kernel
theorem dX11_walk_5 : decode cX11_walk 5 = .ok (.iload_n 1, 1) := by decide +kernel
theorem dX11_walk_6 : decode cX11_walk 6 = .ok (.bipush 10, 2) := by decide +kernel
theorem dX11_walk_8 : decode cX11_walk 8 = .ok (.if_icmp .lt 5, 3) := by decide +kernel
theorem dX11_walk_11 : decode cX11_walk 11 = .ok (.iconst (-1), 1) := by decide +kernel
theorem dX11_walk_12 : decode cX11_walk 12 = .ok (.ireturn, 1) := by decide +kernel
theorem dX11_walk_13 : decode cX11_walk 13 = .ok (.iload_n 1, 1) := by decide +kernel
theorem dX11_walk_14 : decode cX11_walk 14 = .ok (.iconst (-1), 1) := by decide +kernel
theorem dX11_walk_15 : decode cX11_walk 15 = .ok (.if_icmp .ne 10, 3) := by decide +kernel
theorem dX11_walk_18 : decode cX11_walk 18 = .ok (.aload_n 0, 1) := by decide +kernel
theorem dX11_walk_19 : decode cX11_walk 19 = .ok (.iconst 0, 1) := by decide +kernel
theorem dX11_walk_20 : decode cX11_walk 20 = .ok (.putfield 169, 3) := by decide +kernel
theorem dX11_walk_23 : decode cX11_walk 23 = .ok (.iconst 0, 1) := by decide +kernel
theorem dX11_walk_24 : decode cX11_walk 24 = .ok (.ireturn, 1) := by decide +kernel
theorem dX11_walk_25 : decode cX11_walk 25 = .ok (.aload_n 0, 1) := by decide +kernel
theorem dX11_walk_26 : decode cX11_walk 26 = .ok (.getfield 169, 3) := by decide +kernel
theorem dX11_walk_29 : decode cX11_walk 29 = .ok (.bipush 20, 2) := by decide +kernel
theorem dX11_walk_31 : decode cX11_walk 31 = .ok (.if_icmp .lt 6, 3) := by decide +kernel
theorem dX11_walk_37 : decode cX11_walk 37 = .ok (.aload_n 0, 1) := by decide +kernel
theorem dX11_walk_38 : decode cX11_walk 38 = .ok (.getfield 13, 3) := by decide +kernel
theorem dX11_walk_41 : decode cX11_walk 41 = .ok (.aload_n 0, 1) := by decide +kernel
theorem dX11_walk_42 : decode cX11_walk 42 = .ok (.getfield 169, 3) := by decide +kernel
theorem dX11_walk_45 : decode cX11_walk 45 = .ok (.iload_n 1, 1) := by decide +kernel
theorem dX11_walk_46 : decode cX11_walk 46 = .ok (.iastore, 1) := by decide +kernel
theorem dX11_walk_47 : decode cX11_walk 47 = .ok (.aload_n 0, 1) := by decide +kernel
theorem dX11_walk_48 : decode cX11_walk 48 = .ok (.dup, 1) := by decide +kernel
theorem dX11_walk_49 : decode cX11_walk 49 = .ok (.getfield 169, 3) := by decide +kernel
theorem dX11_walk_52 : decode cX11_walk 52 = .ok (.iconst 1, 1) := by decide +kernel
theorem dX11_walk_53 : decode cX11_walk 53 = .ok (.iadd, 1) := by decide +kernel
theorem dX11_walk_54 : decode cX11_walk 54 = .ok (.putfield 169, 3) := by decide +kernel
theorem dX11_walk_57 : decode cX11_walk 57 = .ok (.aload_n 0, 1) := by decide +kernel
theorem dX11_walk_58 : decode cX11_walk 58 = .ok (.getfield 169, 3) := by decide +kernel
theorem dX11_walk_61 : decode cX11_walk 61 = .ok (.ireturn, 1) := by decide +kernel
theorem dX11_why_0 : decode cX11_why 0 = .ok (.aload_n 0, 1) := by decide +kernel
theorem dX11_why_1 : decode cX11_why 1 = .ok (.iload_n 1, 1) := by decide +kernel
theorem dX11_why_2 : decode cX11_why 2 = .ok (.invokevirtual 119, 3) := by decide +kernel
theorem dX11_why_5 : decode cX11_why 5 = .ok (.ifCond .eq 18, 3) := by decide +kernel
theorem dX11_why_23 : decode cX11_why 23 = .ok (.iconst (-1), 1) := by decide +kernel
theorem dX11_why_24 : decode cX11_why 24 = .ok (.ireturn, 1) := by decide +kernel
theorem dX11_wish_0 : decode cX11_wish 0 = .ok (.aload_n 0, 1) := by decide +kernel
theorem dX11_wish_1 : decode cX11_wish 1 = .ok (.getfield 13, 3) := by decide +kernel
theorem dX11_wish_4 : decode cX11_wish 4 = .ok (.aload_n 0, 1) := by decide +kernel
theorem dX11_wish_5 : decode cX11_wish 5 = .ok (.getfield 169, 3) := by decide +kernel
theorem dX11_wish_8 : decode cX11_wish 8 = .ok (.invokestatic 397, 3) := by decide +kernel
theorem dX11_wish_11 : decode cX11_wish 11 = .ok (.ifCond .ne 5, 3) := by decide +kernel
theorem dX11_wish_14 : decode cX11_wish 14 = .ok (.iconst (-1), 1) := by decide +kernel
theorem dX11_wish_15 : decode cX11_wish 15 = .ok (.ireturn, 1) := by decide +kernel
theorem dX11_withdraw_0 : decode cX11_withdraw 0 = .ok (.aload_n 0, 1) := by decide +kernel
theorem dX11_withdraw_1 : decode cX11_withdraw 1 = .ok (.iload_n 1, 1) := by decide +kernel
theorem dX11_withdraw_2 : decode cX11_withdraw 2 = .ok (.invokevirtual 105, 3) := by decide +kernel
theorem dX11_withdraw_5 : decode cX11_withdraw 5 = .ok (.ifCond .eq 11, 3) := by decide +kernel
theorem dX11_withdraw_16 : decode cX11_withdraw 16 = .ok (.iconst (-1), 1) := by decide +kernel
theorem dX11_withdraw_17 : decode cX11_withdraw 17 = .ok (.ireturn, 1) := by decide +kernel
theorem dX11_write_0 : decode cX11_write 0 = .ok (.aload_n 0, 1) := by decide +kernel
theorem dX11_write_1 : decode cX11_write 1 = .ok (.iload_n 1, 1) := by decide +kernel
theorem dX11_write_2 : decode cX11_write 2 = .ok (.invokevirtual 119, 3) := by decide +kernel
theorem dX11_write_5 : decode cX11_write 5 = .ok (.ifCond .eq 18, 3) := by decide +kernel
theorem dX11_write_23 : decode cX11_write 23 = .ok (.iconst (-1), 1) := by decide +kernel
theorem dX11_write_24 : decode cX11_write 24 = .ok (.ireturn, 1) := by decide +kernel
theorem dX12_acted_0 : decode cX12_acted 0 = .ok (.iconst 0, 1) := by decide +kernel
theorem dX12_acted_1 : decode cX12_acted 1 = .ok (.istore_n 2, 1) := by decide +kernel
theorem dX12_acted_2 : decode cX12_acted 2 = .ok (.iload_n 2, 1) := by decide +kernel
theorem dX12_acted_3 : decode cX12_acted 3 = .ok (.aload_n 0, 1) := by decide +kernel
theorem dX12_acted_4 : decode cX12_acted 4 = .ok (.getfield 514, 3) := by decide +kernel
theorem dX12_acted_7 : decode cX12_acted 7 = .ok (.iload_n 1, 1) := by decide +kernel
theorem dX12_acted_8 : decode cX12_acted 8 = .ok (.iaload, 1) := by decide +kernel
theorem dX12_acted_9 : decode cX12_acted 9 = .ok (.if_icmp .ge 23, 3) := by decide +kernel
theorem dX12_acted_32 : decode cX12_acted 32 = .ok (.aload_n 0, 1) := by decide +kernel
theorem dX12_acted_33 : decode cX12_acted 33 = .ok (.getfield 514, 3) := by decide +kernel
theorem dX12_acted_36 : decode cX12_acted 36 = .ok (.iload_n 1, 1) := by decide +kernel
theorem dX12_acted_37 : decode cX12_acted 37 = .ok (.iaload, 1) := by decide +kernel
theorem dX12_acted_38 : decode cX12_acted 38 = .ok (.ireturn, 1) := by decide +kernel
theorem dX12_announce_0 : decode cX12_announce 0 = .ok (.aload_n 0, 1) := by decide +kernel
theorem dX12_announce_1 : decode cX12_announce 1 = .ok (.iload_n 1, 1) := by decide +kernel
theorem dX12_announce_2 : decode cX12_announce 2 = .ok (.invokevirtual 49, 3) := by decide +kernel
theorem dX12_announce_5 : decode cX12_announce 5 = .ok (.ifCond .eq 20, 3) := by decide +kernel
theorem dX12_announce_25 : decode cX12_announce 25 = .ok (.iconst (-1), 1) := by decide +kernel
theorem dX12_announce_26 : decode cX12_announce 26 = .ok (.ireturn, 1) := by decide +kernel
theorem dX12_byteAt_0 : decode cX12_byteAt 0 = .ok (.iload_n 1, 1) := by decide +kernel
theorem dX12_byteAt_1 : decode cX12_byteAt 1 = .ok (.aload_n 0, 1) := by decide +kernel
theorem dX12_byteAt_2 : decode cX12_byteAt 2 = .ok (.getfield 1, 3) := by decide +kernel
theorem dX12_byteAt_5 : decode cX12_byteAt 5 = .ok (.if_icmp .ge 16, 3) := by decide +kernel
theorem dX12_byteAt_21 : decode cX12_byteAt 21 = .ok (.iconst (-1), 1) := by decide +kernel
theorem dX12_byteAt_22 : decode cX12_byteAt 22 = .ok (.ireturn, 1) := by decide +kernel
theorem dX12_clear_0 : decode cX12_clear 0 = .ok (.iconst 0, 1) := by decide +kernel
theorem dX12_clear_1 : decode cX12_clear 1 = .ok (.istore_n 1, 1) := by decide +kernel
theorem dX12_clear_2 : decode cX12_clear 2 = .ok (.iconst 1, 1) := by decide +kernel
theorem dX12_clear_3 : decode cX12_clear 3 = .ok (.istore_n 2, 1) := by decide +kernel
theorem dX12_clear_4 : decode cX12_clear 4 = .ok (.iload_n 2, 1) := by decide +kernel
theorem dX12_clear_5 : decode cX12_clear 5 = .ok (.bipush 6, 2) := by decide +kernel
theorem dX12_clear_7 : decode cX12_clear 7 = .ok (.if_icmp .gt 25, 3) := by decide +kernel
theorem dX12_clear_10 : decode cX12_clear 10 = .ok (.iload_n 1, 1) := by decide +kernel
theorem dX12_clear_11 : decode cX12_clear 11 = .ok (.aload_n 0, 1) := by decide +kernel
theorem dX12_clear_12 : decode cX12_clear 12 = .ok (.getfield 514, 3) := by decide +kernel
theorem dX12_clear_15 : decode cX12_clear 15 = .ok (.iload_n 2, 1) := by decide +kernel
theorem dX12_clear_16 : decode cX12_clear 16 = .ok (.iaload, 1) := by decide +kernel
theorem dX12_clear_17 : decode cX12_clear 17 = .ok (.iadd, 1) := by decide +kernel
theorem dX12_clear_18 : decode cX12_clear 18 = .ok (.istore_n 1, 1) := by decide +kernel
theorem dX12_clear_19 : decode cX12_clear 19 = .ok (.aload_n 0, 1) := by decide +kernel
theorem dX12_clear_20 : decode cX12_clear 20 = .ok (.getfield 514, 3) := by decide +kernel
theorem dX12_clear_23 : decode cX12_clear 23 = .ok (.iload_n 2, 1) := by decide +kernel
theorem dX12_clear_24 : decode cX12_clear 24 = .ok (.iconst 0, 1) := by decide +kernel
theorem dX12_clear_25 : decode cX12_clear 25 = .ok (.iastore, 1) := by decide +kernel
theorem dX12_clear_26 : decode cX12_clear 26 = .ok (.iinc 2 1, 3) := by decide +kernel
theorem dX12_clear_29 : decode cX12_clear 29 = .ok (.goto (-25), 3) := by decide +kernel
theorem dX12_clear_32 : decode cX12_clear 32 = .ok (.iload_n 1, 1) := by decide +kernel
theorem dX12_clear_33 : decode cX12_clear 33 = .ok (.ireturn, 1) := by decide +kernel
theorem dX12_cone_0 : decode cX12_cone 0 = .ok (.aload_n 0, 1) := by decide +kernel
theorem dX12_cone_1 : decode cX12_cone 1 = .ok (.iload_n 1, 1) := by decide +kernel
theorem dX12_cone_2 : decode cX12_cone 2 = .ok (.invokevirtual 49, 3) := by decide +kernel
theorem dX12_cone_5 : decode cX12_cone 5 = .ok (.ifCond .eq 16, 3) := by decide +kernel
theorem dX12_cone_21 : decode cX12_cone 21 = .ok (.iconst (-1), 1) := by decide +kernel
theorem dX12_cone_22 : decode cX12_cone 22 = .ok (.ireturn, 1) := by decide +kernel
theorem dX12_count_0 : decode cX12_count 0 = .ok (.iconst 0, 1) := by decide +kernel
theorem dX12_count_1 : decode cX12_count 1 = .ok (.istore_n 2, 1) := by decide +kernel
theorem dX12_count_2 : decode cX12_count 2 = .ok (.iconst 0, 1) := by decide +kernel
theorem dX12_count_3 : decode cX12_count 3 = .ok (.istore_n 3, 1) := by decide +kernel
theorem dX12_count_49 : decode cX12_count 49 = .ok (.iload_n 1, 1) := by decide +kernel
theorem dX12_count_50 : decode cX12_count 50 = .ok (.tableswitch 119 0 11 #[62, 67, 72, 77, 82, 87, 92, 97, 102, 104, 109, 114], 62) := by decide +kernel
theorem dX12_count_112 : decode cX12_count 112 = .ok (.aload_n 0, 1) := by decide +kernel
theorem dX12_count_113 : decode cX12_count 113 = .ok (.getfield 15, 3) := by decide +kernel
theorem dX12_count_116 : decode cX12_count 116 = .ok (.ireturn, 1) := by decide +kernel
theorem dX12_count_117 : decode cX12_count 117 = .ok (.aload_n 0, 1) := by decide +kernel
theorem dX12_count_118 : decode cX12_count 118 = .ok (.getfield 34, 3) := by decide +kernel
theorem dX12_count_121 : decode cX12_count 121 = .ok (.ireturn, 1) := by decide +kernel
theorem dX12_count_122 : decode cX12_count 122 = .ok (.aload_n 0, 1) := by decide +kernel
theorem dX12_count_123 : decode cX12_count 123 = .ok (.getfield 37, 3) := by decide +kernel
theorem dX12_count_126 : decode cX12_count 126 = .ok (.ireturn, 1) := by decide +kernel
theorem dX12_count_127 : decode cX12_count 127 = .ok (.aload_n 0, 1) := by decide +kernel
theorem dX12_count_128 : decode cX12_count 128 = .ok (.getfield 95, 3) := by decide +kernel
theorem dX12_count_131 : decode cX12_count 131 = .ok (.ireturn, 1) := by decide +kernel
theorem dX12_count_132 : decode cX12_count 132 = .ok (.aload_n 0, 1) := by decide +kernel
theorem dX12_count_133 : decode cX12_count 133 = .ok (.getfield 355, 3) := by decide +kernel
theorem dX12_count_136 : decode cX12_count 136 = .ok (.ireturn, 1) := by decide +kernel
theorem dX12_count_137 : decode cX12_count 137 = .ok (.aload_n 0, 1) := by decide +kernel
theorem dX12_count_138 : decode cX12_count 138 = .ok (.getfield 695, 3) := by decide +kernel
theorem dX12_count_141 : decode cX12_count 141 = .ok (.ireturn, 1) := by decide +kernel
theorem dX12_count_142 : decode cX12_count 142 = .ok (.aload_n 0, 1) := by decide +kernel
theorem dX12_count_143 : decode cX12_count 143 = .ok (.getfield 1, 3) := by decide +kernel
theorem dX12_count_146 : decode cX12_count 146 = .ok (.ireturn, 1) := by decide +kernel
theorem dX12_count_147 : decode cX12_count 147 = .ok (.aload_n 0, 1) := by decide +kernel
theorem dX12_count_148 : decode cX12_count 148 = .ok (.getfield 591, 3) := by decide +kernel
theorem dX12_count_151 : decode cX12_count 151 = .ok (.ireturn, 1) := by decide +kernel
theorem dX12_count_152 : decode cX12_count 152 = .ok (.iload_n 2, 1) := by decide +kernel
theorem dX12_count_153 : decode cX12_count 153 = .ok (.ireturn, 1) := by decide +kernel
theorem dX12_count_154 : decode cX12_count 154 = .ok (.aload_n 0, 1) := by decide +kernel
theorem dX12_count_155 : decode cX12_count 155 = .ok (.getfield 610, 3) := by decide +kernel
theorem dX12_count_158 : decode cX12_count 158 = .ok (.ireturn, 1) := by decide +kernel
theorem dX12_count_159 : decode cX12_count 159 = .ok (.aload_n 0, 1) := by decide +kernel
theorem dX12_count_160 : decode cX12_count 160 = .ok (.getfield 79, 3) := by decide +kernel
theorem dX12_count_163 : decode cX12_count 163 = .ok (.ireturn, 1) := by decide +kernel
theorem dX12_count_164 : decode cX12_count 164 = .ok (.aload_n 0, 1) := by decide +kernel
theorem dX12_count_165 : decode cX12_count 165 = .ok (.getfield 85, 3) := by decide +kernel
theorem dX12_count_168 : decode cX12_count 168 = .ok (.ireturn, 1) := by decide +kernel
theorem dX12_count_169 : decode cX12_count 169 = .ok (.iconst (-1), 1) := by decide +kernel
theorem dX12_count_170 : decode cX12_count 170 = .ok (.ireturn, 1) := by decide +kernel
theorem dX12_cut_0 : decode cX12_cut 0 = .ok (.iload_n 1, 1) := by decide +kernel
theorem dX12_cut_1 : decode cX12_cut 1 = .ok (.ifCond .lt 11, 3) := by decide +kernel
theorem dX12_cut_4 : decode cX12_cut 4 = .ok (.iload_n 1, 1) := by decide +kernel
theorem dX12_cut_5 : decode cX12_cut 5 = .ok (.aload_n 0, 1) := by decide +kernel
theorem dX12_cut_6 : decode cX12_cut 6 = .ok (.getfield 1, 3) := by decide +kernel
theorem dX12_cut_9 : decode cX12_cut 9 = .ok (.if_icmp .le 5, 3) := by decide +kernel
theorem dX12_cut_12 : decode cX12_cut 12 = .ok (.iconst (-1), 1) := by decide +kernel
theorem dX12_cut_13 : decode cX12_cut 13 = .ok (.ireturn, 1) := by decide +kernel
theorem dX12_cut_14 : decode cX12_cut 14 = .ok (.aload_n 0, 1) := by decide +kernel
theorem dX12_cut_15 : decode cX12_cut 15 = .ok (.getfield 1, 3) := by decide +kernel
theorem dX12_cut_18 : decode cX12_cut 18 = .ok (.istore_n 2, 1) := by decide +kernel
theorem dX12_cut_19 : decode cX12_cut 19 = .ok (.aload_n 0, 1) := by decide +kernel
theorem dX12_cut_20 : decode cX12_cut 20 = .ok (.iload_n 1, 1) := by decide +kernel
theorem dX12_cut_21 : decode cX12_cut 21 = .ok (.putfield 1, 3) := by decide +kernel
theorem dX12_cut_24 : decode cX12_cut 24 = .ok (.iload_n 2, 1) := by decide +kernel
theorem dX12_cut_25 : decode cX12_cut 25 = .ok (.ireturn, 1) := by decide +kernel
theorem dX12_demand_0 : decode cX12_demand 0 = .ok (.aload_n 0, 1) := by decide +kernel
theorem dX12_demand_1 : decode cX12_demand 1 = .ok (.iload_n 1, 1) := by decide +kernel
theorem dX12_demand_2 : decode cX12_demand 2 = .ok (.invokevirtual 49, 3) := by decide +kernel
theorem dX12_demand_5 : decode cX12_demand 5 = .ok (.ifCond .eq 14, 3) := by decide +kernel
theorem dX12_demand_19 : decode cX12_demand 19 = .ok (.iconst (-1), 1) := by decide +kernel
theorem dX12_demand_20 : decode cX12_demand 20 = .ok (.ireturn, 1) := by decide +kernel
theorem dX12_differ_0 : decode cX12_differ 0 = .ok (.aload_n 0, 1) := by decide +kernel
theorem dX12_differ_1 : decode cX12_differ 1 = .ok (.iload_n 1, 1) := by decide +kernel
theorem dX12_differ_2 : decode cX12_differ 2 = .ok (.invokevirtual 49, 3) := by decide +kernel
theorem dX12_differ_5 : decode cX12_differ 5 = .ok (.ifCond .eq 11, 3) := by decide +kernel
theorem dX12_differ_16 : decode cX12_differ 16 = .ok (.ldc2_w 710, 3) := by decide +kernel
theorem dX12_differ_19 : decode cX12_differ 19 = .ok (.lreturn, 1) := by decide +kernel
theorem dX12_domain_0 : decode cX12_domain 0 = .ok (.aload_n 0, 1) := by decide +kernel
theorem dX12_domain_1 : decode cX12_domain 1 = .ok (.getfield 34, 3) := by decide +kernel
theorem dX12_domain_4 : decode cX12_domain 4 = .ok (.bipush 10, 2) := by decide +kernel
theorem dX12_domain_6 : decode cX12_domain 6 = .ok (.if_icmp .ne 6, 3) := by decide +kernel
theorem dX12_domain_12 : decode cX12_domain 12 = .ok (.aload_n 0, 1) := by decide +kernel
theorem dX12_domain_13 : decode cX12_domain 13 = .ok (.dup, 1) := by decide +kernel
theorem dX12_domain_14 : decode cX12_domain 14 = .ok (.getfield 34, 3) := by decide +kernel
theorem dX12_domain_17 : decode cX12_domain 17 = .ok (.iconst 1, 1) := by decide +kernel
theorem dX12_domain_18 : decode cX12_domain 18 = .ok (.iadd, 1) := by decide +kernel
theorem dX12_domain_19 : decode cX12_domain 19 = .ok (.putfield 34, 3) := by decide +kernel
theorem dX12_domain_22 : decode cX12_domain 22 = .ok (.aload_n 0, 1) := by decide +kernel
theorem dX12_domain_23 : decode cX12_domain 23 = .ok (.getfield 34, 3) := by decide +kernel
theorem dX12_domain_26 : decode cX12_domain 26 = .ok (.iconst 1, 1) := by decide +kernel
theorem dX12_domain_27 : decode cX12_domain 27 = .ok (.isub, 1) := by decide +kernel
theorem dX12_domain_28 : decode cX12_domain 28 = .ok (.ireturn, 1) := by decide +kernel
theorem dX12_fails_0 : decode cX12_fails 0 = .ok (.aload_n 0, 1) := by decide +kernel
theorem dX12_fails_1 : decode cX12_fails 1 = .ok (.getfield 478, 3) := by decide +kernel
theorem dX12_fails_4 : decode cX12_fails 4 = .ok (.iload_n 1, 1) := by decide +kernel
theorem dX12_fails_5 : decode cX12_fails 5 = .ok (.iaload, 1) := by decide +kernel
theorem dX12_fails_6 : decode cX12_fails 6 = .ok (.ldc 29, 2) := by decide +kernel
theorem dX12_fails_8 : decode cX12_fails 8 = .ok (.if_icmp .ne 10, 3) := by decide +kernel
theorem dX12_fails_11 : decode cX12_fails 11 = .ok (.aload_n 0, 1) := by decide +kernel
theorem dX12_fails_12 : decode cX12_fails 12 = .ok (.getfield 478, 3) := by decide +kernel
theorem dX12_fails_15 : decode cX12_fails 15 = .ok (.iload_n 1, 1) := by decide +kernel
theorem dX12_fails_16 : decode cX12_fails 16 = .ok (.iload_n 2, 1) := by decide +kernel
theorem dX12_fails_17 : decode cX12_fails 17 = .ok (.iastore, 1) := by decide +kernel
theorem dX12_fails_18 : decode cX12_fails 18 = .ok (.return_, 1) := by decide +kernel
theorem dX12_fault_0 : decode cX12_fault 0 = .ok (.aload_n 0, 1) := by decide +kernel
theorem dX12_fault_1 : decode cX12_fault 1 = .ok (.getfield 376, 3) := by decide +kernel
theorem dX12_fault_4 : decode cX12_fault 4 = .ok (.ireturn, 1) := by decide +kernel
theorem dX12_feed_0 : decode cX12_feed 0 = .ok (.aload_n 0, 1) := by decide +kernel
theorem dX12_feed_1 : decode cX12_feed 1 = .ok (.getfield 1, 3) := by decide +kernel
theorem dX12_feed_4 : decode cX12_feed 4 = .ok (.bipush 20, 2) := by decide +kernel
theorem dX12_feed_6 : decode cX12_feed 6 = .ok (.iadd, 1) := by decide +kernel
theorem dX12_feed_7 : decode cX12_feed 7 = .ok (.sipush 1000, 3) := by decide +kernel
theorem dX12_feed_10 : decode cX12_feed 10 = .ok (.if_icmp .le 6, 3) := by decide +kernel
theorem dX12_feed_16 : decode cX12_feed 16 = .ok (.iconst 0, 1) := by decide +kernel
theorem dX12_feed_17 : decode cX12_feed 17 = .ok (.istore 6, 2) := by decide +kernel
theorem dX12_feed_19 : decode cX12_feed 19 = .ok (.iload 6, 2) := by decide +kernel
theorem dX12_feed_21 : decode cX12_feed 21 = .ok (.bipush 20, 2) := by decide +kernel
theorem dX12_feed_23 : decode cX12_feed 23 = .ok (.if_icmp .ge 83, 3) := by decide +kernel
theorem dX12_feed_26 : decode cX12_feed 26 = .ok (.iload 6, 2) := by decide +kernel
theorem dX12_feed_28 : decode cX12_feed 28 = .ok (.iconst 4, 1) := by decide +kernel
theorem dX12_feed_29 : decode cX12_feed 29 = .ok (.if_icmp .ge 7, 3) := by decide +kernel
theorem dX12_feed_32 : decode cX12_feed 32 = .ok (.iload_n 1, 1) := by decide +kernel
theorem dX12_feed_33 : decode cX12_feed 33 = .ok (.goto 39, 3) := by decide +kernel
theorem dX12_feed_36 : decode cX12_feed 36 = .ok (.iload 6, 2) := by decide +kernel
theorem dX12_feed_38 : decode cX12_feed 38 = .ok (.bipush 8, 2) := by decide +kernel
theorem dX12_feed_40 : decode cX12_feed 40 = .ok (.if_icmp .ge 7, 3) := by decide +kernel
theorem dX12_feed_43 : decode cX12_feed 43 = .ok (.iload_n 2, 1) := by decide +kernel
theorem dX12_feed_44 : decode cX12_feed 44 = .ok (.goto 28, 3) := by decide +kernel
theorem dX12_feed_47 : decode cX12_feed 47 = .ok (.iload 6, 2) := by decide +kernel
theorem dX12_feed_49 : decode cX12_feed 49 = .ok (.bipush 12, 2) := by decide +kernel
theorem dX12_feed_51 : decode cX12_feed 51 = .ok (.if_icmp .ge 7, 3) := by decide +kernel
theorem dX12_feed_54 : decode cX12_feed 54 = .ok (.iload_n 3, 1) := by decide +kernel
theorem dX12_feed_55 : decode cX12_feed 55 = .ok (.goto 17, 3) := by decide +kernel
theorem dX12_feed_58 : decode cX12_feed 58 = .ok (.iload 6, 2) := by decide +kernel
theorem dX12_feed_60 : decode cX12_feed 60 = .ok (.bipush 16, 2) := by decide +kernel
theorem dX12_feed_62 : decode cX12_feed 62 = .ok (.if_icmp .ge 8, 3) := by decide +kernel
theorem dX12_feed_65 : decode cX12_feed 65 = .ok (.iload 4, 2) := by decide +kernel
theorem dX12_feed_67 : decode cX12_feed 67 = .ok (.goto 5, 3) := by decide +kernel
theorem dX12_feed_70 : decode cX12_feed 70 = .ok (.iload 5, 2) := by decide +kernel
theorem dX12_feed_72 : decode cX12_feed 72 = .ok (.istore 7, 2) := by decide +kernel
theorem dX12_feed_74 : decode cX12_feed 74 = .ok (.aload_n 0, 1) := by decide +kernel
theorem dX12_feed_75 : decode cX12_feed 75 = .ok (.getfield 7, 3) := by decide +kernel
theorem dX12_feed_78 : decode cX12_feed 78 = .ok (.aload_n 0, 1) := by decide +kernel
theorem dX12_feed_79 : decode cX12_feed 79 = .ok (.getfield 1, 3) := by decide +kernel
theorem dX12_feed_82 : decode cX12_feed 82 = .ok (.iload 6, 2) := by decide +kernel
theorem dX12_feed_84 : decode cX12_feed 84 = .ok (.iadd, 1) := by decide +kernel
theorem dX12_feed_85 : decode cX12_feed 85 = .ok (.iload 7, 2) := by decide +kernel
theorem dX12_feed_87 : decode cX12_feed 87 = .ok (.bipush 24, 2) := by decide +kernel
theorem dX12_feed_89 : decode cX12_feed 89 = .ok (.bipush 8, 2) := by decide +kernel
theorem dX12_feed_91 : decode cX12_feed 91 = .ok (.iload 6, 2) := by decide +kernel
theorem dX12_feed_93 : decode cX12_feed 93 = .ok (.iconst 4, 1) := by decide +kernel
theorem dX12_feed_94 : decode cX12_feed 94 = .ok (.irem, 1) := by decide +kernel
theorem dX12_feed_95 : decode cX12_feed 95 = .ok (.imul, 1) := by decide +kernel
theorem dX12_feed_96 : decode cX12_feed 96 = .ok (.isub, 1) := by decide +kernel
theorem dX12_feed_97 : decode cX12_feed 97 = .ok (.ishr, 1) := by decide +kernel
theorem dX12_feed_98 : decode cX12_feed 98 = .ok (.i2b, 1) := by decide +kernel
theorem dX12_feed_99 : decode cX12_feed 99 = .ok (.bastore, 1) := by decide +kernel
theorem dX12_feed_100 : decode cX12_feed 100 = .ok (.iinc 6 1, 3) := by decide +kernel
theorem dX12_feed_103 : decode cX12_feed 103 = .ok (.goto (-84), 3) := by decide +kernel
theorem dX12_feed_106 : decode cX12_feed 106 = .ok (.aload_n 0, 1) := by decide +kernel
theorem dX12_feed_107 : decode cX12_feed 107 = .ok (.dup, 1) := by decide +kernel
theorem dX12_feed_108 : decode cX12_feed 108 = .ok (.getfield 1, 3) := by decide +kernel
theorem dX12_feed_111 : decode cX12_feed 111 = .ok (.bipush 20, 2) := by decide +kernel
theorem dX12_feed_113 : decode cX12_feed 113 = .ok (.iadd, 1) := by decide +kernel
theorem dX12_feed_114 : decode cX12_feed 114 = .ok (.putfield 1, 3) := by decide +kernel
theorem dX12_feed_117 : decode cX12_feed 117 = .ok (.aload_n 0, 1) := by decide +kernel
theorem dX12_feed_118 : decode cX12_feed 118 = .ok (.getfield 1, 3) := by decide +kernel
theorem dX12_feed_121 : decode cX12_feed 121 = .ok (.ireturn, 1) := by decide +kernel
theorem dX12_go_0 : decode cX12_go 0 = .ok (.iload_n 1, 1) := by decide +kernel
theorem dX12_go_1 : decode cX12_go 1 = .ok (.iconst 1, 1) := by decide +kernel
theorem dX12_go_2 : decode cX12_go 2 = .ok (.sipush 500, 3) := by decide +kernel
theorem dX12_go_5 : decode cX12_go 5 = .ok (.invokestatic 18, 3) := by decide +kernel
theorem dX12_go_8 : decode cX12_go 8 = .ok (.ifCond .ne 5, 3) := by decide +kernel
theorem dX12_go_11 : decode cX12_go 11 = .ok (.iconst (-1), 1) := by decide +kernel
theorem dX12_go_12 : decode cX12_go 12 = .ok (.ireturn, 1) := by decide +kernel
theorem dX12_go_13 : decode cX12_go 13 = .ok (.iconst 0, 1) := by decide +kernel
theorem dX12_go_14 : decode cX12_go 14 = .ok (.istore_n 2, 1) := by decide +kernel
theorem dX12_go_15 : decode cX12_go 15 = .ok (.iload_n 2, 1) := by decide +kernel
theorem dX12_go_16 : decode cX12_go 16 = .ok (.iload_n 1, 1) := by decide +kernel
theorem dX12_go_17 : decode cX12_go 17 = .ok (.if_icmp .ge 26, 3) := by decide +kernel
theorem dX12_go_20 : decode cX12_go 20 = .ok (.aload_n 0, 1) := by decide +kernel
theorem dX12_go_21 : decode cX12_go 21 = .ok (.invokevirtual 613, 3) := by decide +kernel
theorem dX12_go_24 : decode cX12_go 24 = .ok (.ldc 29, 2) := by decide +kernel
theorem dX12_go_26 : decode cX12_go 26 = .ok (.if_icmp .eq 17, 3) := by decide +kernel
theorem dX12_go_43 : decode cX12_go 43 = .ok (.iload_n 2, 1) := by decide +kernel
theorem dX12_go_44 : decode cX12_go 44 = .ok (.ireturn, 1) := by decide +kernel
theorem dX12_hand_0 : decode cX12_hand 0 = .ok (.aload_n 0, 1) := by decide +kernel
theorem dX12_hand_1 : decode cX12_hand 1 = .ok (.getfield 411, 3) := by decide +kernel
theorem dX12_hand_4 : decode cX12_hand 4 = .ok (.ifCond .eq 7, 3) := by decide +kernel
theorem dX12_hand_11 : decode cX12_hand 11 = .ok (.ldc 29, 2) := by decide +kernel
theorem dX12_hand_13 : decode cX12_hand 13 = .ok (.ireturn, 1) := by decide +kernel
theorem dX12_hear_0 : decode cX12_hear 0 = .ok (.aload_n 0, 1) := by decide +kernel
theorem dX12_hear_1 : decode cX12_hear 1 = .ok (.iload_n 1, 1) := by decide +kernel
theorem dX12_hear_2 : decode cX12_hear 2 = .ok (.invokevirtual 66, 3) := by decide +kernel
theorem dX12_hear_5 : decode cX12_hear 5 = .ok (.ifCond .eq 12, 3) := by decide +kernel
theorem dX12_hear_17 : decode cX12_hear 17 = .ok (.iconst (-1), 1) := by decide +kernel
theorem dX12_hear_18 : decode cX12_hear 18 = .ok (.ireturn, 1) := by decide +kernel
theorem dX12_heard_0 : decode cX12_heard 0 = .ok (.aload_n 0, 1) := by decide +kernel
theorem dX12_heard_1 : decode cX12_heard 1 = .ok (.iload_n 1, 1) := by decide +kernel
theorem dX12_heard_2 : decode cX12_heard 2 = .ok (.invokevirtual 66, 3) := by decide +kernel
theorem dX12_heard_5 : decode cX12_heard 5 = .ok (.ifCond .eq 30, 3) := by decide +kernel
theorem dX12_heard_35 : decode cX12_heard 35 = .ok (.iconst (-1), 1) := by decide +kernel
theorem dX12_heard_36 : decode cX12_heard 36 = .ok (.ireturn, 1) := by decide +kernel
theorem dX12_in_0 : decode cX12_in 0 = .ok (.iload_n 0, 1) := by decide +kernel
theorem dX12_in_1 : decode cX12_in 1 = .ok (.iload_n 1, 1) := by decide +kernel
theorem dX12_in_2 : decode cX12_in 2 = .ok (.if_icmp .lt 12, 3) := by decide +kernel
theorem dX12_in_5 : decode cX12_in 5 = .ok (.iload_n 0, 1) := by decide +kernel
theorem dX12_in_6 : decode cX12_in 6 = .ok (.iload_n 2, 1) := by decide +kernel
theorem dX12_in_7 : decode cX12_in 7 = .ok (.if_icmp .gt 7, 3) := by decide +kernel
theorem dX12_in_10 : decode cX12_in 10 = .ok (.iconst 1, 1) := by decide +kernel
theorem dX12_in_11 : decode cX12_in 11 = .ok (.goto 4, 3) := by decide +kernel
theorem dX12_in_14 : decode cX12_in 14 = .ok (.iconst 0, 1) := by decide +kernel
theorem dX12_in_15 : decode cX12_in 15 = .ok (.ireturn, 1) := by decide +kernel
theorem dX12_isDomain_0 : decode cX12_isDomain 0 = .ok (.iload_n 1, 1) := by decide +kernel
theorem dX12_isDomain_1 : decode cX12_isDomain 1 = .ok (.iconst 0, 1) := by decide +kernel
theorem dX12_isDomain_2 : decode cX12_isDomain 2 = .ok (.aload_n 0, 1) := by decide +kernel
theorem dX12_isDomain_3 : decode cX12_isDomain 3 = .ok (.getfield 34, 3) := by decide +kernel
theorem dX12_isDomain_6 : decode cX12_isDomain 6 = .ok (.iconst 1, 1) := by decide +kernel
theorem dX12_isDomain_7 : decode cX12_isDomain 7 = .ok (.isub, 1) := by decide +kernel
theorem dX12_isDomain_8 : decode cX12_isDomain 8 = .ok (.invokestatic 18, 3) := by decide +kernel
theorem dX12_isDomain_11 : decode cX12_isDomain 11 = .ok (.ireturn, 1) := by decide +kernel
theorem dX12_isPrefix_0 : decode cX12_isPrefix 0 = .ok (.iload_n 1, 1) := by decide +kernel
theorem dX12_isPrefix_1 : decode cX12_isPrefix 1 = .ok (.iconst 0, 1) := by decide +kernel
theorem dX12_isPrefix_2 : decode cX12_isPrefix 2 = .ok (.aload_n 0, 1) := by decide +kernel
theorem dX12_isPrefix_3 : decode cX12_isPrefix 3 = .ok (.getfield 15, 3) := by decide +kernel
theorem dX12_isPrefix_6 : decode cX12_isPrefix 6 = .ok (.iconst 1, 1) := by decide +kernel
theorem dX12_isPrefix_7 : decode cX12_isPrefix 7 = .ok (.isub, 1) := by decide +kernel
theorem dX12_isPrefix_8 : decode cX12_isPrefix 8 = .ok (.invokestatic 18, 3) := by decide +kernel
theorem dX12_isPrefix_11 : decode cX12_isPrefix 11 = .ok (.ireturn, 1) := by decide +kernel
theorem dX12_isRest_0 : decode cX12_isRest 0 = .ok (.aload_n 0, 1) := by decide +kernel
theorem dX12_isRest_1 : decode cX12_isRest 1 = .ok (.iload_n 1, 1) := by decide +kernel
theorem dX12_isRest_2 : decode cX12_isRest 2 = .ok (.invokevirtual 722, 3) := by decide +kernel
theorem dX12_isRest_5 : decode cX12_isRest 5 = .ok (.iconst 1, 1) := by decide +kernel
theorem dX12_isRest_6 : decode cX12_isRest 6 = .ok (.istore_n 2, 1) := by decide +kernel
theorem dX12_isRest_7 : decode cX12_isRest 7 = .ok (.iconst 1, 1) := by decide +kernel
theorem dX12_isRest_8 : decode cX12_isRest 8 = .ok (.istore_n 3, 1) := by decide +kernel
theorem dX12_isRest_9 : decode cX12_isRest 9 = .ok (.iload_n 3, 1) := by decide +kernel
theorem dX12_isRest_10 : decode cX12_isRest 10 = .ok (.bipush 6, 2) := by decide +kernel
theorem dX12_isRest_12 : decode cX12_isRest 12 = .ok (.if_icmp .gt 33, 3) := by decide +kernel
theorem dX12_isRest_15 : decode cX12_isRest 15 = .ok (.iload_n 2, 1) := by decide +kernel
theorem dX12_isRest_16 : decode cX12_isRest 16 = .ok (.ifCond .eq 29, 3) := by decide +kernel
theorem dX12_isRest_19 : decode cX12_isRest 19 = .ok (.aload_n 0, 1) := by decide +kernel
theorem dX12_isRest_20 : decode cX12_isRest 20 = .ok (.iload_n 3, 1) := by decide +kernel
theorem dX12_isRest_21 : decode cX12_isRest 21 = .ok (.invokevirtual 725, 3) := by decide +kernel
theorem dX12_isRest_24 : decode cX12_isRest 24 = .ok (.aload_n 0, 1) := by decide +kernel
theorem dX12_isRest_25 : decode cX12_isRest 25 = .ok (.getfield 526, 3) := by decide +kernel
theorem dX12_isRest_28 : decode cX12_isRest 28 = .ok (.iload_n 3, 1) := by decide +kernel
theorem dX12_isRest_29 : decode cX12_isRest 29 = .ok (.iaload, 1) := by decide +kernel
theorem dX12_isRest_30 : decode cX12_isRest 30 = .ok (.if_icmp .ne 7, 3) := by decide +kernel
theorem dX12_isRest_33 : decode cX12_isRest 33 = .ok (.iconst 1, 1) := by decide +kernel
theorem dX12_isRest_34 : decode cX12_isRest 34 = .ok (.goto 4, 3) := by decide +kernel
theorem dX12_isRest_38 : decode cX12_isRest 38 = .ok (.istore_n 2, 1) := by decide +kernel
theorem dX12_isRest_39 : decode cX12_isRest 39 = .ok (.iinc 3 1, 3) := by decide +kernel
theorem dX12_isRest_42 : decode cX12_isRest 42 = .ok (.goto (-33), 3) := by decide +kernel
theorem dX12_isRest_45 : decode cX12_isRest 45 = .ok (.iload_n 2, 1) := by decide +kernel
theorem dX12_isRest_46 : decode cX12_isRest 46 = .ok (.ireturn, 1) := by decide +kernel
theorem dX12_isTie_0 : decode cX12_isTie 0 = .ok (.iload_n 1, 1) := by decide +kernel
theorem dX12_isTie_1 : decode cX12_isTie 1 = .ok (.iconst 0, 1) := by decide +kernel
theorem dX12_isTie_2 : decode cX12_isTie 2 = .ok (.aload_n 0, 1) := by decide +kernel
theorem dX12_isTie_3 : decode cX12_isTie 3 = .ok (.getfield 37, 3) := by decide +kernel
theorem dX12_isTie_6 : decode cX12_isTie 6 = .ok (.iconst 1, 1) := by decide +kernel
theorem dX12_isTie_7 : decode cX12_isTie 7 = .ok (.isub, 1) := by decide +kernel
theorem dX12_isTie_8 : decode cX12_isTie 8 = .ok (.invokestatic 18, 3) := by decide +kernel
theorem dX12_isTie_11 : decode cX12_isTie 11 = .ok (.ireturn, 1) := by decide +kernel
theorem dX12_judge_0 : decode cX12_judge 0 = .ok (.iload_n 1, 1) := by decide +kernel
theorem dX12_judge_1 : decode cX12_judge 1 = .ok (.iconst 0, 1) := by decide +kernel
theorem dX12_judge_2 : decode cX12_judge 2 = .ok (.aload_n 0, 1) := by decide +kernel
theorem dX12_judge_3 : decode cX12_judge 3 = .ok (.getfield 355, 3) := by decide +kernel
theorem dX12_judge_6 : decode cX12_judge 6 = .ok (.iconst 1, 1) := by decide +kernel
theorem dX12_judge_7 : decode cX12_judge 7 = .ok (.isub, 1) := by decide +kernel
theorem dX12_judge_8 : decode cX12_judge 8 = .ok (.invokestatic 18, 3) := by decide +kernel
theorem dX12_judge_11 : decode cX12_judge 11 = .ok (.ifCond .eq 30, 3) := by decide +kernel
theorem dX12_judge_41 : decode cX12_judge 41 = .ok (.iconst (-1), 1) := by decide +kernel
theorem dX12_judge_42 : decode cX12_judge 42 = .ok (.ireturn, 1) := by decide +kernel
theorem dX12_least_0 : decode cX12_least 0 = .ok (.aload_n 0, 1) := by decide +kernel
theorem dX12_least_1 : decode cX12_least 1 = .ok (.iload_n 1, 1) := by decide +kernel
theorem dX12_least_2 : decode cX12_least 2 = .ok (.invokevirtual 49, 3) := by decide +kernel
theorem dX12_least_5 : decode cX12_least 5 = .ok (.ifCond .ne 5, 3) := by decide +kernel
theorem dX12_least_8 : decode cX12_least 8 = .ok (.iconst (-1), 1) := by decide +kernel
theorem dX12_least_9 : decode cX12_least 9 = .ok (.ireturn, 1) := by decide +kernel
theorem dX12_led_0 : decode cX12_led 0 = .ok (.iload_n 1, 1) := by decide +kernel
theorem dX12_led_1 : decode cX12_led 1 = .ok (.iconst 0, 1) := by decide +kernel
theorem dX12_led_2 : decode cX12_led 2 = .ok (.aload_n 0, 1) := by decide +kernel
theorem dX12_led_3 : decode cX12_led 3 = .ok (.getfield 692, 3) := by decide +kernel
theorem dX12_led_6 : decode cX12_led 6 = .ok (.iconst 1, 1) := by decide +kernel
theorem dX12_led_7 : decode cX12_led 7 = .ok (.isub, 1) := by decide +kernel
theorem dX12_led_8 : decode cX12_led 8 = .ok (.invokestatic 18, 3) := by decide +kernel
theorem dX12_led_11 : decode cX12_led 11 = .ok (.ifCond .eq 12, 3) := by decide +kernel
theorem dX12_led_23 : decode cX12_led 23 = .ok (.ldc 29, 2) := by decide +kernel
theorem dX12_led_25 : decode cX12_led 25 = .ok (.ireturn, 1) := by decide +kernel
theorem dX12_letWay_0 : decode cX12_letWay 0 = .ok (.iconst 0, 1) := by decide +kernel
theorem dX12_letWay_1 : decode cX12_letWay 1 = .ok (.istore_n 1, 1) := by decide +kernel
theorem dX12_letWay_2 : decode cX12_letWay 2 = .ok (.iconst 0, 1) := by decide +kernel
theorem dX12_letWay_3 : decode cX12_letWay 3 = .ok (.istore_n 2, 1) := by decide +kernel
theorem dX12_letWay_4 : decode cX12_letWay 4 = .ok (.iload_n 2, 1) := by decide +kernel
theorem dX12_letWay_5 : decode cX12_letWay 5 = .ok (.iconst 1, 1) := by decide +kernel
theorem dX12_letWay_6 : decode cX12_letWay 6 = .ok (.iadd, 1) := by decide +kernel
theorem dX12_letWay_7 : decode cX12_letWay 7 = .ok (.aload_n 0, 1) := by decide +kernel
theorem dX12_letWay_8 : decode cX12_letWay 8 = .ok (.getfield 79, 3) := by decide +kernel
theorem dX12_letWay_11 : decode cX12_letWay 11 = .ok (.if_icmp .ge 114, 3) := by decide +kernel
theorem dX12_letWay_125 : decode cX12_letWay 125 = .ok (.iconst 0, 1) := by decide +kernel
theorem dX12_letWay_126 : decode cX12_letWay 126 = .ok (.ireturn, 1) := by decide +kernel
theorem dX12_letter_0 : decode cX12_letter 0 = .ok (.aload_n 0, 1) := by decide +kernel
theorem dX12_letter_1 : decode cX12_letter 1 = .ok (.iload_n 1, 1) := by decide +kernel
theorem dX12_letter_2 : decode cX12_letter 2 = .ok (.invokevirtual 49, 3) := by decide +kernel
theorem dX12_letter_5 : decode cX12_letter 5 = .ok (.ifCond .ne 5, 3) := by decide +kernel
theorem dX12_letter_8 : decode cX12_letter 8 = .ok (.iconst (-1), 1) := by decide +kernel
theorem dX12_letter_9 : decode cX12_letter 9 = .ok (.ireturn, 1) := by decide +kernel
theorem dX12_load_0 : decode cX12_load 0 = .ok (.aload_n 0, 1) := by decide +kernel
theorem dX12_load_1 : decode cX12_load 1 = .ok (.iload_n 1, 1) := by decide +kernel
theorem dX12_load_2 : decode cX12_load 2 = .ok (.invokevirtual 66, 3) := by decide +kernel
theorem dX12_load_5 : decode cX12_load 5 = .ok (.ifCond .eq 12, 3) := by decide +kernel
theorem dX12_load_17 : decode cX12_load 17 = .ok (.iconst (-1), 1) := by decide +kernel
theorem dX12_load_18 : decode cX12_load 18 = .ok (.ireturn, 1) := by decide +kernel
theorem dX12_mask_0 : decode cX12_mask 0 = .ok (.iload_n 0, 1) := by decide +kernel
theorem dX12_mask_1 : decode cX12_mask 1 = .ok (.ifCond .ne 7, 3) := by decide +kernel
theorem dX12_mask_4 : decode cX12_mask 4 = .ok (.iconst 0, 1) := by decide +kernel
theorem dX12_mask_5 : decode cX12_mask 5 = .ok (.goto 9, 3) := by decide +kernel
theorem dX12_mask_8 : decode cX12_mask 8 = .ok (.iconst (-1), 1) := by decide +kernel
theorem dX12_mask_9 : decode cX12_mask 9 = .ok (.bipush 32, 2) := by decide +kernel
theorem dX12_mask_11 : decode cX12_mask 11 = .ok (.iload_n 0, 1) := by decide +kernel
theorem dX12_mask_12 : decode cX12_mask 12 = .ok (.isub, 1) := by decide +kernel
theorem dX12_mask_13 : decode cX12_mask 13 = .ok (.ishl, 1) := by decide +kernel
theorem dX12_mask_14 : decode cX12_mask 14 = .ok (.ireturn, 1) := by decide +kernel
theorem dX12_message_0 : decode cX12_message 0 = .ok (.iconst 0, 1) := by decide +kernel
theorem dX12_message_1 : decode cX12_message 1 = .ok (.istore_n 1, 1) := by decide +kernel
theorem dX12_message_2 : decode cX12_message 2 = .ok (.iload_n 1, 1) := by decide +kernel
theorem dX12_message_3 : decode cX12_message 3 = .ok (.iconst 4, 1) := by decide +kernel
theorem dX12_message_4 : decode cX12_message 4 = .ok (.if_icmp .ge 17, 3) := by decide +kernel
theorem dX12_message_7 : decode cX12_message 7 = .ok (.aload_n 0, 1) := by decide +kernel
theorem dX12_message_8 : decode cX12_message 8 = .ok (.getfield 478, 3) := by decide +kernel
theorem dX12_message_11 : decode cX12_message 11 = .ok (.iload_n 1, 1) := by decide +kernel
theorem dX12_message_12 : decode cX12_message 12 = .ok (.ldc 29, 2) := by decide +kernel
theorem dX12_message_14 : decode cX12_message 14 = .ok (.iastore, 1) := by decide +kernel
theorem dX12_message_15 : decode cX12_message 15 = .ok (.iinc 1 1, 3) := by decide +kernel
theorem dX12_message_18 : decode cX12_message 18 = .ok (.goto (-16), 3) := by decide +kernel
theorem dX12_message_21 : decode cX12_message 21 = .ok (.iconst 0, 1) := by decide +kernel
theorem dX12_message_22 : decode cX12_message 22 = .ok (.istore_n 1, 1) := by decide +kernel
theorem dX12_message_43 : decode cX12_message 43 = .ok (.aload_n 0, 1) := by decide +kernel
theorem dX12_message_44 : decode cX12_message 44 = .ok (.iconst 0, 1) := by decide +kernel
theorem dX12_message_45 : decode cX12_message 45 = .ok (.putfield 625, 3) := by decide +kernel
theorem dX12_message_48 : decode cX12_message 48 = .ok (.aload_n 0, 1) := by decide +kernel
theorem dX12_message_49 : decode cX12_message 49 = .ok (.iconst 0, 1) := by decide +kernel
theorem dX12_message_50 : decode cX12_message 50 = .ok (.putfield 628, 3) := by decide +kernel
theorem dX12_message_53 : decode cX12_message 53 = .ok (.aload_n 0, 1) := by decide +kernel
theorem dX12_message_54 : decode cX12_message 54 = .ok (.iconst 0, 1) := by decide +kernel
theorem dX12_message_55 : decode cX12_message 55 = .ok (.putfield 652, 3) := by decide +kernel
theorem dX12_message_58 : decode cX12_message 58 = .ok (.aload_n 0, 1) := by decide +kernel
theorem dX12_message_59 : decode cX12_message 59 = .ok (.iconst 0, 1) := by decide +kernel
theorem dX12_message_60 : decode cX12_message 60 = .ok (.putfield 637, 3) := by decide +kernel
theorem dX12_message_63 : decode cX12_message 63 = .ok (.aload_n 0, 1) := by decide +kernel
theorem dX12_message_64 : decode cX12_message 64 = .ok (.iconst 0, 1) := by decide +kernel
theorem dX12_message_65 : decode cX12_message 65 = .ok (.putfield 631, 3) := by decide +kernel
theorem dX12_message_68 : decode cX12_message 68 = .ok (.aload_n 0, 1) := by decide +kernel
theorem dX12_message_69 : decode cX12_message 69 = .ok (.iconst 0, 1) := by decide +kernel
theorem dX12_message_70 : decode cX12_message 70 = .ok (.putfield 634, 3) := by decide +kernel
theorem dX12_message_73 : decode cX12_message 73 = .ok (.sipush 960, 3) := by decide +kernel
theorem dX12_message_76 : decode cX12_message 76 = .ok (.istore_n 1, 1) := by decide +kernel
theorem dX12_message_77 : decode cX12_message 77 = .ok (.aload_n 0, 1) := by decide +kernel
theorem dX12_message_78 : decode cX12_message 78 = .ok (.getfield 148, 3) := by decide +kernel
theorem dX12_message_81 : decode cX12_message 81 = .ok (.iload_n 1, 1) := by decide +kernel
theorem dX12_message_82 : decode cX12_message 82 = .ok (.iconst 0, 1) := by decide +kernel
theorem dX12_message_83 : decode cX12_message 83 = .ok (.iastore, 1) := by decide +kernel
theorem dX12_message_84 : decode cX12_message 84 = .ok (.aload_n 0, 1) := by decide +kernel
theorem dX12_message_85 : decode cX12_message 85 = .ok (.getfield 148, 3) := by decide +kernel
theorem dX12_message_88 : decode cX12_message 88 = .ok (.iload_n 1, 1) := by decide +kernel
theorem dX12_message_89 : decode cX12_message 89 = .ok (.iconst 1, 1) := by decide +kernel
theorem dX12_message_90 : decode cX12_message 90 = .ok (.iadd, 1) := by decide +kernel
theorem dX12_message_91 : decode cX12_message 91 = .ok (.bipush 100, 2) := by decide +kernel
theorem dX12_message_93 : decode cX12_message 93 = .ok (.iastore, 1) := by decide +kernel
theorem dX12_message_94 : decode cX12_message 94 = .ok (.iconst 2, 1) := by decide +kernel
theorem dX12_message_95 : decode cX12_message 95 = .ok (.istore_n 2, 1) := by decide +kernel
theorem dX12_message_96 : decode cX12_message 96 = .ok (.iload_n 2, 1) := by decide +kernel
theorem dX12_message_97 : decode cX12_message 97 = .ok (.bipush 6, 2) := by decide +kernel
theorem dX12_message_99 : decode cX12_message 99 = .ok (.if_icmp .ge 18, 3) := by decide +kernel
theorem dX12_message_102 : decode cX12_message 102 = .ok (.aload_n 0, 1) := by decide +kernel
theorem dX12_message_103 : decode cX12_message 103 = .ok (.getfield 148, 3) := by decide +kernel
theorem dX12_message_106 : decode cX12_message 106 = .ok (.iload_n 1, 1) := by decide +kernel
theorem dX12_message_107 : decode cX12_message 107 = .ok (.iload_n 2, 1) := by decide +kernel
theorem dX12_message_108 : decode cX12_message 108 = .ok (.iadd, 1) := by decide +kernel
theorem dX12_message_109 : decode cX12_message 109 = .ok (.iconst 0, 1) := by decide +kernel
theorem dX12_message_110 : decode cX12_message 110 = .ok (.iastore, 1) := by decide +kernel
theorem dX12_message_111 : decode cX12_message 111 = .ok (.iinc 2 1, 3) := by decide +kernel
theorem dX12_message_114 : decode cX12_message 114 = .ok (.goto (-18), 3) := by decide +kernel
theorem dX12_message_117 : decode cX12_message 117 = .ok (.aload_n 0, 1) := by decide +kernel
theorem dX12_message_118 : decode cX12_message 118 = .ok (.iconst 1, 1) := by decide +kernel
theorem dX12_message_119 : decode cX12_message 119 = .ok (.putfield 655, 3) := by decide +kernel
theorem dX12_message_122 : decode cX12_message 122 = .ok (.aload_n 0, 1) := by decide +kernel
theorem dX12_message_123 : decode cX12_message 123 = .ok (.getfield 1, 3) := by decide +kernel
theorem dX12_message_126 : decode cX12_message 126 = .ok (.iconst 2, 1) := by decide +kernel
theorem dX12_message_127 : decode cX12_message 127 = .ok (.if_icmp .lt 12, 3) := by decide +kernel
theorem dX12_message_139 : decode cX12_message 139 = .ok (.iconst 0, 1) := by decide +kernel
theorem dX12_message_140 : decode cX12_message 140 = .ok (.istore_n 2, 1) := by decide +kernel
theorem dX12_message_141 : decode cX12_message 141 = .ok (.aload_n 0, 1) := by decide +kernel
theorem dX12_message_142 : decode cX12_message 142 = .ok (.getfield 1, 3) := by decide +kernel
theorem dX12_message_145 : decode cX12_message 145 = .ok (.iconst 2, 1) := by decide +kernel
theorem dX12_message_146 : decode cX12_message 146 = .ok (.if_icmp .lt 13, 3) := by decide +kernel
theorem dX12_message_159 : decode cX12_message 159 = .ok (.aload_n 0, 1) := by decide +kernel
theorem dX12_message_160 : decode cX12_message 160 = .ok (.iconst 1, 1) := by decide +kernel
theorem dX12_message_161 : decode cX12_message 161 = .ok (.iconst 0, 1) := by decide +kernel
theorem dX12_message_162 : decode cX12_message 162 = .ok (.invokevirtual 620, 3) := by decide +kernel
theorem dX12_message_165 : decode cX12_message 165 = .ok (.goto 138, 3) := by decide +kernel
theorem dX12_message_303 : decode cX12_message 303 = .ok (.aload_n 0, 1) := by decide +kernel
theorem dX12_message_304 : decode cX12_message 304 = .ok (.iconst 0, 1) := by decide +kernel
theorem dX12_message_305 : decode cX12_message 305 = .ok (.putfield 1, 3) := by decide +kernel
theorem dX12_message_308 : decode cX12_message 308 = .ok (.aload_n 0, 1) := by decide +kernel
theorem dX12_message_309 : decode cX12_message 309 = .ok (.aload_n 0, 1) := by decide +kernel
theorem dX12_message_310 : decode cX12_message 310 = .ok (.getfield 478, 3) := by decide +kernel
theorem dX12_message_313 : decode cX12_message 313 = .ok (.iconst 1, 1) := by decide +kernel
theorem dX12_message_314 : decode cX12_message 314 = .ok (.iaload, 1) := by decide +kernel
theorem dX12_message_315 : decode cX12_message 315 = .ok (.ldc 29, 2) := by decide +kernel
theorem dX12_message_317 : decode cX12_message 317 = .ok (.if_icmp .eq 7, 3) := by decide +kernel
theorem dX12_message_320 : decode cX12_message 320 = .ok (.iconst 1, 1) := by decide +kernel
theorem dX12_message_321 : decode cX12_message 321 = .ok (.goto 4, 3) := by decide +kernel
theorem dX12_message_325 : decode cX12_message 325 = .ok (.putfield 665, 3) := by decide +kernel
theorem dX12_message_328 : decode cX12_message 328 = .ok (.aload_n 0, 1) := by decide +kernel
theorem dX12_message_329 : decode cX12_message 329 = .ok (.getfield 665, 3) := by decide +kernel
theorem dX12_message_332 : decode cX12_message 332 = .ok (.ifCond .ne 75, 3) := by decide +kernel
theorem dX12_message_407 : decode cX12_message 407 = .ok (.aload_n 0, 1) := by decide +kernel
theorem dX12_message_408 : decode cX12_message 408 = .ok (.aload_n 0, 1) := by decide +kernel
theorem dX12_message_409 : decode cX12_message 409 = .ok (.getfield 478, 3) := by decide +kernel
theorem dX12_message_412 : decode cX12_message 412 = .ok (.iconst 1, 1) := by decide +kernel
theorem dX12_message_413 : decode cX12_message 413 = .ok (.iaload, 1) := by decide +kernel
theorem dX12_message_414 : decode cX12_message 414 = .ok (.ldc 29, 2) := by decide +kernel
theorem dX12_message_416 : decode cX12_message 416 = .ok (.if_icmp .eq 7, 3) := by decide +kernel
theorem dX12_message_419 : decode cX12_message 419 = .ok (.iconst 1, 1) := by decide +kernel
theorem dX12_message_420 : decode cX12_message 420 = .ok (.goto 34, 3) := by decide +kernel
theorem dX12_message_454 : decode cX12_message 454 = .ok (.putfield 668, 3) := by decide +kernel
theorem dX12_message_457 : decode cX12_message 457 = .ok (.aload_n 0, 1) := by decide +kernel
theorem dX12_message_458 : decode cX12_message 458 = .ok (.getfield 668, 3) := by decide +kernel
theorem dX12_message_461 : decode cX12_message 461 = .ok (.ireturn, 1) := by decide +kernel
theorem dX12_next_0 : decode cX12_next 0 = .ok (.aload_n 0, 1) := by decide +kernel
theorem dX12_next_1 : decode cX12_next 1 = .ok (.getfield 215, 3) := by decide +kernel
theorem dX12_next_4 : decode cX12_next 4 = .ok (.ifCond .eq 4, 3) := by decide +kernel
theorem dX12_next_8 : decode cX12_next 8 = .ok (.aload_n 0, 1) := by decide +kernel
theorem dX12_next_9 : decode cX12_next 9 = .ok (.aload_n 0, 1) := by decide +kernel
theorem dX12_next_10 : decode cX12_next 10 = .ok (.getfield 224, 3) := by decide +kernel
theorem dX12_next_13 : decode cX12_next 13 = .ok (.invokevirtual 227, 3) := by decide +kernel
theorem dX12_next_16 : decode cX12_next 16 = .ok (.bipush 32, 2) := by decide +kernel
theorem dX12_next_18 : decode cX12_next 18 = .ok (.if_icmp .eq 16, 3) := by decide +kernel
theorem dX12_next_21 : decode cX12_next 21 = .ok (.aload_n 0, 1) := by decide +kernel
theorem dX12_next_22 : decode cX12_next 22 = .ok (.aload_n 0, 1) := by decide +kernel
theorem dX12_next_23 : decode cX12_next 23 = .ok (.getfield 224, 3) := by decide +kernel
theorem dX12_next_26 : decode cX12_next 26 = .ok (.invokevirtual 227, 3) := by decide +kernel
theorem dX12_next_29 : decode cX12_next 29 = .ok (.bipush 10, 2) := by decide +kernel
theorem dX12_next_31 : decode cX12_next 31 = .ok (.if_icmp .ne 16, 3) := by decide +kernel
theorem dX12_next_47 : decode cX12_next 47 = .ok (.aload_n 0, 1) := by decide +kernel
theorem dX12_next_48 : decode cX12_next 48 = .ok (.aload_n 0, 1) := by decide +kernel
theorem dX12_next_49 : decode cX12_next 49 = .ok (.getfield 224, 3) := by decide +kernel
theorem dX12_next_52 : decode cX12_next 52 = .ok (.putfield 218, 3) := by decide +kernel
theorem dX12_next_55 : decode cX12_next 55 = .ok (.aload_n 0, 1) := by decide +kernel
theorem dX12_next_56 : decode cX12_next 56 = .ok (.aload_n 0, 1) := by decide +kernel
theorem dX12_next_57 : decode cX12_next 57 = .ok (.getfield 224, 3) := by decide +kernel
theorem dX12_next_60 : decode cX12_next 60 = .ok (.invokevirtual 227, 3) := by decide +kernel
theorem dX12_next_63 : decode cX12_next 63 = .ok (.istore_n 1, 1) := by decide +kernel
theorem dX12_next_64 : decode cX12_next 64 = .ok (.aload_n 0, 1) := by decide +kernel
theorem dX12_next_65 : decode cX12_next 65 = .ok (.iload_n 1, 1) := by decide +kernel
theorem dX12_next_66 : decode cX12_next 66 = .ok (.ifCond .ge 7, 3) := by decide +kernel
theorem dX12_next_69 : decode cX12_next 69 = .ok (.iconst 0, 1) := by decide +kernel
theorem dX12_next_70 : decode cX12_next 70 = .ok (.goto 36, 3) := by decide +kernel
theorem dX12_next_106 : decode cX12_next 106 = .ok (.putfield 230, 3) := by decide +kernel
theorem dX12_next_109 : decode cX12_next 109 = .ok (.aload_n 0, 1) := by decide +kernel
theorem dX12_next_110 : decode cX12_next 110 = .ok (.iload_n 1, 1) := by decide +kernel
theorem dX12_next_111 : decode cX12_next 111 = .ok (.putfield 233, 3) := by decide +kernel
theorem dX12_next_114 : decode cX12_next 114 = .ok (.aload_n 0, 1) := by decide +kernel
theorem dX12_next_115 : decode cX12_next 115 = .ok (.getfield 230, 3) := by decide +kernel
theorem dX12_next_118 : decode cX12_next 118 = .ok (.ifCond .ne 4, 3) := by decide +kernel
theorem dX12_next_121 : decode cX12_next 121 = .ok (.return_, 1) := by decide +kernel
theorem dX12_octet_0 : decode cX12_octet 0 = .ok (.iload_n 1, 1) := by decide +kernel
theorem dX12_octet_1 : decode cX12_octet 1 = .ok (.iconst 0, 1) := by decide +kernel
theorem dX12_octet_2 : decode cX12_octet 2 = .ok (.aload_n 0, 1) := by decide +kernel
theorem dX12_octet_3 : decode cX12_octet 3 = .ok (.getfield 671, 3) := by decide +kernel
theorem dX12_octet_6 : decode cX12_octet 6 = .ok (.iconst 1, 1) := by decide +kernel
theorem dX12_octet_7 : decode cX12_octet 7 = .ok (.isub, 1) := by decide +kernel
theorem dX12_octet_8 : decode cX12_octet 8 = .ok (.invokestatic 18, 3) := by decide +kernel
theorem dX12_octet_11 : decode cX12_octet 11 = .ok (.ifCond .eq 12, 3) := by decide +kernel
theorem dX12_octet_23 : decode cX12_octet 23 = .ok (.ldc 29, 2) := by decide +kernel
theorem dX12_octet_25 : decode cX12_octet 25 = .ok (.ireturn, 1) := by decide +kernel
theorem dX12_open_0 : decode cX12_open 0 = .ok (.iconst 1, 1) := by decide +kernel
theorem dX12_open_1 : decode cX12_open 1 = .ok (.istore_n 2, 1) := by decide +kernel
theorem dX12_open_2 : decode cX12_open 2 = .ok (.iload_n 2, 1) := by decide +kernel
theorem dX12_open_3 : decode cX12_open 3 = .ok (.bipush 6, 2) := by decide +kernel
theorem dX12_open_5 : decode cX12_open 5 = .ok (.if_icmp .gt 32, 3) := by decide +kernel
theorem dX12_open_8 : decode cX12_open 8 = .ok (.aload_n 0, 1) := by decide +kernel
theorem dX12_open_9 : decode cX12_open 9 = .ok (.getfield 526, 3) := by decide +kernel
theorem dX12_open_12 : decode cX12_open 12 = .ok (.iload_n 2, 1) := by decide +kernel
theorem dX12_open_13 : decode cX12_open 13 = .ok (.iload_n 1, 1) := by decide +kernel
theorem dX12_open_14 : decode cX12_open 14 = .ok (.aload_n 0, 1) := by decide +kernel
theorem dX12_open_15 : decode cX12_open 15 = .ok (.getfield 523, 3) := by decide +kernel
theorem dX12_open_18 : decode cX12_open 18 = .ok (.iload_n 2, 1) := by decide +kernel
theorem dX12_open_19 : decode cX12_open 19 = .ok (.iaload, 1) := by decide +kernel
theorem dX12_open_20 : decode cX12_open 20 = .ok (.idiv, 1) := by decide +kernel
theorem dX12_open_21 : decode cX12_open 21 = .ok (.aload_n 0, 1) := by decide +kernel
theorem dX12_open_22 : decode cX12_open 22 = .ok (.getfield 514, 3) := by decide +kernel
theorem dX12_open_25 : decode cX12_open 25 = .ok (.iload_n 2, 1) := by decide +kernel
theorem dX12_open_26 : decode cX12_open 26 = .ok (.iaload, 1) := by decide +kernel
theorem dX12_open_27 : decode cX12_open 27 = .ok (.iconst 1, 1) := by decide +kernel
theorem dX12_open_28 : decode cX12_open 28 = .ok (.iadd, 1) := by decide +kernel
theorem dX12_open_29 : decode cX12_open 29 = .ok (.irem, 1) := by decide +kernel
theorem dX12_open_30 : decode cX12_open 30 = .ok (.iastore, 1) := by decide +kernel
theorem dX12_open_31 : decode cX12_open 31 = .ok (.iinc 2 1, 3) := by decide +kernel
theorem dX12_open_34 : decode cX12_open 34 = .ok (.goto (-32), 3) := by decide +kernel
theorem dX12_open_37 : decode cX12_open 37 = .ok (.return_, 1) := by decide +kernel
theorem dX12_pace_0 : decode cX12_pace 0 = .ok (.aload_n 0, 1) := by decide +kernel
theorem dX12_pace_1 : decode cX12_pace 1 = .ok (.iload_n 1, 1) := by decide +kernel
theorem dX12_pace_2 : decode cX12_pace 2 = .ok (.invokevirtual 66, 3) := by decide +kernel
theorem dX12_pace_5 : decode cX12_pace 5 = .ok (.ifCond .eq 25, 3) := by decide +kernel
theorem dX12_pace_30 : decode cX12_pace 30 = .ok (.iconst (-1), 1) := by decide +kernel
theorem dX12_pace_31 : decode cX12_pace 31 = .ok (.ireturn, 1) := by decide +kernel
theorem dX12_part_0 : decode cX12_part 0 = .ok (.aload_n 0, 1) := by decide +kernel
theorem dX12_part_1 : decode cX12_part 1 = .ok (.getfield 655, 3) := by decide +kernel
theorem dX12_part_4 : decode cX12_part 4 = .ok (.ifCond .ne 6, 3) := by decide +kernel
theorem dX12_part_7 : decode cX12_part 7 = .ok (.ldc 29, 2) := by decide +kernel
theorem dX12_part_9 : decode cX12_part 9 = .ok (.ireturn, 1) := by decide +kernel
theorem dX12_picked_0 : decode cX12_picked 0 = .ok (.aload_n 0, 1) := by decide +kernel
theorem dX12_picked_1 : decode cX12_picked 1 = .ok (.iload_n 1, 1) := by decide +kernel
theorem dX12_picked_2 : decode cX12_picked 2 = .ok (.invokevirtual 49, 3) := by decide +kernel
theorem dX12_picked_5 : decode cX12_picked 5 = .ok (.ifCond .eq 11, 3) := by decide +kernel
theorem dX12_picked_16 : decode cX12_picked 16 = .ok (.iconst (-1), 1) := by decide +kernel
theorem dX12_picked_17 : decode cX12_picked 17 = .ok (.ireturn, 1) := by decide +kernel
theorem dX12_policy_0 : decode cX12_policy 0 = .ok (.aload_n 0, 1) := by decide +kernel
theorem dX12_policy_1 : decode cX12_policy 1 = .ok (.aload_n 0, 1) := by decide +kernel
theorem dX12_policy_2 : decode cX12_policy 2 = .ok (.getfield 355, 3) := by decide +kernel
theorem dX12_policy_5 : decode cX12_policy 5 = .ok (.bipush 12, 2) := by decide +kernel
theorem dX12_policy_7 : decode cX12_policy 7 = .ok (.if_icmp .ge 10, 3) := by decide +kernel
theorem dX12_policy_10 : decode cX12_policy 10 = .ok (.aload_n 0, 1) := by decide +kernel
theorem dX12_policy_11 : decode cX12_policy 11 = .ok (.getfield 355, 3) := by decide +kernel
theorem dX12_policy_14 : decode cX12_policy 14 = .ok (.goto 5, 3) := by decide +kernel
theorem dX12_policy_19 : decode cX12_policy 19 = .ok (.putfield 278, 3) := by decide +kernel
theorem dX12_policy_22 : decode cX12_policy 22 = .ok (.aload_n 0, 1) := by decide +kernel
theorem dX12_policy_23 : decode cX12_policy 23 = .ok (.getfield 358, 3) := by decide +kernel
theorem dX12_policy_26 : decode cX12_policy 26 = .ok (.aload_n 0, 1) := by decide +kernel
theorem dX12_policy_27 : decode cX12_policy 27 = .ok (.getfield 278, 3) := by decide +kernel
theorem dX12_policy_30 : decode cX12_policy 30 = .ok (.iconst 0, 1) := by decide +kernel
theorem dX12_policy_31 : decode cX12_policy 31 = .ok (.iastore, 1) := by decide +kernel
theorem dX12_policy_32 : decode cX12_policy 32 = .ok (.aload_n 0, 1) := by decide +kernel
theorem dX12_policy_33 : decode cX12_policy 33 = .ok (.getfield 320, 3) := by decide +kernel
theorem dX12_policy_36 : decode cX12_policy 36 = .ok (.aload_n 0, 1) := by decide +kernel
theorem dX12_policy_37 : decode cX12_policy 37 = .ok (.getfield 278, 3) := by decide +kernel
theorem dX12_policy_40 : decode cX12_policy 40 = .ok (.iconst 0, 1) := by decide +kernel
theorem dX12_policy_41 : decode cX12_policy 41 = .ok (.iastore, 1) := by decide +kernel
theorem dX12_policy_42 : decode cX12_policy 42 = .ok (.aload_n 0, 1) := by decide +kernel
theorem dX12_policy_43 : decode cX12_policy 43 = .ok (.getfield 346, 3) := by decide +kernel
theorem dX12_policy_46 : decode cX12_policy 46 = .ok (.aload_n 0, 1) := by decide +kernel
theorem dX12_policy_47 : decode cX12_policy 47 = .ok (.getfield 278, 3) := by decide +kernel
theorem dX12_policy_50 : decode cX12_policy 50 = .ok (.iconst 0, 1) := by decide +kernel
theorem dX12_policy_51 : decode cX12_policy 51 = .ok (.iastore, 1) := by decide +kernel
theorem dX12_policy_52 : decode cX12_policy 52 = .ok (.aload_n 0, 1) := by decide +kernel
theorem dX12_policy_53 : decode cX12_policy 53 = .ok (.getfield 292, 3) := by decide +kernel
theorem dX12_policy_56 : decode cX12_policy 56 = .ok (.aload_n 0, 1) := by decide +kernel
theorem dX12_policy_57 : decode cX12_policy 57 = .ok (.getfield 278, 3) := by decide +kernel
theorem dX12_policy_60 : decode cX12_policy 60 = .ok (.iconst 0, 1) := by decide +kernel
theorem dX12_policy_61 : decode cX12_policy 61 = .ok (.iastore, 1) := by decide +kernel
theorem dX12_policy_62 : decode cX12_policy 62 = .ok (.aload_n 0, 1) := by decide +kernel
theorem dX12_policy_63 : decode cX12_policy 63 = .ok (.iconst 0, 1) := by decide +kernel
theorem dX12_policy_64 : decode cX12_policy 64 = .ok (.putfield 224, 3) := by decide +kernel
theorem dX12_policy_67 : decode cX12_policy 67 = .ok (.aload_n 0, 1) := by decide +kernel
theorem dX12_policy_68 : decode cX12_policy 68 = .ok (.iconst 0, 1) := by decide +kernel
theorem dX12_policy_69 : decode cX12_policy 69 = .ok (.putfield 215, 3) := by decide +kernel
theorem dX12_policy_72 : decode cX12_policy 72 = .ok (.aload_n 0, 1) := by decide +kernel
theorem dX12_policy_73 : decode cX12_policy 73 = .ok (.invokevirtual 247, 3) := by decide +kernel
theorem dX12_policy_76 : decode cX12_policy 76 = .ok (.aload_n 0, 1) := by decide +kernel
theorem dX12_policy_77 : decode cX12_policy 77 = .ok (.getfield 215, 3) := by decide +kernel
theorem dX12_policy_80 : decode cX12_policy 80 = .ok (.ifCond .ne 17, 3) := by decide +kernel
theorem dX12_policy_83 : decode cX12_policy 83 = .ok (.aload_n 0, 1) := by decide +kernel
theorem dX12_policy_84 : decode cX12_policy 84 = .ok (.getfield 230, 3) := by decide +kernel
theorem dX12_policy_87 : decode cX12_policy 87 = .ok (.ifCond .eq 10, 3) := by decide +kernel
theorem dX12_policy_97 : decode cX12_policy 97 = .ok (.aload_n 0, 1) := by decide +kernel
theorem dX12_policy_98 : decode cX12_policy 98 = .ok (.aload_n 0, 1) := by decide +kernel
theorem dX12_policy_99 : decode cX12_policy 99 = .ok (.getfield 215, 3) := by decide +kernel
theorem dX12_policy_102 : decode cX12_policy 102 = .ok (.putfield 376, 3) := by decide +kernel
theorem dX12_policy_105 : decode cX12_policy 105 = .ok (.aload_n 0, 1) := by decide +kernel
theorem dX12_policy_106 : decode cX12_policy 106 = .ok (.iconst 0, 1) := by decide +kernel
theorem dX12_policy_107 : decode cX12_policy 107 = .ok (.putfield 1, 3) := by decide +kernel
theorem dX12_policy_110 : decode cX12_policy 110 = .ok (.aload_n 0, 1) := by decide +kernel
theorem dX12_policy_111 : decode cX12_policy 111 = .ok (.getfield 215, 3) := by decide +kernel
theorem dX12_policy_114 : decode cX12_policy 114 = .ok (.ifCond .eq 11, 3) := by decide +kernel
theorem dX12_policy_125 : decode cX12_policy 125 = .ok (.aload_n 0, 1) := by decide +kernel
theorem dX12_policy_126 : decode cX12_policy 126 = .ok (.getfield 355, 3) := by decide +kernel
theorem dX12_policy_129 : decode cX12_policy 129 = .ok (.bipush 12, 2) := by decide +kernel
theorem dX12_policy_131 : decode cX12_policy 131 = .ok (.if_icmp .ne 6, 3) := by decide +kernel
theorem dX12_policy_137 : decode cX12_policy 137 = .ok (.aload_n 0, 1) := by decide +kernel
theorem dX12_policy_138 : decode cX12_policy 138 = .ok (.dup, 1) := by decide +kernel
theorem dX12_policy_139 : decode cX12_policy 139 = .ok (.getfield 355, 3) := by decide +kernel
theorem dX12_policy_142 : decode cX12_policy 142 = .ok (.iconst 1, 1) := by decide +kernel
theorem dX12_policy_143 : decode cX12_policy 143 = .ok (.iadd, 1) := by decide +kernel
theorem dX12_policy_144 : decode cX12_policy 144 = .ok (.putfield 355, 3) := by decide +kernel
theorem dX12_policy_147 : decode cX12_policy 147 = .ok (.aload_n 0, 1) := by decide +kernel
theorem dX12_policy_148 : decode cX12_policy 148 = .ok (.getfield 355, 3) := by decide +kernel
theorem dX12_policy_151 : decode cX12_policy 151 = .ok (.iconst 1, 1) := by decide +kernel
theorem dX12_policy_152 : decode cX12_policy 152 = .ok (.isub, 1) := by decide +kernel
theorem dX12_policy_153 : decode cX12_policy 153 = .ok (.ireturn, 1) := by decide +kernel
theorem dX12_prefix_0 : decode cX12_prefix 0 = .ok (.iload_n 2, 1) := by decide +kernel
theorem dX12_prefix_1 : decode cX12_prefix 1 = .ok (.iconst 0, 1) := by decide +kernel
theorem dX12_prefix_2 : decode cX12_prefix 2 = .ok (.bipush 32, 2) := by decide +kernel
theorem dX12_prefix_4 : decode cX12_prefix 4 = .ok (.invokestatic 18, 3) := by decide +kernel
theorem dX12_prefix_7 : decode cX12_prefix 7 = .ok (.ifCond .eq 14, 3) := by decide +kernel
theorem dX12_prefix_10 : decode cX12_prefix 10 = .ok (.iload_n 1, 1) := by decide +kernel
theorem dX12_prefix_11 : decode cX12_prefix 11 = .ok (.iload_n 2, 1) := by decide +kernel
theorem dX12_prefix_12 : decode cX12_prefix 12 = .ok (.invokestatic 11, 3) := by decide +kernel
theorem dX12_prefix_15 : decode cX12_prefix 15 = .ok (.iconst (-1), 1) := by decide +kernel
theorem dX12_prefix_16 : decode cX12_prefix 16 = .ok (.ixor, 1) := by decide +kernel
theorem dX12_prefix_17 : decode cX12_prefix 17 = .ok (.iand, 1) := by decide +kernel
theorem dX12_prefix_18 : decode cX12_prefix 18 = .ok (.ifCond .eq 5, 3) := by decide +kernel
theorem dX12_prefix_21 : decode cX12_prefix 21 = .ok (.iconst (-1), 1) := by decide +kernel
theorem dX12_prefix_22 : decode cX12_prefix 22 = .ok (.ireturn, 1) := by decide +kernel
theorem dX12_prefix_23 : decode cX12_prefix 23 = .ok (.aload_n 0, 1) := by decide +kernel
theorem dX12_prefix_24 : decode cX12_prefix 24 = .ok (.iload_n 1, 1) := by decide +kernel
theorem dX12_prefix_25 : decode cX12_prefix 25 = .ok (.iload_n 2, 1) := by decide +kernel
theorem dX12_prefix_26 : decode cX12_prefix 26 = .ok (.invokevirtual 30, 3) := by decide +kernel
theorem dX12_prefix_29 : decode cX12_prefix 29 = .ok (.ldc 29, 2) := by decide +kernel
theorem dX12_prefix_31 : decode cX12_prefix 31 = .ok (.if_icmp .eq 6, 3) := by decide +kernel
theorem dX12_prefix_37 : decode cX12_prefix 37 = .ok (.aload_n 0, 1) := by decide +kernel
theorem dX12_prefix_38 : decode cX12_prefix 38 = .ok (.getfield 15, 3) := by decide +kernel
theorem dX12_prefix_41 : decode cX12_prefix 41 = .ok (.bipush 10, 2) := by decide +kernel
theorem dX12_prefix_43 : decode cX12_prefix 43 = .ok (.if_icmp .ne 6, 3) := by decide +kernel
theorem dX12_prefix_49 : decode cX12_prefix 49 = .ok (.aload_n 0, 1) := by decide +kernel
theorem dX12_prefix_50 : decode cX12_prefix 50 = .ok (.getfield 22, 3) := by decide +kernel
theorem dX12_prefix_53 : decode cX12_prefix 53 = .ok (.aload_n 0, 1) := by decide +kernel
theorem dX12_prefix_54 : decode cX12_prefix 54 = .ok (.getfield 15, 3) := by decide +kernel
theorem dX12_prefix_57 : decode cX12_prefix 57 = .ok (.iload_n 1, 1) := by decide +kernel
theorem dX12_prefix_58 : decode cX12_prefix 58 = .ok (.iastore, 1) := by decide +kernel
theorem dX12_prefix_59 : decode cX12_prefix 59 = .ok (.aload_n 0, 1) := by decide +kernel
theorem dX12_prefix_60 : decode cX12_prefix 60 = .ok (.getfield 26, 3) := by decide +kernel
theorem dX12_prefix_63 : decode cX12_prefix 63 = .ok (.aload_n 0, 1) := by decide +kernel
theorem dX12_prefix_64 : decode cX12_prefix 64 = .ok (.getfield 15, 3) := by decide +kernel
theorem dX12_prefix_67 : decode cX12_prefix 67 = .ok (.iload_n 2, 1) := by decide +kernel
theorem dX12_prefix_68 : decode cX12_prefix 68 = .ok (.iastore, 1) := by decide +kernel
theorem dX12_prefix_69 : decode cX12_prefix 69 = .ok (.aload_n 0, 1) := by decide +kernel
theorem dX12_prefix_70 : decode cX12_prefix 70 = .ok (.dup, 1) := by decide +kernel
theorem dX12_prefix_71 : decode cX12_prefix 71 = .ok (.getfield 15, 3) := by decide +kernel
theorem dX12_prefix_74 : decode cX12_prefix 74 = .ok (.iconst 1, 1) := by decide +kernel
theorem dX12_prefix_75 : decode cX12_prefix 75 = .ok (.iadd, 1) := by decide +kernel
theorem dX12_prefix_76 : decode cX12_prefix 76 = .ok (.putfield 15, 3) := by decide +kernel
theorem dX12_prefix_79 : decode cX12_prefix 79 = .ok (.aload_n 0, 1) := by decide +kernel
theorem dX12_prefix_80 : decode cX12_prefix 80 = .ok (.getfield 15, 3) := by decide +kernel
theorem dX12_prefix_83 : decode cX12_prefix 83 = .ok (.iconst 1, 1) := by decide +kernel
theorem dX12_prefix_84 : decode cX12_prefix 84 = .ok (.isub, 1) := by decide +kernel
theorem dX12_prefix_85 : decode cX12_prefix 85 = .ok (.ireturn, 1) := by decide +kernel
theorem dX12_prefixOf_0 : decode cX12_prefixOf 0 = .ok (.iconst 0, 1) := by decide +kernel
theorem dX12_prefixOf_1 : decode cX12_prefixOf 1 = .ok (.istore_n 3, 1) := by decide +kernel
theorem dX12_prefixOf_2 : decode cX12_prefixOf 2 = .ok (.iload_n 3, 1) := by decide +kernel
theorem dX12_prefixOf_3 : decode cX12_prefixOf 3 = .ok (.aload_n 0, 1) := by decide +kernel
theorem dX12_prefixOf_4 : decode cX12_prefixOf 4 = .ok (.getfield 15, 3) := by decide +kernel
theorem dX12_prefixOf_7 : decode cX12_prefixOf 7 = .ok (.if_icmp .ge 31, 3) := by decide +kernel
theorem dX12_prefixOf_38 : decode cX12_prefixOf 38 = .ok (.ldc 29, 2) := by decide +kernel
theorem dX12_prefixOf_40 : decode cX12_prefixOf 40 = .ok (.ireturn, 1) := by decide +kernel
theorem dX12_raise_0 : decode cX12_raise 0 = .ok (.aload_n 0, 1) := by decide +kernel
theorem dX12_raise_1 : decode cX12_raise 1 = .ok (.iload_n 1, 1) := by decide +kernel
theorem dX12_raise_2 : decode cX12_raise 2 = .ok (.invokevirtual 66, 3) := by decide +kernel
theorem dX12_raise_5 : decode cX12_raise 5 = .ok (.ifCond .ne 5, 3) := by decide +kernel
theorem dX12_raise_8 : decode cX12_raise 8 = .ok (.iconst (-1), 1) := by decide +kernel
theorem dX12_raise_9 : decode cX12_raise 9 = .ok (.ireturn, 1) := by decide +kernel
theorem dX12_rest_0 : decode cX12_rest 0 = .ok (.iload_n 1, 1) := by decide +kernel
theorem dX12_rest_1 : decode cX12_rest 1 = .ok (.ifCond .lt 13, 3) := by decide +kernel
theorem dX12_rest_4 : decode cX12_rest 4 = .ok (.iload_n 2, 1) := by decide +kernel
theorem dX12_rest_5 : decode cX12_rest 5 = .ok (.iconst 1, 1) := by decide +kernel
theorem dX12_rest_6 : decode cX12_rest 6 = .ok (.bipush 6, 2) := by decide +kernel
theorem dX12_rest_8 : decode cX12_rest 8 = .ok (.invokestatic 18, 3) := by decide +kernel
theorem dX12_rest_11 : decode cX12_rest 11 = .ok (.ifCond .ne 5, 3) := by decide +kernel
theorem dX12_rest_14 : decode cX12_rest 14 = .ok (.iconst (-1), 1) := by decide +kernel
theorem dX12_rest_15 : decode cX12_rest 15 = .ok (.ireturn, 1) := by decide +kernel
theorem dX12_rest_16 : decode cX12_rest 16 = .ok (.aload_n 0, 1) := by decide +kernel
theorem dX12_rest_17 : decode cX12_rest 17 = .ok (.invokevirtual 728, 3) := by decide +kernel
theorem dX12_rest_20 : decode cX12_rest 20 = .ok (.istore_n 3, 1) := by decide +kernel
theorem dX12_rest_21 : decode cX12_rest 21 = .ok (.iload_n 1, 1) := by decide +kernel
theorem dX12_rest_22 : decode cX12_rest 22 = .ok (.istore 4, 2) := by decide +kernel
theorem dX12_rest_24 : decode cX12_rest 24 = .ok (.iconst 0, 1) := by decide +kernel
theorem dX12_rest_25 : decode cX12_rest 25 = .ok (.istore 5, 2) := by decide +kernel
theorem dX12_rest_27 : decode cX12_rest 27 = .ok (.iload 5, 2) := by decide +kernel
theorem dX12_rest_29 : decode cX12_rest 29 = .ok (.iload_n 3, 1) := by decide +kernel
theorem dX12_rest_30 : decode cX12_rest 30 = .ok (.if_icmp .ge 62, 3) := by decide +kernel
theorem dX12_rest_33 : decode cX12_rest 33 = .ok (.aload_n 0, 1) := by decide +kernel
theorem dX12_rest_34 : decode cX12_rest 34 = .ok (.iload 5, 2) := by decide +kernel
theorem dX12_rest_36 : decode cX12_rest 36 = .ok (.invokevirtual 731, 3) := by decide +kernel
theorem dX12_rest_39 : decode cX12_rest 39 = .ok (.ifCond .ne 6, 3) := by decide +kernel
theorem dX12_rest_45 : decode cX12_rest 45 = .ok (.iload 4, 2) := by decide +kernel
theorem dX12_rest_47 : decode cX12_rest 47 = .ok (.ifCond .ne 36, 3) := by decide +kernel
theorem dX12_rest_50 : decode cX12_rest 50 = .ok (.aload_n 0, 1) := by decide +kernel
theorem dX12_rest_51 : decode cX12_rest 51 = .ok (.iload 5, 2) := by decide +kernel
theorem dX12_rest_53 : decode cX12_rest 53 = .ok (.invokevirtual 722, 3) := by decide +kernel
theorem dX12_rest_56 : decode cX12_rest 56 = .ok (.aload_n 0, 1) := by decide +kernel
theorem dX12_rest_57 : decode cX12_rest 57 = .ok (.getfield 526, 3) := by decide +kernel
theorem dX12_rest_60 : decode cX12_rest 60 = .ok (.iload_n 2, 1) := by decide +kernel
theorem dX12_rest_61 : decode cX12_rest 61 = .ok (.iaload, 1) := by decide +kernel
theorem dX12_rest_62 : decode cX12_rest 62 = .ok (.aload_n 0, 1) := by decide +kernel
theorem dX12_rest_63 : decode cX12_rest 63 = .ok (.getfield 514, 3) := by decide +kernel
theorem dX12_rest_66 : decode cX12_rest 66 = .ok (.iload_n 2, 1) := by decide +kernel
theorem dX12_rest_67 : decode cX12_rest 67 = .ok (.iaload, 1) := by decide +kernel
theorem dX12_rest_68 : decode cX12_rest 68 = .ok (.if_icmp .ne 8, 3) := by decide +kernel
theorem dX12_rest_71 : decode cX12_rest 71 = .ok (.bipush (-4), 2) := by decide +kernel
theorem dX12_rest_73 : decode cX12_rest 73 = .ok (.goto 9, 3) := by decide +kernel
theorem dX12_rest_82 : decode cX12_rest 82 = .ok (.ireturn, 1) := by decide +kernel
theorem dX12_rest_83 : decode cX12_rest 83 = .ok (.iinc 4 (-1), 3) := by decide +kernel
theorem dX12_rest_86 : decode cX12_rest 86 = .ok (.iinc 5 1, 3) := by decide +kernel
theorem dX12_rest_89 : decode cX12_rest 89 = .ok (.goto (-62), 3) := by decide +kernel
theorem dX12_rest_92 : decode cX12_rest 92 = .ok (.iconst (-1), 1) := by decide +kernel
theorem dX12_rest_93 : decode cX12_rest 93 = .ok (.ireturn, 1) := by decide +kernel
theorem dX12_rests_0 : decode cX12_rests 0 = .ok (.aload_n 0, 1) := by decide +kernel
theorem dX12_rests_1 : decode cX12_rests 1 = .ok (.invokevirtual 728, 3) := by decide +kernel
theorem dX12_rests_4 : decode cX12_rests 4 = .ok (.istore_n 1, 1) := by decide +kernel
theorem dX12_rests_5 : decode cX12_rests 5 = .ok (.iconst 0, 1) := by decide +kernel
theorem dX12_rests_6 : decode cX12_rests 6 = .ok (.istore_n 2, 1) := by decide +kernel
theorem dX12_rests_7 : decode cX12_rests 7 = .ok (.iconst 0, 1) := by decide +kernel
theorem dX12_rests_8 : decode cX12_rests 8 = .ok (.istore_n 3, 1) := by decide +kernel
theorem dX12_rests_9 : decode cX12_rests 9 = .ok (.iload_n 3, 1) := by decide +kernel
theorem dX12_rests_10 : decode cX12_rests 10 = .ok (.iload_n 1, 1) := by decide +kernel
theorem dX12_rests_11 : decode cX12_rests 11 = .ok (.if_icmp .ge 25, 3) := by decide +kernel
theorem dX12_rests_14 : decode cX12_rests 14 = .ok (.iload_n 2, 1) := by decide +kernel
theorem dX12_rests_15 : decode cX12_rests 15 = .ok (.aload_n 0, 1) := by decide +kernel
theorem dX12_rests_16 : decode cX12_rests 16 = .ok (.iload_n 3, 1) := by decide +kernel
theorem dX12_rests_17 : decode cX12_rests 17 = .ok (.invokevirtual 731, 3) := by decide +kernel
theorem dX12_rests_20 : decode cX12_rests 20 = .ok (.ifCond .eq 7, 3) := by decide +kernel
theorem dX12_rests_23 : decode cX12_rests 23 = .ok (.iconst 1, 1) := by decide +kernel
theorem dX12_rests_24 : decode cX12_rests 24 = .ok (.goto 4, 3) := by decide +kernel
theorem dX12_rests_28 : decode cX12_rests 28 = .ok (.iadd, 1) := by decide +kernel
theorem dX12_rests_29 : decode cX12_rests 29 = .ok (.istore_n 2, 1) := by decide +kernel
theorem dX12_rests_30 : decode cX12_rests 30 = .ok (.iinc 3 1, 3) := by decide +kernel
theorem dX12_rests_33 : decode cX12_rests 33 = .ok (.goto (-24), 3) := by decide +kernel
theorem dX12_rests_36 : decode cX12_rests 36 = .ok (.iload_n 2, 1) := by decide +kernel
theorem dX12_rests_37 : decode cX12_rests 37 = .ok (.ireturn, 1) := by decide +kernel
theorem dX12_rethink_0 : decode cX12_rethink 0 = .ok (.iconst 0, 1) := by decide +kernel
theorem dX12_rethink_1 : decode cX12_rethink 1 = .ok (.istore_n 1, 1) := by decide +kernel
theorem dX12_rethink_2 : decode cX12_rethink 2 = .ok (.iload_n 1, 1) := by decide +kernel
theorem dX12_rethink_3 : decode cX12_rethink 3 = .ok (.aload_n 0, 1) := by decide +kernel
theorem dX12_rethink_4 : decode cX12_rethink 4 = .ok (.getfield 34, 3) := by decide +kernel
theorem dX12_rethink_7 : decode cX12_rethink 7 = .ok (.if_icmp .ge 14, 3) := by decide +kernel
theorem dX12_rethink_21 : decode cX12_rethink 21 = .ok (.iconst 0, 1) := by decide +kernel
theorem dX12_rethink_22 : decode cX12_rethink 22 = .ok (.istore_n 1, 1) := by decide +kernel
theorem dX12_rethink_23 : decode cX12_rethink 23 = .ok (.iload_n 1, 1) := by decide +kernel
theorem dX12_rethink_24 : decode cX12_rethink 24 = .ok (.aload_n 0, 1) := by decide +kernel
theorem dX12_rethink_25 : decode cX12_rethink 25 = .ok (.getfield 34, 3) := by decide +kernel
theorem dX12_rethink_28 : decode cX12_rethink 28 = .ok (.if_icmp .ge 40, 3) := by decide +kernel
theorem dX12_rethink_68 : decode cX12_rethink 68 = .ok (.return_, 1) := by decide +kernel
theorem dX12_right_0 : decode cX12_right 0 = .ok (.aload_n 0, 1) := by decide +kernel
theorem dX12_right_1 : decode cX12_right 1 = .ok (.iload_n 1, 1) := by decide +kernel
theorem dX12_right_2 : decode cX12_right 2 = .ok (.invokevirtual 92, 3) := by decide +kernel
theorem dX12_right_5 : decode cX12_right 5 = .ok (.ifCond .eq 43, 3) := by decide +kernel
theorem dX12_right_48 : decode cX12_right 48 = .ok (.iconst (-1), 1) := by decide +kernel
theorem dX12_right_49 : decode cX12_right 49 = .ok (.ireturn, 1) := by decide +kernel
theorem dX12_ring_0 : decode cX12_ring 0 = .ok (.iload_n 1, 1) := by decide +kernel
theorem dX12_ring_1 : decode cX12_ring 1 = .ok (.ifCond .ge 6, 3) := by decide +kernel
theorem dX12_ring_4 : decode cX12_ring 4 = .ok (.ldc 29, 2) := by decide +kernel
theorem dX12_ring_6 : decode cX12_ring 6 = .ok (.ireturn, 1) := by decide +kernel
theorem dX12_ring_7 : decode cX12_ring 7 = .ok (.iconst 0, 1) := by decide +kernel
theorem dX12_ring_8 : decode cX12_ring 8 = .ok (.istore_n 2, 1) := by decide +kernel
theorem dX12_ring_9 : decode cX12_ring 9 = .ok (.iload_n 2, 1) := by decide +kernel
theorem dX12_ring_10 : decode cX12_ring 10 = .ok (.aload_n 0, 1) := by decide +kernel
theorem dX12_ring_11 : decode cX12_ring 11 = .ok (.getfield 34, 3) := by decide +kernel
theorem dX12_ring_14 : decode cX12_ring 14 = .ok (.if_icmp .ge 258, 3) := by decide +kernel
theorem dX12_ring_272 : decode cX12_ring 272 = .ok (.ldc 29, 2) := by decide +kernel
theorem dX12_ring_274 : decode cX12_ring 274 = .ok (.ireturn, 1) := by decide +kernel
theorem dX12_route_0 : decode cX12_route 0 = .ok (.aload_n 0, 1) := by decide +kernel
theorem dX12_route_1 : decode cX12_route 1 = .ok (.iload_n 1, 1) := by decide +kernel
theorem dX12_route_2 : decode cX12_route 2 = .ok (.invokevirtual 92, 3) := by decide +kernel
theorem dX12_route_5 : decode cX12_route 5 = .ok (.ifCond .eq 35, 3) := by decide +kernel
theorem dX12_route_40 : decode cX12_route 40 = .ok (.iconst (-1), 1) := by decide +kernel
theorem dX12_route_41 : decode cX12_route 41 = .ok (.ireturn, 1) := by decide +kernel
theorem dX12_rule_0 : decode cX12_rule 0 = .ok (.aload_n 0, 1) := by decide +kernel
theorem dX12_rule_1 : decode cX12_rule 1 = .ok (.iload_n 1, 1) := by decide +kernel
theorem dX12_rule_2 : decode cX12_rule 2 = .ok (.invokevirtual 49, 3) := by decide +kernel
theorem dX12_rule_5 : decode cX12_rule 5 = .ok (.ifCond .eq 7, 3) := by decide +kernel
theorem dX12_rule_12 : decode cX12_rule 12 = .ok (.iconst (-1), 1) := by decide +kernel
theorem dX12_rule_13 : decode cX12_rule 13 = .ok (.ireturn, 1) := by decide +kernel
theorem dX12_states_0 : decode cX12_states 0 = .ok (.iconst 1, 1) := by decide +kernel
theorem dX12_states_1 : decode cX12_states 1 = .ok (.istore_n 1, 1) := by decide +kernel
theorem dX12_states_2 : decode cX12_states 2 = .ok (.bipush 6, 2) := by decide +kernel
theorem dX12_states_4 : decode cX12_states 4 = .ok (.istore_n 2, 1) := by decide +kernel
theorem dX12_states_5 : decode cX12_states 5 = .ok (.iload_n 2, 1) := by decide +kernel
theorem dX12_states_6 : decode cX12_states 6 = .ok (.iconst 1, 1) := by decide +kernel
theorem dX12_states_7 : decode cX12_states 7 = .ok (.if_icmp .lt 27, 3) := by decide +kernel
theorem dX12_states_10 : decode cX12_states 10 = .ok (.aload_n 0, 1) := by decide +kernel
theorem dX12_states_11 : decode cX12_states 11 = .ok (.getfield 523, 3) := by decide +kernel
theorem dX12_states_14 : decode cX12_states 14 = .ok (.iload_n 2, 1) := by decide +kernel
theorem dX12_states_15 : decode cX12_states 15 = .ok (.iload_n 1, 1) := by decide +kernel
theorem dX12_states_16 : decode cX12_states 16 = .ok (.iastore, 1) := by decide +kernel
theorem dX12_states_17 : decode cX12_states 17 = .ok (.iload_n 1, 1) := by decide +kernel
theorem dX12_states_18 : decode cX12_states 18 = .ok (.aload_n 0, 1) := by decide +kernel
theorem dX12_states_19 : decode cX12_states 19 = .ok (.getfield 514, 3) := by decide +kernel
theorem dX12_states_22 : decode cX12_states 22 = .ok (.iload_n 2, 1) := by decide +kernel
theorem dX12_states_23 : decode cX12_states 23 = .ok (.iaload, 1) := by decide +kernel
theorem dX12_states_24 : decode cX12_states 24 = .ok (.iconst 1, 1) := by decide +kernel
theorem dX12_states_25 : decode cX12_states 25 = .ok (.iadd, 1) := by decide +kernel
theorem dX12_states_26 : decode cX12_states 26 = .ok (.imul, 1) := by decide +kernel
theorem dX12_states_27 : decode cX12_states 27 = .ok (.istore_n 1, 1) := by decide +kernel
theorem dX12_states_28 : decode cX12_states 28 = .ok (.iinc 2 (-1), 3) := by decide +kernel
theorem dX12_states_31 : decode cX12_states 31 = .ok (.goto (-26), 3) := by decide +kernel
theorem dX12_states_34 : decode cX12_states 34 = .ok (.iload_n 1, 1) := by decide +kernel
theorem dX12_states_35 : decode cX12_states 35 = .ok (.ireturn, 1) := by decide +kernel
theorem dX12_strike_0 : decode cX12_strike 0 = .ok (.iload_n 1, 1) := by decide +kernel
theorem dX12_strike_1 : decode cX12_strike 1 = .ok (.iconst 0, 1) := by decide +kernel
theorem dX12_strike_2 : decode cX12_strike 2 = .ok (.aload_n 0, 1) := by decide +kernel
theorem dX12_strike_3 : decode cX12_strike 3 = .ok (.getfield 95, 3) := by decide +kernel
theorem dX12_strike_6 : decode cX12_strike 6 = .ok (.iconst 1, 1) := by decide +kernel
theorem dX12_strike_7 : decode cX12_strike 7 = .ok (.isub, 1) := by decide +kernel
theorem dX12_strike_8 : decode cX12_strike 8 = .ok (.invokestatic 18, 3) := by decide +kernel
theorem dX12_strike_11 : decode cX12_strike 11 = .ok (.ifCond .eq 13, 3) := by decide +kernel
theorem dX12_strike_24 : decode cX12_strike 24 = .ok (.iconst (-1), 1) := by decide +kernel
theorem dX12_strike_25 : decode cX12_strike 25 = .ok (.ireturn, 1) := by decide +kernel
theorem dX12_three_0 : decode cX12_three 0 = .ok (.aload_n 0, 1) := by decide +kernel
theorem dX12_three_1 : decode cX12_three 1 = .ok (.iload_n 1, 1) := by decide +kernel
theorem dX12_three_2 : decode cX12_three 2 = .ok (.invokevirtual 49, 3) := by decide +kernel
theorem dX12_three_5 : decode cX12_three 5 = .ok (.ifCond .eq 11, 3) := by decide +kernel
theorem dX12_three_16 : decode cX12_three 16 = .ok (.iconst (-1), 1) := by decide +kernel
theorem dX12_three_17 : decode cX12_three 17 = .ok (.ireturn, 1) := by decide +kernel
theorem dX12_tie_0 : decode cX12_tie 0 = .ok (.aload_n 0, 1) := by decide +kernel
theorem dX12_tie_1 : decode cX12_tie 1 = .ok (.iload_n 1, 1) := by decide +kernel
theorem dX12_tie_2 : decode cX12_tie 2 = .ok (.invokevirtual 49, 3) := by decide +kernel
theorem dX12_tie_5 : decode cX12_tie 5 = .ok (.ifCond .eq 25, 3) := by decide +kernel
theorem dX12_tie_30 : decode cX12_tie 30 = .ok (.iconst (-1), 1) := by decide +kernel
theorem dX12_tie_31 : decode cX12_tie 31 = .ok (.ireturn, 1) := by decide +kernel
theorem dX12_today_0 : decode cX12_today 0 = .ok (.iload_n 1, 1) := by decide +kernel
theorem dX12_today_1 : decode cX12_today 1 = .ok (.ifCond .ge 5, 3) := by decide +kernel
theorem dX12_today_4 : decode cX12_today 4 = .ok (.iconst (-1), 1) := by decide +kernel
theorem dX12_today_5 : decode cX12_today 5 = .ok (.ireturn, 1) := by decide +kernel
theorem dX12_today_6 : decode cX12_today 6 = .ok (.aload_n 0, 1) := by decide +kernel
theorem dX12_today_7 : decode cX12_today 7 = .ok (.getfield 85, 3) := by decide +kernel
theorem dX12_today_10 : decode cX12_today 10 = .ok (.istore_n 2, 1) := by decide +kernel
theorem dX12_today_11 : decode cX12_today 11 = .ok (.aload_n 0, 1) := by decide +kernel
theorem dX12_today_12 : decode cX12_today 12 = .ok (.iload_n 1, 1) := by decide +kernel
theorem dX12_today_13 : decode cX12_today 13 = .ok (.putfield 85, 3) := by decide +kernel
theorem dX12_today_16 : decode cX12_today 16 = .ok (.aload_n 0, 1) := by decide +kernel
theorem dX12_today_17 : decode cX12_today 17 = .ok (.invokevirtual 88, 3) := by decide +kernel
theorem dX12_today_20 : decode cX12_today 20 = .ok (.iload_n 2, 1) := by decide +kernel
theorem dX12_today_21 : decode cX12_today 21 = .ok (.ireturn, 1) := by decide +kernel
theorem dX12_tries_0 : decode cX12_tries 0 = .ok (.iload_n 1, 1) := by decide +kernel
theorem dX12_tries_1 : decode cX12_tries 1 = .ok (.iconst 0, 1) := by decide +kernel
theorem dX12_tries_2 : decode cX12_tries 2 = .ok (.iconst 3, 1) := by decide +kernel
theorem dX12_tries_3 : decode cX12_tries 3 = .ok (.invokestatic 18, 3) := by decide +kernel
theorem dX12_tries_6 : decode cX12_tries 6 = .ok (.ifCond .ne 5, 3) := by decide +kernel
theorem dX12_tries_9 : decode cX12_tries 9 = .ok (.iconst (-1), 1) := by decide +kernel
theorem dX12_tries_10 : decode cX12_tries 10 = .ok (.ireturn, 1) := by decide +kernel
theorem dX12_tries_11 : decode cX12_tries 11 = .ok (.aload_n 0, 1) := by decide +kernel
theorem dX12_tries_12 : decode cX12_tries 12 = .ok (.invokevirtual 728, 3) := by decide +kernel
theorem dX12_tries_15 : decode cX12_tries 15 = .ok (.istore_n 2, 1) := by decide +kernel
theorem dX12_tries_16 : decode cX12_tries 16 = .ok (.iconst 0, 1) := by decide +kernel
theorem dX12_tries_17 : decode cX12_tries 17 = .ok (.istore_n 3, 1) := by decide +kernel
theorem dX12_tries_18 : decode cX12_tries 18 = .ok (.iload_n 3, 1) := by decide +kernel
theorem dX12_tries_19 : decode cX12_tries 19 = .ok (.iload_n 2, 1) := by decide +kernel
theorem dX12_tries_20 : decode cX12_tries 20 = .ok (.if_icmp .ge 23, 3) := by decide +kernel
theorem dX12_tries_23 : decode cX12_tries 23 = .ok (.aload_n 0, 1) := by decide +kernel
theorem dX12_tries_24 : decode cX12_tries 24 = .ok (.getfield 530, 3) := by decide +kernel
theorem dX12_tries_27 : decode cX12_tries 27 = .ok (.iload_n 3, 1) := by decide +kernel
theorem dX12_tries_28 : decode cX12_tries 28 = .ok (.iconst (-1), 1) := by decide +kernel
theorem dX12_tries_29 : decode cX12_tries 29 = .ok (.iastore, 1) := by decide +kernel
theorem dX12_tries_30 : decode cX12_tries 30 = .ok (.aload_n 0, 1) := by decide +kernel
theorem dX12_tries_31 : decode cX12_tries 31 = .ok (.getfield 536, 3) := by decide +kernel
theorem dX12_tries_34 : decode cX12_tries 34 = .ok (.iload_n 3, 1) := by decide +kernel
theorem dX12_tries_35 : decode cX12_tries 35 = .ok (.iconst 0, 1) := by decide +kernel
theorem dX12_tries_36 : decode cX12_tries 36 = .ok (.bastore, 1) := by decide +kernel
theorem dX12_tries_37 : decode cX12_tries 37 = .ok (.iinc 3 1, 3) := by decide +kernel
theorem dX12_tries_40 : decode cX12_tries 40 = .ok (.goto (-22), 3) := by decide +kernel
theorem dX12_tries_43 : decode cX12_tries 43 = .ok (.iconst 0, 1) := by decide +kernel
theorem dX12_tries_44 : decode cX12_tries 44 = .ok (.istore_n 3, 1) := by decide +kernel
theorem dX12_tries_45 : decode cX12_tries 45 = .ok (.aload_n 0, 1) := by decide +kernel
theorem dX12_tries_46 : decode cX12_tries 46 = .ok (.getfield 533, 3) := by decide +kernel
theorem dX12_tries_49 : decode cX12_tries 49 = .ok (.iload_n 3, 1) := by decide +kernel
theorem dX12_tries_50 : decode cX12_tries 50 = .ok (.iload_n 2, 1) := by decide +kernel
theorem dX12_tries_51 : decode cX12_tries 51 = .ok (.iconst 1, 1) := by decide +kernel
theorem dX12_tries_52 : decode cX12_tries 52 = .ok (.isub, 1) := by decide +kernel
theorem dX12_tries_53 : decode cX12_tries 53 = .ok (.iastore, 1) := by decide +kernel
theorem dX12_tries_54 : decode cX12_tries 54 = .ok (.aload_n 0, 1) := by decide +kernel
theorem dX12_tries_55 : decode cX12_tries 55 = .ok (.getfield 530, 3) := by decide +kernel
theorem dX12_tries_58 : decode cX12_tries 58 = .ok (.iload_n 2, 1) := by decide +kernel
theorem dX12_tries_59 : decode cX12_tries 59 = .ok (.iconst 1, 1) := by decide +kernel
theorem dX12_tries_60 : decode cX12_tries 60 = .ok (.isub, 1) := by decide +kernel
theorem dX12_tries_61 : decode cX12_tries 61 = .ok (.iconst 0, 1) := by decide +kernel
theorem dX12_tries_62 : decode cX12_tries 62 = .ok (.iastore, 1) := by decide +kernel
theorem dX12_tries_63 : decode cX12_tries 63 = .ok (.iinc 3 1, 3) := by decide +kernel
theorem dX12_tries_66 : decode cX12_tries 66 = .ok (.iconst 0, 1) := by decide +kernel
theorem dX12_tries_67 : decode cX12_tries 67 = .ok (.istore 4, 2) := by decide +kernel
theorem dX12_tries_69 : decode cX12_tries 69 = .ok (.ldc 29, 2) := by decide +kernel
theorem dX12_tries_71 : decode cX12_tries 71 = .ok (.istore 5, 2) := by decide +kernel
theorem dX12_tries_73 : decode cX12_tries 73 = .ok (.iconst 0, 1) := by decide +kernel
theorem dX12_tries_74 : decode cX12_tries 74 = .ok (.istore 6, 2) := by decide +kernel
theorem dX12_tries_76 : decode cX12_tries 76 = .ok (.iload 6, 2) := by decide +kernel
theorem dX12_tries_78 : decode cX12_tries 78 = .ok (.iload_n 3, 1) := by decide +kernel
theorem dX12_tries_79 : decode cX12_tries 79 = .ok (.if_icmp .ge 161, 3) := by decide +kernel
theorem dX12_tries_82 : decode cX12_tries 82 = .ok (.aload_n 0, 1) := by decide +kernel
theorem dX12_tries_83 : decode cX12_tries 83 = .ok (.getfield 533, 3) := by decide +kernel
theorem dX12_tries_86 : decode cX12_tries 86 = .ok (.iload 6, 2) := by decide +kernel
theorem dX12_tries_88 : decode cX12_tries 88 = .ok (.iaload, 1) := by decide +kernel
theorem dX12_tries_89 : decode cX12_tries 89 = .ok (.istore 7, 2) := by decide +kernel
theorem dX12_tries_91 : decode cX12_tries 91 = .ok (.iconst 1, 1) := by decide +kernel
theorem dX12_tries_92 : decode cX12_tries 92 = .ok (.istore 8, 2) := by decide +kernel
theorem dX12_tries_94 : decode cX12_tries 94 = .ok (.aload_n 0, 1) := by decide +kernel
theorem dX12_tries_95 : decode cX12_tries 95 = .ok (.iload 7, 2) := by decide +kernel
theorem dX12_tries_97 : decode cX12_tries 97 = .ok (.invokevirtual 722, 3) := by decide +kernel
theorem dX12_tries_100 : decode cX12_tries 100 = .ok (.iconst 1, 1) := by decide +kernel
theorem dX12_tries_101 : decode cX12_tries 101 = .ok (.istore 9, 2) := by decide +kernel
theorem dX12_tries_103 : decode cX12_tries 103 = .ok (.iload 9, 2) := by decide +kernel
theorem dX12_tries_105 : decode cX12_tries 105 = .ok (.bipush 6, 2) := by decide +kernel
theorem dX12_tries_107 : decode cX12_tries 107 = .ok (.if_icmp .gt 95, 3) := by decide +kernel
theorem dX12_tries_110 : decode cX12_tries 110 = .ok (.aload_n 0, 1) := by decide +kernel
theorem dX12_tries_111 : decode cX12_tries 111 = .ok (.iload 9, 2) := by decide +kernel
theorem dX12_tries_113 : decode cX12_tries 113 = .ok (.invokevirtual 725, 3) := by decide +kernel
theorem dX12_tries_116 : decode cX12_tries 116 = .ok (.istore 10, 2) := by decide +kernel
theorem dX12_tries_118 : decode cX12_tries 118 = .ok (.iload 10, 2) := by decide +kernel
theorem dX12_tries_120 : decode cX12_tries 120 = .ok (.aload_n 0, 1) := by decide +kernel
theorem dX12_tries_121 : decode cX12_tries 121 = .ok (.getfield 526, 3) := by decide +kernel
theorem dX12_tries_124 : decode cX12_tries 124 = .ok (.iload 9, 2) := by decide +kernel
theorem dX12_tries_126 : decode cX12_tries 126 = .ok (.iaload, 1) := by decide +kernel
theorem dX12_tries_127 : decode cX12_tries 127 = .ok (.if_icmp .ne 6, 3) := by decide +kernel
theorem dX12_tries_130 : decode cX12_tries 130 = .ok (.goto 66, 3) := by decide +kernel
theorem dX12_tries_196 : decode cX12_tries 196 = .ok (.iinc 9 1, 3) := by decide +kernel
theorem dX12_tries_199 : decode cX12_tries 199 = .ok (.goto (-96), 3) := by decide +kernel
theorem dX12_tries_202 : decode cX12_tries 202 = .ok (.iload 8, 2) := by decide +kernel
theorem dX12_tries_204 : decode cX12_tries 204 = .ok (.ifCond .eq 30, 3) := by decide +kernel
theorem dX12_tries_207 : decode cX12_tries 207 = .ok (.iinc 4 1, 3) := by decide +kernel
theorem dX12_tries_210 : decode cX12_tries 210 = .ok (.aload_n 0, 1) := by decide +kernel
theorem dX12_tries_211 : decode cX12_tries 211 = .ok (.getfield 536, 3) := by decide +kernel
theorem dX12_tries_214 : decode cX12_tries 214 = .ok (.iload 7, 2) := by decide +kernel
theorem dX12_tries_216 : decode cX12_tries 216 = .ok (.iconst 1, 1) := by decide +kernel
theorem dX12_tries_217 : decode cX12_tries 217 = .ok (.bastore, 1) := by decide +kernel
theorem dX12_tries_218 : decode cX12_tries 218 = .ok (.iload 5, 2) := by decide +kernel
theorem dX12_tries_220 : decode cX12_tries 220 = .ok (.ldc 29, 2) := by decide +kernel
theorem dX12_tries_222 : decode cX12_tries 222 = .ok (.if_icmp .ne 12, 3) := by decide +kernel
theorem dX12_tries_225 : decode cX12_tries 225 = .ok (.aload_n 0, 1) := by decide +kernel
theorem dX12_tries_226 : decode cX12_tries 226 = .ok (.getfield 530, 3) := by decide +kernel
theorem dX12_tries_229 : decode cX12_tries 229 = .ok (.iload 7, 2) := by decide +kernel
theorem dX12_tries_231 : decode cX12_tries 231 = .ok (.iaload, 1) := by decide +kernel
theorem dX12_tries_232 : decode cX12_tries 232 = .ok (.istore 5, 2) := by decide +kernel
theorem dX12_tries_234 : decode cX12_tries 234 = .ok (.iinc 6 1, 3) := by decide +kernel
theorem dX12_tries_237 : decode cX12_tries 237 = .ok (.goto (-161), 3) := by decide +kernel
theorem dX12_tries_240 : decode cX12_tries 240 = .ok (.iload_n 1, 1) := by decide +kernel
theorem dX12_tries_241 : decode cX12_tries 241 = .ok (.ifCond .ne 5, 3) := by decide +kernel
theorem dX12_tries_244 : decode cX12_tries 244 = .ok (.iload_n 3, 1) := by decide +kernel
theorem dX12_tries_245 : decode cX12_tries 245 = .ok (.ireturn, 1) := by decide +kernel
theorem dX12_tries_246 : decode cX12_tries 246 = .ok (.iload_n 1, 1) := by decide +kernel
theorem dX12_tries_247 : decode cX12_tries 247 = .ok (.iconst 1, 1) := by decide +kernel
theorem dX12_tries_248 : decode cX12_tries 248 = .ok (.if_icmp .ne 6, 3) := by decide +kernel
theorem dX12_tries_251 : decode cX12_tries 251 = .ok (.iload 4, 2) := by decide +kernel
theorem dX12_tries_253 : decode cX12_tries 253 = .ok (.ireturn, 1) := by decide +kernel
theorem dX12_tries_254 : decode cX12_tries 254 = .ok (.iload_n 1, 1) := by decide +kernel
theorem dX12_tries_255 : decode cX12_tries 255 = .ok (.iconst 3, 1) := by decide +kernel
theorem dX12_tries_256 : decode cX12_tries 256 = .ok (.if_icmp .ne 6, 3) := by decide +kernel
theorem dX12_tries_259 : decode cX12_tries 259 = .ok (.iload 5, 2) := by decide +kernel
theorem dX12_tries_261 : decode cX12_tries 261 = .ok (.ireturn, 1) := by decide +kernel
theorem dX12_tries_262 : decode cX12_tries 262 = .ok (.iconst 1, 1) := by decide +kernel
theorem dX12_tries_263 : decode cX12_tries 263 = .ok (.istore 6, 2) := by decide +kernel
theorem dX12_tries_265 : decode cX12_tries 265 = .ok (.iload 6, 2) := by decide +kernel
theorem dX12_tries_267 : decode cX12_tries 267 = .ok (.ifCond .eq 138, 3) := by decide +kernel
theorem dX12_tries_270 : decode cX12_tries 270 = .ok (.iconst 0, 1) := by decide +kernel
theorem dX12_tries_271 : decode cX12_tries 271 = .ok (.istore 6, 2) := by decide +kernel
theorem dX12_tries_273 : decode cX12_tries 273 = .ok (.iload_n 3, 1) := by decide +kernel
theorem dX12_tries_274 : decode cX12_tries 274 = .ok (.iconst 1, 1) := by decide +kernel
theorem dX12_tries_275 : decode cX12_tries 275 = .ok (.isub, 1) := by decide +kernel
theorem dX12_tries_276 : decode cX12_tries 276 = .ok (.istore 7, 2) := by decide +kernel
theorem dX12_tries_278 : decode cX12_tries 278 = .ok (.iload 7, 2) := by decide +kernel
theorem dX12_tries_280 : decode cX12_tries 280 = .ok (.ifCond .lt 122, 3) := by decide +kernel
theorem dX12_tries_283 : decode cX12_tries 283 = .ok (.aload_n 0, 1) := by decide +kernel
theorem dX12_tries_284 : decode cX12_tries 284 = .ok (.getfield 533, 3) := by decide +kernel
theorem dX12_tries_287 : decode cX12_tries 287 = .ok (.iload 7, 2) := by decide +kernel
theorem dX12_tries_289 : decode cX12_tries 289 = .ok (.iaload, 1) := by decide +kernel
theorem dX12_tries_290 : decode cX12_tries 290 = .ok (.istore 8, 2) := by decide +kernel
theorem dX12_tries_292 : decode cX12_tries 292 = .ok (.aload_n 0, 1) := by decide +kernel
theorem dX12_tries_293 : decode cX12_tries 293 = .ok (.getfield 536, 3) := by decide +kernel
theorem dX12_tries_296 : decode cX12_tries 296 = .ok (.iload 8, 2) := by decide +kernel
theorem dX12_tries_298 : decode cX12_tries 298 = .ok (.baload, 1) := by decide +kernel
theorem dX12_tries_299 : decode cX12_tries 299 = .ok (.ifCond .eq 6, 3) := by decide +kernel
theorem dX12_tries_302 : decode cX12_tries 302 = .ok (.goto 94, 3) := by decide +kernel
theorem dX12_tries_396 : decode cX12_tries 396 = .ok (.iinc 7 (-1), 3) := by decide +kernel
theorem dX12_tries_399 : decode cX12_tries 399 = .ok (.goto (-121), 3) := by decide +kernel
theorem dX12_tries_402 : decode cX12_tries 402 = .ok (.goto (-137), 3) := by decide +kernel
theorem dX12_tries_405 : decode cX12_tries 405 = .ok (.iconst 0, 1) := by decide +kernel
theorem dX12_tries_406 : decode cX12_tries 406 = .ok (.istore 7, 2) := by decide +kernel
theorem dX12_tries_408 : decode cX12_tries 408 = .ok (.iconst 0, 1) := by decide +kernel
theorem dX12_tries_409 : decode cX12_tries 409 = .ok (.istore 8, 2) := by decide +kernel
theorem dX12_tries_411 : decode cX12_tries 411 = .ok (.iload 8, 2) := by decide +kernel
theorem dX12_tries_413 : decode cX12_tries 413 = .ok (.iload_n 3, 1) := by decide +kernel
theorem dX12_tries_414 : decode cX12_tries 414 = .ok (.if_icmp .ge 34, 3) := by decide +kernel
theorem dX12_tries_417 : decode cX12_tries 417 = .ok (.iload 7, 2) := by decide +kernel
theorem dX12_tries_419 : decode cX12_tries 419 = .ok (.aload_n 0, 1) := by decide +kernel
theorem dX12_tries_420 : decode cX12_tries 420 = .ok (.getfield 536, 3) := by decide +kernel
theorem dX12_tries_423 : decode cX12_tries 423 = .ok (.aload_n 0, 1) := by decide +kernel
theorem dX12_tries_424 : decode cX12_tries 424 = .ok (.getfield 533, 3) := by decide +kernel
theorem dX12_tries_427 : decode cX12_tries 427 = .ok (.iload 8, 2) := by decide +kernel
theorem dX12_tries_429 : decode cX12_tries 429 = .ok (.iaload, 1) := by decide +kernel
theorem dX12_tries_430 : decode cX12_tries 430 = .ok (.baload, 1) := by decide +kernel
theorem dX12_tries_431 : decode cX12_tries 431 = .ok (.ifCond .eq 7, 3) := by decide +kernel
theorem dX12_tries_434 : decode cX12_tries 434 = .ok (.iconst 0, 1) := by decide +kernel
theorem dX12_tries_435 : decode cX12_tries 435 = .ok (.goto 4, 3) := by decide +kernel
theorem dX12_tries_439 : decode cX12_tries 439 = .ok (.iadd, 1) := by decide +kernel
theorem dX12_tries_440 : decode cX12_tries 440 = .ok (.istore 7, 2) := by decide +kernel
theorem dX12_tries_442 : decode cX12_tries 442 = .ok (.iinc 8 1, 3) := by decide +kernel
theorem dX12_tries_445 : decode cX12_tries 445 = .ok (.goto (-34), 3) := by decide +kernel
theorem dX12_tries_448 : decode cX12_tries 448 = .ok (.iload 7, 2) := by decide +kernel
theorem dX12_tries_450 : decode cX12_tries 450 = .ok (.ireturn, 1) := by decide +kernel
theorem dX12_units_0 : decode cX12_units 0 = .ok (.iload_n 1, 1) := by decide +kernel
theorem dX12_units_1 : decode cX12_units 1 = .ok (.iconst 0, 1) := by decide +kernel
theorem dX12_units_2 : decode cX12_units 2 = .ok (.iconst 2, 1) := by decide +kernel
theorem dX12_units_3 : decode cX12_units 3 = .ok (.invokestatic 18, 3) := by decide +kernel
theorem dX12_units_6 : decode cX12_units 6 = .ok (.ifCond .ne 5, 3) := by decide +kernel
theorem dX12_units_9 : decode cX12_units 9 = .ok (.iconst (-1), 1) := by decide +kernel
theorem dX12_units_10 : decode cX12_units 10 = .ok (.ireturn, 1) := by decide +kernel
theorem dX12_units_11 : decode cX12_units 11 = .ok (.iconst 0, 1) := by decide +kernel
theorem dX12_units_12 : decode cX12_units 12 = .ok (.istore_n 2, 1) := by decide +kernel
theorem dX12_units_13 : decode cX12_units 13 = .ok (.iconst 0, 1) := by decide +kernel
theorem dX12_units_14 : decode cX12_units 14 = .ok (.istore_n 3, 1) := by decide +kernel
theorem dX12_units_15 : decode cX12_units 15 = .ok (.iload_n 3, 1) := by decide +kernel
theorem dX12_units_16 : decode cX12_units 16 = .ok (.aload_n 0, 1) := by decide +kernel
theorem dX12_units_17 : decode cX12_units 17 = .ok (.getfield 695, 3) := by decide +kernel
theorem dX12_units_20 : decode cX12_units 20 = .ok (.if_icmp .ge 42, 3) := by decide +kernel
theorem dX12_units_62 : decode cX12_units 62 = .ok (.iload_n 2, 1) := by decide +kernel
theorem dX12_units_63 : decode cX12_units 63 = .ok (.ireturn, 1) := by decide +kernel
theorem dX12_until_0 : decode cX12_until 0 = .ok (.iload_n 1, 1) := by decide +kernel
theorem dX12_until_1 : decode cX12_until 1 = .ok (.aload_n 0, 1) := by decide +kernel
theorem dX12_until_2 : decode cX12_until 2 = .ok (.getfield 591, 3) := by decide +kernel
theorem dX12_until_5 : decode cX12_until 5 = .ok (.if_icmp .lt 10, 3) := by decide +kernel
theorem dX12_until_8 : decode cX12_until 8 = .ok (.iload_n 1, 1) := by decide +kernel
theorem dX12_until_9 : decode cX12_until 9 = .ok (.ldc_w 619, 3) := by decide +kernel
theorem dX12_until_12 : decode cX12_until 12 = .ok (.if_icmp .le 5, 3) := by decide +kernel
theorem dX12_until_15 : decode cX12_until 15 = .ok (.iconst (-1), 1) := by decide +kernel
theorem dX12_until_16 : decode cX12_until 16 = .ok (.ireturn, 1) := by decide +kernel
theorem dX12_until_17 : decode cX12_until 17 = .ok (.iconst 0, 1) := by decide +kernel
theorem dX12_until_18 : decode cX12_until 18 = .ok (.istore_n 2, 1) := by decide +kernel
theorem dX12_until_19 : decode cX12_until 19 = .ok (.aload_n 0, 1) := by decide +kernel
theorem dX12_until_20 : decode cX12_until 20 = .ok (.invokevirtual 613, 3) := by decide +kernel
theorem dX12_until_23 : decode cX12_until 23 = .ok (.istore_n 3, 1) := by decide +kernel
theorem dX12_until_24 : decode cX12_until 24 = .ok (.iload_n 2, 1) := by decide +kernel
