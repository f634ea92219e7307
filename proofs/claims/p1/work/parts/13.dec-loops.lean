theorem dX12_count_4 : decode cX12_count 4 = .ok (.iload_n 3, 1) := by decide +kernel
theorem dX12_count_5 : decode cX12_count 5 = .ok (.sipush 400, 3) := by decide +kernel
theorem dX12_count_8 : decode cX12_count 8 = .ok (.if_icmp .ge 41, 3) := by decide +kernel
theorem dX12_count_11 : decode cX12_count 11 = .ok (.iload_n 2, 1) := by decide +kernel
theorem dX12_count_12 : decode cX12_count 12 = .ok (.aload_n 0, 1) := by decide +kernel
theorem dX12_count_13 : decode cX12_count 13 = .ok (.getfield 433, 3) := by decide +kernel
theorem dX12_count_16 : decode cX12_count 16 = .ok (.iload_n 3, 1) := by decide +kernel
theorem dX12_count_17 : decode cX12_count 17 = .ok (.iaload, 1) := by decide +kernel
theorem dX12_count_18 : decode cX12_count 18 = .ok (.ifCond .lt 7, 3) := by decide +kernel
theorem dX12_count_25 : decode cX12_count 25 = .ok (.iconst 0, 1) := by decide +kernel
theorem dX12_count_26 : decode cX12_count 26 = .ok (.aload_n 0, 1) := by decide +kernel
theorem dX12_count_27 : decode cX12_count 27 = .ok (.getfield 439, 3) := by decide +kernel
theorem dX12_count_30 : decode cX12_count 30 = .ok (.iload_n 3, 1) := by decide +kernel
theorem dX12_count_31 : decode cX12_count 31 = .ok (.iaload, 1) := by decide +kernel
theorem dX12_count_32 : decode cX12_count 32 = .ok (.ifCond .lt 7, 3) := by decide +kernel
theorem dX12_count_39 : decode cX12_count 39 = .ok (.iconst 0, 1) := by decide +kernel
theorem dX12_count_40 : decode cX12_count 40 = .ok (.iadd, 1) := by decide +kernel
theorem dX12_count_41 : decode cX12_count 41 = .ok (.iadd, 1) := by decide +kernel
theorem dX12_count_42 : decode cX12_count 42 = .ok (.istore_n 2, 1) := by decide +kernel
theorem dX12_count_43 : decode cX12_count 43 = .ok (.iinc 3 1, 3) := by decide +kernel
theorem dX12_count_46 : decode cX12_count 46 = .ok (.goto (-42), 3) := by decide +kernel
theorem dX12_init_722 : decode cX12_init 722 = .ok (.iload_n 1, 1) := by decide +kernel
theorem dX12_init_723 : decode cX12_init 723 = .ok (.sipush 1400, 3) := by decide +kernel
theorem dX12_init_726 : decode cX12_init 726 = .ok (.if_icmp .ge 14, 3) := by decide +kernel
theorem dX12_init_729 : decode cX12_init 729 = .ok (.aload_n 0, 1) := by decide +kernel
theorem dX12_init_730 : decode cX12_init 730 = .ok (.iload_n 1, 1) := by decide +kernel
theorem dX12_init_731 : decode cX12_init 731 = .ok (.invokevirtual 539, 3) := by decide +kernel
theorem dX12_init_734 : decode cX12_init 734 = .ok (.iinc 1 1, 3) := by decide +kernel
theorem dX12_init_737 : decode cX12_init 737 = .ok (.goto (-15), 3) := by decide +kernel
theorem dX12_init_742 : decode cX12_init 742 = .ok (.iload_n 1, 1) := by decide +kernel
theorem dX12_init_743 : decode cX12_init 743 = .ok (.sipush 400, 3) := by decide +kernel
theorem dX12_init_746 : decode cX12_init 746 = .ok (.if_icmp .ge 23, 3) := by decide +kernel
theorem dX12_init_749 : decode cX12_init 749 = .ok (.aload_n 0, 1) := by decide +kernel
theorem dX12_init_750 : decode cX12_init 750 = .ok (.getfield 433, 3) := by decide +kernel
theorem dX12_init_753 : decode cX12_init 753 = .ok (.iload_n 1, 1) := by decide +kernel
theorem dX12_init_754 : decode cX12_init 754 = .ok (.iconst (-1), 1) := by decide +kernel
theorem dX12_init_755 : decode cX12_init 755 = .ok (.iastore, 1) := by decide +kernel
theorem dX12_init_756 : decode cX12_init 756 = .ok (.aload_n 0, 1) := by decide +kernel
theorem dX12_init_757 : decode cX12_init 757 = .ok (.getfield 439, 3) := by decide +kernel
theorem dX12_init_760 : decode cX12_init 760 = .ok (.iload_n 1, 1) := by decide +kernel
theorem dX12_init_761 : decode cX12_init 761 = .ok (.iconst (-1), 1) := by decide +kernel
theorem dX12_init_762 : decode cX12_init 762 = .ok (.iastore, 1) := by decide +kernel
theorem dX12_init_763 : decode cX12_init 763 = .ok (.iinc 1 1, 3) := by decide +kernel
theorem dX12_init_766 : decode cX12_init 766 = .ok (.goto (-24), 3) := by decide +kernel
theorem dX12_init_771 : decode cX12_init 771 = .ok (.iload_n 1, 1) := by decide +kernel
theorem dX12_init_772 : decode cX12_init 772 = .ok (.bipush 100, 2) := by decide +kernel
theorem dX12_init_774 : decode cX12_init 774 = .ok (.if_icmp .ge 24, 3) := by decide +kernel
theorem dX12_init_777 : decode cX12_init 777 = .ok (.aload_n 0, 1) := by decide +kernel
theorem dX12_init_778 : decode cX12_init 778 = .ok (.getfield 445, 3) := by decide +kernel
theorem dX12_init_781 : decode cX12_init 781 = .ok (.iload_n 1, 1) := by decide +kernel
theorem dX12_init_782 : decode cX12_init 782 = .ok (.ldc 29, 2) := by decide +kernel
theorem dX12_init_784 : decode cX12_init 784 = .ok (.iastore, 1) := by decide +kernel
theorem dX12_init_785 : decode cX12_init 785 = .ok (.aload_n 0, 1) := by decide +kernel
theorem dX12_init_786 : decode cX12_init 786 = .ok (.getfield 448, 3) := by decide +kernel
theorem dX12_init_789 : decode cX12_init 789 = .ok (.iload_n 1, 1) := by decide +kernel
theorem dX12_init_790 : decode cX12_init 790 = .ok (.iconst (-1), 1) := by decide +kernel
theorem dX12_init_791 : decode cX12_init 791 = .ok (.iastore, 1) := by decide +kernel
theorem dX12_init_792 : decode cX12_init 792 = .ok (.iinc 1 1, 3) := by decide +kernel
theorem dX12_init_795 : decode cX12_init 795 = .ok (.goto (-24), 3) := by decide +kernel
theorem dX12_message_23 : decode cX12_message 23 = .ok (.iload_n 1, 1) := by decide +kernel
theorem dX12_message_24 : decode cX12_message 24 = .ok (.sipush 256, 3) := by decide +kernel
theorem dX12_message_27 : decode cX12_message 27 = .ok (.if_icmp .ge 16, 3) := by decide +kernel
theorem dX12_message_30 : decode cX12_message 30 = .ok (.aload_n 0, 1) := by decide +kernel
theorem dX12_message_31 : decode cX12_message 31 = .ok (.getfield 475, 3) := by decide +kernel
theorem dX12_message_34 : decode cX12_message 34 = .ok (.iload_n 1, 1) := by decide +kernel
theorem dX12_message_35 : decode cX12_message 35 = .ok (.iconst 0, 1) := by decide +kernel
theorem dX12_message_36 : decode cX12_message 36 = .ok (.bastore, 1) := by decide +kernel
theorem dX12_message_37 : decode cX12_message 37 = .ok (.iinc 1 1, 3) := by decide +kernel
theorem dX12_message_40 : decode cX12_message 40 = .ok (.goto (-17), 3) := by decide +kernel
theorem dX12_nextEvent_0 : decode cX12_nextEvent 0 = .ok (.ldc 29, 2) := by decide +kernel
theorem dX12_nextEvent_2 : decode cX12_nextEvent 2 = .ok (.istore_n 1, 1) := by decide +kernel
theorem dX12_nextEvent_3 : decode cX12_nextEvent 3 = .ok (.iconst 0, 1) := by decide +kernel
theorem dX12_nextEvent_4 : decode cX12_nextEvent 4 = .ok (.istore_n 2, 1) := by decide +kernel
theorem dX12_nextEvent_5 : decode cX12_nextEvent 5 = .ok (.iconst 0, 1) := by decide +kernel
theorem dX12_nextEvent_6 : decode cX12_nextEvent 6 = .ok (.istore_n 3, 1) := by decide +kernel
theorem dX12_nextEvent_7 : decode cX12_nextEvent 7 = .ok (.iconst 0, 1) := by decide +kernel
theorem dX12_nextEvent_8 : decode cX12_nextEvent 8 = .ok (.istore 4, 2) := by decide +kernel
theorem dX12_nextEvent_10 : decode cX12_nextEvent 10 = .ok (.iload 4, 2) := by decide +kernel
theorem dX12_nextEvent_12 : decode cX12_nextEvent 12 = .ok (.sipush 800, 3) := by decide +kernel
theorem dX12_nextEvent_15 : decode cX12_nextEvent 15 = .ok (.if_icmp .ge 117, 3) := by decide +kernel
theorem dX12_nextEvent_18 : decode cX12_nextEvent 18 = .ok (.iload 4, 2) := by decide +kernel
theorem dX12_nextEvent_20 : decode cX12_nextEvent 20 = .ok (.sipush 400, 3) := by decide +kernel
theorem dX12_nextEvent_23 : decode cX12_nextEvent 23 = .ok (.if_icmp .ge 13, 3) := by decide +kernel
theorem dX12_nextEvent_26 : decode cX12_nextEvent 26 = .ok (.aload_n 0, 1) := by decide +kernel
theorem dX12_nextEvent_27 : decode cX12_nextEvent 27 = .ok (.getfield 433, 3) := by decide +kernel
theorem dX12_nextEvent_30 : decode cX12_nextEvent 30 = .ok (.iload 4, 2) := by decide +kernel
theorem dX12_nextEvent_32 : decode cX12_nextEvent 32 = .ok (.iaload, 1) := by decide +kernel
theorem dX12_nextEvent_33 : decode cX12_nextEvent 33 = .ok (.goto 14, 3) := by decide +kernel
theorem dX12_nextEvent_36 : decode cX12_nextEvent 36 = .ok (.aload_n 0, 1) := by decide +kernel
theorem dX12_nextEvent_37 : decode cX12_nextEvent 37 = .ok (.getfield 439, 3) := by decide +kernel
theorem dX12_nextEvent_40 : decode cX12_nextEvent 40 = .ok (.iload 4, 2) := by decide +kernel
theorem dX12_nextEvent_42 : decode cX12_nextEvent 42 = .ok (.sipush 400, 3) := by decide +kernel
theorem dX12_nextEvent_45 : decode cX12_nextEvent 45 = .ok (.isub, 1) := by decide +kernel
theorem dX12_nextEvent_46 : decode cX12_nextEvent 46 = .ok (.iaload, 1) := by decide +kernel
theorem dX12_nextEvent_47 : decode cX12_nextEvent 47 = .ok (.istore 5, 2) := by decide +kernel
theorem dX12_nextEvent_49 : decode cX12_nextEvent 49 = .ok (.iload 4, 2) := by decide +kernel
theorem dX12_nextEvent_51 : decode cX12_nextEvent 51 = .ok (.sipush 400, 3) := by decide +kernel
theorem dX12_nextEvent_54 : decode cX12_nextEvent 54 = .ok (.if_icmp .ge 13, 3) := by decide +kernel
theorem dX12_nextEvent_57 : decode cX12_nextEvent 57 = .ok (.aload_n 0, 1) := by decide +kernel
theorem dX12_nextEvent_58 : decode cX12_nextEvent 58 = .ok (.getfield 436, 3) := by decide +kernel
theorem dX12_nextEvent_61 : decode cX12_nextEvent 61 = .ok (.iload 4, 2) := by decide +kernel
theorem dX12_nextEvent_63 : decode cX12_nextEvent 63 = .ok (.iaload, 1) := by decide +kernel
theorem dX12_nextEvent_64 : decode cX12_nextEvent 64 = .ok (.goto 14, 3) := by decide +kernel
theorem dX12_nextEvent_67 : decode cX12_nextEvent 67 = .ok (.aload_n 0, 1) := by decide +kernel
theorem dX12_nextEvent_68 : decode cX12_nextEvent 68 = .ok (.getfield 442, 3) := by decide +kernel
theorem dX12_nextEvent_71 : decode cX12_nextEvent 71 = .ok (.iload 4, 2) := by decide +kernel
theorem dX12_nextEvent_73 : decode cX12_nextEvent 73 = .ok (.sipush 400, 3) := by decide +kernel
theorem dX12_nextEvent_76 : decode cX12_nextEvent 76 = .ok (.isub, 1) := by decide +kernel
theorem dX12_nextEvent_77 : decode cX12_nextEvent 77 = .ok (.iaload, 1) := by decide +kernel
theorem dX12_nextEvent_78 : decode cX12_nextEvent 78 = .ok (.istore 6, 2) := by decide +kernel
theorem dX12_nextEvent_80 : decode cX12_nextEvent 80 = .ok (.iload 5, 2) := by decide +kernel
theorem dX12_nextEvent_82 : decode cX12_nextEvent 82 = .ok (.ifCond .lt 44, 3) := by decide +kernel
theorem dX12_nextEvent_85 : decode cX12_nextEvent 85 = .ok (.iload 5, 2) := by decide +kernel
theorem dX12_nextEvent_87 : decode cX12_nextEvent 87 = .ok (.ldc_w 606, 3) := by decide +kernel
theorem dX12_nextEvent_90 : decode cX12_nextEvent 90 = .ok (.if_icmp .gt 36, 3) := by decide +kernel
theorem dX12_nextEvent_93 : decode cX12_nextEvent 93 = .ok (.iload_n 1, 1) := by decide +kernel
theorem dX12_nextEvent_94 : decode cX12_nextEvent 94 = .ok (.ldc 29, 2) := by decide +kernel
theorem dX12_nextEvent_96 : decode cX12_nextEvent 96 = .ok (.if_icmp .eq 21, 3) := by decide +kernel
theorem dX12_nextEvent_99 : decode cX12_nextEvent 99 = .ok (.iload 5, 2) := by decide +kernel
theorem dX12_nextEvent_101 : decode cX12_nextEvent 101 = .ok (.iload_n 2, 1) := by decide +kernel
theorem dX12_nextEvent_102 : decode cX12_nextEvent 102 = .ok (.if_icmp .lt 15, 3) := by decide +kernel
theorem dX12_nextEvent_105 : decode cX12_nextEvent 105 = .ok (.iload 5, 2) := by decide +kernel
theorem dX12_nextEvent_107 : decode cX12_nextEvent 107 = .ok (.iload_n 2, 1) := by decide +kernel
theorem dX12_nextEvent_108 : decode cX12_nextEvent 108 = .ok (.if_icmp .ne 18, 3) := by decide +kernel
theorem dX12_nextEvent_111 : decode cX12_nextEvent 111 = .ok (.iload 6, 2) := by decide +kernel
theorem dX12_nextEvent_113 : decode cX12_nextEvent 113 = .ok (.iload_n 3, 1) := by decide +kernel
theorem dX12_nextEvent_114 : decode cX12_nextEvent 114 = .ok (.if_icmp .ge 12, 3) := by decide +kernel
theorem dX12_nextEvent_117 : decode cX12_nextEvent 117 = .ok (.iload 4, 2) := by decide +kernel
theorem dX12_nextEvent_119 : decode cX12_nextEvent 119 = .ok (.istore_n 1, 1) := by decide +kernel
theorem dX12_nextEvent_120 : decode cX12_nextEvent 120 = .ok (.iload 5, 2) := by decide +kernel
theorem dX12_nextEvent_122 : decode cX12_nextEvent 122 = .ok (.istore_n 2, 1) := by decide +kernel
theorem dX12_nextEvent_123 : decode cX12_nextEvent 123 = .ok (.iload 6, 2) := by decide +kernel
theorem dX12_nextEvent_125 : decode cX12_nextEvent 125 = .ok (.istore_n 3, 1) := by decide +kernel
theorem dX12_nextEvent_126 : decode cX12_nextEvent 126 = .ok (.iinc 4 1, 3) := by decide +kernel
theorem dX12_nextEvent_129 : decode cX12_nextEvent 129 = .ok (.goto (-119), 3) := by decide +kernel
theorem dX12_nextEvent_132 : decode cX12_nextEvent 132 = .ok (.iload_n 1, 1) := by decide +kernel
theorem dX12_nextEvent_133 : decode cX12_nextEvent 133 = .ok (.ireturn, 1) := by decide +kernel
theorem dX12_nothing_0 : decode cX12_nothing 0 = .ok (.aload_n 0, 1) := by decide +kernel
theorem dX12_nothing_1 : decode cX12_nothing 1 = .ok (.getfield 148, 3) := by decide +kernel
theorem dX12_nothing_4 : decode cX12_nothing 4 = .ok (.bipush 40, 2) := by decide +kernel
theorem dX12_nothing_6 : decode cX12_nothing 6 = .ok (.iload_n 1, 1) := by decide +kernel
theorem dX12_nothing_7 : decode cX12_nothing 7 = .ok (.imul, 1) := by decide +kernel
theorem dX12_nothing_8 : decode cX12_nothing 8 = .ok (.iconst (-1), 1) := by decide +kernel
theorem dX12_nothing_9 : decode cX12_nothing 9 = .ok (.iastore, 1) := by decide +kernel
theorem dX12_nothing_10 : decode cX12_nothing 10 = .ok (.return_, 1) := by decide +kernel
