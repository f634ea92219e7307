theorem dX12_init_722 : decode cX12_init 722 = .ok (.iload_n 1, 1) := by decide +kernel
theorem dX12_init_723 : decode cX12_init 723 = .ok (.sipush 1400, 3) := by decide +kernel
theorem dX12_init_726 : decode cX12_init 726 = .ok (.if_icmp .ge 14, 3) := by decide +kernel
theorem dX12_init_729 : decode cX12_init 729 = .ok (.aload_n 0, 1) := by decide +kernel
theorem dX12_init_730 : decode cX12_init 730 = .ok (.iload_n 1, 1) := by decide +kernel
theorem dX12_init_731 : decode cX12_init 731 = .ok (.invokevirtual 539, 3) := by decide +kernel
theorem dX12_init_734 : decode cX12_init 734 = .ok (.iinc 1 1, 3) := by decide +kernel
theorem dX12_init_737 : decode cX12_init 737 = .ok (.goto (-15), 3) := by decide +kernel
theorem dX12_init_742 : decode cX12_init 742 = .ok (.iload_n 1, 1) := by decide +kernel
theorem dX12_init_743 : decode cX12_init 743 = .ok (.sipush 400, 3) := by decide +kernel
theorem dX12_init_746 : decode cX12_init 746 = .ok (.if_icmp .ge 23, 3) := by decide +kernel
theorem dX12_init_749 : decode cX12_init 749 = .ok (.aload_n 0, 1) := by decide +kernel
theorem dX12_init_750 : decode cX12_init 750 = .ok (.getfield 433, 3) := by decide +kernel
theorem dX12_init_753 : decode cX12_init 753 = .ok (.iload_n 1, 1) := by decide +kernel
theorem dX12_init_754 : decode cX12_init 754 = .ok (.iconst (-1), 1) := by decide +kernel
theorem dX12_init_755 : decode cX12_init 755 = .ok (.iastore, 1) := by decide +kernel
theorem dX12_init_756 : decode cX12_init 756 = .ok (.aload_n 0, 1) := by decide +kernel
theorem dX12_init_757 : decode cX12_init 757 = .ok (.getfield 439, 3) := by decide +kernel
theorem dX12_init_760 : decode cX12_init 760 = .ok (.iload_n 1, 1) := by decide +kernel
theorem dX12_init_761 : decode cX12_init 761 = .ok (.iconst (-1), 1) := by decide +kernel
theorem dX12_init_762 : decode cX12_init 762 = .ok (.iastore, 1) := by decide +kernel
theorem dX12_init_763 : decode cX12_init 763 = .ok (.iinc 1 1, 3) := by decide +kernel
theorem dX12_init_766 : decode cX12_init 766 = .ok (.goto (-24), 3) := by decide +kernel
theorem dX12_init_771 : decode cX12_init 771 = .ok (.iload_n 1, 1) := by decide +kernel
theorem dX12_init_772 : decode cX12_init 772 = .ok (.bipush 100, 2) := by decide +kernel
theorem dX12_init_774 : decode cX12_init 774 = .ok (.if_icmp .ge 24, 3) := by decide +kernel
theorem dX12_init_777 : decode cX12_init 777 = .ok (.aload_n 0, 1) := by decide +kernel
theorem dX12_init_778 : decode cX12_init 778 = .ok (.getfield 445, 3) := by decide +kernel
theorem dX12_init_781 : decode cX12_init 781 = .ok (.iload_n 1, 1) := by decide +kernel
theorem dX12_init_782 : decode cX12_init 782 = .ok (.ldc 29, 2) := by decide +kernel
theorem dX12_init_784 : decode cX12_init 784 = .ok (.iastore, 1) := by decide +kernel
theorem dX12_init_785 : decode cX12_init 785 = .ok (.aload_n 0, 1) := by decide +kernel
theorem dX12_init_786 : decode cX12_init 786 = .ok (.getfield 448, 3) := by decide +kernel
theorem dX12_init_789 : decode cX12_init 789 = .ok (.iload_n 1, 1) := by decide +kernel
theorem dX12_init_790 : decode cX12_init 790 = .ok (.iconst (-1), 1) := by decide +kernel
theorem dX12_init_791 : decode cX12_init 791 = .ok (.iastore, 1) := by decide +kernel
theorem dX12_init_792 : decode cX12_init 792 = .ok (.iinc 1 1, 3) := by decide +kernel
theorem dX12_init_795 : decode cX12_init 795 = .ok (.goto (-24), 3) := by decide +kernel
