theorem dL_acts_691 : decode cL_acts 691 = .ok (.ldc_w 355, 3) := by decide +kernel
theorem dL_acts_694 : decode cL_acts 694 = .ok (.invokevirtual 114, 3) := by decide +kernel
theorem dL_acts_697 : decode cL_acts 697 = .ok (.iload 5, 2) := by decide +kernel
theorem dL_acts_699 : decode cL_acts 699 = .ok (.invokevirtual 102, 3) := by decide +kernel
theorem dL_acts_702 : decode cL_acts 702 = .ok (.iload 6, 2) := by decide +kernel
theorem dL_acts_704 : decode cL_acts 704 = .ok (.ifCond .eq 9, 3) := by decide +kernel
theorem dL_acts_707 : decode cL_acts 707 = .ok (.ldc_w 357, 3) := by decide +kernel
theorem dL_acts_710 : decode cL_acts 710 = .ok (.goto 6, 3) := by decide +kernel
theorem dL_acts_713 : decode cL_acts 713 = .ok (.ldc_w 337, 3) := by decide +kernel
theorem dL_acts_716 : decode cL_acts 716 = .ok (.invokevirtual 114, 3) := by decide +kernel
theorem dL_acts_719 : decode cL_acts 719 = .ok (.invokevirtual 52, 3) := by decide +kernel
theorem dL_acts_722 : decode cL_acts 722 = .ok (.invokestatic 153, 3) := by decide +kernel
theorem dL_acts_725 : decode cL_acts 725 = .ok (.ifCond .eq 24, 3) := by decide +kernel
theorem dL_acts_728 : decode cL_acts 728 = .ok (.aload_n 0, 1) := by decide +kernel
theorem dL_acts_729 : decode cL_acts 729 = .ok (.invokevirtual 339, 3) := by decide +kernel
theorem dL_acts_732 : decode cL_acts 732 = .ok (.iload 7, 2) := by decide +kernel
theorem dL_acts_734 : decode cL_acts 734 = .ok (.ifCond .ge 7, 3) := by decide +kernel
theorem dL_acts_737 : decode cL_acts 737 = .ok (.iconst 0, 1) := by decide +kernel
theorem dL_acts_738 : decode cL_acts 738 = .ok (.goto 4, 3) := by decide +kernel
theorem dL_acts_741 : decode cL_acts 741 = .ok (.iconst 1, 1) := by decide +kernel
theorem dL_acts_742 : decode cL_acts 742 = .ok (.if_icmp .ne 7, 3) := by decide +kernel
theorem dL_acts_745 : decode cL_acts 745 = .ok (.iconst 1, 1) := by decide +kernel
theorem dL_acts_746 : decode cL_acts 746 = .ok (.goto 4, 3) := by decide +kernel
theorem dL_acts_749 : decode cL_acts 749 = .ok (.iconst 0, 1) := by decide +kernel
theorem dL_acts_750 : decode cL_acts 750 = .ok (.ireturn, 1) := by decide +kernel
theorem dL_acts_751 : decode cL_acts 751 = .ok (.aload_n 2, 1) := by decide +kernel
theorem dL_acts_752 : decode cL_acts 752 = .ok (.iconst 4, 1) := by decide +kernel
theorem dL_acts_753 : decode cL_acts 753 = .ok (.invokestatic 45, 3) := by decide +kernel
theorem dL_acts_756 : decode cL_acts 756 = .ok (.istore 5, 2) := by decide +kernel
theorem dL_acts_758 : decode cL_acts 758 = .ok (.iload 5, 2) := by decide +kernel
theorem dL_acts_760 : decode cL_acts 760 = .ok (.aload_n 1, 1) := by decide +kernel
theorem dL_acts_761 : decode cL_acts 761 = .ok (.invokevirtual 186, 3) := by decide +kernel
theorem dL_acts_764 : decode cL_acts 764 = .ok (.if_icmp .le 16, 3) := by decide +kernel
theorem dL_acts_767 : decode cL_acts 767 = .ok (.aload_n 0, 1) := by decide +kernel
theorem dL_acts_768 : decode cL_acts 768 = .ok (.iload 5, 2) := by decide +kernel
theorem dL_acts_770 : decode cL_acts 770 = .ok (.invokevirtual 359, 3) := by decide +kernel
theorem dL_acts_773 : decode cL_acts 773 = .ok (.bipush (-3), 2) := by decide +kernel
theorem dL_acts_775 : decode cL_acts 775 = .ok (.aload_n 3, 1) := by decide +kernel
theorem dL_acts_776 : decode cL_acts 776 = .ok (.invokestatic 329, 3) := by decide +kernel
theorem dL_acts_779 : decode cL_acts 779 = .ok (.ireturn, 1) := by decide +kernel
theorem dL_acts_780 : decode cL_acts 780 = .ok (.bipush 7, 2) := by decide +kernel
theorem dL_acts_782 : decode cL_acts 782 = .ok (.newarray .int, 2) := by decide +kernel
theorem dL_acts_784 : decode cL_acts 784 = .ok (.astore 6, 2) := by decide +kernel
theorem dL_acts_786 : decode cL_acts 786 = .ok (.iconst 0, 1) := by decide +kernel
theorem dL_acts_787 : decode cL_acts 787 = .ok (.istore 7, 2) := by decide +kernel
theorem dL_acts_789 : decode cL_acts 789 = .ok (.aload_n 1, 1) := by decide +kernel
theorem dL_acts_790 : decode cL_acts 790 = .ok (.invokevirtual 186, 3) := by decide +kernel
theorem dL_acts_793 : decode cL_acts 793 = .ok (.iload 5, 2) := by decide +kernel
theorem dL_acts_795 : decode cL_acts 795 = .ok (.isub, 1) := by decide +kernel
theorem dL_acts_796 : decode cL_acts 796 = .ok (.istore 8, 2) := by decide +kernel
theorem dL_acts_798 : decode cL_acts 798 = .ok (.aload_n 1, 1) := by decide +kernel
theorem dL_acts_799 : decode cL_acts 799 = .ok (.getfield 83, 3) := by decide +kernel
theorem dL_acts_802 : decode cL_acts 802 = .ok (.invokeinterface 160 1, 5) := by decide +kernel
theorem dL_acts_807 : decode cL_acts 807 = .ok (.iload 8, 2) := by decide +kernel
theorem dL_acts_809 : decode cL_acts 809 = .ok (.if_icmp .le 83, 3) := by decide +kernel
theorem dL_acts_812 : decode cL_acts 812 = .ok (.aload_n 1, 1) := by decide +kernel
theorem dL_acts_813 : decode cL_acts 813 = .ok (.getfield 83, 3) := by decide +kernel
theorem dL_acts_816 : decode cL_acts 816 = .ok (.aload_n 1, 1) := by decide +kernel
theorem dL_acts_817 : decode cL_acts 817 = .ok (.getfield 83, 3) := by decide +kernel
theorem dL_acts_820 : decode cL_acts 820 = .ok (.invokeinterface 160 1, 5) := by decide +kernel
theorem dL_acts_825 : decode cL_acts 825 = .ok (.iconst 1, 1) := by decide +kernel
theorem dL_acts_826 : decode cL_acts 826 = .ok (.isub, 1) := by decide +kernel
theorem dL_acts_827 : decode cL_acts 827 = .ok (.invokeinterface 362 2, 5) := by decide +kernel
theorem dL_acts_832 : decode cL_acts 832 = .ok (.checkcast 325, 3) := by decide +kernel
theorem dL_acts_835 : decode cL_acts 835 = .ok (.astore 9, 2) := by decide +kernel
theorem dL_acts_837 : decode cL_acts 837 = .ok (.aload 9, 2) := by decide +kernel
theorem dL_acts_839 : decode cL_acts 839 = .ok (.astore 10, 2) := by decide +kernel
theorem dL_acts_841 : decode cL_acts 841 = .ok (.aload 10, 2) := by decide +kernel
theorem dL_acts_843 : decode cL_acts 843 = .ok (.arraylength, 1) := by decide +kernel
theorem dL_acts_844 : decode cL_acts 844 = .ok (.istore 11, 2) := by decide +kernel
theorem dL_acts_846 : decode cL_acts 846 = .ok (.iconst 0, 1) := by decide +kernel
theorem dL_acts_847 : decode cL_acts 847 = .ok (.istore 12, 2) := by decide +kernel
theorem dL_acts_849 : decode cL_acts 849 = .ok (.iload 12, 2) := by decide +kernel
theorem dL_acts_851 : decode cL_acts 851 = .ok (.iload 11, 2) := by decide +kernel
theorem dL_acts_853 : decode cL_acts 853 = .ok (.if_icmp .ge 36, 3) := by decide +kernel
theorem dL_acts_856 : decode cL_acts 856 = .ok (.aload 10, 2) := by decide +kernel
theorem dL_acts_858 : decode cL_acts 858 = .ok (.iload 12, 2) := by decide +kernel
theorem dL_acts_860 : decode cL_acts 860 = .ok (.iaload, 1) := by decide +kernel
theorem dL_acts_861 : decode cL_acts 861 = .ok (.istore 13, 2) := by decide +kernel
theorem dL_acts_863 : decode cL_acts 863 = .ok (.iload 13, 2) := by decide +kernel
