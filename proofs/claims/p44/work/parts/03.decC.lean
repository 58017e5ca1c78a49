theorem dX8_init_0 : decode cX8_init 0 = .ok (.aload_n 0, 1) := by decide +kernel
theorem dX8_init_1 : decode cX8_init 1 = .ok (.invokespecial 1, 3) := by decide +kernel
theorem dX8_init_4 : decode cX8_init 4 = .ok (.aload_n 0, 1) := by decide +kernel
theorem dX8_init_5 : decode cX8_init 5 = .ok (.new 7, 3) := by decide +kernel
theorem dX8_init_8 : decode cX8_init 8 = .ok (.dup, 1) := by decide +kernel
theorem dX8_init_9 : decode cX8_init 9 = .ok (.invokespecial 9, 3) := by decide +kernel
theorem dX8_init_12 : decode cX8_init 12 = .ok (.putfield 10, 3) := by decide +kernel
theorem dX8_init_15 : decode cX8_init 15 = .ok (.aload_n 0, 1) := by decide +kernel
theorem dX8_init_16 : decode cX8_init 16 = .ok (.new 7, 3) := by decide +kernel
theorem dX8_init_19 : decode cX8_init 19 = .ok (.dup, 1) := by decide +kernel
theorem dX8_init_20 : decode cX8_init 20 = .ok (.invokespecial 9, 3) := by decide +kernel
theorem dX8_init_23 : decode cX8_init 23 = .ok (.putfield 16, 3) := by decide +kernel
theorem dX8_init_26 : decode cX8_init 26 = .ok (.aload_n 0, 1) := by decide +kernel
theorem dX8_init_27 : decode cX8_init 27 = .ok (.new 19, 3) := by decide +kernel
theorem dX8_init_30 : decode cX8_init 30 = .ok (.dup, 1) := by decide +kernel
theorem dX8_init_31 : decode cX8_init 31 = .ok (.invokespecial 21, 3) := by decide +kernel
theorem dX8_init_34 : decode cX8_init 34 = .ok (.putfield 22, 3) := by decide +kernel
theorem dX8_init_37 : decode cX8_init 37 = .ok (.aload_n 0, 1) := by decide +kernel
theorem dX8_init_38 : decode cX8_init 38 = .ok (.new 26, 3) := by decide +kernel
theorem dX8_init_41 : decode cX8_init 41 = .ok (.dup, 1) := by decide +kernel
theorem dX8_init_42 : decode cX8_init 42 = .ok (.invokespecial 28, 3) := by decide +kernel
theorem dX8_init_45 : decode cX8_init 45 = .ok (.putfield 29, 3) := by decide +kernel
theorem dX8_init_48 : decode cX8_init 48 = .ok (.aload_n 0, 1) := by decide +kernel
theorem dX8_init_49 : decode cX8_init 49 = .ok (.new 7, 3) := by decide +kernel
theorem dX8_init_52 : decode cX8_init 52 = .ok (.dup, 1) := by decide +kernel
theorem dX8_init_53 : decode cX8_init 53 = .ok (.invokespecial 9, 3) := by decide +kernel
theorem dX8_init_56 : decode cX8_init 56 = .ok (.putfield 33, 3) := by decide +kernel
theorem dX8_init_59 : decode cX8_init 59 = .ok (.aload_n 0, 1) := by decide +kernel
theorem dX8_init_60 : decode cX8_init 60 = .ok (.new 7, 3) := by decide +kernel
theorem dX8_init_63 : decode cX8_init 63 = .ok (.dup, 1) := by decide +kernel
theorem dX8_init_64 : decode cX8_init 64 = .ok (.invokespecial 9, 3) := by decide +kernel
theorem dX8_init_67 : decode cX8_init 67 = .ok (.putfield 36, 3) := by decide +kernel
theorem dX8_init_70 : decode cX8_init 70 = .ok (.aload_n 0, 1) := by decide +kernel
theorem dX8_init_71 : decode cX8_init 71 = .ok (.bipush 9, 2) := by decide +kernel
theorem dX8_init_73 : decode cX8_init 73 = .ok (.newarray .int, 2) := by decide +kernel
theorem dX8_init_75 : decode cX8_init 75 = .ok (.putfield 39, 3) := by decide +kernel
theorem dX8_init_78 : decode cX8_init 78 = .ok (.aload_n 0, 1) := by decide +kernel
theorem dX8_init_79 : decode cX8_init 79 = .ok (.bipush 7, 2) := by decide +kernel
theorem dX8_init_81 : decode cX8_init 81 = .ok (.newarray .int, 2) := by decide +kernel
theorem dX8_init_83 : decode cX8_init 83 = .ok (.putfield 43, 3) := by decide +kernel
theorem dX8_init_86 : decode cX8_init 86 = .ok (.aload_n 0, 1) := by decide +kernel
theorem dX8_init_87 : decode cX8_init 87 = .ok (.new 46, 3) := by decide +kernel
theorem dX8_init_90 : decode cX8_init 90 = .ok (.dup, 1) := by decide +kernel
theorem dX8_init_91 : decode cX8_init 91 = .ok (.invokespecial 48, 3) := by decide +kernel
theorem dX8_init_94 : decode cX8_init 94 = .ok (.putfield 49, 3) := by decide +kernel
theorem dX8_init_97 : decode cX8_init 97 = .ok (.aload_n 0, 1) := by decide +kernel
theorem dX8_init_98 : decode cX8_init 98 = .ok (.new 46, 3) := by decide +kernel
theorem dX8_init_101 : decode cX8_init 101 = .ok (.dup, 1) := by decide +kernel
theorem dX8_init_102 : decode cX8_init 102 = .ok (.invokespecial 48, 3) := by decide +kernel
theorem dX8_init_105 : decode cX8_init 105 = .ok (.putfield 53, 3) := by decide +kernel
theorem dX8_init_108 : decode cX8_init 108 = .ok (.aload_n 0, 1) := by decide +kernel
theorem dX8_init_109 : decode cX8_init 109 = .ok (.new 56, 3) := by decide +kernel
theorem dX8_init_112 : decode cX8_init 112 = .ok (.dup, 1) := by decide +kernel
theorem dX8_init_113 : decode cX8_init 113 = .ok (.aload_n 0, 1) := by decide +kernel
theorem dX8_init_114 : decode cX8_init 114 = .ok (.getfield 49, 3) := by decide +kernel
theorem dX8_init_117 : decode cX8_init 117 = .ok (.invokespecial 58, 3) := by decide +kernel
theorem dX8_init_120 : decode cX8_init 120 = .ok (.putfield 61, 3) := by decide +kernel
theorem dX8_init_123 : decode cX8_init 123 = .ok (.aload_n 0, 1) := by decide +kernel
theorem dX8_init_124 : decode cX8_init 124 = .ok (.new 65, 3) := by decide +kernel
theorem dX8_init_127 : decode cX8_init 127 = .ok (.dup, 1) := by decide +kernel
theorem dX8_init_128 : decode cX8_init 128 = .ok (.aload_n 0, 1) := by decide +kernel
theorem dX8_init_129 : decode cX8_init 129 = .ok (.getfield 61, 3) := by decide +kernel
theorem dX8_init_132 : decode cX8_init 132 = .ok (.invokespecial 67, 3) := by decide +kernel
theorem dX8_init_135 : decode cX8_init 135 = .ok (.putfield 70, 3) := by decide +kernel
theorem dX8_init_138 : decode cX8_init 138 = .ok (.aload_n 0, 1) := by decide +kernel
theorem dX8_init_139 : decode cX8_init 139 = .ok (.new 74, 3) := by decide +kernel
theorem dX8_init_142 : decode cX8_init 142 = .ok (.dup, 1) := by decide +kernel
theorem dX8_init_143 : decode cX8_init 143 = .ok (.aload_n 0, 1) := by decide +kernel
theorem dX8_init_144 : decode cX8_init 144 = .ok (.getfield 61, 3) := by decide +kernel
theorem dX8_init_147 : decode cX8_init 147 = .ok (.invokespecial 76, 3) := by decide +kernel
theorem dX8_init_150 : decode cX8_init 150 = .ok (.putfield 77, 3) := by decide +kernel
theorem dX8_init_153 : decode cX8_init 153 = .ok (.return_, 1) := by decide +kernel
theorem dX8_append_0 : decode cX8_append 0 = .ok (.aload_n 0, 1) := by decide +kernel
theorem dX8_append_1 : decode cX8_append 1 = .ok (.getfield 49, 3) := by decide +kernel
theorem dX8_append_4 : decode cX8_append 4 = .ok (.invokevirtual 81, 3) := by decide +kernel
theorem dX8_append_7 : decode cX8_append 7 = .ok (.sipush 380, 3) := by decide +kernel
theorem dX8_append_10 : decode cX8_append 10 = .ok (.if_icmp .le 13, 3) := by decide +kernel
theorem dX8_append_13 : decode cX8_append 13 = .ok (.new 85, 3) := by decide +kernel
theorem dX8_append_16 : decode cX8_append 16 = .ok (.dup, 1) := by decide +kernel
theorem dX8_append_17 : decode cX8_append 17 = .ok (.ldc 87, 2) := by decide +kernel
theorem dX8_append_19 : decode cX8_append 19 = .ok (.invokespecial 89, 3) := by decide +kernel
theorem dX8_append_22 : decode cX8_append 22 = .ok (.athrow, 1) := by decide +kernel
theorem dX8_append_23 : decode cX8_append 23 = .ok (.aload_n 0, 1) := by decide +kernel
theorem dX8_append_24 : decode cX8_append 24 = .ok (.iload_n 1, 1) := by decide +kernel
theorem dX8_append_25 : decode cX8_append 25 = .ok (.invokevirtual 92, 3) := by decide +kernel
theorem dX8_append_28 : decode cX8_append 28 = .ok (.aload_n 0, 1) := by decide +kernel
theorem dX8_append_29 : decode cX8_append 29 = .ok (.iload_n 2, 1) := by decide +kernel
theorem dX8_append_30 : decode cX8_append 30 = .ok (.invokevirtual 92, 3) := by decide +kernel
theorem dX8_append_33 : decode cX8_append 33 = .ok (.aload_n 0, 1) := by decide +kernel
theorem dX8_append_34 : decode cX8_append 34 = .ok (.iload_n 3, 1) := by decide +kernel
theorem dX8_append_35 : decode cX8_append 35 = .ok (.invokevirtual 92, 3) := by decide +kernel
theorem dX8_append_38 : decode cX8_append 38 = .ok (.aload_n 0, 1) := by decide +kernel
theorem dX8_append_39 : decode cX8_append 39 = .ok (.iload 4, 2) := by decide +kernel
theorem dX8_append_41 : decode cX8_append 41 = .ok (.invokevirtual 92, 3) := by decide +kernel
theorem dX8_append_44 : decode cX8_append 44 = .ok (.aload_n 0, 1) := by decide +kernel
theorem dX8_append_45 : decode cX8_append 45 = .ok (.iload 5, 2) := by decide +kernel
theorem dX8_append_47 : decode cX8_append 47 = .ok (.invokevirtual 92, 3) := by decide +kernel
theorem dX8_append_50 : decode cX8_append 50 = .ok (.aload_n 0, 1) := by decide +kernel
theorem dX8_append_51 : decode cX8_append 51 = .ok (.getfield 49, 3) := by decide +kernel
theorem dX8_append_54 : decode cX8_append 54 = .ok (.invokevirtual 81, 3) := by decide +kernel
theorem dX8_append_57 : decode cX8_append 57 = .ok (.ireturn, 1) := by decide +kernel
theorem dX8_truncate_0 : decode cX8_truncate 0 = .ok (.iload_n 1, 1) := by decide +kernel
theorem dX8_truncate_1 : decode cX8_truncate 1 = .ok (.ifCond .lt 14, 3) := by decide +kernel
theorem dX8_truncate_4 : decode cX8_truncate 4 = .ok (.iload_n 1, 1) := by decide +kernel
theorem dX8_truncate_5 : decode cX8_truncate 5 = .ok (.aload_n 0, 1) := by decide +kernel
theorem dX8_truncate_6 : decode cX8_truncate 6 = .ok (.getfield 49, 3) := by decide +kernel
theorem dX8_truncate_9 : decode cX8_truncate 9 = .ok (.invokevirtual 81, 3) := by decide +kernel
theorem dX8_truncate_12 : decode cX8_truncate 12 = .ok (.if_icmp .le 13, 3) := by decide +kernel
theorem dX8_truncate_15 : decode cX8_truncate 15 = .ok (.new 96, 3) := by decide +kernel
theorem dX8_truncate_18 : decode cX8_truncate 18 = .ok (.dup, 1) := by decide +kernel
theorem dX8_truncate_19 : decode cX8_truncate 19 = .ok (.ldc 98, 2) := by decide +kernel
theorem dX8_truncate_21 : decode cX8_truncate 21 = .ok (.invokespecial 100, 3) := by decide +kernel
theorem dX8_truncate_24 : decode cX8_truncate 24 = .ok (.athrow, 1) := by decide +kernel
theorem dX8_truncate_25 : decode cX8_truncate 25 = .ok (.aload_n 0, 1) := by decide +kernel
theorem dX8_truncate_26 : decode cX8_truncate 26 = .ok (.getfield 49, 3) := by decide +kernel
theorem dX8_truncate_29 : decode cX8_truncate 29 = .ok (.iload_n 1, 1) := by decide +kernel
theorem dX8_truncate_30 : decode cX8_truncate 30 = .ok (.invokevirtual 101, 3) := by decide +kernel
theorem dX8_truncate_33 : decode cX8_truncate 33 = .ok (.iload_n 1, 1) := by decide +kernel
theorem dX8_truncate_34 : decode cX8_truncate 34 = .ok (.ireturn, 1) := by decide +kernel
theorem dX8_load_0 : decode cX8_load 0 = .ok (.aload_n 0, 1) := by decide +kernel
theorem dX8_load_1 : decode cX8_load 1 = .ok (.getfield 70, 3) := by decide +kernel
theorem dX8_load_4 : decode cX8_load 4 = .ok (.aload_n 0, 1) := by decide +kernel
theorem dX8_load_5 : decode cX8_load 5 = .ok (.getfield 16, 3) := by decide +kernel
theorem dX8_load_8 : decode cX8_load 8 = .ok (.invokevirtual 104, 3) := by decide +kernel
theorem dX8_load_11 : decode cX8_load 11 = .ok (.istore_n 1, 1) := by decide +kernel
theorem dX8_load_12 : decode cX8_load 12 = .ok (.aload_n 0, 1) := by decide +kernel
theorem dX8_load_13 : decode cX8_load 13 = .ok (.getfield 49, 3) := by decide +kernel
theorem dX8_load_16 : decode cX8_load 16 = .ok (.iconst 0, 1) := by decide +kernel
theorem dX8_load_17 : decode cX8_load 17 = .ok (.invokevirtual 101, 3) := by decide +kernel
theorem dX8_load_20 : decode cX8_load 20 = .ok (.iload_n 1, 1) := by decide +kernel
theorem dX8_load_21 : decode cX8_load 21 = .ok (.ifCond .ne 5, 3) := by decide +kernel
theorem dX8_load_24 : decode cX8_load 24 = .ok (.iconst (-1), 1) := by decide +kernel
theorem dX8_load_25 : decode cX8_load 25 = .ok (.ireturn, 1) := by decide +kernel
theorem dX8_load_26 : decode cX8_load 26 = .ok (.aload_n 0, 1) := by decide +kernel
theorem dX8_load_27 : decode cX8_load 27 = .ok (.getfield 16, 3) := by decide +kernel
theorem dX8_load_30 : decode cX8_load 30 = .ok (.invokevirtual 108, 3) := by decide +kernel
theorem dX8_load_33 : decode cX8_load 33 = .ok (.aload_n 0, 1) := by decide +kernel
theorem dX8_load_34 : decode cX8_load 34 = .ok (.getfield 10, 3) := by decide +kernel
theorem dX8_load_37 : decode cX8_load 37 = .ok (.aload_n 0, 1) := by decide +kernel
theorem dX8_load_38 : decode cX8_load 38 = .ok (.getfield 16, 3) := by decide +kernel
theorem dX8_load_41 : decode cX8_load 41 = .ok (.invokevirtual 111, 3) := by decide +kernel
theorem dX8_load_44 : decode cX8_load 44 = .ok (.aload_n 0, 1) := by decide +kernel
theorem dX8_load_45 : decode cX8_load 45 = .ok (.getfield 29, 3) := by decide +kernel
theorem dX8_load_48 : decode cX8_load 48 = .ok (.invokevirtual 115, 3) := by decide +kernel
theorem dX8_load_51 : decode cX8_load 51 = .ok (.aload_n 0, 1) := by decide +kernel
theorem dX8_load_52 : decode cX8_load 52 = .ok (.getfield 10, 3) := by decide +kernel
theorem dX8_load_55 : decode cX8_load 55 = .ok (.getfield 118, 3) := by decide +kernel
theorem dX8_load_58 : decode cX8_load 58 = .ok (.ireturn, 1) := by decide +kernel
theorem dX8_play_0 : decode cX8_play 0 = .ok (.aload_n 0, 1) := by decide +kernel
theorem dX8_play_1 : decode cX8_play 1 = .ok (.getfield 77, 3) := by decide +kernel
theorem dX8_play_4 : decode cX8_play 4 = .ok (.aload_n 0, 1) := by decide +kernel
theorem dX8_play_5 : decode cX8_play 5 = .ok (.getfield 10, 3) := by decide +kernel
theorem dX8_play_8 : decode cX8_play 8 = .ok (.getfield 122, 3) := by decide +kernel
theorem dX8_play_11 : decode cX8_play 11 = .ok (.invokevirtual 125, 3) := by decide +kernel
theorem dX8_play_14 : decode cX8_play 14 = .ok (.istore_n 1, 1) := by decide +kernel
theorem dX8_play_15 : decode cX8_play 15 = .ok (.aload_n 0, 1) := by decide +kernel
theorem dX8_play_16 : decode cX8_play 16 = .ok (.getfield 49, 3) := by decide +kernel
theorem dX8_play_19 : decode cX8_play 19 = .ok (.iconst 0, 1) := by decide +kernel
theorem dX8_play_20 : decode cX8_play 20 = .ok (.invokevirtual 101, 3) := by decide +kernel
theorem dX8_play_23 : decode cX8_play 23 = .ok (.iload_n 1, 1) := by decide +kernel
theorem dX8_play_24 : decode cX8_play 24 = .ok (.ifCond .ne 5, 3) := by decide +kernel
theorem dX8_play_27 : decode cX8_play 27 = .ok (.iconst (-1), 1) := by decide +kernel
theorem dX8_play_28 : decode cX8_play 28 = .ok (.ireturn, 1) := by decide +kernel
theorem dX8_play_29 : decode cX8_play 29 = .ok (.iconst 0, 1) := by decide +kernel
theorem dX8_play_30 : decode cX8_play 30 = .ok (.istore_n 2, 1) := by decide +kernel
theorem dX8_play_31 : decode cX8_play 31 = .ok (.aload_n 0, 1) := by decide +kernel
theorem dX8_play_32 : decode cX8_play 32 = .ok (.getfield 77, 3) := by decide +kernel
theorem dX8_play_35 : decode cX8_play 35 = .ok (.invokevirtual 129, 3) := by decide +kernel
theorem dX8_play_38 : decode cX8_play 38 = .ok (.iload_n 2, 1) := by decide +kernel
theorem dX8_play_39 : decode cX8_play 39 = .ok (.sipush 200, 3) := by decide +kernel
theorem dX8_play_42 : decode cX8_play 42 = .ok (.if_icmp .ge 26, 3) := by decide +kernel
theorem dX8_play_45 : decode cX8_play 45 = .ok (.aload_n 0, 1) := by decide +kernel
theorem dX8_play_46 : decode cX8_play 46 = .ok (.getfield 77, 3) := by decide +kernel
theorem dX8_play_49 : decode cX8_play 49 = .ok (.invokevirtual 132, 3) := by decide +kernel
theorem dX8_play_52 : decode cX8_play 52 = .ok (.ifCond .eq 16, 3) := by decide +kernel
theorem dX8_play_55 : decode cX8_play 55 = .ok (.aload_n 0, 1) := by decide +kernel
theorem dX8_play_56 : decode cX8_play 56 = .ok (.invokevirtual 136, 3) := by decide +kernel
theorem dX8_play_59 : decode cX8_play 59 = .ok (.ifCond .lt 9, 3) := by decide +kernel
theorem dX8_play_62 : decode cX8_play 62 = .ok (.iinc 2 1, 3) := by decide +kernel
theorem dX8_play_65 : decode cX8_play 65 = .ok (.goto (-27), 3) := by decide +kernel
theorem dX8_play_68 : decode cX8_play 68 = .ok (.iload_n 2, 1) := by decide +kernel
theorem dX8_play_69 : decode cX8_play 69 = .ok (.ireturn, 1) := by decide +kernel
theorem dX8_errorCode_0 : decode cX8_errorCode 0 = .ok (.aload_n 0, 1) := by decide +kernel
theorem dX8_errorCode_1 : decode cX8_errorCode 1 = .ok (.getfield 61, 3) := by decide +kernel
theorem dX8_errorCode_4 : decode cX8_errorCode 4 = .ok (.getfield 139, 3) := by decide +kernel
theorem dX8_errorCode_7 : decode cX8_errorCode 7 = .ok (.ireturn, 1) := by decide +kernel
theorem dX8_count_0 : decode cX8_count 0 = .ok (.iload_n 1, 1) := by decide +kernel
theorem dX8_count_1 : decode cX8_count 1 = .ok (.tableswitch 123 0 8 #[51, 59, 67, 75, 83, 91, 99, 107, 115], 51) := by decide +kernel
theorem dX8_count_52 : decode cX8_count 52 = .ok (.aload_n 0, 1) := by decide +kernel
theorem dX8_count_53 : decode cX8_count 53 = .ok (.getfield 10, 3) := by decide +kernel
theorem dX8_count_56 : decode cX8_count 56 = .ok (.getfield 122, 3) := by decide +kernel
theorem dX8_count_59 : decode cX8_count 59 = .ok (.ireturn, 1) := by decide +kernel
theorem dX8_count_60 : decode cX8_count 60 = .ok (.aload_n 0, 1) := by decide +kernel
theorem dX8_count_61 : decode cX8_count 61 = .ok (.getfield 10, 3) := by decide +kernel
theorem dX8_count_64 : decode cX8_count 64 = .ok (.getfield 145, 3) := by decide +kernel
theorem dX8_count_67 : decode cX8_count 67 = .ok (.ireturn, 1) := by decide +kernel
theorem dX8_count_68 : decode cX8_count 68 = .ok (.aload_n 0, 1) := by decide +kernel
theorem dX8_count_69 : decode cX8_count 69 = .ok (.getfield 10, 3) := by decide +kernel
theorem dX8_count_72 : decode cX8_count 72 = .ok (.getfield 148, 3) := by decide +kernel
theorem dX8_count_75 : decode cX8_count 75 = .ok (.ireturn, 1) := by decide +kernel
theorem dX8_count_76 : decode cX8_count 76 = .ok (.aload_n 0, 1) := by decide +kernel
theorem dX8_count_77 : decode cX8_count 77 = .ok (.getfield 10, 3) := by decide +kernel
theorem dX8_count_80 : decode cX8_count 80 = .ok (.invokevirtual 151, 3) := by decide +kernel
theorem dX8_count_83 : decode cX8_count 83 = .ok (.ireturn, 1) := by decide +kernel
theorem dX8_count_84 : decode cX8_count 84 = .ok (.aload_n 0, 1) := by decide +kernel
theorem dX8_count_85 : decode cX8_count 85 = .ok (.getfield 10, 3) := by decide +kernel
theorem dX8_count_88 : decode cX8_count 88 = .ok (.getfield 118, 3) := by decide +kernel
theorem dX8_count_91 : decode cX8_count 91 = .ok (.ireturn, 1) := by decide +kernel
theorem dX8_count_92 : decode cX8_count 92 = .ok (.aload_n 0, 1) := by decide +kernel
theorem dX8_count_93 : decode cX8_count 93 = .ok (.getfield 10, 3) := by decide +kernel
theorem dX8_count_96 : decode cX8_count 96 = .ok (.getfield 154, 3) := by decide +kernel
theorem dX8_count_99 : decode cX8_count 99 = .ok (.ireturn, 1) := by decide +kernel
theorem dX8_count_100 : decode cX8_count 100 = .ok (.aload_n 0, 1) := by decide +kernel
theorem dX8_count_101 : decode cX8_count 101 = .ok (.getfield 10, 3) := by decide +kernel
theorem dX8_count_104 : decode cX8_count 104 = .ok (.getfield 157, 3) := by decide +kernel
theorem dX8_count_107 : decode cX8_count 107 = .ok (.ireturn, 1) := by decide +kernel
theorem dX8_count_108 : decode cX8_count 108 = .ok (.aload_n 0, 1) := by decide +kernel
theorem dX8_count_109 : decode cX8_count 109 = .ok (.getfield 10, 3) := by decide +kernel
theorem dX8_count_112 : decode cX8_count 112 = .ok (.invokevirtual 160, 3) := by decide +kernel
theorem dX8_count_115 : decode cX8_count 115 = .ok (.ireturn, 1) := by decide +kernel
theorem dX8_count_116 : decode cX8_count 116 = .ok (.aload_n 0, 1) := by decide +kernel
theorem dX8_count_117 : decode cX8_count 117 = .ok (.getfield 29, 3) := by decide +kernel
theorem dX8_count_120 : decode cX8_count 120 = .ok (.getfield 163, 3) := by decide +kernel
theorem dX8_count_123 : decode cX8_count 123 = .ok (.ireturn, 1) := by decide +kernel
theorem dX8_count_124 : decode cX8_count 124 = .ok (.new 96, 3) := by decide +kernel
theorem dX8_count_127 : decode cX8_count 127 = .ok (.dup, 1) := by decide +kernel
theorem dX8_count_128 : decode cX8_count 128 = .ok (.ldc 165, 2) := by decide +kernel
theorem dX8_count_130 : decode cX8_count 130 = .ok (.invokespecial 100, 3) := by decide +kernel
theorem dX8_count_133 : decode cX8_count 133 = .ok (.athrow, 1) := by decide +kernel
theorem dX8_caption_0 : decode cX8_caption 0 = .ok (.aload_n 0, 1) := by decide +kernel
theorem dX8_caption_1 : decode cX8_caption 1 = .ok (.iload_n 1, 1) := by decide +kernel
theorem dX8_caption_2 : decode cX8_caption 2 = .ok (.invokevirtual 167, 3) := by decide +kernel
theorem dX8_caption_5 : decode cX8_caption 5 = .ok (.aload_n 0, 1) := by decide +kernel
theorem dX8_caption_6 : decode cX8_caption 6 = .ok (.getfield 10, 3) := by decide +kernel
theorem dX8_caption_9 : decode cX8_caption 9 = .ok (.iload_n 1, 1) := by decide +kernel
theorem dX8_caption_10 : decode cX8_caption 10 = .ok (.invokevirtual 170, 3) := by decide +kernel
theorem dX8_caption_13 : decode cX8_caption 13 = .ok (.astore_n 3, 1) := by decide +kernel
theorem dX8_caption_14 : decode cX8_caption 14 = .ok (.iload_n 2, 1) := by decide +kernel
theorem dX8_caption_15 : decode cX8_caption 15 = .ok (.tableswitch 123 0 9 #[53, 58, 63, 68, 73, 78, 87, 96, 105, 114], 53) := by decide +kernel
theorem dX8_caption_68 : decode cX8_caption 68 = .ok (.aload_n 3, 1) := by decide +kernel
theorem dX8_caption_69 : decode cX8_caption 69 = .ok (.getfield 174, 3) := by decide +kernel
theorem dX8_caption_72 : decode cX8_caption 72 = .ok (.ireturn, 1) := by decide +kernel
theorem dX8_caption_73 : decode cX8_caption 73 = .ok (.aload_n 3, 1) := by decide +kernel
theorem dX8_caption_74 : decode cX8_caption 74 = .ok (.getfield 177, 3) := by decide +kernel
theorem dX8_caption_77 : decode cX8_caption 77 = .ok (.ireturn, 1) := by decide +kernel
theorem dX8_caption_78 : decode cX8_caption 78 = .ok (.aload_n 3, 1) := by decide +kernel
theorem dX8_caption_79 : decode cX8_caption 79 = .ok (.getfield 180, 3) := by decide +kernel
theorem dX8_caption_82 : decode cX8_caption 82 = .ok (.ireturn, 1) := by decide +kernel
theorem dX8_caption_83 : decode cX8_caption 83 = .ok (.aload_n 3, 1) := by decide +kernel
theorem dX8_caption_84 : decode cX8_caption 84 = .ok (.getfield 183, 3) := by decide +kernel
theorem dX8_caption_87 : decode cX8_caption 87 = .ok (.ireturn, 1) := by decide +kernel
theorem dX8_caption_88 : decode cX8_caption 88 = .ok (.aload_n 3, 1) := by decide +kernel
theorem dX8_caption_89 : decode cX8_caption 89 = .ok (.getfield 186, 3) := by decide +kernel
theorem dX8_caption_92 : decode cX8_caption 92 = .ok (.ireturn, 1) := by decide +kernel
theorem dX8_caption_93 : decode cX8_caption 93 = .ok (.aload_n 0, 1) := by decide +kernel
theorem dX8_caption_94 : decode cX8_caption 94 = .ok (.getfield 10, 3) := by decide +kernel
theorem dX8_caption_97 : decode cX8_caption 97 = .ok (.aload_n 3, 1) := by decide +kernel
theorem dX8_caption_98 : decode cX8_caption 98 = .ok (.invokevirtual 189, 3) := by decide +kernel
theorem dX8_caption_101 : decode cX8_caption 101 = .ok (.ireturn, 1) := by decide +kernel
theorem dX8_caption_102 : decode cX8_caption 102 = .ok (.aload_n 0, 1) := by decide +kernel
theorem dX8_caption_103 : decode cX8_caption 103 = .ok (.getfield 10, 3) := by decide +kernel
theorem dX8_caption_106 : decode cX8_caption 106 = .ok (.aload_n 3, 1) := by decide +kernel
theorem dX8_caption_107 : decode cX8_caption 107 = .ok (.invokevirtual 193, 3) := by decide +kernel
theorem dX8_caption_110 : decode cX8_caption 110 = .ok (.ireturn, 1) := by decide +kernel
theorem dX8_caption_111 : decode cX8_caption 111 = .ok (.aload_n 0, 1) := by decide +kernel
theorem dX8_caption_112 : decode cX8_caption 112 = .ok (.getfield 10, 3) := by decide +kernel
theorem dX8_caption_115 : decode cX8_caption 115 = .ok (.aload_n 3, 1) := by decide +kernel
theorem dX8_caption_116 : decode cX8_caption 116 = .ok (.invokevirtual 196, 3) := by decide +kernel
theorem dX8_caption_119 : decode cX8_caption 119 = .ok (.ireturn, 1) := by decide +kernel
theorem dX8_caption_120 : decode cX8_caption 120 = .ok (.aload_n 0, 1) := by decide +kernel
theorem dX8_caption_121 : decode cX8_caption 121 = .ok (.getfield 10, 3) := by decide +kernel
theorem dX8_caption_124 : decode cX8_caption 124 = .ok (.aload_n 3, 1) := by decide +kernel
theorem dX8_caption_125 : decode cX8_caption 125 = .ok (.invokevirtual 199, 3) := by decide +kernel
theorem dX8_caption_128 : decode cX8_caption 128 = .ok (.ireturn, 1) := by decide +kernel
theorem dX8_caption_129 : decode cX8_caption 129 = .ok (.aload_n 0, 1) := by decide +kernel
theorem dX8_caption_130 : decode cX8_caption 130 = .ok (.getfield 10, 3) := by decide +kernel
theorem dX8_caption_133 : decode cX8_caption 133 = .ok (.aload_n 3, 1) := by decide +kernel
theorem dX8_caption_134 : decode cX8_caption 134 = .ok (.invokevirtual 202, 3) := by decide +kernel
theorem dX8_caption_137 : decode cX8_caption 137 = .ok (.ireturn, 1) := by decide +kernel
theorem dX8_caption_138 : decode cX8_caption 138 = .ok (.new 96, 3) := by decide +kernel
theorem dX8_caption_141 : decode cX8_caption 141 = .ok (.dup, 1) := by decide +kernel
theorem dX8_caption_142 : decode cX8_caption 142 = .ok (.ldc 165, 2) := by decide +kernel
theorem dX8_caption_144 : decode cX8_caption 144 = .ok (.invokespecial 100, 3) := by decide +kernel
theorem dX8_caption_147 : decode cX8_caption 147 = .ok (.athrow, 1) := by decide +kernel
theorem dX8_letter_0 : decode cX8_letter 0 = .ok (.aload_n 0, 1) := by decide +kernel
theorem dX8_letter_1 : decode cX8_letter 1 = .ok (.iload_n 1, 1) := by decide +kernel
theorem dX8_letter_2 : decode cX8_letter 2 = .ok (.invokevirtual 167, 3) := by decide +kernel
theorem dX8_letter_5 : decode cX8_letter 5 = .ok (.aload_n 0, 1) := by decide +kernel
theorem dX8_letter_6 : decode cX8_letter 6 = .ok (.getfield 10, 3) := by decide +kernel
theorem dX8_letter_9 : decode cX8_letter 9 = .ok (.iload_n 1, 1) := by decide +kernel
theorem dX8_letter_10 : decode cX8_letter 10 = .ok (.invokevirtual 170, 3) := by decide +kernel
theorem dX8_letter_13 : decode cX8_letter 13 = .ok (.astore 4, 2) := by decide +kernel
theorem dX8_letter_15 : decode cX8_letter 15 = .ok (.iload_n 2, 1) := by decide +kernel
theorem dX8_letter_16 : decode cX8_letter 16 = .ok (.ifCond .lt 12, 3) := by decide +kernel
theorem dX8_letter_19 : decode cX8_letter 19 = .ok (.iload_n 2, 1) := by decide +kernel
theorem dX8_letter_20 : decode cX8_letter 20 = .ok (.aload 4, 2) := by decide +kernel
theorem dX8_letter_22 : decode cX8_letter 22 = .ok (.getfield 174, 3) := by decide +kernel
theorem dX8_letter_25 : decode cX8_letter 25 = .ok (.if_icmp .lt 13, 3) := by decide +kernel
theorem dX8_letter_28 : decode cX8_letter 28 = .ok (.new 205, 3) := by decide +kernel
theorem dX8_letter_31 : decode cX8_letter 31 = .ok (.dup, 1) := by decide +kernel
theorem dX8_letter_32 : decode cX8_letter 32 = .ok (.ldc 207, 2) := by decide +kernel
theorem dX8_letter_34 : decode cX8_letter 34 = .ok (.invokespecial 209, 3) := by decide +kernel
theorem dX8_letter_37 : decode cX8_letter 37 = .ok (.athrow, 1) := by decide +kernel
theorem dX8_letter_38 : decode cX8_letter 38 = .ok (.iload_n 3, 1) := by decide +kernel
theorem dX8_letter_39 : decode cX8_letter 39 = .ok (.tableswitch 85 0 3 #[29, 36, 47, 58], 29) := by decide +kernel
theorem dX8_letter_68 : decode cX8_letter 68 = .ok (.aload 4, 2) := by decide +kernel
theorem dX8_letter_70 : decode cX8_letter 70 = .ok (.iload_n 2, 1) := by decide +kernel
theorem dX8_letter_71 : decode cX8_letter 71 = .ok (.invokevirtual 210, 3) := by decide +kernel
theorem dX8_letter_74 : decode cX8_letter 74 = .ok (.ireturn, 1) := by decide +kernel
theorem dX8_letter_75 : decode cX8_letter 75 = .ok (.aload_n 0, 1) := by decide +kernel
theorem dX8_letter_76 : decode cX8_letter 76 = .ok (.getfield 10, 3) := by decide +kernel
theorem dX8_letter_79 : decode cX8_letter 79 = .ok (.aload 4, 2) := by decide +kernel
theorem dX8_letter_81 : decode cX8_letter 81 = .ok (.iload_n 2, 1) := by decide +kernel
theorem dX8_letter_82 : decode cX8_letter 82 = .ok (.invokevirtual 214, 3) := by decide +kernel
theorem dX8_letter_85 : decode cX8_letter 85 = .ok (.ireturn, 1) := by decide +kernel
theorem dX8_letter_86 : decode cX8_letter 86 = .ok (.aload_n 0, 1) := by decide +kernel
theorem dX8_letter_87 : decode cX8_letter 87 = .ok (.getfield 10, 3) := by decide +kernel
theorem dX8_letter_90 : decode cX8_letter 90 = .ok (.aload 4, 2) := by decide +kernel
theorem dX8_letter_92 : decode cX8_letter 92 = .ok (.iload_n 2, 1) := by decide +kernel
theorem dX8_letter_93 : decode cX8_letter 93 = .ok (.invokevirtual 218, 3) := by decide +kernel
theorem dX8_letter_96 : decode cX8_letter 96 = .ok (.ireturn, 1) := by decide +kernel
theorem dX8_letter_97 : decode cX8_letter 97 = .ok (.aload_n 0, 1) := by decide +kernel
theorem dX8_letter_98 : decode cX8_letter 98 = .ok (.getfield 10, 3) := by decide +kernel
theorem dX8_letter_101 : decode cX8_letter 101 = .ok (.aload 4, 2) := by decide +kernel
theorem dX8_letter_103 : decode cX8_letter 103 = .ok (.invokevirtual 221, 3) := by decide +kernel
theorem dX8_letter_106 : decode cX8_letter 106 = .ok (.ifCond .eq 16, 3) := by decide +kernel
theorem dX8_letter_109 : decode cX8_letter 109 = .ok (.aload_n 0, 1) := by decide +kernel
theorem dX8_letter_110 : decode cX8_letter 110 = .ok (.getfield 10, 3) := by decide +kernel
theorem dX8_letter_113 : decode cX8_letter 113 = .ok (.aload 4, 2) := by decide +kernel
theorem dX8_letter_115 : decode cX8_letter 115 = .ok (.iload_n 2, 1) := by decide +kernel
theorem dX8_letter_116 : decode cX8_letter 116 = .ok (.invokevirtual 225, 3) := by decide +kernel
theorem dX8_letter_119 : decode cX8_letter 119 = .ok (.goto 4, 3) := by decide +kernel
theorem dX8_letter_122 : decode cX8_letter 122 = .ok (.iconst (-1), 1) := by decide +kernel
theorem dX8_letter_123 : decode cX8_letter 123 = .ok (.ireturn, 1) := by decide +kernel
theorem dX8_letter_124 : decode cX8_letter 124 = .ok (.new 96, 3) := by decide +kernel
theorem dX8_letter_127 : decode cX8_letter 127 = .ok (.dup, 1) := by decide +kernel
theorem dX8_letter_128 : decode cX8_letter 128 = .ok (.ldc 165, 2) := by decide +kernel
theorem dX8_letter_130 : decode cX8_letter 130 = .ok (.invokespecial 100, 3) := by decide +kernel
theorem dX8_letter_133 : decode cX8_letter 133 = .ok (.athrow, 1) := by decide +kernel
theorem dX8_cell_0 : decode cX8_cell 0 = .ok (.aload_n 0, 1) := by decide +kernel
theorem dX8_cell_1 : decode cX8_cell 1 = .ok (.iload_n 1, 1) := by decide +kernel
theorem dX8_cell_2 : decode cX8_cell 2 = .ok (.iload_n 2, 1) := by decide +kernel
theorem dX8_cell_3 : decode cX8_cell 3 = .ok (.invokevirtual 228, 3) := by decide +kernel
theorem dX8_cell_6 : decode cX8_cell 6 = .ok (.aload_n 0, 1) := by decide +kernel
theorem dX8_cell_7 : decode cX8_cell 7 = .ok (.getfield 10, 3) := by decide +kernel
theorem dX8_cell_10 : decode cX8_cell 10 = .ok (.getfield 232, 3) := by decide +kernel
theorem dX8_cell_13 : decode cX8_cell 13 = .ok (.iload_n 1, 1) := by decide +kernel
theorem dX8_cell_14 : decode cX8_cell 14 = .ok (.iload_n 2, 1) := by decide +kernel
theorem dX8_cell_15 : decode cX8_cell 15 = .ok (.invokevirtual 236, 3) := by decide +kernel
theorem dX8_cell_18 : decode cX8_cell 18 = .ok (.ireturn, 1) := by decide +kernel
theorem dX8_design_0 : decode cX8_design 0 = .ok (.aload_n 0, 1) := by decide +kernel
theorem dX8_design_1 : decode cX8_design 1 = .ok (.iload_n 1, 1) := by decide +kernel
theorem dX8_design_2 : decode cX8_design 2 = .ok (.iload_n 2, 1) := by decide +kernel
theorem dX8_design_3 : decode cX8_design 3 = .ok (.invokevirtual 228, 3) := by decide +kernel
theorem dX8_design_6 : decode cX8_design 6 = .ok (.aload_n 0, 1) := by decide +kernel
theorem dX8_design_7 : decode cX8_design 7 = .ok (.getfield 10, 3) := by decide +kernel
theorem dX8_design_10 : decode cX8_design 10 = .ok (.getfield 242, 3) := by decide +kernel
theorem dX8_design_13 : decode cX8_design 13 = .ok (.iload_n 1, 1) := by decide +kernel
theorem dX8_design_14 : decode cX8_design 14 = .ok (.iload_n 2, 1) := by decide +kernel
theorem dX8_design_15 : decode cX8_design 15 = .ok (.invokevirtual 236, 3) := by decide +kernel
theorem dX8_design_18 : decode cX8_design 18 = .ok (.ireturn, 1) := by decide +kernel
theorem dX8_colour_0 : decode cX8_colour 0 = .ok (.aload_n 0, 1) := by decide +kernel
theorem dX8_colour_1 : decode cX8_colour 1 = .ok (.iload_n 1, 1) := by decide +kernel
theorem dX8_colour_2 : decode cX8_colour 2 = .ok (.invokevirtual 245, 3) := by decide +kernel
theorem dX8_colour_5 : decode cX8_colour 5 = .ok (.iload_n 2, 1) := by decide +kernel
theorem dX8_colour_6 : decode cX8_colour 6 = .ok (.tableswitch 97 0 4 #[34, 43, 60, 69, 78], 34) := by decide +kernel
theorem dX8_colour_40 : decode cX8_colour 40 = .ok (.aload_n 0, 1) := by decide +kernel
theorem dX8_colour_41 : decode cX8_colour 41 = .ok (.getfield 10, 3) := by decide +kernel
theorem dX8_colour_44 : decode cX8_colour 44 = .ok (.iload_n 1, 1) := by decide +kernel
theorem dX8_colour_45 : decode cX8_colour 45 = .ok (.invokevirtual 248, 3) := by decide +kernel
theorem dX8_colour_48 : decode cX8_colour 48 = .ok (.ireturn, 1) := by decide +kernel
theorem dX8_colour_49 : decode cX8_colour 49 = .ok (.aload_n 0, 1) := by decide +kernel
theorem dX8_colour_50 : decode cX8_colour 50 = .ok (.getfield 10, 3) := by decide +kernel
theorem dX8_colour_53 : decode cX8_colour 53 = .ok (.iload_n 1, 1) := by decide +kernel
theorem dX8_colour_54 : decode cX8_colour 54 = .ok (.iconst 0, 1) := by decide +kernel
theorem dX8_colour_55 : decode cX8_colour 55 = .ok (.aload_n 0, 1) := by decide +kernel
theorem dX8_colour_56 : decode cX8_colour 56 = .ok (.getfield 10, 3) := by decide +kernel
theorem dX8_colour_59 : decode cX8_colour 59 = .ok (.getfield 148, 3) := by decide +kernel
theorem dX8_colour_62 : decode cX8_colour 62 = .ok (.invokevirtual 251, 3) := by decide +kernel
theorem dX8_colour_65 : decode cX8_colour 65 = .ok (.ireturn, 1) := by decide +kernel
theorem dX8_colour_66 : decode cX8_colour 66 = .ok (.aload_n 0, 1) := by decide +kernel
theorem dX8_colour_67 : decode cX8_colour 67 = .ok (.getfield 10, 3) := by decide +kernel
theorem dX8_colour_70 : decode cX8_colour 70 = .ok (.iload_n 1, 1) := by decide +kernel
theorem dX8_colour_71 : decode cX8_colour 71 = .ok (.invokevirtual 255, 3) := by decide +kernel
theorem dX8_colour_74 : decode cX8_colour 74 = .ok (.ireturn, 1) := by decide +kernel
theorem dX8_colour_75 : decode cX8_colour 75 = .ok (.aload_n 0, 1) := by decide +kernel
theorem dX8_colour_76 : decode cX8_colour 76 = .ok (.getfield 10, 3) := by decide +kernel
theorem dX8_colour_79 : decode cX8_colour 79 = .ok (.iload_n 1, 1) := by decide +kernel
theorem dX8_colour_80 : decode cX8_colour 80 = .ok (.invokevirtual 258, 3) := by decide +kernel
theorem dX8_colour_83 : decode cX8_colour 83 = .ok (.ireturn, 1) := by decide +kernel
theorem dX8_colour_84 : decode cX8_colour 84 = .ok (.aload_n 0, 1) := by decide +kernel
theorem dX8_colour_85 : decode cX8_colour 85 = .ok (.getfield 10, 3) := by decide +kernel
theorem dX8_colour_88 : decode cX8_colour 88 = .ok (.iload_n 1, 1) := by decide +kernel
theorem dX8_colour_89 : decode cX8_colour 89 = .ok (.iconst 0, 1) := by decide +kernel
theorem dX8_colour_90 : decode cX8_colour 90 = .ok (.aload_n 0, 1) := by decide +kernel
theorem dX8_colour_91 : decode cX8_colour 91 = .ok (.getfield 10, 3) := by decide +kernel
theorem dX8_colour_94 : decode cX8_colour 94 = .ok (.getfield 145, 3) := by decide +kernel
theorem dX8_colour_97 : decode cX8_colour 97 = .ok (.invokevirtual 251, 3) := by decide +kernel
theorem dX8_colour_100 : decode cX8_colour 100 = .ok (.iconst 2, 1) := by decide +kernel
theorem dX8_colour_101 : decode cX8_colour 101 = .ok (.idiv, 1) := by decide +kernel
theorem dX8_colour_102 : decode cX8_colour 102 = .ok (.ireturn, 1) := by decide +kernel
theorem dX8_colour_103 : decode cX8_colour 103 = .ok (.new 96, 3) := by decide +kernel
theorem dX8_colour_106 : decode cX8_colour 106 = .ok (.dup, 1) := by decide +kernel
theorem dX8_colour_107 : decode cX8_colour 107 = .ok (.ldc 165, 2) := by decide +kernel
theorem dX8_colour_109 : decode cX8_colour 109 = .ok (.invokespecial 100, 3) := by decide +kernel
theorem dX8_colour_112 : decode cX8_colour 112 = .ok (.athrow, 1) := by decide +kernel
theorem dX8_mistakes_0 : decode cX8_mistakes 0 = .ok (.iload_n 1, 1) := by decide +kernel
theorem dX8_mistakes_1 : decode cX8_mistakes 1 = .ok (.tableswitch 105 0 5 #[39, 48, 56, 64, 73, 89], 39) := by decide +kernel
theorem dX8_mistakes_40 : decode cX8_mistakes 40 = .ok (.aload_n 0, 1) := by decide +kernel
theorem dX8_mistakes_41 : decode cX8_mistakes 41 = .ok (.getfield 10, 3) := by decide +kernel
theorem dX8_mistakes_44 : decode cX8_mistakes 44 = .ok (.iconst 0, 1) := by decide +kernel
theorem dX8_mistakes_45 : decode cX8_mistakes 45 = .ok (.invokevirtual 261, 3) := by decide +kernel
theorem dX8_mistakes_48 : decode cX8_mistakes 48 = .ok (.ireturn, 1) := by decide +kernel
theorem dX8_mistakes_49 : decode cX8_mistakes 49 = .ok (.aload_n 0, 1) := by decide +kernel
theorem dX8_mistakes_50 : decode cX8_mistakes 50 = .ok (.getfield 10, 3) := by decide +kernel
theorem dX8_mistakes_53 : decode cX8_mistakes 53 = .ok (.invokevirtual 264, 3) := by decide +kernel
theorem dX8_mistakes_56 : decode cX8_mistakes 56 = .ok (.ireturn, 1) := by decide +kernel
theorem dX8_mistakes_57 : decode cX8_mistakes 57 = .ok (.aload_n 0, 1) := by decide +kernel
theorem dX8_mistakes_58 : decode cX8_mistakes 58 = .ok (.getfield 10, 3) := by decide +kernel
theorem dX8_mistakes_61 : decode cX8_mistakes 61 = .ok (.invokevirtual 267, 3) := by decide +kernel
theorem dX8_mistakes_64 : decode cX8_mistakes 64 = .ok (.ireturn, 1) := by decide +kernel
theorem dX8_mistakes_65 : decode cX8_mistakes 65 = .ok (.aload_n 0, 1) := by decide +kernel
theorem dX8_mistakes_66 : decode cX8_mistakes 66 = .ok (.getfield 10, 3) := by decide +kernel
theorem dX8_mistakes_69 : decode cX8_mistakes 69 = .ok (.iconst 1, 1) := by decide +kernel
theorem dX8_mistakes_70 : decode cX8_mistakes 70 = .ok (.invokevirtual 270, 3) := by decide +kernel
theorem dX8_mistakes_73 : decode cX8_mistakes 73 = .ok (.ireturn, 1) := by decide +kernel
theorem dX8_mistakes_74 : decode cX8_mistakes 74 = .ok (.aload_n 0, 1) := by decide +kernel
theorem dX8_mistakes_75 : decode cX8_mistakes 75 = .ok (.getfield 10, 3) := by decide +kernel
theorem dX8_mistakes_78 : decode cX8_mistakes 78 = .ok (.aload_n 0, 1) := by decide +kernel
theorem dX8_mistakes_79 : decode cX8_mistakes 79 = .ok (.getfield 10, 3) := by decide +kernel
theorem dX8_mistakes_82 : decode cX8_mistakes 82 = .ok (.iconst 0, 1) := by decide +kernel
theorem dX8_mistakes_83 : decode cX8_mistakes 83 = .ok (.invokevirtual 270, 3) := by decide +kernel
theorem dX8_mistakes_86 : decode cX8_mistakes 86 = .ok (.invokevirtual 274, 3) := by decide +kernel
theorem dX8_mistakes_89 : decode cX8_mistakes 89 = .ok (.ireturn, 1) := by decide +kernel
theorem dX8_mistakes_90 : decode cX8_mistakes 90 = .ok (.aload_n 0, 1) := by decide +kernel
theorem dX8_mistakes_91 : decode cX8_mistakes 91 = .ok (.getfield 10, 3) := by decide +kernel
theorem dX8_mistakes_94 : decode cX8_mistakes 94 = .ok (.aload_n 0, 1) := by decide +kernel
theorem dX8_mistakes_95 : decode cX8_mistakes 95 = .ok (.getfield 10, 3) := by decide +kernel
theorem dX8_mistakes_98 : decode cX8_mistakes 98 = .ok (.iconst 1, 1) := by decide +kernel
theorem dX8_mistakes_99 : decode cX8_mistakes 99 = .ok (.invokevirtual 270, 3) := by decide +kernel
theorem dX8_mistakes_102 : decode cX8_mistakes 102 = .ok (.invokevirtual 274, 3) := by decide +kernel
theorem dX8_mistakes_105 : decode cX8_mistakes 105 = .ok (.ireturn, 1) := by decide +kernel
theorem dX8_mistakes_106 : decode cX8_mistakes 106 = .ok (.new 96, 3) := by decide +kernel
theorem dX8_mistakes_109 : decode cX8_mistakes 109 = .ok (.dup, 1) := by decide +kernel
theorem dX8_mistakes_110 : decode cX8_mistakes 110 = .ok (.ldc 165, 2) := by decide +kernel
theorem dX8_mistakes_112 : decode cX8_mistakes 112 = .ok (.invokespecial 100, 3) := by decide +kernel
theorem dX8_mistakes_115 : decode cX8_mistakes 115 = .ok (.athrow, 1) := by decide +kernel
theorem dX8_fits_0 : decode cX8_fits 0 = .ok (.aload_n 0, 1) := by decide +kernel
theorem dX8_fits_1 : decode cX8_fits 1 = .ok (.getfield 10, 3) := by decide +kernel
theorem dX8_fits_4 : decode cX8_fits 4 = .ok (.invokevirtual 277, 3) := by decide +kernel
theorem dX8_fits_7 : decode cX8_fits 7 = .ok (.ifCond .eq 5, 3) := by decide +kernel
theorem dX8_fits_10 : decode cX8_fits 10 = .ok (.iconst 0, 1) := by decide +kernel
theorem dX8_fits_11 : decode cX8_fits 11 = .ok (.ireturn, 1) := by decide +kernel
theorem dX8_fits_12 : decode cX8_fits 12 = .ok (.iconst 0, 1) := by decide +kernel
theorem dX8_fits_13 : decode cX8_fits 13 = .ok (.istore_n 1, 1) := by decide +kernel
theorem dX8_fits_14 : decode cX8_fits 14 = .ok (.iload_n 1, 1) := by decide +kernel
theorem dX8_fits_15 : decode cX8_fits 15 = .ok (.aload_n 0, 1) := by decide +kernel
theorem dX8_fits_16 : decode cX8_fits 16 = .ok (.getfield 10, 3) := by decide +kernel
theorem dX8_fits_19 : decode cX8_fits 19 = .ok (.getfield 118, 3) := by decide +kernel
theorem dX8_fits_22 : decode cX8_fits 22 = .ok (.if_icmp .ge 35, 3) := by decide +kernel
theorem dX8_fits_25 : decode cX8_fits 25 = .ok (.aload_n 0, 1) := by decide +kernel
theorem dX8_fits_26 : decode cX8_fits 26 = .ok (.getfield 10, 3) := by decide +kernel
theorem dX8_fits_29 : decode cX8_fits 29 = .ok (.iload_n 1, 1) := by decide +kernel
theorem dX8_fits_30 : decode cX8_fits 30 = .ok (.invokevirtual 170, 3) := by decide +kernel
theorem dX8_fits_33 : decode cX8_fits 33 = .ok (.astore_n 2, 1) := by decide +kernel
theorem dX8_fits_34 : decode cX8_fits 34 = .ok (.aload_n 0, 1) := by decide +kernel
theorem dX8_fits_35 : decode cX8_fits 35 = .ok (.getfield 10, 3) := by decide +kernel
theorem dX8_fits_38 : decode cX8_fits 38 = .ok (.aload_n 2, 1) := by decide +kernel
theorem dX8_fits_39 : decode cX8_fits 39 = .ok (.invokevirtual 193, 3) := by decide +kernel
theorem dX8_fits_42 : decode cX8_fits 42 = .ok (.aload_n 2, 1) := by decide +kernel
theorem dX8_fits_43 : decode cX8_fits 43 = .ok (.getfield 174, 3) := by decide +kernel
theorem dX8_fits_46 : decode cX8_fits 46 = .ok (.if_icmp .eq 5, 3) := by decide +kernel
theorem dX8_fits_49 : decode cX8_fits 49 = .ok (.iconst 0, 1) := by decide +kernel
theorem dX8_fits_50 : decode cX8_fits 50 = .ok (.ireturn, 1) := by decide +kernel
theorem dX8_fits_51 : decode cX8_fits 51 = .ok (.iinc 1 1, 3) := by decide +kernel
theorem dX8_fits_54 : decode cX8_fits 54 = .ok (.goto (-40), 3) := by decide +kernel
theorem dX8_fits_57 : decode cX8_fits 57 = .ok (.iconst 1, 1) := by decide +kernel
theorem dX8_fits_58 : decode cX8_fits 58 = .ok (.ireturn, 1) := by decide +kernel
theorem dX8_isAlike_0 : decode cX8_isAlike 0 = .ok (.aload_n 0, 1) := by decide +kernel
theorem dX8_isAlike_1 : decode cX8_isAlike 1 = .ok (.iload_n 1, 1) := by decide +kernel
theorem dX8_isAlike_2 : decode cX8_isAlike 2 = .ok (.invokevirtual 167, 3) := by decide +kernel
theorem dX8_isAlike_5 : decode cX8_isAlike 5 = .ok (.aload_n 0, 1) := by decide +kernel
theorem dX8_isAlike_6 : decode cX8_isAlike 6 = .ok (.getfield 10, 3) := by decide +kernel
theorem dX8_isAlike_9 : decode cX8_isAlike 9 = .ok (.iload_n 1, 1) := by decide +kernel
theorem dX8_isAlike_10 : decode cX8_isAlike 10 = .ok (.invokevirtual 170, 3) := by decide +kernel
theorem dX8_isAlike_13 : decode cX8_isAlike 13 = .ok (.invokevirtual 280, 3) := by decide +kernel
theorem dX8_isAlike_16 : decode cX8_isAlike 16 = .ok (.ireturn, 1) := by decide +kernel
theorem dX8_joins_0 : decode cX8_joins 0 = .ok (.aload_n 0, 1) := by decide +kernel
theorem dX8_joins_1 : decode cX8_joins 1 = .ok (.iload_n 1, 1) := by decide +kernel
theorem dX8_joins_2 : decode cX8_joins 2 = .ok (.invokevirtual 283, 3) := by decide +kernel
theorem dX8_joins_5 : decode cX8_joins 5 = .ok (.iload_n 1, 1) := by decide +kernel
theorem dX8_joins_6 : decode cX8_joins 6 = .ok (.aload_n 0, 1) := by decide +kernel
theorem dX8_joins_7 : decode cX8_joins 7 = .ok (.getfield 10, 3) := by decide +kernel
theorem dX8_joins_10 : decode cX8_joins 10 = .ok (.getfield 148, 3) := by decide +kernel
theorem dX8_joins_13 : decode cX8_joins 13 = .ok (.if_icmp .ge 14, 3) := by decide +kernel
theorem dX8_joins_16 : decode cX8_joins 16 = .ok (.aload_n 0, 1) := by decide +kernel
theorem dX8_joins_17 : decode cX8_joins 17 = .ok (.getfield 10, 3) := by decide +kernel
theorem dX8_joins_20 : decode cX8_joins 20 = .ok (.iload_n 1, 1) := by decide +kernel
theorem dX8_joins_21 : decode cX8_joins 21 = .ok (.invokevirtual 286, 3) := by decide +kernel
theorem dX8_joins_24 : decode cX8_joins 24 = .ok (.goto 4, 3) := by decide +kernel
theorem dX8_joins_27 : decode cX8_joins 27 = .ok (.iconst (-1), 1) := by decide +kernel
theorem dX8_joins_28 : decode cX8_joins 28 = .ok (.ireturn, 1) := by decide +kernel
theorem dX8_slits_0 : decode cX8_slits 0 = .ok (.iload_n 1, 1) := by decide +kernel
theorem dX8_slits_1 : decode cX8_slits 1 = .ok (.iconst 2, 1) := by decide +kernel
theorem dX8_slits_2 : decode cX8_slits 2 = .ok (.if_icmp .lt 9, 3) := by decide +kernel
theorem dX8_slits_5 : decode cX8_slits 5 = .ok (.iload_n 1, 1) := by decide +kernel
theorem dX8_slits_6 : decode cX8_slits 6 = .ok (.bipush 30, 2) := by decide +kernel
theorem dX8_slits_8 : decode cX8_slits 8 = .ok (.if_icmp .le 13, 3) := by decide +kernel
theorem dX8_slits_11 : decode cX8_slits 11 = .ok (.new 96, 3) := by decide +kernel
theorem dX8_slits_14 : decode cX8_slits 14 = .ok (.dup, 1) := by decide +kernel
theorem dX8_slits_15 : decode cX8_slits 15 = .ok (.ldc 98, 2) := by decide +kernel
theorem dX8_slits_17 : decode cX8_slits 17 = .ok (.invokespecial 100, 3) := by decide +kernel
theorem dX8_slits_20 : decode cX8_slits 20 = .ok (.athrow, 1) := by decide +kernel
theorem dX8_slits_21 : decode cX8_slits 21 = .ok (.aload_n 0, 1) := by decide +kernel
theorem dX8_slits_22 : decode cX8_slits 22 = .ok (.getfield 10, 3) := by decide +kernel
theorem dX8_slits_25 : decode cX8_slits 25 = .ok (.iload_n 1, 1) := by decide +kernel
theorem dX8_slits_26 : decode cX8_slits 26 = .ok (.invokevirtual 289, 3) := by decide +kernel
theorem dX8_slits_29 : decode cX8_slits 29 = .ok (.ireturn, 1) := by decide +kernel
theorem dX8_longestSlit_0 : decode cX8_longestSlit 0 = .ok (.aload_n 0, 1) := by decide +kernel
theorem dX8_longestSlit_1 : decode cX8_longestSlit 1 = .ok (.getfield 10, 3) := by decide +kernel
theorem dX8_longestSlit_4 : decode cX8_longestSlit 4 = .ok (.invokevirtual 292, 3) := by decide +kernel
theorem dX8_longestSlit_7 : decode cX8_longestSlit 7 = .ok (.istore_n 1, 1) := by decide +kernel
theorem dX8_longestSlit_8 : decode cX8_longestSlit 8 = .ok (.iload_n 1, 1) := by decide +kernel
theorem dX8_longestSlit_9 : decode cX8_longestSlit 9 = .ok (.iconst 2, 1) := by decide +kernel
theorem dX8_longestSlit_10 : decode cX8_longestSlit 10 = .ok (.if_icmp .ge 7, 3) := by decide +kernel
theorem dX8_longestSlit_13 : decode cX8_longestSlit 13 = .ok (.iconst 0, 1) := by decide +kernel
theorem dX8_longestSlit_14 : decode cX8_longestSlit 14 = .ok (.goto 4, 3) := by decide +kernel
theorem dX8_longestSlit_17 : decode cX8_longestSlit 17 = .ok (.iload_n 1, 1) := by decide +kernel
theorem dX8_longestSlit_18 : decode cX8_longestSlit 18 = .ok (.ireturn, 1) := by decide +kernel
theorem dX8_account_0 : decode cX8_account 0 = .ok (.iload_n 1, 1) := by decide +kernel
theorem dX8_account_1 : decode cX8_account 1 = .ok (.ifCond .lt 9, 3) := by decide +kernel
theorem dX8_account_4 : decode cX8_account 4 = .ok (.iload_n 1, 1) := by decide +kernel
theorem dX8_account_5 : decode cX8_account 5 = .ok (.bipush 9, 2) := by decide +kernel
theorem dX8_account_7 : decode cX8_account 7 = .ok (.if_icmp .lt 13, 3) := by decide +kernel
theorem dX8_account_10 : decode cX8_account 10 = .ok (.new 96, 3) := by decide +kernel
theorem dX8_account_13 : decode cX8_account 13 = .ok (.dup, 1) := by decide +kernel
theorem dX8_account_14 : decode cX8_account 14 = .ok (.ldc 165, 2) := by decide +kernel
theorem dX8_account_16 : decode cX8_account 16 = .ok (.invokespecial 100, 3) := by decide +kernel
theorem dX8_account_19 : decode cX8_account 19 = .ok (.athrow, 1) := by decide +kernel
theorem dX8_account_20 : decode cX8_account 20 = .ok (.aload_n 0, 1) := by decide +kernel
theorem dX8_account_21 : decode cX8_account 21 = .ok (.getfield 39, 3) := by decide +kernel
theorem dX8_account_24 : decode cX8_account 24 = .ok (.iload_n 1, 1) := by decide +kernel
theorem dX8_account_25 : decode cX8_account 25 = .ok (.invokestatic 295, 3) := by decide +kernel
theorem dX8_account_28 : decode cX8_account 28 = .ok (.ireturn, 1) := by decide +kernel
theorem dX8_lasts_0 : decode cX8_lasts 0 = .ok (.aload_n 0, 1) := by decide +kernel
theorem dX8_lasts_1 : decode cX8_lasts 1 = .ok (.getfield 43, 3) := by decide +kernel
theorem dX8_lasts_4 : decode cX8_lasts 4 = .ok (.iconst 0, 1) := by decide +kernel
theorem dX8_lasts_5 : decode cX8_lasts 5 = .ok (.invokestatic 299, 3) := by decide +kernel
theorem dX8_lasts_8 : decode cX8_lasts 8 = .ok (.iconst 0, 1) := by decide +kernel
theorem dX8_lasts_9 : decode cX8_lasts 9 = .ok (.istore_n 1, 1) := by decide +kernel
theorem dX8_lasts_10 : decode cX8_lasts 10 = .ok (.aload_n 0, 1) := by decide +kernel
theorem dX8_lasts_11 : decode cX8_lasts 11 = .ok (.getfield 10, 3) := by decide +kernel
theorem dX8_lasts_14 : decode cX8_lasts 14 = .ok (.getfield 148, 3) := by decide +kernel
theorem dX8_lasts_17 : decode cX8_lasts 17 = .ok (.istore_n 2, 1) := by decide +kernel
theorem dX8_lasts_18 : decode cX8_lasts 18 = .ok (.iload_n 2, 1) := by decide +kernel
theorem dX8_lasts_19 : decode cX8_lasts 19 = .ok (.aload_n 0, 1) := by decide +kernel
theorem dX8_lasts_20 : decode cX8_lasts 20 = .ok (.getfield 10, 3) := by decide +kernel
theorem dX8_lasts_23 : decode cX8_lasts 23 = .ok (.getfield 145, 3) := by decide +kernel
theorem dX8_lasts_26 : decode cX8_lasts 26 = .ok (.if_icmp .ge 41, 3) := by decide +kernel
theorem dX8_lasts_29 : decode cX8_lasts 29 = .ok (.aload_n 0, 1) := by decide +kernel
theorem dX8_lasts_30 : decode cX8_lasts 30 = .ok (.getfield 10, 3) := by decide +kernel
theorem dX8_lasts_33 : decode cX8_lasts 33 = .ok (.aload_n 0, 1) := by decide +kernel
theorem dX8_lasts_34 : decode cX8_lasts 34 = .ok (.getfield 43, 3) := by decide +kernel
theorem dX8_lasts_37 : decode cX8_lasts 37 = .ok (.iload_n 2, 1) := by decide +kernel
theorem dX8_lasts_38 : decode cX8_lasts 38 = .ok (.iconst 0, 1) := by decide +kernel
theorem dX8_lasts_39 : decode cX8_lasts 39 = .ok (.invokevirtual 305, 3) := by decide +kernel
theorem dX8_lasts_42 : decode cX8_lasts 42 = .ok (.aload_n 0, 1) := by decide +kernel
theorem dX8_lasts_43 : decode cX8_lasts 43 = .ok (.getfield 10, 3) := by decide +kernel
theorem dX8_lasts_46 : decode cX8_lasts 46 = .ok (.aload_n 0, 1) := by decide +kernel
theorem dX8_lasts_47 : decode cX8_lasts 47 = .ok (.getfield 43, 3) := by decide +kernel
theorem dX8_lasts_50 : decode cX8_lasts 50 = .ok (.invokevirtual 309, 3) := by decide +kernel
theorem dX8_lasts_53 : decode cX8_lasts 53 = .ok (.ifCond .ne 5, 3) := by decide +kernel
theorem dX8_lasts_56 : decode cX8_lasts 56 = .ok (.iload_n 1, 1) := by decide +kernel
theorem dX8_lasts_57 : decode cX8_lasts 57 = .ok (.ireturn, 1) := by decide +kernel
theorem dX8_lasts_58 : decode cX8_lasts 58 = .ok (.iinc 1 1, 3) := by decide +kernel
theorem dX8_lasts_61 : decode cX8_lasts 61 = .ok (.iinc 2 1, 3) := by decide +kernel
theorem dX8_lasts_64 : decode cX8_lasts 64 = .ok (.goto (-46), 3) := by decide +kernel
theorem dX8_lasts_67 : decode cX8_lasts 67 = .ok (.iload_n 1, 1) := by decide +kernel
theorem dX8_lasts_68 : decode cX8_lasts 68 = .ok (.ireturn, 1) := by decide +kernel
theorem dX8_minutes_0 : decode cX8_minutes 0 = .ok (.iload_n 1, 1) := by decide +kernel
theorem dX8_minutes_1 : decode cX8_minutes 1 = .ok (.ifCond .lt 9, 3) := by decide +kernel
theorem dX8_minutes_4 : decode cX8_minutes 4 = .ok (.iload_n 1, 1) := by decide +kernel
theorem dX8_minutes_5 : decode cX8_minutes 5 = .ok (.bipush 30, 2) := by decide +kernel
theorem dX8_minutes_7 : decode cX8_minutes 7 = .ok (.if_icmp .le 14, 3) := by decide +kernel
theorem dX8_minutes_10 : decode cX8_minutes 10 = .ok (.new 96, 3) := by decide +kernel
theorem dX8_minutes_13 : decode cX8_minutes 13 = .ok (.dup, 1) := by decide +kernel
theorem dX8_minutes_14 : decode cX8_minutes 14 = .ok (.ldc_w 313, 3) := by decide +kernel
theorem dX8_minutes_17 : decode cX8_minutes 17 = .ok (.invokespecial 100, 3) := by decide +kernel
theorem dX8_minutes_20 : decode cX8_minutes 20 = .ok (.athrow, 1) := by decide +kernel
theorem dX8_minutes_21 : decode cX8_minutes 21 = .ok (.aload_n 0, 1) := by decide +kernel
theorem dX8_minutes_22 : decode cX8_minutes 22 = .ok (.getfield 10, 3) := by decide +kernel
theorem dX8_minutes_25 : decode cX8_minutes 25 = .ok (.getfield 145, 3) := by decide +kernel
theorem dX8_minutes_28 : decode cX8_minutes 28 = .ok (.aload_n 0, 1) := by decide +kernel
theorem dX8_minutes_29 : decode cX8_minutes 29 = .ok (.getfield 10, 3) := by decide +kernel
theorem dX8_minutes_32 : decode cX8_minutes 32 = .ok (.getfield 148, 3) := by decide +kernel
theorem dX8_minutes_35 : decode cX8_minutes 35 = .ok (.iload_n 1, 1) := by decide +kernel
theorem dX8_minutes_36 : decode cX8_minutes 36 = .ok (.iadd, 1) := by decide +kernel
theorem dX8_minutes_37 : decode cX8_minutes 37 = .ok (.invokestatic 315, 3) := by decide +kernel
theorem dX8_minutes_40 : decode cX8_minutes 40 = .ok (.istore_n 2, 1) := by decide +kernel
theorem dX8_minutes_41 : decode cX8_minutes 41 = .ok (.iconst 0, 1) := by decide +kernel
theorem dX8_minutes_42 : decode cX8_minutes 42 = .ok (.istore_n 3, 1) := by decide +kernel
theorem dX8_minutes_43 : decode cX8_minutes 43 = .ok (.aload_n 0, 1) := by decide +kernel
theorem dX8_minutes_44 : decode cX8_minutes 44 = .ok (.getfield 10, 3) := by decide +kernel
theorem dX8_minutes_47 : decode cX8_minutes 47 = .ok (.getfield 148, 3) := by decide +kernel
theorem dX8_minutes_50 : decode cX8_minutes 50 = .ok (.istore 4, 2) := by decide +kernel
theorem dX8_minutes_52 : decode cX8_minutes 52 = .ok (.iload 4, 2) := by decide +kernel
theorem dX8_minutes_54 : decode cX8_minutes 54 = .ok (.iload_n 2, 1) := by decide +kernel
theorem dX8_minutes_55 : decode cX8_minutes 55 = .ok (.if_icmp .ge 28, 3) := by decide +kernel
theorem dX8_minutes_58 : decode cX8_minutes 58 = .ok (.iload_n 3, 1) := by decide +kernel
theorem dX8_minutes_59 : decode cX8_minutes 59 = .ok (.aload_n 0, 1) := by decide +kernel
theorem dX8_minutes_60 : decode cX8_minutes 60 = .ok (.getfield 10, 3) := by decide +kernel
theorem dX8_minutes_63 : decode cX8_minutes 63 = .ok (.aload_n 0, 1) := by decide +kernel
theorem dX8_minutes_64 : decode cX8_minutes 64 = .ok (.getfield 10, 3) := by decide +kernel
theorem dX8_minutes_67 : decode cX8_minutes 67 = .ok (.iload 4, 2) := by decide +kernel
theorem dX8_minutes_69 : decode cX8_minutes 69 = .ok (.invokevirtual 286, 3) := by decide +kernel
theorem dX8_minutes_72 : decode cX8_minutes 72 = .ok (.invokevirtual 320, 3) := by decide +kernel
theorem dX8_minutes_75 : decode cX8_minutes 75 = .ok (.iadd, 1) := by decide +kernel
theorem dX8_minutes_76 : decode cX8_minutes 76 = .ok (.istore_n 3, 1) := by decide +kernel
theorem dX8_minutes_77 : decode cX8_minutes 77 = .ok (.iinc 4 1, 3) := by decide +kernel
theorem dX8_minutes_80 : decode cX8_minutes 80 = .ok (.goto (-28), 3) := by decide +kernel
theorem dX8_minutes_83 : decode cX8_minutes 83 = .ok (.iload_n 3, 1) := by decide +kernel
theorem dX8_minutes_84 : decode cX8_minutes 84 = .ok (.ireturn, 1) := by decide +kernel
theorem dX8_wouldErr_0 : decode cX8_wouldErr 0 = .ok (.aload_n 0, 1) := by decide +kernel
theorem dX8_wouldErr_1 : decode cX8_wouldErr 1 = .ok (.iload_n 1, 1) := by decide +kernel
theorem dX8_wouldErr_2 : decode cX8_wouldErr 2 = .ok (.invokevirtual 283, 3) := by decide +kernel
theorem dX8_wouldErr_5 : decode cX8_wouldErr 5 = .ok (.iconst 0, 1) := by decide +kernel
theorem dX8_wouldErr_6 : decode cX8_wouldErr 6 = .ok (.istore_n 2, 1) := by decide +kernel
theorem dX8_wouldErr_7 : decode cX8_wouldErr 7 = .ok (.iconst 0, 1) := by decide +kernel
theorem dX8_wouldErr_8 : decode cX8_wouldErr 8 = .ok (.istore_n 3, 1) := by decide +kernel
theorem dX8_wouldErr_9 : decode cX8_wouldErr 9 = .ok (.iload_n 3, 1) := by decide +kernel
theorem dX8_wouldErr_10 : decode cX8_wouldErr 10 = .ok (.aload_n 0, 1) := by decide +kernel
theorem dX8_wouldErr_11 : decode cX8_wouldErr 11 = .ok (.getfield 10, 3) := by decide +kernel
theorem dX8_wouldErr_14 : decode cX8_wouldErr 14 = .ok (.getfield 122, 3) := by decide +kernel
theorem dX8_wouldErr_17 : decode cX8_wouldErr 17 = .ok (.if_icmp .ge 35, 3) := by decide +kernel
theorem dX8_wouldErr_20 : decode cX8_wouldErr 20 = .ok (.aload_n 0, 1) := by decide +kernel
theorem dX8_wouldErr_21 : decode cX8_wouldErr 21 = .ok (.getfield 10, 3) := by decide +kernel
theorem dX8_wouldErr_24 : decode cX8_wouldErr 24 = .ok (.iload_n 3, 1) := by decide +kernel
theorem dX8_wouldErr_25 : decode cX8_wouldErr 25 = .ok (.iload_n 1, 1) := by decide +kernel
theorem dX8_wouldErr_26 : decode cX8_wouldErr 26 = .ok (.iconst 1, 1) := by decide +kernel
theorem dX8_wouldErr_27 : decode cX8_wouldErr 27 = .ok (.invokevirtual 323, 3) := by decide +kernel
theorem dX8_wouldErr_30 : decode cX8_wouldErr 30 = .ok (.aload_n 0, 1) := by decide +kernel
theorem dX8_wouldErr_31 : decode cX8_wouldErr 31 = .ok (.getfield 10, 3) := by decide +kernel
theorem dX8_wouldErr_34 : decode cX8_wouldErr 34 = .ok (.iload_n 3, 1) := by decide +kernel
theorem dX8_wouldErr_35 : decode cX8_wouldErr 35 = .ok (.iload_n 1, 1) := by decide +kernel
theorem dX8_wouldErr_36 : decode cX8_wouldErr 36 = .ok (.iconst 0, 1) := by decide +kernel
theorem dX8_wouldErr_37 : decode cX8_wouldErr 37 = .ok (.invokevirtual 323, 3) := by decide +kernel
theorem dX8_wouldErr_40 : decode cX8_wouldErr 40 = .ok (.if_icmp .eq 6, 3) := by decide +kernel
theorem dX8_wouldErr_43 : decode cX8_wouldErr 43 = .ok (.iinc 2 1, 3) := by decide +kernel
theorem dX8_wouldErr_46 : decode cX8_wouldErr 46 = .ok (.iinc 3 1, 3) := by decide +kernel
theorem dX8_wouldErr_49 : decode cX8_wouldErr 49 = .ok (.goto (-40), 3) := by decide +kernel
theorem dX8_wouldErr_52 : decode cX8_wouldErr 52 = .ok (.iload_n 2, 1) := by decide +kernel
theorem dX8_wouldErr_53 : decode cX8_wouldErr 53 = .ok (.ireturn, 1) := by decide +kernel
theorem dX8_place_0 : decode cX8_place 0 = .ok (.iload_n 1, 1) := by decide +kernel
theorem dX8_place_1 : decode cX8_place 1 = .ok (.iconst 1, 1) := by decide +kernel
theorem dX8_place_2 : decode cX8_place 2 = .ok (.if_icmp .lt 16, 3) := by decide +kernel
theorem dX8_place_5 : decode cX8_place 5 = .ok (.iload_n 1, 1) := by decide +kernel
theorem dX8_place_6 : decode cX8_place 6 = .ok (.bipush 8, 2) := by decide +kernel
theorem dX8_place_8 : decode cX8_place 8 = .ok (.if_icmp .gt 10, 3) := by decide +kernel
theorem dX8_place_11 : decode cX8_place 11 = .ok (.iload_n 2, 1) := by decide +kernel
theorem dX8_place_12 : decode cX8_place 12 = .ok (.invokestatic 327, 3) := by decide +kernel
theorem dX8_place_15 : decode cX8_place 15 = .ok (.ifCond .ne 14, 3) := by decide +kernel
theorem dX8_place_18 : decode cX8_place 18 = .ok (.new 96, 3) := by decide +kernel
theorem dX8_place_21 : decode cX8_place 21 = .ok (.dup, 1) := by decide +kernel
theorem dX8_place_22 : decode cX8_place 22 = .ok (.ldc_w 330, 3) := by decide +kernel
theorem dX8_place_25 : decode cX8_place 25 = .ok (.invokespecial 100, 3) := by decide +kernel
theorem dX8_place_28 : decode cX8_place 28 = .ok (.athrow, 1) := by decide +kernel
theorem dX8_place_29 : decode cX8_place 29 = .ok (.aload_n 0, 1) := by decide +kernel
theorem dX8_place_30 : decode cX8_place 30 = .ok (.getfield 22, 3) := by decide +kernel
theorem dX8_place_33 : decode cX8_place 33 = .ok (.iload_n 1, 1) := by decide +kernel
theorem dX8_place_34 : decode cX8_place 34 = .ok (.putfield 174, 3) := by decide +kernel
theorem dX8_place_37 : decode cX8_place 37 = .ok (.aload_n 0, 1) := by decide +kernel
theorem dX8_place_38 : decode cX8_place 38 = .ok (.getfield 22, 3) := by decide +kernel
theorem dX8_place_41 : decode cX8_place 41 = .ok (.iload_n 2, 1) := by decide +kernel
theorem dX8_place_42 : decode cX8_place 42 = .ok (.putfield 177, 3) := by decide +kernel
theorem dX8_place_45 : decode cX8_place 45 = .ok (.aload_n 0, 1) := by decide +kernel
theorem dX8_place_46 : decode cX8_place 46 = .ok (.getfield 10, 3) := by decide +kernel
theorem dX8_place_49 : decode cX8_place 49 = .ok (.getfield 148, 3) := by decide +kernel
theorem dX8_place_52 : decode cX8_place 52 = .ok (.istore_n 3, 1) := by decide +kernel
theorem dX8_place_53 : decode cX8_place 53 = .ok (.iload_n 3, 1) := by decide +kernel
theorem dX8_place_54 : decode cX8_place 54 = .ok (.aload_n 0, 1) := by decide +kernel
theorem dX8_place_55 : decode cX8_place 55 = .ok (.getfield 10, 3) := by decide +kernel
theorem dX8_place_58 : decode cX8_place 58 = .ok (.getfield 145, 3) := by decide +kernel
theorem dX8_place_61 : decode cX8_place 61 = .ok (.if_icmp .ge 77, 3) := by decide +kernel
theorem dX8_place_64 : decode cX8_place 64 = .ok (.iconst 0, 1) := by decide +kernel
theorem dX8_place_65 : decode cX8_place 65 = .ok (.istore 4, 2) := by decide +kernel
theorem dX8_place_67 : decode cX8_place 67 = .ok (.iload 4, 2) := by decide +kernel
theorem dX8_place_69 : decode cX8_place 69 = .ok (.aload_n 0, 1) := by decide +kernel
theorem dX8_place_70 : decode cX8_place 70 = .ok (.getfield 10, 3) := by decide +kernel
theorem dX8_place_73 : decode cX8_place 73 = .ok (.getfield 122, 3) := by decide +kernel
theorem dX8_place_76 : decode cX8_place 76 = .ok (.if_icmp .ge 56, 3) := by decide +kernel
theorem dX8_place_79 : decode cX8_place 79 = .ok (.aload_n 0, 1) := by decide +kernel
theorem dX8_place_80 : decode cX8_place 80 = .ok (.getfield 22, 3) := by decide +kernel
theorem dX8_place_83 : decode cX8_place 83 = .ok (.iload 4, 2) := by decide +kernel
theorem dX8_place_85 : decode cX8_place 85 = .ok (.iload_n 3, 1) := by decide +kernel
theorem dX8_place_86 : decode cX8_place 86 = .ok (.invokevirtual 332, 3) := by decide +kernel
theorem dX8_place_89 : decode cX8_place 89 = .ok (.aload_n 0, 1) := by decide +kernel
theorem dX8_place_90 : decode cX8_place 90 = .ok (.getfield 10, 3) := by decide +kernel
theorem dX8_place_93 : decode cX8_place 93 = .ok (.aload_n 0, 1) := by decide +kernel
theorem dX8_place_94 : decode cX8_place 94 = .ok (.getfield 22, 3) := by decide +kernel
theorem dX8_place_97 : decode cX8_place 97 = .ok (.invokevirtual 335, 3) := by decide +kernel
theorem dX8_place_100 : decode cX8_place 100 = .ok (.ifCond .eq 26, 3) := by decide +kernel
theorem dX8_place_103 : decode cX8_place 103 = .ok (.aload_n 0, 1) := by decide +kernel
theorem dX8_place_104 : decode cX8_place 104 = .ok (.getfield 10, 3) := by decide +kernel
theorem dX8_place_107 : decode cX8_place 107 = .ok (.aload_n 0, 1) := by decide +kernel
theorem dX8_place_108 : decode cX8_place 108 = .ok (.getfield 22, 3) := by decide +kernel
theorem dX8_place_111 : decode cX8_place 111 = .ok (.iconst (-1), 1) := by decide +kernel
theorem dX8_place_112 : decode cX8_place 112 = .ok (.invokevirtual 338, 3) := by decide +kernel
theorem dX8_place_115 : decode cX8_place 115 = .ok (.ifCond .eq 11, 3) := by decide +kernel
theorem dX8_place_118 : decode cX8_place 118 = .ok (.bipush 100, 2) := by decide +kernel
theorem dX8_place_120 : decode cX8_place 120 = .ok (.iload_n 3, 1) := by decide +kernel
theorem dX8_place_121 : decode cX8_place 121 = .ok (.imul, 1) := by decide +kernel
theorem dX8_place_122 : decode cX8_place 122 = .ok (.iload 4, 2) := by decide +kernel
theorem dX8_place_124 : decode cX8_place 124 = .ok (.iadd, 1) := by decide +kernel
theorem dX8_place_125 : decode cX8_place 125 = .ok (.ireturn, 1) := by decide +kernel
theorem dX8_place_126 : decode cX8_place 126 = .ok (.iinc 4 1, 3) := by decide +kernel
theorem dX8_place_129 : decode cX8_place 129 = .ok (.goto (-62), 3) := by decide +kernel
theorem dX8_place_132 : decode cX8_place 132 = .ok (.iinc 3 1, 3) := by decide +kernel
theorem dX8_place_135 : decode cX8_place 135 = .ok (.goto (-82), 3) := by decide +kernel
theorem dX8_place_138 : decode cX8_place 138 = .ok (.iconst (-1), 1) := by decide +kernel
theorem dX8_place_139 : decode cX8_place 139 = .ok (.ireturn, 1) := by decide +kernel
theorem dX8_meanJoins_0 : decode cX8_meanJoins 0 = .ok (.aload_n 0, 1) := by decide +kernel
theorem dX8_meanJoins_1 : decode cX8_meanJoins 1 = .ok (.getfield 10, 3) := by decide +kernel
theorem dX8_meanJoins_4 : decode cX8_meanJoins 4 = .ok (.getfield 148, 3) := by decide +kernel
theorem dX8_meanJoins_7 : decode cX8_meanJoins 7 = .ok (.ifCond .gt 5, 3) := by decide +kernel
theorem dX8_meanJoins_10 : decode cX8_meanJoins 10 = .ok (.dconst 0, 1) := by decide +kernel
theorem dX8_meanJoins_11 : decode cX8_meanJoins 11 = .ok (.dreturn, 1) := by decide +kernel
theorem dX8_meanJoins_12 : decode cX8_meanJoins 12 = .ok (.iconst 0, 1) := by decide +kernel
theorem dX8_meanJoins_13 : decode cX8_meanJoins 13 = .ok (.istore_n 1, 1) := by decide +kernel
theorem dX8_meanJoins_14 : decode cX8_meanJoins 14 = .ok (.iconst 0, 1) := by decide +kernel
theorem dX8_meanJoins_15 : decode cX8_meanJoins 15 = .ok (.istore_n 2, 1) := by decide +kernel
theorem dX8_meanJoins_16 : decode cX8_meanJoins 16 = .ok (.iload_n 2, 1) := by decide +kernel
theorem dX8_meanJoins_17 : decode cX8_meanJoins 17 = .ok (.aload_n 0, 1) := by decide +kernel
theorem dX8_meanJoins_18 : decode cX8_meanJoins 18 = .ok (.getfield 10, 3) := by decide +kernel
theorem dX8_meanJoins_21 : decode cX8_meanJoins 21 = .ok (.getfield 148, 3) := by decide +kernel
theorem dX8_meanJoins_24 : decode cX8_meanJoins 24 = .ok (.if_icmp .ge 20, 3) := by decide +kernel
theorem dX8_meanJoins_27 : decode cX8_meanJoins 27 = .ok (.iload_n 1, 1) := by decide +kernel
theorem dX8_meanJoins_28 : decode cX8_meanJoins 28 = .ok (.aload_n 0, 1) := by decide +kernel
theorem dX8_meanJoins_29 : decode cX8_meanJoins 29 = .ok (.getfield 10, 3) := by decide +kernel
theorem dX8_meanJoins_32 : decode cX8_meanJoins 32 = .ok (.iload_n 2, 1) := by decide +kernel
theorem dX8_meanJoins_33 : decode cX8_meanJoins 33 = .ok (.invokevirtual 286, 3) := by decide +kernel
theorem dX8_meanJoins_36 : decode cX8_meanJoins 36 = .ok (.iadd, 1) := by decide +kernel
theorem dX8_meanJoins_37 : decode cX8_meanJoins 37 = .ok (.istore_n 1, 1) := by decide +kernel
theorem dX8_meanJoins_38 : decode cX8_meanJoins 38 = .ok (.iinc 2 1, 3) := by decide +kernel
theorem dX8_meanJoins_41 : decode cX8_meanJoins 41 = .ok (.goto (-25), 3) := by decide +kernel
theorem dX8_meanJoins_44 : decode cX8_meanJoins 44 = .ok (.iload_n 1, 1) := by decide +kernel
theorem dX8_meanJoins_45 : decode cX8_meanJoins 45 = .ok (.i2d, 1) := by decide +kernel
theorem dX8_meanJoins_46 : decode cX8_meanJoins 46 = .ok (.aload_n 0, 1) := by decide +kernel
theorem dX8_meanJoins_47 : decode cX8_meanJoins 47 = .ok (.getfield 10, 3) := by decide +kernel
theorem dX8_meanJoins_50 : decode cX8_meanJoins 50 = .ok (.getfield 148, 3) := by decide +kernel
theorem dX8_meanJoins_53 : decode cX8_meanJoins 53 = .ok (.i2d, 1) := by decide +kernel
theorem dX8_meanJoins_54 : decode cX8_meanJoins 54 = .ok (.ddiv, 1) := by decide +kernel
theorem dX8_meanJoins_55 : decode cX8_meanJoins 55 = .ok (.dreturn, 1) := by decide +kernel
theorem dX8_pass_0 : decode cX8_pass 0 = .ok (.aload_n 0, 1) := by decide +kernel
theorem dX8_pass_1 : decode cX8_pass 1 = .ok (.iload_n 1, 1) := by decide +kernel
theorem dX8_pass_2 : decode cX8_pass 2 = .ok (.invokevirtual 245, 3) := by decide +kernel
theorem dX8_pass_5 : decode cX8_pass 5 = .ok (.aload_n 0, 1) := by decide +kernel
theorem dX8_pass_6 : decode cX8_pass 6 = .ok (.getfield 10, 3) := by decide +kernel
theorem dX8_pass_9 : decode cX8_pass 9 = .ok (.iload_n 2, 1) := by decide +kernel
theorem dX8_pass_10 : decode cX8_pass 10 = .ok (.invokevirtual 342, 3) := by decide +kernel
theorem dX8_pass_13 : decode cX8_pass 13 = .ok (.ifCond .eq 14, 3) := by decide +kernel
theorem dX8_pass_16 : decode cX8_pass 16 = .ok (.aload_n 0, 1) := by decide +kernel
theorem dX8_pass_17 : decode cX8_pass 17 = .ok (.getfield 10, 3) := by decide +kernel
theorem dX8_pass_20 : decode cX8_pass 20 = .ok (.iload_n 3, 1) := by decide +kernel
theorem dX8_pass_21 : decode cX8_pass 21 = .ok (.invokevirtual 342, 3) := by decide +kernel
theorem dX8_pass_24 : decode cX8_pass 24 = .ok (.ifCond .ne 14, 3) := by decide +kernel
theorem dX8_pass_27 : decode cX8_pass 27 = .ok (.new 205, 3) := by decide +kernel
theorem dX8_pass_30 : decode cX8_pass 30 = .ok (.dup, 1) := by decide +kernel
theorem dX8_pass_31 : decode cX8_pass 31 = .ok (.ldc_w 345, 3) := by decide +kernel
theorem dX8_pass_34 : decode cX8_pass 34 = .ok (.invokespecial 209, 3) := by decide +kernel
theorem dX8_pass_37 : decode cX8_pass 37 = .ok (.athrow, 1) := by decide +kernel
theorem dX8_pass_38 : decode cX8_pass 38 = .ok (.iload_n 3, 1) := by decide +kernel
theorem dX8_pass_39 : decode cX8_pass 39 = .ok (.iload_n 2, 1) := by decide +kernel
theorem dX8_pass_40 : decode cX8_pass 40 = .ok (.if_icmp .ge 14, 3) := by decide +kernel
theorem dX8_pass_43 : decode cX8_pass 43 = .ok (.new 96, 3) := by decide +kernel
theorem dX8_pass_46 : decode cX8_pass 46 = .ok (.dup, 1) := by decide +kernel
theorem dX8_pass_47 : decode cX8_pass 47 = .ok (.ldc_w 347, 3) := by decide +kernel
theorem dX8_pass_50 : decode cX8_pass 50 = .ok (.invokespecial 100, 3) := by decide +kernel
theorem dX8_pass_53 : decode cX8_pass 53 = .ok (.athrow, 1) := by decide +kernel
theorem dX8_pass_54 : decode cX8_pass 54 = .ok (.aload_n 0, 1) := by decide +kernel
theorem dX8_pass_55 : decode cX8_pass 55 = .ok (.iload_n 1, 1) := by decide +kernel
theorem dX8_pass_56 : decode cX8_pass 56 = .ok (.iload_n 2, 1) := by decide +kernel
theorem dX8_pass_57 : decode cX8_pass 57 = .ok (.iload_n 3, 1) := by decide +kernel
theorem dX8_pass_58 : decode cX8_pass 58 = .ok (.invokevirtual 349, 3) := by decide +kernel
theorem dX8_pass_61 : decode cX8_pass 61 = .ok (.ireturn, 1) := by decide +kernel
theorem dX8_beat_0 : decode cX8_beat 0 = .ok (.aload_n 0, 1) := by decide +kernel
theorem dX8_beat_1 : decode cX8_beat 1 = .ok (.invokevirtual 352, 3) := by decide +kernel
theorem dX8_beat_4 : decode cX8_beat 4 = .ok (.ireturn, 1) := by decide +kernel
theorem dX8_weave_0 : decode cX8_weave 0 = .ok (.iload_n 1, 1) := by decide +kernel
theorem dX8_weave_1 : decode cX8_weave 1 = .ok (.iconst 1, 1) := by decide +kernel
theorem dX8_weave_2 : decode cX8_weave 2 = .ok (.if_icmp .lt 9, 3) := by decide +kernel
theorem dX8_weave_5 : decode cX8_weave 5 = .ok (.iload_n 1, 1) := by decide +kernel
theorem dX8_weave_6 : decode cX8_weave 6 = .ok (.bipush 30, 2) := by decide +kernel
theorem dX8_weave_8 : decode cX8_weave 8 = .ok (.if_icmp .le 14, 3) := by decide +kernel
theorem dX8_weave_11 : decode cX8_weave 11 = .ok (.new 96, 3) := by decide +kernel
theorem dX8_weave_14 : decode cX8_weave 14 = .ok (.dup, 1) := by decide +kernel
theorem dX8_weave_15 : decode cX8_weave 15 = .ok (.ldc_w 313, 3) := by decide +kernel
theorem dX8_weave_18 : decode cX8_weave 18 = .ok (.invokespecial 100, 3) := by decide +kernel
theorem dX8_weave_21 : decode cX8_weave 21 = .ok (.athrow, 1) := by decide +kernel
theorem dX8_weave_22 : decode cX8_weave 22 = .ok (.aload_n 0, 1) := by decide +kernel
theorem dX8_weave_23 : decode cX8_weave 23 = .ok (.iload_n 1, 1) := by decide +kernel
theorem dX8_weave_24 : decode cX8_weave 24 = .ok (.iload_n 2, 1) := by decide +kernel
theorem dX8_weave_25 : decode cX8_weave 25 = .ok (.invokevirtual 355, 3) := by decide +kernel
theorem dX8_weave_28 : decode cX8_weave 28 = .ok (.ireturn, 1) := by decide +kernel
theorem dX8_unpick_0 : decode cX8_unpick 0 = .ok (.iload_n 1, 1) := by decide +kernel
theorem dX8_unpick_1 : decode cX8_unpick 1 = .ok (.ifCond .lt 9, 3) := by decide +kernel
theorem dX8_unpick_4 : decode cX8_unpick 4 = .ok (.iload_n 1, 1) := by decide +kernel
theorem dX8_unpick_5 : decode cX8_unpick 5 = .ok (.bipush 30, 2) := by decide +kernel
theorem dX8_unpick_7 : decode cX8_unpick 7 = .ok (.if_icmp .le 14, 3) := by decide +kernel
theorem dX8_unpick_10 : decode cX8_unpick 10 = .ok (.new 96, 3) := by decide +kernel
theorem dX8_unpick_13 : decode cX8_unpick 13 = .ok (.dup, 1) := by decide +kernel
theorem dX8_unpick_14 : decode cX8_unpick 14 = .ok (.ldc_w 313, 3) := by decide +kernel
theorem dX8_unpick_17 : decode cX8_unpick 17 = .ok (.invokespecial 100, 3) := by decide +kernel
theorem dX8_unpick_20 : decode cX8_unpick 20 = .ok (.athrow, 1) := by decide +kernel
theorem dX8_unpick_21 : decode cX8_unpick 21 = .ok (.aload_n 0, 1) := by decide +kernel
theorem dX8_unpick_22 : decode cX8_unpick 22 = .ok (.iload_n 1, 1) := by decide +kernel
theorem dX8_unpick_23 : decode cX8_unpick 23 = .ok (.invokevirtual 359, 3) := by decide +kernel
theorem dX8_unpick_26 : decode cX8_unpick 26 = .ok (.ireturn, 1) := by decide +kernel
theorem dX8_look_0 : decode cX8_look 0 = .ok (.aload_n 0, 1) := by decide +kernel
theorem dX8_look_1 : decode cX8_look 1 = .ok (.invokevirtual 362, 3) := by decide +kernel
theorem dX8_look_4 : decode cX8_look 4 = .ok (.ireturn, 1) := by decide +kernel
theorem dX8_add_0 : decode cX8_add 0 = .ok (.aload_n 0, 1) := by decide +kernel
theorem dX8_add_1 : decode cX8_add 1 = .ok (.invokevirtual 365, 3) := by decide +kernel
theorem dX8_add_4 : decode cX8_add 4 = .ok (.istore 5, 2) := by decide +kernel
theorem dX8_add_6 : decode cX8_add 6 = .ok (.iload 5, 2) := by decide +kernel
theorem dX8_add_8 : decode cX8_add 8 = .ok (.ifCond .eq 22, 3) := by decide +kernel
theorem dX8_add_11 : decode cX8_add 11 = .ok (.aload_n 0, 1) := by decide +kernel
theorem dX8_add_12 : decode cX8_add 12 = .ok (.getfield 22, 3) := by decide +kernel
theorem dX8_add_15 : decode cX8_add 15 = .ok (.aload_n 0, 1) := by decide +kernel
theorem dX8_add_16 : decode cX8_add 16 = .ok (.getfield 49, 3) := by decide +kernel
theorem dX8_add_19 : decode cX8_add 19 = .ok (.iconst 0, 1) := by decide +kernel
theorem dX8_add_20 : decode cX8_add 20 = .ok (.aload_n 0, 1) := by decide +kernel
theorem dX8_add_21 : decode cX8_add 21 = .ok (.getfield 49, 3) := by decide +kernel
theorem dX8_add_24 : decode cX8_add 24 = .ok (.invokevirtual 81, 3) := by decide +kernel
theorem dX8_add_27 : decode cX8_add 27 = .ok (.invokevirtual 368, 3) := by decide +kernel
theorem dX8_add_30 : decode cX8_add 30 = .ok (.aload_n 0, 1) := by decide +kernel
theorem dX8_add_31 : decode cX8_add 31 = .ok (.getfield 49, 3) := by decide +kernel
theorem dX8_add_34 : decode cX8_add 34 = .ok (.iconst 0, 1) := by decide +kernel
theorem dX8_add_35 : decode cX8_add 35 = .ok (.invokevirtual 101, 3) := by decide +kernel
theorem dX8_add_38 : decode cX8_add 38 = .ok (.iload 5, 2) := by decide +kernel
theorem dX8_add_40 : decode cX8_add 40 = .ok (.ifCond .eq 22, 3) := by decide +kernel
theorem dX8_add_43 : decode cX8_add 43 = .ok (.iload_n 1, 1) := by decide +kernel
theorem dX8_add_44 : decode cX8_add 44 = .ok (.invokestatic 327, 3) := by decide +kernel
theorem dX8_add_47 : decode cX8_add 47 = .ok (.ifCond .eq 15, 3) := by decide +kernel
theorem dX8_add_50 : decode cX8_add 50 = .ok (.iload 4, 2) := by decide +kernel
theorem dX8_add_52 : decode cX8_add 52 = .ok (.ifCond .le 10, 3) := by decide +kernel
theorem dX8_add_55 : decode cX8_add 55 = .ok (.iload 4, 2) := by decide +kernel
theorem dX8_add_57 : decode cX8_add 57 = .ok (.bipush 7, 2) := by decide +kernel
theorem dX8_add_59 : decode cX8_add 59 = .ok (.if_icmp .lt 14, 3) := by decide +kernel
theorem dX8_add_62 : decode cX8_add 62 = .ok (.new 96, 3) := by decide +kernel
theorem dX8_add_65 : decode cX8_add 65 = .ok (.dup, 1) := by decide +kernel
theorem dX8_add_66 : decode cX8_add 66 = .ok (.ldc_w 372, 3) := by decide +kernel
theorem dX8_add_69 : decode cX8_add 69 = .ok (.invokespecial 100, 3) := by decide +kernel
theorem dX8_add_72 : decode cX8_add 72 = .ok (.athrow, 1) := by decide +kernel
theorem dX8_add_73 : decode cX8_add 73 = .ok (.aload_n 0, 1) := by decide +kernel
theorem dX8_add_74 : decode cX8_add 74 = .ok (.getfield 22, 3) := by decide +kernel
theorem dX8_add_77 : decode cX8_add 77 = .ok (.iload_n 1, 1) := by decide +kernel
theorem dX8_add_78 : decode cX8_add 78 = .ok (.putfield 177, 3) := by decide +kernel
theorem dX8_add_81 : decode cX8_add 81 = .ok (.aload_n 0, 1) := by decide +kernel
theorem dX8_add_82 : decode cX8_add 82 = .ok (.getfield 22, 3) := by decide +kernel
theorem dX8_add_85 : decode cX8_add 85 = .ok (.iload 4, 2) := by decide +kernel
theorem dX8_add_87 : decode cX8_add 87 = .ok (.putfield 186, 3) := by decide +kernel
theorem dX8_add_90 : decode cX8_add 90 = .ok (.aload_n 0, 1) := by decide +kernel
theorem dX8_add_91 : decode cX8_add 91 = .ok (.getfield 22, 3) := by decide +kernel
theorem dX8_add_94 : decode cX8_add 94 = .ok (.iload_n 2, 1) := by decide +kernel
theorem dX8_add_95 : decode cX8_add 95 = .ok (.iload_n 3, 1) := by decide +kernel
theorem dX8_add_96 : decode cX8_add 96 = .ok (.invokevirtual 332, 3) := by decide +kernel
theorem dX8_add_99 : decode cX8_add 99 = .ok (.aload_n 0, 1) := by decide +kernel
theorem dX8_add_100 : decode cX8_add 100 = .ok (.getfield 10, 3) := by decide +kernel
theorem dX8_add_103 : decode cX8_add 103 = .ok (.getfield 118, 3) := by decide +kernel
theorem dX8_add_106 : decode cX8_add 106 = .ok (.bipush 8, 2) := by decide +kernel
theorem dX8_add_108 : decode cX8_add 108 = .ok (.if_icmp .lt 9, 3) := by decide +kernel
theorem dX8_add_111 : decode cX8_add 111 = .ok (.aload_n 0, 1) := by decide +kernel
theorem dX8_add_112 : decode cX8_add 112 = .ok (.iconst 4, 1) := by decide +kernel
theorem dX8_add_113 : decode cX8_add 113 = .ok (.invokevirtual 374, 3) := by decide +kernel
theorem dX8_add_116 : decode cX8_add 116 = .ok (.ireturn, 1) := by decide +kernel
theorem dX8_add_117 : decode cX8_add 117 = .ok (.aload_n 0, 1) := by decide +kernel
theorem dX8_add_118 : decode cX8_add 118 = .ok (.iconst (-1), 1) := by decide +kernel
theorem dX8_add_119 : decode cX8_add 119 = .ok (.invokevirtual 377, 3) := by decide +kernel
theorem dX8_add_122 : decode cX8_add 122 = .ok (.istore 6, 2) := by decide +kernel
theorem dX8_add_124 : decode cX8_add 124 = .ok (.iload 6, 2) := by decide +kernel
theorem dX8_add_126 : decode cX8_add 126 = .ok (.ifCond .eq 10, 3) := by decide +kernel
theorem dX8_add_129 : decode cX8_add 129 = .ok (.aload_n 0, 1) := by decide +kernel
theorem dX8_add_130 : decode cX8_add 130 = .ok (.iload 6, 2) := by decide +kernel
theorem dX8_add_132 : decode cX8_add 132 = .ok (.invokevirtual 374, 3) := by decide +kernel
theorem dX8_add_135 : decode cX8_add 135 = .ok (.ireturn, 1) := by decide +kernel
theorem dX8_add_136 : decode cX8_add 136 = .ok (.aload_n 0, 1) := by decide +kernel
theorem dX8_add_137 : decode cX8_add 137 = .ok (.invokevirtual 380, 3) := by decide +kernel
theorem dX8_add_140 : decode cX8_add 140 = .ok (.aload_n 0, 1) := by decide +kernel
theorem dX8_add_141 : decode cX8_add 141 = .ok (.getfield 10, 3) := by decide +kernel
theorem dX8_add_144 : decode cX8_add 144 = .ok (.aload_n 0, 1) := by decide +kernel
theorem dX8_add_145 : decode cX8_add 145 = .ok (.getfield 22, 3) := by decide +kernel
theorem dX8_add_148 : decode cX8_add 148 = .ok (.invokevirtual 383, 3) := by decide +kernel
theorem dX8_add_151 : decode cX8_add 151 = .ok (.aload_n 0, 1) := by decide +kernel
theorem dX8_add_152 : decode cX8_add 152 = .ok (.getfield 10, 3) := by decide +kernel
theorem dX8_add_155 : decode cX8_add 155 = .ok (.invokevirtual 108, 3) := by decide +kernel
theorem dX8_add_158 : decode cX8_add 158 = .ok (.aload_n 0, 1) := by decide +kernel
theorem dX8_add_159 : decode cX8_add 159 = .ok (.getfield 10, 3) := by decide +kernel
theorem dX8_add_162 : decode cX8_add 162 = .ok (.getfield 118, 3) := by decide +kernel
theorem dX8_add_165 : decode cX8_add 165 = .ok (.iconst 1, 1) := by decide +kernel
theorem dX8_add_166 : decode cX8_add 166 = .ok (.isub, 1) := by decide +kernel
theorem dX8_add_167 : decode cX8_add 167 = .ok (.ireturn, 1) := by decide +kernel
theorem dX8_drop_0 : decode cX8_drop 0 = .ok (.aload_n 0, 1) := by decide +kernel
theorem dX8_drop_1 : decode cX8_drop 1 = .ok (.iload_n 1, 1) := by decide +kernel
theorem dX8_drop_2 : decode cX8_drop 2 = .ok (.invokevirtual 167, 3) := by decide +kernel
theorem dX8_drop_5 : decode cX8_drop 5 = .ok (.aload_n 0, 1) := by decide +kernel
theorem dX8_drop_6 : decode cX8_drop 6 = .ok (.invokevirtual 380, 3) := by decide +kernel
theorem dX8_drop_9 : decode cX8_drop 9 = .ok (.aload_n 0, 1) := by decide +kernel
theorem dX8_drop_10 : decode cX8_drop 10 = .ok (.getfield 10, 3) := by decide +kernel
theorem dX8_drop_13 : decode cX8_drop 13 = .ok (.iload_n 1, 1) := by decide +kernel
theorem dX8_drop_14 : decode cX8_drop 14 = .ok (.invokevirtual 387, 3) := by decide +kernel
theorem dX8_drop_17 : decode cX8_drop 17 = .ok (.aload_n 0, 1) := by decide +kernel
theorem dX8_drop_18 : decode cX8_drop 18 = .ok (.getfield 10, 3) := by decide +kernel
theorem dX8_drop_21 : decode cX8_drop 21 = .ok (.invokevirtual 108, 3) := by decide +kernel
theorem dX8_drop_24 : decode cX8_drop 24 = .ok (.aload_n 0, 1) := by decide +kernel
theorem dX8_drop_25 : decode cX8_drop 25 = .ok (.getfield 10, 3) := by decide +kernel
theorem dX8_drop_28 : decode cX8_drop 28 = .ok (.getfield 118, 3) := by decide +kernel
theorem dX8_drop_31 : decode cX8_drop 31 = .ok (.ireturn, 1) := by decide +kernel
theorem dX8_move_0 : decode cX8_move 0 = .ok (.aload_n 0, 1) := by decide +kernel
theorem dX8_move_1 : decode cX8_move 1 = .ok (.iload_n 1, 1) := by decide +kernel
theorem dX8_move_2 : decode cX8_move 2 = .ok (.invokevirtual 167, 3) := by decide +kernel
theorem dX8_move_5 : decode cX8_move 5 = .ok (.aload_n 0, 1) := by decide +kernel
theorem dX8_move_6 : decode cX8_move 6 = .ok (.getfield 22, 3) := by decide +kernel
theorem dX8_move_9 : decode cX8_move 9 = .ok (.aload_n 0, 1) := by decide +kernel
theorem dX8_move_10 : decode cX8_move 10 = .ok (.getfield 10, 3) := by decide +kernel
theorem dX8_move_13 : decode cX8_move 13 = .ok (.iload_n 1, 1) := by decide +kernel
theorem dX8_move_14 : decode cX8_move 14 = .ok (.invokevirtual 170, 3) := by decide +kernel
theorem dX8_move_17 : decode cX8_move 17 = .ok (.invokevirtual 390, 3) := by decide +kernel
theorem dX8_move_20 : decode cX8_move 20 = .ok (.aload_n 0, 1) := by decide +kernel
theorem dX8_move_21 : decode cX8_move 21 = .ok (.getfield 22, 3) := by decide +kernel
theorem dX8_move_24 : decode cX8_move 24 = .ok (.iload_n 2, 1) := by decide +kernel
theorem dX8_move_25 : decode cX8_move 25 = .ok (.iload_n 3, 1) := by decide +kernel
theorem dX8_move_26 : decode cX8_move 26 = .ok (.invokevirtual 332, 3) := by decide +kernel
theorem dX8_move_29 : decode cX8_move 29 = .ok (.aload_n 0, 1) := by decide +kernel
theorem dX8_move_30 : decode cX8_move 30 = .ok (.iload_n 1, 1) := by decide +kernel
theorem dX8_move_31 : decode cX8_move 31 = .ok (.invokevirtual 377, 3) := by decide +kernel
theorem dX8_move_34 : decode cX8_move 34 = .ok (.istore 4, 2) := by decide +kernel
theorem dX8_move_36 : decode cX8_move 36 = .ok (.iload 4, 2) := by decide +kernel
theorem dX8_move_38 : decode cX8_move 38 = .ok (.ifCond .eq 10, 3) := by decide +kernel
theorem dX8_move_41 : decode cX8_move 41 = .ok (.aload_n 0, 1) := by decide +kernel
theorem dX8_move_42 : decode cX8_move 42 = .ok (.iload 4, 2) := by decide +kernel
theorem dX8_move_44 : decode cX8_move 44 = .ok (.invokevirtual 374, 3) := by decide +kernel
theorem dX8_move_47 : decode cX8_move 47 = .ok (.ireturn, 1) := by decide +kernel
theorem dX8_move_48 : decode cX8_move 48 = .ok (.aload_n 0, 1) := by decide +kernel
theorem dX8_move_49 : decode cX8_move 49 = .ok (.invokevirtual 380, 3) := by decide +kernel
theorem dX8_move_52 : decode cX8_move 52 = .ok (.aload_n 0, 1) := by decide +kernel
theorem dX8_move_53 : decode cX8_move 53 = .ok (.getfield 10, 3) := by decide +kernel
theorem dX8_move_56 : decode cX8_move 56 = .ok (.iload_n 1, 1) := by decide +kernel
theorem dX8_move_57 : decode cX8_move 57 = .ok (.invokevirtual 170, 3) := by decide +kernel
theorem dX8_move_60 : decode cX8_move 60 = .ok (.iload_n 2, 1) := by decide +kernel
theorem dX8_move_61 : decode cX8_move 61 = .ok (.iload_n 3, 1) := by decide +kernel
theorem dX8_move_62 : decode cX8_move 62 = .ok (.invokevirtual 332, 3) := by decide +kernel
theorem dX8_move_65 : decode cX8_move 65 = .ok (.aload_n 0, 1) := by decide +kernel
theorem dX8_move_66 : decode cX8_move 66 = .ok (.getfield 10, 3) := by decide +kernel
theorem dX8_move_69 : decode cX8_move 69 = .ok (.invokevirtual 108, 3) := by decide +kernel
theorem dX8_move_72 : decode cX8_move 72 = .ok (.aload_n 0, 1) := by decide +kernel
theorem dX8_move_73 : decode cX8_move 73 = .ok (.getfield 10, 3) := by decide +kernel
theorem dX8_move_76 : decode cX8_move 76 = .ok (.iconst 0, 1) := by decide +kernel
theorem dX8_move_77 : decode cX8_move 77 = .ok (.invokevirtual 261, 3) := by decide +kernel
theorem dX8_move_80 : decode cX8_move 80 = .ok (.ireturn, 1) := by decide +kernel
theorem dX8_setStock_0 : decode cX8_setStock 0 = .ok (.aload_n 0, 1) := by decide +kernel
theorem dX8_setStock_1 : decode cX8_setStock 1 = .ok (.iload_n 1, 1) := by decide +kernel
theorem dX8_setStock_2 : decode cX8_setStock 2 = .ok (.invokevirtual 245, 3) := by decide +kernel
theorem dX8_setStock_5 : decode cX8_setStock 5 = .ok (.iload_n 2, 1) := by decide +kernel
theorem dX8_setStock_6 : decode cX8_setStock 6 = .ok (.ifCond .lt 10, 3) := by decide +kernel
theorem dX8_setStock_9 : decode cX8_setStock 9 = .ok (.iload_n 2, 1) := by decide +kernel
theorem dX8_setStock_10 : decode cX8_setStock 10 = .ok (.sipush 9999, 3) := by decide +kernel
theorem dX8_setStock_13 : decode cX8_setStock 13 = .ok (.if_icmp .le 14, 3) := by decide +kernel
theorem dX8_setStock_16 : decode cX8_setStock 16 = .ok (.new 96, 3) := by decide +kernel
theorem dX8_setStock_19 : decode cX8_setStock 19 = .ok (.dup, 1) := by decide +kernel
theorem dX8_setStock_20 : decode cX8_setStock 20 = .ok (.ldc_w 392, 3) := by decide +kernel
theorem dX8_setStock_23 : decode cX8_setStock 23 = .ok (.invokespecial 100, 3) := by decide +kernel
theorem dX8_setStock_26 : decode cX8_setStock 26 = .ok (.athrow, 1) := by decide +kernel
theorem dX8_setStock_27 : decode cX8_setStock 27 = .ok (.aload_n 0, 1) := by decide +kernel
theorem dX8_setStock_28 : decode cX8_setStock 28 = .ok (.getfield 10, 3) := by decide +kernel
theorem dX8_setStock_31 : decode cX8_setStock 31 = .ok (.iload_n 1, 1) := by decide +kernel
theorem dX8_setStock_32 : decode cX8_setStock 32 = .ok (.invokevirtual 248, 3) := by decide +kernel
theorem dX8_setStock_35 : decode cX8_setStock 35 = .ok (.istore_n 3, 1) := by decide +kernel
theorem dX8_setStock_36 : decode cX8_setStock 36 = .ok (.aload_n 0, 1) := by decide +kernel
theorem dX8_setStock_37 : decode cX8_setStock 37 = .ok (.invokevirtual 380, 3) := by decide +kernel
theorem dX8_setStock_40 : decode cX8_setStock 40 = .ok (.aload_n 0, 1) := by decide +kernel
theorem dX8_setStock_41 : decode cX8_setStock 41 = .ok (.getfield 10, 3) := by decide +kernel
theorem dX8_setStock_44 : decode cX8_setStock 44 = .ok (.getfield 394, 3) := by decide +kernel
theorem dX8_setStock_47 : decode cX8_setStock 47 = .ok (.iload_n 1, 1) := by decide +kernel
theorem dX8_setStock_48 : decode cX8_setStock 48 = .ok (.iload_n 2, 1) := by decide +kernel
theorem dX8_setStock_49 : decode cX8_setStock 49 = .ok (.invokestatic 397, 3) := by decide +kernel
theorem dX8_setStock_52 : decode cX8_setStock 52 = .ok (.iload_n 3, 1) := by decide +kernel
theorem dX8_setStock_53 : decode cX8_setStock 53 = .ok (.ireturn, 1) := by decide +kernel
theorem dX8_setDelay_0 : decode cX8_setDelay 0 = .ok (.iload_n 1, 1) := by decide +kernel
theorem dX8_setDelay_1 : decode cX8_setDelay 1 = .ok (.ifCond .lt 9, 3) := by decide +kernel
theorem dX8_setDelay_4 : decode cX8_setDelay 4 = .ok (.iload_n 1, 1) := by decide +kernel
theorem dX8_setDelay_5 : decode cX8_setDelay 5 = .ok (.bipush 30, 2) := by decide +kernel
theorem dX8_setDelay_7 : decode cX8_setDelay 7 = .ok (.if_icmp .le 14, 3) := by decide +kernel
theorem dX8_setDelay_10 : decode cX8_setDelay 10 = .ok (.new 96, 3) := by decide +kernel
theorem dX8_setDelay_13 : decode cX8_setDelay 13 = .ok (.dup, 1) := by decide +kernel
theorem dX8_setDelay_14 : decode cX8_setDelay 14 = .ok (.ldc_w 401, 3) := by decide +kernel
theorem dX8_setDelay_17 : decode cX8_setDelay 17 = .ok (.invokespecial 100, 3) := by decide +kernel
theorem dX8_setDelay_20 : decode cX8_setDelay 20 = .ok (.athrow, 1) := by decide +kernel
theorem dX8_setDelay_21 : decode cX8_setDelay 21 = .ok (.aload_n 0, 1) := by decide +kernel
theorem dX8_setDelay_22 : decode cX8_setDelay 22 = .ok (.getfield 10, 3) := by decide +kernel
theorem dX8_setDelay_25 : decode cX8_setDelay 25 = .ok (.getfield 154, 3) := by decide +kernel
theorem dX8_setDelay_28 : decode cX8_setDelay 28 = .ok (.istore_n 2, 1) := by decide +kernel
theorem dX8_setDelay_29 : decode cX8_setDelay 29 = .ok (.iload_n 1, 1) := by decide +kernel
theorem dX8_setDelay_30 : decode cX8_setDelay 30 = .ok (.iload_n 2, 1) := by decide +kernel
theorem dX8_setDelay_31 : decode cX8_setDelay 31 = .ok (.if_icmp .ne 10, 3) := by decide +kernel
theorem dX8_setDelay_34 : decode cX8_setDelay 34 = .ok (.aload_n 0, 1) := by decide +kernel
theorem dX8_setDelay_35 : decode cX8_setDelay 35 = .ok (.bipush 7, 2) := by decide +kernel
theorem dX8_setDelay_37 : decode cX8_setDelay 37 = .ok (.invokevirtual 374, 3) := by decide +kernel
theorem dX8_setDelay_40 : decode cX8_setDelay 40 = .ok (.ireturn, 1) := by decide +kernel
theorem dX8_setDelay_41 : decode cX8_setDelay 41 = .ok (.aload_n 0, 1) := by decide +kernel
theorem dX8_setDelay_42 : decode cX8_setDelay 42 = .ok (.invokevirtual 380, 3) := by decide +kernel
theorem dX8_setDelay_45 : decode cX8_setDelay 45 = .ok (.aload_n 0, 1) := by decide +kernel
theorem dX8_setDelay_46 : decode cX8_setDelay 46 = .ok (.getfield 10, 3) := by decide +kernel
theorem dX8_setDelay_49 : decode cX8_setDelay 49 = .ok (.iload_n 1, 1) := by decide +kernel
theorem dX8_setDelay_50 : decode cX8_setDelay 50 = .ok (.putfield 154, 3) := by decide +kernel
theorem dX8_setDelay_53 : decode cX8_setDelay 53 = .ok (.iload_n 2, 1) := by decide +kernel
theorem dX8_setDelay_54 : decode cX8_setDelay 54 = .ok (.ireturn, 1) := by decide +kernel
theorem dX8_writeRow_0 : decode cX8_writeRow 0 = .ok (.aload_n 0, 1) := by decide +kernel
theorem dX8_writeRow_1 : decode cX8_writeRow 1 = .ok (.iload_n 1, 1) := by decide +kernel
theorem dX8_writeRow_2 : decode cX8_writeRow 2 = .ok (.invokevirtual 283, 3) := by decide +kernel
theorem dX8_writeRow_5 : decode cX8_writeRow 5 = .ok (.aload_n 0, 1) := by decide +kernel
theorem dX8_writeRow_6 : decode cX8_writeRow 6 = .ok (.getfield 53, 3) := by decide +kernel
theorem dX8_writeRow_9 : decode cX8_writeRow 9 = .ok (.iconst 0, 1) := by decide +kernel
theorem dX8_writeRow_10 : decode cX8_writeRow 10 = .ok (.invokevirtual 101, 3) := by decide +kernel
theorem dX8_writeRow_13 : decode cX8_writeRow 13 = .ok (.iconst 0, 1) := by decide +kernel
theorem dX8_writeRow_14 : decode cX8_writeRow 14 = .ok (.istore_n 3, 1) := by decide +kernel
theorem dX8_writeRow_15 : decode cX8_writeRow 15 = .ok (.iload_n 3, 1) := by decide +kernel
theorem dX8_writeRow_16 : decode cX8_writeRow 16 = .ok (.aload_n 0, 1) := by decide +kernel
theorem dX8_writeRow_17 : decode cX8_writeRow 17 = .ok (.getfield 10, 3) := by decide +kernel
theorem dX8_writeRow_20 : decode cX8_writeRow 20 = .ok (.getfield 122, 3) := by decide +kernel
theorem dX8_writeRow_23 : decode cX8_writeRow 23 = .ok (.if_icmp .ge 98, 3) := by decide +kernel
theorem dX8_writeRow_26 : decode cX8_writeRow 26 = .ok (.iload_n 2, 1) := by decide +kernel
theorem dX8_writeRow_27 : decode cX8_writeRow 27 = .ok (.ifCond .eq 14, 3) := by decide +kernel
theorem dX8_writeRow_30 : decode cX8_writeRow 30 = .ok (.aload_n 0, 1) := by decide +kernel
theorem dX8_writeRow_31 : decode cX8_writeRow 31 = .ok (.getfield 10, 3) := by decide +kernel
theorem dX8_writeRow_34 : decode cX8_writeRow 34 = .ok (.iload_n 3, 1) := by decide +kernel
theorem dX8_writeRow_35 : decode cX8_writeRow 35 = .ok (.invokevirtual 403, 3) := by decide +kernel
theorem dX8_writeRow_38 : decode cX8_writeRow 38 = .ok (.goto 4, 3) := by decide +kernel
theorem dX8_writeRow_41 : decode cX8_writeRow 41 = .ok (.iload_n 3, 1) := by decide +kernel
theorem dX8_writeRow_42 : decode cX8_writeRow 42 = .ok (.istore 4, 2) := by decide +kernel
theorem dX8_writeRow_44 : decode cX8_writeRow 44 = .ok (.aload_n 0, 1) := by decide +kernel
theorem dX8_writeRow_45 : decode cX8_writeRow 45 = .ok (.getfield 10, 3) := by decide +kernel
theorem dX8_writeRow_48 : decode cX8_writeRow 48 = .ok (.getfield 232, 3) := by decide +kernel
theorem dX8_writeRow_51 : decode cX8_writeRow 51 = .ok (.iload 4, 2) := by decide +kernel
theorem dX8_writeRow_53 : decode cX8_writeRow 53 = .ok (.iload_n 1, 1) := by decide +kernel
theorem dX8_writeRow_54 : decode cX8_writeRow 54 = .ok (.invokevirtual 236, 3) := by decide +kernel
theorem dX8_writeRow_57 : decode cX8_writeRow 57 = .ok (.istore 5, 2) := by decide +kernel
theorem dX8_writeRow_59 : decode cX8_writeRow 59 = .ok (.aload_n 0, 1) := by decide +kernel
theorem dX8_writeRow_60 : decode cX8_writeRow 60 = .ok (.getfield 53, 3) := by decide +kernel
theorem dX8_writeRow_63 : decode cX8_writeRow 63 = .ok (.iload 5, 2) := by decide +kernel
theorem dX8_writeRow_65 : decode cX8_writeRow 65 = .ok (.iconst (-1), 1) := by decide +kernel
theorem dX8_writeRow_66 : decode cX8_writeRow 66 = .ok (.if_icmp .ne 8, 3) := by decide +kernel
theorem dX8_writeRow_69 : decode cX8_writeRow 69 = .ok (.bipush 46, 2) := by decide +kernel
theorem dX8_writeRow_71 : decode cX8_writeRow 71 = .ok (.goto 8, 3) := by decide +kernel
theorem dX8_writeRow_74 : decode cX8_writeRow 74 = .ok (.bipush 48, 2) := by decide +kernel
theorem dX8_writeRow_76 : decode cX8_writeRow 76 = .ok (.iload 5, 2) := by decide +kernel
theorem dX8_writeRow_78 : decode cX8_writeRow 78 = .ok (.iadd, 1) := by decide +kernel
theorem dX8_writeRow_79 : decode cX8_writeRow 79 = .ok (.invokevirtual 406, 3) := by decide +kernel
theorem dX8_writeRow_82 : decode cX8_writeRow 82 = .ok (.aload_n 0, 1) := by decide +kernel
theorem dX8_writeRow_83 : decode cX8_writeRow 83 = .ok (.getfield 10, 3) := by decide +kernel
theorem dX8_writeRow_86 : decode cX8_writeRow 86 = .ok (.iload_n 1, 1) := by decide +kernel
theorem dX8_writeRow_87 : decode cX8_writeRow 87 = .ok (.invokevirtual 409, 3) := by decide +kernel
theorem dX8_writeRow_90 : decode cX8_writeRow 90 = .ok (.ifCond .eq 25, 3) := by decide +kernel
theorem dX8_writeRow_93 : decode cX8_writeRow 93 = .ok (.aload_n 0, 1) := by decide +kernel
theorem dX8_writeRow_94 : decode cX8_writeRow 94 = .ok (.getfield 10, 3) := by decide +kernel
theorem dX8_writeRow_97 : decode cX8_writeRow 97 = .ok (.iload 4, 2) := by decide +kernel
theorem dX8_writeRow_99 : decode cX8_writeRow 99 = .ok (.iload_n 1, 1) := by decide +kernel
theorem dX8_writeRow_100 : decode cX8_writeRow 100 = .ok (.invokevirtual 412, 3) := by decide +kernel
theorem dX8_writeRow_103 : decode cX8_writeRow 103 = .ok (.ifCond .eq 12, 3) := by decide +kernel
theorem dX8_writeRow_106 : decode cX8_writeRow 106 = .ok (.aload_n 0, 1) := by decide +kernel
theorem dX8_writeRow_107 : decode cX8_writeRow 107 = .ok (.getfield 53, 3) := by decide +kernel
theorem dX8_writeRow_110 : decode cX8_writeRow 110 = .ok (.bipush 33, 2) := by decide +kernel
theorem dX8_writeRow_112 : decode cX8_writeRow 112 = .ok (.invokevirtual 406, 3) := by decide +kernel
theorem dX8_writeRow_115 : decode cX8_writeRow 115 = .ok (.iinc 3 1, 3) := by decide +kernel
theorem dX8_writeRow_118 : decode cX8_writeRow 118 = .ok (.goto (-103), 3) := by decide +kernel
theorem dX8_writeRow_121 : decode cX8_writeRow 121 = .ok (.aload_n 0, 1) := by decide +kernel
theorem dX8_writeRow_122 : decode cX8_writeRow 122 = .ok (.getfield 53, 3) := by decide +kernel
theorem dX8_writeRow_125 : decode cX8_writeRow 125 = .ok (.invokevirtual 81, 3) := by decide +kernel
theorem dX8_writeRow_128 : decode cX8_writeRow 128 = .ok (.ireturn, 1) := by decide +kernel
theorem dX8_output_0 : decode cX8_output 0 = .ok (.aload_n 0, 1) := by decide +kernel
theorem dX8_output_1 : decode cX8_output 1 = .ok (.getfield 53, 3) := by decide +kernel
theorem dX8_output_4 : decode cX8_output 4 = .ok (.iload_n 1, 1) := by decide +kernel
theorem dX8_output_5 : decode cX8_output 5 = .ok (.invokevirtual 419, 3) := by decide +kernel
theorem dX8_output_8 : decode cX8_output 8 = .ok (.ireturn, 1) := by decide +kernel
theorem dX8_undo_0 : decode cX8_undo 0 = .ok (.aload_n 0, 1) := by decide +kernel
theorem dX8_undo_1 : decode cX8_undo 1 = .ok (.getfield 29, 3) := by decide +kernel
theorem dX8_undo_4 : decode cX8_undo 4 = .ok (.getfield 163, 3) := by decide +kernel
theorem dX8_undo_7 : decode cX8_undo 7 = .ok (.ifCond .ne 5, 3) := by decide +kernel
theorem dX8_undo_10 : decode cX8_undo 10 = .ok (.iconst (-1), 1) := by decide +kernel
theorem dX8_undo_11 : decode cX8_undo 11 = .ok (.ireturn, 1) := by decide +kernel
theorem dX8_undo_12 : decode cX8_undo 12 = .ok (.aload_n 0, 1) := by decide +kernel
theorem dX8_undo_13 : decode cX8_undo 13 = .ok (.getfield 10, 3) := by decide +kernel
theorem dX8_undo_16 : decode cX8_undo 16 = .ok (.aload_n 0, 1) := by decide +kernel
theorem dX8_undo_17 : decode cX8_undo 17 = .ok (.getfield 29, 3) := by decide +kernel
theorem dX8_undo_20 : decode cX8_undo 20 = .ok (.invokevirtual 422, 3) := by decide +kernel
theorem dX8_undo_23 : decode cX8_undo 23 = .ok (.invokevirtual 111, 3) := by decide +kernel
theorem dX8_undo_26 : decode cX8_undo 26 = .ok (.aload_n 0, 1) := by decide +kernel
theorem dX8_undo_27 : decode cX8_undo 27 = .ok (.getfield 29, 3) := by decide +kernel
theorem dX8_undo_30 : decode cX8_undo 30 = .ok (.getfield 163, 3) := by decide +kernel
theorem dX8_undo_33 : decode cX8_undo 33 = .ok (.ireturn, 1) := by decide +kernel
theorem dX8_at_0 : decode cX8_at 0 = .ok (.iload_n 1, 1) := by decide +kernel
theorem dX8_at_1 : decode cX8_at 1 = .ok (.ifCond .lt 15, 3) := by decide +kernel
theorem dX8_at_4 : decode cX8_at 4 = .ok (.iload_n 1, 1) := by decide +kernel
theorem dX8_at_5 : decode cX8_at 5 = .ok (.aload_n 0, 1) := by decide +kernel
theorem dX8_at_6 : decode cX8_at 6 = .ok (.arraylength, 1) := by decide +kernel
theorem dX8_at_7 : decode cX8_at 7 = .ok (.if_icmp .ge 9, 3) := by decide +kernel
theorem dX8_at_10 : decode cX8_at 10 = .ok (.aload_n 0, 1) := by decide +kernel
theorem dX8_at_11 : decode cX8_at 11 = .ok (.iload_n 1, 1) := by decide +kernel
theorem dX8_at_12 : decode cX8_at 12 = .ok (.iaload, 1) := by decide +kernel
theorem dX8_at_13 : decode cX8_at 13 = .ok (.goto 4, 3) := by decide +kernel
theorem dX8_at_16 : decode cX8_at 16 = .ok (.iconst 0, 1) := by decide +kernel
theorem dX8_at_17 : decode cX8_at 17 = .ok (.ireturn, 1) := by decide +kernel
theorem dX8_put_0 : decode cX8_put 0 = .ok (.iload_n 1, 1) := by decide +kernel
theorem dX8_put_1 : decode cX8_put 1 = .ok (.ifCond .lt 13, 3) := by decide +kernel
theorem dX8_put_4 : decode cX8_put 4 = .ok (.iload_n 1, 1) := by decide +kernel
theorem dX8_put_5 : decode cX8_put 5 = .ok (.aload_n 0, 1) := by decide +kernel
theorem dX8_put_6 : decode cX8_put 6 = .ok (.arraylength, 1) := by decide +kernel
theorem dX8_put_7 : decode cX8_put 7 = .ok (.if_icmp .ge 7, 3) := by decide +kernel
theorem dX8_put_10 : decode cX8_put 10 = .ok (.aload_n 0, 1) := by decide +kernel
theorem dX8_put_11 : decode cX8_put 11 = .ok (.iload_n 1, 1) := by decide +kernel
theorem dX8_put_12 : decode cX8_put 12 = .ok (.iload_n 2, 1) := by decide +kernel
theorem dX8_put_13 : decode cX8_put 13 = .ok (.iastore, 1) := by decide +kernel
theorem dX8_put_14 : decode cX8_put 14 = .ok (.return_, 1) := by decide +kernel
theorem dX8_isLetter_0 : decode cX8_isLetter 0 = .ok (.iload_n 0, 1) := by decide +kernel
theorem dX8_isLetter_1 : decode cX8_isLetter 1 = .ok (.bipush 97, 2) := by decide +kernel
theorem dX8_isLetter_3 : decode cX8_isLetter 3 = .ok (.if_icmp .lt 13, 3) := by decide +kernel
theorem dX8_isLetter_6 : decode cX8_isLetter 6 = .ok (.iload_n 0, 1) := by decide +kernel
theorem dX8_isLetter_7 : decode cX8_isLetter 7 = .ok (.bipush 122, 2) := by decide +kernel
theorem dX8_isLetter_9 : decode cX8_isLetter 9 = .ok (.if_icmp .gt 7, 3) := by decide +kernel
theorem dX8_isLetter_12 : decode cX8_isLetter 12 = .ok (.iconst 1, 1) := by decide +kernel
theorem dX8_isLetter_13 : decode cX8_isLetter 13 = .ok (.goto 4, 3) := by decide +kernel
theorem dX8_isLetter_16 : decode cX8_isLetter 16 = .ok (.iconst 0, 1) := by decide +kernel
theorem dX8_isLetter_17 : decode cX8_isLetter 17 = .ok (.ireturn, 1) := by decide +kernel
theorem dX8_isDigit_0 : decode cX8_isDigit 0 = .ok (.iload_n 0, 1) := by decide +kernel
theorem dX8_isDigit_1 : decode cX8_isDigit 1 = .ok (.bipush 48, 2) := by decide +kernel
theorem dX8_isDigit_3 : decode cX8_isDigit 3 = .ok (.if_icmp .lt 13, 3) := by decide +kernel
theorem dX8_isDigit_6 : decode cX8_isDigit 6 = .ok (.iload_n 0, 1) := by decide +kernel
theorem dX8_isDigit_7 : decode cX8_isDigit 7 = .ok (.bipush 57, 2) := by decide +kernel
theorem dX8_isDigit_9 : decode cX8_isDigit 9 = .ok (.if_icmp .gt 7, 3) := by decide +kernel
theorem dX8_isDigit_12 : decode cX8_isDigit 12 = .ok (.iconst 1, 1) := by decide +kernel
theorem dX8_isDigit_13 : decode cX8_isDigit 13 = .ok (.goto 4, 3) := by decide +kernel
theorem dX8_isDigit_16 : decode cX8_isDigit 16 = .ok (.iconst 0, 1) := by decide +kernel
theorem dX8_isDigit_17 : decode cX8_isDigit 17 = .ok (.ireturn, 1) := by decide +kernel
theorem dX8_isSide_0 : decode cX8_isSide 0 = .ok (.iload_n 0, 1) := by decide +kernel
theorem dX8_isSide_1 : decode cX8_isSide 1 = .ok (.ifCond .eq 8, 3) := by decide +kernel
theorem dX8_isSide_4 : decode cX8_isSide 4 = .ok (.iload_n 0, 1) := by decide +kernel
theorem dX8_isSide_5 : decode cX8_isSide 5 = .ok (.iconst 1, 1) := by decide +kernel
theorem dX8_isSide_6 : decode cX8_isSide 6 = .ok (.if_icmp .ne 7, 3) := by decide +kernel
theorem dX8_isSide_9 : decode cX8_isSide 9 = .ok (.iconst 1, 1) := by decide +kernel
theorem dX8_isSide_10 : decode cX8_isSide 10 = .ok (.goto 4, 3) := by decide +kernel
theorem dX8_isSide_13 : decode cX8_isSide 13 = .ok (.iconst 0, 1) := by decide +kernel
theorem dX8_isSide_14 : decode cX8_isSide 14 = .ok (.ireturn, 1) := by decide +kernel
theorem dX8_mirrored_0 : decode cX8_mirrored 0 = .ok (.iload_n 0, 1) := by decide +kernel
theorem dX8_mirrored_1 : decode cX8_mirrored 1 = .ok (.sipush 4681, 3) := by decide +kernel
theorem dX8_mirrored_4 : decode cX8_mirrored 4 = .ok (.iand, 1) := by decide +kernel
theorem dX8_mirrored_5 : decode cX8_mirrored 5 = .ok (.istore_n 1, 1) := by decide +kernel
theorem dX8_mirrored_6 : decode cX8_mirrored 6 = .ok (.iload_n 0, 1) := by decide +kernel
theorem dX8_mirrored_7 : decode cX8_mirrored 7 = .ok (.sipush 9362, 3) := by decide +kernel
theorem dX8_mirrored_10 : decode cX8_mirrored 10 = .ok (.iand, 1) := by decide +kernel
theorem dX8_mirrored_11 : decode cX8_mirrored 11 = .ok (.istore_n 2, 1) := by decide +kernel
theorem dX8_mirrored_12 : decode cX8_mirrored 12 = .ok (.iload_n 0, 1) := by decide +kernel
theorem dX8_mirrored_13 : decode cX8_mirrored 13 = .ok (.iconst 2, 1) := by decide +kernel
theorem dX8_mirrored_14 : decode cX8_mirrored 14 = .ok (.ishr, 1) := by decide +kernel
theorem dX8_mirrored_15 : decode cX8_mirrored 15 = .ok (.sipush 4681, 3) := by decide +kernel
theorem dX8_mirrored_18 : decode cX8_mirrored 18 = .ok (.iand, 1) := by decide +kernel
theorem dX8_mirrored_19 : decode cX8_mirrored 19 = .ok (.istore_n 3, 1) := by decide +kernel
theorem dX8_mirrored_20 : decode cX8_mirrored 20 = .ok (.iload_n 1, 1) := by decide +kernel
theorem dX8_mirrored_21 : decode cX8_mirrored 21 = .ok (.iconst 2, 1) := by decide +kernel
theorem dX8_mirrored_22 : decode cX8_mirrored 22 = .ok (.ishl, 1) := by decide +kernel
theorem dX8_mirrored_23 : decode cX8_mirrored 23 = .ok (.iload_n 2, 1) := by decide +kernel
theorem dX8_mirrored_24 : decode cX8_mirrored 24 = .ok (.ior, 1) := by decide +kernel
theorem dX8_mirrored_25 : decode cX8_mirrored 25 = .ok (.iload_n 3, 1) := by decide +kernel
theorem dX8_mirrored_26 : decode cX8_mirrored 26 = .ok (.ior, 1) := by decide +kernel
theorem dX8_mirrored_27 : decode cX8_mirrored 27 = .ok (.ireturn, 1) := by decide +kernel
theorem dX8_letterFor_0 : decode cX8_letterFor 0 = .ok (.iconst 0, 1) := by decide +kernel
theorem dX8_letterFor_1 : decode cX8_letterFor 1 = .ok (.istore_n 1, 1) := by decide +kernel
theorem dX8_letterFor_2 : decode cX8_letterFor 2 = .ok (.iload_n 1, 1) := by decide +kernel
theorem dX8_letterFor_3 : decode cX8_letterFor 3 = .ok (.getstatic 438, 3) := by decide +kernel
theorem dX8_letterFor_6 : decode cX8_letterFor 6 = .ok (.arraylength, 1) := by decide +kernel
theorem dX8_letterFor_7 : decode cX8_letterFor 7 = .ok (.if_icmp .ge 22, 3) := by decide +kernel
theorem dX8_letterFor_10 : decode cX8_letterFor 10 = .ok (.getstatic 438, 3) := by decide +kernel
theorem dX8_letterFor_13 : decode cX8_letterFor 13 = .ok (.iload_n 1, 1) := by decide +kernel
theorem dX8_letterFor_14 : decode cX8_letterFor 14 = .ok (.iaload, 1) := by decide +kernel
theorem dX8_letterFor_15 : decode cX8_letterFor 15 = .ok (.iload_n 0, 1) := by decide +kernel
theorem dX8_letterFor_16 : decode cX8_letterFor 16 = .ok (.if_icmp .ne 7, 3) := by decide +kernel
theorem dX8_letterFor_19 : decode cX8_letterFor 19 = .ok (.iload_n 1, 1) := by decide +kernel
theorem dX8_letterFor_20 : decode cX8_letterFor 20 = .ok (.iconst 1, 1) := by decide +kernel
theorem dX8_letterFor_21 : decode cX8_letterFor 21 = .ok (.iadd, 1) := by decide +kernel
theorem dX8_letterFor_22 : decode cX8_letterFor 22 = .ok (.ireturn, 1) := by decide +kernel
theorem dX8_letterFor_23 : decode cX8_letterFor 23 = .ok (.iinc 1 1, 3) := by decide +kernel
theorem dX8_letterFor_26 : decode cX8_letterFor 26 = .ok (.goto (-24), 3) := by decide +kernel
theorem dX8_letterFor_29 : decode cX8_letterFor 29 = .ok (.iconst 0, 1) := by decide +kernel
theorem dX8_letterFor_30 : decode cX8_letterFor 30 = .ok (.ireturn, 1) := by decide +kernel
theorem dX8_checkCaption_0 : decode cX8_checkCaption 0 = .ok (.iload_n 1, 1) := by decide +kernel
theorem dX8_checkCaption_1 : decode cX8_checkCaption 1 = .ok (.ifCond .lt 14, 3) := by decide +kernel
theorem dX8_checkCaption_4 : decode cX8_checkCaption 4 = .ok (.iload_n 1, 1) := by decide +kernel
theorem dX8_checkCaption_5 : decode cX8_checkCaption 5 = .ok (.aload_n 0, 1) := by decide +kernel
theorem dX8_checkCaption_6 : decode cX8_checkCaption 6 = .ok (.getfield 10, 3) := by decide +kernel
theorem dX8_checkCaption_9 : decode cX8_checkCaption 9 = .ok (.getfield 118, 3) := by decide +kernel
theorem dX8_checkCaption_12 : decode cX8_checkCaption 12 = .ok (.if_icmp .lt 14, 3) := by decide +kernel
theorem dX8_checkCaption_15 : decode cX8_checkCaption 15 = .ok (.new 205, 3) := by decide +kernel
theorem dX8_checkCaption_18 : decode cX8_checkCaption 18 = .ok (.dup, 1) := by decide +kernel
theorem dX8_checkCaption_19 : decode cX8_checkCaption 19 = .ok (.ldc_w 441, 3) := by decide +kernel
theorem dX8_checkCaption_22 : decode cX8_checkCaption 22 = .ok (.invokespecial 209, 3) := by decide +kernel
theorem dX8_checkCaption_25 : decode cX8_checkCaption 25 = .ok (.athrow, 1) := by decide +kernel
theorem dX8_checkCaption_26 : decode cX8_checkCaption 26 = .ok (.return_, 1) := by decide +kernel
theorem dX8_checkCell_0 : decode cX8_checkCell 0 = .ok (.aload_n 0, 1) := by decide +kernel
theorem dX8_checkCell_1 : decode cX8_checkCell 1 = .ok (.getfield 10, 3) := by decide +kernel
theorem dX8_checkCell_4 : decode cX8_checkCell 4 = .ok (.iload_n 1, 1) := by decide +kernel
theorem dX8_checkCell_5 : decode cX8_checkCell 5 = .ok (.invokevirtual 342, 3) := by decide +kernel
theorem dX8_checkCell_8 : decode cX8_checkCell 8 = .ok (.ifCond .eq 14, 3) := by decide +kernel
theorem dX8_checkCell_11 : decode cX8_checkCell 11 = .ok (.aload_n 0, 1) := by decide +kernel
theorem dX8_checkCell_12 : decode cX8_checkCell 12 = .ok (.getfield 10, 3) := by decide +kernel
theorem dX8_checkCell_15 : decode cX8_checkCell 15 = .ok (.iload_n 2, 1) := by decide +kernel
theorem dX8_checkCell_16 : decode cX8_checkCell 16 = .ok (.invokevirtual 443, 3) := by decide +kernel
theorem dX8_checkCell_19 : decode cX8_checkCell 19 = .ok (.ifCond .ne 14, 3) := by decide +kernel
theorem dX8_checkCell_22 : decode cX8_checkCell 22 = .ok (.new 205, 3) := by decide +kernel
theorem dX8_checkCell_25 : decode cX8_checkCell 25 = .ok (.dup, 1) := by decide +kernel
theorem dX8_checkCell_26 : decode cX8_checkCell 26 = .ok (.ldc_w 446, 3) := by decide +kernel
theorem dX8_checkCell_29 : decode cX8_checkCell 29 = .ok (.invokespecial 209, 3) := by decide +kernel
theorem dX8_checkCell_32 : decode cX8_checkCell 32 = .ok (.athrow, 1) := by decide +kernel
theorem dX8_checkCell_33 : decode cX8_checkCell 33 = .ok (.return_, 1) := by decide +kernel
theorem dX8_checkRow_0 : decode cX8_checkRow 0 = .ok (.aload_n 0, 1) := by decide +kernel
theorem dX8_checkRow_1 : decode cX8_checkRow 1 = .ok (.getfield 10, 3) := by decide +kernel
theorem dX8_checkRow_4 : decode cX8_checkRow 4 = .ok (.iload_n 1, 1) := by decide +kernel
theorem dX8_checkRow_5 : decode cX8_checkRow 5 = .ok (.invokevirtual 443, 3) := by decide +kernel
theorem dX8_checkRow_8 : decode cX8_checkRow 8 = .ok (.ifCond .ne 14, 3) := by decide +kernel
theorem dX8_checkRow_11 : decode cX8_checkRow 11 = .ok (.new 205, 3) := by decide +kernel
theorem dX8_checkRow_14 : decode cX8_checkRow 14 = .ok (.dup, 1) := by decide +kernel
theorem dX8_checkRow_15 : decode cX8_checkRow 15 = .ok (.ldc_w 448, 3) := by decide +kernel
theorem dX8_checkRow_18 : decode cX8_checkRow 18 = .ok (.invokespecial 209, 3) := by decide +kernel
theorem dX8_checkRow_21 : decode cX8_checkRow 21 = .ok (.athrow, 1) := by decide +kernel
theorem dX8_checkRow_22 : decode cX8_checkRow 22 = .ok (.return_, 1) := by decide +kernel
theorem dX8_checkColour_0 : decode cX8_checkColour 0 = .ok (.iload_n 1, 1) := by decide +kernel
theorem dX8_checkColour_1 : decode cX8_checkColour 1 = .ok (.ifCond .lt 9, 3) := by decide +kernel
theorem dX8_checkColour_4 : decode cX8_checkColour 4 = .ok (.iload_n 1, 1) := by decide +kernel
theorem dX8_checkColour_5 : decode cX8_checkColour 5 = .ok (.bipush 7, 2) := by decide +kernel
theorem dX8_checkColour_7 : decode cX8_checkColour 7 = .ok (.if_icmp .lt 14, 3) := by decide +kernel
theorem dX8_checkColour_10 : decode cX8_checkColour 10 = .ok (.new 205, 3) := by decide +kernel
theorem dX8_checkColour_13 : decode cX8_checkColour 13 = .ok (.dup, 1) := by decide +kernel
theorem dX8_checkColour_14 : decode cX8_checkColour 14 = .ok (.ldc_w 450, 3) := by decide +kernel
theorem dX8_checkColour_17 : decode cX8_checkColour 17 = .ok (.invokespecial 209, 3) := by decide +kernel
theorem dX8_checkColour_20 : decode cX8_checkColour 20 = .ok (.athrow, 1) := by decide +kernel
theorem dX8_checkColour_21 : decode cX8_checkColour 21 = .ok (.return_, 1) := by decide +kernel
theorem dX8_appendFour_0 : decode cX8_appendFour 0 = .ok (.bipush 24, 2) := by decide +kernel
theorem dX8_appendFour_2 : decode cX8_appendFour 2 = .ok (.istore_n 2, 1) := by decide +kernel
theorem dX8_appendFour_3 : decode cX8_appendFour 3 = .ok (.iload_n 2, 1) := by decide +kernel
theorem dX8_appendFour_4 : decode cX8_appendFour 4 = .ok (.ifCond .lt 23, 3) := by decide +kernel
theorem dX8_appendFour_7 : decode cX8_appendFour 7 = .ok (.aload_n 0, 1) := by decide +kernel
theorem dX8_appendFour_8 : decode cX8_appendFour 8 = .ok (.getfield 49, 3) := by decide +kernel
theorem dX8_appendFour_11 : decode cX8_appendFour 11 = .ok (.iload_n 1, 1) := by decide +kernel
theorem dX8_appendFour_12 : decode cX8_appendFour 12 = .ok (.iload_n 2, 1) := by decide +kernel
theorem dX8_appendFour_13 : decode cX8_appendFour 13 = .ok (.iushr, 1) := by decide +kernel
theorem dX8_appendFour_14 : decode cX8_appendFour 14 = .ok (.sipush 255, 3) := by decide +kernel
theorem dX8_appendFour_17 : decode cX8_appendFour 17 = .ok (.iand, 1) := by decide +kernel
theorem dX8_appendFour_18 : decode cX8_appendFour 18 = .ok (.invokevirtual 406, 3) := by decide +kernel
theorem dX8_appendFour_21 : decode cX8_appendFour 21 = .ok (.iinc 2 (-8), 3) := by decide +kernel
theorem dX8_appendFour_24 : decode cX8_appendFour 24 = .ok (.goto (-21), 3) := by decide +kernel
theorem dX8_appendFour_27 : decode cX8_appendFour 27 = .ok (.return_, 1) := by decide +kernel
theorem dX8_isWordOfText_0 : decode cX8_isWordOfText 0 = .ok (.aload_n 0, 1) := by decide +kernel
theorem dX8_isWordOfText_1 : decode cX8_isWordOfText 1 = .ok (.getfield 49, 3) := by decide +kernel
theorem dX8_isWordOfText_4 : decode cX8_isWordOfText 4 = .ok (.invokevirtual 81, 3) := by decide +kernel
theorem dX8_isWordOfText_7 : decode cX8_isWordOfText 7 = .ok (.iconst 1, 1) := by decide +kernel
theorem dX8_isWordOfText_8 : decode cX8_isWordOfText 8 = .ok (.if_icmp .lt 15, 3) := by decide +kernel
theorem dX8_isWordOfText_11 : decode cX8_isWordOfText 11 = .ok (.aload_n 0, 1) := by decide +kernel
theorem dX8_isWordOfText_12 : decode cX8_isWordOfText 12 = .ok (.getfield 49, 3) := by decide +kernel
theorem dX8_isWordOfText_15 : decode cX8_isWordOfText 15 = .ok (.invokevirtual 81, 3) := by decide +kernel
theorem dX8_isWordOfText_18 : decode cX8_isWordOfText 18 = .ok (.bipush 8, 2) := by decide +kernel
theorem dX8_isWordOfText_20 : decode cX8_isWordOfText 20 = .ok (.if_icmp .le 5, 3) := by decide +kernel
theorem dX8_isWordOfText_23 : decode cX8_isWordOfText 23 = .ok (.iconst 0, 1) := by decide +kernel
theorem dX8_isWordOfText_24 : decode cX8_isWordOfText 24 = .ok (.ireturn, 1) := by decide +kernel
theorem dX8_isWordOfText_25 : decode cX8_isWordOfText 25 = .ok (.iconst 0, 1) := by decide +kernel
theorem dX8_isWordOfText_26 : decode cX8_isWordOfText 26 = .ok (.istore_n 1, 1) := by decide +kernel
theorem dX8_isWordOfText_27 : decode cX8_isWordOfText 27 = .ok (.iload_n 1, 1) := by decide +kernel
theorem dX8_isWordOfText_28 : decode cX8_isWordOfText 28 = .ok (.aload_n 0, 1) := by decide +kernel
theorem dX8_isWordOfText_29 : decode cX8_isWordOfText 29 = .ok (.getfield 49, 3) := by decide +kernel
theorem dX8_isWordOfText_32 : decode cX8_isWordOfText 32 = .ok (.invokevirtual 81, 3) := by decide +kernel
theorem dX8_isWordOfText_35 : decode cX8_isWordOfText 35 = .ok (.if_icmp .ge 25, 3) := by decide +kernel
theorem dX8_isWordOfText_38 : decode cX8_isWordOfText 38 = .ok (.aload_n 0, 1) := by decide +kernel
theorem dX8_isWordOfText_39 : decode cX8_isWordOfText 39 = .ok (.getfield 49, 3) := by decide +kernel
theorem dX8_isWordOfText_42 : decode cX8_isWordOfText 42 = .ok (.iload_n 1, 1) := by decide +kernel
theorem dX8_isWordOfText_43 : decode cX8_isWordOfText 43 = .ok (.invokevirtual 419, 3) := by decide +kernel
theorem dX8_isWordOfText_46 : decode cX8_isWordOfText 46 = .ok (.invokestatic 454, 3) := by decide +kernel
theorem dX8_isWordOfText_49 : decode cX8_isWordOfText 49 = .ok (.ifCond .ne 5, 3) := by decide +kernel
theorem dX8_isWordOfText_52 : decode cX8_isWordOfText 52 = .ok (.iconst 0, 1) := by decide +kernel
theorem dX8_isWordOfText_53 : decode cX8_isWordOfText 53 = .ok (.ireturn, 1) := by decide +kernel
theorem dX8_isWordOfText_54 : decode cX8_isWordOfText 54 = .ok (.iinc 1 1, 3) := by decide +kernel
theorem dX8_isWordOfText_57 : decode cX8_isWordOfText 57 = .ok (.goto (-30), 3) := by decide +kernel
theorem dX8_isWordOfText_60 : decode cX8_isWordOfText 60 = .ok (.iconst 1, 1) := by decide +kernel
theorem dX8_isWordOfText_61 : decode cX8_isWordOfText 61 = .ok (.ireturn, 1) := by decide +kernel
theorem dX8_reasonAgainstBox_0 : decode cX8_reasonAgainstBox 0 = .ok (.aload_n 0, 1) := by decide +kernel
theorem dX8_reasonAgainstBox_1 : decode cX8_reasonAgainstBox 1 = .ok (.getfield 10, 3) := by decide +kernel
theorem dX8_reasonAgainstBox_4 : decode cX8_reasonAgainstBox 4 = .ok (.aload_n 0, 1) := by decide +kernel
theorem dX8_reasonAgainstBox_5 : decode cX8_reasonAgainstBox 5 = .ok (.getfield 22, 3) := by decide +kernel
theorem dX8_reasonAgainstBox_8 : decode cX8_reasonAgainstBox 8 = .ok (.invokevirtual 335, 3) := by decide +kernel
theorem dX8_reasonAgainstBox_11 : decode cX8_reasonAgainstBox 11 = .ok (.ifCond .ne 5, 3) := by decide +kernel
theorem dX8_reasonAgainstBox_14 : decode cX8_reasonAgainstBox 14 = .ok (.iconst 5, 1) := by decide +kernel
theorem dX8_reasonAgainstBox_15 : decode cX8_reasonAgainstBox 15 = .ok (.ireturn, 1) := by decide +kernel
theorem dX8_reasonAgainstBox_16 : decode cX8_reasonAgainstBox 16 = .ok (.aload_n 0, 1) := by decide +kernel
theorem dX8_reasonAgainstBox_17 : decode cX8_reasonAgainstBox 17 = .ok (.getfield 10, 3) := by decide +kernel
theorem dX8_reasonAgainstBox_20 : decode cX8_reasonAgainstBox 20 = .ok (.aload_n 0, 1) := by decide +kernel
theorem dX8_reasonAgainstBox_21 : decode cX8_reasonAgainstBox 21 = .ok (.getfield 22, 3) := by decide +kernel
theorem dX8_reasonAgainstBox_24 : decode cX8_reasonAgainstBox 24 = .ok (.iload_n 1, 1) := by decide +kernel
theorem dX8_reasonAgainstBox_25 : decode cX8_reasonAgainstBox 25 = .ok (.invokevirtual 338, 3) := by decide +kernel
theorem dX8_reasonAgainstBox_28 : decode cX8_reasonAgainstBox 28 = .ok (.ifCond .eq 7, 3) := by decide +kernel
theorem dX8_reasonAgainstBox_31 : decode cX8_reasonAgainstBox 31 = .ok (.iconst 0, 1) := by decide +kernel
theorem dX8_reasonAgainstBox_32 : decode cX8_reasonAgainstBox 32 = .ok (.goto 5, 3) := by decide +kernel
theorem dX8_reasonAgainstBox_35 : decode cX8_reasonAgainstBox 35 = .ok (.bipush 6, 2) := by decide +kernel
theorem dX8_reasonAgainstBox_37 : decode cX8_reasonAgainstBox 37 = .ok (.ireturn, 1) := by decide +kernel
theorem dX8_refuse_0 : decode cX8_refuse 0 = .ok (.aload_n 0, 1) := by decide +kernel
theorem dX8_refuse_1 : decode cX8_refuse 1 = .ok (.getfield 39, 3) := by decide +kernel
theorem dX8_refuse_4 : decode cX8_refuse 4 = .ok (.iload_n 1, 1) := by decide +kernel
theorem dX8_refuse_5 : decode cX8_refuse 5 = .ok (.aload_n 0, 1) := by decide +kernel
theorem dX8_refuse_6 : decode cX8_refuse 6 = .ok (.getfield 39, 3) := by decide +kernel
theorem dX8_refuse_9 : decode cX8_refuse 9 = .ok (.iload_n 1, 1) := by decide +kernel
theorem dX8_refuse_10 : decode cX8_refuse 10 = .ok (.invokestatic 295, 3) := by decide +kernel
theorem dX8_refuse_13 : decode cX8_refuse 13 = .ok (.iconst 1, 1) := by decide +kernel
theorem dX8_refuse_14 : decode cX8_refuse 14 = .ok (.iadd, 1) := by decide +kernel
theorem dX8_refuse_15 : decode cX8_refuse 15 = .ok (.invokestatic 397, 3) := by decide +kernel
theorem dX8_refuse_18 : decode cX8_refuse 18 = .ok (.iload_n 1, 1) := by decide +kernel
theorem dX8_refuse_19 : decode cX8_refuse 19 = .ok (.ineg, 1) := by decide +kernel
theorem dX8_refuse_20 : decode cX8_refuse 20 = .ok (.ireturn, 1) := by decide +kernel
theorem dX8_beginAct_0 : decode cX8_beginAct 0 = .ok (.aload_n 0, 1) := by decide +kernel
theorem dX8_beginAct_1 : decode cX8_beginAct 1 = .ok (.getfield 39, 3) := by decide +kernel
theorem dX8_beginAct_4 : decode cX8_beginAct 4 = .ok (.iconst 0, 1) := by decide +kernel
theorem dX8_beginAct_5 : decode cX8_beginAct 5 = .ok (.aload_n 0, 1) := by decide +kernel
theorem dX8_beginAct_6 : decode cX8_beginAct 6 = .ok (.getfield 39, 3) := by decide +kernel
theorem dX8_beginAct_9 : decode cX8_beginAct 9 = .ok (.iconst 0, 1) := by decide +kernel
theorem dX8_beginAct_10 : decode cX8_beginAct 10 = .ok (.invokestatic 295, 3) := by decide +kernel
theorem dX8_beginAct_13 : decode cX8_beginAct 13 = .ok (.iconst 1, 1) := by decide +kernel
theorem dX8_beginAct_14 : decode cX8_beginAct 14 = .ok (.iadd, 1) := by decide +kernel
theorem dX8_beginAct_15 : decode cX8_beginAct 15 = .ok (.invokestatic 397, 3) := by decide +kernel
theorem dX8_beginAct_18 : decode cX8_beginAct 18 = .ok (.aload_n 0, 1) := by decide +kernel
theorem dX8_beginAct_19 : decode cX8_beginAct 19 = .ok (.getfield 29, 3) := by decide +kernel
theorem dX8_beginAct_22 : decode cX8_beginAct 22 = .ok (.aload_n 0, 1) := by decide +kernel
theorem dX8_beginAct_23 : decode cX8_beginAct 23 = .ok (.getfield 10, 3) := by decide +kernel
theorem dX8_beginAct_26 : decode cX8_beginAct 26 = .ok (.invokevirtual 457, 3) := by decide +kernel
theorem dX8_beginAct_29 : decode cX8_beginAct 29 = .ok (.return_, 1) := by decide +kernel
theorem dX8_doCommand_0 : decode cX8_doCommand 0 = .ok (.aload_n 0, 1) := by decide +kernel
theorem dX8_doCommand_1 : decode cX8_doCommand 1 = .ok (.getfield 77, 3) := by decide +kernel
theorem dX8_doCommand_4 : decode cX8_doCommand 4 = .ok (.iconst 0, 1) := by decide +kernel
theorem dX8_doCommand_5 : decode cX8_doCommand 5 = .ok (.invokevirtual 460, 3) := by decide +kernel
theorem dX8_doCommand_8 : decode cX8_doCommand 8 = .ok (.istore_n 1, 1) := by decide +kernel
theorem dX8_doCommand_9 : decode cX8_doCommand 9 = .ok (.aload_n 0, 1) := by decide +kernel
theorem dX8_doCommand_10 : decode cX8_doCommand 10 = .ok (.getfield 77, 3) := by decide +kernel
theorem dX8_doCommand_13 : decode cX8_doCommand 13 = .ok (.invokevirtual 463, 3) := by decide +kernel
theorem dX8_doCommand_16 : decode cX8_doCommand 16 = .ok (.tableswitch 88 0 3 #[32, 54, 59, 82], 32) := by decide +kernel
theorem dX8_doCommand_48 : decode cX8_doCommand 48 = .ok (.aload_n 0, 1) := by decide +kernel
theorem dX8_doCommand_49 : decode cX8_doCommand 49 = .ok (.iload_n 1, 1) := by decide +kernel
theorem dX8_doCommand_50 : decode cX8_doCommand 50 = .ok (.aload_n 0, 1) := by decide +kernel
theorem dX8_doCommand_51 : decode cX8_doCommand 51 = .ok (.getfield 77, 3) := by decide +kernel
theorem dX8_doCommand_54 : decode cX8_doCommand 54 = .ok (.iconst 1, 1) := by decide +kernel
theorem dX8_doCommand_55 : decode cX8_doCommand 55 = .ok (.invokevirtual 460, 3) := by decide +kernel
theorem dX8_doCommand_58 : decode cX8_doCommand 58 = .ok (.aload_n 0, 1) := by decide +kernel
theorem dX8_doCommand_59 : decode cX8_doCommand 59 = .ok (.getfield 77, 3) := by decide +kernel
theorem dX8_doCommand_62 : decode cX8_doCommand 62 = .ok (.iconst 2, 1) := by decide +kernel
theorem dX8_doCommand_63 : decode cX8_doCommand 63 = .ok (.invokevirtual 460, 3) := by decide +kernel
theorem dX8_doCommand_66 : decode cX8_doCommand 66 = .ok (.invokevirtual 349, 3) := by decide +kernel
theorem dX8_doCommand_69 : decode cX8_doCommand 69 = .ok (.ireturn, 1) := by decide +kernel
theorem dX8_doCommand_70 : decode cX8_doCommand 70 = .ok (.aload_n 0, 1) := by decide +kernel
theorem dX8_doCommand_71 : decode cX8_doCommand 71 = .ok (.invokevirtual 352, 3) := by decide +kernel
theorem dX8_doCommand_74 : decode cX8_doCommand 74 = .ok (.ireturn, 1) := by decide +kernel
theorem dX8_doCommand_75 : decode cX8_doCommand 75 = .ok (.aload_n 0, 1) := by decide +kernel
theorem dX8_doCommand_76 : decode cX8_doCommand 76 = .ok (.iload_n 1, 1) := by decide +kernel
theorem dX8_doCommand_77 : decode cX8_doCommand 77 = .ok (.aload_n 0, 1) := by decide +kernel
theorem dX8_doCommand_78 : decode cX8_doCommand 78 = .ok (.getfield 77, 3) := by decide +kernel
theorem dX8_doCommand_81 : decode cX8_doCommand 81 = .ok (.iconst 1, 1) := by decide +kernel
theorem dX8_doCommand_82 : decode cX8_doCommand 82 = .ok (.invokevirtual 460, 3) := by decide +kernel
theorem dX8_doCommand_85 : decode cX8_doCommand 85 = .ok (.iconst 1, 1) := by decide +kernel
theorem dX8_doCommand_86 : decode cX8_doCommand 86 = .ok (.if_icmp .ne 7, 3) := by decide +kernel
theorem dX8_doCommand_89 : decode cX8_doCommand 89 = .ok (.iconst 1, 1) := by decide +kernel
theorem dX8_doCommand_90 : decode cX8_doCommand 90 = .ok (.goto 4, 3) := by decide +kernel
theorem dX8_doCommand_93 : decode cX8_doCommand 93 = .ok (.iconst 0, 1) := by decide +kernel
theorem dX8_doCommand_94 : decode cX8_doCommand 94 = .ok (.invokevirtual 355, 3) := by decide +kernel
theorem dX8_doCommand_97 : decode cX8_doCommand 97 = .ok (.ireturn, 1) := by decide +kernel
theorem dX8_doCommand_98 : decode cX8_doCommand 98 = .ok (.aload_n 0, 1) := by decide +kernel
theorem dX8_doCommand_99 : decode cX8_doCommand 99 = .ok (.iload_n 1, 1) := by decide +kernel
theorem dX8_doCommand_100 : decode cX8_doCommand 100 = .ok (.invokevirtual 359, 3) := by decide +kernel
theorem dX8_doCommand_103 : decode cX8_doCommand 103 = .ok (.ireturn, 1) := by decide +kernel
theorem dX8_doCommand_104 : decode cX8_doCommand 104 = .ok (.aload_n 0, 1) := by decide +kernel
theorem dX8_doCommand_105 : decode cX8_doCommand 105 = .ok (.invokevirtual 362, 3) := by decide +kernel
theorem dX8_doCommand_108 : decode cX8_doCommand 108 = .ok (.ireturn, 1) := by decide +kernel
theorem dX8_doPass_0 : decode cX8_doPass 0 = .ok (.iload_n 3, 1) := by decide +kernel
theorem dX8_doPass_1 : decode cX8_doPass 1 = .ok (.iload_n 2, 1) := by decide +kernel
theorem dX8_doPass_2 : decode cX8_doPass 2 = .ok (.isub, 1) := by decide +kernel
theorem dX8_doPass_3 : decode cX8_doPass 3 = .ok (.iconst 1, 1) := by decide +kernel
theorem dX8_doPass_4 : decode cX8_doPass 4 = .ok (.iadd, 1) := by decide +kernel
theorem dX8_doPass_5 : decode cX8_doPass 5 = .ok (.istore 4, 2) := by decide +kernel
theorem dX8_doPass_7 : decode cX8_doPass 7 = .ok (.aload_n 0, 1) := by decide +kernel
theorem dX8_doPass_8 : decode cX8_doPass 8 = .ok (.getfield 10, 3) := by decide +kernel
theorem dX8_doPass_11 : decode cX8_doPass 11 = .ok (.invokevirtual 277, 3) := by decide +kernel
theorem dX8_doPass_14 : decode cX8_doPass 14 = .ok (.ifCond .ne 9, 3) := by decide +kernel
theorem dX8_doPass_17 : decode cX8_doPass 17 = .ok (.aload_n 0, 1) := by decide +kernel
theorem dX8_doPass_18 : decode cX8_doPass 18 = .ok (.iconst 1, 1) := by decide +kernel
theorem dX8_doPass_19 : decode cX8_doPass 19 = .ok (.invokevirtual 374, 3) := by decide +kernel
theorem dX8_doPass_22 : decode cX8_doPass 22 = .ok (.ireturn, 1) := by decide +kernel
theorem dX8_doPass_23 : decode cX8_doPass 23 = .ok (.aload_n 0, 1) := by decide +kernel
theorem dX8_doPass_24 : decode cX8_doPass 24 = .ok (.getfield 10, 3) := by decide +kernel
theorem dX8_doPass_27 : decode cX8_doPass 27 = .ok (.iload_n 1, 1) := by decide +kernel
theorem dX8_doPass_28 : decode cX8_doPass 28 = .ok (.invokevirtual 248, 3) := by decide +kernel
theorem dX8_doPass_31 : decode cX8_doPass 31 = .ok (.iload 4, 2) := by decide +kernel
theorem dX8_doPass_33 : decode cX8_doPass 33 = .ok (.if_icmp .ge 9, 3) := by decide +kernel
theorem dX8_doPass_36 : decode cX8_doPass 36 = .ok (.aload_n 0, 1) := by decide +kernel
theorem dX8_doPass_37 : decode cX8_doPass 37 = .ok (.iconst 2, 1) := by decide +kernel
theorem dX8_doPass_38 : decode cX8_doPass 38 = .ok (.invokevirtual 374, 3) := by decide +kernel
theorem dX8_doPass_41 : decode cX8_doPass 41 = .ok (.ireturn, 1) := by decide +kernel
theorem dX8_doPass_42 : decode cX8_doPass 42 = .ok (.aload_n 0, 1) := by decide +kernel
theorem dX8_doPass_43 : decode cX8_doPass 43 = .ok (.invokevirtual 380, 3) := by decide +kernel
theorem dX8_doPass_46 : decode cX8_doPass 46 = .ok (.iload_n 2, 1) := by decide +kernel
theorem dX8_doPass_47 : decode cX8_doPass 47 = .ok (.istore 5, 2) := by decide +kernel
theorem dX8_doPass_49 : decode cX8_doPass 49 = .ok (.iload 5, 2) := by decide +kernel
theorem dX8_doPass_51 : decode cX8_doPass 51 = .ok (.iload_n 3, 1) := by decide +kernel
theorem dX8_doPass_52 : decode cX8_doPass 52 = .ok (.if_icmp .gt 33, 3) := by decide +kernel
theorem dX8_doPass_55 : decode cX8_doPass 55 = .ok (.aload_n 0, 1) := by decide +kernel
theorem dX8_doPass_56 : decode cX8_doPass 56 = .ok (.getfield 10, 3) := by decide +kernel
theorem dX8_doPass_59 : decode cX8_doPass 59 = .ok (.aload_n 0, 1) := by decide +kernel
theorem dX8_doPass_60 : decode cX8_doPass 60 = .ok (.getfield 10, 3) := by decide +kernel
theorem dX8_doPass_63 : decode cX8_doPass 63 = .ok (.iload 5, 2) := by decide +kernel
theorem dX8_doPass_65 : decode cX8_doPass 65 = .ok (.invokevirtual 403, 3) := by decide +kernel
theorem dX8_doPass_68 : decode cX8_doPass 68 = .ok (.aload_n 0, 1) := by decide +kernel
theorem dX8_doPass_69 : decode cX8_doPass 69 = .ok (.getfield 10, 3) := by decide +kernel
theorem dX8_doPass_72 : decode cX8_doPass 72 = .ok (.getfield 148, 3) := by decide +kernel
theorem dX8_doPass_75 : decode cX8_doPass 75 = .ok (.iload_n 1, 1) := by decide +kernel
theorem dX8_doPass_76 : decode cX8_doPass 76 = .ok (.invokevirtual 466, 3) := by decide +kernel
theorem dX8_doPass_79 : decode cX8_doPass 79 = .ok (.iinc 5 1, 3) := by decide +kernel
theorem dX8_doPass_82 : decode cX8_doPass 82 = .ok (.goto (-33), 3) := by decide +kernel
theorem dX8_doPass_85 : decode cX8_doPass 85 = .ok (.aload_n 0, 1) := by decide +kernel
theorem dX8_doPass_86 : decode cX8_doPass 86 = .ok (.getfield 10, 3) := by decide +kernel
theorem dX8_doPass_89 : decode cX8_doPass 89 = .ok (.iload_n 1, 1) := by decide +kernel
theorem dX8_doPass_90 : decode cX8_doPass 90 = .ok (.invokevirtual 248, 3) := by decide +kernel
theorem dX8_doPass_93 : decode cX8_doPass 93 = .ok (.ireturn, 1) := by decide +kernel
theorem dX8_doBeat_0 : decode cX8_doBeat 0 = .ok (.aload_n 0, 1) := by decide +kernel
theorem dX8_doBeat_1 : decode cX8_doBeat 1 = .ok (.getfield 10, 3) := by decide +kernel
theorem dX8_doBeat_4 : decode cX8_doBeat 4 = .ok (.invokevirtual 277, 3) := by decide +kernel
theorem dX8_doBeat_7 : decode cX8_doBeat 7 = .ok (.ifCond .ne 9, 3) := by decide +kernel
theorem dX8_doBeat_10 : decode cX8_doBeat 10 = .ok (.aload_n 0, 1) := by decide +kernel
theorem dX8_doBeat_11 : decode cX8_doBeat 11 = .ok (.iconst 1, 1) := by decide +kernel
theorem dX8_doBeat_12 : decode cX8_doBeat 12 = .ok (.invokevirtual 374, 3) := by decide +kernel
theorem dX8_doBeat_15 : decode cX8_doBeat 15 = .ok (.ireturn, 1) := by decide +kernel
theorem dX8_doBeat_16 : decode cX8_doBeat 16 = .ok (.aload_n 0, 1) := by decide +kernel
theorem dX8_doBeat_17 : decode cX8_doBeat 17 = .ok (.getfield 10, 3) := by decide +kernel
theorem dX8_doBeat_20 : decode cX8_doBeat 20 = .ok (.iconst 0, 1) := by decide +kernel
theorem dX8_doBeat_21 : decode cX8_doBeat 21 = .ok (.invokevirtual 248, 3) := by decide +kernel
theorem dX8_doBeat_24 : decode cX8_doBeat 24 = .ok (.aload_n 0, 1) := by decide +kernel
theorem dX8_doBeat_25 : decode cX8_doBeat 25 = .ok (.getfield 10, 3) := by decide +kernel
theorem dX8_doBeat_28 : decode cX8_doBeat 28 = .ok (.getfield 122, 3) := by decide +kernel
theorem dX8_doBeat_31 : decode cX8_doBeat 31 = .ok (.aload_n 0, 1) := by decide +kernel
theorem dX8_doBeat_32 : decode cX8_doBeat 32 = .ok (.getfield 10, 3) := by decide +kernel
theorem dX8_doBeat_35 : decode cX8_doBeat 35 = .ok (.invokevirtual 151, 3) := by decide +kernel
theorem dX8_doBeat_38 : decode cX8_doBeat 38 = .ok (.isub, 1) := by decide +kernel
theorem dX8_doBeat_39 : decode cX8_doBeat 39 = .ok (.if_icmp .ge 9, 3) := by decide +kernel
theorem dX8_doBeat_42 : decode cX8_doBeat 42 = .ok (.aload_n 0, 1) := by decide +kernel
theorem dX8_doBeat_43 : decode cX8_doBeat 43 = .ok (.iconst 2, 1) := by decide +kernel
theorem dX8_doBeat_44 : decode cX8_doBeat 44 = .ok (.invokevirtual 374, 3) := by decide +kernel
theorem dX8_doBeat_47 : decode cX8_doBeat 47 = .ok (.ireturn, 1) := by decide +kernel
theorem dX8_doBeat_48 : decode cX8_doBeat 48 = .ok (.aload_n 0, 1) := by decide +kernel
theorem dX8_doBeat_49 : decode cX8_doBeat 49 = .ok (.invokevirtual 380, 3) := by decide +kernel
theorem dX8_doBeat_52 : decode cX8_doBeat 52 = .ok (.aload_n 0, 1) := by decide +kernel
theorem dX8_doBeat_53 : decode cX8_doBeat 53 = .ok (.getfield 10, 3) := by decide +kernel
theorem dX8_doBeat_56 : decode cX8_doBeat 56 = .ok (.getfield 148, 3) := by decide +kernel
theorem dX8_doBeat_59 : decode cX8_doBeat 59 = .ok (.istore_n 1, 1) := by decide +kernel
theorem dX8_doBeat_60 : decode cX8_doBeat 60 = .ok (.iconst 0, 1) := by decide +kernel
theorem dX8_doBeat_61 : decode cX8_doBeat 61 = .ok (.istore_n 2, 1) := by decide +kernel
theorem dX8_doBeat_62 : decode cX8_doBeat 62 = .ok (.iload_n 2, 1) := by decide +kernel
theorem dX8_doBeat_63 : decode cX8_doBeat 63 = .ok (.aload_n 0, 1) := by decide +kernel
theorem dX8_doBeat_64 : decode cX8_doBeat 64 = .ok (.getfield 10, 3) := by decide +kernel
theorem dX8_doBeat_67 : decode cX8_doBeat 67 = .ok (.getfield 122, 3) := by decide +kernel
theorem dX8_doBeat_70 : decode cX8_doBeat 70 = .ok (.if_icmp .ge 31, 3) := by decide +kernel
theorem dX8_doBeat_73 : decode cX8_doBeat 73 = .ok (.aload_n 0, 1) := by decide +kernel
theorem dX8_doBeat_74 : decode cX8_doBeat 74 = .ok (.getfield 10, 3) := by decide +kernel
theorem dX8_doBeat_77 : decode cX8_doBeat 77 = .ok (.iload_n 2, 1) := by decide +kernel
theorem dX8_doBeat_78 : decode cX8_doBeat 78 = .ok (.iload_n 1, 1) := by decide +kernel
theorem dX8_doBeat_79 : decode cX8_doBeat 79 = .ok (.invokevirtual 470, 3) := by decide +kernel
theorem dX8_doBeat_82 : decode cX8_doBeat 82 = .ok (.ifCond .eq 13, 3) := by decide +kernel
theorem dX8_doBeat_85 : decode cX8_doBeat 85 = .ok (.aload_n 0, 1) := by decide +kernel
theorem dX8_doBeat_86 : decode cX8_doBeat 86 = .ok (.getfield 10, 3) := by decide +kernel
theorem dX8_doBeat_89 : decode cX8_doBeat 89 = .ok (.iload_n 2, 1) := by decide +kernel
theorem dX8_doBeat_90 : decode cX8_doBeat 90 = .ok (.iload_n 1, 1) := by decide +kernel
theorem dX8_doBeat_91 : decode cX8_doBeat 91 = .ok (.iconst 0, 1) := by decide +kernel
theorem dX8_doBeat_92 : decode cX8_doBeat 92 = .ok (.invokevirtual 466, 3) := by decide +kernel
theorem dX8_doBeat_95 : decode cX8_doBeat 95 = .ok (.iinc 2 1, 3) := by decide +kernel
theorem dX8_doBeat_98 : decode cX8_doBeat 98 = .ok (.goto (-36), 3) := by decide +kernel
theorem dX8_doBeat_101 : decode cX8_doBeat 101 = .ok (.aload_n 0, 1) := by decide +kernel
theorem dX8_doBeat_102 : decode cX8_doBeat 102 = .ok (.invokevirtual 473, 3) := by decide +kernel
theorem dX8_doBeat_105 : decode cX8_doBeat 105 = .ok (.aload_n 0, 1) := by decide +kernel
theorem dX8_doBeat_106 : decode cX8_doBeat 106 = .ok (.getfield 10, 3) := by decide +kernel
theorem dX8_doBeat_109 : decode cX8_doBeat 109 = .ok (.iload_n 1, 1) := by decide +kernel
theorem dX8_doBeat_110 : decode cX8_doBeat 110 = .ok (.invokevirtual 476, 3) := by decide +kernel
theorem dX8_doBeat_113 : decode cX8_doBeat 113 = .ok (.ireturn, 1) := by decide +kernel
theorem dX8_doWeave_0 : decode cX8_doWeave 0 = .ok (.aload_n 0, 1) := by decide +kernel
theorem dX8_doWeave_1 : decode cX8_doWeave 1 = .ok (.getfield 10, 3) := by decide +kernel
theorem dX8_doWeave_4 : decode cX8_doWeave 4 = .ok (.getfield 148, 3) := by decide +kernel
theorem dX8_doWeave_7 : decode cX8_doWeave 7 = .ok (.istore_n 3, 1) := by decide +kernel
theorem dX8_doWeave_8 : decode cX8_doWeave 8 = .ok (.iload_n 1, 1) := by decide +kernel
theorem dX8_doWeave_9 : decode cX8_doWeave 9 = .ok (.aload_n 0, 1) := by decide +kernel
theorem dX8_doWeave_10 : decode cX8_doWeave 10 = .ok (.getfield 10, 3) := by decide +kernel
theorem dX8_doWeave_13 : decode cX8_doWeave 13 = .ok (.getfield 145, 3) := by decide +kernel
theorem dX8_doWeave_16 : decode cX8_doWeave 16 = .ok (.iload_n 3, 1) := by decide +kernel
theorem dX8_doWeave_17 : decode cX8_doWeave 17 = .ok (.isub, 1) := by decide +kernel
theorem dX8_doWeave_18 : decode cX8_doWeave 18 = .ok (.if_icmp .le 9, 3) := by decide +kernel
theorem dX8_doWeave_21 : decode cX8_doWeave 21 = .ok (.aload_n 0, 1) := by decide +kernel
theorem dX8_doWeave_22 : decode cX8_doWeave 22 = .ok (.iconst 3, 1) := by decide +kernel
theorem dX8_doWeave_23 : decode cX8_doWeave 23 = .ok (.invokevirtual 374, 3) := by decide +kernel
theorem dX8_doWeave_26 : decode cX8_doWeave 26 = .ok (.ireturn, 1) := by decide +kernel
theorem dX8_doWeave_27 : decode cX8_doWeave 27 = .ok (.aload_n 0, 1) := by decide +kernel
theorem dX8_doWeave_28 : decode cX8_doWeave 28 = .ok (.getfield 43, 3) := by decide +kernel
theorem dX8_doWeave_31 : decode cX8_doWeave 31 = .ok (.iconst 0, 1) := by decide +kernel
theorem dX8_doWeave_32 : decode cX8_doWeave 32 = .ok (.invokestatic 299, 3) := by decide +kernel
theorem dX8_doWeave_35 : decode cX8_doWeave 35 = .ok (.iload_n 3, 1) := by decide +kernel
theorem dX8_doWeave_36 : decode cX8_doWeave 36 = .ok (.istore 4, 2) := by decide +kernel
theorem dX8_doWeave_38 : decode cX8_doWeave 38 = .ok (.iload 4, 2) := by decide +kernel
theorem dX8_doWeave_40 : decode cX8_doWeave 40 = .ok (.iload_n 3, 1) := by decide +kernel
theorem dX8_doWeave_41 : decode cX8_doWeave 41 = .ok (.iload_n 1, 1) := by decide +kernel
theorem dX8_doWeave_42 : decode cX8_doWeave 42 = .ok (.iadd, 1) := by decide +kernel
theorem dX8_doWeave_43 : decode cX8_doWeave 43 = .ok (.if_icmp .ge 23, 3) := by decide +kernel
theorem dX8_doWeave_46 : decode cX8_doWeave 46 = .ok (.aload_n 0, 1) := by decide +kernel
theorem dX8_doWeave_47 : decode cX8_doWeave 47 = .ok (.getfield 10, 3) := by decide +kernel
theorem dX8_doWeave_50 : decode cX8_doWeave 50 = .ok (.aload_n 0, 1) := by decide +kernel
theorem dX8_doWeave_51 : decode cX8_doWeave 51 = .ok (.getfield 43, 3) := by decide +kernel
theorem dX8_doWeave_54 : decode cX8_doWeave 54 = .ok (.iload 4, 2) := by decide +kernel
theorem dX8_doWeave_56 : decode cX8_doWeave 56 = .ok (.iload_n 2, 1) := by decide +kernel
theorem dX8_doWeave_57 : decode cX8_doWeave 57 = .ok (.invokevirtual 305, 3) := by decide +kernel
theorem dX8_doWeave_60 : decode cX8_doWeave 60 = .ok (.iinc 4 1, 3) := by decide +kernel
theorem dX8_doWeave_63 : decode cX8_doWeave 63 = .ok (.goto (-25), 3) := by decide +kernel
theorem dX8_doWeave_66 : decode cX8_doWeave 66 = .ok (.aload_n 0, 1) := by decide +kernel
theorem dX8_doWeave_67 : decode cX8_doWeave 67 = .ok (.getfield 10, 3) := by decide +kernel
theorem dX8_doWeave_70 : decode cX8_doWeave 70 = .ok (.aload_n 0, 1) := by decide +kernel
theorem dX8_doWeave_71 : decode cX8_doWeave 71 = .ok (.getfield 43, 3) := by decide +kernel
theorem dX8_doWeave_74 : decode cX8_doWeave 74 = .ok (.invokevirtual 309, 3) := by decide +kernel
theorem dX8_doWeave_77 : decode cX8_doWeave 77 = .ok (.ifCond .ne 9, 3) := by decide +kernel
theorem dX8_doWeave_80 : decode cX8_doWeave 80 = .ok (.aload_n 0, 1) := by decide +kernel
theorem dX8_doWeave_81 : decode cX8_doWeave 81 = .ok (.iconst 2, 1) := by decide +kernel
theorem dX8_doWeave_82 : decode cX8_doWeave 82 = .ok (.invokevirtual 374, 3) := by decide +kernel
theorem dX8_doWeave_85 : decode cX8_doWeave 85 = .ok (.ireturn, 1) := by decide +kernel
theorem dX8_doWeave_86 : decode cX8_doWeave 86 = .ok (.aload_n 0, 1) := by decide +kernel
theorem dX8_doWeave_87 : decode cX8_doWeave 87 = .ok (.invokevirtual 380, 3) := by decide +kernel
theorem dX8_doWeave_90 : decode cX8_doWeave 90 = .ok (.iload_n 3, 1) := by decide +kernel
theorem dX8_doWeave_91 : decode cX8_doWeave 91 = .ok (.istore 4, 2) := by decide +kernel
theorem dX8_doWeave_93 : decode cX8_doWeave 93 = .ok (.iload 4, 2) := by decide +kernel
theorem dX8_doWeave_95 : decode cX8_doWeave 95 = .ok (.iload_n 3, 1) := by decide +kernel
theorem dX8_doWeave_96 : decode cX8_doWeave 96 = .ok (.iload_n 1, 1) := by decide +kernel
theorem dX8_doWeave_97 : decode cX8_doWeave 97 = .ok (.iadd, 1) := by decide +kernel
theorem dX8_doWeave_98 : decode cX8_doWeave 98 = .ok (.if_icmp .ge 23, 3) := by decide +kernel
theorem dX8_doWeave_101 : decode cX8_doWeave 101 = .ok (.aload_n 0, 1) := by decide +kernel
theorem dX8_doWeave_102 : decode cX8_doWeave 102 = .ok (.getfield 10, 3) := by decide +kernel
theorem dX8_doWeave_105 : decode cX8_doWeave 105 = .ok (.iload 4, 2) := by decide +kernel
theorem dX8_doWeave_107 : decode cX8_doWeave 107 = .ok (.iload_n 2, 1) := by decide +kernel
theorem dX8_doWeave_108 : decode cX8_doWeave 108 = .ok (.invokevirtual 479, 3) := by decide +kernel
theorem dX8_doWeave_111 : decode cX8_doWeave 111 = .ok (.aload_n 0, 1) := by decide +kernel
theorem dX8_doWeave_112 : decode cX8_doWeave 112 = .ok (.invokevirtual 473, 3) := by decide +kernel
theorem dX8_doWeave_115 : decode cX8_doWeave 115 = .ok (.iinc 4 1, 3) := by decide +kernel
theorem dX8_doWeave_118 : decode cX8_doWeave 118 = .ok (.goto (-25), 3) := by decide +kernel
theorem dX8_doWeave_121 : decode cX8_doWeave 121 = .ok (.aload_n 0, 1) := by decide +kernel
theorem dX8_doWeave_122 : decode cX8_doWeave 122 = .ok (.getfield 10, 3) := by decide +kernel
theorem dX8_doWeave_125 : decode cX8_doWeave 125 = .ok (.iload_n 3, 1) := by decide +kernel
theorem dX8_doWeave_126 : decode cX8_doWeave 126 = .ok (.invokevirtual 261, 3) := by decide +kernel
theorem dX8_doWeave_129 : decode cX8_doWeave 129 = .ok (.ireturn, 1) := by decide +kernel
theorem dX8_finishRow_0 : decode cX8_finishRow 0 = .ok (.aload_n 0, 1) := by decide +kernel
theorem dX8_finishRow_1 : decode cX8_finishRow 1 = .ok (.getfield 10, 3) := by decide +kernel
theorem dX8_finishRow_4 : decode cX8_finishRow 4 = .ok (.aload_n 0, 1) := by decide +kernel
theorem dX8_finishRow_5 : decode cX8_finishRow 5 = .ok (.getfield 10, 3) := by decide +kernel
theorem dX8_finishRow_8 : decode cX8_finishRow 8 = .ok (.aload_n 0, 1) := by decide +kernel
theorem dX8_finishRow_9 : decode cX8_finishRow 9 = .ok (.getfield 10, 3) := by decide +kernel
theorem dX8_finishRow_12 : decode cX8_finishRow 12 = .ok (.getfield 148, 3) := by decide +kernel
theorem dX8_finishRow_15 : decode cX8_finishRow 15 = .ok (.invokevirtual 286, 3) := by decide +kernel
theorem dX8_finishRow_18 : decode cX8_finishRow 18 = .ok (.invokevirtual 320, 3) := by decide +kernel
theorem dX8_finishRow_21 : decode cX8_finishRow 21 = .ok (.istore_n 1, 1) := by decide +kernel
theorem dX8_finishRow_22 : decode cX8_finishRow 22 = .ok (.aload_n 0, 1) := by decide +kernel
theorem dX8_finishRow_23 : decode cX8_finishRow 23 = .ok (.getfield 39, 3) := by decide +kernel
theorem dX8_finishRow_26 : decode cX8_finishRow 26 = .ok (.bipush 8, 2) := by decide +kernel
theorem dX8_finishRow_28 : decode cX8_finishRow 28 = .ok (.aload_n 0, 1) := by decide +kernel
theorem dX8_finishRow_29 : decode cX8_finishRow 29 = .ok (.getfield 39, 3) := by decide +kernel
theorem dX8_finishRow_32 : decode cX8_finishRow 32 = .ok (.bipush 8, 2) := by decide +kernel
theorem dX8_finishRow_34 : decode cX8_finishRow 34 = .ok (.invokestatic 295, 3) := by decide +kernel
theorem dX8_finishRow_37 : decode cX8_finishRow 37 = .ok (.iload_n 1, 1) := by decide +kernel
theorem dX8_finishRow_38 : decode cX8_finishRow 38 = .ok (.iadd, 1) := by decide +kernel
theorem dX8_finishRow_39 : decode cX8_finishRow 39 = .ok (.invokestatic 397, 3) := by decide +kernel
theorem dX8_finishRow_42 : decode cX8_finishRow 42 = .ok (.aload_n 0, 1) := by decide +kernel
theorem dX8_finishRow_43 : decode cX8_finishRow 43 = .ok (.getfield 10, 3) := by decide +kernel
theorem dX8_finishRow_46 : decode cX8_finishRow 46 = .ok (.dup, 1) := by decide +kernel
theorem dX8_finishRow_47 : decode cX8_finishRow 47 = .ok (.getfield 148, 3) := by decide +kernel
theorem dX8_finishRow_50 : decode cX8_finishRow 50 = .ok (.iconst 1, 1) := by decide +kernel
theorem dX8_finishRow_51 : decode cX8_finishRow 51 = .ok (.iadd, 1) := by decide +kernel
theorem dX8_finishRow_52 : decode cX8_finishRow 52 = .ok (.putfield 148, 3) := by decide +kernel
theorem dX8_finishRow_55 : decode cX8_finishRow 55 = .ok (.return_, 1) := by decide +kernel
theorem dX8_doUnpick_0 : decode cX8_doUnpick 0 = .ok (.iload_n 1, 1) := by decide +kernel
theorem dX8_doUnpick_1 : decode cX8_doUnpick 1 = .ok (.aload_n 0, 1) := by decide +kernel
theorem dX8_doUnpick_2 : decode cX8_doUnpick 2 = .ok (.getfield 10, 3) := by decide +kernel
theorem dX8_doUnpick_5 : decode cX8_doUnpick 5 = .ok (.getfield 148, 3) := by decide +kernel
theorem dX8_doUnpick_8 : decode cX8_doUnpick 8 = .ok (.if_icmp .le 9, 3) := by decide +kernel
theorem dX8_doUnpick_11 : decode cX8_doUnpick 11 = .ok (.aload_n 0, 1) := by decide +kernel
theorem dX8_doUnpick_12 : decode cX8_doUnpick 12 = .ok (.iconst 3, 1) := by decide +kernel
theorem dX8_doUnpick_13 : decode cX8_doUnpick 13 = .ok (.invokevirtual 374, 3) := by decide +kernel
theorem dX8_doUnpick_16 : decode cX8_doUnpick 16 = .ok (.ireturn, 1) := by decide +kernel
theorem dX8_doUnpick_17 : decode cX8_doUnpick 17 = .ok (.aload_n 0, 1) := by decide +kernel
theorem dX8_doUnpick_18 : decode cX8_doUnpick 18 = .ok (.invokevirtual 380, 3) := by decide +kernel
theorem dX8_doUnpick_21 : decode cX8_doUnpick 21 = .ok (.aload_n 0, 1) := by decide +kernel
theorem dX8_doUnpick_22 : decode cX8_doUnpick 22 = .ok (.getfield 10, 3) := by decide +kernel
theorem dX8_doUnpick_25 : decode cX8_doUnpick 25 = .ok (.getfield 148, 3) := by decide +kernel
theorem dX8_doUnpick_28 : decode cX8_doUnpick 28 = .ok (.iload_n 1, 1) := by decide +kernel
theorem dX8_doUnpick_29 : decode cX8_doUnpick 29 = .ok (.isub, 1) := by decide +kernel
theorem dX8_doUnpick_30 : decode cX8_doUnpick 30 = .ok (.istore_n 2, 1) := by decide +kernel
theorem dX8_doUnpick_31 : decode cX8_doUnpick 31 = .ok (.iconst 0, 1) := by decide +kernel
theorem dX8_doUnpick_32 : decode cX8_doUnpick 32 = .ok (.istore_n 3, 1) := by decide +kernel
theorem dX8_doUnpick_33 : decode cX8_doUnpick 33 = .ok (.iconst 0, 1) := by decide +kernel
theorem dX8_doUnpick_34 : decode cX8_doUnpick 34 = .ok (.istore 4, 2) := by decide +kernel
theorem dX8_doUnpick_36 : decode cX8_doUnpick 36 = .ok (.iload 4, 2) := by decide +kernel
theorem dX8_doUnpick_38 : decode cX8_doUnpick 38 = .ok (.bipush 7, 2) := by decide +kernel
theorem dX8_doUnpick_40 : decode cX8_doUnpick 40 = .ok (.if_icmp .ge 65, 3) := by decide +kernel
theorem dX8_doUnpick_43 : decode cX8_doUnpick 43 = .ok (.aload_n 0, 1) := by decide +kernel
theorem dX8_doUnpick_44 : decode cX8_doUnpick 44 = .ok (.getfield 10, 3) := by decide +kernel
theorem dX8_doUnpick_47 : decode cX8_doUnpick 47 = .ok (.iload 4, 2) := by decide +kernel
theorem dX8_doUnpick_49 : decode cX8_doUnpick 49 = .ok (.iload_n 2, 1) := by decide +kernel
theorem dX8_doUnpick_50 : decode cX8_doUnpick 50 = .ok (.aload_n 0, 1) := by decide +kernel
theorem dX8_doUnpick_51 : decode cX8_doUnpick 51 = .ok (.getfield 10, 3) := by decide +kernel
theorem dX8_doUnpick_54 : decode cX8_doUnpick 54 = .ok (.getfield 145, 3) := by decide +kernel
theorem dX8_doUnpick_57 : decode cX8_doUnpick 57 = .ok (.invokevirtual 251, 3) := by decide +kernel
theorem dX8_doUnpick_60 : decode cX8_doUnpick 60 = .ok (.istore 5, 2) := by decide +kernel
theorem dX8_doUnpick_62 : decode cX8_doUnpick 62 = .ok (.aload_n 0, 1) := by decide +kernel
theorem dX8_doUnpick_63 : decode cX8_doUnpick 63 = .ok (.getfield 10, 3) := by decide +kernel
theorem dX8_doUnpick_66 : decode cX8_doUnpick 66 = .ok (.getfield 394, 3) := by decide +kernel
theorem dX8_doUnpick_69 : decode cX8_doUnpick 69 = .ok (.iload 4, 2) := by decide +kernel
theorem dX8_doUnpick_71 : decode cX8_doUnpick 71 = .ok (.sipush 9999, 3) := by decide +kernel
theorem dX8_doUnpick_74 : decode cX8_doUnpick 74 = .ok (.aload_n 0, 1) := by decide +kernel
theorem dX8_doUnpick_75 : decode cX8_doUnpick 75 = .ok (.getfield 10, 3) := by decide +kernel
theorem dX8_doUnpick_78 : decode cX8_doUnpick 78 = .ok (.iload 4, 2) := by decide +kernel
theorem dX8_doUnpick_80 : decode cX8_doUnpick 80 = .ok (.invokevirtual 248, 3) := by decide +kernel
theorem dX8_doUnpick_83 : decode cX8_doUnpick 83 = .ok (.iload 5, 2) := by decide +kernel
theorem dX8_doUnpick_85 : decode cX8_doUnpick 85 = .ok (.iconst 2, 1) := by decide +kernel
theorem dX8_doUnpick_86 : decode cX8_doUnpick 86 = .ok (.idiv, 1) := by decide +kernel
theorem dX8_doUnpick_87 : decode cX8_doUnpick 87 = .ok (.iadd, 1) := by decide +kernel
theorem dX8_doUnpick_88 : decode cX8_doUnpick 88 = .ok (.invokestatic 315, 3) := by decide +kernel
theorem dX8_doUnpick_91 : decode cX8_doUnpick 91 = .ok (.invokestatic 397, 3) := by decide +kernel
theorem dX8_doUnpick_94 : decode cX8_doUnpick 94 = .ok (.iload_n 3, 1) := by decide +kernel
theorem dX8_doUnpick_95 : decode cX8_doUnpick 95 = .ok (.iload 5, 2) := by decide +kernel
theorem dX8_doUnpick_97 : decode cX8_doUnpick 97 = .ok (.iadd, 1) := by decide +kernel
theorem dX8_doUnpick_98 : decode cX8_doUnpick 98 = .ok (.istore_n 3, 1) := by decide +kernel
theorem dX8_doUnpick_99 : decode cX8_doUnpick 99 = .ok (.iinc 4 1, 3) := by decide +kernel
theorem dX8_doUnpick_102 : decode cX8_doUnpick 102 = .ok (.goto (-66), 3) := by decide +kernel
theorem dX8_doUnpick_105 : decode cX8_doUnpick 105 = .ok (.aload_n 0, 1) := by decide +kernel
theorem dX8_doUnpick_106 : decode cX8_doUnpick 106 = .ok (.getfield 10, 3) := by decide +kernel
theorem dX8_doUnpick_109 : decode cX8_doUnpick 109 = .ok (.iload_n 2, 1) := by decide +kernel
theorem dX8_doUnpick_110 : decode cX8_doUnpick 110 = .ok (.invokevirtual 483, 3) := by decide +kernel
theorem dX8_doUnpick_113 : decode cX8_doUnpick 113 = .ok (.iload_n 3, 1) := by decide +kernel
theorem dX8_doUnpick_114 : decode cX8_doUnpick 114 = .ok (.ireturn, 1) := by decide +kernel
theorem dX8_doLook_0 : decode cX8_doLook 0 = .ok (.aload_n 0, 1) := by decide +kernel
theorem dX8_doLook_1 : decode cX8_doLook 1 = .ok (.getfield 10, 3) := by decide +kernel
theorem dX8_doLook_4 : decode cX8_doLook 4 = .ok (.invokevirtual 264, 3) := by decide +kernel
theorem dX8_doLook_7 : decode cX8_doLook 7 = .ok (.istore_n 1, 1) := by decide +kernel
theorem dX8_doLook_8 : decode cX8_doLook 8 = .ok (.aload_n 0, 1) := by decide +kernel
theorem dX8_doLook_9 : decode cX8_doLook 9 = .ok (.invokevirtual 380, 3) := by decide +kernel
theorem dX8_doLook_12 : decode cX8_doLook 12 = .ok (.aload_n 0, 1) := by decide +kernel
theorem dX8_doLook_13 : decode cX8_doLook 13 = .ok (.getfield 10, 3) := by decide +kernel
theorem dX8_doLook_16 : decode cX8_doLook 16 = .ok (.aload_n 0, 1) := by decide +kernel
theorem dX8_doLook_17 : decode cX8_doLook 17 = .ok (.getfield 10, 3) := by decide +kernel
theorem dX8_doLook_20 : decode cX8_doLook 20 = .ok (.getfield 148, 3) := by decide +kernel
theorem dX8_doLook_23 : decode cX8_doLook 23 = .ok (.putfield 157, 3) := by decide +kernel
theorem dX8_doLook_26 : decode cX8_doLook 26 = .ok (.aload_n 0, 1) := by decide +kernel
theorem dX8_doLook_27 : decode cX8_doLook 27 = .ok (.getfield 10, 3) := by decide +kernel
theorem dX8_doLook_30 : decode cX8_doLook 30 = .ok (.invokevirtual 264, 3) := by decide +kernel
theorem dX8_doLook_33 : decode cX8_doLook 33 = .ok (.iload_n 1, 1) := by decide +kernel
theorem dX8_doLook_34 : decode cX8_doLook 34 = .ok (.isub, 1) := by decide +kernel
theorem dX8_doLook_35 : decode cX8_doLook 35 = .ok (.ireturn, 1) := by decide +kernel
