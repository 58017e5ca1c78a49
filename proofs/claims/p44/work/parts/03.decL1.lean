theorem dL_feeds_0 : decode cL_feeds 0 = .ok (.iconst 0, 1) := by decide +kernel
theorem dL_feeds_1 : decode cL_feeds 1 = .ok (.istore_n 2, 1) := by decide +kernel
theorem dL_feeds_2 : decode cL_feeds 2 = .ok (.iload_n 2, 1) := by decide +kernel
theorem dL_feeds_3 : decode cL_feeds 3 = .ok (.aload_n 1, 1) := by decide +kernel
theorem dL_feeds_4 : decode cL_feeds 4 = .ok (.invokevirtual 7, 3) := by decide +kernel
theorem dL_feeds_7 : decode cL_feeds 7 = .ok (.if_icmp .ge 97, 3) := by decide +kernel
theorem dL_feeds_10 : decode cL_feeds 10 = .ok (.iconst 5, 1) := by decide +kernel
theorem dL_feeds_11 : decode cL_feeds 11 = .ok (.newarray .int, 2) := by decide +kernel
theorem dL_feeds_13 : decode cL_feeds 13 = .ok (.astore_n 3, 1) := by decide +kernel
theorem dL_feeds_14 : decode cL_feeds 14 = .ok (.iconst 0, 1) := by decide +kernel
theorem dL_feeds_15 : decode cL_feeds 15 = .ok (.istore 4, 2) := by decide +kernel
theorem dL_feeds_17 : decode cL_feeds 17 = .ok (.iload 4, 2) := by decide +kernel
theorem dL_feeds_19 : decode cL_feeds 19 = .ok (.bipush 20, 2) := by decide +kernel
theorem dL_feeds_21 : decode cL_feeds 21 = .ok (.if_icmp .ge 49, 3) := by decide +kernel
theorem dL_feeds_24 : decode cL_feeds 24 = .ok (.aload_n 3, 1) := by decide +kernel
theorem dL_feeds_25 : decode cL_feeds 25 = .ok (.iload 4, 2) := by decide +kernel
theorem dL_feeds_27 : decode cL_feeds 27 = .ok (.iconst 4, 1) := by decide +kernel
theorem dL_feeds_28 : decode cL_feeds 28 = .ok (.idiv, 1) := by decide +kernel
theorem dL_feeds_29 : decode cL_feeds 29 = .ok (.aload_n 3, 1) := by decide +kernel
theorem dL_feeds_30 : decode cL_feeds 30 = .ok (.iload 4, 2) := by decide +kernel
theorem dL_feeds_32 : decode cL_feeds 32 = .ok (.iconst 4, 1) := by decide +kernel
theorem dL_feeds_33 : decode cL_feeds 33 = .ok (.idiv, 1) := by decide +kernel
theorem dL_feeds_34 : decode cL_feeds 34 = .ok (.iaload, 1) := by decide +kernel
theorem dL_feeds_35 : decode cL_feeds 35 = .ok (.bipush 8, 2) := by decide +kernel
theorem dL_feeds_37 : decode cL_feeds 37 = .ok (.ishl, 1) := by decide +kernel
theorem dL_feeds_38 : decode cL_feeds 38 = .ok (.iload_n 2, 1) := by decide +kernel
theorem dL_feeds_39 : decode cL_feeds 39 = .ok (.iload 4, 2) := by decide +kernel
theorem dL_feeds_41 : decode cL_feeds 41 = .ok (.iadd, 1) := by decide +kernel
theorem dL_feeds_42 : decode cL_feeds 42 = .ok (.aload_n 1, 1) := by decide +kernel
theorem dL_feeds_43 : decode cL_feeds 43 = .ok (.invokevirtual 7, 3) := by decide +kernel
theorem dL_feeds_46 : decode cL_feeds 46 = .ok (.if_icmp .ge 14, 3) := by decide +kernel
theorem dL_feeds_49 : decode cL_feeds 49 = .ok (.aload_n 1, 1) := by decide +kernel
theorem dL_feeds_50 : decode cL_feeds 50 = .ok (.iload_n 2, 1) := by decide +kernel
theorem dL_feeds_51 : decode cL_feeds 51 = .ok (.iload 4, 2) := by decide +kernel
theorem dL_feeds_53 : decode cL_feeds 53 = .ok (.iadd, 1) := by decide +kernel
theorem dL_feeds_54 : decode cL_feeds 54 = .ok (.invokevirtual 13, 3) := by decide +kernel
theorem dL_feeds_57 : decode cL_feeds 57 = .ok (.goto 5, 3) := by decide +kernel
theorem dL_feeds_60 : decode cL_feeds 60 = .ok (.bipush 32, 2) := by decide +kernel
theorem dL_feeds_62 : decode cL_feeds 62 = .ok (.ior, 1) := by decide +kernel
theorem dL_feeds_63 : decode cL_feeds 63 = .ok (.iastore, 1) := by decide +kernel
theorem dL_feeds_64 : decode cL_feeds 64 = .ok (.iinc 4 1, 3) := by decide +kernel
theorem dL_feeds_67 : decode cL_feeds 67 = .ok (.goto (-50), 3) := by decide +kernel
theorem dL_feeds_70 : decode cL_feeds 70 = .ok (.aload_n 0, 1) := by decide +kernel
theorem dL_feeds_71 : decode cL_feeds 71 = .ok (.aload_n 3, 1) := by decide +kernel
theorem dL_feeds_72 : decode cL_feeds 72 = .ok (.iconst 0, 1) := by decide +kernel
theorem dL_feeds_73 : decode cL_feeds 73 = .ok (.iaload, 1) := by decide +kernel
theorem dL_feeds_74 : decode cL_feeds 74 = .ok (.aload_n 3, 1) := by decide +kernel
theorem dL_feeds_75 : decode cL_feeds 75 = .ok (.iconst 1, 1) := by decide +kernel
theorem dL_feeds_76 : decode cL_feeds 76 = .ok (.iaload, 1) := by decide +kernel
theorem dL_feeds_77 : decode cL_feeds 77 = .ok (.aload_n 3, 1) := by decide +kernel
theorem dL_feeds_78 : decode cL_feeds 78 = .ok (.iconst 2, 1) := by decide +kernel
theorem dL_feeds_79 : decode cL_feeds 79 = .ok (.iaload, 1) := by decide +kernel
theorem dL_feeds_80 : decode cL_feeds 80 = .ok (.aload_n 3, 1) := by decide +kernel
theorem dL_feeds_81 : decode cL_feeds 81 = .ok (.iconst 3, 1) := by decide +kernel
theorem dL_feeds_82 : decode cL_feeds 82 = .ok (.iaload, 1) := by decide +kernel
theorem dL_feeds_83 : decode cL_feeds 83 = .ok (.aload_n 3, 1) := by decide +kernel
theorem dL_feeds_84 : decode cL_feeds 84 = .ok (.iconst 4, 1) := by decide +kernel
theorem dL_feeds_85 : decode cL_feeds 85 = .ok (.iaload, 1) := by decide +kernel
theorem dL_feeds_86 : decode cL_feeds 86 = .ok (.invokevirtual 17, 3) := by decide +kernel
theorem dL_feeds_89 : decode cL_feeds 89 = .ok (.iload_n 2, 1) := by decide +kernel
theorem dL_feeds_90 : decode cL_feeds 90 = .ok (.bipush 20, 2) := by decide +kernel
theorem dL_feeds_92 : decode cL_feeds 92 = .ok (.iadd, 1) := by decide +kernel
theorem dL_feeds_93 : decode cL_feeds 93 = .ok (.if_icmp .eq 5, 3) := by decide +kernel
theorem dL_feeds_96 : decode cL_feeds 96 = .ok (.iconst 0, 1) := by decide +kernel
theorem dL_feeds_97 : decode cL_feeds 97 = .ok (.ireturn, 1) := by decide +kernel
theorem dL_feeds_98 : decode cL_feeds 98 = .ok (.iinc 2 20, 3) := by decide +kernel
theorem dL_feeds_101 : decode cL_feeds 101 = .ok (.goto (-99), 3) := by decide +kernel
theorem dL_feeds_104 : decode cL_feeds 104 = .ok (.aload_n 0, 1) := by decide +kernel
theorem dL_feeds_105 : decode cL_feeds 105 = .ok (.aload_n 1, 1) := by decide +kernel
theorem dL_feeds_106 : decode cL_feeds 106 = .ok (.invokevirtual 7, 3) := by decide +kernel
theorem dL_feeds_109 : decode cL_feeds 109 = .ok (.invokevirtual 23, 3) := by decide +kernel
theorem dL_feeds_112 : decode cL_feeds 112 = .ok (.aload_n 1, 1) := by decide +kernel
theorem dL_feeds_113 : decode cL_feeds 113 = .ok (.invokevirtual 7, 3) := by decide +kernel
theorem dL_feeds_116 : decode cL_feeds 116 = .ok (.if_icmp .ne 7, 3) := by decide +kernel
theorem dL_feeds_119 : decode cL_feeds 119 = .ok (.iconst 1, 1) := by decide +kernel
theorem dL_feeds_120 : decode cL_feeds 120 = .ok (.goto 4, 3) := by decide +kernel
theorem dL_feeds_123 : decode cL_feeds 123 = .ok (.iconst 0, 1) := by decide +kernel
theorem dL_feeds_124 : decode cL_feeds 124 = .ok (.ireturn, 1) := by decide +kernel
theorem dL_draw_0 : decode cL_draw 0 = .ok (.aload_n 0, 1) := by decide +kernel
theorem dL_draw_1 : decode cL_draw 1 = .ok (.iconst 0, 1) := by decide +kernel
theorem dL_draw_2 : decode cL_draw 2 = .ok (.aload_n 0, 1) := by decide +kernel
theorem dL_draw_3 : decode cL_draw 3 = .ok (.iconst 0, 1) := by decide +kernel
theorem dL_draw_4 : decode cL_draw 4 = .ok (.iaload, 1) := by decide +kernel
theorem dL_draw_5 : decode cL_draw 5 = .ok (.ldc 27, 2) := by decide +kernel
theorem dL_draw_7 : decode cL_draw 7 = .ok (.imul, 1) := by decide +kernel
theorem dL_draw_8 : decode cL_draw 8 = .ok (.ldc 28, 2) := by decide +kernel
theorem dL_draw_10 : decode cL_draw 10 = .ok (.iadd, 1) := by decide +kernel
theorem dL_draw_11 : decode cL_draw 11 = .ok (.iastore, 1) := by decide +kernel
theorem dL_draw_12 : decode cL_draw 12 = .ok (.aload_n 0, 1) := by decide +kernel
theorem dL_draw_13 : decode cL_draw 13 = .ok (.iconst 0, 1) := by decide +kernel
theorem dL_draw_14 : decode cL_draw 14 = .ok (.iaload, 1) := by decide +kernel
theorem dL_draw_15 : decode cL_draw 15 = .ok (.bipush 8, 2) := by decide +kernel
theorem dL_draw_17 : decode cL_draw 17 = .ok (.iushr, 1) := by decide +kernel
theorem dL_draw_18 : decode cL_draw 18 = .ok (.iload_n 1, 1) := by decide +kernel
theorem dL_draw_19 : decode cL_draw 19 = .ok (.irem, 1) := by decide +kernel
theorem dL_draw_20 : decode cL_draw 20 = .ok (.ireturn, 1) := by decide +kernel
theorem dL_read_0 : decode cL_read 0 = .ok (.iconst 0, 1) := by decide +kernel
theorem dL_read_1 : decode cL_read 1 = .ok (.istore_n 1, 1) := by decide +kernel
theorem dL_read_2 : decode cL_read 2 = .ok (.iload_n 1, 1) := by decide +kernel
theorem dL_read_3 : decode cL_read 3 = .ok (.bipush 26, 2) := by decide +kernel
theorem dL_read_5 : decode cL_read 5 = .ok (.if_icmp .ge 22, 3) := by decide +kernel
theorem dL_read_8 : decode cL_read 8 = .ok (.getstatic 29, 3) := by decide +kernel
theorem dL_read_11 : decode cL_read 11 = .ok (.iload_n 1, 1) := by decide +kernel
theorem dL_read_12 : decode cL_read 12 = .ok (.iaload, 1) := by decide +kernel
theorem dL_read_13 : decode cL_read 13 = .ok (.iload_n 0, 1) := by decide +kernel
theorem dL_read_14 : decode cL_read 14 = .ok (.if_icmp .ne 7, 3) := by decide +kernel
theorem dL_read_17 : decode cL_read 17 = .ok (.iload_n 1, 1) := by decide +kernel
theorem dL_read_18 : decode cL_read 18 = .ok (.iconst 1, 1) := by decide +kernel
theorem dL_read_19 : decode cL_read 19 = .ok (.iadd, 1) := by decide +kernel
theorem dL_read_20 : decode cL_read 20 = .ok (.ireturn, 1) := by decide +kernel
theorem dL_read_21 : decode cL_read 21 = .ok (.iinc 1 1, 3) := by decide +kernel
theorem dL_read_24 : decode cL_read 24 = .ok (.goto (-22), 3) := by decide +kernel
theorem dL_read_27 : decode cL_read 27 = .ok (.iconst 0, 1) := by decide +kernel
theorem dL_read_28 : decode cL_read 28 = .ok (.ireturn, 1) := by decide +kernel
theorem dL_turned_0 : decode cL_turned 0 = .ok (.iconst 0, 1) := by decide +kernel
theorem dL_turned_1 : decode cL_turned 1 = .ok (.istore_n 1, 1) := by decide +kernel
theorem dL_turned_2 : decode cL_turned 2 = .ok (.iconst 4, 1) := by decide +kernel
theorem dL_turned_3 : decode cL_turned 3 = .ok (.istore_n 2, 1) := by decide +kernel
theorem dL_turned_4 : decode cL_turned 4 = .ok (.iload_n 2, 1) := by decide +kernel
theorem dL_turned_5 : decode cL_turned 5 = .ok (.ifCond .lt 41, 3) := by decide +kernel
theorem dL_turned_8 : decode cL_turned 8 = .ok (.iload_n 0, 1) := by decide +kernel
theorem dL_turned_9 : decode cL_turned 9 = .ok (.iconst 3, 1) := by decide +kernel
theorem dL_turned_10 : decode cL_turned 10 = .ok (.iload_n 2, 1) := by decide +kernel
theorem dL_turned_11 : decode cL_turned 11 = .ok (.imul, 1) := by decide +kernel
theorem dL_turned_12 : decode cL_turned 12 = .ok (.ishr, 1) := by decide +kernel
theorem dL_turned_13 : decode cL_turned 13 = .ok (.bipush 7, 2) := by decide +kernel
theorem dL_turned_15 : decode cL_turned 15 = .ok (.iand, 1) := by decide +kernel
theorem dL_turned_16 : decode cL_turned 16 = .ok (.istore_n 3, 1) := by decide +kernel
theorem dL_turned_17 : decode cL_turned 17 = .ok (.iload_n 1, 1) := by decide +kernel
theorem dL_turned_18 : decode cL_turned 18 = .ok (.bipush 8, 2) := by decide +kernel
theorem dL_turned_20 : decode cL_turned 20 = .ok (.imul, 1) := by decide +kernel
theorem dL_turned_21 : decode cL_turned 21 = .ok (.iload_n 3, 1) := by decide +kernel
theorem dL_turned_22 : decode cL_turned 22 = .ok (.iconst 2, 1) := by decide +kernel
theorem dL_turned_23 : decode cL_turned 23 = .ok (.irem, 1) := by decide +kernel
theorem dL_turned_24 : decode cL_turned 24 = .ok (.iconst 4, 1) := by decide +kernel
theorem dL_turned_25 : decode cL_turned 25 = .ok (.imul, 1) := by decide +kernel
theorem dL_turned_26 : decode cL_turned 26 = .ok (.iload_n 3, 1) := by decide +kernel
theorem dL_turned_27 : decode cL_turned 27 = .ok (.iconst 2, 1) := by decide +kernel
theorem dL_turned_28 : decode cL_turned 28 = .ok (.idiv, 1) := by decide +kernel
theorem dL_turned_29 : decode cL_turned 29 = .ok (.iconst 2, 1) := by decide +kernel
theorem dL_turned_30 : decode cL_turned 30 = .ok (.irem, 1) := by decide +kernel
theorem dL_turned_31 : decode cL_turned 31 = .ok (.iconst 2, 1) := by decide +kernel
theorem dL_turned_32 : decode cL_turned 32 = .ok (.imul, 1) := by decide +kernel
theorem dL_turned_33 : decode cL_turned 33 = .ok (.iadd, 1) := by decide +kernel
theorem dL_turned_34 : decode cL_turned 34 = .ok (.iload_n 3, 1) := by decide +kernel
theorem dL_turned_35 : decode cL_turned 35 = .ok (.iconst 4, 1) := by decide +kernel
theorem dL_turned_36 : decode cL_turned 36 = .ok (.idiv, 1) := by decide +kernel
theorem dL_turned_37 : decode cL_turned 37 = .ok (.iadd, 1) := by decide +kernel
theorem dL_turned_38 : decode cL_turned 38 = .ok (.iadd, 1) := by decide +kernel
theorem dL_turned_39 : decode cL_turned 39 = .ok (.istore_n 1, 1) := by decide +kernel
theorem dL_turned_40 : decode cL_turned 40 = .ok (.iinc 2 (-1), 3) := by decide +kernel
theorem dL_turned_43 : decode cL_turned 43 = .ok (.goto (-39), 3) := by decide +kernel
theorem dL_turned_46 : decode cL_turned 46 = .ok (.iload_n 1, 1) := by decide +kernel
theorem dL_turned_47 : decode cL_turned 47 = .ok (.ireturn, 1) := by decide +kernel
theorem dL_law_0 : decode cL_law 0 = .ok (.new 18, 3) := by decide +kernel
theorem dL_law_3 : decode cL_law 3 = .ok (.dup, 1) := by decide +kernel
theorem dL_law_4 : decode cL_law 4 = .ok (.invokespecial 35, 3) := by decide +kernel
theorem dL_law_7 : decode cL_law 7 = .ok (.astore_n 1, 1) := by decide +kernel
theorem dL_law_8 : decode cL_law 8 = .ok (.aload_n 0, 1) := by decide +kernel
theorem dL_law_9 : decode cL_law 9 = .ok (.arraylength, 1) := by decide +kernel
theorem dL_law_10 : decode cL_law 10 = .ok (.istore_n 2, 1) := by decide +kernel
theorem dL_law_11 : decode cL_law 11 = .ok (.iconst 0, 1) := by decide +kernel
theorem dL_law_12 : decode cL_law 12 = .ok (.istore_n 3, 1) := by decide +kernel
theorem dL_law_13 : decode cL_law 13 = .ok (.iload_n 3, 1) := by decide +kernel
theorem dL_law_14 : decode cL_law 14 = .ok (.iload_n 2, 1) := by decide +kernel
theorem dL_law_15 : decode cL_law 15 = .ok (.if_icmp .ge 32, 3) := by decide +kernel
theorem dL_law_18 : decode cL_law 18 = .ok (.iload_n 3, 1) := by decide +kernel
theorem dL_law_19 : decode cL_law 19 = .ok (.iconst 4, 1) := by decide +kernel
theorem dL_law_20 : decode cL_law 20 = .ok (.if_icmp .ge 27, 3) := by decide +kernel
theorem dL_law_23 : decode cL_law 23 = .ok (.aload_n 1, 1) := by decide +kernel
theorem dL_law_24 : decode cL_law 24 = .ok (.iconst 1, 1) := by decide +kernel
theorem dL_law_25 : decode cL_law 25 = .ok (.newarray .int, 2) := by decide +kernel
theorem dL_law_27 : decode cL_law 27 = .ok (.dup, 1) := by decide +kernel
theorem dL_law_28 : decode cL_law 28 = .ok (.iconst 0, 1) := by decide +kernel
theorem dL_law_29 : decode cL_law 29 = .ok (.aload_n 0, 1) := by decide +kernel
theorem dL_law_30 : decode cL_law 30 = .ok (.iload_n 3, 1) := by decide +kernel
theorem dL_law_31 : decode cL_law 31 = .ok (.iaload, 1) := by decide +kernel
theorem dL_law_32 : decode cL_law 32 = .ok (.iastore, 1) := by decide +kernel
theorem dL_law_33 : decode cL_law 33 = .ok (.invokestatic 36, 3) := by decide +kernel
theorem dL_law_36 : decode cL_law 36 = .ok (.ifCond .ne 5, 3) := by decide +kernel
theorem dL_law_39 : decode cL_law 39 = .ok (.iconst 0, 1) := by decide +kernel
theorem dL_law_40 : decode cL_law 40 = .ok (.ireturn, 1) := by decide +kernel
theorem dL_law_41 : decode cL_law 41 = .ok (.iinc 3 1, 3) := by decide +kernel
theorem dL_law_44 : decode cL_law 44 = .ok (.goto (-31), 3) := by decide +kernel
theorem dL_law_47 : decode cL_law 47 = .ok (.iconst 1, 1) := by decide +kernel
theorem dL_law_48 : decode cL_law 48 = .ok (.ireturn, 1) := by decide +kernel
theorem dL_word_0 : decode cL_word 0 = .ok (.new 40, 3) := by decide +kernel
theorem dL_word_3 : decode cL_word 3 = .ok (.dup, 1) := by decide +kernel
theorem dL_word_4 : decode cL_word 4 = .ok (.invokespecial 42, 3) := by decide +kernel
theorem dL_word_7 : decode cL_word 7 = .ok (.astore_n 2, 1) := by decide +kernel
theorem dL_word_8 : decode cL_word 8 = .ok (.ldc 43, 2) := by decide +kernel
theorem dL_word_10 : decode cL_word 10 = .ok (.astore_n 3, 1) := by decide +kernel
theorem dL_word_11 : decode cL_word 11 = .ok (.aload_n 0, 1) := by decide +kernel
theorem dL_word_12 : decode cL_word 12 = .ok (.iload_n 1, 1) := by decide +kernel
theorem dL_word_13 : decode cL_word 13 = .ok (.invokestatic 45, 3) := by decide +kernel
theorem dL_word_16 : decode cL_word 16 = .ok (.istore 4, 2) := by decide +kernel
theorem dL_word_18 : decode cL_word 18 = .ok (.iload 4, 2) := by decide +kernel
theorem dL_word_20 : decode cL_word 20 = .ok (.ifCond .lt 24, 3) := by decide +kernel
theorem dL_word_23 : decode cL_word 23 = .ok (.aload_n 2, 1) := by decide +kernel
theorem dL_word_24 : decode cL_word 24 = .ok (.aload_n 3, 1) := by decide +kernel
theorem dL_word_25 : decode cL_word 25 = .ok (.aload_n 0, 1) := by decide +kernel
theorem dL_word_26 : decode cL_word 26 = .ok (.bipush 10, 2) := by decide +kernel
theorem dL_word_28 : decode cL_word 28 = .ok (.invokestatic 45, 3) := by decide +kernel
theorem dL_word_31 : decode cL_word 31 = .ok (.invokevirtual 13, 3) := by decide +kernel
theorem dL_word_34 : decode cL_word 34 = .ok (.invokevirtual 49, 3) := by decide +kernel
theorem dL_word_37 : decode cL_word 37 = .ok (.pop, 1) := by decide +kernel
theorem dL_word_38 : decode cL_word 38 = .ok (.iinc 4 (-1), 3) := by decide +kernel
theorem dL_word_41 : decode cL_word 41 = .ok (.goto (-23), 3) := by decide +kernel
theorem dL_word_44 : decode cL_word 44 = .ok (.aload_n 2, 1) := by decide +kernel
theorem dL_word_45 : decode cL_word 45 = .ok (.invokevirtual 52, 3) := by decide +kernel
theorem dL_word_48 : decode cL_word 48 = .ok (.areturn, 1) := by decide +kernel
theorem dL_some_0 : decode cL_some 0 = .ok (.iconst 0, 1) := by decide +kernel
theorem dL_some_1 : decode cL_some 1 = .ok (.istore_n 2, 1) := by decide +kernel
theorem dL_some_2 : decode cL_some 2 = .ok (.iload_n 2, 1) := by decide +kernel
theorem dL_some_3 : decode cL_some 3 = .ok (.bipush 8, 2) := by decide +kernel
theorem dL_some_5 : decode cL_some 5 = .ok (.if_icmp .ge 90, 3) := by decide +kernel
theorem dL_some_8 : decode cL_some 8 = .ok (.aload_n 1, 1) := by decide +kernel
theorem dL_some_9 : decode cL_some 9 = .ok (.iconst 3, 1) := by decide +kernel
theorem dL_some_10 : decode cL_some 10 = .ok (.invokestatic 56, 3) := by decide +kernel
theorem dL_some_13 : decode cL_some 13 = .ok (.astore_n 3, 1) := by decide +kernel
theorem dL_some_14 : decode cL_some 14 = .ok (.aload_n 1, 1) := by decide +kernel
theorem dL_some_15 : decode cL_some 15 = .ok (.aload_n 0, 1) := by decide +kernel
theorem dL_some_16 : decode cL_some 16 = .ok (.getfield 60, 3) := by decide +kernel
theorem dL_some_19 : decode cL_some 19 = .ok (.invokestatic 45, 3) := by decide +kernel
theorem dL_some_22 : decode cL_some 22 = .ok (.istore 4, 2) := by decide +kernel
theorem dL_some_24 : decode cL_some 24 = .ok (.aload_n 1, 1) := by decide +kernel
theorem dL_some_25 : decode cL_some 25 = .ok (.aload_n 0, 1) := by decide +kernel
theorem dL_some_26 : decode cL_some 26 = .ok (.getfield 66, 3) := by decide +kernel
theorem dL_some_29 : decode cL_some 29 = .ok (.invokestatic 45, 3) := by decide +kernel
theorem dL_some_32 : decode cL_some 32 = .ok (.istore 5, 2) := by decide +kernel
theorem dL_some_34 : decode cL_some 34 = .ok (.new 69, 3) := by decide +kernel
theorem dL_some_37 : decode cL_some 37 = .ok (.dup, 1) := by decide +kernel
theorem dL_some_38 : decode cL_some 38 = .ok (.aload_n 3, 1) := by decide +kernel
theorem dL_some_39 : decode cL_some 39 = .ok (.aload_n 1, 1) := by decide +kernel
theorem dL_some_40 : decode cL_some 40 = .ok (.iconst 2, 1) := by decide +kernel
theorem dL_some_41 : decode cL_some 41 = .ok (.invokestatic 45, 3) := by decide +kernel
theorem dL_some_44 : decode cL_some 44 = .ok (.iload 4, 2) := by decide +kernel
theorem dL_some_46 : decode cL_some 46 = .ok (.iload 5, 2) := by decide +kernel
theorem dL_some_48 : decode cL_some 48 = .ok (.iconst 1, 1) := by decide +kernel
theorem dL_some_49 : decode cL_some 49 = .ok (.aload_n 1, 1) := by decide +kernel
theorem dL_some_50 : decode cL_some 50 = .ok (.bipush 6, 2) := by decide +kernel
theorem dL_some_52 : decode cL_some 52 = .ok (.invokestatic 45, 3) := by decide +kernel
theorem dL_some_55 : decode cL_some 55 = .ok (.iadd, 1) := by decide +kernel
theorem dL_some_56 : decode cL_some 56 = .ok (.invokespecial 71, 3) := by decide +kernel
theorem dL_some_59 : decode cL_some 59 = .ok (.astore 6, 2) := by decide +kernel
theorem dL_some_61 : decode cL_some 61 = .ok (.aload_n 0, 1) := by decide +kernel
theorem dL_some_62 : decode cL_some 62 = .ok (.aload_n 3, 1) := by decide +kernel
theorem dL_some_63 : decode cL_some 63 = .ok (.invokevirtual 7, 3) := by decide +kernel
theorem dL_some_66 : decode cL_some 66 = .ok (.iload 4, 2) := by decide +kernel
theorem dL_some_68 : decode cL_some 68 = .ok (.iload 5, 2) := by decide +kernel
theorem dL_some_70 : decode cL_some 70 = .ok (.invokevirtual 74, 3) := by decide +kernel
theorem dL_some_73 : decode cL_some 73 = .ok (.ifCond .eq 16, 3) := by decide +kernel
theorem dL_some_76 : decode cL_some 76 = .ok (.aload_n 0, 1) := by decide +kernel
theorem dL_some_77 : decode cL_some 77 = .ok (.aload 6, 2) := by decide +kernel
theorem dL_some_79 : decode cL_some 79 = .ok (.aconst_null, 1) := by decide +kernel
theorem dL_some_80 : decode cL_some 80 = .ok (.invokevirtual 78, 3) := by decide +kernel
theorem dL_some_83 : decode cL_some 83 = .ok (.ifCond .ne 6, 3) := by decide +kernel
theorem dL_some_86 : decode cL_some 86 = .ok (.aload 6, 2) := by decide +kernel
theorem dL_some_88 : decode cL_some 88 = .ok (.areturn, 1) := by decide +kernel
theorem dL_some_89 : decode cL_some 89 = .ok (.iinc 2 1, 3) := by decide +kernel
theorem dL_some_92 : decode cL_some 92 = .ok (.goto (-90), 3) := by decide +kernel
theorem dL_some_95 : decode cL_some 95 = .ok (.aconst_null, 1) := by decide +kernel
theorem dL_some_96 : decode cL_some 96 = .ok (.areturn, 1) := by decide +kernel
theorem dL_lives_0 : decode cL_lives 0 = .ok (.new 61, 3) := by decide +kernel
theorem dL_lives_3 : decode cL_lives 3 = .ok (.dup, 1) := by decide +kernel
theorem dL_lives_4 : decode cL_lives 4 = .ok (.invokespecial 82, 3) := by decide +kernel
theorem dL_lives_7 : decode cL_lives 7 = .ok (.astore_n 2, 1) := by decide +kernel
theorem dL_lives_8 : decode cL_lives 8 = .ok (.aload_n 2, 1) := by decide +kernel
theorem dL_lives_9 : decode cL_lives 9 = .ok (.bipush 8, 2) := by decide +kernel
theorem dL_lives_11 : decode cL_lives 11 = .ok (.aload_n 1, 1) := by decide +kernel
theorem dL_lives_12 : decode cL_lives 12 = .ok (.bipush 12, 2) := by decide +kernel
theorem dL_lives_14 : decode cL_lives 14 = .ok (.invokestatic 45, 3) := by decide +kernel
theorem dL_lives_17 : decode cL_lives 17 = .ok (.iadd, 1) := by decide +kernel
theorem dL_lives_18 : decode cL_lives 18 = .ok (.putfield 60, 3) := by decide +kernel
theorem dL_lives_21 : decode cL_lives 21 = .ok (.aload_n 2, 1) := by decide +kernel
theorem dL_lives_22 : decode cL_lives 22 = .ok (.bipush 6, 2) := by decide +kernel
theorem dL_lives_24 : decode cL_lives 24 = .ok (.aload_n 1, 1) := by decide +kernel
theorem dL_lives_25 : decode cL_lives 25 = .ok (.bipush 8, 2) := by decide +kernel
theorem dL_lives_27 : decode cL_lives 27 = .ok (.invokestatic 45, 3) := by decide +kernel
theorem dL_lives_30 : decode cL_lives 30 = .ok (.iadd, 1) := by decide +kernel
theorem dL_lives_31 : decode cL_lives 31 = .ok (.putfield 66, 3) := by decide +kernel
theorem dL_lives_34 : decode cL_lives 34 = .ok (.aload_n 2, 1) := by decide +kernel
theorem dL_lives_35 : decode cL_lives 35 = .ok (.getfield 83, 3) := by decide +kernel
theorem dL_lives_38 : decode cL_lives 38 = .ok (.aload_n 2, 1) := by decide +kernel
theorem dL_lives_39 : decode cL_lives 39 = .ok (.invokevirtual 87, 3) := by decide +kernel
theorem dL_lives_42 : decode cL_lives 42 = .ok (.invokeinterface 91 2, 5) := by decide +kernel
theorem dL_lives_47 : decode cL_lives 47 = .ok (.pop, 1) := by decide +kernel
theorem dL_lives_48 : decode cL_lives 48 = .ok (.new 40, 3) := by decide +kernel
theorem dL_lives_51 : decode cL_lives 51 = .ok (.dup, 1) := by decide +kernel
theorem dL_lives_52 : decode cL_lives 52 = .ok (.ldc 97, 2) := by decide +kernel
theorem dL_lives_54 : decode cL_lives 54 = .ok (.invokespecial 99, 3) := by decide +kernel
theorem dL_lives_57 : decode cL_lives 57 = .ok (.aload_n 2, 1) := by decide +kernel
theorem dL_lives_58 : decode cL_lives 58 = .ok (.getfield 60, 3) := by decide +kernel
theorem dL_lives_61 : decode cL_lives 61 = .ok (.invokevirtual 102, 3) := by decide +kernel
theorem dL_lives_64 : decode cL_lives 64 = .ok (.bipush 32, 2) := by decide +kernel
theorem dL_lives_66 : decode cL_lives 66 = .ok (.invokevirtual 49, 3) := by decide +kernel
theorem dL_lives_69 : decode cL_lives 69 = .ok (.aload_n 2, 1) := by decide +kernel
theorem dL_lives_70 : decode cL_lives 70 = .ok (.getfield 66, 3) := by decide +kernel
theorem dL_lives_73 : decode cL_lives 73 = .ok (.invokevirtual 102, 3) := by decide +kernel
theorem dL_lives_76 : decode cL_lives 76 = .ok (.bipush 59, 2) := by decide +kernel
theorem dL_lives_78 : decode cL_lives 78 = .ok (.invokevirtual 49, 3) := by decide +kernel
theorem dL_lives_81 : decode cL_lives 81 = .ok (.astore_n 3, 1) := by decide +kernel
theorem dL_lives_82 : decode cL_lives 82 = .ok (.aload_n 1, 1) := by decide +kernel
theorem dL_lives_83 : decode cL_lives 83 = .ok (.iconst 4, 1) := by decide +kernel
theorem dL_lives_84 : decode cL_lives 84 = .ok (.invokestatic 45, 3) := by decide +kernel
theorem dL_lives_87 : decode cL_lives 87 = .ok (.istore 4, 2) := by decide +kernel
theorem dL_lives_89 : decode cL_lives 89 = .ok (.iload 4, 2) := by decide +kernel
theorem dL_lives_91 : decode cL_lives 91 = .ok (.ifCond .le 114, 3) := by decide +kernel
theorem dL_lives_94 : decode cL_lives 94 = .ok (.aload_n 2, 1) := by decide +kernel
theorem dL_lives_95 : decode cL_lives 95 = .ok (.aload_n 1, 1) := by decide +kernel
theorem dL_lives_96 : decode cL_lives 96 = .ok (.invokestatic 105, 3) := by decide +kernel
theorem dL_lives_99 : decode cL_lives 99 = .ok (.astore 5, 2) := by decide +kernel
theorem dL_lives_101 : decode cL_lives 101 = .ok (.aload 5, 2) := by decide +kernel
theorem dL_lives_103 : decode cL_lives 103 = .ok (.ifnonnull 6, 3) := by decide +kernel
theorem dL_lives_106 : decode cL_lives 106 = .ok (.goto 93, 3) := by decide +kernel
theorem dL_lives_109 : decode cL_lives 109 = .ok (.aload_n 2, 1) := by decide +kernel
theorem dL_lives_110 : decode cL_lives 110 = .ok (.getfield 109, 3) := by decide +kernel
theorem dL_lives_113 : decode cL_lives 113 = .ok (.aload 5, 2) := by decide +kernel
theorem dL_lives_115 : decode cL_lives 115 = .ok (.invokeinterface 91 2, 5) := by decide +kernel
theorem dL_lives_120 : decode cL_lives 120 = .ok (.pop, 1) := by decide +kernel
theorem dL_lives_121 : decode cL_lives 121 = .ok (.aload_n 3, 1) := by decide +kernel
theorem dL_lives_122 : decode cL_lives 122 = .ok (.ldc 112, 2) := by decide +kernel
theorem dL_lives_124 : decode cL_lives 124 = .ok (.invokevirtual 114, 3) := by decide +kernel
theorem dL_lives_127 : decode cL_lives 127 = .ok (.aload 5, 2) := by decide +kernel
theorem dL_lives_129 : decode cL_lives 129 = .ok (.getfield 117, 3) := by decide +kernel
theorem dL_lives_132 : decode cL_lives 132 = .ok (.invokevirtual 114, 3) := by decide +kernel
theorem dL_lives_135 : decode cL_lives 135 = .ok (.aload 5, 2) := by decide +kernel
theorem dL_lives_137 : decode cL_lives 137 = .ok (.getfield 120, 3) := by decide +kernel
theorem dL_lives_140 : decode cL_lives 140 = .ok (.iconst 1, 1) := by decide +kernel
theorem dL_lives_141 : decode cL_lives 141 = .ok (.if_icmp .ne 8, 3) := by decide +kernel
theorem dL_lives_144 : decode cL_lives 144 = .ok (.ldc 123, 2) := by decide +kernel
theorem dL_lives_146 : decode cL_lives 146 = .ok (.goto 5, 3) := by decide +kernel
theorem dL_lives_149 : decode cL_lives 149 = .ok (.ldc 125, 2) := by decide +kernel
theorem dL_lives_151 : decode cL_lives 151 = .ok (.invokevirtual 114, 3) := by decide +kernel
theorem dL_lives_154 : decode cL_lives 154 = .ok (.ldc 127, 2) := by decide +kernel
theorem dL_lives_156 : decode cL_lives 156 = .ok (.invokevirtual 114, 3) := by decide +kernel
theorem dL_lives_159 : decode cL_lives 159 = .ok (.aload 5, 2) := by decide +kernel
theorem dL_lives_161 : decode cL_lives 161 = .ok (.getfield 129, 3) := by decide +kernel
theorem dL_lives_164 : decode cL_lives 164 = .ok (.invokevirtual 102, 3) := by decide +kernel
theorem dL_lives_167 : decode cL_lives 167 = .ok (.bipush 32, 2) := by decide +kernel
theorem dL_lives_169 : decode cL_lives 169 = .ok (.invokevirtual 49, 3) := by decide +kernel
theorem dL_lives_172 : decode cL_lives 172 = .ok (.aload 5, 2) := by decide +kernel
theorem dL_lives_174 : decode cL_lives 174 = .ok (.getfield 132, 3) := by decide +kernel
theorem dL_lives_177 : decode cL_lives 177 = .ok (.invokevirtual 102, 3) := by decide +kernel
theorem dL_lives_180 : decode cL_lives 180 = .ok (.ldc 135, 2) := by decide +kernel
theorem dL_lives_182 : decode cL_lives 182 = .ok (.invokevirtual 114, 3) := by decide +kernel
theorem dL_lives_185 : decode cL_lives 185 = .ok (.aload 5, 2) := by decide +kernel
theorem dL_lives_187 : decode cL_lives 187 = .ok (.getfield 137, 3) := by decide +kernel
theorem dL_lives_190 : decode cL_lives 190 = .ok (.invokevirtual 102, 3) := by decide +kernel
theorem dL_lives_193 : decode cL_lives 193 = .ok (.bipush 59, 2) := by decide +kernel
theorem dL_lives_195 : decode cL_lives 195 = .ok (.invokevirtual 49, 3) := by decide +kernel
theorem dL_lives_198 : decode cL_lives 198 = .ok (.pop, 1) := by decide +kernel
theorem dL_lives_199 : decode cL_lives 199 = .ok (.iinc 4 (-1), 3) := by decide +kernel
theorem dL_lives_202 : decode cL_lives 202 = .ok (.goto (-113), 3) := by decide +kernel
theorem dL_lives_205 : decode cL_lives 205 = .ok (.aload_n 1, 1) := by decide +kernel
theorem dL_lives_206 : decode cL_lives 206 = .ok (.iconst 2, 1) := by decide +kernel
theorem dL_lives_207 : decode cL_lives 207 = .ok (.invokestatic 45, 3) := by decide +kernel
theorem dL_lives_210 : decode cL_lives 210 = .ok (.ifCond .ne 32, 3) := by decide +kernel
theorem dL_lives_213 : decode cL_lives 213 = .ok (.aload_n 2, 1) := by decide +kernel
theorem dL_lives_214 : decode cL_lives 214 = .ok (.aload_n 1, 1) := by decide +kernel
theorem dL_lives_215 : decode cL_lives 215 = .ok (.bipush 7, 2) := by decide +kernel
theorem dL_lives_217 : decode cL_lives 217 = .ok (.invokestatic 45, 3) := by decide +kernel
theorem dL_lives_220 : decode cL_lives 220 = .ok (.putfield 140, 3) := by decide +kernel
theorem dL_lives_223 : decode cL_lives 223 = .ok (.aload_n 3, 1) := by decide +kernel
theorem dL_lives_224 : decode cL_lives 224 = .ok (.ldc 143, 2) := by decide +kernel
theorem dL_lives_226 : decode cL_lives 226 = .ok (.invokevirtual 114, 3) := by decide +kernel
theorem dL_lives_229 : decode cL_lives 229 = .ok (.aload_n 2, 1) := by decide +kernel
theorem dL_lives_230 : decode cL_lives 230 = .ok (.getfield 140, 3) := by decide +kernel
theorem dL_lives_233 : decode cL_lives 233 = .ok (.invokevirtual 102, 3) := by decide +kernel
theorem dL_lives_236 : decode cL_lives 236 = .ok (.bipush 59, 2) := by decide +kernel
theorem dL_lives_238 : decode cL_lives 238 = .ok (.invokevirtual 49, 3) := by decide +kernel
theorem dL_lives_241 : decode cL_lives 241 = .ok (.pop, 1) := by decide +kernel
theorem dL_lives_242 : decode cL_lives 242 = .ok (.iconst 0, 1) := by decide +kernel
theorem dL_lives_243 : decode cL_lives 243 = .ok (.istore 4, 2) := by decide +kernel
theorem dL_lives_245 : decode cL_lives 245 = .ok (.iload 4, 2) := by decide +kernel
theorem dL_lives_247 : decode cL_lives 247 = .ok (.bipush 7, 2) := by decide +kernel
theorem dL_lives_249 : decode cL_lives 249 = .ok (.if_icmp .ge 86, 3) := by decide +kernel
theorem dL_lives_252 : decode cL_lives 252 = .ok (.aload_n 1, 1) := by decide +kernel
theorem dL_lives_253 : decode cL_lives 253 = .ok (.iconst 3, 1) := by decide +kernel
theorem dL_lives_254 : decode cL_lives 254 = .ok (.invokestatic 45, 3) := by decide +kernel
theorem dL_lives_257 : decode cL_lives 257 = .ok (.ifCond .le 6, 3) := by decide +kernel
theorem dL_lives_260 : decode cL_lives 260 = .ok (.goto 69, 3) := by decide +kernel
theorem dL_lives_263 : decode cL_lives 263 = .ok (.aload_n 2, 1) := by decide +kernel
theorem dL_lives_264 : decode cL_lives 264 = .ok (.getfield 145, 3) := by decide +kernel
theorem dL_lives_267 : decode cL_lives 267 = .ok (.iload 4, 2) := by decide +kernel
theorem dL_lives_269 : decode cL_lives 269 = .ok (.aload_n 1, 1) := by decide +kernel
theorem dL_lives_270 : decode cL_lives 270 = .ok (.iconst 2, 1) := by decide +kernel
theorem dL_lives_271 : decode cL_lives 271 = .ok (.invokestatic 45, 3) := by decide +kernel
theorem dL_lives_274 : decode cL_lives 274 = .ok (.ifCond .ne 12, 3) := by decide +kernel
theorem dL_lives_277 : decode cL_lives 277 = .ok (.aload_n 1, 1) := by decide +kernel
theorem dL_lives_278 : decode cL_lives 278 = .ok (.bipush 40, 2) := by decide +kernel
theorem dL_lives_280 : decode cL_lives 280 = .ok (.invokestatic 45, 3) := by decide +kernel
theorem dL_lives_283 : decode cL_lives 283 = .ok (.goto 13, 3) := by decide +kernel
theorem dL_lives_286 : decode cL_lives 286 = .ok (.bipush 100, 2) := by decide +kernel
theorem dL_lives_288 : decode cL_lives 288 = .ok (.aload_n 1, 1) := by decide +kernel
theorem dL_lives_289 : decode cL_lives 289 = .ok (.sipush 300, 3) := by decide +kernel
theorem dL_lives_292 : decode cL_lives 292 = .ok (.invokestatic 45, 3) := by decide +kernel
theorem dL_lives_295 : decode cL_lives 295 = .ok (.iadd, 1) := by decide +kernel
theorem dL_lives_296 : decode cL_lives 296 = .ok (.iastore, 1) := by decide +kernel
theorem dL_lives_297 : decode cL_lives 297 = .ok (.aload_n 3, 1) := by decide +kernel
theorem dL_lives_298 : decode cL_lives 298 = .ok (.ldc 148, 2) := by decide +kernel
theorem dL_lives_300 : decode cL_lives 300 = .ok (.invokevirtual 114, 3) := by decide +kernel
theorem dL_lives_303 : decode cL_lives 303 = .ok (.iload 4, 2) := by decide +kernel
theorem dL_lives_305 : decode cL_lives 305 = .ok (.invokevirtual 102, 3) := by decide +kernel
theorem dL_lives_308 : decode cL_lives 308 = .ok (.bipush 32, 2) := by decide +kernel
theorem dL_lives_310 : decode cL_lives 310 = .ok (.invokevirtual 49, 3) := by decide +kernel
theorem dL_lives_313 : decode cL_lives 313 = .ok (.aload_n 2, 1) := by decide +kernel
theorem dL_lives_314 : decode cL_lives 314 = .ok (.getfield 145, 3) := by decide +kernel
theorem dL_lives_317 : decode cL_lives 317 = .ok (.iload 4, 2) := by decide +kernel
theorem dL_lives_319 : decode cL_lives 319 = .ok (.iaload, 1) := by decide +kernel
theorem dL_lives_320 : decode cL_lives 320 = .ok (.invokevirtual 102, 3) := by decide +kernel
theorem dL_lives_323 : decode cL_lives 323 = .ok (.bipush 59, 2) := by decide +kernel
theorem dL_lives_325 : decode cL_lives 325 = .ok (.invokevirtual 49, 3) := by decide +kernel
theorem dL_lives_328 : decode cL_lives 328 = .ok (.pop, 1) := by decide +kernel
theorem dL_lives_329 : decode cL_lives 329 = .ok (.iinc 4 1, 3) := by decide +kernel
theorem dL_lives_332 : decode cL_lives 332 = .ok (.goto (-87), 3) := by decide +kernel
theorem dL_lives_335 : decode cL_lives 335 = .ok (.bipush 9, 2) := by decide +kernel
theorem dL_lives_337 : decode cL_lives 337 = .ok (.newarray .int, 2) := by decide +kernel
theorem dL_lives_339 : decode cL_lives 339 = .ok (.astore 4, 2) := by decide +kernel
theorem dL_lives_341 : decode cL_lives 341 = .ok (.iconst 0, 1) := by decide +kernel
theorem dL_lives_342 : decode cL_lives 342 = .ok (.istore 5, 2) := by decide +kernel
theorem dL_lives_344 : decode cL_lives 344 = .ok (.iload 5, 2) := by decide +kernel
theorem dL_lives_346 : decode cL_lives 346 = .ok (.bipush 9, 2) := by decide +kernel
theorem dL_lives_348 : decode cL_lives 348 = .ok (.if_icmp .ge 20, 3) := by decide +kernel
theorem dL_lives_351 : decode cL_lives 351 = .ok (.aload 4, 2) := by decide +kernel
theorem dL_lives_353 : decode cL_lives 353 = .ok (.iload 5, 2) := by decide +kernel
theorem dL_lives_355 : decode cL_lives 355 = .ok (.aload_n 0, 1) := by decide +kernel
theorem dL_lives_356 : decode cL_lives 356 = .ok (.iload 5, 2) := by decide +kernel
theorem dL_lives_358 : decode cL_lives 358 = .ok (.invokevirtual 150, 3) := by decide +kernel
theorem dL_lives_361 : decode cL_lives 361 = .ok (.iastore, 1) := by decide +kernel
theorem dL_lives_362 : decode cL_lives 362 = .ok (.iinc 5 1, 3) := by decide +kernel
theorem dL_lives_365 : decode cL_lives 365 = .ok (.goto (-21), 3) := by decide +kernel
theorem dL_lives_368 : decode cL_lives 368 = .ok (.aload_n 0, 1) := by decide +kernel
theorem dL_lives_369 : decode cL_lives 369 = .ok (.aload_n 3, 1) := by decide +kernel
theorem dL_lives_370 : decode cL_lives 370 = .ok (.invokevirtual 52, 3) := by decide +kernel
theorem dL_lives_373 : decode cL_lives 373 = .ok (.invokestatic 153, 3) := by decide +kernel
theorem dL_lives_376 : decode cL_lives 376 = .ok (.ifCond .eq 27, 3) := by decide +kernel
theorem dL_lives_379 : decode cL_lives 379 = .ok (.aload_n 0, 1) := by decide +kernel
theorem dL_lives_380 : decode cL_lives 380 = .ok (.invokevirtual 157, 3) := by decide +kernel
theorem dL_lives_383 : decode cL_lives 383 = .ok (.aload_n 2, 1) := by decide +kernel
theorem dL_lives_384 : decode cL_lives 384 = .ok (.getfield 109, 3) := by decide +kernel
theorem dL_lives_387 : decode cL_lives 387 = .ok (.invokeinterface 160 1, 5) := by decide +kernel
theorem dL_lives_392 : decode cL_lives 392 = .ok (.if_icmp .ne 11, 3) := by decide +kernel
theorem dL_lives_395 : decode cL_lives 395 = .ok (.aload_n 0, 1) := by decide +kernel
theorem dL_lives_396 : decode cL_lives 396 = .ok (.aload_n 2, 1) := by decide +kernel
theorem dL_lives_397 : decode cL_lives 397 = .ok (.invokestatic 163, 3) := by decide +kernel
theorem dL_lives_400 : decode cL_lives 400 = .ok (.ifCond .ne 5, 3) := by decide +kernel
theorem dL_lives_403 : decode cL_lives 403 = .ok (.iconst 0, 1) := by decide +kernel
theorem dL_lives_404 : decode cL_lives 404 = .ok (.ireturn, 1) := by decide +kernel
theorem dL_lives_405 : decode cL_lives 405 = .ok (.iconst 0, 1) := by decide +kernel
theorem dL_lives_406 : decode cL_lives 406 = .ok (.istore 5, 2) := by decide +kernel
theorem dL_lives_408 : decode cL_lives 408 = .ok (.iload 5, 2) := by decide +kernel
theorem dL_lives_410 : decode cL_lives 410 = .ok (.bipush 22, 2) := by decide +kernel
theorem dL_lives_412 : decode cL_lives 412 = .ok (.if_icmp .ge 39, 3) := by decide +kernel
theorem dL_lives_415 : decode cL_lives 415 = .ok (.aload_n 0, 1) := by decide +kernel
theorem dL_lives_416 : decode cL_lives 416 = .ok (.aload_n 2, 1) := by decide +kernel
theorem dL_lives_417 : decode cL_lives 417 = .ok (.aload_n 1, 1) := by decide +kernel
theorem dL_lives_418 : decode cL_lives 418 = .ok (.aload 4, 2) := by decide +kernel
theorem dL_lives_420 : decode cL_lives 420 = .ok (.invokestatic 167, 3) := by decide +kernel
theorem dL_lives_423 : decode cL_lives 423 = .ok (.ifCond .eq 20, 3) := by decide +kernel
theorem dL_lives_426 : decode cL_lives 426 = .ok (.aload_n 0, 1) := by decide +kernel
theorem dL_lives_427 : decode cL_lives 427 = .ok (.aload_n 2, 1) := by decide +kernel
theorem dL_lives_428 : decode cL_lives 428 = .ok (.invokestatic 163, 3) := by decide +kernel
theorem dL_lives_431 : decode cL_lives 431 = .ok (.ifCond .eq 12, 3) := by decide +kernel
theorem dL_lives_434 : decode cL_lives 434 = .ok (.aload_n 0, 1) := by decide +kernel
theorem dL_lives_435 : decode cL_lives 435 = .ok (.aload_n 2, 1) := by decide +kernel
theorem dL_lives_436 : decode cL_lives 436 = .ok (.aload_n 1, 1) := by decide +kernel
theorem dL_lives_437 : decode cL_lives 437 = .ok (.invokestatic 171, 3) := by decide +kernel
theorem dL_lives_440 : decode cL_lives 440 = .ok (.ifCond .ne 5, 3) := by decide +kernel
theorem dL_lives_443 : decode cL_lives 443 = .ok (.iconst 0, 1) := by decide +kernel
theorem dL_lives_444 : decode cL_lives 444 = .ok (.ireturn, 1) := by decide +kernel
theorem dL_lives_445 : decode cL_lives 445 = .ok (.iinc 5 1, 3) := by decide +kernel
theorem dL_lives_448 : decode cL_lives 448 = .ok (.goto (-40), 3) := by decide +kernel
theorem dL_lives_451 : decode cL_lives 451 = .ok (.iconst 0, 1) := by decide +kernel
theorem dL_lives_452 : decode cL_lives 452 = .ok (.istore 5, 2) := by decide +kernel
theorem dL_lives_454 : decode cL_lives 454 = .ok (.iload 5, 2) := by decide +kernel
theorem dL_lives_456 : decode cL_lives 456 = .ok (.bipush 9, 2) := by decide +kernel
theorem dL_lives_458 : decode cL_lives 458 = .ok (.if_icmp .ge 25, 3) := by decide +kernel
theorem dL_lives_461 : decode cL_lives 461 = .ok (.aload_n 0, 1) := by decide +kernel
theorem dL_lives_462 : decode cL_lives 462 = .ok (.iload 5, 2) := by decide +kernel
theorem dL_lives_464 : decode cL_lives 464 = .ok (.invokevirtual 150, 3) := by decide +kernel
theorem dL_lives_467 : decode cL_lives 467 = .ok (.aload 4, 2) := by decide +kernel
theorem dL_lives_469 : decode cL_lives 469 = .ok (.iload 5, 2) := by decide +kernel
theorem dL_lives_471 : decode cL_lives 471 = .ok (.iaload, 1) := by decide +kernel
theorem dL_lives_472 : decode cL_lives 472 = .ok (.if_icmp .eq 5, 3) := by decide +kernel
theorem dL_lives_475 : decode cL_lives 475 = .ok (.iconst 0, 1) := by decide +kernel
theorem dL_lives_476 : decode cL_lives 476 = .ok (.ireturn, 1) := by decide +kernel
theorem dL_lives_477 : decode cL_lives 477 = .ok (.iinc 5 1, 3) := by decide +kernel
theorem dL_lives_480 : decode cL_lives 480 = .ok (.goto (-26), 3) := by decide +kernel
theorem dL_lives_483 : decode cL_lives 483 = .ok (.iconst 1, 1) := by decide +kernel
theorem dL_lives_484 : decode cL_lives 484 = .ok (.ireturn, 1) := by decide +kernel
theorem dL_isTold_0 : decode cL_isTold 0 = .ok (.aload_n 3, 1) := by decide +kernel
theorem dL_isTold_1 : decode cL_isTold 1 = .ok (.getfield 117, 3) := by decide +kernel
theorem dL_isTold_4 : decode cL_isTold 4 = .ok (.invokevirtual 7, 3) := by decide +kernel
theorem dL_isTold_7 : decode cL_isTold 7 = .ok (.istore 4, 2) := by decide +kernel
theorem dL_isTold_9 : decode cL_isTold 9 = .ok (.aload_n 3, 1) := by decide +kernel
theorem dL_isTold_10 : decode cL_isTold 10 = .ok (.getfield 132, 3) := by decide +kernel
theorem dL_isTold_13 : decode cL_isTold 13 = .ok (.iconst 5, 1) := by decide +kernel
theorem dL_isTold_14 : decode cL_isTold 14 = .ok (.iadd, 1) := by decide +kernel
theorem dL_isTold_15 : decode cL_isTold 15 = .ok (.aload_n 1, 1) := by decide +kernel
theorem dL_isTold_16 : decode cL_isTold 16 = .ok (.invokevirtual 186, 3) := by decide +kernel
theorem dL_isTold_19 : decode cL_isTold 19 = .ok (.if_icmp .gt 7, 3) := by decide +kernel
theorem dL_isTold_22 : decode cL_isTold 22 = .ok (.iconst 1, 1) := by decide +kernel
theorem dL_isTold_23 : decode cL_isTold 23 = .ok (.goto 4, 3) := by decide +kernel
theorem dL_isTold_26 : decode cL_isTold 26 = .ok (.iconst 0, 1) := by decide +kernel
theorem dL_isTold_27 : decode cL_isTold 27 = .ok (.istore 5, 2) := by decide +kernel
theorem dL_isTold_29 : decode cL_isTold 29 = .ok (.bipush 10, 2) := by decide +kernel
theorem dL_isTold_31 : decode cL_isTold 31 = .ok (.newarray .int, 2) := by decide +kernel
theorem dL_isTold_33 : decode cL_isTold 33 = .ok (.dup, 1) := by decide +kernel
theorem dL_isTold_34 : decode cL_isTold 34 = .ok (.iconst 0, 1) := by decide +kernel
theorem dL_isTold_35 : decode cL_isTold 35 = .ok (.iload 4, 2) := by decide +kernel
theorem dL_isTold_37 : decode cL_isTold 37 = .ok (.iastore, 1) := by decide +kernel
theorem dL_isTold_38 : decode cL_isTold 38 = .ok (.dup, 1) := by decide +kernel
theorem dL_isTold_39 : decode cL_isTold 39 = .ok (.iconst 1, 1) := by decide +kernel
theorem dL_isTold_40 : decode cL_isTold 40 = .ok (.aload_n 3, 1) := by decide +kernel
theorem dL_isTold_41 : decode cL_isTold 41 = .ok (.getfield 120, 3) := by decide +kernel
theorem dL_isTold_44 : decode cL_isTold 44 = .ok (.iastore, 1) := by decide +kernel
theorem dL_isTold_45 : decode cL_isTold 45 = .ok (.dup, 1) := by decide +kernel
theorem dL_isTold_46 : decode cL_isTold 46 = .ok (.iconst 2, 1) := by decide +kernel
theorem dL_isTold_47 : decode cL_isTold 47 = .ok (.aload_n 3, 1) := by decide +kernel
theorem dL_isTold_48 : decode cL_isTold 48 = .ok (.getfield 129, 3) := by decide +kernel
theorem dL_isTold_51 : decode cL_isTold 51 = .ok (.iastore, 1) := by decide +kernel
theorem dL_isTold_52 : decode cL_isTold 52 = .ok (.dup, 1) := by decide +kernel
theorem dL_isTold_53 : decode cL_isTold 53 = .ok (.iconst 3, 1) := by decide +kernel
theorem dL_isTold_54 : decode cL_isTold 54 = .ok (.aload_n 3, 1) := by decide +kernel
theorem dL_isTold_55 : decode cL_isTold 55 = .ok (.getfield 132, 3) := by decide +kernel
theorem dL_isTold_58 : decode cL_isTold 58 = .ok (.iastore, 1) := by decide +kernel
theorem dL_isTold_59 : decode cL_isTold 59 = .ok (.dup, 1) := by decide +kernel
theorem dL_isTold_60 : decode cL_isTold 60 = .ok (.iconst 4, 1) := by decide +kernel
theorem dL_isTold_61 : decode cL_isTold 61 = .ok (.aload_n 3, 1) := by decide +kernel
theorem dL_isTold_62 : decode cL_isTold 62 = .ok (.getfield 137, 3) := by decide +kernel
theorem dL_isTold_65 : decode cL_isTold 65 = .ok (.iastore, 1) := by decide +kernel
theorem dL_isTold_66 : decode cL_isTold 66 = .ok (.dup, 1) := by decide +kernel
theorem dL_isTold_67 : decode cL_isTold 67 = .ok (.iconst 5, 1) := by decide +kernel
theorem dL_isTold_68 : decode cL_isTold 68 = .ok (.iconst 0, 1) := by decide +kernel
theorem dL_isTold_69 : decode cL_isTold 69 = .ok (.iconst 5, 1) := by decide +kernel
theorem dL_isTold_70 : decode cL_isTold 70 = .ok (.aload_n 1, 1) := by decide +kernel
theorem dL_isTold_71 : decode cL_isTold 71 = .ok (.invokevirtual 186, 3) := by decide +kernel
theorem dL_isTold_74 : decode cL_isTold 74 = .ok (.aload_n 3, 1) := by decide +kernel
theorem dL_isTold_75 : decode cL_isTold 75 = .ok (.getfield 132, 3) := by decide +kernel
theorem dL_isTold_78 : decode cL_isTold 78 = .ok (.isub, 1) := by decide +kernel
theorem dL_isTold_79 : decode cL_isTold 79 = .ok (.invokestatic 230, 3) := by decide +kernel
theorem dL_isTold_82 : decode cL_isTold 82 = .ok (.invokestatic 235, 3) := by decide +kernel
theorem dL_isTold_85 : decode cL_isTold 85 = .ok (.iastore, 1) := by decide +kernel
theorem dL_isTold_86 : decode cL_isTold 86 = .ok (.dup, 1) := by decide +kernel
theorem dL_isTold_87 : decode cL_isTold 87 = .ok (.bipush 6, 2) := by decide +kernel
theorem dL_isTold_89 : decode cL_isTold 89 = .ok (.iconst 0, 1) := by decide +kernel
theorem dL_isTold_90 : decode cL_isTold 90 = .ok (.iastore, 1) := by decide +kernel
theorem dL_isTold_91 : decode cL_isTold 91 = .ok (.dup, 1) := by decide +kernel
theorem dL_isTold_92 : decode cL_isTold 92 = .ok (.bipush 7, 2) := by decide +kernel
theorem dL_isTold_94 : decode cL_isTold 94 = .ok (.iconst 0, 1) := by decide +kernel
theorem dL_isTold_95 : decode cL_isTold 95 = .ok (.iastore, 1) := by decide +kernel
theorem dL_isTold_96 : decode cL_isTold 96 = .ok (.dup, 1) := by decide +kernel
theorem dL_isTold_97 : decode cL_isTold 97 = .ok (.bipush 8, 2) := by decide +kernel
theorem dL_isTold_99 : decode cL_isTold 99 = .ok (.iconst 0, 1) := by decide +kernel
theorem dL_isTold_100 : decode cL_isTold 100 = .ok (.iastore, 1) := by decide +kernel
theorem dL_isTold_101 : decode cL_isTold 101 = .ok (.dup, 1) := by decide +kernel
theorem dL_isTold_102 : decode cL_isTold 102 = .ok (.bipush 9, 2) := by decide +kernel
theorem dL_isTold_104 : decode cL_isTold 104 = .ok (.iconst 0, 1) := by decide +kernel
theorem dL_isTold_105 : decode cL_isTold 105 = .ok (.iastore, 1) := by decide +kernel
theorem dL_isTold_106 : decode cL_isTold 106 = .ok (.astore 6, 2) := by decide +kernel
theorem dL_isTold_108 : decode cL_isTold 108 = .ok (.iconst 0, 1) := by decide +kernel
theorem dL_isTold_109 : decode cL_isTold 109 = .ok (.istore 7, 2) := by decide +kernel
theorem dL_isTold_111 : decode cL_isTold 111 = .ok (.iload 7, 2) := by decide +kernel
theorem dL_isTold_113 : decode cL_isTold 113 = .ok (.iload 4, 2) := by decide +kernel
theorem dL_isTold_115 : decode cL_isTold 115 = .ok (.if_icmp .ge 211, 3) := by decide +kernel
theorem dL_isTold_118 : decode cL_isTold 118 = .ok (.aload_n 3, 1) := by decide +kernel
theorem dL_isTold_119 : decode cL_isTold 119 = .ok (.getfield 117, 3) := by decide +kernel
theorem dL_isTold_122 : decode cL_isTold 122 = .ok (.iload 7, 2) := by decide +kernel
theorem dL_isTold_124 : decode cL_isTold 124 = .ok (.invokevirtual 13, 3) := by decide +kernel
theorem dL_isTold_127 : decode cL_isTold 127 = .ok (.bipush 97, 2) := by decide +kernel
theorem dL_isTold_129 : decode cL_isTold 129 = .ok (.isub, 1) := by decide +kernel
theorem dL_isTold_130 : decode cL_isTold 130 = .ok (.iconst 1, 1) := by decide +kernel
theorem dL_isTold_131 : decode cL_isTold 131 = .ok (.iadd, 1) := by decide +kernel
theorem dL_isTold_132 : decode cL_isTold 132 = .ok (.istore 8, 2) := by decide +kernel
theorem dL_isTold_134 : decode cL_isTold 134 = .ok (.iload 5, 2) := by decide +kernel
theorem dL_isTold_136 : decode cL_isTold 136 = .ok (.ifCond .eq 14, 3) := by decide +kernel
theorem dL_isTold_139 : decode cL_isTold 139 = .ok (.aload_n 1, 1) := by decide +kernel
theorem dL_isTold_140 : decode cL_isTold 140 = .ok (.aload_n 3, 1) := by decide +kernel
theorem dL_isTold_141 : decode cL_isTold 141 = .ok (.iload 7, 2) := by decide +kernel
theorem dL_isTold_143 : decode cL_isTold 143 = .ok (.iconst 0, 1) := by decide +kernel
theorem dL_isTold_144 : decode cL_isTold 144 = .ok (.invokevirtual 238, 3) := by decide +kernel
theorem dL_isTold_147 : decode cL_isTold 147 = .ok (.goto 4, 3) := by decide +kernel
theorem dL_isTold_150 : decode cL_isTold 150 = .ok (.iconst (-1), 1) := by decide +kernel
theorem dL_isTold_151 : decode cL_isTold 151 = .ok (.istore 9, 2) := by decide +kernel
theorem dL_isTold_153 : decode cL_isTold 153 = .ok (.iconst 4, 1) := by decide +kernel
theorem dL_isTold_154 : decode cL_isTold 154 = .ok (.newarray .int, 2) := by decide +kernel
theorem dL_isTold_156 : decode cL_isTold 156 = .ok (.dup, 1) := by decide +kernel
theorem dL_isTold_157 : decode cL_isTold 157 = .ok (.iconst 0, 1) := by decide +kernel
theorem dL_isTold_158 : decode cL_isTold 158 = .ok (.iload 8, 2) := by decide +kernel
theorem dL_isTold_160 : decode cL_isTold 160 = .ok (.iastore, 1) := by decide +kernel
theorem dL_isTold_161 : decode cL_isTold 161 = .ok (.dup, 1) := by decide +kernel
theorem dL_isTold_162 : decode cL_isTold 162 = .ok (.iconst 1, 1) := by decide +kernel
theorem dL_isTold_163 : decode cL_isTold 163 = .ok (.iload 5, 2) := by decide +kernel
theorem dL_isTold_165 : decode cL_isTold 165 = .ok (.ifCond .eq 11, 3) := by decide +kernel
theorem dL_isTold_168 : decode cL_isTold 168 = .ok (.iload 9, 2) := by decide +kernel
theorem dL_isTold_170 : decode cL_isTold 170 = .ok (.invokestatic 242, 3) := by decide +kernel
theorem dL_isTold_173 : decode cL_isTold 173 = .ok (.goto 4, 3) := by decide +kernel
theorem dL_isTold_176 : decode cL_isTold 176 = .ok (.iconst (-1), 1) := by decide +kernel
theorem dL_isTold_177 : decode cL_isTold 177 = .ok (.iastore, 1) := by decide +kernel
theorem dL_isTold_178 : decode cL_isTold 178 = .ok (.dup, 1) := by decide +kernel
theorem dL_isTold_179 : decode cL_isTold 179 = .ok (.iconst 2, 1) := by decide +kernel
theorem dL_isTold_180 : decode cL_isTold 180 = .ok (.iload 5, 2) := by decide +kernel
theorem dL_isTold_182 : decode cL_isTold 182 = .ok (.ifCond .eq 14, 3) := by decide +kernel
theorem dL_isTold_185 : decode cL_isTold 185 = .ok (.iload 9, 2) := by decide +kernel
theorem dL_isTold_187 : decode cL_isTold 187 = .ok (.invokestatic 245, 3) := by decide +kernel
theorem dL_isTold_190 : decode cL_isTold 190 = .ok (.invokestatic 242, 3) := by decide +kernel
theorem dL_isTold_193 : decode cL_isTold 193 = .ok (.goto 4, 3) := by decide +kernel
theorem dL_isTold_196 : decode cL_isTold 196 = .ok (.iconst (-1), 1) := by decide +kernel
theorem dL_isTold_197 : decode cL_isTold 197 = .ok (.iastore, 1) := by decide +kernel
theorem dL_isTold_198 : decode cL_isTold 198 = .ok (.dup, 1) := by decide +kernel
theorem dL_isTold_199 : decode cL_isTold 199 = .ok (.iconst 3, 1) := by decide +kernel
theorem dL_isTold_200 : decode cL_isTold 200 = .ok (.iload 9, 2) := by decide +kernel
theorem dL_isTold_202 : decode cL_isTold 202 = .ok (.iastore, 1) := by decide +kernel
theorem dL_isTold_203 : decode cL_isTold 203 = .ok (.astore 10, 2) := by decide +kernel
theorem dL_isTold_205 : decode cL_isTold 205 = .ok (.iconst 0, 1) := by decide +kernel
theorem dL_isTold_206 : decode cL_isTold 206 = .ok (.istore 11, 2) := by decide +kernel
theorem dL_isTold_208 : decode cL_isTold 208 = .ok (.iload 11, 2) := by decide +kernel
theorem dL_isTold_210 : decode cL_isTold 210 = .ok (.iconst 4, 1) := by decide +kernel
theorem dL_isTold_211 : decode cL_isTold 211 = .ok (.if_icmp .ge 28, 3) := by decide +kernel
theorem dL_isTold_214 : decode cL_isTold 214 = .ok (.aload_n 0, 1) := by decide +kernel
theorem dL_isTold_215 : decode cL_isTold 215 = .ok (.iload_n 2, 1) := by decide +kernel
theorem dL_isTold_216 : decode cL_isTold 216 = .ok (.iload 7, 2) := by decide +kernel
theorem dL_isTold_218 : decode cL_isTold 218 = .ok (.iload 11, 2) := by decide +kernel
theorem dL_isTold_220 : decode cL_isTold 220 = .ok (.invokevirtual 248, 3) := by decide +kernel
theorem dL_isTold_223 : decode cL_isTold 223 = .ok (.aload 10, 2) := by decide +kernel
theorem dL_isTold_225 : decode cL_isTold 225 = .ok (.iload 11, 2) := by decide +kernel
theorem dL_isTold_227 : decode cL_isTold 227 = .ok (.iaload, 1) := by decide +kernel
theorem dL_isTold_228 : decode cL_isTold 228 = .ok (.if_icmp .eq 5, 3) := by decide +kernel
theorem dL_isTold_231 : decode cL_isTold 231 = .ok (.iconst 0, 1) := by decide +kernel
theorem dL_isTold_232 : decode cL_isTold 232 = .ok (.ireturn, 1) := by decide +kernel
theorem dL_isTold_233 : decode cL_isTold 233 = .ok (.iinc 11 1, 3) := by decide +kernel
theorem dL_isTold_236 : decode cL_isTold 236 = .ok (.goto (-28), 3) := by decide +kernel
theorem dL_isTold_239 : decode cL_isTold 239 = .ok (.aload 6, 2) := by decide +kernel
theorem dL_isTold_241 : decode cL_isTold 241 = .ok (.bipush 6, 2) := by decide +kernel
theorem dL_isTold_243 : decode cL_isTold 243 = .ok (.dup2, 1) := by decide +kernel
theorem dL_isTold_244 : decode cL_isTold 244 = .ok (.iaload, 1) := by decide +kernel
theorem dL_isTold_245 : decode cL_isTold 245 = .ok (.aload 10, 2) := by decide +kernel
theorem dL_isTold_247 : decode cL_isTold 247 = .ok (.iconst 1, 1) := by decide +kernel
theorem dL_isTold_248 : decode cL_isTold 248 = .ok (.iaload, 1) := by decide +kernel
theorem dL_isTold_249 : decode cL_isTold 249 = .ok (.iload 8, 2) := by decide +kernel
theorem dL_isTold_251 : decode cL_isTold 251 = .ok (.if_icmp .ne 7, 3) := by decide +kernel
theorem dL_isTold_254 : decode cL_isTold 254 = .ok (.iconst 1, 1) := by decide +kernel
theorem dL_isTold_255 : decode cL_isTold 255 = .ok (.goto 4, 3) := by decide +kernel
theorem dL_isTold_258 : decode cL_isTold 258 = .ok (.iconst 0, 1) := by decide +kernel
theorem dL_isTold_259 : decode cL_isTold 259 = .ok (.iadd, 1) := by decide +kernel
theorem dL_isTold_260 : decode cL_isTold 260 = .ok (.iastore, 1) := by decide +kernel
theorem dL_isTold_261 : decode cL_isTold 261 = .ok (.aload 6, 2) := by decide +kernel
theorem dL_isTold_263 : decode cL_isTold 263 = .ok (.bipush 7, 2) := by decide +kernel
theorem dL_isTold_265 : decode cL_isTold 265 = .ok (.dup2, 1) := by decide +kernel
theorem dL_isTold_266 : decode cL_isTold 266 = .ok (.iaload, 1) := by decide +kernel
theorem dL_isTold_267 : decode cL_isTold 267 = .ok (.aload 10, 2) := by decide +kernel
theorem dL_isTold_269 : decode cL_isTold 269 = .ok (.iconst 2, 1) := by decide +kernel
theorem dL_isTold_270 : decode cL_isTold 270 = .ok (.iaload, 1) := by decide +kernel
theorem dL_isTold_271 : decode cL_isTold 271 = .ok (.iload 8, 2) := by decide +kernel
theorem dL_isTold_273 : decode cL_isTold 273 = .ok (.if_icmp .ne 7, 3) := by decide +kernel
theorem dL_isTold_276 : decode cL_isTold 276 = .ok (.iconst 1, 1) := by decide +kernel
theorem dL_isTold_277 : decode cL_isTold 277 = .ok (.goto 4, 3) := by decide +kernel
theorem dL_isTold_280 : decode cL_isTold 280 = .ok (.iconst 0, 1) := by decide +kernel
theorem dL_isTold_281 : decode cL_isTold 281 = .ok (.iadd, 1) := by decide +kernel
theorem dL_isTold_282 : decode cL_isTold 282 = .ok (.iastore, 1) := by decide +kernel
theorem dL_isTold_283 : decode cL_isTold 283 = .ok (.aload 6, 2) := by decide +kernel
theorem dL_isTold_285 : decode cL_isTold 285 = .ok (.bipush 8, 2) := by decide +kernel
theorem dL_isTold_287 : decode cL_isTold 287 = .ok (.dup2, 1) := by decide +kernel
theorem dL_isTold_288 : decode cL_isTold 288 = .ok (.iaload, 1) := by decide +kernel
theorem dL_isTold_289 : decode cL_isTold 289 = .ok (.iload 5, 2) := by decide +kernel
theorem dL_isTold_291 : decode cL_isTold 291 = .ok (.ifCond .eq 26, 3) := by decide +kernel
theorem dL_isTold_294 : decode cL_isTold 294 = .ok (.aload_n 1, 1) := by decide +kernel
theorem dL_isTold_295 : decode cL_isTold 295 = .ok (.aload_n 3, 1) := by decide +kernel
theorem dL_isTold_296 : decode cL_isTold 296 = .ok (.iload 7, 2) := by decide +kernel
theorem dL_isTold_298 : decode cL_isTold 298 = .ok (.iconst 1, 1) := by decide +kernel
theorem dL_isTold_299 : decode cL_isTold 299 = .ok (.invokevirtual 238, 3) := by decide +kernel
theorem dL_isTold_302 : decode cL_isTold 302 = .ok (.getstatic 29, 3) := by decide +kernel
theorem dL_isTold_305 : decode cL_isTold 305 = .ok (.iload 8, 2) := by decide +kernel
theorem dL_isTold_307 : decode cL_isTold 307 = .ok (.iconst 1, 1) := by decide +kernel
theorem dL_isTold_308 : decode cL_isTold 308 = .ok (.isub, 1) := by decide +kernel
theorem dL_isTold_309 : decode cL_isTold 309 = .ok (.iaload, 1) := by decide +kernel
theorem dL_isTold_310 : decode cL_isTold 310 = .ok (.if_icmp .ne 7, 3) := by decide +kernel
theorem dL_isTold_313 : decode cL_isTold 313 = .ok (.iconst 1, 1) := by decide +kernel
theorem dL_isTold_314 : decode cL_isTold 314 = .ok (.goto 4, 3) := by decide +kernel
theorem dL_isTold_317 : decode cL_isTold 317 = .ok (.iconst 0, 1) := by decide +kernel
theorem dL_isTold_318 : decode cL_isTold 318 = .ok (.iadd, 1) := by decide +kernel
theorem dL_isTold_319 : decode cL_isTold 319 = .ok (.iastore, 1) := by decide +kernel
theorem dL_isTold_320 : decode cL_isTold 320 = .ok (.iinc 7 1, 3) := by decide +kernel
theorem dL_isTold_323 : decode cL_isTold 323 = .ok (.goto (-212), 3) := by decide +kernel
theorem dL_isTold_326 : decode cL_isTold 326 = .ok (.iconst 1, 1) := by decide +kernel
theorem dL_isTold_327 : decode cL_isTold 327 = .ok (.istore 7, 2) := by decide +kernel
theorem dL_isTold_329 : decode cL_isTold 329 = .ok (.iconst 0, 1) := by decide +kernel
theorem dL_isTold_330 : decode cL_isTold 330 = .ok (.istore 8, 2) := by decide +kernel
theorem dL_isTold_332 : decode cL_isTold 332 = .ok (.iload 8, 2) := by decide +kernel
theorem dL_isTold_334 : decode cL_isTold 334 = .ok (.aload_n 3, 1) := by decide +kernel
theorem dL_isTold_335 : decode cL_isTold 335 = .ok (.invokevirtual 252, 3) := by decide +kernel
theorem dL_isTold_338 : decode cL_isTold 338 = .ok (.if_icmp .ge 120, 3) := by decide +kernel
theorem dL_isTold_341 : decode cL_isTold 341 = .ok (.iconst 0, 1) := by decide +kernel
theorem dL_isTold_342 : decode cL_isTold 342 = .ok (.istore 9, 2) := by decide +kernel
theorem dL_isTold_344 : decode cL_isTold 344 = .ok (.iload 9, 2) := by decide +kernel
theorem dL_isTold_346 : decode cL_isTold 346 = .ok (.iconst 5, 1) := by decide +kernel
theorem dL_isTold_347 : decode cL_isTold 347 = .ok (.if_icmp .ge 105, 3) := by decide +kernel
theorem dL_isTold_350 : decode cL_isTold 350 = .ok (.aload 6, 2) := by decide +kernel
theorem dL_isTold_352 : decode cL_isTold 352 = .ok (.bipush 9, 2) := by decide +kernel
theorem dL_isTold_354 : decode cL_isTold 354 = .ok (.dup2, 1) := by decide +kernel
theorem dL_isTold_355 : decode cL_isTold 355 = .ok (.iaload, 1) := by decide +kernel
theorem dL_isTold_356 : decode cL_isTold 356 = .ok (.aload_n 1, 1) := by decide +kernel
theorem dL_isTold_357 : decode cL_isTold 357 = .ok (.aload_n 3, 1) := by decide +kernel
theorem dL_isTold_358 : decode cL_isTold 358 = .ok (.getfield 120, 3) := by decide +kernel
theorem dL_isTold_361 : decode cL_isTold 361 = .ok (.ifCond .ne 13, 3) := by decide +kernel
theorem dL_isTold_364 : decode cL_isTold 364 = .ok (.aload_n 3, 1) := by decide +kernel
theorem dL_isTold_365 : decode cL_isTold 365 = .ok (.getfield 129, 3) := by decide +kernel
theorem dL_isTold_368 : decode cL_isTold 368 = .ok (.iload 8, 2) := by decide +kernel
theorem dL_isTold_370 : decode cL_isTold 370 = .ok (.iadd, 1) := by decide +kernel
theorem dL_isTold_371 : decode cL_isTold 371 = .ok (.goto 17, 3) := by decide +kernel
theorem dL_isTold_374 : decode cL_isTold 374 = .ok (.aload_n 1, 1) := by decide +kernel
theorem dL_isTold_375 : decode cL_isTold 375 = .ok (.getfield 60, 3) := by decide +kernel
theorem dL_isTold_378 : decode cL_isTold 378 = .ok (.iconst 1, 1) := by decide +kernel
theorem dL_isTold_379 : decode cL_isTold 379 = .ok (.isub, 1) := by decide +kernel
theorem dL_isTold_380 : decode cL_isTold 380 = .ok (.aload_n 3, 1) := by decide +kernel
theorem dL_isTold_381 : decode cL_isTold 381 = .ok (.getfield 129, 3) := by decide +kernel
theorem dL_isTold_384 : decode cL_isTold 384 = .ok (.isub, 1) := by decide +kernel
theorem dL_isTold_385 : decode cL_isTold 385 = .ok (.iload 8, 2) := by decide +kernel
theorem dL_isTold_387 : decode cL_isTold 387 = .ok (.isub, 1) := by decide +kernel
theorem dL_isTold_388 : decode cL_isTold 388 = .ok (.aload_n 3, 1) := by decide +kernel
theorem dL_isTold_389 : decode cL_isTold 389 = .ok (.getfield 132, 3) := by decide +kernel
theorem dL_isTold_392 : decode cL_isTold 392 = .ok (.iload 9, 2) := by decide +kernel
theorem dL_isTold_394 : decode cL_isTold 394 = .ok (.iadd, 1) := by decide +kernel
theorem dL_isTold_395 : decode cL_isTold 395 = .ok (.invokevirtual 254, 3) := by decide +kernel
theorem dL_isTold_398 : decode cL_isTold 398 = .ok (.ifCond .eq 7, 3) := by decide +kernel
theorem dL_isTold_401 : decode cL_isTold 401 = .ok (.iconst 1, 1) := by decide +kernel
theorem dL_isTold_402 : decode cL_isTold 402 = .ok (.goto 4, 3) := by decide +kernel
theorem dL_isTold_405 : decode cL_isTold 405 = .ok (.iconst 0, 1) := by decide +kernel
theorem dL_isTold_406 : decode cL_isTold 406 = .ok (.iadd, 1) := by decide +kernel
theorem dL_isTold_407 : decode cL_isTold 407 = .ok (.iastore, 1) := by decide +kernel
theorem dL_isTold_408 : decode cL_isTold 408 = .ok (.iload 7, 2) := by decide +kernel
theorem dL_isTold_410 : decode cL_isTold 410 = .ok (.ifCond .eq 33, 3) := by decide +kernel
theorem dL_isTold_413 : decode cL_isTold 413 = .ok (.aload_n 3, 1) := by decide +kernel
theorem dL_isTold_414 : decode cL_isTold 414 = .ok (.iload 8, 2) := by decide +kernel
theorem dL_isTold_416 : decode cL_isTold 416 = .ok (.iload 9, 2) := by decide +kernel
theorem dL_isTold_418 : decode cL_isTold 418 = .ok (.invokevirtual 258, 3) := by decide +kernel
theorem dL_isTold_421 : decode cL_isTold 421 = .ok (.aload_n 3, 1) := by decide +kernel
theorem dL_isTold_422 : decode cL_isTold 422 = .ok (.aload_n 3, 1) := by decide +kernel
theorem dL_isTold_423 : decode cL_isTold 423 = .ok (.invokevirtual 252, 3) := by decide +kernel
theorem dL_isTold_426 : decode cL_isTold 426 = .ok (.iconst 1, 1) := by decide +kernel
theorem dL_isTold_427 : decode cL_isTold 427 = .ok (.isub, 1) := by decide +kernel
theorem dL_isTold_428 : decode cL_isTold 428 = .ok (.iload 8, 2) := by decide +kernel
theorem dL_isTold_430 : decode cL_isTold 430 = .ok (.isub, 1) := by decide +kernel
theorem dL_isTold_431 : decode cL_isTold 431 = .ok (.iload 9, 2) := by decide +kernel
theorem dL_isTold_433 : decode cL_isTold 433 = .ok (.invokevirtual 258, 3) := by decide +kernel
theorem dL_isTold_436 : decode cL_isTold 436 = .ok (.if_icmp .ne 7, 3) := by decide +kernel
theorem dL_isTold_439 : decode cL_isTold 439 = .ok (.iconst 1, 1) := by decide +kernel
theorem dL_isTold_440 : decode cL_isTold 440 = .ok (.goto 4, 3) := by decide +kernel
theorem dL_isTold_443 : decode cL_isTold 443 = .ok (.iconst 0, 1) := by decide +kernel
theorem dL_isTold_444 : decode cL_isTold 444 = .ok (.istore 7, 2) := by decide +kernel
theorem dL_isTold_446 : decode cL_isTold 446 = .ok (.iinc 9 1, 3) := by decide +kernel
theorem dL_isTold_449 : decode cL_isTold 449 = .ok (.goto (-105), 3) := by decide +kernel
theorem dL_isTold_452 : decode cL_isTold 452 = .ok (.iinc 8 1, 3) := by decide +kernel
theorem dL_isTold_455 : decode cL_isTold 455 = .ok (.goto (-123), 3) := by decide +kernel
theorem dL_isTold_458 : decode cL_isTold 458 = .ok (.iconst 0, 1) := by decide +kernel
theorem dL_isTold_459 : decode cL_isTold 459 = .ok (.istore 8, 2) := by decide +kernel
theorem dL_isTold_461 : decode cL_isTold 461 = .ok (.iload 8, 2) := by decide +kernel
theorem dL_isTold_463 : decode cL_isTold 463 = .ok (.bipush 10, 2) := by decide +kernel
theorem dL_isTold_465 : decode cL_isTold 465 = .ok (.if_icmp .ge 26, 3) := by decide +kernel
theorem dL_isTold_468 : decode cL_isTold 468 = .ok (.aload_n 0, 1) := by decide +kernel
theorem dL_isTold_469 : decode cL_isTold 469 = .ok (.iload_n 2, 1) := by decide +kernel
theorem dL_isTold_470 : decode cL_isTold 470 = .ok (.iload 8, 2) := by decide +kernel
theorem dL_isTold_472 : decode cL_isTold 472 = .ok (.invokevirtual 203, 3) := by decide +kernel
theorem dL_isTold_475 : decode cL_isTold 475 = .ok (.aload 6, 2) := by decide +kernel
theorem dL_isTold_477 : decode cL_isTold 477 = .ok (.iload 8, 2) := by decide +kernel
theorem dL_isTold_479 : decode cL_isTold 479 = .ok (.iaload, 1) := by decide +kernel
theorem dL_isTold_480 : decode cL_isTold 480 = .ok (.if_icmp .eq 5, 3) := by decide +kernel
theorem dL_isTold_483 : decode cL_isTold 483 = .ok (.iconst 0, 1) := by decide +kernel
theorem dL_isTold_484 : decode cL_isTold 484 = .ok (.ireturn, 1) := by decide +kernel
theorem dL_isTold_485 : decode cL_isTold 485 = .ok (.iinc 8 1, 3) := by decide +kernel
theorem dL_isTold_488 : decode cL_isTold 488 = .ok (.goto (-27), 3) := by decide +kernel
theorem dL_isTold_491 : decode cL_isTold 491 = .ok (.aload_n 0, 1) := by decide +kernel
theorem dL_isTold_492 : decode cL_isTold 492 = .ok (.iload_n 2, 1) := by decide +kernel
theorem dL_isTold_493 : decode cL_isTold 493 = .ok (.invokevirtual 261, 3) := by decide +kernel
theorem dL_isTold_496 : decode cL_isTold 496 = .ok (.iload 7, 2) := by decide +kernel
theorem dL_isTold_498 : decode cL_isTold 498 = .ok (.if_icmp .ne 7, 3) := by decide +kernel
theorem dL_isTold_501 : decode cL_isTold 501 = .ok (.iconst 1, 1) := by decide +kernel
theorem dL_isTold_502 : decode cL_isTold 502 = .ok (.goto 4, 3) := by decide +kernel
theorem dL_isTold_505 : decode cL_isTold 505 = .ok (.iconst 0, 1) := by decide +kernel
theorem dL_isTold_506 : decode cL_isTold 506 = .ok (.ireturn, 1) := by decide +kernel
theorem dL_would_0 : decode cL_would 0 = .ok (.iconst 0, 1) := by decide +kernel
theorem dL_would_1 : decode cL_would 1 = .ok (.istore_n 3, 1) := by decide +kernel
theorem dL_would_2 : decode cL_would 2 = .ok (.aload_n 1, 1) := by decide +kernel
theorem dL_would_3 : decode cL_would 3 = .ok (.invokevirtual 186, 3) := by decide +kernel
theorem dL_would_6 : decode cL_would 6 = .ok (.iload_n 3, 1) := by decide +kernel
theorem dL_would_7 : decode cL_would 7 = .ok (.iadd, 1) := by decide +kernel
theorem dL_would_8 : decode cL_would 8 = .ok (.aload_n 1, 1) := by decide +kernel
theorem dL_would_9 : decode cL_would 9 = .ok (.getfield 66, 3) := by decide +kernel
theorem dL_would_12 : decode cL_would 12 = .ok (.if_icmp .ge 20, 3) := by decide +kernel
theorem dL_would_15 : decode cL_would 15 = .ok (.aload_n 1, 1) := by decide +kernel
theorem dL_would_16 : decode cL_would 16 = .ok (.iload_n 3, 1) := by decide +kernel
theorem dL_would_17 : decode cL_would 17 = .ok (.iconst 1, 1) := by decide +kernel
theorem dL_would_18 : decode cL_would 18 = .ok (.iadd, 1) := by decide +kernel
theorem dL_would_19 : decode cL_would 19 = .ok (.iconst 0, 1) := by decide +kernel
theorem dL_would_20 : decode cL_would 20 = .ok (.invokevirtual 264, 3) := by decide +kernel
theorem dL_would_23 : decode cL_would 23 = .ok (.ifCond .eq 9, 3) := by decide +kernel
theorem dL_would_26 : decode cL_would 26 = .ok (.iinc 3 1, 3) := by decide +kernel
theorem dL_would_29 : decode cL_would 29 = .ok (.goto (-27), 3) := by decide +kernel
theorem dL_would_32 : decode cL_would 32 = .ok (.aload_n 2, 1) := by decide +kernel
theorem dL_would_33 : decode cL_would 33 = .ok (.bipush 8, 2) := by decide +kernel
theorem dL_would_35 : decode cL_would 35 = .ok (.invokestatic 45, 3) := by decide +kernel
theorem dL_would_38 : decode cL_would 38 = .ok (.istore 4, 2) := by decide +kernel
theorem dL_would_40 : decode cL_would 40 = .ok (.iconst 0, 1) := by decide +kernel
theorem dL_would_41 : decode cL_would 41 = .ok (.istore 5, 2) := by decide +kernel
theorem dL_would_43 : decode cL_would 43 = .ok (.aload_n 1, 1) := by decide +kernel
theorem dL_would_44 : decode cL_would 44 = .ok (.invokevirtual 186, 3) := by decide +kernel
theorem dL_would_47 : decode cL_would 47 = .ok (.istore 6, 2) := by decide +kernel
theorem dL_would_49 : decode cL_would 49 = .ok (.iload 6, 2) := by decide +kernel
theorem dL_would_51 : decode cL_would 51 = .ok (.aload_n 1, 1) := by decide +kernel
theorem dL_would_52 : decode cL_would 52 = .ok (.getfield 66, 3) := by decide +kernel
theorem dL_would_55 : decode cL_would 55 = .ok (.if_icmp .ge 92, 3) := by decide +kernel
theorem dL_would_58 : decode cL_would 58 = .ok (.iload 6, 2) := by decide +kernel
theorem dL_would_60 : decode cL_would 60 = .ok (.aload_n 1, 1) := by decide +kernel
theorem dL_would_61 : decode cL_would 61 = .ok (.invokevirtual 186, 3) := by decide +kernel
theorem dL_would_64 : decode cL_would 64 = .ok (.iload 4, 2) := by decide +kernel
theorem dL_would_66 : decode cL_would 66 = .ok (.iadd, 1) := by decide +kernel
theorem dL_would_67 : decode cL_would 67 = .ok (.if_icmp .ge 80, 3) := by decide +kernel
theorem dL_would_70 : decode cL_would 70 = .ok (.iconst 0, 1) := by decide +kernel
theorem dL_would_71 : decode cL_would 71 = .ok (.istore 7, 2) := by decide +kernel
theorem dL_would_73 : decode cL_would 73 = .ok (.iconst 1, 1) := by decide +kernel
theorem dL_would_74 : decode cL_would 74 = .ok (.istore 8, 2) := by decide +kernel
theorem dL_would_76 : decode cL_would 76 = .ok (.iload 8, 2) := by decide +kernel
theorem dL_would_78 : decode cL_would 78 = .ok (.aload_n 1, 1) := by decide +kernel
theorem dL_would_79 : decode cL_would 79 = .ok (.getfield 60, 3) := by decide +kernel
theorem dL_would_82 : decode cL_would 82 = .ok (.if_icmp .ge 42, 3) := by decide +kernel
theorem dL_would_85 : decode cL_would 85 = .ok (.iload 7, 2) := by decide +kernel
theorem dL_would_87 : decode cL_would 87 = .ok (.aload_n 1, 1) := by decide +kernel
theorem dL_would_88 : decode cL_would 88 = .ok (.iload 8, 2) := by decide +kernel
theorem dL_would_90 : decode cL_would 90 = .ok (.iload 6, 2) := by decide +kernel
theorem dL_would_92 : decode cL_would 92 = .ok (.iconst 0, 1) := by decide +kernel
theorem dL_would_93 : decode cL_would 93 = .ok (.invokevirtual 268, 3) := by decide +kernel
theorem dL_would_96 : decode cL_would 96 = .ok (.aload_n 1, 1) := by decide +kernel
theorem dL_would_97 : decode cL_would 97 = .ok (.iload 8, 2) := by decide +kernel
theorem dL_would_99 : decode cL_would 99 = .ok (.iconst 1, 1) := by decide +kernel
theorem dL_would_100 : decode cL_would 100 = .ok (.isub, 1) := by decide +kernel
theorem dL_would_101 : decode cL_would 101 = .ok (.iload 6, 2) := by decide +kernel
theorem dL_would_103 : decode cL_would 103 = .ok (.iconst 0, 1) := by decide +kernel
theorem dL_would_104 : decode cL_would 104 = .ok (.invokevirtual 268, 3) := by decide +kernel
theorem dL_would_107 : decode cL_would 107 = .ok (.if_icmp .ne 7, 3) := by decide +kernel
theorem dL_would_110 : decode cL_would 110 = .ok (.iconst 0, 1) := by decide +kernel
theorem dL_would_111 : decode cL_would 111 = .ok (.goto 4, 3) := by decide +kernel
theorem dL_would_114 : decode cL_would 114 = .ok (.iconst 1, 1) := by decide +kernel
theorem dL_would_115 : decode cL_would 115 = .ok (.iadd, 1) := by decide +kernel
theorem dL_would_116 : decode cL_would 116 = .ok (.istore 7, 2) := by decide +kernel
theorem dL_would_118 : decode cL_would 118 = .ok (.iinc 8 1, 3) := by decide +kernel
theorem dL_would_121 : decode cL_would 121 = .ok (.goto (-45), 3) := by decide +kernel
theorem dL_would_124 : decode cL_would 124 = .ok (.iload 5, 2) := by decide +kernel
theorem dL_would_126 : decode cL_would 126 = .ok (.aload_n 1, 1) := by decide +kernel
theorem dL_would_127 : decode cL_would 127 = .ok (.getfield 60, 3) := by decide +kernel
theorem dL_would_130 : decode cL_would 130 = .ok (.bipush 7, 2) := by decide +kernel
theorem dL_would_132 : decode cL_would 132 = .ok (.iload 7, 2) := by decide +kernel
theorem dL_would_134 : decode cL_would 134 = .ok (.imul, 1) := by decide +kernel
theorem dL_would_135 : decode cL_would 135 = .ok (.iadd, 1) := by decide +kernel
theorem dL_would_136 : decode cL_would 136 = .ok (.iconst 4, 1) := by decide +kernel
theorem dL_would_137 : decode cL_would 137 = .ok (.idiv, 1) := by decide +kernel
theorem dL_would_138 : decode cL_would 138 = .ok (.iadd, 1) := by decide +kernel
theorem dL_would_139 : decode cL_would 139 = .ok (.istore 5, 2) := by decide +kernel
theorem dL_would_141 : decode cL_would 141 = .ok (.iinc 6 1, 3) := by decide +kernel
theorem dL_would_144 : decode cL_would 144 = .ok (.goto (-95), 3) := by decide +kernel
theorem dL_would_147 : decode cL_would 147 = .ok (.aload_n 2, 1) := by decide +kernel
theorem dL_would_148 : decode cL_would 148 = .ok (.aload_n 1, 1) := by decide +kernel
theorem dL_would_149 : decode cL_would 149 = .ok (.getfield 66, 3) := by decide +kernel
theorem dL_would_152 : decode cL_would 152 = .ok (.invokestatic 45, 3) := by decide +kernel
theorem dL_would_155 : decode cL_would 155 = .ok (.istore 6, 2) := by decide +kernel
theorem dL_would_157 : decode cL_would 157 = .ok (.iconst 0, 1) := by decide +kernel
theorem dL_would_158 : decode cL_would 158 = .ok (.istore 7, 2) := by decide +kernel
theorem dL_would_160 : decode cL_would 160 = .ok (.iconst 0, 1) := by decide +kernel
theorem dL_would_161 : decode cL_would 161 = .ok (.istore 8, 2) := by decide +kernel
theorem dL_would_163 : decode cL_would 163 = .ok (.iload 8, 2) := by decide +kernel
theorem dL_would_165 : decode cL_would 165 = .ok (.aload_n 1, 1) := by decide +kernel
theorem dL_would_166 : decode cL_would 166 = .ok (.getfield 60, 3) := by decide +kernel
theorem dL_would_169 : decode cL_would 169 = .ok (.if_icmp .ge 45, 3) := by decide +kernel
theorem dL_would_172 : decode cL_would 172 = .ok (.iload 7, 2) := by decide +kernel
theorem dL_would_174 : decode cL_would 174 = .ok (.aload_n 1, 1) := by decide +kernel
theorem dL_would_175 : decode cL_would 175 = .ok (.iload 8, 2) := by decide +kernel
theorem dL_would_177 : decode cL_would 177 = .ok (.iload 6, 2) := by decide +kernel
theorem dL_would_179 : decode cL_would 179 = .ok (.invokevirtual 179, 3) := by decide +kernel
theorem dL_would_182 : decode cL_would 182 = .ok (.aload_n 1, 1) := by decide +kernel
theorem dL_would_183 : decode cL_would 183 = .ok (.aload_n 1, 1) := by decide +kernel
theorem dL_would_184 : decode cL_would 184 = .ok (.getfield 60, 3) := by decide +kernel
theorem dL_would_187 : decode cL_would 187 = .ok (.iconst 1, 1) := by decide +kernel
theorem dL_would_188 : decode cL_would 188 = .ok (.isub, 1) := by decide +kernel
theorem dL_would_189 : decode cL_would 189 = .ok (.iload 8, 2) := by decide +kernel
theorem dL_would_191 : decode cL_would 191 = .ok (.isub, 1) := by decide +kernel
theorem dL_would_192 : decode cL_would 192 = .ok (.iload 6, 2) := by decide +kernel
theorem dL_would_194 : decode cL_would 194 = .ok (.invokevirtual 179, 3) := by decide +kernel
theorem dL_would_197 : decode cL_would 197 = .ok (.if_icmp .ne 7, 3) := by decide +kernel
theorem dL_would_200 : decode cL_would 200 = .ok (.iconst 0, 1) := by decide +kernel
theorem dL_would_201 : decode cL_would 201 = .ok (.goto 4, 3) := by decide +kernel
theorem dL_would_204 : decode cL_would 204 = .ok (.iconst 1, 1) := by decide +kernel
theorem dL_would_205 : decode cL_would 205 = .ok (.iadd, 1) := by decide +kernel
theorem dL_would_206 : decode cL_would 206 = .ok (.istore 7, 2) := by decide +kernel
theorem dL_would_208 : decode cL_would 208 = .ok (.iinc 8 1, 3) := by decide +kernel
theorem dL_would_211 : decode cL_would 211 = .ok (.goto (-48), 3) := by decide +kernel
theorem dL_would_214 : decode cL_would 214 = .ok (.aload_n 0, 1) := by decide +kernel
theorem dL_would_215 : decode cL_would 215 = .ok (.invokevirtual 272, 3) := by decide +kernel
theorem dL_would_218 : decode cL_would 218 = .ok (.iload_n 3, 1) := by decide +kernel
theorem dL_would_219 : decode cL_would 219 = .ok (.if_icmp .ne 25, 3) := by decide +kernel
theorem dL_would_222 : decode cL_would 222 = .ok (.aload_n 0, 1) := by decide +kernel
theorem dL_would_223 : decode cL_would 223 = .ok (.iload 4, 2) := by decide +kernel
theorem dL_would_225 : decode cL_would 225 = .ok (.invokevirtual 275, 3) := by decide +kernel
theorem dL_would_228 : decode cL_would 228 = .ok (.iload 5, 2) := by decide +kernel
theorem dL_would_230 : decode cL_would 230 = .ok (.if_icmp .ne 14, 3) := by decide +kernel
theorem dL_would_233 : decode cL_would 233 = .ok (.aload_n 0, 1) := by decide +kernel
theorem dL_would_234 : decode cL_would 234 = .ok (.iload 6, 2) := by decide +kernel
theorem dL_would_236 : decode cL_would 236 = .ok (.invokevirtual 278, 3) := by decide +kernel
theorem dL_would_239 : decode cL_would 239 = .ok (.iload 7, 2) := by decide +kernel
theorem dL_would_241 : decode cL_would 241 = .ok (.if_icmp .eq 5, 3) := by decide +kernel
theorem dL_would_244 : decode cL_would 244 = .ok (.iconst 0, 1) := by decide +kernel
theorem dL_would_245 : decode cL_would 245 = .ok (.ireturn, 1) := by decide +kernel
theorem dL_would_246 : decode cL_would 246 = .ok (.iconst 1, 1) := by decide +kernel
theorem dL_would_247 : decode cL_would 247 = .ok (.aload_n 2, 1) := by decide +kernel
theorem dL_would_248 : decode cL_would 248 = .ok (.iconst 3, 1) := by decide +kernel
theorem dL_would_249 : decode cL_would 249 = .ok (.invokestatic 45, 3) := by decide +kernel
theorem dL_would_252 : decode cL_would 252 = .ok (.iadd, 1) := by decide +kernel
theorem dL_would_253 : decode cL_would 253 = .ok (.istore 8, 2) := by decide +kernel
theorem dL_would_255 : decode cL_would 255 = .ok (.aload_n 2, 1) := by decide +kernel
theorem dL_would_256 : decode cL_would 256 = .ok (.iconst 2, 1) := by decide +kernel
theorem dL_would_257 : decode cL_would 257 = .ok (.invokestatic 45, 3) := by decide +kernel
theorem dL_would_260 : decode cL_would 260 = .ok (.istore 9, 2) := by decide +kernel
theorem dL_would_262 : decode cL_would 262 = .ok (.iconst (-1), 1) := by decide +kernel
theorem dL_would_263 : decode cL_would 263 = .ok (.istore 10, 2) := by decide +kernel
theorem dL_would_265 : decode cL_would 265 = .ok (.aload_n 1, 1) := by decide +kernel
theorem dL_would_266 : decode cL_would 266 = .ok (.getfield 66, 3) := by decide +kernel
theorem dL_would_269 : decode cL_would 269 = .ok (.iconst 1, 1) := by decide +kernel
theorem dL_would_270 : decode cL_would 270 = .ok (.isub, 1) := by decide +kernel
theorem dL_would_271 : decode cL_would 271 = .ok (.istore 11, 2) := by decide +kernel
theorem dL_would_273 : decode cL_would 273 = .ok (.iload 11, 2) := by decide +kernel
theorem dL_would_275 : decode cL_would 275 = .ok (.aload_n 1, 1) := by decide +kernel
theorem dL_would_276 : decode cL_would 276 = .ok (.invokevirtual 186, 3) := by decide +kernel
theorem dL_would_279 : decode cL_would 279 = .ok (.if_icmp .lt 82, 3) := by decide +kernel
theorem dL_would_282 : decode cL_would 282 = .ok (.aload_n 1, 1) := by decide +kernel
theorem dL_would_283 : decode cL_would 283 = .ok (.getfield 60, 3) := by decide +kernel
theorem dL_would_286 : decode cL_would 286 = .ok (.iconst 1, 1) := by decide +kernel
theorem dL_would_287 : decode cL_would 287 = .ok (.isub, 1) := by decide +kernel
theorem dL_would_288 : decode cL_would 288 = .ok (.istore 12, 2) := by decide +kernel
theorem dL_would_290 : decode cL_would 290 = .ok (.iload 12, 2) := by decide +kernel
theorem dL_would_292 : decode cL_would 292 = .ok (.ifCond .lt 63, 3) := by decide +kernel
theorem dL_would_295 : decode cL_would 295 = .ok (.aload_n 1, 1) := by decide +kernel
theorem dL_would_296 : decode cL_would 296 = .ok (.iload 8, 2) := by decide +kernel
theorem dL_would_298 : decode cL_would 298 = .ok (.iload 12, 2) := by decide +kernel
theorem dL_would_300 : decode cL_would 300 = .ok (.iload 11, 2) := by decide +kernel
theorem dL_would_302 : decode cL_would 302 = .ok (.invokevirtual 74, 3) := by decide +kernel
theorem dL_would_305 : decode cL_would 305 = .ok (.ifCond .eq 44, 3) := by decide +kernel
theorem dL_would_308 : decode cL_would 308 = .ok (.aload_n 1, 1) := by decide +kernel
theorem dL_would_309 : decode cL_would 309 = .ok (.new 69, 3) := by decide +kernel
theorem dL_would_312 : decode cL_would 312 = .ok (.dup, 1) := by decide +kernel
theorem dL_would_313 : decode cL_would 313 = .ok (.ldc_w 281, 3) := by decide +kernel
theorem dL_would_316 : decode cL_would 316 = .ok (.iconst 0, 1) := by decide +kernel
theorem dL_would_317 : decode cL_would 317 = .ok (.iload 8, 2) := by decide +kernel
theorem dL_would_319 : decode cL_would 319 = .ok (.invokevirtual 283, 3) := by decide +kernel
theorem dL_would_322 : decode cL_would 322 = .ok (.iload 9, 2) := by decide +kernel
theorem dL_would_324 : decode cL_would 324 = .ok (.iload 12, 2) := by decide +kernel
theorem dL_would_326 : decode cL_would 326 = .ok (.iload 11, 2) := by decide +kernel
theorem dL_would_328 : decode cL_would 328 = .ok (.iconst 1, 1) := by decide +kernel
theorem dL_would_329 : decode cL_would 329 = .ok (.invokespecial 71, 3) := by decide +kernel
theorem dL_would_332 : decode cL_would 332 = .ok (.aconst_null, 1) := by decide +kernel
theorem dL_would_333 : decode cL_would 333 = .ok (.invokevirtual 78, 3) := by decide +kernel
theorem dL_would_336 : decode cL_would 336 = .ok (.ifCond .ne 13, 3) := by decide +kernel
theorem dL_would_339 : decode cL_would 339 = .ok (.bipush 100, 2) := by decide +kernel
theorem dL_would_341 : decode cL_would 341 = .ok (.iload 11, 2) := by decide +kernel
theorem dL_would_343 : decode cL_would 343 = .ok (.imul, 1) := by decide +kernel
theorem dL_would_344 : decode cL_would 344 = .ok (.iload 12, 2) := by decide +kernel
theorem dL_would_346 : decode cL_would 346 = .ok (.iadd, 1) := by decide +kernel
theorem dL_would_347 : decode cL_would 347 = .ok (.istore 10, 2) := by decide +kernel
theorem dL_would_349 : decode cL_would 349 = .ok (.iinc 12 (-1), 3) := by decide +kernel
theorem dL_would_352 : decode cL_would 352 = .ok (.goto (-62), 3) := by decide +kernel
theorem dL_would_355 : decode cL_would 355 = .ok (.iinc 11 (-1), 3) := by decide +kernel
theorem dL_would_358 : decode cL_would 358 = .ok (.goto (-85), 3) := by decide +kernel
theorem dL_would_361 : decode cL_would 361 = .ok (.aload_n 0, 1) := by decide +kernel
theorem dL_would_362 : decode cL_would 362 = .ok (.iload 8, 2) := by decide +kernel
theorem dL_would_364 : decode cL_would 364 = .ok (.iload 9, 2) := by decide +kernel
theorem dL_would_366 : decode cL_would 366 = .ok (.invokevirtual 287, 3) := by decide +kernel
theorem dL_would_369 : decode cL_would 369 = .ok (.iload 10, 2) := by decide +kernel
theorem dL_would_371 : decode cL_would 371 = .ok (.if_icmp .ne 38, 3) := by decide +kernel
theorem dL_would_374 : decode cL_would 374 = .ok (.aload_n 0, 1) := by decide +kernel
theorem dL_would_375 : decode cL_would 375 = .ok (.aload_n 1, 1) := by decide +kernel
theorem dL_would_376 : decode cL_would 376 = .ok (.invokestatic 290, 3) := by decide +kernel
theorem dL_would_379 : decode cL_would 379 = .ok (.ifCond .eq 30, 3) := by decide +kernel
theorem dL_would_382 : decode cL_would 382 = .ok (.aload_n 0, 1) := by decide +kernel
theorem dL_would_383 : decode cL_would 383 = .ok (.aload_n 1, 1) := by decide +kernel
theorem dL_would_384 : decode cL_would 384 = .ok (.iload 6, 2) := by decide +kernel
theorem dL_would_386 : decode cL_would 386 = .ok (.aload_n 2, 1) := by decide +kernel
theorem dL_would_387 : decode cL_would 387 = .ok (.iconst 2, 1) := by decide +kernel
theorem dL_would_388 : decode cL_would 388 = .ok (.invokestatic 45, 3) := by decide +kernel
theorem dL_would_391 : decode cL_would 391 = .ok (.ifCond .ne 7, 3) := by decide +kernel
theorem dL_would_394 : decode cL_would 394 = .ok (.iconst 1, 1) := by decide +kernel
theorem dL_would_395 : decode cL_would 395 = .ok (.goto 4, 3) := by decide +kernel
theorem dL_would_398 : decode cL_would 398 = .ok (.iconst 0, 1) := by decide +kernel
theorem dL_would_399 : decode cL_would 399 = .ok (.invokestatic 293, 3) := by decide +kernel
theorem dL_would_402 : decode cL_would 402 = .ok (.ifCond .eq 7, 3) := by decide +kernel
theorem dL_would_405 : decode cL_would 405 = .ok (.iconst 1, 1) := by decide +kernel
theorem dL_would_406 : decode cL_would 406 = .ok (.goto 4, 3) := by decide +kernel
theorem dL_would_409 : decode cL_would 409 = .ok (.iconst 0, 1) := by decide +kernel
theorem dL_would_410 : decode cL_would 410 = .ok (.ireturn, 1) := by decide +kernel
theorem dL_slits_0 : decode cL_slits 0 = .ok (.bipush 32, 2) := by decide +kernel
theorem dL_slits_2 : decode cL_slits 2 = .ok (.newarray .int, 2) := by decide +kernel
theorem dL_slits_4 : decode cL_slits 4 = .ok (.astore_n 2, 1) := by decide +kernel
theorem dL_slits_5 : decode cL_slits 5 = .ok (.iconst 0, 1) := by decide +kernel
theorem dL_slits_6 : decode cL_slits 6 = .ok (.istore_n 3, 1) := by decide +kernel
theorem dL_slits_7 : decode cL_slits 7 = .ok (.iconst 0, 1) := by decide +kernel
theorem dL_slits_8 : decode cL_slits 8 = .ok (.istore 4, 2) := by decide +kernel
theorem dL_slits_10 : decode cL_slits 10 = .ok (.iconst 0, 1) := by decide +kernel
theorem dL_slits_11 : decode cL_slits 11 = .ok (.istore 5, 2) := by decide +kernel
theorem dL_slits_13 : decode cL_slits 13 = .ok (.iload 5, 2) := by decide +kernel
theorem dL_slits_15 : decode cL_slits 15 = .ok (.aload_n 1, 1) := by decide +kernel
theorem dL_slits_16 : decode cL_slits 16 = .ok (.invokevirtual 186, 3) := by decide +kernel
theorem dL_slits_19 : decode cL_slits 19 = .ok (.if_icmp .ge 20, 3) := by decide +kernel
theorem dL_slits_22 : decode cL_slits 22 = .ok (.iload 4, 2) := by decide +kernel
theorem dL_slits_24 : decode cL_slits 24 = .ok (.aload_n 1, 1) := by decide +kernel
theorem dL_slits_25 : decode cL_slits 25 = .ok (.iload 5, 2) := by decide +kernel
theorem dL_slits_27 : decode cL_slits 27 = .ok (.invokevirtual 192, 3) := by decide +kernel
theorem dL_slits_30 : decode cL_slits 30 = .ok (.iadd, 1) := by decide +kernel
theorem dL_slits_31 : decode cL_slits 31 = .ok (.istore 4, 2) := by decide +kernel
theorem dL_slits_33 : decode cL_slits 33 = .ok (.iinc 5 1, 3) := by decide +kernel
theorem dL_slits_36 : decode cL_slits 36 = .ok (.goto (-23), 3) := by decide +kernel
theorem dL_slits_39 : decode cL_slits 39 = .ok (.iconst 1, 1) := by decide +kernel
theorem dL_slits_40 : decode cL_slits 40 = .ok (.istore 5, 2) := by decide +kernel
theorem dL_slits_42 : decode cL_slits 42 = .ok (.iload 5, 2) := by decide +kernel
theorem dL_slits_44 : decode cL_slits 44 = .ok (.aload_n 1, 1) := by decide +kernel
theorem dL_slits_45 : decode cL_slits 45 = .ok (.getfield 60, 3) := by decide +kernel
theorem dL_slits_48 : decode cL_slits 48 = .ok (.if_icmp .ge 97, 3) := by decide +kernel
theorem dL_slits_51 : decode cL_slits 51 = .ok (.iconst 0, 1) := by decide +kernel
theorem dL_slits_52 : decode cL_slits 52 = .ok (.istore 6, 2) := by decide +kernel
theorem dL_slits_54 : decode cL_slits 54 = .ok (.iload 6, 2) := by decide +kernel
theorem dL_slits_56 : decode cL_slits 56 = .ok (.aload_n 1, 1) := by decide +kernel
theorem dL_slits_57 : decode cL_slits 57 = .ok (.invokevirtual 186, 3) := by decide +kernel
theorem dL_slits_60 : decode cL_slits 60 = .ok (.if_icmp .ge 79, 3) := by decide +kernel
theorem dL_slits_63 : decode cL_slits 63 = .ok (.iload 6, 2) := by decide +kernel
theorem dL_slits_65 : decode cL_slits 65 = .ok (.istore 7, 2) := by decide +kernel
theorem dL_slits_67 : decode cL_slits 67 = .ok (.iload 6, 2) := by decide +kernel
theorem dL_slits_69 : decode cL_slits 69 = .ok (.aload_n 1, 1) := by decide +kernel
theorem dL_slits_70 : decode cL_slits 70 = .ok (.invokevirtual 186, 3) := by decide +kernel
theorem dL_slits_73 : decode cL_slits 73 = .ok (.if_icmp .ge 30, 3) := by decide +kernel
theorem dL_slits_76 : decode cL_slits 76 = .ok (.aload_n 1, 1) := by decide +kernel
theorem dL_slits_77 : decode cL_slits 77 = .ok (.iload 5, 2) := by decide +kernel
theorem dL_slits_79 : decode cL_slits 79 = .ok (.iload 6, 2) := by decide +kernel
theorem dL_slits_81 : decode cL_slits 81 = .ok (.invokevirtual 175, 3) := by decide +kernel
theorem dL_slits_84 : decode cL_slits 84 = .ok (.aload_n 1, 1) := by decide +kernel
theorem dL_slits_85 : decode cL_slits 85 = .ok (.iload 5, 2) := by decide +kernel
theorem dL_slits_87 : decode cL_slits 87 = .ok (.iconst 1, 1) := by decide +kernel
theorem dL_slits_88 : decode cL_slits 88 = .ok (.isub, 1) := by decide +kernel
theorem dL_slits_89 : decode cL_slits 89 = .ok (.iload 6, 2) := by decide +kernel
theorem dL_slits_91 : decode cL_slits 91 = .ok (.invokevirtual 175, 3) := by decide +kernel
theorem dL_slits_94 : decode cL_slits 94 = .ok (.if_icmp .eq 9, 3) := by decide +kernel
theorem dL_slits_97 : decode cL_slits 97 = .ok (.iinc 6 1, 3) := by decide +kernel
theorem dL_slits_100 : decode cL_slits 100 = .ok (.goto (-33), 3) := by decide +kernel
theorem dL_slits_103 : decode cL_slits 103 = .ok (.aload_n 2, 1) := by decide +kernel
theorem dL_slits_104 : decode cL_slits 104 = .ok (.iload 6, 2) := by decide +kernel
theorem dL_slits_106 : decode cL_slits 106 = .ok (.iload 7, 2) := by decide +kernel
theorem dL_slits_108 : decode cL_slits 108 = .ok (.isub, 1) := by decide +kernel
theorem dL_slits_109 : decode cL_slits 109 = .ok (.dup2, 1) := by decide +kernel
theorem dL_slits_110 : decode cL_slits 110 = .ok (.iaload, 1) := by decide +kernel
theorem dL_slits_111 : decode cL_slits 111 = .ok (.iconst 1, 1) := by decide +kernel
theorem dL_slits_112 : decode cL_slits 112 = .ok (.iadd, 1) := by decide +kernel
theorem dL_slits_113 : decode cL_slits 113 = .ok (.iastore, 1) := by decide +kernel
theorem dL_slits_114 : decode cL_slits 114 = .ok (.iload 6, 2) := by decide +kernel
theorem dL_slits_116 : decode cL_slits 116 = .ok (.iload 7, 2) := by decide +kernel
theorem dL_slits_118 : decode cL_slits 118 = .ok (.isub, 1) := by decide +kernel
theorem dL_slits_119 : decode cL_slits 119 = .ok (.iconst 1, 1) := by decide +kernel
theorem dL_slits_120 : decode cL_slits 120 = .ok (.if_icmp .le 13, 3) := by decide +kernel
theorem dL_slits_123 : decode cL_slits 123 = .ok (.iload_n 3, 1) := by decide +kernel
theorem dL_slits_124 : decode cL_slits 124 = .ok (.iload 6, 2) := by decide +kernel
theorem dL_slits_126 : decode cL_slits 126 = .ok (.iload 7, 2) := by decide +kernel
theorem dL_slits_128 : decode cL_slits 128 = .ok (.isub, 1) := by decide +kernel
theorem dL_slits_129 : decode cL_slits 129 = .ok (.invokestatic 235, 3) := by decide +kernel
theorem dL_slits_132 : decode cL_slits 132 = .ok (.istore_n 3, 1) := by decide +kernel
theorem dL_slits_133 : decode cL_slits 133 = .ok (.iinc 6 1, 3) := by decide +kernel
theorem dL_slits_136 : decode cL_slits 136 = .ok (.goto (-82), 3) := by decide +kernel
theorem dL_slits_139 : decode cL_slits 139 = .ok (.iinc 5 1, 3) := by decide +kernel
theorem dL_slits_142 : decode cL_slits 142 = .ok (.goto (-100), 3) := by decide +kernel
theorem dL_slits_145 : decode cL_slits 145 = .ok (.iconst 0, 1) := by decide +kernel
theorem dL_slits_146 : decode cL_slits 146 = .ok (.istore 5, 2) := by decide +kernel
theorem dL_slits_148 : decode cL_slits 148 = .ok (.bipush 30, 2) := by decide +kernel
theorem dL_slits_150 : decode cL_slits 150 = .ok (.istore 6, 2) := by decide +kernel
theorem dL_slits_152 : decode cL_slits 152 = .ok (.iload 6, 2) := by decide +kernel
theorem dL_slits_154 : decode cL_slits 154 = .ok (.iconst 1, 1) := by decide +kernel
theorem dL_slits_155 : decode cL_slits 155 = .ok (.if_icmp .le 31, 3) := by decide +kernel
theorem dL_slits_158 : decode cL_slits 158 = .ok (.iload 5, 2) := by decide +kernel
theorem dL_slits_160 : decode cL_slits 160 = .ok (.aload_n 2, 1) := by decide +kernel
theorem dL_slits_161 : decode cL_slits 161 = .ok (.iload 6, 2) := by decide +kernel
theorem dL_slits_163 : decode cL_slits 163 = .ok (.iaload, 1) := by decide +kernel
theorem dL_slits_164 : decode cL_slits 164 = .ok (.iadd, 1) := by decide +kernel
theorem dL_slits_165 : decode cL_slits 165 = .ok (.istore 5, 2) := by decide +kernel
theorem dL_slits_167 : decode cL_slits 167 = .ok (.aload_n 0, 1) := by decide +kernel
theorem dL_slits_168 : decode cL_slits 168 = .ok (.iload 6, 2) := by decide +kernel
theorem dL_slits_170 : decode cL_slits 170 = .ok (.invokevirtual 297, 3) := by decide +kernel
theorem dL_slits_173 : decode cL_slits 173 = .ok (.iload 5, 2) := by decide +kernel
theorem dL_slits_175 : decode cL_slits 175 = .ok (.if_icmp .eq 5, 3) := by decide +kernel
theorem dL_slits_178 : decode cL_slits 178 = .ok (.iconst 0, 1) := by decide +kernel
theorem dL_slits_179 : decode cL_slits 179 = .ok (.ireturn, 1) := by decide +kernel
theorem dL_slits_180 : decode cL_slits 180 = .ok (.iinc 6 (-1), 3) := by decide +kernel
theorem dL_slits_183 : decode cL_slits 183 = .ok (.goto (-31), 3) := by decide +kernel
theorem dL_slits_186 : decode cL_slits 186 = .ok (.aload_n 0, 1) := by decide +kernel
theorem dL_slits_187 : decode cL_slits 187 = .ok (.invokevirtual 299, 3) := by decide +kernel
theorem dL_slits_190 : decode cL_slits 190 = .ok (.iload_n 3, 1) := by decide +kernel
theorem dL_slits_191 : decode cL_slits 191 = .ok (.if_icmp .ne 31, 3) := by decide +kernel
theorem dL_slits_194 : decode cL_slits 194 = .ok (.aload_n 1, 1) := by decide +kernel
theorem dL_slits_195 : decode cL_slits 195 = .ok (.invokevirtual 186, 3) := by decide +kernel
theorem dL_slits_198 : decode cL_slits 198 = .ok (.ifCond .eq 20, 3) := by decide +kernel
theorem dL_slits_201 : decode cL_slits 201 = .ok (.aload_n 0, 1) := by decide +kernel
theorem dL_slits_202 : decode cL_slits 202 = .ok (.invokevirtual 302, 3) := by decide +kernel
theorem dL_slits_205 : decode cL_slits 205 = .ok (.iload 4, 2) := by decide +kernel
theorem dL_slits_207 : decode cL_slits 207 = .ok (.i2d, 1) := by decide +kernel
theorem dL_slits_208 : decode cL_slits 208 = .ok (.aload_n 1, 1) := by decide +kernel
theorem dL_slits_209 : decode cL_slits 209 = .ok (.invokevirtual 186, 3) := by decide +kernel
theorem dL_slits_212 : decode cL_slits 212 = .ok (.i2d, 1) := by decide +kernel
theorem dL_slits_213 : decode cL_slits 213 = .ok (.ddiv, 1) := by decide +kernel
theorem dL_slits_214 : decode cL_slits 214 = .ok (.dcmp .l, 1) := by decide +kernel
theorem dL_slits_215 : decode cL_slits 215 = .ok (.ifCond .ne 7, 3) := by decide +kernel
theorem dL_slits_218 : decode cL_slits 218 = .ok (.iconst 1, 1) := by decide +kernel
theorem dL_slits_219 : decode cL_slits 219 = .ok (.goto 4, 3) := by decide +kernel
theorem dL_slits_222 : decode cL_slits 222 = .ok (.iconst 0, 1) := by decide +kernel
theorem dL_slits_223 : decode cL_slits 223 = .ok (.ireturn, 1) := by decide +kernel
theorem dL_writes_0 : decode cL_writes 0 = .ok (.new 40, 3) := by decide +kernel
theorem dL_writes_3 : decode cL_writes 3 = .ok (.dup, 1) := by decide +kernel
theorem dL_writes_4 : decode cL_writes 4 = .ok (.invokespecial 42, 3) := by decide +kernel
theorem dL_writes_7 : decode cL_writes 7 = .ok (.astore 4, 2) := by decide +kernel
theorem dL_writes_9 : decode cL_writes 9 = .ok (.iconst 0, 1) := by decide +kernel
theorem dL_writes_10 : decode cL_writes 10 = .ok (.istore 5, 2) := by decide +kernel
theorem dL_writes_12 : decode cL_writes 12 = .ok (.iload 5, 2) := by decide +kernel
theorem dL_writes_14 : decode cL_writes 14 = .ok (.aload_n 1, 1) := by decide +kernel
theorem dL_writes_15 : decode cL_writes 15 = .ok (.getfield 60, 3) := by decide +kernel
theorem dL_writes_18 : decode cL_writes 18 = .ok (.if_icmp .ge 89, 3) := by decide +kernel
theorem dL_writes_21 : decode cL_writes 21 = .ok (.iload_n 3, 1) := by decide +kernel
theorem dL_writes_22 : decode cL_writes 22 = .ok (.ifCond .eq 15, 3) := by decide +kernel
theorem dL_writes_25 : decode cL_writes 25 = .ok (.aload_n 1, 1) := by decide +kernel
theorem dL_writes_26 : decode cL_writes 26 = .ok (.getfield 60, 3) := by decide +kernel
theorem dL_writes_29 : decode cL_writes 29 = .ok (.iconst 1, 1) := by decide +kernel
theorem dL_writes_30 : decode cL_writes 30 = .ok (.isub, 1) := by decide +kernel
theorem dL_writes_31 : decode cL_writes 31 = .ok (.iload 5, 2) := by decide +kernel
theorem dL_writes_33 : decode cL_writes 33 = .ok (.isub, 1) := by decide +kernel
theorem dL_writes_34 : decode cL_writes 34 = .ok (.goto 5, 3) := by decide +kernel
theorem dL_writes_37 : decode cL_writes 37 = .ok (.iload 5, 2) := by decide +kernel
theorem dL_writes_39 : decode cL_writes 39 = .ok (.istore 6, 2) := by decide +kernel
theorem dL_writes_41 : decode cL_writes 41 = .ok (.aload_n 1, 1) := by decide +kernel
theorem dL_writes_42 : decode cL_writes 42 = .ok (.iload 6, 2) := by decide +kernel
theorem dL_writes_44 : decode cL_writes 44 = .ok (.iload_n 2, 1) := by decide +kernel
theorem dL_writes_45 : decode cL_writes 45 = .ok (.invokevirtual 175, 3) := by decide +kernel
theorem dL_writes_48 : decode cL_writes 48 = .ok (.ifCond .ge 14, 3) := by decide +kernel
theorem dL_writes_51 : decode cL_writes 51 = .ok (.aload 4, 2) := by decide +kernel
theorem dL_writes_53 : decode cL_writes 53 = .ok (.bipush 46, 2) := by decide +kernel
theorem dL_writes_55 : decode cL_writes 55 = .ok (.invokevirtual 49, 3) := by decide +kernel
theorem dL_writes_58 : decode cL_writes 58 = .ok (.pop, 1) := by decide +kernel
theorem dL_writes_59 : decode cL_writes 59 = .ok (.goto 16, 3) := by decide +kernel
theorem dL_writes_62 : decode cL_writes 62 = .ok (.aload 4, 2) := by decide +kernel
theorem dL_writes_64 : decode cL_writes 64 = .ok (.aload_n 1, 1) := by decide +kernel
theorem dL_writes_65 : decode cL_writes 65 = .ok (.iload 6, 2) := by decide +kernel
theorem dL_writes_67 : decode cL_writes 67 = .ok (.iload_n 2, 1) := by decide +kernel
theorem dL_writes_68 : decode cL_writes 68 = .ok (.invokevirtual 175, 3) := by decide +kernel
theorem dL_writes_71 : decode cL_writes 71 = .ok (.invokevirtual 102, 3) := by decide +kernel
theorem dL_writes_74 : decode cL_writes 74 = .ok (.pop, 1) := by decide +kernel
theorem dL_writes_75 : decode cL_writes 75 = .ok (.aload_n 1, 1) := by decide +kernel
theorem dL_writes_76 : decode cL_writes 76 = .ok (.iload 6, 2) := by decide +kernel
theorem dL_writes_78 : decode cL_writes 78 = .ok (.iload_n 2, 1) := by decide +kernel
theorem dL_writes_79 : decode cL_writes 79 = .ok (.invokevirtual 254, 3) := by decide +kernel
theorem dL_writes_82 : decode cL_writes 82 = .ok (.ifCond .eq 19, 3) := by decide +kernel
theorem dL_writes_85 : decode cL_writes 85 = .ok (.aload_n 1, 1) := by decide +kernel
theorem dL_writes_86 : decode cL_writes 86 = .ok (.iload_n 2, 1) := by decide +kernel
theorem dL_writes_87 : decode cL_writes 87 = .ok (.invokevirtual 215, 3) := by decide +kernel
theorem dL_writes_90 : decode cL_writes 90 = .ok (.ifCond .eq 11, 3) := by decide +kernel
theorem dL_writes_93 : decode cL_writes 93 = .ok (.aload 4, 2) := by decide +kernel
theorem dL_writes_95 : decode cL_writes 95 = .ok (.bipush 33, 2) := by decide +kernel
theorem dL_writes_97 : decode cL_writes 97 = .ok (.invokevirtual 49, 3) := by decide +kernel
theorem dL_writes_100 : decode cL_writes 100 = .ok (.pop, 1) := by decide +kernel
theorem dL_writes_101 : decode cL_writes 101 = .ok (.iinc 5 1, 3) := by decide +kernel
theorem dL_writes_104 : decode cL_writes 104 = .ok (.goto (-92), 3) := by decide +kernel
theorem dL_writes_107 : decode cL_writes 107 = .ok (.aload_n 0, 1) := by decide +kernel
theorem dL_writes_108 : decode cL_writes 108 = .ok (.iload_n 2, 1) := by decide +kernel
theorem dL_writes_109 : decode cL_writes 109 = .ok (.iload_n 3, 1) := by decide +kernel
theorem dL_writes_110 : decode cL_writes 110 = .ok (.invokevirtual 306, 3) := by decide +kernel
theorem dL_writes_113 : decode cL_writes 113 = .ok (.aload 4, 2) := by decide +kernel
theorem dL_writes_115 : decode cL_writes 115 = .ok (.invokevirtual 310, 3) := by decide +kernel
theorem dL_writes_118 : decode cL_writes 118 = .ok (.if_icmp .eq 5, 3) := by decide +kernel
theorem dL_writes_121 : decode cL_writes 121 = .ok (.iconst 0, 1) := by decide +kernel
theorem dL_writes_122 : decode cL_writes 122 = .ok (.ireturn, 1) := by decide +kernel
theorem dL_writes_123 : decode cL_writes 123 = .ok (.iconst 0, 1) := by decide +kernel
theorem dL_writes_124 : decode cL_writes 124 = .ok (.istore 5, 2) := by decide +kernel
theorem dL_writes_126 : decode cL_writes 126 = .ok (.iload 5, 2) := by decide +kernel
theorem dL_writes_128 : decode cL_writes 128 = .ok (.aload 4, 2) := by decide +kernel
theorem dL_writes_130 : decode cL_writes 130 = .ok (.invokevirtual 310, 3) := by decide +kernel
theorem dL_writes_133 : decode cL_writes 133 = .ok (.if_icmp .gt 41, 3) := by decide +kernel
theorem dL_writes_136 : decode cL_writes 136 = .ok (.aload_n 0, 1) := by decide +kernel
theorem dL_writes_137 : decode cL_writes 137 = .ok (.iload 5, 2) := by decide +kernel
theorem dL_writes_139 : decode cL_writes 139 = .ok (.invokevirtual 311, 3) := by decide +kernel
theorem dL_writes_142 : decode cL_writes 142 = .ok (.iload 5, 2) := by decide +kernel
theorem dL_writes_144 : decode cL_writes 144 = .ok (.aload 4, 2) := by decide +kernel
theorem dL_writes_146 : decode cL_writes 146 = .ok (.invokevirtual 310, 3) := by decide +kernel
theorem dL_writes_149 : decode cL_writes 149 = .ok (.if_icmp .ge 13, 3) := by decide +kernel
theorem dL_writes_152 : decode cL_writes 152 = .ok (.aload 4, 2) := by decide +kernel
theorem dL_writes_154 : decode cL_writes 154 = .ok (.iload 5, 2) := by decide +kernel
theorem dL_writes_156 : decode cL_writes 156 = .ok (.invokevirtual 314, 3) := by decide +kernel
theorem dL_writes_159 : decode cL_writes 159 = .ok (.goto 4, 3) := by decide +kernel
theorem dL_writes_162 : decode cL_writes 162 = .ok (.iconst (-1), 1) := by decide +kernel
theorem dL_writes_163 : decode cL_writes 163 = .ok (.if_icmp .eq 5, 3) := by decide +kernel
theorem dL_writes_166 : decode cL_writes 166 = .ok (.iconst 0, 1) := by decide +kernel
theorem dL_writes_167 : decode cL_writes 167 = .ok (.ireturn, 1) := by decide +kernel
theorem dL_writes_168 : decode cL_writes 168 = .ok (.iinc 5 1, 3) := by decide +kernel
theorem dL_writes_171 : decode cL_writes 171 = .ok (.goto (-45), 3) := by decide +kernel
theorem dL_writes_174 : decode cL_writes 174 = .ok (.iconst 1, 1) := by decide +kernel
theorem dL_writes_175 : decode cL_writes 175 = .ok (.ireturn, 1) := by decide +kernel
theorem dL_is_0 : decode cL_is 0 = .ok (.aload_n 2, 1) := by decide +kernel
theorem dL_is_1 : decode cL_is 1 = .ok (.iload_n 1, 1) := by decide +kernel
theorem dL_is_2 : decode cL_is 2 = .ok (.ifCond .ge 8, 3) := by decide +kernel
theorem dL_is_5 : decode cL_is 5 = .ok (.iload_n 1, 1) := by decide +kernel
theorem dL_is_6 : decode cL_is 6 = .ok (.ineg, 1) := by decide +kernel
theorem dL_is_7 : decode cL_is 7 = .ok (.goto 4, 3) := by decide +kernel
theorem dL_is_10 : decode cL_is 10 = .ok (.iconst 0, 1) := by decide +kernel
theorem dL_is_11 : decode cL_is 11 = .ok (.dup2, 1) := by decide +kernel
theorem dL_is_12 : decode cL_is 12 = .ok (.iaload, 1) := by decide +kernel
theorem dL_is_13 : decode cL_is 13 = .ok (.iconst 1, 1) := by decide +kernel
theorem dL_is_14 : decode cL_is 14 = .ok (.iadd, 1) := by decide +kernel
theorem dL_is_15 : decode cL_is 15 = .ok (.iastore, 1) := by decide +kernel
theorem dL_is_16 : decode cL_is 16 = .ok (.iload_n 0, 1) := by decide +kernel
theorem dL_is_17 : decode cL_is 17 = .ok (.iload_n 1, 1) := by decide +kernel
theorem dL_is_18 : decode cL_is 18 = .ok (.if_icmp .ne 7, 3) := by decide +kernel
theorem dL_is_21 : decode cL_is 21 = .ok (.iconst 1, 1) := by decide +kernel
theorem dL_is_22 : decode cL_is 22 = .ok (.goto 4, 3) := by decide +kernel
theorem dL_is_25 : decode cL_is 25 = .ok (.iconst 0, 1) := by decide +kernel
theorem dL_is_26 : decode cL_is 26 = .ok (.ireturn, 1) := by decide +kernel
theorem dL_minutes_0 : decode cL_minutes 0 = .ok (.aload_n 0, 1) := by decide +kernel
theorem dL_minutes_1 : decode cL_minutes 1 = .ok (.getfield 60, 3) := by decide +kernel
theorem dL_minutes_4 : decode cL_minutes 4 = .ok (.bipush 7, 2) := by decide +kernel
theorem dL_minutes_6 : decode cL_minutes 6 = .ok (.aload_n 0, 1) := by decide +kernel
theorem dL_minutes_7 : decode cL_minutes 7 = .ok (.iload_n 1, 1) := by decide +kernel
theorem dL_minutes_8 : decode cL_minutes 8 = .ok (.invokevirtual 192, 3) := by decide +kernel
theorem dL_minutes_11 : decode cL_minutes 11 = .ok (.imul, 1) := by decide +kernel
theorem dL_minutes_12 : decode cL_minutes 12 = .ok (.iadd, 1) := by decide +kernel
theorem dL_minutes_13 : decode cL_minutes 13 = .ok (.iconst 4, 1) := by decide +kernel
theorem dL_minutes_14 : decode cL_minutes 14 = .ok (.idiv, 1) := by decide +kernel
theorem dL_minutes_15 : decode cL_minutes 15 = .ok (.ireturn, 1) := by decide +kernel
theorem dL_weaves_0 : decode cL_weaves 0 = .ok (.aload_n 0, 1) := by decide +kernel
theorem dL_weaves_1 : decode cL_weaves 1 = .ok (.invokevirtual 186, 3) := by decide +kernel
theorem dL_weaves_4 : decode cL_weaves 4 = .ok (.istore_n 3, 1) := by decide +kernel
theorem dL_weaves_5 : decode cL_weaves 5 = .ok (.aload_n 0, 1) := by decide +kernel
theorem dL_weaves_6 : decode cL_weaves 6 = .ok (.getfield 60, 3) := by decide +kernel
theorem dL_weaves_9 : decode cL_weaves 9 = .ok (.newarray .int, 2) := by decide +kernel
theorem dL_weaves_11 : decode cL_weaves 11 = .ok (.astore 4, 2) := by decide +kernel
theorem dL_weaves_13 : decode cL_weaves 13 = .ok (.iconst 0, 1) := by decide +kernel
theorem dL_weaves_14 : decode cL_weaves 14 = .ok (.istore 5, 2) := by decide +kernel
theorem dL_weaves_16 : decode cL_weaves 16 = .ok (.iload 5, 2) := by decide +kernel
theorem dL_weaves_18 : decode cL_weaves 18 = .ok (.aload_n 0, 1) := by decide +kernel
theorem dL_weaves_19 : decode cL_weaves 19 = .ok (.getfield 60, 3) := by decide +kernel
theorem dL_weaves_22 : decode cL_weaves 22 = .ok (.if_icmp .ge 46, 3) := by decide +kernel
theorem dL_weaves_25 : decode cL_weaves 25 = .ok (.aload 4, 2) := by decide +kernel
theorem dL_weaves_27 : decode cL_weaves 27 = .ok (.iload 5, 2) := by decide +kernel
theorem dL_weaves_29 : decode cL_weaves 29 = .ok (.aload_n 0, 1) := by decide +kernel
theorem dL_weaves_30 : decode cL_weaves 30 = .ok (.iload 5, 2) := by decide +kernel
theorem dL_weaves_32 : decode cL_weaves 32 = .ok (.iload_n 3, 1) := by decide +kernel
theorem dL_weaves_33 : decode cL_weaves 33 = .ok (.iload_n 1, 1) := by decide +kernel
theorem dL_weaves_34 : decode cL_weaves 34 = .ok (.invokevirtual 268, 3) := by decide +kernel
theorem dL_weaves_37 : decode cL_weaves 37 = .ok (.iastore, 1) := by decide +kernel
theorem dL_weaves_38 : decode cL_weaves 38 = .ok (.aload_n 0, 1) := by decide +kernel
theorem dL_weaves_39 : decode cL_weaves 39 = .ok (.iload 5, 2) := by decide +kernel
theorem dL_weaves_41 : decode cL_weaves 41 = .ok (.iload_n 3, 1) := by decide +kernel
theorem dL_weaves_42 : decode cL_weaves 42 = .ok (.invokevirtual 175, 3) := by decide +kernel
theorem dL_weaves_45 : decode cL_weaves 45 = .ok (.ifCond .ge 17, 3) := by decide +kernel
theorem dL_weaves_48 : decode cL_weaves 48 = .ok (.aload_n 0, 1) := by decide +kernel
theorem dL_weaves_49 : decode cL_weaves 49 = .ok (.getfield 145, 3) := by decide +kernel
theorem dL_weaves_52 : decode cL_weaves 52 = .ok (.aload 4, 2) := by decide +kernel
theorem dL_weaves_54 : decode cL_weaves 54 = .ok (.iload 5, 2) := by decide +kernel
theorem dL_weaves_56 : decode cL_weaves 56 = .ok (.iaload, 1) := by decide +kernel
theorem dL_weaves_57 : decode cL_weaves 57 = .ok (.dup2, 1) := by decide +kernel
theorem dL_weaves_58 : decode cL_weaves 58 = .ok (.iaload, 1) := by decide +kernel
theorem dL_weaves_59 : decode cL_weaves 59 = .ok (.iconst 1, 1) := by decide +kernel
theorem dL_weaves_60 : decode cL_weaves 60 = .ok (.isub, 1) := by decide +kernel
theorem dL_weaves_61 : decode cL_weaves 61 = .ok (.iastore, 1) := by decide +kernel
theorem dL_weaves_62 : decode cL_weaves 62 = .ok (.iinc 5 1, 3) := by decide +kernel
theorem dL_weaves_65 : decode cL_weaves 65 = .ok (.goto (-49), 3) := by decide +kernel
theorem dL_weaves_68 : decode cL_weaves 68 = .ok (.aload_n 0, 1) := by decide +kernel
theorem dL_weaves_69 : decode cL_weaves 69 = .ok (.getfield 83, 3) := by decide +kernel
theorem dL_weaves_72 : decode cL_weaves 72 = .ok (.iload_n 3, 1) := by decide +kernel
theorem dL_weaves_73 : decode cL_weaves 73 = .ok (.aload 4, 2) := by decide +kernel
theorem dL_weaves_75 : decode cL_weaves 75 = .ok (.invokeinterface 315 3, 5) := by decide +kernel
theorem dL_weaves_80 : decode cL_weaves 80 = .ok (.pop, 1) := by decide +kernel
theorem dL_weaves_81 : decode cL_weaves 81 = .ok (.aload_n 2, 1) := by decide +kernel
theorem dL_weaves_82 : decode cL_weaves 82 = .ok (.bipush 8, 2) := by decide +kernel
theorem dL_weaves_84 : decode cL_weaves 84 = .ok (.dup2, 1) := by decide +kernel
theorem dL_weaves_85 : decode cL_weaves 85 = .ok (.iaload, 1) := by decide +kernel
theorem dL_weaves_86 : decode cL_weaves 86 = .ok (.aload_n 0, 1) := by decide +kernel
theorem dL_weaves_87 : decode cL_weaves 87 = .ok (.iload_n 3, 1) := by decide +kernel
theorem dL_weaves_88 : decode cL_weaves 88 = .ok (.invokestatic 319, 3) := by decide +kernel
theorem dL_weaves_91 : decode cL_weaves 91 = .ok (.iadd, 1) := by decide +kernel
theorem dL_weaves_92 : decode cL_weaves 92 = .ok (.iastore, 1) := by decide +kernel
theorem dL_weaves_93 : decode cL_weaves 93 = .ok (.aload_n 0, 1) := by decide +kernel
theorem dL_weaves_94 : decode cL_weaves 94 = .ok (.invokevirtual 322, 3) := by decide +kernel
theorem dL_weaves_97 : decode cL_weaves 97 = .ok (.aload_n 0, 1) := by decide +kernel
theorem dL_weaves_98 : decode cL_weaves 98 = .ok (.iload_n 3, 1) := by decide +kernel
theorem dL_weaves_99 : decode cL_weaves 99 = .ok (.invokevirtual 212, 3) := by decide +kernel
theorem dL_weaves_102 : decode cL_weaves 102 = .ok (.ireturn, 1) := by decide +kernel
