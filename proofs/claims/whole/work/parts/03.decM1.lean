theorem dX9_cellsOf_90 : decode cX9_cellsOf 90 = .ok (.istore 6, 2) := by decide +kernel
theorem dX9_cellsOf_92 : decode cX9_cellsOf 92 = .ok (.goto 39, 3) := by decide +kernel
theorem dX9_cellsOf_95 : decode cX9_cellsOf 95 = .ok (.iload_n 2, 1) := by decide +kernel
theorem dX9_cellsOf_96 : decode cX9_cellsOf 96 = .ok (.iconst 2, 1) := by decide +kernel
theorem dX9_cellsOf_97 : decode cX9_cellsOf 97 = .ok (.if_icmp .eq 15, 3) := by decide +kernel
theorem dX9_cellsOf_100 : decode cX9_cellsOf 100 = .ok (.aload_n 0, 1) := by decide +kernel
theorem dX9_cellsOf_101 : decode cX9_cellsOf 101 = .ok (.iload 5, 2) := by decide +kernel
theorem dX9_cellsOf_103 : decode cX9_cellsOf 103 = .ok (.iload 4, 2) := by decide +kernel
theorem dX9_cellsOf_105 : decode cX9_cellsOf 105 = .ok (.invokevirtual 113, 3) := by decide +kernel
theorem dX9_cellsOf_108 : decode cX9_cellsOf 108 = .ok (.iconst (-1), 1) := by decide +kernel
theorem dX9_cellsOf_109 : decode cX9_cellsOf 109 = .ok (.if_icmp .ne 19, 3) := by decide +kernel
theorem dX9_cellsOf_112 : decode cX9_cellsOf 112 = .ok (.aload_n 0, 1) := by decide +kernel
theorem dX9_cellsOf_113 : decode cX9_cellsOf 113 = .ok (.iload 5, 2) := by decide +kernel
theorem dX9_cellsOf_115 : decode cX9_cellsOf 115 = .ok (.iload 4, 2) := by decide +kernel
theorem dX9_cellsOf_117 : decode cX9_cellsOf 117 = .ok (.invokevirtual 116, 3) := by decide +kernel
theorem dX9_cellsOf_120 : decode cX9_cellsOf 120 = .ok (.iload_n 1, 1) := by decide +kernel
theorem dX9_cellsOf_121 : decode cX9_cellsOf 121 = .ok (.if_icmp .ne 7, 3) := by decide +kernel
theorem dX9_cellsOf_124 : decode cX9_cellsOf 124 = .ok (.iconst 1, 1) := by decide +kernel
theorem dX9_cellsOf_125 : decode cX9_cellsOf 125 = .ok (.goto 4, 3) := by decide +kernel
theorem dX9_cellsOf_128 : decode cX9_cellsOf 128 = .ok (.iconst 0, 1) := by decide +kernel
theorem dX9_cellsOf_129 : decode cX9_cellsOf 129 = .ok (.istore 6, 2) := by decide +kernel
theorem dX9_cellsOf_131 : decode cX9_cellsOf 131 = .ok (.iload_n 3, 1) := by decide +kernel
theorem dX9_cellsOf_132 : decode cX9_cellsOf 132 = .ok (.iload 6, 2) := by decide +kernel
theorem dX9_cellsOf_134 : decode cX9_cellsOf 134 = .ok (.ifCond .eq 7, 3) := by decide +kernel
theorem dX9_cellsOf_137 : decode cX9_cellsOf 137 = .ok (.iconst 1, 1) := by decide +kernel
theorem dX9_cellsOf_138 : decode cX9_cellsOf 138 = .ok (.goto 4, 3) := by decide +kernel
theorem dX9_cellsOf_141 : decode cX9_cellsOf 141 = .ok (.iconst 0, 1) := by decide +kernel
theorem dX9_cellsOf_142 : decode cX9_cellsOf 142 = .ok (.iadd, 1) := by decide +kernel
theorem dX9_cellsOf_143 : decode cX9_cellsOf 143 = .ok (.istore_n 3, 1) := by decide +kernel
theorem dX9_cellsOf_144 : decode cX9_cellsOf 144 = .ok (.iinc 5 1, 3) := by decide +kernel
theorem dX9_cellsOf_147 : decode cX9_cellsOf 147 = .ok (.goto (-128), 3) := by decide +kernel
theorem dX9_cellsOf_150 : decode cX9_cellsOf 150 = .ok (.iinc 4 1, 3) := by decide +kernel
theorem dX9_cellsOf_153 : decode cX9_cellsOf 153 = .ok (.goto (-148), 3) := by decide +kernel
theorem dX9_cellsOf_156 : decode cX9_cellsOf 156 = .ok (.iload_n 3, 1) := by decide +kernel
theorem dX9_cellsOf_157 : decode cX9_cellsOf 157 = .ok (.ireturn, 1) := by decide +kernel
theorem dX9_colour_0 : decode cX9_colour 0 = .ok (.aload_n 0, 1) := by decide +kernel
theorem dX9_colour_1 : decode cX9_colour 1 = .ok (.iload_n 1, 1) := by decide +kernel
theorem dX9_colour_2 : decode cX9_colour 2 = .ok (.invokestatic 195, 3) := by decide +kernel
theorem dX9_colour_5 : decode cX9_colour 5 = .ok (.iload_n 2, 1) := by decide +kernel
theorem dX9_colour_6 : decode cX9_colour 6 = .ok (.i2l, 1) := by decide +kernel
theorem dX9_colour_7 : decode cX9_colour 7 = .ok (.lconst 0, 1) := by decide +kernel
theorem dX9_colour_8 : decode cX9_colour 8 = .ok (.ldc2_w 106, 3) := by decide +kernel
theorem dX9_colour_11 : decode cX9_colour 11 = .ok (.invokestatic 82, 3) := by decide +kernel
theorem dX9_colour_14 : decode cX9_colour 14 = .ok (.invokevirtual 163, 3) := by decide +kernel
theorem dX9_colour_17 : decode cX9_colour 17 = .ok (.ifCond .ne 5, 3) := by decide +kernel
theorem dX9_colour_20 : decode cX9_colour 20 = .ok (.iconst 0, 1) := by decide +kernel
theorem dX9_colour_21 : decode cX9_colour 21 = .ok (.ireturn, 1) := by decide +kernel
theorem dX9_colour_22 : decode cX9_colour 22 = .ok (.iload_n 2, 1) := by decide +kernel
theorem dX9_colour_23 : decode cX9_colour 23 = .ok (.ifCond .ne 15, 3) := by decide +kernel
theorem dX9_colour_26 : decode cX9_colour 26 = .ok (.aload_n 0, 1) := by decide +kernel
theorem dX9_colour_27 : decode cX9_colour 27 = .ok (.getfield 7, 3) := by decide +kernel
theorem dX9_colour_30 : decode cX9_colour 30 = .ok (.bipush 6, 2) := by decide +kernel
theorem dX9_colour_32 : decode cX9_colour 32 = .ok (.iload_n 1, 1) := by decide +kernel
theorem dX9_colour_33 : decode cX9_colour 33 = .ok (.iadd, 1) := by decide +kernel
theorem dX9_colour_34 : decode cX9_colour 34 = .ok (.iaload, 1) := by decide +kernel
theorem dX9_colour_35 : decode cX9_colour 35 = .ok (.goto 25, 3) := by decide +kernel
theorem dX9_colour_38 : decode cX9_colour 38 = .ok (.iload_n 2, 1) := by decide +kernel
theorem dX9_colour_39 : decode cX9_colour 39 = .ok (.iconst 4, 1) := by decide +kernel
theorem dX9_colour_40 : decode cX9_colour 40 = .ok (.if_icmp .ne 14, 3) := by decide +kernel
theorem dX9_colour_43 : decode cX9_colour 43 = .ok (.aload_n 0, 1) := by decide +kernel
theorem dX9_colour_44 : decode cX9_colour 44 = .ok (.iload_n 1, 1) := by decide +kernel
theorem dX9_colour_45 : decode cX9_colour 45 = .ok (.iconst 4, 1) := by decide +kernel
theorem dX9_colour_46 : decode cX9_colour 46 = .ok (.invokevirtual 198, 3) := by decide +kernel
theorem dX9_colour_49 : decode cX9_colour 49 = .ok (.iconst 2, 1) := by decide +kernel
theorem dX9_colour_50 : decode cX9_colour 50 = .ok (.idiv, 1) := by decide +kernel
theorem dX9_colour_51 : decode cX9_colour 51 = .ok (.goto 9, 3) := by decide +kernel
theorem dX9_colour_54 : decode cX9_colour 54 = .ok (.aload_n 0, 1) := by decide +kernel
theorem dX9_colour_55 : decode cX9_colour 55 = .ok (.iload_n 1, 1) := by decide +kernel
theorem dX9_colour_56 : decode cX9_colour 56 = .ok (.iload_n 2, 1) := by decide +kernel
theorem dX9_colour_57 : decode cX9_colour 57 = .ok (.invokevirtual 198, 3) := by decide +kernel
theorem dX9_colour_60 : decode cX9_colour 60 = .ok (.ireturn, 1) := by decide +kernel
theorem dX9_share_0 : decode cX9_share 0 = .ok (.aload_n 0, 1) := by decide +kernel
theorem dX9_share_1 : decode cX9_share 1 = .ok (.iload_n 1, 1) := by decide +kernel
theorem dX9_share_2 : decode cX9_share 2 = .ok (.invokestatic 195, 3) := by decide +kernel
theorem dX9_share_5 : decode cX9_share 5 = .ok (.invokevirtual 74, 3) := by decide +kernel
theorem dX9_share_8 : decode cX9_share 8 = .ok (.ifCond .ne 5, 3) := by decide +kernel
theorem dX9_share_11 : decode cX9_share 11 = .ok (.fconst 0, 1) := by decide +kernel
theorem dX9_share_12 : decode cX9_share 12 = .ok (.freturn, 1) := by decide +kernel
theorem dX9_share_13 : decode cX9_share 13 = .ok (.aload_n 0, 1) := by decide +kernel
theorem dX9_share_14 : decode cX9_share 14 = .ok (.getfield 7, 3) := by decide +kernel
theorem dX9_share_17 : decode cX9_share 17 = .ok (.iconst 0, 1) := by decide +kernel
theorem dX9_share_18 : decode cX9_share 18 = .ok (.iaload, 1) := by decide +kernel
theorem dX9_share_19 : decode cX9_share 19 = .ok (.aload_n 0, 1) := by decide +kernel
theorem dX9_share_20 : decode cX9_share 20 = .ok (.getfield 7, 3) := by decide +kernel
theorem dX9_share_23 : decode cX9_share 23 = .ok (.iconst 4, 1) := by decide +kernel
theorem dX9_share_24 : decode cX9_share 24 = .ok (.iaload, 1) := by decide +kernel
theorem dX9_share_25 : decode cX9_share 25 = .ok (.imul, 1) := by decide +kernel
theorem dX9_share_26 : decode cX9_share 26 = .ok (.istore_n 2, 1) := by decide +kernel
theorem dX9_share_27 : decode cX9_share 27 = .ok (.iload_n 2, 1) := by decide +kernel
theorem dX9_share_28 : decode cX9_share 28 = .ok (.ifCond .ne 7, 3) := by decide +kernel
theorem dX9_share_31 : decode cX9_share 31 = .ok (.fconst 0, 1) := by decide +kernel
theorem dX9_share_32 : decode cX9_share 32 = .ok (.goto 13, 3) := by decide +kernel
theorem dX9_share_35 : decode cX9_share 35 = .ok (.aload_n 0, 1) := by decide +kernel
theorem dX9_share_36 : decode cX9_share 36 = .ok (.iload_n 1, 1) := by decide +kernel
theorem dX9_share_37 : decode cX9_share 37 = .ok (.iconst 1, 1) := by decide +kernel
theorem dX9_share_38 : decode cX9_share 38 = .ok (.invokevirtual 198, 3) := by decide +kernel
theorem dX9_share_41 : decode cX9_share 41 = .ok (.i2f, 1) := by decide +kernel
theorem dX9_share_42 : decode cX9_share 42 = .ok (.iload_n 2, 1) := by decide +kernel
theorem dX9_share_43 : decode cX9_share 43 = .ok (.i2f, 1) := by decide +kernel
theorem dX9_share_44 : decode cX9_share 44 = .ok (.fdiv, 1) := by decide +kernel
theorem dX9_share_45 : decode cX9_share 45 = .ok (.freturn, 1) := by decide +kernel
theorem dX9_joinsOf_0 : decode cX9_joinsOf 0 = .ok (.iconst 0, 1) := by decide +kernel
theorem dX9_joinsOf_1 : decode cX9_joinsOf 1 = .ok (.istore_n 2, 1) := by decide +kernel
theorem dX9_joinsOf_2 : decode cX9_joinsOf 2 = .ok (.iconst 0, 1) := by decide +kernel
theorem dX9_joinsOf_3 : decode cX9_joinsOf 3 = .ok (.istore_n 3, 1) := by decide +kernel
theorem dX9_joinsOf_4 : decode cX9_joinsOf 4 = .ok (.iload_n 3, 1) := by decide +kernel
theorem dX9_joinsOf_5 : decode cX9_joinsOf 5 = .ok (.iconst 1, 1) := by decide +kernel
theorem dX9_joinsOf_6 : decode cX9_joinsOf 6 = .ok (.iadd, 1) := by decide +kernel
theorem dX9_joinsOf_7 : decode cX9_joinsOf 7 = .ok (.aload_n 0, 1) := by decide +kernel
theorem dX9_joinsOf_8 : decode cX9_joinsOf 8 = .ok (.getfield 7, 3) := by decide +kernel
theorem dX9_joinsOf_11 : decode cX9_joinsOf 11 = .ok (.iconst 0, 1) := by decide +kernel
theorem dX9_joinsOf_12 : decode cX9_joinsOf 12 = .ok (.iaload, 1) := by decide +kernel
theorem dX9_joinsOf_13 : decode cX9_joinsOf 13 = .ok (.if_icmp .ge 34, 3) := by decide +kernel
theorem dX9_joinsOf_16 : decode cX9_joinsOf 16 = .ok (.iload_n 2, 1) := by decide +kernel
theorem dX9_joinsOf_17 : decode cX9_joinsOf 17 = .ok (.aload_n 0, 1) := by decide +kernel
theorem dX9_joinsOf_18 : decode cX9_joinsOf 18 = .ok (.iload_n 3, 1) := by decide +kernel
theorem dX9_joinsOf_19 : decode cX9_joinsOf 19 = .ok (.iload_n 1, 1) := by decide +kernel
theorem dX9_joinsOf_20 : decode cX9_joinsOf 20 = .ok (.invokevirtual 113, 3) := by decide +kernel
theorem dX9_joinsOf_23 : decode cX9_joinsOf 23 = .ok (.aload_n 0, 1) := by decide +kernel
theorem dX9_joinsOf_24 : decode cX9_joinsOf 24 = .ok (.iload_n 3, 1) := by decide +kernel
theorem dX9_joinsOf_25 : decode cX9_joinsOf 25 = .ok (.iconst 1, 1) := by decide +kernel
theorem dX9_joinsOf_26 : decode cX9_joinsOf 26 = .ok (.iadd, 1) := by decide +kernel
theorem dX9_joinsOf_27 : decode cX9_joinsOf 27 = .ok (.iload_n 1, 1) := by decide +kernel
theorem dX9_joinsOf_28 : decode cX9_joinsOf 28 = .ok (.invokevirtual 113, 3) := by decide +kernel
theorem dX9_joinsOf_31 : decode cX9_joinsOf 31 = .ok (.if_icmp .ne 7, 3) := by decide +kernel
theorem dX9_joinsOf_34 : decode cX9_joinsOf 34 = .ok (.iconst 0, 1) := by decide +kernel
theorem dX9_joinsOf_35 : decode cX9_joinsOf 35 = .ok (.goto 4, 3) := by decide +kernel
theorem dX9_joinsOf_38 : decode cX9_joinsOf 38 = .ok (.iconst 1, 1) := by decide +kernel
theorem dX9_joinsOf_39 : decode cX9_joinsOf 39 = .ok (.iadd, 1) := by decide +kernel
theorem dX9_joinsOf_40 : decode cX9_joinsOf 40 = .ok (.istore_n 2, 1) := by decide +kernel
theorem dX9_joinsOf_41 : decode cX9_joinsOf 41 = .ok (.iinc 3 1, 3) := by decide +kernel
theorem dX9_joinsOf_44 : decode cX9_joinsOf 44 = .ok (.goto (-40), 3) := by decide +kernel
theorem dX9_joinsOf_47 : decode cX9_joinsOf 47 = .ok (.iload_n 2, 1) := by decide +kernel
theorem dX9_joinsOf_48 : decode cX9_joinsOf 48 = .ok (.ireturn, 1) := by decide +kernel
theorem dX9_minutesOf_0 : decode cX9_minutesOf 0 = .ok (.iload_n 0, 1) := by decide +kernel
theorem dX9_minutesOf_1 : decode cX9_minutesOf 1 = .ok (.i2d, 1) := by decide +kernel
theorem dX9_minutesOf_2 : decode cX9_minutesOf 2 = .ok (.ldc2_w 201, 3) := by decide +kernel
theorem dX9_minutesOf_5 : decode cX9_minutesOf 5 = .ok (.dmul, 1) := by decide +kernel
theorem dX9_minutesOf_6 : decode cX9_minutesOf 6 = .ok (.iload_n 1, 1) := by decide +kernel
theorem dX9_minutesOf_7 : decode cX9_minutesOf 7 = .ok (.i2d, 1) := by decide +kernel
theorem dX9_minutesOf_8 : decode cX9_minutesOf 8 = .ok (.ldc2_w 203, 3) := by decide +kernel
theorem dX9_minutesOf_11 : decode cX9_minutesOf 11 = .ok (.dmul, 1) := by decide +kernel
theorem dX9_minutesOf_12 : decode cX9_minutesOf 12 = .ok (.dadd, 1) := by decide +kernel
theorem dX9_minutesOf_13 : decode cX9_minutesOf 13 = .ok (.d2i, 1) := by decide +kernel
theorem dX9_minutesOf_14 : decode cX9_minutesOf 14 = .ok (.ireturn, 1) := by decide +kernel
theorem dX9_joins_0 : decode cX9_joins 0 = .ok (.aload_n 0, 1) := by decide +kernel
theorem dX9_joins_1 : decode cX9_joins 1 = .ok (.aload_n 0, 1) := by decide +kernel
theorem dX9_joins_2 : decode cX9_joins 2 = .ok (.iload_n 1, 1) := by decide +kernel
theorem dX9_joins_3 : decode cX9_joins 3 = .ok (.invokevirtual 189, 3) := by decide +kernel
theorem dX9_joins_6 : decode cX9_joins 6 = .ok (.invokevirtual 74, 3) := by decide +kernel
theorem dX9_joins_9 : decode cX9_joins 9 = .ok (.ifCond .ne 5, 3) := by decide +kernel
theorem dX9_joins_12 : decode cX9_joins 12 = .ok (.iconst 0, 1) := by decide +kernel
theorem dX9_joins_13 : decode cX9_joins 13 = .ok (.ireturn, 1) := by decide +kernel
theorem dX9_joins_14 : decode cX9_joins 14 = .ok (.iload_n 1, 1) := by decide +kernel
theorem dX9_joins_15 : decode cX9_joins 15 = .ok (.aload_n 0, 1) := by decide +kernel
theorem dX9_joins_16 : decode cX9_joins 16 = .ok (.getfield 7, 3) := by decide +kernel
theorem dX9_joins_19 : decode cX9_joins 19 = .ok (.iconst 4, 1) := by decide +kernel
theorem dX9_joins_20 : decode cX9_joins 20 = .ok (.iaload, 1) := by decide +kernel
theorem dX9_joins_21 : decode cX9_joins 21 = .ok (.if_icmp .ge 11, 3) := by decide +kernel
theorem dX9_joins_24 : decode cX9_joins 24 = .ok (.aload_n 0, 1) := by decide +kernel
theorem dX9_joins_25 : decode cX9_joins 25 = .ok (.iload_n 1, 1) := by decide +kernel
theorem dX9_joins_26 : decode cX9_joins 26 = .ok (.invokevirtual 205, 3) := by decide +kernel
theorem dX9_joins_29 : decode cX9_joins 29 = .ok (.goto 4, 3) := by decide +kernel
theorem dX9_joins_32 : decode cX9_joins 32 = .ok (.iconst (-1), 1) := by decide +kernel
theorem dX9_joins_33 : decode cX9_joins 33 = .ok (.ireturn, 1) := by decide +kernel
theorem dX9_slitsOf_0 : decode cX9_slitsOf 0 = .ok (.iconst 0, 1) := by decide +kernel
theorem dX9_slitsOf_1 : decode cX9_slitsOf 1 = .ok (.istore_n 2, 1) := by decide +kernel
theorem dX9_slitsOf_2 : decode cX9_slitsOf 2 = .ok (.aload_n 0, 1) := by decide +kernel
theorem dX9_slitsOf_3 : decode cX9_slitsOf 3 = .ok (.iconst 0, 1) := by decide +kernel
theorem dX9_slitsOf_4 : decode cX9_slitsOf 4 = .ok (.putfield 208, 3) := by decide +kernel
theorem dX9_slitsOf_7 : decode cX9_slitsOf 7 = .ok (.iconst 0, 1) := by decide +kernel
theorem dX9_slitsOf_8 : decode cX9_slitsOf 8 = .ok (.istore_n 3, 1) := by decide +kernel
theorem dX9_slitsOf_9 : decode cX9_slitsOf 9 = .ok (.iload_n 3, 1) := by decide +kernel
theorem dX9_slitsOf_10 : decode cX9_slitsOf 10 = .ok (.iconst 1, 1) := by decide +kernel
theorem dX9_slitsOf_11 : decode cX9_slitsOf 11 = .ok (.iadd, 1) := by decide +kernel
theorem dX9_slitsOf_12 : decode cX9_slitsOf 12 = .ok (.aload_n 0, 1) := by decide +kernel
theorem dX9_slitsOf_13 : decode cX9_slitsOf 13 = .ok (.getfield 7, 3) := by decide +kernel
theorem dX9_slitsOf_16 : decode cX9_slitsOf 16 = .ok (.iconst 0, 1) := by decide +kernel
theorem dX9_slitsOf_17 : decode cX9_slitsOf 17 = .ok (.iaload, 1) := by decide +kernel
theorem dX9_slitsOf_18 : decode cX9_slitsOf 18 = .ok (.if_icmp .ge 98, 3) := by decide +kernel
theorem dX9_slitsOf_21 : decode cX9_slitsOf 21 = .ok (.iconst 0, 1) := by decide +kernel
theorem dX9_slitsOf_22 : decode cX9_slitsOf 22 = .ok (.istore 4, 2) := by decide +kernel
theorem dX9_slitsOf_24 : decode cX9_slitsOf 24 = .ok (.iconst 0, 1) := by decide +kernel
theorem dX9_slitsOf_25 : decode cX9_slitsOf 25 = .ok (.istore 5, 2) := by decide +kernel
theorem dX9_slitsOf_27 : decode cX9_slitsOf 27 = .ok (.iload 5, 2) := by decide +kernel
theorem dX9_slitsOf_29 : decode cX9_slitsOf 29 = .ok (.aload_n 0, 1) := by decide +kernel
theorem dX9_slitsOf_30 : decode cX9_slitsOf 30 = .ok (.getfield 7, 3) := by decide +kernel
theorem dX9_slitsOf_33 : decode cX9_slitsOf 33 = .ok (.iconst 4, 1) := by decide +kernel
theorem dX9_slitsOf_34 : decode cX9_slitsOf 34 = .ok (.iaload, 1) := by decide +kernel
theorem dX9_slitsOf_35 : decode cX9_slitsOf 35 = .ok (.if_icmp .gt 75, 3) := by decide +kernel
theorem dX9_slitsOf_38 : decode cX9_slitsOf 38 = .ok (.iload 5, 2) := by decide +kernel
theorem dX9_slitsOf_40 : decode cX9_slitsOf 40 = .ok (.aload_n 0, 1) := by decide +kernel
theorem dX9_slitsOf_41 : decode cX9_slitsOf 41 = .ok (.getfield 7, 3) := by decide +kernel
theorem dX9_slitsOf_44 : decode cX9_slitsOf 44 = .ok (.iconst 4, 1) := by decide +kernel
theorem dX9_slitsOf_45 : decode cX9_slitsOf 45 = .ok (.iaload, 1) := by decide +kernel
theorem dX9_slitsOf_46 : decode cX9_slitsOf 46 = .ok (.if_icmp .ge 28, 3) := by decide +kernel
theorem dX9_slitsOf_49 : decode cX9_slitsOf 49 = .ok (.aload_n 0, 1) := by decide +kernel
theorem dX9_slitsOf_50 : decode cX9_slitsOf 50 = .ok (.iload_n 3, 1) := by decide +kernel
theorem dX9_slitsOf_51 : decode cX9_slitsOf 51 = .ok (.iload 5, 2) := by decide +kernel
theorem dX9_slitsOf_53 : decode cX9_slitsOf 53 = .ok (.invokevirtual 113, 3) := by decide +kernel
theorem dX9_slitsOf_56 : decode cX9_slitsOf 56 = .ok (.aload_n 0, 1) := by decide +kernel
theorem dX9_slitsOf_57 : decode cX9_slitsOf 57 = .ok (.iload_n 3, 1) := by decide +kernel
theorem dX9_slitsOf_58 : decode cX9_slitsOf 58 = .ok (.iconst 1, 1) := by decide +kernel
theorem dX9_slitsOf_59 : decode cX9_slitsOf 59 = .ok (.iadd, 1) := by decide +kernel
theorem dX9_slitsOf_60 : decode cX9_slitsOf 60 = .ok (.iload 5, 2) := by decide +kernel
theorem dX9_slitsOf_62 : decode cX9_slitsOf 62 = .ok (.invokevirtual 113, 3) := by decide +kernel
theorem dX9_slitsOf_65 : decode cX9_slitsOf 65 = .ok (.if_icmp .eq 9, 3) := by decide +kernel
theorem dX9_slitsOf_68 : decode cX9_slitsOf 68 = .ok (.iinc 4 1, 3) := by decide +kernel
theorem dX9_slitsOf_71 : decode cX9_slitsOf 71 = .ok (.goto 33, 3) := by decide +kernel
theorem dX9_slitsOf_74 : decode cX9_slitsOf 74 = .ok (.iload_n 2, 1) := by decide +kernel
theorem dX9_slitsOf_75 : decode cX9_slitsOf 75 = .ok (.iload 4, 2) := by decide +kernel
theorem dX9_slitsOf_77 : decode cX9_slitsOf 77 = .ok (.iload_n 1, 1) := by decide +kernel
theorem dX9_slitsOf_78 : decode cX9_slitsOf 78 = .ok (.if_icmp .lt 7, 3) := by decide +kernel
theorem dX9_slitsOf_81 : decode cX9_slitsOf 81 = .ok (.iconst 1, 1) := by decide +kernel
theorem dX9_slitsOf_82 : decode cX9_slitsOf 82 = .ok (.goto 4, 3) := by decide +kernel
theorem dX9_slitsOf_85 : decode cX9_slitsOf 85 = .ok (.iconst 0, 1) := by decide +kernel
theorem dX9_slitsOf_86 : decode cX9_slitsOf 86 = .ok (.iadd, 1) := by decide +kernel
theorem dX9_slitsOf_87 : decode cX9_slitsOf 87 = .ok (.istore_n 2, 1) := by decide +kernel
theorem dX9_slitsOf_88 : decode cX9_slitsOf 88 = .ok (.aload_n 0, 1) := by decide +kernel
theorem dX9_slitsOf_89 : decode cX9_slitsOf 89 = .ok (.aload_n 0, 1) := by decide +kernel
theorem dX9_slitsOf_90 : decode cX9_slitsOf 90 = .ok (.getfield 208, 3) := by decide +kernel
theorem dX9_slitsOf_93 : decode cX9_slitsOf 93 = .ok (.iload 4, 2) := by decide +kernel
theorem dX9_slitsOf_95 : decode cX9_slitsOf 95 = .ok (.invokestatic 172, 3) := by decide +kernel
theorem dX9_slitsOf_98 : decode cX9_slitsOf 98 = .ok (.putfield 208, 3) := by decide +kernel
theorem dX9_slitsOf_101 : decode cX9_slitsOf 101 = .ok (.iconst 0, 1) := by decide +kernel
theorem dX9_slitsOf_102 : decode cX9_slitsOf 102 = .ok (.istore 4, 2) := by decide +kernel
theorem dX9_slitsOf_104 : decode cX9_slitsOf 104 = .ok (.iinc 5 1, 3) := by decide +kernel
theorem dX9_slitsOf_107 : decode cX9_slitsOf 107 = .ok (.goto (-80), 3) := by decide +kernel
theorem dX9_slitsOf_110 : decode cX9_slitsOf 110 = .ok (.iinc 3 1, 3) := by decide +kernel
theorem dX9_slitsOf_113 : decode cX9_slitsOf 113 = .ok (.goto (-104), 3) := by decide +kernel
theorem dX9_slitsOf_116 : decode cX9_slitsOf 116 = .ok (.iload_n 2, 1) := by decide +kernel
theorem dX9_slitsOf_117 : decode cX9_slitsOf 117 = .ok (.ireturn, 1) := by decide +kernel
theorem dX9_slits_0 : decode cX9_slits 0 = .ok (.aload_n 0, 1) := by decide +kernel
theorem dX9_slits_1 : decode cX9_slits 1 = .ok (.iload_n 1, 1) := by decide +kernel
theorem dX9_slits_2 : decode cX9_slits 2 = .ok (.i2l, 1) := by decide +kernel
theorem dX9_slits_3 : decode cX9_slits 3 = .ok (.ldc2_w 111, 3) := by decide +kernel
theorem dX9_slits_6 : decode cX9_slits 6 = .ok (.ldc2_w 211, 3) := by decide +kernel
theorem dX9_slits_9 : decode cX9_slits 9 = .ok (.invokestatic 82, 3) := by decide +kernel
theorem dX9_slits_12 : decode cX9_slits 12 = .ok (.invokevirtual 74, 3) := by decide +kernel
theorem dX9_slits_15 : decode cX9_slits 15 = .ok (.ifCond .eq 11, 3) := by decide +kernel
theorem dX9_slits_18 : decode cX9_slits 18 = .ok (.aload_n 0, 1) := by decide +kernel
theorem dX9_slits_19 : decode cX9_slits 19 = .ok (.iload_n 1, 1) := by decide +kernel
theorem dX9_slits_20 : decode cX9_slits 20 = .ok (.invokevirtual 213, 3) := by decide +kernel
theorem dX9_slits_23 : decode cX9_slits 23 = .ok (.goto 4, 3) := by decide +kernel
theorem dX9_slits_26 : decode cX9_slits 26 = .ok (.iconst 0, 1) := by decide +kernel
theorem dX9_slits_27 : decode cX9_slits 27 = .ok (.ireturn, 1) := by decide +kernel
theorem dX9_longestSlit_0 : decode cX9_longestSlit 0 = .ok (.aload_n 0, 1) := by decide +kernel
theorem dX9_longestSlit_1 : decode cX9_longestSlit 1 = .ok (.iconst 0, 1) := by decide +kernel
theorem dX9_longestSlit_2 : decode cX9_longestSlit 2 = .ok (.putfield 58, 3) := by decide +kernel
theorem dX9_longestSlit_5 : decode cX9_longestSlit 5 = .ok (.aload_n 0, 1) := by decide +kernel
theorem dX9_longestSlit_6 : decode cX9_longestSlit 6 = .ok (.iconst 2, 1) := by decide +kernel
theorem dX9_longestSlit_7 : decode cX9_longestSlit 7 = .ok (.invokevirtual 213, 3) := by decide +kernel
theorem dX9_longestSlit_10 : decode cX9_longestSlit 10 = .ok (.istore_n 1, 1) := by decide +kernel
theorem dX9_longestSlit_11 : decode cX9_longestSlit 11 = .ok (.iload_n 1, 1) := by decide +kernel
theorem dX9_longestSlit_12 : decode cX9_longestSlit 12 = .ok (.ifCond .ne 7, 3) := by decide +kernel
theorem dX9_longestSlit_15 : decode cX9_longestSlit 15 = .ok (.iconst 0, 1) := by decide +kernel
theorem dX9_longestSlit_16 : decode cX9_longestSlit 16 = .ok (.goto 7, 3) := by decide +kernel
theorem dX9_longestSlit_19 : decode cX9_longestSlit 19 = .ok (.aload_n 0, 1) := by decide +kernel
theorem dX9_longestSlit_20 : decode cX9_longestSlit 20 = .ok (.getfield 208, 3) := by decide +kernel
theorem dX9_longestSlit_23 : decode cX9_longestSlit 23 = .ok (.ireturn, 1) := by decide +kernel
theorem dX9_meanJoins_0 : decode cX9_meanJoins 0 = .ok (.aload_n 0, 1) := by decide +kernel
theorem dX9_meanJoins_1 : decode cX9_meanJoins 1 = .ok (.iconst 0, 1) := by decide +kernel
theorem dX9_meanJoins_2 : decode cX9_meanJoins 2 = .ok (.putfield 58, 3) := by decide +kernel
theorem dX9_meanJoins_5 : decode cX9_meanJoins 5 = .ok (.iconst 0, 1) := by decide +kernel
theorem dX9_meanJoins_6 : decode cX9_meanJoins 6 = .ok (.istore_n 1, 1) := by decide +kernel
theorem dX9_meanJoins_7 : decode cX9_meanJoins 7 = .ok (.iconst 0, 1) := by decide +kernel
theorem dX9_meanJoins_8 : decode cX9_meanJoins 8 = .ok (.istore_n 2, 1) := by decide +kernel
theorem dX9_meanJoins_9 : decode cX9_meanJoins 9 = .ok (.iload_n 2, 1) := by decide +kernel
theorem dX9_meanJoins_10 : decode cX9_meanJoins 10 = .ok (.aload_n 0, 1) := by decide +kernel
theorem dX9_meanJoins_11 : decode cX9_meanJoins 11 = .ok (.getfield 7, 3) := by decide +kernel
theorem dX9_meanJoins_14 : decode cX9_meanJoins 14 = .ok (.iconst 4, 1) := by decide +kernel
theorem dX9_meanJoins_15 : decode cX9_meanJoins 15 = .ok (.iaload, 1) := by decide +kernel
theorem dX9_meanJoins_16 : decode cX9_meanJoins 16 = .ok (.if_icmp .ge 17, 3) := by decide +kernel
theorem dX9_meanJoins_19 : decode cX9_meanJoins 19 = .ok (.iload_n 1, 1) := by decide +kernel
theorem dX9_meanJoins_20 : decode cX9_meanJoins 20 = .ok (.aload_n 0, 1) := by decide +kernel
theorem dX9_meanJoins_21 : decode cX9_meanJoins 21 = .ok (.iload_n 2, 1) := by decide +kernel
theorem dX9_meanJoins_22 : decode cX9_meanJoins 22 = .ok (.invokevirtual 205, 3) := by decide +kernel
theorem dX9_meanJoins_25 : decode cX9_meanJoins 25 = .ok (.iadd, 1) := by decide +kernel
theorem dX9_meanJoins_26 : decode cX9_meanJoins 26 = .ok (.istore_n 1, 1) := by decide +kernel
theorem dX9_meanJoins_27 : decode cX9_meanJoins 27 = .ok (.iinc 2 1, 3) := by decide +kernel
theorem dX9_meanJoins_30 : decode cX9_meanJoins 30 = .ok (.goto (-21), 3) := by decide +kernel
theorem dX9_meanJoins_33 : decode cX9_meanJoins 33 = .ok (.aload_n 0, 1) := by decide +kernel
theorem dX9_meanJoins_34 : decode cX9_meanJoins 34 = .ok (.getfield 7, 3) := by decide +kernel
theorem dX9_meanJoins_37 : decode cX9_meanJoins 37 = .ok (.iconst 4, 1) := by decide +kernel
theorem dX9_meanJoins_38 : decode cX9_meanJoins 38 = .ok (.iaload, 1) := by decide +kernel
theorem dX9_meanJoins_39 : decode cX9_meanJoins 39 = .ok (.ifCond .ne 7, 3) := by decide +kernel
theorem dX9_meanJoins_42 : decode cX9_meanJoins 42 = .ok (.dconst 0, 1) := by decide +kernel
theorem dX9_meanJoins_43 : decode cX9_meanJoins 43 = .ok (.goto 13, 3) := by decide +kernel
theorem dX9_meanJoins_46 : decode cX9_meanJoins 46 = .ok (.iload_n 1, 1) := by decide +kernel
theorem dX9_meanJoins_47 : decode cX9_meanJoins 47 = .ok (.i2d, 1) := by decide +kernel
theorem dX9_meanJoins_48 : decode cX9_meanJoins 48 = .ok (.aload_n 0, 1) := by decide +kernel
theorem dX9_meanJoins_49 : decode cX9_meanJoins 49 = .ok (.getfield 7, 3) := by decide +kernel
theorem dX9_meanJoins_52 : decode cX9_meanJoins 52 = .ok (.iconst 4, 1) := by decide +kernel
theorem dX9_meanJoins_53 : decode cX9_meanJoins 53 = .ok (.iaload, 1) := by decide +kernel
theorem dX9_meanJoins_54 : decode cX9_meanJoins 54 = .ok (.i2d, 1) := by decide +kernel
theorem dX9_meanJoins_55 : decode cX9_meanJoins 55 = .ok (.ddiv, 1) := by decide +kernel
theorem dX9_meanJoins_56 : decode cX9_meanJoins 56 = .ok (.dreturn, 1) := by decide +kernel
theorem dX9_account_0 : decode cX9_account 0 = .ok (.aload_n 0, 1) := by decide +kernel
theorem dX9_account_1 : decode cX9_account 1 = .ok (.iload_n 1, 1) := by decide +kernel
theorem dX9_account_2 : decode cX9_account 2 = .ok (.i2l, 1) := by decide +kernel
theorem dX9_account_3 : decode cX9_account 3 = .ok (.lconst 0, 1) := by decide +kernel
theorem dX9_account_4 : decode cX9_account 4 = .ok (.ldc2_w 183, 3) := by decide +kernel
theorem dX9_account_7 : decode cX9_account 7 = .ok (.invokestatic 82, 3) := by decide +kernel
theorem dX9_account_10 : decode cX9_account 10 = .ok (.invokevirtual 74, 3) := by decide +kernel
theorem dX9_account_13 : decode cX9_account 13 = .ok (.ifCond .ne 5, 3) := by decide +kernel
theorem dX9_account_16 : decode cX9_account 16 = .ok (.iconst 0, 1) := by decide +kernel
theorem dX9_account_17 : decode cX9_account 17 = .ok (.ireturn, 1) := by decide +kernel
theorem dX9_account_18 : decode cX9_account 18 = .ok (.iload_n 1, 1) := by decide +kernel
theorem dX9_account_19 : decode cX9_account 19 = .ok (.ifCond .ne 10, 3) := by decide +kernel
theorem dX9_account_22 : decode cX9_account 22 = .ok (.aload_n 0, 1) := by decide +kernel
theorem dX9_account_23 : decode cX9_account 23 = .ok (.getfield 68, 3) := by decide +kernel
theorem dX9_account_26 : decode cX9_account 26 = .ok (.goto 22, 3) := by decide +kernel
theorem dX9_account_29 : decode cX9_account 29 = .ok (.iload_n 1, 1) := by decide +kernel
theorem dX9_account_30 : decode cX9_account 30 = .ok (.bipush 8, 2) := by decide +kernel
theorem dX9_account_32 : decode cX9_account 32 = .ok (.if_icmp .ne 10, 3) := by decide +kernel
theorem dX9_account_35 : decode cX9_account 35 = .ok (.aload_n 0, 1) := by decide +kernel
theorem dX9_account_36 : decode cX9_account 36 = .ok (.getfield 216, 3) := by decide +kernel
theorem dX9_account_39 : decode cX9_account 39 = .ok (.goto 9, 3) := by decide +kernel
theorem dX9_account_42 : decode cX9_account 42 = .ok (.aload_n 0, 1) := by decide +kernel
theorem dX9_account_43 : decode cX9_account 43 = .ok (.getfield 26, 3) := by decide +kernel
theorem dX9_account_46 : decode cX9_account 46 = .ok (.iload_n 1, 1) := by decide +kernel
theorem dX9_account_47 : decode cX9_account 47 = .ok (.iaload, 1) := by decide +kernel
theorem dX9_account_48 : decode cX9_account 48 = .ok (.ireturn, 1) := by decide +kernel
theorem dX9_wovenAt_0 : decode cX9_wovenAt 0 = .ok (.aload_n 0, 1) := by decide +kernel
theorem dX9_wovenAt_1 : decode cX9_wovenAt 1 = .ok (.iload_n 1, 1) := by decide +kernel
theorem dX9_wovenAt_2 : decode cX9_wovenAt 2 = .ok (.iload_n 2, 1) := by decide +kernel
theorem dX9_wovenAt_3 : decode cX9_wovenAt 3 = .ok (.invokevirtual 113, 3) := by decide +kernel
theorem dX9_wovenAt_6 : decode cX9_wovenAt 6 = .ok (.istore 4, 2) := by decide +kernel
theorem dX9_wovenAt_8 : decode cX9_wovenAt 8 = .ok (.iload 4, 2) := by decide +kernel
theorem dX9_wovenAt_10 : decode cX9_wovenAt 10 = .ok (.iconst (-1), 1) := by decide +kernel
theorem dX9_wovenAt_11 : decode cX9_wovenAt 11 = .ok (.if_icmp .eq 8, 3) := by decide +kernel
theorem dX9_wovenAt_14 : decode cX9_wovenAt 14 = .ok (.iload 4, 2) := by decide +kernel
theorem dX9_wovenAt_16 : decode cX9_wovenAt 16 = .ok (.goto 21, 3) := by decide +kernel
theorem dX9_wovenAt_19 : decode cX9_wovenAt 19 = .ok (.aload_n 0, 1) := by decide +kernel
theorem dX9_wovenAt_20 : decode cX9_wovenAt 20 = .ok (.iload_n 3, 1) := by decide +kernel
theorem dX9_wovenAt_21 : decode cX9_wovenAt 21 = .ok (.ifCond .eq 11, 3) := by decide +kernel
theorem dX9_wovenAt_24 : decode cX9_wovenAt 24 = .ok (.aload_n 0, 1) := by decide +kernel
theorem dX9_wovenAt_25 : decode cX9_wovenAt 25 = .ok (.iload_n 1, 1) := by decide +kernel
theorem dX9_wovenAt_26 : decode cX9_wovenAt 26 = .ok (.invokevirtual 102, 3) := by decide +kernel
theorem dX9_wovenAt_29 : decode cX9_wovenAt 29 = .ok (.goto 4, 3) := by decide +kernel
theorem dX9_wovenAt_32 : decode cX9_wovenAt 32 = .ok (.iload_n 1, 1) := by decide +kernel
theorem dX9_wovenAt_33 : decode cX9_wovenAt 33 = .ok (.iload_n 2, 1) := by decide +kernel
theorem dX9_wovenAt_34 : decode cX9_wovenAt 34 = .ok (.invokevirtual 116, 3) := by decide +kernel
theorem dX9_wovenAt_37 : decode cX9_wovenAt 37 = .ok (.ireturn, 1) := by decide +kernel
theorem dX9_takes_0 : decode cX9_takes 0 = .ok (.iconst 0, 1) := by decide +kernel
theorem dX9_takes_1 : decode cX9_takes 1 = .ok (.istore 4, 2) := by decide +kernel
theorem dX9_takes_3 : decode cX9_takes 3 = .ok (.aload_n 0, 1) := by decide +kernel
theorem dX9_takes_4 : decode cX9_takes 4 = .ok (.getfield 7, 3) := by decide +kernel
theorem dX9_takes_7 : decode cX9_takes 7 = .ok (.iconst 4, 1) := by decide +kernel
theorem dX9_takes_8 : decode cX9_takes 8 = .ok (.iaload, 1) := by decide +kernel
theorem dX9_takes_9 : decode cX9_takes 9 = .ok (.istore 5, 2) := by decide +kernel
theorem dX9_takes_11 : decode cX9_takes 11 = .ok (.iload 5, 2) := by decide +kernel
theorem dX9_takes_13 : decode cX9_takes 13 = .ok (.aload_n 0, 1) := by decide +kernel
theorem dX9_takes_14 : decode cX9_takes 14 = .ok (.getfield 7, 3) := by decide +kernel
theorem dX9_takes_17 : decode cX9_takes 17 = .ok (.iconst 4, 1) := by decide +kernel
theorem dX9_takes_18 : decode cX9_takes 18 = .ok (.iaload, 1) := by decide +kernel
theorem dX9_takes_19 : decode cX9_takes 19 = .ok (.iload_n 2, 1) := by decide +kernel
theorem dX9_takes_20 : decode cX9_takes 20 = .ok (.iadd, 1) := by decide +kernel
theorem dX9_takes_21 : decode cX9_takes 21 = .ok (.if_icmp .ge 64, 3) := by decide +kernel
theorem dX9_takes_24 : decode cX9_takes 24 = .ok (.iconst 0, 1) := by decide +kernel
theorem dX9_takes_25 : decode cX9_takes 25 = .ok (.istore 6, 2) := by decide +kernel
theorem dX9_takes_27 : decode cX9_takes 27 = .ok (.iload 6, 2) := by decide +kernel
theorem dX9_takes_29 : decode cX9_takes 29 = .ok (.aload_n 0, 1) := by decide +kernel
theorem dX9_takes_30 : decode cX9_takes 30 = .ok (.getfield 7, 3) := by decide +kernel
theorem dX9_takes_33 : decode cX9_takes 33 = .ok (.iconst 0, 1) := by decide +kernel
theorem dX9_takes_34 : decode cX9_takes 34 = .ok (.iaload, 1) := by decide +kernel
theorem dX9_takes_35 : decode cX9_takes 35 = .ok (.if_icmp .ge 44, 3) := by decide +kernel
theorem dX9_takes_38 : decode cX9_takes 38 = .ok (.iload 4, 2) := by decide +kernel
theorem dX9_takes_40 : decode cX9_takes 40 = .ok (.aload_n 0, 1) := by decide +kernel
theorem dX9_takes_41 : decode cX9_takes 41 = .ok (.iload 6, 2) := by decide +kernel
theorem dX9_takes_43 : decode cX9_takes 43 = .ok (.iload 5, 2) := by decide +kernel
theorem dX9_takes_45 : decode cX9_takes 45 = .ok (.invokevirtual 113, 3) := by decide +kernel
theorem dX9_takes_48 : decode cX9_takes 48 = .ok (.iconst (-1), 1) := by decide +kernel
theorem dX9_takes_49 : decode cX9_takes 49 = .ok (.if_icmp .ne 20, 3) := by decide +kernel
theorem dX9_takes_52 : decode cX9_takes 52 = .ok (.aload_n 0, 1) := by decide +kernel
theorem dX9_takes_53 : decode cX9_takes 53 = .ok (.iload 6, 2) := by decide +kernel
theorem dX9_takes_55 : decode cX9_takes 55 = .ok (.iload 5, 2) := by decide +kernel
theorem dX9_takes_57 : decode cX9_takes 57 = .ok (.iload_n 3, 1) := by decide +kernel
theorem dX9_takes_58 : decode cX9_takes 58 = .ok (.invokevirtual 219, 3) := by decide +kernel
theorem dX9_takes_61 : decode cX9_takes 61 = .ok (.iload_n 1, 1) := by decide +kernel
theorem dX9_takes_62 : decode cX9_takes 62 = .ok (.if_icmp .ne 7, 3) := by decide +kernel
theorem dX9_takes_65 : decode cX9_takes 65 = .ok (.iconst 1, 1) := by decide +kernel
theorem dX9_takes_66 : decode cX9_takes 66 = .ok (.goto 4, 3) := by decide +kernel
theorem dX9_takes_69 : decode cX9_takes 69 = .ok (.iconst 0, 1) := by decide +kernel
theorem dX9_takes_70 : decode cX9_takes 70 = .ok (.iadd, 1) := by decide +kernel
theorem dX9_takes_71 : decode cX9_takes 71 = .ok (.istore 4, 2) := by decide +kernel
theorem dX9_takes_73 : decode cX9_takes 73 = .ok (.iinc 6 1, 3) := by decide +kernel
theorem dX9_takes_76 : decode cX9_takes 76 = .ok (.goto (-49), 3) := by decide +kernel
theorem dX9_takes_79 : decode cX9_takes 79 = .ok (.iinc 5 1, 3) := by decide +kernel
theorem dX9_takes_82 : decode cX9_takes 82 = .ok (.goto (-71), 3) := by decide +kernel
theorem dX9_takes_85 : decode cX9_takes 85 = .ok (.iload 4, 2) := by decide +kernel
theorem dX9_takes_87 : decode cX9_takes 87 = .ok (.ireturn, 1) := by decide +kernel
theorem dX9_isEnough_0 : decode cX9_isEnough 0 = .ok (.iconst 1, 1) := by decide +kernel
theorem dX9_isEnough_1 : decode cX9_isEnough 1 = .ok (.istore_n 3, 1) := by decide +kernel
theorem dX9_isEnough_2 : decode cX9_isEnough 2 = .ok (.iconst 0, 1) := by decide +kernel
theorem dX9_isEnough_3 : decode cX9_isEnough 3 = .ok (.istore 4, 2) := by decide +kernel
theorem dX9_isEnough_5 : decode cX9_isEnough 5 = .ok (.iload 4, 2) := by decide +kernel
theorem dX9_isEnough_7 : decode cX9_isEnough 7 = .ok (.bipush 7, 2) := by decide +kernel
theorem dX9_isEnough_9 : decode cX9_isEnough 9 = .ok (.if_icmp .ge 40, 3) := by decide +kernel
theorem dX9_isEnough_12 : decode cX9_isEnough 12 = .ok (.iload_n 3, 1) := by decide +kernel
theorem dX9_isEnough_13 : decode cX9_isEnough 13 = .ok (.ifCond .eq 28, 3) := by decide +kernel
theorem dX9_isEnough_16 : decode cX9_isEnough 16 = .ok (.aload_n 0, 1) := by decide +kernel
theorem dX9_isEnough_17 : decode cX9_isEnough 17 = .ok (.iload 4, 2) := by decide +kernel
theorem dX9_isEnough_19 : decode cX9_isEnough 19 = .ok (.iload_n 1, 1) := by decide +kernel
theorem dX9_isEnough_20 : decode cX9_isEnough 20 = .ok (.iload_n 2, 1) := by decide +kernel
theorem dX9_isEnough_21 : decode cX9_isEnough 21 = .ok (.invokevirtual 222, 3) := by decide +kernel
theorem dX9_isEnough_24 : decode cX9_isEnough 24 = .ok (.aload_n 0, 1) := by decide +kernel
theorem dX9_isEnough_25 : decode cX9_isEnough 25 = .ok (.getfield 7, 3) := by decide +kernel
theorem dX9_isEnough_28 : decode cX9_isEnough 28 = .ok (.bipush 6, 2) := by decide +kernel
theorem dX9_isEnough_30 : decode cX9_isEnough 30 = .ok (.iload 4, 2) := by decide +kernel
theorem dX9_isEnough_32 : decode cX9_isEnough 32 = .ok (.iadd, 1) := by decide +kernel
theorem dX9_isEnough_33 : decode cX9_isEnough 33 = .ok (.iaload, 1) := by decide +kernel
theorem dX9_isEnough_34 : decode cX9_isEnough 34 = .ok (.if_icmp .gt 7, 3) := by decide +kernel
theorem dX9_isEnough_37 : decode cX9_isEnough 37 = .ok (.iconst 1, 1) := by decide +kernel
theorem dX9_isEnough_38 : decode cX9_isEnough 38 = .ok (.goto 4, 3) := by decide +kernel
theorem dX9_isEnough_41 : decode cX9_isEnough 41 = .ok (.iconst 0, 1) := by decide +kernel
theorem dX9_isEnough_42 : decode cX9_isEnough 42 = .ok (.istore_n 3, 1) := by decide +kernel
theorem dX9_isEnough_43 : decode cX9_isEnough 43 = .ok (.iinc 4 1, 3) := by decide +kernel
theorem dX9_isEnough_46 : decode cX9_isEnough 46 = .ok (.goto (-41), 3) := by decide +kernel
theorem dX9_isEnough_49 : decode cX9_isEnough 49 = .ok (.iload_n 3, 1) := by decide +kernel
theorem dX9_isEnough_50 : decode cX9_isEnough 50 = .ok (.ireturn, 1) := by decide +kernel
theorem dX9_lasts_0 : decode cX9_lasts 0 = .ok (.aload_n 0, 1) := by decide +kernel
theorem dX9_lasts_1 : decode cX9_lasts 1 = .ok (.iconst 0, 1) := by decide +kernel
theorem dX9_lasts_2 : decode cX9_lasts 2 = .ok (.putfield 58, 3) := by decide +kernel
theorem dX9_lasts_5 : decode cX9_lasts 5 = .ok (.iconst 0, 1) := by decide +kernel
theorem dX9_lasts_6 : decode cX9_lasts 6 = .ok (.istore_n 1, 1) := by decide +kernel
theorem dX9_lasts_7 : decode cX9_lasts 7 = .ok (.aload_n 0, 1) := by decide +kernel
theorem dX9_lasts_8 : decode cX9_lasts 8 = .ok (.getfield 7, 3) := by decide +kernel
theorem dX9_lasts_11 : decode cX9_lasts 11 = .ok (.iconst 4, 1) := by decide +kernel
theorem dX9_lasts_12 : decode cX9_lasts 12 = .ok (.iaload, 1) := by decide +kernel
theorem dX9_lasts_13 : decode cX9_lasts 13 = .ok (.iload_n 1, 1) := by decide +kernel
theorem dX9_lasts_14 : decode cX9_lasts 14 = .ok (.iadd, 1) := by decide +kernel
theorem dX9_lasts_15 : decode cX9_lasts 15 = .ok (.aload_n 0, 1) := by decide +kernel
theorem dX9_lasts_16 : decode cX9_lasts 16 = .ok (.getfield 7, 3) := by decide +kernel
theorem dX9_lasts_19 : decode cX9_lasts 19 = .ok (.iconst 1, 1) := by decide +kernel
theorem dX9_lasts_20 : decode cX9_lasts 20 = .ok (.iaload, 1) := by decide +kernel
theorem dX9_lasts_21 : decode cX9_lasts 21 = .ok (.if_icmp .ge 20, 3) := by decide +kernel
theorem dX9_lasts_24 : decode cX9_lasts 24 = .ok (.aload_n 0, 1) := by decide +kernel
theorem dX9_lasts_25 : decode cX9_lasts 25 = .ok (.iload_n 1, 1) := by decide +kernel
theorem dX9_lasts_26 : decode cX9_lasts 26 = .ok (.iconst 1, 1) := by decide +kernel
theorem dX9_lasts_27 : decode cX9_lasts 27 = .ok (.iadd, 1) := by decide +kernel
theorem dX9_lasts_28 : decode cX9_lasts 28 = .ok (.iconst 0, 1) := by decide +kernel
theorem dX9_lasts_29 : decode cX9_lasts 29 = .ok (.invokevirtual 225, 3) := by decide +kernel
theorem dX9_lasts_32 : decode cX9_lasts 32 = .ok (.ifCond .eq 9, 3) := by decide +kernel
theorem dX9_lasts_35 : decode cX9_lasts 35 = .ok (.iinc 1 1, 3) := by decide +kernel
theorem dX9_lasts_38 : decode cX9_lasts 38 = .ok (.goto (-31), 3) := by decide +kernel
theorem dX9_lasts_41 : decode cX9_lasts 41 = .ok (.iload_n 1, 1) := by decide +kernel
theorem dX9_lasts_42 : decode cX9_lasts 42 = .ok (.ireturn, 1) := by decide +kernel
theorem dX9_minutes_0 : decode cX9_minutes 0 = .ok (.aload_n 0, 1) := by decide +kernel
theorem dX9_minutes_1 : decode cX9_minutes 1 = .ok (.iload_n 1, 1) := by decide +kernel
theorem dX9_minutes_2 : decode cX9_minutes 2 = .ok (.i2l, 1) := by decide +kernel
theorem dX9_minutes_3 : decode cX9_minutes 3 = .ok (.lconst 0, 1) := by decide +kernel
theorem dX9_minutes_4 : decode cX9_minutes 4 = .ok (.ldc2_w 211, 3) := by decide +kernel
theorem dX9_minutes_7 : decode cX9_minutes 7 = .ok (.invokestatic 82, 3) := by decide +kernel
theorem dX9_minutes_10 : decode cX9_minutes 10 = .ok (.invokevirtual 74, 3) := by decide +kernel
theorem dX9_minutes_13 : decode cX9_minutes 13 = .ok (.ifCond .ne 5, 3) := by decide +kernel
theorem dX9_minutes_16 : decode cX9_minutes 16 = .ok (.iconst 0, 1) := by decide +kernel
theorem dX9_minutes_17 : decode cX9_minutes 17 = .ok (.ireturn, 1) := by decide +kernel
theorem dX9_minutes_18 : decode cX9_minutes 18 = .ok (.iconst 0, 1) := by decide +kernel
theorem dX9_minutes_19 : decode cX9_minutes 19 = .ok (.istore_n 2, 1) := by decide +kernel
theorem dX9_minutes_20 : decode cX9_minutes 20 = .ok (.aload_n 0, 1) := by decide +kernel
theorem dX9_minutes_21 : decode cX9_minutes 21 = .ok (.getfield 7, 3) := by decide +kernel
theorem dX9_minutes_24 : decode cX9_minutes 24 = .ok (.iconst 4, 1) := by decide +kernel
theorem dX9_minutes_25 : decode cX9_minutes 25 = .ok (.iaload, 1) := by decide +kernel
theorem dX9_minutes_26 : decode cX9_minutes 26 = .ok (.istore_n 3, 1) := by decide +kernel
theorem dX9_minutes_27 : decode cX9_minutes 27 = .ok (.iload_n 3, 1) := by decide +kernel
theorem dX9_minutes_28 : decode cX9_minutes 28 = .ok (.aload_n 0, 1) := by decide +kernel
theorem dX9_minutes_29 : decode cX9_minutes 29 = .ok (.getfield 7, 3) := by decide +kernel
theorem dX9_minutes_32 : decode cX9_minutes 32 = .ok (.iconst 1, 1) := by decide +kernel
theorem dX9_minutes_33 : decode cX9_minutes 33 = .ok (.iaload, 1) := by decide +kernel
theorem dX9_minutes_34 : decode cX9_minutes 34 = .ok (.aload_n 0, 1) := by decide +kernel
theorem dX9_minutes_35 : decode cX9_minutes 35 = .ok (.getfield 7, 3) := by decide +kernel
theorem dX9_minutes_38 : decode cX9_minutes 38 = .ok (.iconst 4, 1) := by decide +kernel
theorem dX9_minutes_39 : decode cX9_minutes 39 = .ok (.iaload, 1) := by decide +kernel
theorem dX9_minutes_40 : decode cX9_minutes 40 = .ok (.iload_n 1, 1) := by decide +kernel
theorem dX9_minutes_41 : decode cX9_minutes 41 = .ok (.iadd, 1) := by decide +kernel
theorem dX9_minutes_42 : decode cX9_minutes 42 = .ok (.invokestatic 167, 3) := by decide +kernel
theorem dX9_minutes_45 : decode cX9_minutes 45 = .ok (.if_icmp .ge 79, 3) := by decide +kernel
theorem dX9_minutes_48 : decode cX9_minutes 48 = .ok (.iconst 0, 1) := by decide +kernel
theorem dX9_minutes_49 : decode cX9_minutes 49 = .ok (.istore 4, 2) := by decide +kernel
theorem dX9_minutes_51 : decode cX9_minutes 51 = .ok (.iconst 0, 1) := by decide +kernel
theorem dX9_minutes_52 : decode cX9_minutes 52 = .ok (.istore 5, 2) := by decide +kernel
theorem dX9_minutes_54 : decode cX9_minutes 54 = .ok (.iload 5, 2) := by decide +kernel
theorem dX9_minutes_56 : decode cX9_minutes 56 = .ok (.iconst 1, 1) := by decide +kernel
theorem dX9_minutes_57 : decode cX9_minutes 57 = .ok (.iadd, 1) := by decide +kernel
theorem dX9_minutes_58 : decode cX9_minutes 58 = .ok (.aload_n 0, 1) := by decide +kernel
theorem dX9_minutes_59 : decode cX9_minutes 59 = .ok (.getfield 7, 3) := by decide +kernel
theorem dX9_minutes_62 : decode cX9_minutes 62 = .ok (.iconst 0, 1) := by decide +kernel
theorem dX9_minutes_63 : decode cX9_minutes 63 = .ok (.iaload, 1) := by decide +kernel
theorem dX9_minutes_64 : decode cX9_minutes 64 = .ok (.if_icmp .ge 40, 3) := by decide +kernel
theorem dX9_minutes_67 : decode cX9_minutes 67 = .ok (.iload 4, 2) := by decide +kernel
theorem dX9_minutes_69 : decode cX9_minutes 69 = .ok (.aload_n 0, 1) := by decide +kernel
theorem dX9_minutes_70 : decode cX9_minutes 70 = .ok (.iload 5, 2) := by decide +kernel
theorem dX9_minutes_72 : decode cX9_minutes 72 = .ok (.iload_n 3, 1) := by decide +kernel
theorem dX9_minutes_73 : decode cX9_minutes 73 = .ok (.iconst 0, 1) := by decide +kernel
theorem dX9_minutes_74 : decode cX9_minutes 74 = .ok (.invokevirtual 219, 3) := by decide +kernel
theorem dX9_minutes_77 : decode cX9_minutes 77 = .ok (.aload_n 0, 1) := by decide +kernel
theorem dX9_minutes_78 : decode cX9_minutes 78 = .ok (.iload 5, 2) := by decide +kernel
theorem dX9_minutes_80 : decode cX9_minutes 80 = .ok (.iconst 1, 1) := by decide +kernel
theorem dX9_minutes_81 : decode cX9_minutes 81 = .ok (.iadd, 1) := by decide +kernel
theorem dX9_minutes_82 : decode cX9_minutes 82 = .ok (.iload_n 3, 1) := by decide +kernel
theorem dX9_minutes_83 : decode cX9_minutes 83 = .ok (.iconst 0, 1) := by decide +kernel
theorem dX9_minutes_84 : decode cX9_minutes 84 = .ok (.invokevirtual 219, 3) := by decide +kernel
theorem dX9_minutes_87 : decode cX9_minutes 87 = .ok (.if_icmp .ne 7, 3) := by decide +kernel
theorem dX9_minutes_90 : decode cX9_minutes 90 = .ok (.iconst 0, 1) := by decide +kernel
theorem dX9_minutes_91 : decode cX9_minutes 91 = .ok (.goto 4, 3) := by decide +kernel
theorem dX9_minutes_94 : decode cX9_minutes 94 = .ok (.iconst 1, 1) := by decide +kernel
theorem dX9_minutes_95 : decode cX9_minutes 95 = .ok (.iadd, 1) := by decide +kernel
theorem dX9_minutes_96 : decode cX9_minutes 96 = .ok (.istore 4, 2) := by decide +kernel
theorem dX9_minutes_98 : decode cX9_minutes 98 = .ok (.iinc 5 1, 3) := by decide +kernel
theorem dX9_minutes_101 : decode cX9_minutes 101 = .ok (.goto (-47), 3) := by decide +kernel
theorem dX9_minutes_104 : decode cX9_minutes 104 = .ok (.iload_n 2, 1) := by decide +kernel
theorem dX9_minutes_105 : decode cX9_minutes 105 = .ok (.aload_n 0, 1) := by decide +kernel
theorem dX9_minutes_106 : decode cX9_minutes 106 = .ok (.getfield 7, 3) := by decide +kernel
theorem dX9_minutes_109 : decode cX9_minutes 109 = .ok (.iconst 0, 1) := by decide +kernel
theorem dX9_minutes_110 : decode cX9_minutes 110 = .ok (.iaload, 1) := by decide +kernel
theorem dX9_minutes_111 : decode cX9_minutes 111 = .ok (.iload 4, 2) := by decide +kernel
theorem dX9_minutes_113 : decode cX9_minutes 113 = .ok (.invokestatic 229, 3) := by decide +kernel
theorem dX9_minutes_116 : decode cX9_minutes 116 = .ok (.iadd, 1) := by decide +kernel
theorem dX9_minutes_117 : decode cX9_minutes 117 = .ok (.istore_n 2, 1) := by decide +kernel
theorem dX9_minutes_118 : decode cX9_minutes 118 = .ok (.iinc 3 1, 3) := by decide +kernel
theorem dX9_minutes_121 : decode cX9_minutes 121 = .ok (.goto (-94), 3) := by decide +kernel
theorem dX9_minutes_124 : decode cX9_minutes 124 = .ok (.iload_n 2, 1) := by decide +kernel
theorem dX9_minutes_125 : decode cX9_minutes 125 = .ok (.ireturn, 1) := by decide +kernel
theorem dX9_wouldErr_0 : decode cX9_wouldErr 0 = .ok (.aload_n 0, 1) := by decide +kernel
theorem dX9_wouldErr_1 : decode cX9_wouldErr 1 = .ok (.aload_n 0, 1) := by decide +kernel
theorem dX9_wouldErr_2 : decode cX9_wouldErr 2 = .ok (.iload_n 1, 1) := by decide +kernel
theorem dX9_wouldErr_3 : decode cX9_wouldErr 3 = .ok (.invokevirtual 189, 3) := by decide +kernel
theorem dX9_wouldErr_6 : decode cX9_wouldErr 6 = .ok (.invokevirtual 74, 3) := by decide +kernel
theorem dX9_wouldErr_9 : decode cX9_wouldErr 9 = .ok (.ifCond .ne 5, 3) := by decide +kernel
theorem dX9_wouldErr_12 : decode cX9_wouldErr 12 = .ok (.iconst 0, 1) := by decide +kernel
theorem dX9_wouldErr_13 : decode cX9_wouldErr 13 = .ok (.ireturn, 1) := by decide +kernel
theorem dX9_wouldErr_14 : decode cX9_wouldErr 14 = .ok (.iconst 0, 1) := by decide +kernel
theorem dX9_wouldErr_15 : decode cX9_wouldErr 15 = .ok (.istore_n 2, 1) := by decide +kernel
theorem dX9_wouldErr_16 : decode cX9_wouldErr 16 = .ok (.iconst 0, 1) := by decide +kernel
theorem dX9_wouldErr_17 : decode cX9_wouldErr 17 = .ok (.istore_n 3, 1) := by decide +kernel
theorem dX9_wouldErr_18 : decode cX9_wouldErr 18 = .ok (.iload_n 3, 1) := by decide +kernel
theorem dX9_wouldErr_19 : decode cX9_wouldErr 19 = .ok (.aload_n 0, 1) := by decide +kernel
theorem dX9_wouldErr_20 : decode cX9_wouldErr 20 = .ok (.getfield 7, 3) := by decide +kernel
theorem dX9_wouldErr_23 : decode cX9_wouldErr 23 = .ok (.iconst 0, 1) := by decide +kernel
theorem dX9_wouldErr_24 : decode cX9_wouldErr 24 = .ok (.iaload, 1) := by decide +kernel
theorem dX9_wouldErr_25 : decode cX9_wouldErr 25 = .ok (.if_icmp .ge 36, 3) := by decide +kernel
theorem dX9_wouldErr_28 : decode cX9_wouldErr 28 = .ok (.iload_n 2, 1) := by decide +kernel
theorem dX9_wouldErr_29 : decode cX9_wouldErr 29 = .ok (.aload_n 0, 1) := by decide +kernel
theorem dX9_wouldErr_30 : decode cX9_wouldErr 30 = .ok (.aload_n 0, 1) := by decide +kernel
theorem dX9_wouldErr_31 : decode cX9_wouldErr 31 = .ok (.iload_n 3, 1) := by decide +kernel
theorem dX9_wouldErr_32 : decode cX9_wouldErr 32 = .ok (.invokevirtual 102, 3) := by decide +kernel
theorem dX9_wouldErr_35 : decode cX9_wouldErr 35 = .ok (.iload_n 1, 1) := by decide +kernel
theorem dX9_wouldErr_36 : decode cX9_wouldErr 36 = .ok (.invokevirtual 116, 3) := by decide +kernel
theorem dX9_wouldErr_39 : decode cX9_wouldErr 39 = .ok (.aload_n 0, 1) := by decide +kernel
theorem dX9_wouldErr_40 : decode cX9_wouldErr 40 = .ok (.iload_n 3, 1) := by decide +kernel
theorem dX9_wouldErr_41 : decode cX9_wouldErr 41 = .ok (.iload_n 1, 1) := by decide +kernel
theorem dX9_wouldErr_42 : decode cX9_wouldErr 42 = .ok (.invokevirtual 116, 3) := by decide +kernel
theorem dX9_wouldErr_45 : decode cX9_wouldErr 45 = .ok (.if_icmp .ne 7, 3) := by decide +kernel
theorem dX9_wouldErr_48 : decode cX9_wouldErr 48 = .ok (.iconst 0, 1) := by decide +kernel
theorem dX9_wouldErr_49 : decode cX9_wouldErr 49 = .ok (.goto 4, 3) := by decide +kernel
theorem dX9_wouldErr_52 : decode cX9_wouldErr 52 = .ok (.iconst 1, 1) := by decide +kernel
theorem dX9_wouldErr_53 : decode cX9_wouldErr 53 = .ok (.iadd, 1) := by decide +kernel
theorem dX9_wouldErr_54 : decode cX9_wouldErr 54 = .ok (.istore_n 2, 1) := by decide +kernel
theorem dX9_wouldErr_55 : decode cX9_wouldErr 55 = .ok (.iinc 3 1, 3) := by decide +kernel
theorem dX9_wouldErr_58 : decode cX9_wouldErr 58 = .ok (.goto (-40), 3) := by decide +kernel
theorem dX9_wouldErr_61 : decode cX9_wouldErr 61 = .ok (.iload_n 2, 1) := by decide +kernel
theorem dX9_wouldErr_62 : decode cX9_wouldErr 62 = .ok (.ireturn, 1) := by decide +kernel
theorem dX9_isSide_0 : decode cX9_isSide 0 = .ok (.iload_n 0, 1) := by decide +kernel
theorem dX9_isSide_1 : decode cX9_isSide 1 = .ok (.i2l, 1) := by decide +kernel
theorem dX9_isSide_2 : decode cX9_isSide 2 = .ok (.lconst 0, 1) := by decide +kernel
theorem dX9_isSide_3 : decode cX9_isSide 3 = .ok (.lconst 1, 1) := by decide +kernel
theorem dX9_isSide_4 : decode cX9_isSide 4 = .ok (.invokestatic 82, 3) := by decide +kernel
theorem dX9_isSide_7 : decode cX9_isSide 7 = .ok (.ireturn, 1) := by decide +kernel
theorem dX9_place_0 : decode cX9_place 0 = .ok (.aload_n 0, 1) := by decide +kernel
theorem dX9_place_1 : decode cX9_place 1 = .ok (.iload_n 1, 1) := by decide +kernel
theorem dX9_place_2 : decode cX9_place 2 = .ok (.i2l, 1) := by decide +kernel
theorem dX9_place_3 : decode cX9_place 3 = .ok (.lconst 1, 1) := by decide +kernel
theorem dX9_place_4 : decode cX9_place 4 = .ok (.ldc2_w 183, 3) := by decide +kernel
theorem dX9_place_7 : decode cX9_place 7 = .ok (.invokestatic 82, 3) := by decide +kernel
theorem dX9_place_10 : decode cX9_place 10 = .ok (.ifCond .eq 14, 3) := by decide +kernel
theorem dX9_place_13 : decode cX9_place 13 = .ok (.iload_n 2, 1) := by decide +kernel
theorem dX9_place_14 : decode cX9_place 14 = .ok (.invokestatic 232, 3) := by decide +kernel
theorem dX9_place_17 : decode cX9_place 17 = .ok (.ifCond .eq 7, 3) := by decide +kernel
theorem dX9_place_20 : decode cX9_place 20 = .ok (.iconst 1, 1) := by decide +kernel
theorem dX9_place_21 : decode cX9_place 21 = .ok (.goto 4, 3) := by decide +kernel
theorem dX9_place_24 : decode cX9_place 24 = .ok (.iconst 0, 1) := by decide +kernel
theorem dX9_place_25 : decode cX9_place 25 = .ok (.invokevirtual 74, 3) := by decide +kernel
theorem dX9_place_28 : decode cX9_place 28 = .ok (.ifCond .ne 5, 3) := by decide +kernel
theorem dX9_place_31 : decode cX9_place 31 = .ok (.iconst 0, 1) := by decide +kernel
theorem dX9_place_32 : decode cX9_place 32 = .ok (.ireturn, 1) := by decide +kernel
theorem dX9_place_33 : decode cX9_place 33 = .ok (.aload_n 0, 1) := by decide +kernel
theorem dX9_place_34 : decode cX9_place 34 = .ok (.getfield 7, 3) := by decide +kernel
theorem dX9_place_37 : decode cX9_place 37 = .ok (.iconst 4, 1) := by decide +kernel
theorem dX9_place_38 : decode cX9_place 38 = .ok (.iaload, 1) := by decide +kernel
theorem dX9_place_39 : decode cX9_place 39 = .ok (.istore_n 3, 1) := by decide +kernel
theorem dX9_place_40 : decode cX9_place 40 = .ok (.iload_n 3, 1) := by decide +kernel
theorem dX9_place_41 : decode cX9_place 41 = .ok (.aload_n 0, 1) := by decide +kernel
theorem dX9_place_42 : decode cX9_place 42 = .ok (.getfield 7, 3) := by decide +kernel
theorem dX9_place_45 : decode cX9_place 45 = .ok (.iconst 1, 1) := by decide +kernel
theorem dX9_place_46 : decode cX9_place 46 = .ok (.iaload, 1) := by decide +kernel
theorem dX9_place_47 : decode cX9_place 47 = .ok (.if_icmp .ge 69, 3) := by decide +kernel
theorem dX9_place_50 : decode cX9_place 50 = .ok (.iconst 0, 1) := by decide +kernel
theorem dX9_place_51 : decode cX9_place 51 = .ok (.istore 4, 2) := by decide +kernel
theorem dX9_place_53 : decode cX9_place 53 = .ok (.iload 4, 2) := by decide +kernel
theorem dX9_place_55 : decode cX9_place 55 = .ok (.aload_n 0, 1) := by decide +kernel
theorem dX9_place_56 : decode cX9_place 56 = .ok (.getfield 7, 3) := by decide +kernel
theorem dX9_place_59 : decode cX9_place 59 = .ok (.iconst 0, 1) := by decide +kernel
theorem dX9_place_60 : decode cX9_place 60 = .ok (.iaload, 1) := by decide +kernel
theorem dX9_place_61 : decode cX9_place 61 = .ok (.if_icmp .ge 49, 3) := by decide +kernel
theorem dX9_place_64 : decode cX9_place 64 = .ok (.aload_n 0, 1) := by decide +kernel
theorem dX9_place_65 : decode cX9_place 65 = .ok (.getfield 7, 3) := by decide +kernel
theorem dX9_place_68 : decode cX9_place 68 = .ok (.iload_n 1, 1) := by decide +kernel
theorem dX9_place_69 : decode cX9_place 69 = .ok (.iload 4, 2) := by decide +kernel
theorem dX9_place_71 : decode cX9_place 71 = .ok (.i2l, 1) := by decide +kernel
theorem dX9_place_72 : decode cX9_place 72 = .ok (.iload_n 3, 1) := by decide +kernel
theorem dX9_place_73 : decode cX9_place 73 = .ok (.i2l, 1) := by decide +kernel
theorem dX9_place_74 : decode cX9_place 74 = .ok (.invokestatic 235, 3) := by decide +kernel
theorem dX9_place_77 : decode cX9_place 77 = .ok (.ifCond .eq 27, 3) := by decide +kernel
theorem dX9_place_80 : decode cX9_place 80 = .ok (.aload_n 0, 1) := by decide +kernel
theorem dX9_place_81 : decode cX9_place 81 = .ok (.getfield 7, 3) := by decide +kernel
theorem dX9_place_84 : decode cX9_place 84 = .ok (.iload_n 1, 1) := by decide +kernel
theorem dX9_place_85 : decode cX9_place 85 = .ok (.iload_n 2, 1) := by decide +kernel
theorem dX9_place_86 : decode cX9_place 86 = .ok (.iload 4, 2) := by decide +kernel
theorem dX9_place_88 : decode cX9_place 88 = .ok (.iload_n 3, 1) := by decide +kernel
theorem dX9_place_89 : decode cX9_place 89 = .ok (.iconst (-1), 1) := by decide +kernel
theorem dX9_place_90 : decode cX9_place 90 = .ok (.invokestatic 239, 3) := by decide +kernel
theorem dX9_place_93 : decode cX9_place 93 = .ok (.ifCond .ne 11, 3) := by decide +kernel
theorem dX9_place_96 : decode cX9_place 96 = .ok (.bipush 100, 2) := by decide +kernel
theorem dX9_place_98 : decode cX9_place 98 = .ok (.iload_n 3, 1) := by decide +kernel
theorem dX9_place_99 : decode cX9_place 99 = .ok (.imul, 1) := by decide +kernel
theorem dX9_place_100 : decode cX9_place 100 = .ok (.iload 4, 2) := by decide +kernel
theorem dX9_place_102 : decode cX9_place 102 = .ok (.iadd, 1) := by decide +kernel
theorem dX9_place_103 : decode cX9_place 103 = .ok (.ireturn, 1) := by decide +kernel
theorem dX9_place_104 : decode cX9_place 104 = .ok (.iinc 4 1, 3) := by decide +kernel
theorem dX9_place_107 : decode cX9_place 107 = .ok (.goto (-54), 3) := by decide +kernel
theorem dX9_place_110 : decode cX9_place 110 = .ok (.iinc 3 1, 3) := by decide +kernel
theorem dX9_place_113 : decode cX9_place 113 = .ok (.goto (-73), 3) := by decide +kernel
theorem dX9_place_116 : decode cX9_place 116 = .ok (.iconst (-1), 1) := by decide +kernel
theorem dX9_place_117 : decode cX9_place 117 = .ok (.ireturn, 1) := by decide +kernel
theorem dX9_finishes_0 : decode cX9_finishes 0 = .ok (.aload_n 0, 1) := by decide +kernel
theorem dX9_finishes_1 : decode cX9_finishes 1 = .ok (.getfield 7, 3) := by decide +kernel
theorem dX9_finishes_4 : decode cX9_finishes 4 = .ok (.iconst 4, 1) := by decide +kernel
theorem dX9_finishes_5 : decode cX9_finishes 5 = .ok (.iaload, 1) := by decide +kernel
theorem dX9_finishes_6 : decode cX9_finishes 6 = .ok (.istore_n 1, 1) := by decide +kernel
theorem dX9_finishes_7 : decode cX9_finishes 7 = .ok (.aload_n 0, 1) := by decide +kernel
theorem dX9_finishes_8 : decode cX9_finishes 8 = .ok (.dup, 1) := by decide +kernel
theorem dX9_finishes_9 : decode cX9_finishes 9 = .ok (.getfield 216, 3) := by decide +kernel
theorem dX9_finishes_12 : decode cX9_finishes 12 = .ok (.aload_n 0, 1) := by decide +kernel
theorem dX9_finishes_13 : decode cX9_finishes 13 = .ok (.getfield 7, 3) := by decide +kernel
theorem dX9_finishes_16 : decode cX9_finishes 16 = .ok (.iconst 0, 1) := by decide +kernel
theorem dX9_finishes_17 : decode cX9_finishes 17 = .ok (.iaload, 1) := by decide +kernel
theorem dX9_finishes_18 : decode cX9_finishes 18 = .ok (.aload_n 0, 1) := by decide +kernel
theorem dX9_finishes_19 : decode cX9_finishes 19 = .ok (.iload_n 1, 1) := by decide +kernel
theorem dX9_finishes_20 : decode cX9_finishes 20 = .ok (.invokevirtual 205, 3) := by decide +kernel
theorem dX9_finishes_23 : decode cX9_finishes 23 = .ok (.invokestatic 229, 3) := by decide +kernel
theorem dX9_finishes_26 : decode cX9_finishes 26 = .ok (.iadd, 1) := by decide +kernel
theorem dX9_finishes_27 : decode cX9_finishes 27 = .ok (.putfield 216, 3) := by decide +kernel
theorem dX9_finishes_30 : decode cX9_finishes 30 = .ok (.aload_n 0, 1) := by decide +kernel
theorem dX9_finishes_31 : decode cX9_finishes 31 = .ok (.getfield 7, 3) := by decide +kernel
theorem dX9_finishes_34 : decode cX9_finishes 34 = .ok (.iconst 4, 1) := by decide +kernel
theorem dX9_finishes_35 : decode cX9_finishes 35 = .ok (.dup2, 1) := by decide +kernel
theorem dX9_finishes_36 : decode cX9_finishes 36 = .ok (.iaload, 1) := by decide +kernel
theorem dX9_finishes_37 : decode cX9_finishes 37 = .ok (.iconst 1, 1) := by decide +kernel
theorem dX9_finishes_38 : decode cX9_finishes 38 = .ok (.iadd, 1) := by decide +kernel
theorem dX9_finishes_39 : decode cX9_finishes 39 = .ok (.iastore, 1) := by decide +kernel
theorem dX9_finishes_40 : decode cX9_finishes 40 = .ok (.aload_n 0, 1) := by decide +kernel
theorem dX9_finishes_41 : decode cX9_finishes 41 = .ok (.iload_n 1, 1) := by decide +kernel
theorem dX9_finishes_42 : decode cX9_finishes 42 = .ok (.invokevirtual 127, 3) := by decide +kernel
theorem dX9_finishes_45 : decode cX9_finishes 45 = .ok (.ireturn, 1) := by decide +kernel
theorem dX9_pass_0 : decode cX9_pass 0 = .ok (.iload_n 2, 1) := by decide +kernel
theorem dX9_pass_1 : decode cX9_pass 1 = .ok (.i2l, 1) := by decide +kernel
theorem dX9_pass_2 : decode cX9_pass 2 = .ok (.lconst 0, 1) := by decide +kernel
theorem dX9_pass_3 : decode cX9_pass 3 = .ok (.aload_n 0, 1) := by decide +kernel
theorem dX9_pass_4 : decode cX9_pass 4 = .ok (.getfield 7, 3) := by decide +kernel
theorem dX9_pass_7 : decode cX9_pass 7 = .ok (.iconst 0, 1) := by decide +kernel
theorem dX9_pass_8 : decode cX9_pass 8 = .ok (.iaload, 1) := by decide +kernel
theorem dX9_pass_9 : decode cX9_pass 9 = .ok (.iconst 1, 1) := by decide +kernel
theorem dX9_pass_10 : decode cX9_pass 10 = .ok (.isub, 1) := by decide +kernel
theorem dX9_pass_11 : decode cX9_pass 11 = .ok (.i2l, 1) := by decide +kernel
theorem dX9_pass_12 : decode cX9_pass 12 = .ok (.invokestatic 82, 3) := by decide +kernel
theorem dX9_pass_15 : decode cX9_pass 15 = .ok (.ifCond .eq 25, 3) := by decide +kernel
theorem dX9_pass_18 : decode cX9_pass 18 = .ok (.iload_n 3, 1) := by decide +kernel
theorem dX9_pass_19 : decode cX9_pass 19 = .ok (.i2l, 1) := by decide +kernel
theorem dX9_pass_20 : decode cX9_pass 20 = .ok (.lconst 0, 1) := by decide +kernel
theorem dX9_pass_21 : decode cX9_pass 21 = .ok (.aload_n 0, 1) := by decide +kernel
theorem dX9_pass_22 : decode cX9_pass 22 = .ok (.getfield 7, 3) := by decide +kernel
theorem dX9_pass_25 : decode cX9_pass 25 = .ok (.iconst 0, 1) := by decide +kernel
theorem dX9_pass_26 : decode cX9_pass 26 = .ok (.iaload, 1) := by decide +kernel
theorem dX9_pass_27 : decode cX9_pass 27 = .ok (.iconst 1, 1) := by decide +kernel
theorem dX9_pass_28 : decode cX9_pass 28 = .ok (.isub, 1) := by decide +kernel
theorem dX9_pass_29 : decode cX9_pass 29 = .ok (.i2l, 1) := by decide +kernel
theorem dX9_pass_30 : decode cX9_pass 30 = .ok (.invokestatic 82, 3) := by decide +kernel
theorem dX9_pass_33 : decode cX9_pass 33 = .ok (.ifCond .eq 7, 3) := by decide +kernel
theorem dX9_pass_36 : decode cX9_pass 36 = .ok (.iconst 1, 1) := by decide +kernel
theorem dX9_pass_37 : decode cX9_pass 37 = .ok (.goto 4, 3) := by decide +kernel
theorem dX9_pass_40 : decode cX9_pass 40 = .ok (.iconst 0, 1) := by decide +kernel
theorem dX9_pass_41 : decode cX9_pass 41 = .ok (.istore 4, 2) := by decide +kernel
theorem dX9_pass_43 : decode cX9_pass 43 = .ok (.aload_n 0, 1) := by decide +kernel
theorem dX9_pass_44 : decode cX9_pass 44 = .ok (.iload_n 1, 1) := by decide +kernel
theorem dX9_pass_45 : decode cX9_pass 45 = .ok (.invokestatic 195, 3) := by decide +kernel
theorem dX9_pass_48 : decode cX9_pass 48 = .ok (.ifCond .eq 12, 3) := by decide +kernel
theorem dX9_pass_51 : decode cX9_pass 51 = .ok (.iload 4, 2) := by decide +kernel
theorem dX9_pass_53 : decode cX9_pass 53 = .ok (.ifCond .eq 7, 3) := by decide +kernel
theorem dX9_pass_56 : decode cX9_pass 56 = .ok (.iconst 1, 1) := by decide +kernel
theorem dX9_pass_57 : decode cX9_pass 57 = .ok (.goto 4, 3) := by decide +kernel
theorem dX9_pass_60 : decode cX9_pass 60 = .ok (.iconst 0, 1) := by decide +kernel
theorem dX9_pass_61 : decode cX9_pass 61 = .ok (.iload_n 2, 1) := by decide +kernel
theorem dX9_pass_62 : decode cX9_pass 62 = .ok (.iload_n 3, 1) := by decide +kernel
theorem dX9_pass_63 : decode cX9_pass 63 = .ok (.if_icmp .gt 7, 3) := by decide +kernel
theorem dX9_pass_66 : decode cX9_pass 66 = .ok (.iconst 1, 1) := by decide +kernel
theorem dX9_pass_67 : decode cX9_pass 67 = .ok (.goto 4, 3) := by decide +kernel
theorem dX9_pass_70 : decode cX9_pass 70 = .ok (.iconst 0, 1) := by decide +kernel
theorem dX9_pass_71 : decode cX9_pass 71 = .ok (.invokevirtual 163, 3) := by decide +kernel
theorem dX9_pass_74 : decode cX9_pass 74 = .ok (.ifCond .eq 13, 3) := by decide +kernel
theorem dX9_pass_77 : decode cX9_pass 77 = .ok (.aload_n 0, 1) := by decide +kernel
theorem dX9_pass_78 : decode cX9_pass 78 = .ok (.iload_n 1, 1) := by decide +kernel
theorem dX9_pass_79 : decode cX9_pass 79 = .ok (.iload_n 2, 1) := by decide +kernel
theorem dX9_pass_80 : decode cX9_pass 80 = .ok (.iload_n 3, 1) := by decide +kernel
theorem dX9_pass_81 : decode cX9_pass 81 = .ok (.invokevirtual 243, 3) := by decide +kernel
theorem dX9_pass_84 : decode cX9_pass 84 = .ok (.goto 4, 3) := by decide +kernel
theorem dX9_pass_87 : decode cX9_pass 87 = .ok (.iconst 0, 1) := by decide +kernel
theorem dX9_pass_88 : decode cX9_pass 88 = .ok (.ireturn, 1) := by decide +kernel
theorem dX9_passes0_0 : decode cX9_passes0 0 = .ok (.aload_n 0, 1) := by decide +kernel
theorem dX9_passes0_1 : decode cX9_passes0 1 = .ok (.getfield 7, 3) := by decide +kernel
theorem dX9_passes0_4 : decode cX9_passes0 4 = .ok (.iconst 4, 1) := by decide +kernel
theorem dX9_passes0_5 : decode cX9_passes0 5 = .ok (.iaload, 1) := by decide +kernel
theorem dX9_passes0_6 : decode cX9_passes0 6 = .ok (.aload_n 0, 1) := by decide +kernel
theorem dX9_passes0_7 : decode cX9_passes0 7 = .ok (.getfield 7, 3) := by decide +kernel
theorem dX9_passes0_10 : decode cX9_passes0 10 = .ok (.iconst 1, 1) := by decide +kernel
theorem dX9_passes0_11 : decode cX9_passes0 11 = .ok (.iaload, 1) := by decide +kernel
theorem dX9_passes0_12 : decode cX9_passes0 12 = .ok (.if_icmp .ne 9, 3) := by decide +kernel
theorem dX9_passes0_15 : decode cX9_passes0 15 = .ok (.aload_n 0, 1) := by decide +kernel
theorem dX9_passes0_16 : decode cX9_passes0 16 = .ok (.iconst 1, 1) := by decide +kernel
theorem dX9_passes0_17 : decode cX9_passes0 17 = .ok (.invokevirtual 247, 3) := by decide +kernel
theorem dX9_passes0_20 : decode cX9_passes0 20 = .ok (.ireturn, 1) := by decide +kernel
theorem dX9_passes0_21 : decode cX9_passes0 21 = .ok (.iload_n 3, 1) := by decide +kernel
theorem dX9_passes0_22 : decode cX9_passes0 22 = .ok (.iload_n 2, 1) := by decide +kernel
theorem dX9_passes0_23 : decode cX9_passes0 23 = .ok (.isub, 1) := by decide +kernel
theorem dX9_passes0_24 : decode cX9_passes0 24 = .ok (.iconst 1, 1) := by decide +kernel
theorem dX9_passes0_25 : decode cX9_passes0 25 = .ok (.iadd, 1) := by decide +kernel
theorem dX9_passes0_26 : decode cX9_passes0 26 = .ok (.istore 4, 2) := by decide +kernel
theorem dX9_passes0_28 : decode cX9_passes0 28 = .ok (.aload_n 0, 1) := by decide +kernel
theorem dX9_passes0_29 : decode cX9_passes0 29 = .ok (.getfield 7, 3) := by decide +kernel
theorem dX9_passes0_32 : decode cX9_passes0 32 = .ok (.bipush 6, 2) := by decide +kernel
theorem dX9_passes0_34 : decode cX9_passes0 34 = .ok (.iload_n 1, 1) := by decide +kernel
theorem dX9_passes0_35 : decode cX9_passes0 35 = .ok (.iadd, 1) := by decide +kernel
theorem dX9_passes0_36 : decode cX9_passes0 36 = .ok (.iaload, 1) := by decide +kernel
theorem dX9_passes0_37 : decode cX9_passes0 37 = .ok (.iload 4, 2) := by decide +kernel
theorem dX9_passes0_39 : decode cX9_passes0 39 = .ok (.if_icmp .ge 9, 3) := by decide +kernel
theorem dX9_passes0_42 : decode cX9_passes0 42 = .ok (.aload_n 0, 1) := by decide +kernel
theorem dX9_passes0_43 : decode cX9_passes0 43 = .ok (.iconst 2, 1) := by decide +kernel
theorem dX9_passes0_44 : decode cX9_passes0 44 = .ok (.invokevirtual 247, 3) := by decide +kernel
theorem dX9_passes0_47 : decode cX9_passes0 47 = .ok (.ireturn, 1) := by decide +kernel
theorem dX9_passes0_48 : decode cX9_passes0 48 = .ok (.aload_n 0, 1) := by decide +kernel
theorem dX9_passes0_49 : decode cX9_passes0 49 = .ok (.invokevirtual 250, 3) := by decide +kernel
theorem dX9_passes0_52 : decode cX9_passes0 52 = .ok (.aload_n 0, 1) := by decide +kernel
theorem dX9_passes0_53 : decode cX9_passes0 53 = .ok (.getfield 7, 3) := by decide +kernel
theorem dX9_passes0_56 : decode cX9_passes0 56 = .ok (.bipush 6, 2) := by decide +kernel
theorem dX9_passes0_58 : decode cX9_passes0 58 = .ok (.iload_n 1, 1) := by decide +kernel
theorem dX9_passes0_59 : decode cX9_passes0 59 = .ok (.iadd, 1) := by decide +kernel
theorem dX9_passes0_60 : decode cX9_passes0 60 = .ok (.dup2, 1) := by decide +kernel
theorem dX9_passes0_61 : decode cX9_passes0 61 = .ok (.iaload, 1) := by decide +kernel
theorem dX9_passes0_62 : decode cX9_passes0 62 = .ok (.iload 4, 2) := by decide +kernel
theorem dX9_passes0_64 : decode cX9_passes0 64 = .ok (.isub, 1) := by decide +kernel
theorem dX9_passes0_65 : decode cX9_passes0 65 = .ok (.iastore, 1) := by decide +kernel
theorem dX9_passes0_66 : decode cX9_passes0 66 = .ok (.iload_n 2, 1) := by decide +kernel
theorem dX9_passes0_67 : decode cX9_passes0 67 = .ok (.istore 5, 2) := by decide +kernel
theorem dX9_passes0_69 : decode cX9_passes0 69 = .ok (.iload 5, 2) := by decide +kernel
theorem dX9_passes0_71 : decode cX9_passes0 71 = .ok (.iload_n 3, 1) := by decide +kernel
theorem dX9_passes0_72 : decode cX9_passes0 72 = .ok (.if_icmp .gt 30, 3) := by decide +kernel
theorem dX9_passes0_75 : decode cX9_passes0 75 = .ok (.aload_n 0, 1) := by decide +kernel
theorem dX9_passes0_76 : decode cX9_passes0 76 = .ok (.getfield 7, 3) := by decide +kernel
theorem dX9_passes0_79 : decode cX9_passes0 79 = .ok (.aload_n 0, 1) := by decide +kernel
theorem dX9_passes0_80 : decode cX9_passes0 80 = .ok (.iload 5, 2) := by decide +kernel
theorem dX9_passes0_82 : decode cX9_passes0 82 = .ok (.invokevirtual 102, 3) := by decide +kernel
theorem dX9_passes0_85 : decode cX9_passes0 85 = .ok (.aload_n 0, 1) := by decide +kernel
theorem dX9_passes0_86 : decode cX9_passes0 86 = .ok (.getfield 7, 3) := by decide +kernel
theorem dX9_passes0_89 : decode cX9_passes0 89 = .ok (.iconst 4, 1) := by decide +kernel
theorem dX9_passes0_90 : decode cX9_passes0 90 = .ok (.iaload, 1) := by decide +kernel
theorem dX9_passes0_91 : decode cX9_passes0 91 = .ok (.invokestatic 86, 3) := by decide +kernel
theorem dX9_passes0_94 : decode cX9_passes0 94 = .ok (.iload_n 1, 1) := by decide +kernel
theorem dX9_passes0_95 : decode cX9_passes0 95 = .ok (.iastore, 1) := by decide +kernel
theorem dX9_passes0_96 : decode cX9_passes0 96 = .ok (.iinc 5 1, 3) := by decide +kernel
theorem dX9_passes0_99 : decode cX9_passes0 99 = .ok (.goto (-30), 3) := by decide +kernel
theorem dX9_passes0_102 : decode cX9_passes0 102 = .ok (.aload_n 0, 1) := by decide +kernel
theorem dX9_passes0_103 : decode cX9_passes0 103 = .ok (.getfield 7, 3) := by decide +kernel
theorem dX9_passes0_106 : decode cX9_passes0 106 = .ok (.bipush 6, 2) := by decide +kernel
theorem dX9_passes0_108 : decode cX9_passes0 108 = .ok (.iload_n 1, 1) := by decide +kernel
theorem dX9_passes0_109 : decode cX9_passes0 109 = .ok (.iadd, 1) := by decide +kernel
theorem dX9_passes0_110 : decode cX9_passes0 110 = .ok (.iaload, 1) := by decide +kernel
theorem dX9_passes0_111 : decode cX9_passes0 111 = .ok (.ireturn, 1) := by decide +kernel
theorem dX9_beat_0 : decode cX9_beat 0 = .ok (.aload_n 0, 1) := by decide +kernel
theorem dX9_beat_1 : decode cX9_beat 1 = .ok (.iconst 0, 1) := by decide +kernel
theorem dX9_beat_2 : decode cX9_beat 2 = .ok (.putfield 58, 3) := by decide +kernel
theorem dX9_beat_5 : decode cX9_beat 5 = .ok (.aload_n 0, 1) := by decide +kernel
theorem dX9_beat_6 : decode cX9_beat 6 = .ok (.getfield 7, 3) := by decide +kernel
theorem dX9_beat_9 : decode cX9_beat 9 = .ok (.iconst 4, 1) := by decide +kernel
theorem dX9_beat_10 : decode cX9_beat 10 = .ok (.iaload, 1) := by decide +kernel
theorem dX9_beat_11 : decode cX9_beat 11 = .ok (.aload_n 0, 1) := by decide +kernel
theorem dX9_beat_12 : decode cX9_beat 12 = .ok (.getfield 7, 3) := by decide +kernel
theorem dX9_beat_15 : decode cX9_beat 15 = .ok (.iconst 1, 1) := by decide +kernel
theorem dX9_beat_16 : decode cX9_beat 16 = .ok (.iaload, 1) := by decide +kernel
theorem dX9_beat_17 : decode cX9_beat 17 = .ok (.if_icmp .ne 9, 3) := by decide +kernel
theorem dX9_beat_20 : decode cX9_beat 20 = .ok (.aload_n 0, 1) := by decide +kernel
theorem dX9_beat_21 : decode cX9_beat 21 = .ok (.iconst 1, 1) := by decide +kernel
theorem dX9_beat_22 : decode cX9_beat 22 = .ok (.invokevirtual 247, 3) := by decide +kernel
theorem dX9_beat_25 : decode cX9_beat 25 = .ok (.ireturn, 1) := by decide +kernel
theorem dX9_beat_26 : decode cX9_beat 26 = .ok (.aload_n 0, 1) := by decide +kernel
theorem dX9_beat_27 : decode cX9_beat 27 = .ok (.getfield 7, 3) := by decide +kernel
theorem dX9_beat_30 : decode cX9_beat 30 = .ok (.iconst 0, 1) := by decide +kernel
theorem dX9_beat_31 : decode cX9_beat 31 = .ok (.iaload, 1) := by decide +kernel
theorem dX9_beat_32 : decode cX9_beat 32 = .ok (.aload_n 0, 1) := by decide +kernel
theorem dX9_beat_33 : decode cX9_beat 33 = .ok (.invokevirtual 185, 3) := by decide +kernel
theorem dX9_beat_36 : decode cX9_beat 36 = .ok (.isub, 1) := by decide +kernel
theorem dX9_beat_37 : decode cX9_beat 37 = .ok (.istore_n 1, 1) := by decide +kernel
theorem dX9_beat_38 : decode cX9_beat 38 = .ok (.aload_n 0, 1) := by decide +kernel
theorem dX9_beat_39 : decode cX9_beat 39 = .ok (.getfield 7, 3) := by decide +kernel
theorem dX9_beat_42 : decode cX9_beat 42 = .ok (.bipush 6, 2) := by decide +kernel
theorem dX9_beat_44 : decode cX9_beat 44 = .ok (.iaload, 1) := by decide +kernel
theorem dX9_beat_45 : decode cX9_beat 45 = .ok (.iload_n 1, 1) := by decide +kernel
theorem dX9_beat_46 : decode cX9_beat 46 = .ok (.if_icmp .ge 9, 3) := by decide +kernel
theorem dX9_beat_49 : decode cX9_beat 49 = .ok (.aload_n 0, 1) := by decide +kernel
theorem dX9_beat_50 : decode cX9_beat 50 = .ok (.iconst 2, 1) := by decide +kernel
theorem dX9_beat_51 : decode cX9_beat 51 = .ok (.invokevirtual 247, 3) := by decide +kernel
theorem dX9_beat_54 : decode cX9_beat 54 = .ok (.ireturn, 1) := by decide +kernel
theorem dX9_beat_55 : decode cX9_beat 55 = .ok (.aload_n 0, 1) := by decide +kernel
theorem dX9_beat_56 : decode cX9_beat 56 = .ok (.invokevirtual 250, 3) := by decide +kernel
theorem dX9_beat_59 : decode cX9_beat 59 = .ok (.aload_n 0, 1) := by decide +kernel
theorem dX9_beat_60 : decode cX9_beat 60 = .ok (.getfield 7, 3) := by decide +kernel
theorem dX9_beat_63 : decode cX9_beat 63 = .ok (.bipush 6, 2) := by decide +kernel
theorem dX9_beat_65 : decode cX9_beat 65 = .ok (.dup2, 1) := by decide +kernel
theorem dX9_beat_66 : decode cX9_beat 66 = .ok (.iaload, 1) := by decide +kernel
theorem dX9_beat_67 : decode cX9_beat 67 = .ok (.iload_n 1, 1) := by decide +kernel
theorem dX9_beat_68 : decode cX9_beat 68 = .ok (.isub, 1) := by decide +kernel
theorem dX9_beat_69 : decode cX9_beat 69 = .ok (.iastore, 1) := by decide +kernel
theorem dX9_beat_70 : decode cX9_beat 70 = .ok (.iconst 0, 1) := by decide +kernel
theorem dX9_beat_71 : decode cX9_beat 71 = .ok (.istore_n 2, 1) := by decide +kernel
theorem dX9_beat_72 : decode cX9_beat 72 = .ok (.iload_n 2, 1) := by decide +kernel
theorem dX9_beat_73 : decode cX9_beat 73 = .ok (.aload_n 0, 1) := by decide +kernel
theorem dX9_beat_74 : decode cX9_beat 74 = .ok (.getfield 7, 3) := by decide +kernel
theorem dX9_beat_77 : decode cX9_beat 77 = .ok (.iconst 0, 1) := by decide +kernel
theorem dX9_beat_78 : decode cX9_beat 78 = .ok (.iaload, 1) := by decide +kernel
theorem dX9_beat_79 : decode cX9_beat 79 = .ok (.if_icmp .ge 39, 3) := by decide +kernel
theorem dX9_beat_82 : decode cX9_beat 82 = .ok (.aload_n 0, 1) := by decide +kernel
theorem dX9_beat_83 : decode cX9_beat 83 = .ok (.getfield 7, 3) := by decide +kernel
theorem dX9_beat_86 : decode cX9_beat 86 = .ok (.iload_n 2, 1) := by decide +kernel
theorem dX9_beat_87 : decode cX9_beat 87 = .ok (.aload_n 0, 1) := by decide +kernel
theorem dX9_beat_88 : decode cX9_beat 88 = .ok (.getfield 7, 3) := by decide +kernel
theorem dX9_beat_91 : decode cX9_beat 91 = .ok (.iconst 4, 1) := by decide +kernel
theorem dX9_beat_92 : decode cX9_beat 92 = .ok (.iaload, 1) := by decide +kernel
theorem dX9_beat_93 : decode cX9_beat 93 = .ok (.invokestatic 86, 3) := by decide +kernel
theorem dX9_beat_96 : decode cX9_beat 96 = .ok (.iconst 0, 1) := by decide +kernel
theorem dX9_beat_97 : decode cX9_beat 97 = .ok (.aload_n 0, 1) := by decide +kernel
theorem dX9_beat_98 : decode cX9_beat 98 = .ok (.iload_n 2, 1) := by decide +kernel
theorem dX9_beat_99 : decode cX9_beat 99 = .ok (.aload_n 0, 1) := by decide +kernel
theorem dX9_beat_100 : decode cX9_beat 100 = .ok (.getfield 7, 3) := by decide +kernel
theorem dX9_beat_103 : decode cX9_beat 103 = .ok (.iconst 4, 1) := by decide +kernel
theorem dX9_beat_104 : decode cX9_beat 104 = .ok (.iaload, 1) := by decide +kernel
theorem dX9_beat_105 : decode cX9_beat 105 = .ok (.invokevirtual 113, 3) := by decide +kernel
theorem dX9_beat_108 : decode cX9_beat 108 = .ok (.invokestatic 172, 3) := by decide +kernel
theorem dX9_beat_111 : decode cX9_beat 111 = .ok (.iastore, 1) := by decide +kernel
theorem dX9_beat_112 : decode cX9_beat 112 = .ok (.iinc 2 1, 3) := by decide +kernel
theorem dX9_beat_115 : decode cX9_beat 115 = .ok (.goto (-43), 3) := by decide +kernel
theorem dX9_beat_118 : decode cX9_beat 118 = .ok (.aload_n 0, 1) := by decide +kernel
theorem dX9_beat_119 : decode cX9_beat 119 = .ok (.invokevirtual 253, 3) := by decide +kernel
theorem dX9_beat_122 : decode cX9_beat 122 = .ok (.ireturn, 1) := by decide +kernel
theorem dX9_weave_0 : decode cX9_weave 0 = .ok (.aload_n 0, 1) := by decide +kernel
theorem dX9_weave_1 : decode cX9_weave 1 = .ok (.iload_n 1, 1) := by decide +kernel
theorem dX9_weave_2 : decode cX9_weave 2 = .ok (.i2l, 1) := by decide +kernel
theorem dX9_weave_3 : decode cX9_weave 3 = .ok (.lconst 1, 1) := by decide +kernel
theorem dX9_weave_4 : decode cX9_weave 4 = .ok (.ldc2_w 211, 3) := by decide +kernel
theorem dX9_weave_7 : decode cX9_weave 7 = .ok (.invokestatic 82, 3) := by decide +kernel
theorem dX9_weave_10 : decode cX9_weave 10 = .ok (.invokevirtual 74, 3) := by decide +kernel
theorem dX9_weave_13 : decode cX9_weave 13 = .ok (.ifCond .eq 12, 3) := by decide +kernel
theorem dX9_weave_16 : decode cX9_weave 16 = .ok (.aload_n 0, 1) := by decide +kernel
theorem dX9_weave_17 : decode cX9_weave 17 = .ok (.iload_n 1, 1) := by decide +kernel
theorem dX9_weave_18 : decode cX9_weave 18 = .ok (.iload_n 2, 1) := by decide +kernel
theorem dX9_weave_19 : decode cX9_weave 19 = .ok (.invokevirtual 256, 3) := by decide +kernel
theorem dX9_weave_22 : decode cX9_weave 22 = .ok (.goto 4, 3) := by decide +kernel
theorem dX9_weave_25 : decode cX9_weave 25 = .ok (.iconst 0, 1) := by decide +kernel
theorem dX9_weave_26 : decode cX9_weave 26 = .ok (.ireturn, 1) := by decide +kernel
theorem dX9_weaves_0 : decode cX9_weaves 0 = .ok (.aload_n 0, 1) := by decide +kernel
theorem dX9_weaves_1 : decode cX9_weaves 1 = .ok (.getfield 7, 3) := by decide +kernel
theorem dX9_weaves_4 : decode cX9_weaves 4 = .ok (.iconst 4, 1) := by decide +kernel
theorem dX9_weaves_5 : decode cX9_weaves 5 = .ok (.iaload, 1) := by decide +kernel
theorem dX9_weaves_6 : decode cX9_weaves 6 = .ok (.iload_n 1, 1) := by decide +kernel
theorem dX9_weaves_7 : decode cX9_weaves 7 = .ok (.iadd, 1) := by decide +kernel
theorem dX9_weaves_8 : decode cX9_weaves 8 = .ok (.aload_n 0, 1) := by decide +kernel
theorem dX9_weaves_9 : decode cX9_weaves 9 = .ok (.getfield 7, 3) := by decide +kernel
theorem dX9_weaves_12 : decode cX9_weaves 12 = .ok (.iconst 1, 1) := by decide +kernel
theorem dX9_weaves_13 : decode cX9_weaves 13 = .ok (.iaload, 1) := by decide +kernel
theorem dX9_weaves_14 : decode cX9_weaves 14 = .ok (.if_icmp .le 9, 3) := by decide +kernel
theorem dX9_weaves_17 : decode cX9_weaves 17 = .ok (.aload_n 0, 1) := by decide +kernel
theorem dX9_weaves_18 : decode cX9_weaves 18 = .ok (.iconst 3, 1) := by decide +kernel
theorem dX9_weaves_19 : decode cX9_weaves 19 = .ok (.invokevirtual 247, 3) := by decide +kernel
theorem dX9_weaves_22 : decode cX9_weaves 22 = .ok (.ireturn, 1) := by decide +kernel
theorem dX9_weaves_23 : decode cX9_weaves 23 = .ok (.aload_n 0, 1) := by decide +kernel
theorem dX9_weaves_24 : decode cX9_weaves 24 = .ok (.iload_n 1, 1) := by decide +kernel
theorem dX9_weaves_25 : decode cX9_weaves 25 = .ok (.iload_n 2, 1) := by decide +kernel
theorem dX9_weaves_26 : decode cX9_weaves 26 = .ok (.invokevirtual 225, 3) := by decide +kernel
theorem dX9_weaves_29 : decode cX9_weaves 29 = .ok (.ifCond .ne 9, 3) := by decide +kernel
theorem dX9_weaves_32 : decode cX9_weaves 32 = .ok (.aload_n 0, 1) := by decide +kernel
theorem dX9_weaves_33 : decode cX9_weaves 33 = .ok (.iconst 2, 1) := by decide +kernel
theorem dX9_weaves_34 : decode cX9_weaves 34 = .ok (.invokevirtual 247, 3) := by decide +kernel
theorem dX9_weaves_37 : decode cX9_weaves 37 = .ok (.ireturn, 1) := by decide +kernel
theorem dX9_weaves_38 : decode cX9_weaves 38 = .ok (.aload_n 0, 1) := by decide +kernel
theorem dX9_weaves_39 : decode cX9_weaves 39 = .ok (.invokevirtual 250, 3) := by decide +kernel
theorem dX9_weaves_42 : decode cX9_weaves 42 = .ok (.iconst 0, 1) := by decide +kernel
theorem dX9_weaves_43 : decode cX9_weaves 43 = .ok (.istore_n 3, 1) := by decide +kernel
theorem dX9_weaves_44 : decode cX9_weaves 44 = .ok (.iconst 0, 1) := by decide +kernel
theorem dX9_weaves_45 : decode cX9_weaves 45 = .ok (.istore 4, 2) := by decide +kernel
theorem dX9_weaves_47 : decode cX9_weaves 47 = .ok (.iload 4, 2) := by decide +kernel
theorem dX9_weaves_49 : decode cX9_weaves 49 = .ok (.iload_n 1, 1) := by decide +kernel
theorem dX9_weaves_50 : decode cX9_weaves 50 = .ok (.if_icmp .ge 98, 3) := by decide +kernel
theorem dX9_weaves_53 : decode cX9_weaves 53 = .ok (.aload_n 0, 1) := by decide +kernel
theorem dX9_weaves_54 : decode cX9_weaves 54 = .ok (.getfield 7, 3) := by decide +kernel
theorem dX9_weaves_57 : decode cX9_weaves 57 = .ok (.iconst 4, 1) := by decide +kernel
theorem dX9_weaves_58 : decode cX9_weaves 58 = .ok (.iaload, 1) := by decide +kernel
theorem dX9_weaves_59 : decode cX9_weaves 59 = .ok (.istore 5, 2) := by decide +kernel
theorem dX9_weaves_61 : decode cX9_weaves 61 = .ok (.iconst 0, 1) := by decide +kernel
theorem dX9_weaves_62 : decode cX9_weaves 62 = .ok (.istore 6, 2) := by decide +kernel
theorem dX9_weaves_64 : decode cX9_weaves 64 = .ok (.iload 6, 2) := by decide +kernel
theorem dX9_weaves_66 : decode cX9_weaves 66 = .ok (.aload_n 0, 1) := by decide +kernel
theorem dX9_weaves_67 : decode cX9_weaves 67 = .ok (.getfield 7, 3) := by decide +kernel
theorem dX9_weaves_70 : decode cX9_weaves 70 = .ok (.iconst 0, 1) := by decide +kernel
theorem dX9_weaves_71 : decode cX9_weaves 71 = .ok (.iaload, 1) := by decide +kernel
theorem dX9_weaves_72 : decode cX9_weaves 72 = .ok (.if_icmp .ge 63, 3) := by decide +kernel
theorem dX9_weaves_75 : decode cX9_weaves 75 = .ok (.aload_n 0, 1) := by decide +kernel
theorem dX9_weaves_76 : decode cX9_weaves 76 = .ok (.iload 6, 2) := by decide +kernel
theorem dX9_weaves_78 : decode cX9_weaves 78 = .ok (.iload 5, 2) := by decide +kernel
theorem dX9_weaves_80 : decode cX9_weaves 80 = .ok (.invokevirtual 113, 3) := by decide +kernel
theorem dX9_weaves_83 : decode cX9_weaves 83 = .ok (.iconst (-1), 1) := by decide +kernel
theorem dX9_weaves_84 : decode cX9_weaves 84 = .ok (.if_icmp .eq 6, 3) := by decide +kernel
theorem dX9_weaves_87 : decode cX9_weaves 87 = .ok (.goto 42, 3) := by decide +kernel
theorem dX9_weaves_90 : decode cX9_weaves 90 = .ok (.aload_n 0, 1) := by decide +kernel
theorem dX9_weaves_91 : decode cX9_weaves 91 = .ok (.iload 6, 2) := by decide +kernel
theorem dX9_weaves_93 : decode cX9_weaves 93 = .ok (.iload 5, 2) := by decide +kernel
theorem dX9_weaves_95 : decode cX9_weaves 95 = .ok (.iload_n 2, 1) := by decide +kernel
theorem dX9_weaves_96 : decode cX9_weaves 96 = .ok (.invokevirtual 219, 3) := by decide +kernel
theorem dX9_weaves_99 : decode cX9_weaves 99 = .ok (.istore 7, 2) := by decide +kernel
theorem dX9_weaves_101 : decode cX9_weaves 101 = .ok (.aload_n 0, 1) := by decide +kernel
theorem dX9_weaves_102 : decode cX9_weaves 102 = .ok (.getfield 7, 3) := by decide +kernel
theorem dX9_weaves_105 : decode cX9_weaves 105 = .ok (.iload 6, 2) := by decide +kernel
theorem dX9_weaves_107 : decode cX9_weaves 107 = .ok (.iload 5, 2) := by decide +kernel
theorem dX9_weaves_109 : decode cX9_weaves 109 = .ok (.invokestatic 86, 3) := by decide +kernel
theorem dX9_weaves_112 : decode cX9_weaves 112 = .ok (.iload 7, 2) := by decide +kernel
theorem dX9_weaves_114 : decode cX9_weaves 114 = .ok (.iastore, 1) := by decide +kernel
theorem dX9_weaves_115 : decode cX9_weaves 115 = .ok (.aload_n 0, 1) := by decide +kernel
theorem dX9_weaves_116 : decode cX9_weaves 116 = .ok (.getfield 7, 3) := by decide +kernel
theorem dX9_weaves_119 : decode cX9_weaves 119 = .ok (.bipush 6, 2) := by decide +kernel
theorem dX9_weaves_121 : decode cX9_weaves 121 = .ok (.iload 7, 2) := by decide +kernel
theorem dX9_weaves_123 : decode cX9_weaves 123 = .ok (.iadd, 1) := by decide +kernel
theorem dX9_weaves_124 : decode cX9_weaves 124 = .ok (.dup2, 1) := by decide +kernel
theorem dX9_weaves_125 : decode cX9_weaves 125 = .ok (.iaload, 1) := by decide +kernel
theorem dX9_weaves_126 : decode cX9_weaves 126 = .ok (.iconst 1, 1) := by decide +kernel
theorem dX9_weaves_127 : decode cX9_weaves 127 = .ok (.isub, 1) := by decide +kernel
theorem dX9_weaves_128 : decode cX9_weaves 128 = .ok (.iastore, 1) := by decide +kernel
theorem dX9_weaves_129 : decode cX9_weaves 129 = .ok (.iinc 6 1, 3) := by decide +kernel
theorem dX9_weaves_132 : decode cX9_weaves 132 = .ok (.goto (-68), 3) := by decide +kernel
theorem dX9_weaves_135 : decode cX9_weaves 135 = .ok (.iload_n 3, 1) := by decide +kernel
theorem dX9_weaves_136 : decode cX9_weaves 136 = .ok (.aload_n 0, 1) := by decide +kernel
theorem dX9_weaves_137 : decode cX9_weaves 137 = .ok (.invokevirtual 253, 3) := by decide +kernel
theorem dX9_weaves_140 : decode cX9_weaves 140 = .ok (.iadd, 1) := by decide +kernel
theorem dX9_weaves_141 : decode cX9_weaves 141 = .ok (.istore_n 3, 1) := by decide +kernel
theorem dX9_weaves_142 : decode cX9_weaves 142 = .ok (.iinc 4 1, 3) := by decide +kernel
theorem dX9_weaves_145 : decode cX9_weaves 145 = .ok (.goto (-98), 3) := by decide +kernel
theorem dX9_weaves_148 : decode cX9_weaves 148 = .ok (.iload_n 3, 1) := by decide +kernel
theorem dX9_weaves_149 : decode cX9_weaves 149 = .ok (.ireturn, 1) := by decide +kernel
theorem dX9_unpick_0 : decode cX9_unpick 0 = .ok (.aload_n 0, 1) := by decide +kernel
theorem dX9_unpick_1 : decode cX9_unpick 1 = .ok (.iload_n 1, 1) := by decide +kernel
theorem dX9_unpick_2 : decode cX9_unpick 2 = .ok (.i2l, 1) := by decide +kernel
theorem dX9_unpick_3 : decode cX9_unpick 3 = .ok (.lconst 0, 1) := by decide +kernel
theorem dX9_unpick_4 : decode cX9_unpick 4 = .ok (.ldc2_w 211, 3) := by decide +kernel
theorem dX9_unpick_7 : decode cX9_unpick 7 = .ok (.invokestatic 82, 3) := by decide +kernel
theorem dX9_unpick_10 : decode cX9_unpick 10 = .ok (.invokevirtual 74, 3) := by decide +kernel
theorem dX9_unpick_13 : decode cX9_unpick 13 = .ok (.ifCond .eq 11, 3) := by decide +kernel
theorem dX9_unpick_16 : decode cX9_unpick 16 = .ok (.aload_n 0, 1) := by decide +kernel
theorem dX9_unpick_17 : decode cX9_unpick 17 = .ok (.iload_n 1, 1) := by decide +kernel
theorem dX9_unpick_18 : decode cX9_unpick 18 = .ok (.invokevirtual 260, 3) := by decide +kernel
theorem dX9_unpick_21 : decode cX9_unpick 21 = .ok (.goto 4, 3) := by decide +kernel
theorem dX9_unpick_24 : decode cX9_unpick 24 = .ok (.iconst 0, 1) := by decide +kernel
theorem dX9_unpick_25 : decode cX9_unpick 25 = .ok (.ireturn, 1) := by decide +kernel
theorem dX9_unpicks_0 : decode cX9_unpicks 0 = .ok (.iload_n 1, 1) := by decide +kernel
theorem dX9_unpicks_1 : decode cX9_unpicks 1 = .ok (.aload_n 0, 1) := by decide +kernel
theorem dX9_unpicks_2 : decode cX9_unpicks 2 = .ok (.getfield 7, 3) := by decide +kernel
theorem dX9_unpicks_5 : decode cX9_unpicks 5 = .ok (.iconst 4, 1) := by decide +kernel
theorem dX9_unpicks_6 : decode cX9_unpicks 6 = .ok (.iaload, 1) := by decide +kernel
theorem dX9_unpicks_7 : decode cX9_unpicks 7 = .ok (.if_icmp .le 9, 3) := by decide +kernel
theorem dX9_unpicks_10 : decode cX9_unpicks 10 = .ok (.aload_n 0, 1) := by decide +kernel
theorem dX9_unpicks_11 : decode cX9_unpicks 11 = .ok (.iconst 3, 1) := by decide +kernel
theorem dX9_unpicks_12 : decode cX9_unpicks 12 = .ok (.invokevirtual 247, 3) := by decide +kernel
theorem dX9_unpicks_15 : decode cX9_unpicks 15 = .ok (.ireturn, 1) := by decide +kernel
theorem dX9_unpicks_16 : decode cX9_unpicks 16 = .ok (.aload_n 0, 1) := by decide +kernel
theorem dX9_unpicks_17 : decode cX9_unpicks 17 = .ok (.invokevirtual 250, 3) := by decide +kernel
theorem dX9_unpicks_20 : decode cX9_unpicks 20 = .ok (.iconst 0, 1) := by decide +kernel
theorem dX9_unpicks_21 : decode cX9_unpicks 21 = .ok (.istore_n 2, 1) := by decide +kernel
theorem dX9_unpicks_22 : decode cX9_unpicks 22 = .ok (.iconst 0, 1) := by decide +kernel
theorem dX9_unpicks_23 : decode cX9_unpicks 23 = .ok (.istore_n 3, 1) := by decide +kernel
theorem dX9_unpicks_24 : decode cX9_unpicks 24 = .ok (.iload_n 3, 1) := by decide +kernel
theorem dX9_unpicks_25 : decode cX9_unpicks 25 = .ok (.bipush 7, 2) := by decide +kernel
theorem dX9_unpicks_27 : decode cX9_unpicks 27 = .ok (.if_icmp .ge 16, 3) := by decide +kernel
theorem dX9_unpicks_30 : decode cX9_unpicks 30 = .ok (.aload_n 0, 1) := by decide +kernel
theorem dX9_unpicks_31 : decode cX9_unpicks 31 = .ok (.getfield 32, 3) := by decide +kernel
theorem dX9_unpicks_34 : decode cX9_unpicks 34 = .ok (.iload_n 3, 1) := by decide +kernel
theorem dX9_unpicks_35 : decode cX9_unpicks 35 = .ok (.iconst 0, 1) := by decide +kernel
theorem dX9_unpicks_36 : decode cX9_unpicks 36 = .ok (.iastore, 1) := by decide +kernel
theorem dX9_unpicks_37 : decode cX9_unpicks 37 = .ok (.iinc 3 1, 3) := by decide +kernel
theorem dX9_unpicks_40 : decode cX9_unpicks 40 = .ok (.goto (-16), 3) := by decide +kernel
theorem dX9_unpicks_43 : decode cX9_unpicks 43 = .ok (.aload_n 0, 1) := by decide +kernel
theorem dX9_unpicks_44 : decode cX9_unpicks 44 = .ok (.getfield 7, 3) := by decide +kernel
theorem dX9_unpicks_47 : decode cX9_unpicks 47 = .ok (.iconst 4, 1) := by decide +kernel
theorem dX9_unpicks_48 : decode cX9_unpicks 48 = .ok (.dup2, 1) := by decide +kernel
theorem dX9_unpicks_49 : decode cX9_unpicks 49 = .ok (.iaload, 1) := by decide +kernel
theorem dX9_unpicks_50 : decode cX9_unpicks 50 = .ok (.iload_n 1, 1) := by decide +kernel
theorem dX9_unpicks_51 : decode cX9_unpicks 51 = .ok (.isub, 1) := by decide +kernel
theorem dX9_unpicks_52 : decode cX9_unpicks 52 = .ok (.iastore, 1) := by decide +kernel
theorem dX9_unpicks_53 : decode cX9_unpicks 53 = .ok (.aload_n 0, 1) := by decide +kernel
theorem dX9_unpicks_54 : decode cX9_unpicks 54 = .ok (.getfield 7, 3) := by decide +kernel
theorem dX9_unpicks_57 : decode cX9_unpicks 57 = .ok (.iconst 4, 1) := by decide +kernel
theorem dX9_unpicks_58 : decode cX9_unpicks 58 = .ok (.iaload, 1) := by decide +kernel
theorem dX9_unpicks_59 : decode cX9_unpicks 59 = .ok (.istore_n 3, 1) := by decide +kernel
theorem dX9_unpicks_60 : decode cX9_unpicks 60 = .ok (.iload_n 3, 1) := by decide +kernel
theorem dX9_unpicks_61 : decode cX9_unpicks 61 = .ok (.aload_n 0, 1) := by decide +kernel
theorem dX9_unpicks_62 : decode cX9_unpicks 62 = .ok (.getfield 7, 3) := by decide +kernel
theorem dX9_unpicks_65 : decode cX9_unpicks 65 = .ok (.iconst 1, 1) := by decide +kernel
theorem dX9_unpicks_66 : decode cX9_unpicks 66 = .ok (.iaload, 1) := by decide +kernel
theorem dX9_unpicks_67 : decode cX9_unpicks 67 = .ok (.if_icmp .ge 73, 3) := by decide +kernel
theorem dX9_unpicks_70 : decode cX9_unpicks 70 = .ok (.iconst 0, 1) := by decide +kernel
theorem dX9_unpicks_71 : decode cX9_unpicks 71 = .ok (.istore 4, 2) := by decide +kernel
theorem dX9_unpicks_73 : decode cX9_unpicks 73 = .ok (.iload 4, 2) := by decide +kernel
theorem dX9_unpicks_75 : decode cX9_unpicks 75 = .ok (.aload_n 0, 1) := by decide +kernel
theorem dX9_unpicks_76 : decode cX9_unpicks 76 = .ok (.getfield 7, 3) := by decide +kernel
theorem dX9_unpicks_79 : decode cX9_unpicks 79 = .ok (.iconst 0, 1) := by decide +kernel
theorem dX9_unpicks_80 : decode cX9_unpicks 80 = .ok (.iaload, 1) := by decide +kernel
theorem dX9_unpicks_81 : decode cX9_unpicks 81 = .ok (.if_icmp .ge 53, 3) := by decide +kernel
theorem dX9_unpicks_84 : decode cX9_unpicks 84 = .ok (.aload_n 0, 1) := by decide +kernel
theorem dX9_unpicks_85 : decode cX9_unpicks 85 = .ok (.iload 4, 2) := by decide +kernel
theorem dX9_unpicks_87 : decode cX9_unpicks 87 = .ok (.iload_n 3, 1) := by decide +kernel
theorem dX9_unpicks_88 : decode cX9_unpicks 88 = .ok (.invokevirtual 113, 3) := by decide +kernel
theorem dX9_unpicks_91 : decode cX9_unpicks 91 = .ok (.istore 5, 2) := by decide +kernel
theorem dX9_unpicks_93 : decode cX9_unpicks 93 = .ok (.iload 5, 2) := by decide +kernel
theorem dX9_unpicks_95 : decode cX9_unpicks 95 = .ok (.iconst (-1), 1) := by decide +kernel
theorem dX9_unpicks_96 : decode cX9_unpicks 96 = .ok (.if_icmp .ne 6, 3) := by decide +kernel
theorem dX9_unpicks_99 : decode cX9_unpicks 99 = .ok (.goto 29, 3) := by decide +kernel
theorem dX9_unpicks_102 : decode cX9_unpicks 102 = .ok (.aload_n 0, 1) := by decide +kernel
theorem dX9_unpicks_103 : decode cX9_unpicks 103 = .ok (.getfield 32, 3) := by decide +kernel
theorem dX9_unpicks_106 : decode cX9_unpicks 106 = .ok (.iload 5, 2) := by decide +kernel
theorem dX9_unpicks_108 : decode cX9_unpicks 108 = .ok (.dup2, 1) := by decide +kernel
theorem dX9_unpicks_109 : decode cX9_unpicks 109 = .ok (.iaload, 1) := by decide +kernel
theorem dX9_unpicks_110 : decode cX9_unpicks 110 = .ok (.iconst 1, 1) := by decide +kernel
theorem dX9_unpicks_111 : decode cX9_unpicks 111 = .ok (.iadd, 1) := by decide +kernel
theorem dX9_unpicks_112 : decode cX9_unpicks 112 = .ok (.iastore, 1) := by decide +kernel
theorem dX9_unpicks_113 : decode cX9_unpicks 113 = .ok (.iinc 2 1, 3) := by decide +kernel
theorem dX9_unpicks_116 : decode cX9_unpicks 116 = .ok (.aload_n 0, 1) := by decide +kernel
theorem dX9_unpicks_117 : decode cX9_unpicks 117 = .ok (.getfield 7, 3) := by decide +kernel
theorem dX9_unpicks_120 : decode cX9_unpicks 120 = .ok (.iload 4, 2) := by decide +kernel
theorem dX9_unpicks_122 : decode cX9_unpicks 122 = .ok (.iload_n 3, 1) := by decide +kernel
theorem dX9_unpicks_123 : decode cX9_unpicks 123 = .ok (.invokestatic 86, 3) := by decide +kernel
theorem dX9_unpicks_126 : decode cX9_unpicks 126 = .ok (.iconst (-1), 1) := by decide +kernel
theorem dX9_unpicks_127 : decode cX9_unpicks 127 = .ok (.iastore, 1) := by decide +kernel
theorem dX9_unpicks_128 : decode cX9_unpicks 128 = .ok (.iinc 4 1, 3) := by decide +kernel
theorem dX9_unpicks_131 : decode cX9_unpicks 131 = .ok (.goto (-58), 3) := by decide +kernel
theorem dX9_unpicks_134 : decode cX9_unpicks 134 = .ok (.iinc 3 1, 3) := by decide +kernel
theorem dX9_unpicks_137 : decode cX9_unpicks 137 = .ok (.goto (-77), 3) := by decide +kernel
theorem dX9_unpicks_140 : decode cX9_unpicks 140 = .ok (.iconst 0, 1) := by decide +kernel
theorem dX9_unpicks_141 : decode cX9_unpicks 141 = .ok (.istore_n 3, 1) := by decide +kernel
theorem dX9_unpicks_142 : decode cX9_unpicks 142 = .ok (.iload_n 3, 1) := by decide +kernel
theorem dX9_unpicks_143 : decode cX9_unpicks 143 = .ok (.bipush 7, 2) := by decide +kernel
theorem dX9_unpicks_145 : decode cX9_unpicks 145 = .ok (.if_icmp .ge 42, 3) := by decide +kernel
theorem dX9_unpicks_148 : decode cX9_unpicks 148 = .ok (.aload_n 0, 1) := by decide +kernel
theorem dX9_unpicks_149 : decode cX9_unpicks 149 = .ok (.getfield 7, 3) := by decide +kernel
theorem dX9_unpicks_152 : decode cX9_unpicks 152 = .ok (.bipush 6, 2) := by decide +kernel
theorem dX9_unpicks_154 : decode cX9_unpicks 154 = .ok (.iload_n 3, 1) := by decide +kernel
theorem dX9_unpicks_155 : decode cX9_unpicks 155 = .ok (.iadd, 1) := by decide +kernel
theorem dX9_unpicks_156 : decode cX9_unpicks 156 = .ok (.sipush 9999, 3) := by decide +kernel
theorem dX9_unpicks_159 : decode cX9_unpicks 159 = .ok (.aload_n 0, 1) := by decide +kernel
theorem dX9_unpicks_160 : decode cX9_unpicks 160 = .ok (.getfield 7, 3) := by decide +kernel
theorem dX9_unpicks_163 : decode cX9_unpicks 163 = .ok (.bipush 6, 2) := by decide +kernel
theorem dX9_unpicks_165 : decode cX9_unpicks 165 = .ok (.iload_n 3, 1) := by decide +kernel
theorem dX9_unpicks_166 : decode cX9_unpicks 166 = .ok (.iadd, 1) := by decide +kernel
theorem dX9_unpicks_167 : decode cX9_unpicks 167 = .ok (.iaload, 1) := by decide +kernel
theorem dX9_unpicks_168 : decode cX9_unpicks 168 = .ok (.aload_n 0, 1) := by decide +kernel
theorem dX9_unpicks_169 : decode cX9_unpicks 169 = .ok (.getfield 32, 3) := by decide +kernel
theorem dX9_unpicks_172 : decode cX9_unpicks 172 = .ok (.iload_n 3, 1) := by decide +kernel
theorem dX9_unpicks_173 : decode cX9_unpicks 173 = .ok (.iaload, 1) := by decide +kernel
theorem dX9_unpicks_174 : decode cX9_unpicks 174 = .ok (.iconst 2, 1) := by decide +kernel
theorem dX9_unpicks_175 : decode cX9_unpicks 175 = .ok (.idiv, 1) := by decide +kernel
theorem dX9_unpicks_176 : decode cX9_unpicks 176 = .ok (.iadd, 1) := by decide +kernel
theorem dX9_unpicks_177 : decode cX9_unpicks 177 = .ok (.invokestatic 167, 3) := by decide +kernel
theorem dX9_unpicks_180 : decode cX9_unpicks 180 = .ok (.iastore, 1) := by decide +kernel
theorem dX9_unpicks_181 : decode cX9_unpicks 181 = .ok (.iinc 3 1, 3) := by decide +kernel
theorem dX9_unpicks_184 : decode cX9_unpicks 184 = .ok (.goto (-42), 3) := by decide +kernel
theorem dX9_unpicks_187 : decode cX9_unpicks 187 = .ok (.aload_n 0, 1) := by decide +kernel
theorem dX9_unpicks_188 : decode cX9_unpicks 188 = .ok (.getfield 7, 3) := by decide +kernel
theorem dX9_unpicks_191 : decode cX9_unpicks 191 = .ok (.iconst 3, 1) := by decide +kernel
theorem dX9_unpicks_192 : decode cX9_unpicks 192 = .ok (.aload_n 0, 1) := by decide +kernel
theorem dX9_unpicks_193 : decode cX9_unpicks 193 = .ok (.getfield 7, 3) := by decide +kernel
theorem dX9_unpicks_196 : decode cX9_unpicks 196 = .ok (.iconst 3, 1) := by decide +kernel
theorem dX9_unpicks_197 : decode cX9_unpicks 197 = .ok (.iaload, 1) := by decide +kernel
theorem dX9_unpicks_198 : decode cX9_unpicks 198 = .ok (.aload_n 0, 1) := by decide +kernel
theorem dX9_unpicks_199 : decode cX9_unpicks 199 = .ok (.getfield 7, 3) := by decide +kernel
theorem dX9_unpicks_202 : decode cX9_unpicks 202 = .ok (.iconst 4, 1) := by decide +kernel
theorem dX9_unpicks_203 : decode cX9_unpicks 203 = .ok (.iaload, 1) := by decide +kernel
theorem dX9_unpicks_204 : decode cX9_unpicks 204 = .ok (.invokestatic 167, 3) := by decide +kernel
theorem dX9_unpicks_207 : decode cX9_unpicks 207 = .ok (.iastore, 1) := by decide +kernel
theorem dX9_unpicks_208 : decode cX9_unpicks 208 = .ok (.iload_n 2, 1) := by decide +kernel
theorem dX9_unpicks_209 : decode cX9_unpicks 209 = .ok (.ireturn, 1) := by decide +kernel
theorem dX9_look_0 : decode cX9_look 0 = .ok (.aload_n 0, 1) := by decide +kernel
theorem dX9_look_1 : decode cX9_look 1 = .ok (.iconst 0, 1) := by decide +kernel
theorem dX9_look_2 : decode cX9_look 2 = .ok (.putfield 58, 3) := by decide +kernel
theorem dX9_look_5 : decode cX9_look 5 = .ok (.aload_n 0, 1) := by decide +kernel
theorem dX9_look_6 : decode cX9_look 6 = .ok (.invokevirtual 263, 3) := by decide +kernel
theorem dX9_look_9 : decode cX9_look 9 = .ok (.ireturn, 1) := by decide +kernel
theorem dX9_looks_0 : decode cX9_looks 0 = .ok (.aload_n 0, 1) := by decide +kernel
theorem dX9_looks_1 : decode cX9_looks 1 = .ok (.invokevirtual 250, 3) := by decide +kernel
theorem dX9_looks_4 : decode cX9_looks 4 = .ok (.aload_n 0, 1) := by decide +kernel
theorem dX9_looks_5 : decode cX9_looks 5 = .ok (.iconst 1, 1) := by decide +kernel
theorem dX9_looks_6 : decode cX9_looks 6 = .ok (.invokevirtual 136, 3) := by decide +kernel
theorem dX9_looks_9 : decode cX9_looks 9 = .ok (.istore_n 1, 1) := by decide +kernel
theorem dX9_looks_10 : decode cX9_looks 10 = .ok (.aload_n 0, 1) := by decide +kernel
theorem dX9_looks_11 : decode cX9_looks 11 = .ok (.getfield 7, 3) := by decide +kernel
theorem dX9_looks_14 : decode cX9_looks 14 = .ok (.iconst 3, 1) := by decide +kernel
theorem dX9_looks_15 : decode cX9_looks 15 = .ok (.aload_n 0, 1) := by decide +kernel
theorem dX9_looks_16 : decode cX9_looks 16 = .ok (.getfield 7, 3) := by decide +kernel
theorem dX9_looks_19 : decode cX9_looks 19 = .ok (.iconst 4, 1) := by decide +kernel
theorem dX9_looks_20 : decode cX9_looks 20 = .ok (.iaload, 1) := by decide +kernel
theorem dX9_looks_21 : decode cX9_looks 21 = .ok (.iastore, 1) := by decide +kernel
theorem dX9_looks_22 : decode cX9_looks 22 = .ok (.aload_n 0, 1) := by decide +kernel
theorem dX9_looks_23 : decode cX9_looks 23 = .ok (.iconst 1, 1) := by decide +kernel
theorem dX9_looks_24 : decode cX9_looks 24 = .ok (.invokevirtual 136, 3) := by decide +kernel
theorem dX9_looks_27 : decode cX9_looks 27 = .ok (.iload_n 1, 1) := by decide +kernel
theorem dX9_looks_28 : decode cX9_looks 28 = .ok (.isub, 1) := by decide +kernel
theorem dX9_looks_29 : decode cX9_looks 29 = .ok (.ireturn, 1) := by decide +kernel
theorem dX9_whyNot_0 : decode cX9_whyNot 0 = .ok (.aload_n 0, 1) := by decide +kernel
theorem dX9_whyNot_1 : decode cX9_whyNot 1 = .ok (.getfield 7, 3) := by decide +kernel
theorem dX9_whyNot_4 : decode cX9_whyNot 4 = .ok (.iload_n 1, 1) := by decide +kernel
theorem dX9_whyNot_5 : decode cX9_whyNot 5 = .ok (.iload_n 3, 1) := by decide +kernel
theorem dX9_whyNot_6 : decode cX9_whyNot 6 = .ok (.i2l, 1) := by decide +kernel
theorem dX9_whyNot_7 : decode cX9_whyNot 7 = .ok (.iload 4, 2) := by decide +kernel
theorem dX9_whyNot_9 : decode cX9_whyNot 9 = .ok (.i2l, 1) := by decide +kernel
theorem dX9_whyNot_10 : decode cX9_whyNot 10 = .ok (.invokestatic 235, 3) := by decide +kernel
theorem dX9_whyNot_13 : decode cX9_whyNot 13 = .ok (.ifCond .ne 5, 3) := by decide +kernel
theorem dX9_whyNot_16 : decode cX9_whyNot 16 = .ok (.iconst 5, 1) := by decide +kernel
theorem dX9_whyNot_17 : decode cX9_whyNot 17 = .ok (.ireturn, 1) := by decide +kernel
theorem dX9_whyNot_18 : decode cX9_whyNot 18 = .ok (.aload_n 0, 1) := by decide +kernel
theorem dX9_whyNot_19 : decode cX9_whyNot 19 = .ok (.getfield 7, 3) := by decide +kernel
theorem dX9_whyNot_22 : decode cX9_whyNot 22 = .ok (.iload_n 1, 1) := by decide +kernel
theorem dX9_whyNot_23 : decode cX9_whyNot 23 = .ok (.iload_n 2, 1) := by decide +kernel
theorem dX9_whyNot_24 : decode cX9_whyNot 24 = .ok (.iload_n 3, 1) := by decide +kernel
theorem dX9_whyNot_25 : decode cX9_whyNot 25 = .ok (.iload 4, 2) := by decide +kernel
theorem dX9_whyNot_27 : decode cX9_whyNot 27 = .ok (.iload 5, 2) := by decide +kernel
theorem dX9_whyNot_29 : decode cX9_whyNot 29 = .ok (.invokestatic 239, 3) := by decide +kernel
theorem dX9_whyNot_32 : decode cX9_whyNot 32 = .ok (.ifCond .eq 8, 3) := by decide +kernel
theorem dX9_whyNot_35 : decode cX9_whyNot 35 = .ok (.bipush 6, 2) := by decide +kernel
theorem dX9_whyNot_37 : decode cX9_whyNot 37 = .ok (.goto 4, 3) := by decide +kernel
theorem dX9_whyNot_40 : decode cX9_whyNot 40 = .ok (.iconst 0, 1) := by decide +kernel
theorem dX9_whyNot_41 : decode cX9_whyNot 41 = .ok (.ireturn, 1) := by decide +kernel
theorem dX9_add_0 : decode cX9_add 0 = .ok (.aload_n 0, 1) := by decide +kernel
theorem dX9_add_1 : decode cX9_add 1 = .ok (.getfield 71, 3) := by decide +kernel
theorem dX9_add_4 : decode cX9_add 4 = .ok (.istore 5, 2) := by decide +kernel
theorem dX9_add_6 : decode cX9_add 6 = .ok (.aload_n 0, 1) := by decide +kernel
theorem dX9_add_7 : decode cX9_add 7 = .ok (.iconst 0, 1) := by decide +kernel
theorem dX9_add_8 : decode cX9_add 8 = .ok (.putfield 71, 3) := by decide +kernel
theorem dX9_add_11 : decode cX9_add 11 = .ok (.iload 5, 2) := by decide +kernel
theorem dX9_add_13 : decode cX9_add 13 = .ok (.i2l, 1) := by decide +kernel
theorem dX9_add_14 : decode cX9_add 14 = .ok (.lconst 1, 1) := by decide +kernel
theorem dX9_add_15 : decode cX9_add 15 = .ok (.ldc2_w 183, 3) := by decide +kernel
theorem dX9_add_18 : decode cX9_add 18 = .ok (.invokestatic 82, 3) := by decide +kernel
theorem dX9_add_21 : decode cX9_add 21 = .ok (.istore 6, 2) := by decide +kernel
theorem dX9_add_23 : decode cX9_add 23 = .ok (.iconst 0, 1) := by decide +kernel
theorem dX9_add_24 : decode cX9_add 24 = .ok (.istore 7, 2) := by decide +kernel
theorem dX9_add_26 : decode cX9_add 26 = .ok (.iload 7, 2) := by decide +kernel
theorem dX9_add_28 : decode cX9_add 28 = .ok (.iload 5, 2) := by decide +kernel
theorem dX9_add_30 : decode cX9_add 30 = .ok (.if_icmp .ge 41, 3) := by decide +kernel
theorem dX9_add_33 : decode cX9_add 33 = .ok (.iload 6, 2) := by decide +kernel
theorem dX9_add_35 : decode cX9_add 35 = .ok (.ifCond .eq 27, 3) := by decide +kernel
theorem dX9_add_38 : decode cX9_add 38 = .ok (.aload_n 0, 1) := by decide +kernel
theorem dX9_add_39 : decode cX9_add 39 = .ok (.getfield 29, 3) := by decide +kernel
theorem dX9_add_42 : decode cX9_add 42 = .ok (.iload 7, 2) := by decide +kernel
theorem dX9_add_44 : decode cX9_add 44 = .ok (.iaload, 1) := by decide +kernel
theorem dX9_add_45 : decode cX9_add 45 = .ok (.i2l, 1) := by decide +kernel
theorem dX9_add_46 : decode cX9_add 46 = .ok (.ldc2_w 266, 3) := by decide +kernel
theorem dX9_add_49 : decode cX9_add 49 = .ok (.ldc2_w 268, 3) := by decide +kernel
theorem dX9_add_52 : decode cX9_add 52 = .ok (.invokestatic 82, 3) := by decide +kernel
theorem dX9_add_55 : decode cX9_add 55 = .ok (.ifCond .eq 7, 3) := by decide +kernel
theorem dX9_add_58 : decode cX9_add 58 = .ok (.iconst 1, 1) := by decide +kernel
theorem dX9_add_59 : decode cX9_add 59 = .ok (.goto 4, 3) := by decide +kernel
theorem dX9_add_62 : decode cX9_add 62 = .ok (.iconst 0, 1) := by decide +kernel
theorem dX9_add_63 : decode cX9_add 63 = .ok (.istore 6, 2) := by decide +kernel
theorem dX9_add_65 : decode cX9_add 65 = .ok (.iinc 7 1, 3) := by decide +kernel
theorem dX9_add_68 : decode cX9_add 68 = .ok (.goto (-42), 3) := by decide +kernel
theorem dX9_add_71 : decode cX9_add 71 = .ok (.aload_n 0, 1) := by decide +kernel
theorem dX9_add_72 : decode cX9_add 72 = .ok (.iload_n 1, 1) := by decide +kernel
theorem dX9_add_73 : decode cX9_add 73 = .ok (.invokestatic 232, 3) := by decide +kernel
theorem dX9_add_76 : decode cX9_add 76 = .ok (.ifCond .eq 25, 3) := by decide +kernel
theorem dX9_add_79 : decode cX9_add 79 = .ok (.iload 4, 2) := by decide +kernel
theorem dX9_add_81 : decode cX9_add 81 = .ok (.i2l, 1) := by decide +kernel
theorem dX9_add_82 : decode cX9_add 82 = .ok (.lconst 1, 1) := by decide +kernel
theorem dX9_add_83 : decode cX9_add 83 = .ok (.ldc2_w 90, 3) := by decide +kernel
theorem dX9_add_86 : decode cX9_add 86 = .ok (.invokestatic 82, 3) := by decide +kernel
theorem dX9_add_89 : decode cX9_add 89 = .ok (.ifCond .eq 12, 3) := by decide +kernel
theorem dX9_add_92 : decode cX9_add 92 = .ok (.iload 6, 2) := by decide +kernel
theorem dX9_add_94 : decode cX9_add 94 = .ok (.ifCond .eq 7, 3) := by decide +kernel
theorem dX9_add_97 : decode cX9_add 97 = .ok (.iconst 1, 1) := by decide +kernel
theorem dX9_add_98 : decode cX9_add 98 = .ok (.goto 4, 3) := by decide +kernel
theorem dX9_add_101 : decode cX9_add 101 = .ok (.iconst 0, 1) := by decide +kernel
theorem dX9_add_102 : decode cX9_add 102 = .ok (.invokevirtual 74, 3) := by decide +kernel
theorem dX9_add_105 : decode cX9_add 105 = .ok (.ifCond .ne 5, 3) := by decide +kernel
theorem dX9_add_108 : decode cX9_add 108 = .ok (.iconst 0, 1) := by decide +kernel
theorem dX9_add_109 : decode cX9_add 109 = .ok (.ireturn, 1) := by decide +kernel
theorem dX9_add_110 : decode cX9_add 110 = .ok (.aload_n 0, 1) := by decide +kernel
theorem dX9_add_111 : decode cX9_add 111 = .ok (.getfield 7, 3) := by decide +kernel
theorem dX9_add_114 : decode cX9_add 114 = .ok (.iconst 5, 1) := by decide +kernel
theorem dX9_add_115 : decode cX9_add 115 = .ok (.iaload, 1) := by decide +kernel
theorem dX9_add_116 : decode cX9_add 116 = .ok (.bipush 8, 2) := by decide +kernel
theorem dX9_add_118 : decode cX9_add 118 = .ok (.if_icmp .ne 7, 3) := by decide +kernel
theorem dX9_add_121 : decode cX9_add 121 = .ok (.iconst 4, 1) := by decide +kernel
theorem dX9_add_122 : decode cX9_add 122 = .ok (.goto 13, 3) := by decide +kernel
theorem dX9_add_125 : decode cX9_add 125 = .ok (.aload_n 0, 1) := by decide +kernel
theorem dX9_add_126 : decode cX9_add 126 = .ok (.iload 5, 2) := by decide +kernel
theorem dX9_add_128 : decode cX9_add 128 = .ok (.iload_n 1, 1) := by decide +kernel
theorem dX9_add_129 : decode cX9_add 129 = .ok (.iload_n 2, 1) := by decide +kernel
theorem dX9_add_130 : decode cX9_add 130 = .ok (.iload_n 3, 1) := by decide +kernel
theorem dX9_add_131 : decode cX9_add 131 = .ok (.iconst (-1), 1) := by decide +kernel
theorem dX9_add_132 : decode cX9_add 132 = .ok (.invokevirtual 270, 3) := by decide +kernel
theorem dX9_add_135 : decode cX9_add 135 = .ok (.istore 7, 2) := by decide +kernel
theorem dX9_add_137 : decode cX9_add 137 = .ok (.iload 7, 2) := by decide +kernel
theorem dX9_add_139 : decode cX9_add 139 = .ok (.ifCond .le 10, 3) := by decide +kernel
theorem dX9_add_142 : decode cX9_add 142 = .ok (.aload_n 0, 1) := by decide +kernel
theorem dX9_add_143 : decode cX9_add 143 = .ok (.iload 7, 2) := by decide +kernel
theorem dX9_add_145 : decode cX9_add 145 = .ok (.invokevirtual 247, 3) := by decide +kernel
theorem dX9_add_148 : decode cX9_add 148 = .ok (.ireturn, 1) := by decide +kernel
theorem dX9_add_149 : decode cX9_add 149 = .ok (.aload_n 0, 1) := by decide +kernel
theorem dX9_add_150 : decode cX9_add 150 = .ok (.invokevirtual 250, 3) := by decide +kernel
theorem dX9_add_153 : decode cX9_add 153 = .ok (.bipush 13, 2) := by decide +kernel
theorem dX9_add_155 : decode cX9_add 155 = .ok (.bipush 13, 2) := by decide +kernel
theorem dX9_add_157 : decode cX9_add 157 = .ok (.aload_n 0, 1) := by decide +kernel
theorem dX9_add_158 : decode cX9_add 158 = .ok (.getfield 7, 3) := by decide +kernel
theorem dX9_add_161 : decode cX9_add 161 = .ok (.iconst 5, 1) := by decide +kernel
theorem dX9_add_162 : decode cX9_add 162 = .ok (.iaload, 1) := by decide +kernel
theorem dX9_add_163 : decode cX9_add 163 = .ok (.imul, 1) := by decide +kernel
theorem dX9_add_164 : decode cX9_add 164 = .ok (.iadd, 1) := by decide +kernel
theorem dX9_add_165 : decode cX9_add 165 = .ok (.istore 8, 2) := by decide +kernel
theorem dX9_add_167 : decode cX9_add 167 = .ok (.aload_n 0, 1) := by decide +kernel
theorem dX9_add_168 : decode cX9_add 168 = .ok (.getfield 7, 3) := by decide +kernel
theorem dX9_add_171 : decode cX9_add 171 = .ok (.iload 8, 2) := by decide +kernel
theorem dX9_add_173 : decode cX9_add 173 = .ok (.iconst 0, 1) := by decide +kernel
theorem dX9_add_174 : decode cX9_add 174 = .ok (.iadd, 1) := by decide +kernel
theorem dX9_add_175 : decode cX9_add 175 = .ok (.iload 5, 2) := by decide +kernel
theorem dX9_add_177 : decode cX9_add 177 = .ok (.iastore, 1) := by decide +kernel
theorem dX9_add_178 : decode cX9_add 178 = .ok (.aload_n 0, 1) := by decide +kernel
theorem dX9_add_179 : decode cX9_add 179 = .ok (.getfield 7, 3) := by decide +kernel
theorem dX9_add_182 : decode cX9_add 182 = .ok (.iload 8, 2) := by decide +kernel
theorem dX9_add_184 : decode cX9_add 184 = .ok (.iconst 1, 1) := by decide +kernel
theorem dX9_add_185 : decode cX9_add 185 = .ok (.iadd, 1) := by decide +kernel
theorem dX9_add_186 : decode cX9_add 186 = .ok (.iload_n 1, 1) := by decide +kernel
theorem dX9_add_187 : decode cX9_add 187 = .ok (.iastore, 1) := by decide +kernel
theorem dX9_add_188 : decode cX9_add 188 = .ok (.aload_n 0, 1) := by decide +kernel
theorem dX9_add_189 : decode cX9_add 189 = .ok (.getfield 7, 3) := by decide +kernel
theorem dX9_add_192 : decode cX9_add 192 = .ok (.iload 8, 2) := by decide +kernel
theorem dX9_add_194 : decode cX9_add 194 = .ok (.iconst 2, 1) := by decide +kernel
theorem dX9_add_195 : decode cX9_add 195 = .ok (.iadd, 1) := by decide +kernel
theorem dX9_add_196 : decode cX9_add 196 = .ok (.iload_n 2, 1) := by decide +kernel
theorem dX9_add_197 : decode cX9_add 197 = .ok (.iastore, 1) := by decide +kernel
theorem dX9_add_198 : decode cX9_add 198 = .ok (.aload_n 0, 1) := by decide +kernel
theorem dX9_add_199 : decode cX9_add 199 = .ok (.getfield 7, 3) := by decide +kernel
theorem dX9_add_202 : decode cX9_add 202 = .ok (.iload 8, 2) := by decide +kernel
theorem dX9_add_204 : decode cX9_add 204 = .ok (.iconst 3, 1) := by decide +kernel
theorem dX9_add_205 : decode cX9_add 205 = .ok (.iadd, 1) := by decide +kernel
theorem dX9_add_206 : decode cX9_add 206 = .ok (.iload_n 3, 1) := by decide +kernel
theorem dX9_add_207 : decode cX9_add 207 = .ok (.iastore, 1) := by decide +kernel
theorem dX9_add_208 : decode cX9_add 208 = .ok (.aload_n 0, 1) := by decide +kernel
theorem dX9_add_209 : decode cX9_add 209 = .ok (.getfield 7, 3) := by decide +kernel
theorem dX9_add_212 : decode cX9_add 212 = .ok (.iload 8, 2) := by decide +kernel
theorem dX9_add_214 : decode cX9_add 214 = .ok (.iconst 4, 1) := by decide +kernel
theorem dX9_add_215 : decode cX9_add 215 = .ok (.iadd, 1) := by decide +kernel
theorem dX9_add_216 : decode cX9_add 216 = .ok (.iload 4, 2) := by decide +kernel
theorem dX9_add_218 : decode cX9_add 218 = .ok (.iastore, 1) := by decide +kernel
theorem dX9_add_219 : decode cX9_add 219 = .ok (.iconst 0, 1) := by decide +kernel
theorem dX9_add_220 : decode cX9_add 220 = .ok (.istore 9, 2) := by decide +kernel
theorem dX9_add_222 : decode cX9_add 222 = .ok (.iload 9, 2) := by decide +kernel
theorem dX9_add_224 : decode cX9_add 224 = .ok (.bipush 8, 2) := by decide +kernel
theorem dX9_add_226 : decode cX9_add 226 = .ok (.if_icmp .ge 42, 3) := by decide +kernel
theorem dX9_add_229 : decode cX9_add 229 = .ok (.aload_n 0, 1) := by decide +kernel
theorem dX9_add_230 : decode cX9_add 230 = .ok (.getfield 7, 3) := by decide +kernel
theorem dX9_add_233 : decode cX9_add 233 = .ok (.iload 8, 2) := by decide +kernel
theorem dX9_add_235 : decode cX9_add 235 = .ok (.iconst 5, 1) := by decide +kernel
theorem dX9_add_236 : decode cX9_add 236 = .ok (.iadd, 1) := by decide +kernel
theorem dX9_add_237 : decode cX9_add 237 = .ok (.iload 9, 2) := by decide +kernel
theorem dX9_add_239 : decode cX9_add 239 = .ok (.iadd, 1) := by decide +kernel
theorem dX9_add_240 : decode cX9_add 240 = .ok (.iload 9, 2) := by decide +kernel
theorem dX9_add_242 : decode cX9_add 242 = .ok (.iload 5, 2) := by decide +kernel
theorem dX9_add_244 : decode cX9_add 244 = .ok (.if_icmp .ge 16, 3) := by decide +kernel
theorem dX9_add_247 : decode cX9_add 247 = .ok (.aload_n 0, 1) := by decide +kernel
theorem dX9_add_248 : decode cX9_add 248 = .ok (.getfield 29, 3) := by decide +kernel
theorem dX9_add_251 : decode cX9_add 251 = .ok (.iload 9, 2) := by decide +kernel
theorem dX9_add_253 : decode cX9_add 253 = .ok (.iaload, 1) := by decide +kernel
theorem dX9_add_254 : decode cX9_add 254 = .ok (.bipush 97, 2) := by decide +kernel
theorem dX9_add_256 : decode cX9_add 256 = .ok (.isub, 1) := by decide +kernel
theorem dX9_add_257 : decode cX9_add 257 = .ok (.goto 4, 3) := by decide +kernel
theorem dX9_add_260 : decode cX9_add 260 = .ok (.iconst 0, 1) := by decide +kernel
theorem dX9_add_261 : decode cX9_add 261 = .ok (.iastore, 1) := by decide +kernel
theorem dX9_add_262 : decode cX9_add 262 = .ok (.iinc 9 1, 3) := by decide +kernel
theorem dX9_add_265 : decode cX9_add 265 = .ok (.goto (-43), 3) := by decide +kernel
theorem dX9_add_268 : decode cX9_add 268 = .ok (.aload_n 0, 1) := by decide +kernel
theorem dX9_add_269 : decode cX9_add 269 = .ok (.getfield 7, 3) := by decide +kernel
theorem dX9_add_272 : decode cX9_add 272 = .ok (.iconst 5, 1) := by decide +kernel
theorem dX9_add_273 : decode cX9_add 273 = .ok (.dup2, 1) := by decide +kernel
theorem dX9_add_274 : decode cX9_add 274 = .ok (.iaload, 1) := by decide +kernel
theorem dX9_add_275 : decode cX9_add 275 = .ok (.iconst 1, 1) := by decide +kernel
theorem dX9_add_276 : decode cX9_add 276 = .ok (.iadd, 1) := by decide +kernel
theorem dX9_add_277 : decode cX9_add 277 = .ok (.iastore, 1) := by decide +kernel
theorem dX9_add_278 : decode cX9_add 278 = .ok (.aload_n 0, 1) := by decide +kernel
theorem dX9_add_279 : decode cX9_add 279 = .ok (.getfield 7, 3) := by decide +kernel
theorem dX9_add_282 : decode cX9_add 282 = .ok (.iconst 5, 1) := by decide +kernel
theorem dX9_add_283 : decode cX9_add 283 = .ok (.iaload, 1) := by decide +kernel
theorem dX9_add_284 : decode cX9_add 284 = .ok (.iconst 1, 1) := by decide +kernel
theorem dX9_add_285 : decode cX9_add 285 = .ok (.isub, 1) := by decide +kernel
theorem dX9_add_286 : decode cX9_add 286 = .ok (.ireturn, 1) := by decide +kernel
theorem dX9_drop_0 : decode cX9_drop 0 = .ok (.aload_n 0, 1) := by decide +kernel
theorem dX9_drop_1 : decode cX9_drop 1 = .ok (.aload_n 0, 1) := by decide +kernel
theorem dX9_drop_2 : decode cX9_drop 2 = .ok (.iload_n 1, 1) := by decide +kernel
theorem dX9_drop_3 : decode cX9_drop 3 = .ok (.invokevirtual 158, 3) := by decide +kernel
theorem dX9_drop_6 : decode cX9_drop 6 = .ok (.invokevirtual 74, 3) := by decide +kernel
theorem dX9_drop_9 : decode cX9_drop 9 = .ok (.ifCond .ne 5, 3) := by decide +kernel
theorem dX9_drop_12 : decode cX9_drop 12 = .ok (.iconst 0, 1) := by decide +kernel
theorem dX9_drop_13 : decode cX9_drop 13 = .ok (.ireturn, 1) := by decide +kernel
theorem dX9_drop_14 : decode cX9_drop 14 = .ok (.aload_n 0, 1) := by decide +kernel
theorem dX9_drop_15 : decode cX9_drop 15 = .ok (.invokevirtual 250, 3) := by decide +kernel
theorem dX9_drop_18 : decode cX9_drop 18 = .ok (.bipush 13, 2) := by decide +kernel
theorem dX9_drop_20 : decode cX9_drop 20 = .ok (.bipush 13, 2) := by decide +kernel
theorem dX9_drop_22 : decode cX9_drop 22 = .ok (.iload_n 1, 1) := by decide +kernel
theorem dX9_drop_23 : decode cX9_drop 23 = .ok (.imul, 1) := by decide +kernel
theorem dX9_drop_24 : decode cX9_drop 24 = .ok (.iadd, 1) := by decide +kernel
theorem dX9_drop_25 : decode cX9_drop 25 = .ok (.istore_n 2, 1) := by decide +kernel
theorem dX9_drop_26 : decode cX9_drop 26 = .ok (.iload_n 2, 1) := by decide +kernel
theorem dX9_drop_27 : decode cX9_drop 27 = .ok (.bipush 104, 2) := by decide +kernel
theorem dX9_drop_29 : decode cX9_drop 29 = .ok (.if_icmp .ge 24, 3) := by decide +kernel
theorem dX9_drop_32 : decode cX9_drop 32 = .ok (.aload_n 0, 1) := by decide +kernel
theorem dX9_drop_33 : decode cX9_drop 33 = .ok (.getfield 7, 3) := by decide +kernel
theorem dX9_drop_36 : decode cX9_drop 36 = .ok (.iload_n 2, 1) := by decide +kernel
theorem dX9_drop_37 : decode cX9_drop 37 = .ok (.aload_n 0, 1) := by decide +kernel
theorem dX9_drop_38 : decode cX9_drop 38 = .ok (.getfield 7, 3) := by decide +kernel
theorem dX9_drop_41 : decode cX9_drop 41 = .ok (.iload_n 2, 1) := by decide +kernel
theorem dX9_drop_42 : decode cX9_drop 42 = .ok (.bipush 13, 2) := by decide +kernel
theorem dX9_drop_44 : decode cX9_drop 44 = .ok (.iadd, 1) := by decide +kernel
theorem dX9_drop_45 : decode cX9_drop 45 = .ok (.iaload, 1) := by decide +kernel
theorem dX9_drop_46 : decode cX9_drop 46 = .ok (.iastore, 1) := by decide +kernel
theorem dX9_drop_47 : decode cX9_drop 47 = .ok (.iinc 2 1, 3) := by decide +kernel
theorem dX9_drop_50 : decode cX9_drop 50 = .ok (.goto (-24), 3) := by decide +kernel
theorem dX9_drop_53 : decode cX9_drop 53 = .ok (.aload_n 0, 1) := by decide +kernel
theorem dX9_drop_54 : decode cX9_drop 54 = .ok (.getfield 7, 3) := by decide +kernel
theorem dX9_drop_57 : decode cX9_drop 57 = .ok (.iconst 5, 1) := by decide +kernel
theorem dX9_drop_58 : decode cX9_drop 58 = .ok (.dup2, 1) := by decide +kernel
theorem dX9_drop_59 : decode cX9_drop 59 = .ok (.iaload, 1) := by decide +kernel
theorem dX9_drop_60 : decode cX9_drop 60 = .ok (.iconst 1, 1) := by decide +kernel
theorem dX9_drop_61 : decode cX9_drop 61 = .ok (.isub, 1) := by decide +kernel
theorem dX9_drop_62 : decode cX9_drop 62 = .ok (.iastore, 1) := by decide +kernel
theorem dX9_drop_63 : decode cX9_drop 63 = .ok (.aload_n 0, 1) := by decide +kernel
theorem dX9_drop_64 : decode cX9_drop 64 = .ok (.getfield 7, 3) := by decide +kernel
theorem dX9_drop_67 : decode cX9_drop 67 = .ok (.iconst 5, 1) := by decide +kernel
theorem dX9_drop_68 : decode cX9_drop 68 = .ok (.iaload, 1) := by decide +kernel
theorem dX9_drop_69 : decode cX9_drop 69 = .ok (.ireturn, 1) := by decide +kernel
theorem dX9_move_0 : decode cX9_move 0 = .ok (.aload_n 0, 1) := by decide +kernel
theorem dX9_move_1 : decode cX9_move 1 = .ok (.aload_n 0, 1) := by decide +kernel
theorem dX9_move_2 : decode cX9_move 2 = .ok (.iload_n 1, 1) := by decide +kernel
theorem dX9_move_3 : decode cX9_move 3 = .ok (.invokevirtual 158, 3) := by decide +kernel
theorem dX9_move_6 : decode cX9_move 6 = .ok (.invokevirtual 74, 3) := by decide +kernel
theorem dX9_move_9 : decode cX9_move 9 = .ok (.ifCond .ne 5, 3) := by decide +kernel
theorem dX9_move_12 : decode cX9_move 12 = .ok (.iconst 0, 1) := by decide +kernel
theorem dX9_move_13 : decode cX9_move 13 = .ok (.ireturn, 1) := by decide +kernel
theorem dX9_move_14 : decode cX9_move 14 = .ok (.aload_n 0, 1) := by decide +kernel
theorem dX9_move_15 : decode cX9_move 15 = .ok (.aload_n 0, 1) := by decide +kernel
theorem dX9_move_16 : decode cX9_move 16 = .ok (.iload_n 1, 1) := by decide +kernel
theorem dX9_move_17 : decode cX9_move 17 = .ok (.iconst 0, 1) := by decide +kernel
theorem dX9_move_18 : decode cX9_move 18 = .ok (.invokevirtual 95, 3) := by decide +kernel
theorem dX9_move_21 : decode cX9_move 21 = .ok (.aload_n 0, 1) := by decide +kernel
theorem dX9_move_22 : decode cX9_move 22 = .ok (.iload_n 1, 1) := by decide +kernel
theorem dX9_move_23 : decode cX9_move 23 = .ok (.iconst 1, 1) := by decide +kernel
theorem dX9_move_24 : decode cX9_move 24 = .ok (.invokevirtual 95, 3) := by decide +kernel
theorem dX9_move_27 : decode cX9_move 27 = .ok (.iload_n 2, 1) := by decide +kernel
theorem dX9_move_28 : decode cX9_move 28 = .ok (.iload_n 3, 1) := by decide +kernel
theorem dX9_move_29 : decode cX9_move 29 = .ok (.iload_n 1, 1) := by decide +kernel
theorem dX9_move_30 : decode cX9_move 30 = .ok (.invokevirtual 270, 3) := by decide +kernel
theorem dX9_move_33 : decode cX9_move 33 = .ok (.istore 4, 2) := by decide +kernel
theorem dX9_move_35 : decode cX9_move 35 = .ok (.iload 4, 2) := by decide +kernel
theorem dX9_move_37 : decode cX9_move 37 = .ok (.ifCond .le 10, 3) := by decide +kernel
theorem dX9_move_40 : decode cX9_move 40 = .ok (.aload_n 0, 1) := by decide +kernel
theorem dX9_move_41 : decode cX9_move 41 = .ok (.iload 4, 2) := by decide +kernel
theorem dX9_move_43 : decode cX9_move 43 = .ok (.invokevirtual 247, 3) := by decide +kernel
theorem dX9_move_46 : decode cX9_move 46 = .ok (.ireturn, 1) := by decide +kernel
theorem dX9_move_47 : decode cX9_move 47 = .ok (.aload_n 0, 1) := by decide +kernel
theorem dX9_move_48 : decode cX9_move 48 = .ok (.invokevirtual 250, 3) := by decide +kernel
theorem dX9_move_51 : decode cX9_move 51 = .ok (.aload_n 0, 1) := by decide +kernel
theorem dX9_move_52 : decode cX9_move 52 = .ok (.getfield 7, 3) := by decide +kernel
theorem dX9_move_55 : decode cX9_move 55 = .ok (.bipush 13, 2) := by decide +kernel
theorem dX9_move_57 : decode cX9_move 57 = .ok (.bipush 13, 2) := by decide +kernel
theorem dX9_move_59 : decode cX9_move 59 = .ok (.iload_n 1, 1) := by decide +kernel
theorem dX9_move_60 : decode cX9_move 60 = .ok (.imul, 1) := by decide +kernel
theorem dX9_move_61 : decode cX9_move 61 = .ok (.iadd, 1) := by decide +kernel
theorem dX9_move_62 : decode cX9_move 62 = .ok (.iconst 2, 1) := by decide +kernel
theorem dX9_move_63 : decode cX9_move 63 = .ok (.iadd, 1) := by decide +kernel
theorem dX9_move_64 : decode cX9_move 64 = .ok (.iload_n 2, 1) := by decide +kernel
theorem dX9_move_65 : decode cX9_move 65 = .ok (.iastore, 1) := by decide +kernel
theorem dX9_move_66 : decode cX9_move 66 = .ok (.aload_n 0, 1) := by decide +kernel
theorem dX9_move_67 : decode cX9_move 67 = .ok (.getfield 7, 3) := by decide +kernel
theorem dX9_move_70 : decode cX9_move 70 = .ok (.bipush 13, 2) := by decide +kernel
theorem dX9_move_72 : decode cX9_move 72 = .ok (.bipush 13, 2) := by decide +kernel
theorem dX9_move_74 : decode cX9_move 74 = .ok (.iload_n 1, 1) := by decide +kernel
theorem dX9_move_75 : decode cX9_move 75 = .ok (.imul, 1) := by decide +kernel
theorem dX9_move_76 : decode cX9_move 76 = .ok (.iadd, 1) := by decide +kernel
theorem dX9_move_77 : decode cX9_move 77 = .ok (.iconst 3, 1) := by decide +kernel
theorem dX9_move_78 : decode cX9_move 78 = .ok (.iadd, 1) := by decide +kernel
theorem dX9_move_79 : decode cX9_move 79 = .ok (.iload_n 3, 1) := by decide +kernel
theorem dX9_move_80 : decode cX9_move 80 = .ok (.iastore, 1) := by decide +kernel
theorem dX9_move_81 : decode cX9_move 81 = .ok (.aload_n 0, 1) := by decide +kernel
theorem dX9_move_82 : decode cX9_move 82 = .ok (.iconst 0, 1) := by decide +kernel
theorem dX9_move_83 : decode cX9_move 83 = .ok (.invokevirtual 136, 3) := by decide +kernel
theorem dX9_move_86 : decode cX9_move 86 = .ok (.ireturn, 1) := by decide +kernel
theorem dX9_setStock_0 : decode cX9_setStock 0 = .ok (.aload_n 0, 1) := by decide +kernel
theorem dX9_setStock_1 : decode cX9_setStock 1 = .ok (.iload_n 1, 1) := by decide +kernel
theorem dX9_setStock_2 : decode cX9_setStock 2 = .ok (.invokestatic 195, 3) := by decide +kernel
theorem dX9_setStock_5 : decode cX9_setStock 5 = .ok (.iload_n 2, 1) := by decide +kernel
theorem dX9_setStock_6 : decode cX9_setStock 6 = .ok (.i2l, 1) := by decide +kernel
theorem dX9_setStock_7 : decode cX9_setStock 7 = .ok (.lconst 0, 1) := by decide +kernel
theorem dX9_setStock_8 : decode cX9_setStock 8 = .ok (.ldc2_w 274, 3) := by decide +kernel
theorem dX9_setStock_11 : decode cX9_setStock 11 = .ok (.invokestatic 82, 3) := by decide +kernel
theorem dX9_setStock_14 : decode cX9_setStock 14 = .ok (.invokevirtual 163, 3) := by decide +kernel
theorem dX9_setStock_17 : decode cX9_setStock 17 = .ok (.ifCond .ne 5, 3) := by decide +kernel
theorem dX9_setStock_20 : decode cX9_setStock 20 = .ok (.iconst 0, 1) := by decide +kernel
theorem dX9_setStock_21 : decode cX9_setStock 21 = .ok (.ireturn, 1) := by decide +kernel
theorem dX9_setStock_22 : decode cX9_setStock 22 = .ok (.aload_n 0, 1) := by decide +kernel
theorem dX9_setStock_23 : decode cX9_setStock 23 = .ok (.getfield 7, 3) := by decide +kernel
theorem dX9_setStock_26 : decode cX9_setStock 26 = .ok (.bipush 6, 2) := by decide +kernel
theorem dX9_setStock_28 : decode cX9_setStock 28 = .ok (.iload_n 1, 1) := by decide +kernel
theorem dX9_setStock_29 : decode cX9_setStock 29 = .ok (.iadd, 1) := by decide +kernel
theorem dX9_setStock_30 : decode cX9_setStock 30 = .ok (.iaload, 1) := by decide +kernel
theorem dX9_setStock_31 : decode cX9_setStock 31 = .ok (.istore_n 3, 1) := by decide +kernel
theorem dX9_setStock_32 : decode cX9_setStock 32 = .ok (.aload_n 0, 1) := by decide +kernel
theorem dX9_setStock_33 : decode cX9_setStock 33 = .ok (.invokevirtual 250, 3) := by decide +kernel
theorem dX9_setStock_36 : decode cX9_setStock 36 = .ok (.aload_n 0, 1) := by decide +kernel
theorem dX9_setStock_37 : decode cX9_setStock 37 = .ok (.getfield 7, 3) := by decide +kernel
theorem dX9_setStock_40 : decode cX9_setStock 40 = .ok (.bipush 6, 2) := by decide +kernel
theorem dX9_setStock_42 : decode cX9_setStock 42 = .ok (.iload_n 1, 1) := by decide +kernel
theorem dX9_setStock_43 : decode cX9_setStock 43 = .ok (.iadd, 1) := by decide +kernel
theorem dX9_setStock_44 : decode cX9_setStock 44 = .ok (.iload_n 2, 1) := by decide +kernel
theorem dX9_setStock_45 : decode cX9_setStock 45 = .ok (.iastore, 1) := by decide +kernel
theorem dX9_setStock_46 : decode cX9_setStock 46 = .ok (.iload_n 3, 1) := by decide +kernel
theorem dX9_setStock_47 : decode cX9_setStock 47 = .ok (.ireturn, 1) := by decide +kernel
theorem dX9_setDelay_0 : decode cX9_setDelay 0 = .ok (.aload_n 0, 1) := by decide +kernel
theorem dX9_setDelay_1 : decode cX9_setDelay 1 = .ok (.iload_n 1, 1) := by decide +kernel
theorem dX9_setDelay_2 : decode cX9_setDelay 2 = .ok (.i2l, 1) := by decide +kernel
theorem dX9_setDelay_3 : decode cX9_setDelay 3 = .ok (.lconst 0, 1) := by decide +kernel
theorem dX9_setDelay_4 : decode cX9_setDelay 4 = .ok (.ldc2_w 211, 3) := by decide +kernel
theorem dX9_setDelay_7 : decode cX9_setDelay 7 = .ok (.invokestatic 82, 3) := by decide +kernel
theorem dX9_setDelay_10 : decode cX9_setDelay 10 = .ok (.invokevirtual 74, 3) := by decide +kernel
theorem dX9_setDelay_13 : decode cX9_setDelay 13 = .ok (.ifCond .ne 5, 3) := by decide +kernel
theorem dX9_setDelay_16 : decode cX9_setDelay 16 = .ok (.iconst 0, 1) := by decide +kernel
theorem dX9_setDelay_17 : decode cX9_setDelay 17 = .ok (.ireturn, 1) := by decide +kernel
theorem dX9_setDelay_18 : decode cX9_setDelay 18 = .ok (.aload_n 0, 1) := by decide +kernel
theorem dX9_setDelay_19 : decode cX9_setDelay 19 = .ok (.getfield 7, 3) := by decide +kernel
theorem dX9_setDelay_22 : decode cX9_setDelay 22 = .ok (.iconst 2, 1) := by decide +kernel
theorem dX9_setDelay_23 : decode cX9_setDelay 23 = .ok (.iaload, 1) := by decide +kernel
theorem dX9_setDelay_24 : decode cX9_setDelay 24 = .ok (.istore_n 2, 1) := by decide +kernel
theorem dX9_setDelay_25 : decode cX9_setDelay 25 = .ok (.iload_n 2, 1) := by decide +kernel
theorem dX9_setDelay_26 : decode cX9_setDelay 26 = .ok (.iload_n 1, 1) := by decide +kernel
theorem dX9_setDelay_27 : decode cX9_setDelay 27 = .ok (.if_icmp .ne 10, 3) := by decide +kernel
theorem dX9_setDelay_30 : decode cX9_setDelay 30 = .ok (.aload_n 0, 1) := by decide +kernel
theorem dX9_setDelay_31 : decode cX9_setDelay 31 = .ok (.bipush 7, 2) := by decide +kernel
theorem dX9_setDelay_33 : decode cX9_setDelay 33 = .ok (.invokevirtual 247, 3) := by decide +kernel
theorem dX9_setDelay_36 : decode cX9_setDelay 36 = .ok (.ireturn, 1) := by decide +kernel
theorem dX9_setDelay_37 : decode cX9_setDelay 37 = .ok (.aload_n 0, 1) := by decide +kernel
theorem dX9_setDelay_38 : decode cX9_setDelay 38 = .ok (.invokevirtual 250, 3) := by decide +kernel
theorem dX9_setDelay_41 : decode cX9_setDelay 41 = .ok (.aload_n 0, 1) := by decide +kernel
theorem dX9_setDelay_42 : decode cX9_setDelay 42 = .ok (.getfield 7, 3) := by decide +kernel
theorem dX9_setDelay_45 : decode cX9_setDelay 45 = .ok (.iconst 2, 1) := by decide +kernel
theorem dX9_setDelay_46 : decode cX9_setDelay 46 = .ok (.iload_n 1, 1) := by decide +kernel
theorem dX9_setDelay_47 : decode cX9_setDelay 47 = .ok (.iastore, 1) := by decide +kernel
theorem dX9_setDelay_48 : decode cX9_setDelay 48 = .ok (.iload_n 2, 1) := by decide +kernel
theorem dX9_setDelay_49 : decode cX9_setDelay 49 = .ok (.ireturn, 1) := by decide +kernel
theorem dX9_byteAt_0 : decode cX9_byteAt 0 = .ok (.iload_n 1, 1) := by decide +kernel
theorem dX9_byteAt_1 : decode cX9_byteAt 1 = .ok (.aload_n 0, 1) := by decide +kernel
theorem dX9_byteAt_2 : decode cX9_byteAt 2 = .ok (.getfield 71, 3) := by decide +kernel
theorem dX9_byteAt_5 : decode cX9_byteAt 5 = .ok (.if_icmp .ge 12, 3) := by decide +kernel
theorem dX9_byteAt_8 : decode cX9_byteAt 8 = .ok (.aload_n 0, 1) := by decide +kernel
theorem dX9_byteAt_9 : decode cX9_byteAt 9 = .ok (.getfield 29, 3) := by decide +kernel
theorem dX9_byteAt_12 : decode cX9_byteAt 12 = .ok (.iload_n 1, 1) := by decide +kernel
theorem dX9_byteAt_13 : decode cX9_byteAt 13 = .ok (.iaload, 1) := by decide +kernel
theorem dX9_byteAt_14 : decode cX9_byteAt 14 = .ok (.goto 4, 3) := by decide +kernel
theorem dX9_byteAt_17 : decode cX9_byteAt 17 = .ok (.iconst (-1), 1) := by decide +kernel
theorem dX9_byteAt_18 : decode cX9_byteAt 18 = .ok (.ireturn, 1) := by decide +kernel
theorem dX9_goesOn_0 : decode cX9_goesOn 0 = .ok (.aload_n 0, 1) := by decide +kernel
theorem dX9_goesOn_1 : decode cX9_goesOn 1 = .ok (.aload_n 0, 1) := by decide +kernel
theorem dX9_goesOn_2 : decode cX9_goesOn 2 = .ok (.getfield 276, 3) := by decide +kernel
theorem dX9_goesOn_5 : decode cX9_goesOn 5 = .ok (.invokevirtual 279, 3) := by decide +kernel
theorem dX9_goesOn_8 : decode cX9_goesOn 8 = .ok (.bipush 32, 2) := by decide +kernel
theorem dX9_goesOn_10 : decode cX9_goesOn 10 = .ok (.if_icmp .eq 16, 3) := by decide +kernel
theorem dX9_goesOn_13 : decode cX9_goesOn 13 = .ok (.aload_n 0, 1) := by decide +kernel
theorem dX9_goesOn_14 : decode cX9_goesOn 14 = .ok (.aload_n 0, 1) := by decide +kernel
theorem dX9_goesOn_15 : decode cX9_goesOn 15 = .ok (.getfield 276, 3) := by decide +kernel
theorem dX9_goesOn_18 : decode cX9_goesOn 18 = .ok (.invokevirtual 279, 3) := by decide +kernel
theorem dX9_goesOn_21 : decode cX9_goesOn 21 = .ok (.bipush 10, 2) := by decide +kernel
theorem dX9_goesOn_23 : decode cX9_goesOn 23 = .ok (.if_icmp .ne 16, 3) := by decide +kernel
theorem dX9_goesOn_26 : decode cX9_goesOn 26 = .ok (.aload_n 0, 1) := by decide +kernel
