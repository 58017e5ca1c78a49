theorem dX9_init_0 : decode cX9_init 0 = .ok (.aload_n 0, 1) := by decide +kernel
theorem dX9_init_1 : decode cX9_init 1 = .ok (.invokespecial 1, 3) := by decide +kernel
theorem dX9_init_4 : decode cX9_init 4 = .ok (.aload_n 0, 1) := by decide +kernel
theorem dX9_init_5 : decode cX9_init 5 = .ok (.sipush 1317, 3) := by decide +kernel
theorem dX9_init_8 : decode cX9_init 8 = .ok (.newarray .int, 2) := by decide +kernel
theorem dX9_init_10 : decode cX9_init 10 = .ok (.putfield 7, 3) := by decide +kernel
theorem dX9_init_13 : decode cX9_init 13 = .ok (.aload_n 0, 1) := by decide +kernel
theorem dX9_init_14 : decode cX9_init 14 = .ok (.sipush 1317, 3) := by decide +kernel
theorem dX9_init_17 : decode cX9_init 17 = .ok (.newarray .int, 2) := by decide +kernel
theorem dX9_init_19 : decode cX9_init 19 = .ok (.putfield 13, 3) := by decide +kernel
theorem dX9_init_22 : decode cX9_init 22 = .ok (.aload_n 0, 1) := by decide +kernel
theorem dX9_init_23 : decode cX9_init 23 = .ok (.sipush 10536, 3) := by decide +kernel
theorem dX9_init_26 : decode cX9_init 26 = .ok (.newarray .int, 2) := by decide +kernel
theorem dX9_init_28 : decode cX9_init 28 = .ok (.putfield 16, 3) := by decide +kernel
theorem dX9_init_31 : decode cX9_init 31 = .ok (.aload_n 0, 1) := by decide +kernel
theorem dX9_init_32 : decode cX9_init 32 = .ok (.sipush 2634, 3) := by decide +kernel
theorem dX9_init_35 : decode cX9_init 35 = .ok (.newarray .int, 2) := by decide +kernel
theorem dX9_init_37 : decode cX9_init 37 = .ok (.putfield 19, 3) := by decide +kernel
theorem dX9_init_40 : decode cX9_init 40 = .ok (.aload_n 0, 1) := by decide +kernel
theorem dX9_init_41 : decode cX9_init 41 = .ok (.iconst 2, 1) := by decide +kernel
theorem dX9_init_42 : decode cX9_init 42 = .ok (.newarray .boolean, 2) := by decide +kernel
theorem dX9_init_44 : decode cX9_init 44 = .ok (.putfield 22, 3) := by decide +kernel
theorem dX9_init_47 : decode cX9_init 47 = .ok (.aload_n 0, 1) := by decide +kernel
theorem dX9_init_48 : decode cX9_init 48 = .ok (.bipush 8, 2) := by decide +kernel
theorem dX9_init_50 : decode cX9_init 50 = .ok (.newarray .int, 2) := by decide +kernel
theorem dX9_init_52 : decode cX9_init 52 = .ok (.putfield 26, 3) := by decide +kernel
theorem dX9_init_55 : decode cX9_init 55 = .ok (.aload_n 0, 1) := by decide +kernel
theorem dX9_init_56 : decode cX9_init 56 = .ok (.sipush 400, 3) := by decide +kernel
theorem dX9_init_59 : decode cX9_init 59 = .ok (.newarray .int, 2) := by decide +kernel
theorem dX9_init_61 : decode cX9_init 61 = .ok (.putfield 29, 3) := by decide +kernel
theorem dX9_init_64 : decode cX9_init 64 = .ok (.aload_n 0, 1) := by decide +kernel
theorem dX9_init_65 : decode cX9_init 65 = .ok (.bipush 7, 2) := by decide +kernel
theorem dX9_init_67 : decode cX9_init 67 = .ok (.newarray .int, 2) := by decide +kernel
theorem dX9_init_69 : decode cX9_init 69 = .ok (.putfield 32, 3) := by decide +kernel
theorem dX9_init_72 : decode cX9_init 72 = .ok (.aload_n 0, 1) := by decide +kernel
theorem dX9_init_73 : decode cX9_init 73 = .ok (.iconst (-1), 1) := by decide +kernel
theorem dX9_init_74 : decode cX9_init 74 = .ok (.putfield 35, 3) := by decide +kernel
theorem dX9_init_77 : decode cX9_init 77 = .ok (.aload_n 0, 1) := by decide +kernel
theorem dX9_init_78 : decode cX9_init 78 = .ok (.iconst (-1), 1) := by decide +kernel
theorem dX9_init_79 : decode cX9_init 79 = .ok (.putfield 39, 3) := by decide +kernel
theorem dX9_init_82 : decode cX9_init 82 = .ok (.aload_n 0, 1) := by decide +kernel
theorem dX9_init_83 : decode cX9_init 83 = .ok (.sipush 240, 3) := by decide +kernel
theorem dX9_init_86 : decode cX9_init 86 = .ok (.newarray .int, 2) := by decide +kernel
theorem dX9_init_88 : decode cX9_init 88 = .ok (.putfield 42, 3) := by decide +kernel
theorem dX9_init_91 : decode cX9_init 91 = .ok (.aload_n 0, 1) := by decide +kernel
theorem dX9_init_92 : decode cX9_init 92 = .ok (.iconst 3, 1) := by decide +kernel
theorem dX9_init_93 : decode cX9_init 93 = .ok (.newarray .int, 2) := by decide +kernel
theorem dX9_init_95 : decode cX9_init 95 = .ok (.putfield 45, 3) := by decide +kernel
theorem dX9_init_98 : decode cX9_init 98 = .ok (.aload_n 0, 1) := by decide +kernel
theorem dX9_init_99 : decode cX9_init 99 = .ok (.iconst 3, 1) := by decide +kernel
theorem dX9_init_100 : decode cX9_init 100 = .ok (.newarray .int, 2) := by decide +kernel
theorem dX9_init_102 : decode cX9_init 102 = .ok (.putfield 48, 3) := by decide +kernel
theorem dX9_init_105 : decode cX9_init 105 = .ok (.aload_n 0, 1) := by decide +kernel
theorem dX9_init_106 : decode cX9_init 106 = .ok (.bipush 80, 2) := by decide +kernel
theorem dX9_init_108 : decode cX9_init 108 = .ok (.newarray .int, 2) := by decide +kernel
theorem dX9_init_110 : decode cX9_init 110 = .ok (.putfield 51, 3) := by decide +kernel
theorem dX9_init_113 : decode cX9_init 113 = .ok (.aload_n 0, 1) := by decide +kernel
theorem dX9_init_114 : decode cX9_init 114 = .ok (.getfield 7, 3) := by decide +kernel
theorem dX9_init_117 : decode cX9_init 117 = .ok (.bipush 12, 2) := by decide +kernel
theorem dX9_init_119 : decode cX9_init 119 = .ok (.bipush 8, 2) := by decide +kernel
theorem dX9_init_121 : decode cX9_init 121 = .ok (.invokestatic 54, 3) := by decide +kernel
theorem dX9_init_124 : decode cX9_init 124 = .ok (.return_, 1) := by decide +kernel
theorem dX9_thrown_0 : decode cX9_thrown 0 = .ok (.aload_n 0, 1) := by decide +kernel
theorem dX9_thrown_1 : decode cX9_thrown 1 = .ok (.getfield 58, 3) := by decide +kernel
theorem dX9_thrown_4 : decode cX9_thrown 4 = .ok (.ireturn, 1) := by decide +kernel
theorem dX9_begins_0 : decode cX9_begins 0 = .ok (.iconst 0, 1) := by decide +kernel
theorem dX9_begins_1 : decode cX9_begins 1 = .ok (.istore_n 3, 1) := by decide +kernel
theorem dX9_begins_2 : decode cX9_begins 2 = .ok (.iload_n 3, 1) := by decide +kernel
theorem dX9_begins_3 : decode cX9_begins 3 = .ok (.sipush 1317, 3) := by decide +kernel
theorem dX9_begins_6 : decode cX9_begins 6 = .ok (.if_icmp .ge 23, 3) := by decide +kernel
theorem dX9_begins_9 : decode cX9_begins 9 = .ok (.aload_n 0, 1) := by decide +kernel
theorem dX9_begins_10 : decode cX9_begins 10 = .ok (.iload_n 3, 1) := by decide +kernel
theorem dX9_begins_11 : decode cX9_begins 11 = .ok (.iload_n 3, 1) := by decide +kernel
theorem dX9_begins_12 : decode cX9_begins 12 = .ok (.bipush 117, 2) := by decide +kernel
theorem dX9_begins_14 : decode cX9_begins 14 = .ok (.if_icmp .ge 7, 3) := by decide +kernel
theorem dX9_begins_17 : decode cX9_begins 17 = .ok (.iconst 0, 1) := by decide +kernel
theorem dX9_begins_18 : decode cX9_begins 18 = .ok (.goto 4, 3) := by decide +kernel
theorem dX9_begins_21 : decode cX9_begins 21 = .ok (.iconst (-1), 1) := by decide +kernel
theorem dX9_begins_22 : decode cX9_begins 22 = .ok (.iastore, 1) := by decide +kernel
theorem dX9_begins_23 : decode cX9_begins 23 = .ok (.iinc 3 1, 3) := by decide +kernel
theorem dX9_begins_26 : decode cX9_begins 26 = .ok (.goto (-24), 3) := by decide +kernel
theorem dX9_begins_29 : decode cX9_begins 29 = .ok (.aload_n 0, 1) := by decide +kernel
theorem dX9_begins_30 : decode cX9_begins 30 = .ok (.iconst 0, 1) := by decide +kernel
theorem dX9_begins_31 : decode cX9_begins 31 = .ok (.iload_n 1, 1) := by decide +kernel
theorem dX9_begins_32 : decode cX9_begins 32 = .ok (.iastore, 1) := by decide +kernel
theorem dX9_begins_33 : decode cX9_begins 33 = .ok (.aload_n 0, 1) := by decide +kernel
theorem dX9_begins_34 : decode cX9_begins 34 = .ok (.iconst 1, 1) := by decide +kernel
theorem dX9_begins_35 : decode cX9_begins 35 = .ok (.iload_n 2, 1) := by decide +kernel
theorem dX9_begins_36 : decode cX9_begins 36 = .ok (.iastore, 1) := by decide +kernel
theorem dX9_begins_37 : decode cX9_begins 37 = .ok (.aload_n 0, 1) := by decide +kernel
theorem dX9_begins_38 : decode cX9_begins 38 = .ok (.iconst 2, 1) := by decide +kernel
theorem dX9_begins_39 : decode cX9_begins 39 = .ok (.iconst 4, 1) := by decide +kernel
theorem dX9_begins_40 : decode cX9_begins 40 = .ok (.iastore, 1) := by decide +kernel
theorem dX9_begins_41 : decode cX9_begins 41 = .ok (.iconst 0, 1) := by decide +kernel
theorem dX9_begins_42 : decode cX9_begins 42 = .ok (.istore_n 3, 1) := by decide +kernel
theorem dX9_begins_43 : decode cX9_begins 43 = .ok (.iload_n 3, 1) := by decide +kernel
theorem dX9_begins_44 : decode cX9_begins 44 = .ok (.bipush 7, 2) := by decide +kernel
theorem dX9_begins_46 : decode cX9_begins 46 = .ok (.if_icmp .ge 18, 3) := by decide +kernel
theorem dX9_begins_49 : decode cX9_begins 49 = .ok (.aload_n 0, 1) := by decide +kernel
theorem dX9_begins_50 : decode cX9_begins 50 = .ok (.bipush 6, 2) := by decide +kernel
theorem dX9_begins_52 : decode cX9_begins 52 = .ok (.iload_n 3, 1) := by decide +kernel
theorem dX9_begins_53 : decode cX9_begins 53 = .ok (.iadd, 1) := by decide +kernel
theorem dX9_begins_54 : decode cX9_begins 54 = .ok (.sipush 500, 3) := by decide +kernel
theorem dX9_begins_57 : decode cX9_begins 57 = .ok (.iastore, 1) := by decide +kernel
theorem dX9_begins_58 : decode cX9_begins 58 = .ok (.iinc 3 1, 3) := by decide +kernel
theorem dX9_begins_61 : decode cX9_begins 61 = .ok (.goto (-18), 3) := by decide +kernel
theorem dX9_begins_64 : decode cX9_begins 64 = .ok (.return_, 1) := by decide +kernel
theorem dX9_isIn_0 : decode cX9_isIn 0 = .ok (.lload_n 0, 1) := by decide +kernel
theorem dX9_isIn_1 : decode cX9_isIn 1 = .ok (.lload_n 2, 1) := by decide +kernel
theorem dX9_isIn_2 : decode cX9_isIn 2 = .ok (.lcmp, 1) := by decide +kernel
theorem dX9_isIn_3 : decode cX9_isIn 3 = .ok (.ifCond .lt 14, 3) := by decide +kernel
theorem dX9_isIn_6 : decode cX9_isIn 6 = .ok (.lload_n 0, 1) := by decide +kernel
theorem dX9_isIn_7 : decode cX9_isIn 7 = .ok (.lload 4, 2) := by decide +kernel
theorem dX9_isIn_9 : decode cX9_isIn 9 = .ok (.lcmp, 1) := by decide +kernel
theorem dX9_isIn_10 : decode cX9_isIn 10 = .ok (.ifCond .gt 7, 3) := by decide +kernel
theorem dX9_isIn_13 : decode cX9_isIn 13 = .ok (.iconst 1, 1) := by decide +kernel
theorem dX9_isIn_14 : decode cX9_isIn 14 = .ok (.goto 4, 3) := by decide +kernel
theorem dX9_isIn_17 : decode cX9_isIn 17 = .ok (.iconst 0, 1) := by decide +kernel
theorem dX9_isIn_18 : decode cX9_isIn 18 = .ok (.ireturn, 1) := by decide +kernel
theorem dX9_passes_0 : decode cX9_passes 0 = .ok (.aload_n 0, 1) := by decide +kernel
theorem dX9_passes_1 : decode cX9_passes 1 = .ok (.iload_n 1, 1) := by decide +kernel
theorem dX9_passes_2 : decode cX9_passes 2 = .ok (.ifCond .eq 7, 3) := by decide +kernel
theorem dX9_passes_5 : decode cX9_passes 5 = .ok (.iconst 0, 1) := by decide +kernel
theorem dX9_passes_6 : decode cX9_passes 6 = .ok (.goto 4, 3) := by decide +kernel
theorem dX9_passes_9 : decode cX9_passes 9 = .ok (.iconst 1, 1) := by decide +kernel
theorem dX9_passes_10 : decode cX9_passes 10 = .ok (.putfield 58, 3) := by decide +kernel
theorem dX9_passes_13 : decode cX9_passes 13 = .ok (.iload_n 1, 1) := by decide +kernel
theorem dX9_passes_14 : decode cX9_passes 14 = .ok (.ireturn, 1) := by decide +kernel
theorem dX9_passesBoth_0 : decode cX9_passesBoth 0 = .ok (.aload_n 0, 1) := by decide +kernel
theorem dX9_passesBoth_1 : decode cX9_passesBoth 1 = .ok (.iload_n 1, 1) := by decide +kernel
theorem dX9_passesBoth_2 : decode cX9_passesBoth 2 = .ok (.ifCond .ne 7, 3) := by decide +kernel
theorem dX9_passesBoth_5 : decode cX9_passesBoth 5 = .ok (.iconst 1, 1) := by decide +kernel
theorem dX9_passesBoth_6 : decode cX9_passesBoth 6 = .ok (.goto 12, 3) := by decide +kernel
theorem dX9_passesBoth_9 : decode cX9_passesBoth 9 = .ok (.iload_n 2, 1) := by decide +kernel
theorem dX9_passesBoth_10 : decode cX9_passesBoth 10 = .ok (.ifCond .ne 7, 3) := by decide +kernel
theorem dX9_passesBoth_13 : decode cX9_passesBoth 13 = .ok (.iconst 2, 1) := by decide +kernel
theorem dX9_passesBoth_14 : decode cX9_passesBoth 14 = .ok (.goto 4, 3) := by decide +kernel
theorem dX9_passesBoth_17 : decode cX9_passesBoth 17 = .ok (.iconst 0, 1) := by decide +kernel
theorem dX9_passesBoth_18 : decode cX9_passesBoth 18 = .ok (.putfield 58, 3) := by decide +kernel
theorem dX9_passesBoth_21 : decode cX9_passesBoth 21 = .ok (.aload_n 0, 1) := by decide +kernel
theorem dX9_passesBoth_22 : decode cX9_passesBoth 22 = .ok (.getfield 58, 3) := by decide +kernel
theorem dX9_passesBoth_25 : decode cX9_passesBoth 25 = .ok (.ifCond .ne 7, 3) := by decide +kernel
theorem dX9_passesBoth_28 : decode cX9_passesBoth 28 = .ok (.iconst 1, 1) := by decide +kernel
theorem dX9_passesBoth_29 : decode cX9_passesBoth 29 = .ok (.goto 4, 3) := by decide +kernel
theorem dX9_passesBoth_32 : decode cX9_passesBoth 32 = .ok (.iconst 0, 1) := by decide +kernel
theorem dX9_passesBoth_33 : decode cX9_passesBoth 33 = .ok (.ireturn, 1) := by decide +kernel
theorem dX9_copies_0 : decode cX9_copies 0 = .ok (.iconst 0, 1) := by decide +kernel
theorem dX9_copies_1 : decode cX9_copies 1 = .ok (.istore 4, 2) := by decide +kernel
theorem dX9_copies_3 : decode cX9_copies 3 = .ok (.iload 4, 2) := by decide +kernel
theorem dX9_copies_5 : decode cX9_copies 5 = .ok (.sipush 1317, 3) := by decide +kernel
theorem dX9_copies_8 : decode cX9_copies 8 = .ok (.if_icmp .ge 21, 3) := by decide +kernel
theorem dX9_copies_11 : decode cX9_copies 11 = .ok (.aload_n 2, 1) := by decide +kernel
theorem dX9_copies_12 : decode cX9_copies 12 = .ok (.iload_n 3, 1) := by decide +kernel
theorem dX9_copies_13 : decode cX9_copies 13 = .ok (.iload 4, 2) := by decide +kernel
theorem dX9_copies_15 : decode cX9_copies 15 = .ok (.iadd, 1) := by decide +kernel
theorem dX9_copies_16 : decode cX9_copies 16 = .ok (.aload_n 0, 1) := by decide +kernel
theorem dX9_copies_17 : decode cX9_copies 17 = .ok (.iload_n 1, 1) := by decide +kernel
theorem dX9_copies_18 : decode cX9_copies 18 = .ok (.iload 4, 2) := by decide +kernel
theorem dX9_copies_20 : decode cX9_copies 20 = .ok (.iadd, 1) := by decide +kernel
theorem dX9_copies_21 : decode cX9_copies 21 = .ok (.iaload, 1) := by decide +kernel
theorem dX9_copies_22 : decode cX9_copies 22 = .ok (.iastore, 1) := by decide +kernel
theorem dX9_copies_23 : decode cX9_copies 23 = .ok (.iinc 4 1, 3) := by decide +kernel
theorem dX9_copies_26 : decode cX9_copies 26 = .ok (.goto (-23), 3) := by decide +kernel
theorem dX9_copies_29 : decode cX9_copies 29 = .ok (.return_, 1) := by decide +kernel
theorem dX9_refuses_0 : decode cX9_refuses 0 = .ok (.aload_n 0, 1) := by decide +kernel
theorem dX9_refuses_1 : decode cX9_refuses 1 = .ok (.getfield 26, 3) := by decide +kernel
theorem dX9_refuses_4 : decode cX9_refuses 4 = .ok (.iload_n 1, 1) := by decide +kernel
theorem dX9_refuses_5 : decode cX9_refuses 5 = .ok (.dup2, 1) := by decide +kernel
theorem dX9_refuses_6 : decode cX9_refuses 6 = .ok (.iaload, 1) := by decide +kernel
theorem dX9_refuses_7 : decode cX9_refuses 7 = .ok (.iconst 1, 1) := by decide +kernel
theorem dX9_refuses_8 : decode cX9_refuses 8 = .ok (.iadd, 1) := by decide +kernel
theorem dX9_refuses_9 : decode cX9_refuses 9 = .ok (.iastore, 1) := by decide +kernel
theorem dX9_refuses_10 : decode cX9_refuses 10 = .ok (.iload_n 1, 1) := by decide +kernel
theorem dX9_refuses_11 : decode cX9_refuses 11 = .ok (.ineg, 1) := by decide +kernel
theorem dX9_refuses_12 : decode cX9_refuses 12 = .ok (.ireturn, 1) := by decide +kernel
theorem dX9_acts_0 : decode cX9_acts 0 = .ok (.aload_n 0, 1) := by decide +kernel
theorem dX9_acts_1 : decode cX9_acts 1 = .ok (.getfield 61, 3) := by decide +kernel
theorem dX9_acts_4 : decode cX9_acts 4 = .ok (.bipush 8, 2) := by decide +kernel
theorem dX9_acts_6 : decode cX9_acts 6 = .ok (.if_icmp .ne 44, 3) := by decide +kernel
theorem dX9_acts_9 : decode cX9_acts 9 = .ok (.iconst 0, 1) := by decide +kernel
theorem dX9_acts_10 : decode cX9_acts 10 = .ok (.istore_n 1, 1) := by decide +kernel
theorem dX9_acts_11 : decode cX9_acts 11 = .ok (.iload_n 1, 1) := by decide +kernel
theorem dX9_acts_12 : decode cX9_acts 12 = .ok (.sipush 9219, 3) := by decide +kernel
theorem dX9_acts_15 : decode cX9_acts 15 = .ok (.if_icmp .ge 25, 3) := by decide +kernel
theorem dX9_acts_18 : decode cX9_acts 18 = .ok (.aload_n 0, 1) := by decide +kernel
theorem dX9_acts_19 : decode cX9_acts 19 = .ok (.getfield 16, 3) := by decide +kernel
theorem dX9_acts_22 : decode cX9_acts 22 = .ok (.iload_n 1, 1) := by decide +kernel
theorem dX9_acts_23 : decode cX9_acts 23 = .ok (.aload_n 0, 1) := by decide +kernel
theorem dX9_acts_24 : decode cX9_acts 24 = .ok (.getfield 16, 3) := by decide +kernel
theorem dX9_acts_27 : decode cX9_acts 27 = .ok (.iload_n 1, 1) := by decide +kernel
theorem dX9_acts_28 : decode cX9_acts 28 = .ok (.sipush 1317, 3) := by decide +kernel
theorem dX9_acts_31 : decode cX9_acts 31 = .ok (.iadd, 1) := by decide +kernel
theorem dX9_acts_32 : decode cX9_acts 32 = .ok (.iaload, 1) := by decide +kernel
theorem dX9_acts_33 : decode cX9_acts 33 = .ok (.iastore, 1) := by decide +kernel
theorem dX9_acts_34 : decode cX9_acts 34 = .ok (.iinc 1 1, 3) := by decide +kernel
theorem dX9_acts_37 : decode cX9_acts 37 = .ok (.goto (-26), 3) := by decide +kernel
theorem dX9_acts_40 : decode cX9_acts 40 = .ok (.aload_n 0, 1) := by decide +kernel
theorem dX9_acts_41 : decode cX9_acts 41 = .ok (.dup, 1) := by decide +kernel
theorem dX9_acts_42 : decode cX9_acts 42 = .ok (.getfield 61, 3) := by decide +kernel
theorem dX9_acts_45 : decode cX9_acts 45 = .ok (.iconst 1, 1) := by decide +kernel
theorem dX9_acts_46 : decode cX9_acts 46 = .ok (.isub, 1) := by decide +kernel
theorem dX9_acts_47 : decode cX9_acts 47 = .ok (.putfield 61, 3) := by decide +kernel
theorem dX9_acts_50 : decode cX9_acts 50 = .ok (.aload_n 0, 1) := by decide +kernel
theorem dX9_acts_51 : decode cX9_acts 51 = .ok (.getfield 7, 3) := by decide +kernel
theorem dX9_acts_54 : decode cX9_acts 54 = .ok (.iconst 0, 1) := by decide +kernel
theorem dX9_acts_55 : decode cX9_acts 55 = .ok (.aload_n 0, 1) := by decide +kernel
theorem dX9_acts_56 : decode cX9_acts 56 = .ok (.getfield 16, 3) := by decide +kernel
theorem dX9_acts_59 : decode cX9_acts 59 = .ok (.sipush 1317, 3) := by decide +kernel
theorem dX9_acts_62 : decode cX9_acts 62 = .ok (.aload_n 0, 1) := by decide +kernel
theorem dX9_acts_63 : decode cX9_acts 63 = .ok (.getfield 61, 3) := by decide +kernel
theorem dX9_acts_66 : decode cX9_acts 66 = .ok (.imul, 1) := by decide +kernel
theorem dX9_acts_67 : decode cX9_acts 67 = .ok (.invokestatic 64, 3) := by decide +kernel
theorem dX9_acts_70 : decode cX9_acts 70 = .ok (.aload_n 0, 1) := by decide +kernel
theorem dX9_acts_71 : decode cX9_acts 71 = .ok (.dup, 1) := by decide +kernel
theorem dX9_acts_72 : decode cX9_acts 72 = .ok (.getfield 61, 3) := by decide +kernel
theorem dX9_acts_75 : decode cX9_acts 75 = .ok (.iconst 1, 1) := by decide +kernel
theorem dX9_acts_76 : decode cX9_acts 76 = .ok (.iadd, 1) := by decide +kernel
theorem dX9_acts_77 : decode cX9_acts 77 = .ok (.putfield 61, 3) := by decide +kernel
theorem dX9_acts_80 : decode cX9_acts 80 = .ok (.aload_n 0, 1) := by decide +kernel
theorem dX9_acts_81 : decode cX9_acts 81 = .ok (.dup, 1) := by decide +kernel
theorem dX9_acts_82 : decode cX9_acts 82 = .ok (.getfield 68, 3) := by decide +kernel
theorem dX9_acts_85 : decode cX9_acts 85 = .ok (.iconst 1, 1) := by decide +kernel
theorem dX9_acts_86 : decode cX9_acts 86 = .ok (.iadd, 1) := by decide +kernel
theorem dX9_acts_87 : decode cX9_acts 87 = .ok (.putfield 68, 3) := by decide +kernel
theorem dX9_acts_90 : decode cX9_acts 90 = .ok (.return_, 1) := by decide +kernel
theorem dX9_four_0 : decode cX9_four 0 = .ok (.bipush 24, 2) := by decide +kernel
theorem dX9_four_2 : decode cX9_four 2 = .ok (.istore_n 2, 1) := by decide +kernel
theorem dX9_four_3 : decode cX9_four 3 = .ok (.iload_n 2, 1) := by decide +kernel
theorem dX9_four_4 : decode cX9_four 4 = .ok (.ifCond .lt 35, 3) := by decide +kernel
theorem dX9_four_7 : decode cX9_four 7 = .ok (.aload_n 0, 1) := by decide +kernel
theorem dX9_four_8 : decode cX9_four 8 = .ok (.getfield 29, 3) := by decide +kernel
theorem dX9_four_11 : decode cX9_four 11 = .ok (.aload_n 0, 1) := by decide +kernel
theorem dX9_four_12 : decode cX9_four 12 = .ok (.getfield 71, 3) := by decide +kernel
theorem dX9_four_15 : decode cX9_four 15 = .ok (.iload_n 1, 1) := by decide +kernel
theorem dX9_four_16 : decode cX9_four 16 = .ok (.iload_n 2, 1) := by decide +kernel
theorem dX9_four_17 : decode cX9_four 17 = .ok (.ishr, 1) := by decide +kernel
theorem dX9_four_18 : decode cX9_four 18 = .ok (.sipush 255, 3) := by decide +kernel
theorem dX9_four_21 : decode cX9_four 21 = .ok (.iand, 1) := by decide +kernel
theorem dX9_four_22 : decode cX9_four 22 = .ok (.iastore, 1) := by decide +kernel
theorem dX9_four_23 : decode cX9_four 23 = .ok (.aload_n 0, 1) := by decide +kernel
theorem dX9_four_24 : decode cX9_four 24 = .ok (.dup, 1) := by decide +kernel
theorem dX9_four_25 : decode cX9_four 25 = .ok (.getfield 71, 3) := by decide +kernel
theorem dX9_four_28 : decode cX9_four 28 = .ok (.iconst 1, 1) := by decide +kernel
theorem dX9_four_29 : decode cX9_four 29 = .ok (.iadd, 1) := by decide +kernel
theorem dX9_four_30 : decode cX9_four 30 = .ok (.putfield 71, 3) := by decide +kernel
theorem dX9_four_33 : decode cX9_four 33 = .ok (.iinc 2 (-8), 3) := by decide +kernel
theorem dX9_four_36 : decode cX9_four 36 = .ok (.goto (-33), 3) := by decide +kernel
theorem dX9_four_39 : decode cX9_four 39 = .ok (.return_, 1) := by decide +kernel
theorem dX9_append_0 : decode cX9_append 0 = .ok (.aload_n 0, 1) := by decide +kernel
theorem dX9_append_1 : decode cX9_append 1 = .ok (.aload_n 0, 1) := by decide +kernel
theorem dX9_append_2 : decode cX9_append 2 = .ok (.getfield 71, 3) := by decide +kernel
theorem dX9_append_5 : decode cX9_append 5 = .ok (.bipush 20, 2) := by decide +kernel
theorem dX9_append_7 : decode cX9_append 7 = .ok (.iadd, 1) := by decide +kernel
theorem dX9_append_8 : decode cX9_append 8 = .ok (.sipush 400, 3) := by decide +kernel
theorem dX9_append_11 : decode cX9_append 11 = .ok (.if_icmp .gt 7, 3) := by decide +kernel
theorem dX9_append_14 : decode cX9_append 14 = .ok (.iconst 1, 1) := by decide +kernel
theorem dX9_append_15 : decode cX9_append 15 = .ok (.goto 4, 3) := by decide +kernel
theorem dX9_append_18 : decode cX9_append 18 = .ok (.iconst 0, 1) := by decide +kernel
theorem dX9_append_19 : decode cX9_append 19 = .ok (.invokevirtual 74, 3) := by decide +kernel
theorem dX9_append_22 : decode cX9_append 22 = .ok (.ifCond .ne 5, 3) := by decide +kernel
theorem dX9_append_25 : decode cX9_append 25 = .ok (.iconst 0, 1) := by decide +kernel
theorem dX9_append_26 : decode cX9_append 26 = .ok (.ireturn, 1) := by decide +kernel
theorem dX9_append_27 : decode cX9_append 27 = .ok (.aload_n 0, 1) := by decide +kernel
theorem dX9_append_28 : decode cX9_append 28 = .ok (.iload_n 1, 1) := by decide +kernel
theorem dX9_append_29 : decode cX9_append 29 = .ok (.invokevirtual 78, 3) := by decide +kernel
theorem dX9_append_32 : decode cX9_append 32 = .ok (.aload_n 0, 1) := by decide +kernel
theorem dX9_append_33 : decode cX9_append 33 = .ok (.iload_n 2, 1) := by decide +kernel
theorem dX9_append_34 : decode cX9_append 34 = .ok (.invokevirtual 78, 3) := by decide +kernel
theorem dX9_append_37 : decode cX9_append 37 = .ok (.aload_n 0, 1) := by decide +kernel
theorem dX9_append_38 : decode cX9_append 38 = .ok (.iload_n 3, 1) := by decide +kernel
theorem dX9_append_39 : decode cX9_append 39 = .ok (.invokevirtual 78, 3) := by decide +kernel
theorem dX9_append_42 : decode cX9_append 42 = .ok (.aload_n 0, 1) := by decide +kernel
theorem dX9_append_43 : decode cX9_append 43 = .ok (.iload 4, 2) := by decide +kernel
theorem dX9_append_45 : decode cX9_append 45 = .ok (.invokevirtual 78, 3) := by decide +kernel
theorem dX9_append_48 : decode cX9_append 48 = .ok (.aload_n 0, 1) := by decide +kernel
theorem dX9_append_49 : decode cX9_append 49 = .ok (.iload 5, 2) := by decide +kernel
theorem dX9_append_51 : decode cX9_append 51 = .ok (.invokevirtual 78, 3) := by decide +kernel
theorem dX9_append_54 : decode cX9_append 54 = .ok (.aload_n 0, 1) := by decide +kernel
theorem dX9_append_55 : decode cX9_append 55 = .ok (.getfield 71, 3) := by decide +kernel
theorem dX9_append_58 : decode cX9_append 58 = .ok (.ireturn, 1) := by decide +kernel
theorem dX9_truncate_0 : decode cX9_truncate 0 = .ok (.aload_n 0, 1) := by decide +kernel
theorem dX9_truncate_1 : decode cX9_truncate 1 = .ok (.iload_n 1, 1) := by decide +kernel
theorem dX9_truncate_2 : decode cX9_truncate 2 = .ok (.i2l, 1) := by decide +kernel
theorem dX9_truncate_3 : decode cX9_truncate 3 = .ok (.lconst 0, 1) := by decide +kernel
theorem dX9_truncate_4 : decode cX9_truncate 4 = .ok (.aload_n 0, 1) := by decide +kernel
theorem dX9_truncate_5 : decode cX9_truncate 5 = .ok (.getfield 71, 3) := by decide +kernel
theorem dX9_truncate_8 : decode cX9_truncate 8 = .ok (.i2l, 1) := by decide +kernel
theorem dX9_truncate_9 : decode cX9_truncate 9 = .ok (.invokestatic 82, 3) := by decide +kernel
theorem dX9_truncate_12 : decode cX9_truncate 12 = .ok (.invokevirtual 74, 3) := by decide +kernel
theorem dX9_truncate_15 : decode cX9_truncate 15 = .ok (.ifCond .eq 8, 3) := by decide +kernel
theorem dX9_truncate_18 : decode cX9_truncate 18 = .ok (.aload_n 0, 1) := by decide +kernel
theorem dX9_truncate_19 : decode cX9_truncate 19 = .ok (.iload_n 1, 1) := by decide +kernel
theorem dX9_truncate_20 : decode cX9_truncate 20 = .ok (.putfield 71, 3) := by decide +kernel
theorem dX9_truncate_23 : decode cX9_truncate 23 = .ok (.aload_n 0, 1) := by decide +kernel
theorem dX9_truncate_24 : decode cX9_truncate 24 = .ok (.getfield 58, 3) := by decide +kernel
theorem dX9_truncate_27 : decode cX9_truncate 27 = .ok (.ifCond .le 7, 3) := by decide +kernel
theorem dX9_truncate_30 : decode cX9_truncate 30 = .ok (.iconst 0, 1) := by decide +kernel
theorem dX9_truncate_31 : decode cX9_truncate 31 = .ok (.goto 7, 3) := by decide +kernel
theorem dX9_truncate_34 : decode cX9_truncate 34 = .ok (.aload_n 0, 1) := by decide +kernel
theorem dX9_truncate_35 : decode cX9_truncate 35 = .ok (.getfield 71, 3) := by decide +kernel
theorem dX9_truncate_38 : decode cX9_truncate 38 = .ok (.ireturn, 1) := by decide +kernel
theorem dX9_cap_0 : decode cX9_cap 0 = .ok (.aload_n 0, 1) := by decide +kernel
theorem dX9_cap_1 : decode cX9_cap 1 = .ok (.getfield 7, 3) := by decide +kernel
theorem dX9_cap_4 : decode cX9_cap 4 = .ok (.bipush 13, 2) := by decide +kernel
theorem dX9_cap_6 : decode cX9_cap 6 = .ok (.bipush 13, 2) := by decide +kernel
theorem dX9_cap_8 : decode cX9_cap 8 = .ok (.iload_n 1, 1) := by decide +kernel
theorem dX9_cap_9 : decode cX9_cap 9 = .ok (.imul, 1) := by decide +kernel
theorem dX9_cap_10 : decode cX9_cap 10 = .ok (.iadd, 1) := by decide +kernel
theorem dX9_cap_11 : decode cX9_cap 11 = .ok (.iload_n 2, 1) := by decide +kernel
theorem dX9_cap_12 : decode cX9_cap 12 = .ok (.iadd, 1) := by decide +kernel
theorem dX9_cap_13 : decode cX9_cap 13 = .ok (.iaload, 1) := by decide +kernel
theorem dX9_cap_14 : decode cX9_cap 14 = .ok (.ireturn, 1) := by decide +kernel
theorem dX9_at_0 : decode cX9_at 0 = .ok (.bipush 117, 2) := by decide +kernel
theorem dX9_at_2 : decode cX9_at 2 = .ok (.bipush 40, 2) := by decide +kernel
theorem dX9_at_4 : decode cX9_at 4 = .ok (.iload_n 1, 1) := by decide +kernel
theorem dX9_at_5 : decode cX9_at 5 = .ok (.imul, 1) := by decide +kernel
theorem dX9_at_6 : decode cX9_at 6 = .ok (.iadd, 1) := by decide +kernel
theorem dX9_at_7 : decode cX9_at 7 = .ok (.iload_n 0, 1) := by decide +kernel
theorem dX9_at_8 : decode cX9_at 8 = .ok (.iadd, 1) := by decide +kernel
theorem dX9_at_9 : decode cX9_at 9 = .ok (.ireturn, 1) := by decide +kernel
theorem dX9_colourAt_0 : decode cX9_colourAt 0 = .ok (.aload_n 0, 1) := by decide +kernel
theorem dX9_colourAt_1 : decode cX9_colourAt 1 = .ok (.getfield 7, 3) := by decide +kernel
theorem dX9_colourAt_4 : decode cX9_colourAt 4 = .ok (.iload_n 1, 1) := by decide +kernel
theorem dX9_colourAt_5 : decode cX9_colourAt 5 = .ok (.iload_n 2, 1) := by decide +kernel
theorem dX9_colourAt_6 : decode cX9_colourAt 6 = .ok (.invokestatic 86, 3) := by decide +kernel
theorem dX9_colourAt_9 : decode cX9_colourAt 9 = .ok (.iaload, 1) := by decide +kernel
theorem dX9_colourAt_10 : decode cX9_colourAt 10 = .ok (.ireturn, 1) := by decide +kernel
theorem dX9_turned_0 : decode cX9_turned 0 = .ok (.aload_n 0, 1) := by decide +kernel
theorem dX9_turned_1 : decode cX9_turned 1 = .ok (.getfield 7, 3) := by decide +kernel
theorem dX9_turned_4 : decode cX9_turned 4 = .ok (.iconst 0, 1) := by decide +kernel
theorem dX9_turned_5 : decode cX9_turned 5 = .ok (.iaload, 1) := by decide +kernel
theorem dX9_turned_6 : decode cX9_turned 6 = .ok (.iconst 1, 1) := by decide +kernel
theorem dX9_turned_7 : decode cX9_turned 7 = .ok (.isub, 1) := by decide +kernel
theorem dX9_turned_8 : decode cX9_turned 8 = .ok (.iload_n 1, 1) := by decide +kernel
theorem dX9_turned_9 : decode cX9_turned 9 = .ok (.isub, 1) := by decide +kernel
theorem dX9_turned_10 : decode cX9_turned 10 = .ok (.ireturn, 1) := by decide +kernel
theorem dX9_isRow_0 : decode cX9_isRow 0 = .ok (.iload_n 1, 1) := by decide +kernel
theorem dX9_isRow_1 : decode cX9_isRow 1 = .ok (.i2l, 1) := by decide +kernel
theorem dX9_isRow_2 : decode cX9_isRow 2 = .ok (.lconst 0, 1) := by decide +kernel
theorem dX9_isRow_3 : decode cX9_isRow 3 = .ok (.aload_n 0, 1) := by decide +kernel
theorem dX9_isRow_4 : decode cX9_isRow 4 = .ok (.getfield 7, 3) := by decide +kernel
theorem dX9_isRow_7 : decode cX9_isRow 7 = .ok (.iconst 1, 1) := by decide +kernel
theorem dX9_isRow_8 : decode cX9_isRow 8 = .ok (.iaload, 1) := by decide +kernel
theorem dX9_isRow_9 : decode cX9_isRow 9 = .ok (.iconst 1, 1) := by decide +kernel
theorem dX9_isRow_10 : decode cX9_isRow 10 = .ok (.isub, 1) := by decide +kernel
theorem dX9_isRow_11 : decode cX9_isRow 11 = .ok (.i2l, 1) := by decide +kernel
theorem dX9_isRow_12 : decode cX9_isRow 12 = .ok (.invokestatic 82, 3) := by decide +kernel
theorem dX9_isRow_15 : decode cX9_isRow 15 = .ok (.ireturn, 1) := by decide +kernel
theorem dX9_isCaption_0 : decode cX9_isCaption 0 = .ok (.iload_n 1, 1) := by decide +kernel
theorem dX9_isCaption_1 : decode cX9_isCaption 1 = .ok (.i2l, 1) := by decide +kernel
theorem dX9_isCaption_2 : decode cX9_isCaption 2 = .ok (.lconst 0, 1) := by decide +kernel
theorem dX9_isCaption_3 : decode cX9_isCaption 3 = .ok (.aload_n 0, 1) := by decide +kernel
theorem dX9_isCaption_4 : decode cX9_isCaption 4 = .ok (.getfield 7, 3) := by decide +kernel
theorem dX9_isCaption_7 : decode cX9_isCaption 7 = .ok (.iconst 5, 1) := by decide +kernel
theorem dX9_isCaption_8 : decode cX9_isCaption 8 = .ok (.iaload, 1) := by decide +kernel
theorem dX9_isCaption_9 : decode cX9_isCaption 9 = .ok (.iconst 1, 1) := by decide +kernel
theorem dX9_isCaption_10 : decode cX9_isCaption 10 = .ok (.isub, 1) := by decide +kernel
theorem dX9_isCaption_11 : decode cX9_isCaption 11 = .ok (.i2l, 1) := by decide +kernel
theorem dX9_isCaption_12 : decode cX9_isCaption 12 = .ok (.invokestatic 82, 3) := by decide +kernel
theorem dX9_isCaption_15 : decode cX9_isCaption 15 = .ok (.ireturn, 1) := by decide +kernel
theorem dX9_isColour_0 : decode cX9_isColour 0 = .ok (.iload_n 0, 1) := by decide +kernel
theorem dX9_isColour_1 : decode cX9_isColour 1 = .ok (.i2l, 1) := by decide +kernel
theorem dX9_isColour_2 : decode cX9_isColour 2 = .ok (.lconst 0, 1) := by decide +kernel
theorem dX9_isColour_3 : decode cX9_isColour 3 = .ok (.ldc2_w 90, 3) := by decide +kernel
theorem dX9_isColour_6 : decode cX9_isColour 6 = .ok (.invokestatic 82, 3) := by decide +kernel
theorem dX9_isColour_9 : decode cX9_isColour 9 = .ok (.ireturn, 1) := by decide +kernel
theorem dX9_hasBit_0 : decode cX9_hasBit 0 = .ok (.iload_n 0, 1) := by decide +kernel
theorem dX9_hasBit_1 : decode cX9_hasBit 1 = .ok (.bipush 14, 2) := by decide +kernel
theorem dX9_hasBit_3 : decode cX9_hasBit 3 = .ok (.iconst 3, 1) := by decide +kernel
theorem dX9_hasBit_4 : decode cX9_hasBit 4 = .ok (.iload_n 1, 1) := by decide +kernel
theorem dX9_hasBit_5 : decode cX9_hasBit 5 = .ok (.imul, 1) := by decide +kernel
theorem dX9_hasBit_6 : decode cX9_hasBit 6 = .ok (.isub, 1) := by decide +kernel
theorem dX9_hasBit_7 : decode cX9_hasBit 7 = .ok (.iload_n 2, 1) := by decide +kernel
theorem dX9_hasBit_8 : decode cX9_hasBit 8 = .ok (.isub, 1) := by decide +kernel
theorem dX9_hasBit_9 : decode cX9_hasBit 9 = .ok (.ishr, 1) := by decide +kernel
theorem dX9_hasBit_10 : decode cX9_hasBit 10 = .ok (.iconst 1, 1) := by decide +kernel
theorem dX9_hasBit_11 : decode cX9_hasBit 11 = .ok (.iand, 1) := by decide +kernel
theorem dX9_hasBit_12 : decode cX9_hasBit 12 = .ok (.iconst 1, 1) := by decide +kernel
theorem dX9_hasBit_13 : decode cX9_hasBit 13 = .ok (.if_icmp .ne 7, 3) := by decide +kernel
theorem dX9_hasBit_16 : decode cX9_hasBit 16 = .ok (.iconst 1, 1) := by decide +kernel
theorem dX9_hasBit_17 : decode cX9_hasBit 17 = .ok (.goto 4, 3) := by decide +kernel
theorem dX9_hasBit_20 : decode cX9_hasBit 20 = .ok (.iconst 0, 1) := by decide +kernel
theorem dX9_hasBit_21 : decode cX9_hasBit 21 = .ok (.ireturn, 1) := by decide +kernel
theorem dX9_isInk_0 : decode cX9_isInk 0 = .ok (.iload_n 2, 1) := by decide +kernel
theorem dX9_isInk_1 : decode cX9_isInk 1 = .ok (.iconst 4, 1) := by decide +kernel
theorem dX9_isInk_2 : decode cX9_isInk 2 = .ok (.irem, 1) := by decide +kernel
theorem dX9_isInk_3 : decode cX9_isInk 3 = .ok (.iconst 3, 1) := by decide +kernel
theorem dX9_isInk_4 : decode cX9_isInk 4 = .ok (.if_icmp .ne 5, 3) := by decide +kernel
theorem dX9_isInk_7 : decode cX9_isInk 7 = .ok (.iconst 0, 1) := by decide +kernel
theorem dX9_isInk_8 : decode cX9_isInk 8 = .ok (.ireturn, 1) := by decide +kernel
theorem dX9_isInk_9 : decode cX9_isInk 9 = .ok (.getstatic 92, 3) := by decide +kernel
theorem dX9_isInk_12 : decode cX9_isInk 12 = .ok (.aload_n 0, 1) := by decide +kernel
theorem dX9_isInk_13 : decode cX9_isInk 13 = .ok (.iload_n 1, 1) := by decide +kernel
theorem dX9_isInk_14 : decode cX9_isInk 14 = .ok (.iconst 5, 1) := by decide +kernel
theorem dX9_isInk_15 : decode cX9_isInk 15 = .ok (.iload_n 2, 1) := by decide +kernel
theorem dX9_isInk_16 : decode cX9_isInk 16 = .ok (.iconst 4, 1) := by decide +kernel
theorem dX9_isInk_17 : decode cX9_isInk 17 = .ok (.idiv, 1) := by decide +kernel
theorem dX9_isInk_18 : decode cX9_isInk 18 = .ok (.iadd, 1) := by decide +kernel
theorem dX9_isInk_19 : decode cX9_isInk 19 = .ok (.invokevirtual 95, 3) := by decide +kernel
theorem dX9_isInk_22 : decode cX9_isInk 22 = .ok (.iaload, 1) := by decide +kernel
theorem dX9_isInk_23 : decode cX9_isInk 23 = .ok (.iconst 4, 1) := by decide +kernel
theorem dX9_isInk_24 : decode cX9_isInk 24 = .ok (.iload_n 3, 1) := by decide +kernel
theorem dX9_isInk_25 : decode cX9_isInk 25 = .ok (.isub, 1) := by decide +kernel
theorem dX9_isInk_26 : decode cX9_isInk 26 = .ok (.iload_n 2, 1) := by decide +kernel
theorem dX9_isInk_27 : decode cX9_isInk 27 = .ok (.iconst 4, 1) := by decide +kernel
theorem dX9_isInk_28 : decode cX9_isInk 28 = .ok (.irem, 1) := by decide +kernel
theorem dX9_isInk_29 : decode cX9_isInk 29 = .ok (.invokestatic 98, 3) := by decide +kernel
theorem dX9_isInk_32 : decode cX9_isInk 32 = .ok (.ireturn, 1) := by decide +kernel
theorem dX9_designOf_0 : decode cX9_designOf 0 = .ok (.iconst 0, 1) := by decide +kernel
theorem dX9_designOf_1 : decode cX9_designOf 1 = .ok (.istore_n 3, 1) := by decide +kernel
theorem dX9_designOf_2 : decode cX9_designOf 2 = .ok (.iload_n 3, 1) := by decide +kernel
theorem dX9_designOf_3 : decode cX9_designOf 3 = .ok (.aload_n 0, 1) := by decide +kernel
theorem dX9_designOf_4 : decode cX9_designOf 4 = .ok (.getfield 7, 3) := by decide +kernel
theorem dX9_designOf_7 : decode cX9_designOf 7 = .ok (.iconst 5, 1) := by decide +kernel
theorem dX9_designOf_8 : decode cX9_designOf 8 = .ok (.iaload, 1) := by decide +kernel
theorem dX9_designOf_9 : decode cX9_designOf 9 = .ok (.if_icmp .ge 99, 3) := by decide +kernel
theorem dX9_designOf_12 : decode cX9_designOf 12 = .ok (.aload_n 0, 1) := by decide +kernel
theorem dX9_designOf_13 : decode cX9_designOf 13 = .ok (.iload_n 3, 1) := by decide +kernel
theorem dX9_designOf_14 : decode cX9_designOf 14 = .ok (.iconst 1, 1) := by decide +kernel
theorem dX9_designOf_15 : decode cX9_designOf 15 = .ok (.invokevirtual 95, 3) := by decide +kernel
theorem dX9_designOf_18 : decode cX9_designOf 18 = .ok (.ifCond .ne 7, 3) := by decide +kernel
theorem dX9_designOf_21 : decode cX9_designOf 21 = .ok (.iload_n 1, 1) := by decide +kernel
theorem dX9_designOf_22 : decode cX9_designOf 22 = .ok (.goto 8, 3) := by decide +kernel
theorem dX9_designOf_25 : decode cX9_designOf 25 = .ok (.aload_n 0, 1) := by decide +kernel
theorem dX9_designOf_26 : decode cX9_designOf 26 = .ok (.iload_n 1, 1) := by decide +kernel
theorem dX9_designOf_27 : decode cX9_designOf 27 = .ok (.invokevirtual 102, 3) := by decide +kernel
theorem dX9_designOf_30 : decode cX9_designOf 30 = .ok (.aload_n 0, 1) := by decide +kernel
theorem dX9_designOf_31 : decode cX9_designOf 31 = .ok (.iload_n 3, 1) := by decide +kernel
theorem dX9_designOf_32 : decode cX9_designOf 32 = .ok (.iconst 2, 1) := by decide +kernel
theorem dX9_designOf_33 : decode cX9_designOf 33 = .ok (.invokevirtual 95, 3) := by decide +kernel
theorem dX9_designOf_36 : decode cX9_designOf 36 = .ok (.isub, 1) := by decide +kernel
theorem dX9_designOf_37 : decode cX9_designOf 37 = .ok (.istore 4, 2) := by decide +kernel
theorem dX9_designOf_39 : decode cX9_designOf 39 = .ok (.iload_n 2, 1) := by decide +kernel
theorem dX9_designOf_40 : decode cX9_designOf 40 = .ok (.aload_n 0, 1) := by decide +kernel
theorem dX9_designOf_41 : decode cX9_designOf 41 = .ok (.iload_n 3, 1) := by decide +kernel
theorem dX9_designOf_42 : decode cX9_designOf 42 = .ok (.iconst 3, 1) := by decide +kernel
theorem dX9_designOf_43 : decode cX9_designOf 43 = .ok (.invokevirtual 95, 3) := by decide +kernel
theorem dX9_designOf_46 : decode cX9_designOf 46 = .ok (.isub, 1) := by decide +kernel
theorem dX9_designOf_47 : decode cX9_designOf 47 = .ok (.istore 5, 2) := by decide +kernel
theorem dX9_designOf_49 : decode cX9_designOf 49 = .ok (.iload 4, 2) := by decide +kernel
theorem dX9_designOf_51 : decode cX9_designOf 51 = .ok (.i2l, 1) := by decide +kernel
theorem dX9_designOf_52 : decode cX9_designOf 52 = .ok (.lconst 0, 1) := by decide +kernel
theorem dX9_designOf_53 : decode cX9_designOf 53 = .ok (.iconst 4, 1) := by decide +kernel
theorem dX9_designOf_54 : decode cX9_designOf 54 = .ok (.aload_n 0, 1) := by decide +kernel
theorem dX9_designOf_55 : decode cX9_designOf 55 = .ok (.iload_n 3, 1) := by decide +kernel
theorem dX9_designOf_56 : decode cX9_designOf 56 = .ok (.iconst 0, 1) := by decide +kernel
theorem dX9_designOf_57 : decode cX9_designOf 57 = .ok (.invokevirtual 95, 3) := by decide +kernel
theorem dX9_designOf_60 : decode cX9_designOf 60 = .ok (.imul, 1) := by decide +kernel
theorem dX9_designOf_61 : decode cX9_designOf 61 = .ok (.iconst 2, 1) := by decide +kernel
theorem dX9_designOf_62 : decode cX9_designOf 62 = .ok (.isub, 1) := by decide +kernel
theorem dX9_designOf_63 : decode cX9_designOf 63 = .ok (.i2l, 1) := by decide +kernel
theorem dX9_designOf_64 : decode cX9_designOf 64 = .ok (.invokestatic 82, 3) := by decide +kernel
theorem dX9_designOf_67 : decode cX9_designOf 67 = .ok (.ifCond .eq 35, 3) := by decide +kernel
theorem dX9_designOf_70 : decode cX9_designOf 70 = .ok (.iload 5, 2) := by decide +kernel
theorem dX9_designOf_72 : decode cX9_designOf 72 = .ok (.i2l, 1) := by decide +kernel
theorem dX9_designOf_73 : decode cX9_designOf 73 = .ok (.lconst 0, 1) := by decide +kernel
theorem dX9_designOf_74 : decode cX9_designOf 74 = .ok (.ldc2_w 106, 3) := by decide +kernel
theorem dX9_designOf_77 : decode cX9_designOf 77 = .ok (.invokestatic 82, 3) := by decide +kernel
theorem dX9_designOf_80 : decode cX9_designOf 80 = .ok (.ifCond .eq 22, 3) := by decide +kernel
theorem dX9_designOf_83 : decode cX9_designOf 83 = .ok (.aload_n 0, 1) := by decide +kernel
theorem dX9_designOf_84 : decode cX9_designOf 84 = .ok (.iload_n 3, 1) := by decide +kernel
theorem dX9_designOf_85 : decode cX9_designOf 85 = .ok (.iload 4, 2) := by decide +kernel
theorem dX9_designOf_87 : decode cX9_designOf 87 = .ok (.iload 5, 2) := by decide +kernel
theorem dX9_designOf_89 : decode cX9_designOf 89 = .ok (.invokevirtual 108, 3) := by decide +kernel
theorem dX9_designOf_92 : decode cX9_designOf 92 = .ok (.ifCond .eq 10, 3) := by decide +kernel
theorem dX9_designOf_95 : decode cX9_designOf 95 = .ok (.aload_n 0, 1) := by decide +kernel
theorem dX9_designOf_96 : decode cX9_designOf 96 = .ok (.iload_n 3, 1) := by decide +kernel
theorem dX9_designOf_97 : decode cX9_designOf 97 = .ok (.iconst 4, 1) := by decide +kernel
theorem dX9_designOf_98 : decode cX9_designOf 98 = .ok (.invokevirtual 95, 3) := by decide +kernel
theorem dX9_designOf_101 : decode cX9_designOf 101 = .ok (.ireturn, 1) := by decide +kernel
theorem dX9_designOf_102 : decode cX9_designOf 102 = .ok (.iinc 3 1, 3) := by decide +kernel
theorem dX9_designOf_105 : decode cX9_designOf 105 = .ok (.goto (-103), 3) := by decide +kernel
theorem dX9_designOf_108 : decode cX9_designOf 108 = .ok (.iconst 0, 1) := by decide +kernel
theorem dX9_designOf_109 : decode cX9_designOf 109 = .ok (.ireturn, 1) := by decide +kernel
theorem dX9_lies_0 : decode cX9_lies 0 = .ok (.lload_n 2, 1) := by decide +kernel
theorem dX9_lies_1 : decode cX9_lies 1 = .ok (.lconst 0, 1) := by decide +kernel
theorem dX9_lies_2 : decode cX9_lies 2 = .ok (.lcmp, 1) := by decide +kernel
theorem dX9_lies_3 : decode cX9_lies 3 = .ok (.ifCond .lt 46, 3) := by decide +kernel
theorem dX9_lies_6 : decode cX9_lies 6 = .ok (.lload 4, 2) := by decide +kernel
theorem dX9_lies_8 : decode cX9_lies 8 = .ok (.lconst 0, 1) := by decide +kernel
theorem dX9_lies_9 : decode cX9_lies 9 = .ok (.lcmp, 1) := by decide +kernel
theorem dX9_lies_10 : decode cX9_lies 10 = .ok (.ifCond .lt 39, 3) := by decide +kernel
theorem dX9_lies_13 : decode cX9_lies 13 = .ok (.lload_n 2, 1) := by decide +kernel
theorem dX9_lies_14 : decode cX9_lies 14 = .ok (.iconst 4, 1) := by decide +kernel
theorem dX9_lies_15 : decode cX9_lies 15 = .ok (.iload_n 1, 1) := by decide +kernel
theorem dX9_lies_16 : decode cX9_lies 16 = .ok (.imul, 1) := by decide +kernel
theorem dX9_lies_17 : decode cX9_lies 17 = .ok (.i2l, 1) := by decide +kernel
theorem dX9_lies_18 : decode cX9_lies 18 = .ok (.ladd, 1) := by decide +kernel
theorem dX9_lies_19 : decode cX9_lies 19 = .ok (.ldc2_w 111, 3) := by decide +kernel
theorem dX9_lies_22 : decode cX9_lies 22 = .ok (.lsub, 1) := by decide +kernel
theorem dX9_lies_23 : decode cX9_lies 23 = .ok (.aload_n 0, 1) := by decide +kernel
theorem dX9_lies_24 : decode cX9_lies 24 = .ok (.iconst 0, 1) := by decide +kernel
theorem dX9_lies_25 : decode cX9_lies 25 = .ok (.iaload, 1) := by decide +kernel
theorem dX9_lies_26 : decode cX9_lies 26 = .ok (.i2l, 1) := by decide +kernel
theorem dX9_lies_27 : decode cX9_lies 27 = .ok (.lcmp, 1) := by decide +kernel
theorem dX9_lies_28 : decode cX9_lies 28 = .ok (.ifCond .ge 21, 3) := by decide +kernel
theorem dX9_lies_31 : decode cX9_lies 31 = .ok (.lload 4, 2) := by decide +kernel
theorem dX9_lies_33 : decode cX9_lies 33 = .ok (.ldc2_w 106, 3) := by decide +kernel
theorem dX9_lies_36 : decode cX9_lies 36 = .ok (.ladd, 1) := by decide +kernel
theorem dX9_lies_37 : decode cX9_lies 37 = .ok (.aload_n 0, 1) := by decide +kernel
theorem dX9_lies_38 : decode cX9_lies 38 = .ok (.iconst 1, 1) := by decide +kernel
theorem dX9_lies_39 : decode cX9_lies 39 = .ok (.iaload, 1) := by decide +kernel
theorem dX9_lies_40 : decode cX9_lies 40 = .ok (.i2l, 1) := by decide +kernel
theorem dX9_lies_41 : decode cX9_lies 41 = .ok (.lcmp, 1) := by decide +kernel
theorem dX9_lies_42 : decode cX9_lies 42 = .ok (.ifCond .ge 7, 3) := by decide +kernel
theorem dX9_lies_45 : decode cX9_lies 45 = .ok (.iconst 1, 1) := by decide +kernel
theorem dX9_lies_46 : decode cX9_lies 46 = .ok (.goto 4, 3) := by decide +kernel
theorem dX9_lies_49 : decode cX9_lies 49 = .ok (.iconst 0, 1) := by decide +kernel
theorem dX9_lies_50 : decode cX9_lies 50 = .ok (.ireturn, 1) := by decide +kernel
theorem dX9_meets_0 : decode cX9_meets 0 = .ok (.iload_n 2, 1) := by decide +kernel
theorem dX9_meets_1 : decode cX9_meets 1 = .ok (.ifCond .ne 7, 3) := by decide +kernel
theorem dX9_meets_4 : decode cX9_meets 4 = .ok (.iload_n 3, 1) := by decide +kernel
theorem dX9_meets_5 : decode cX9_meets 5 = .ok (.goto 14, 3) := by decide +kernel
theorem dX9_meets_8 : decode cX9_meets 8 = .ok (.aload_n 0, 1) := by decide +kernel
theorem dX9_meets_9 : decode cX9_meets 9 = .ok (.iconst 0, 1) := by decide +kernel
theorem dX9_meets_10 : decode cX9_meets 10 = .ok (.iaload, 1) := by decide +kernel
theorem dX9_meets_11 : decode cX9_meets 11 = .ok (.iconst 1, 1) := by decide +kernel
theorem dX9_meets_12 : decode cX9_meets 12 = .ok (.iadd, 1) := by decide +kernel
theorem dX9_meets_13 : decode cX9_meets 13 = .ok (.iload_n 3, 1) := by decide +kernel
theorem dX9_meets_14 : decode cX9_meets 14 = .ok (.isub, 1) := by decide +kernel
theorem dX9_meets_15 : decode cX9_meets 15 = .ok (.iconst 4, 1) := by decide +kernel
theorem dX9_meets_16 : decode cX9_meets 16 = .ok (.iload_n 1, 1) := by decide +kernel
theorem dX9_meets_17 : decode cX9_meets 17 = .ok (.imul, 1) := by decide +kernel
theorem dX9_meets_18 : decode cX9_meets 18 = .ok (.isub, 1) := by decide +kernel
theorem dX9_meets_19 : decode cX9_meets 19 = .ok (.istore 6, 2) := by decide +kernel
theorem dX9_meets_21 : decode cX9_meets 21 = .ok (.iconst 0, 1) := by decide +kernel
theorem dX9_meets_22 : decode cX9_meets 22 = .ok (.istore 7, 2) := by decide +kernel
theorem dX9_meets_24 : decode cX9_meets 24 = .ok (.iconst 0, 1) := by decide +kernel
theorem dX9_meets_25 : decode cX9_meets 25 = .ok (.istore 8, 2) := by decide +kernel
theorem dX9_meets_27 : decode cX9_meets 27 = .ok (.iload 8, 2) := by decide +kernel
theorem dX9_meets_29 : decode cX9_meets 29 = .ok (.aload_n 0, 1) := by decide +kernel
theorem dX9_meets_30 : decode cX9_meets 30 = .ok (.iconst 5, 1) := by decide +kernel
theorem dX9_meets_31 : decode cX9_meets 31 = .ok (.iaload, 1) := by decide +kernel
theorem dX9_meets_32 : decode cX9_meets 32 = .ok (.if_icmp .ge 160, 3) := by decide +kernel
theorem dX9_meets_35 : decode cX9_meets 35 = .ok (.bipush 13, 2) := by decide +kernel
theorem dX9_meets_37 : decode cX9_meets 37 = .ok (.bipush 13, 2) := by decide +kernel
theorem dX9_meets_39 : decode cX9_meets 39 = .ok (.iload 8, 2) := by decide +kernel
theorem dX9_meets_41 : decode cX9_meets 41 = .ok (.imul, 1) := by decide +kernel
theorem dX9_meets_42 : decode cX9_meets 42 = .ok (.iadd, 1) := by decide +kernel
theorem dX9_meets_43 : decode cX9_meets 43 = .ok (.istore 9, 2) := by decide +kernel
theorem dX9_meets_45 : decode cX9_meets 45 = .ok (.aload_n 0, 1) := by decide +kernel
theorem dX9_meets_46 : decode cX9_meets 46 = .ok (.iload 9, 2) := by decide +kernel
theorem dX9_meets_48 : decode cX9_meets 48 = .ok (.iconst 1, 1) := by decide +kernel
theorem dX9_meets_49 : decode cX9_meets 49 = .ok (.iadd, 1) := by decide +kernel
theorem dX9_meets_50 : decode cX9_meets 50 = .ok (.iaload, 1) := by decide +kernel
theorem dX9_meets_51 : decode cX9_meets 51 = .ok (.ifCond .ne 12, 3) := by decide +kernel
theorem dX9_meets_54 : decode cX9_meets 54 = .ok (.aload_n 0, 1) := by decide +kernel
theorem dX9_meets_55 : decode cX9_meets 55 = .ok (.iload 9, 2) := by decide +kernel
theorem dX9_meets_57 : decode cX9_meets 57 = .ok (.iconst 2, 1) := by decide +kernel
theorem dX9_meets_58 : decode cX9_meets 58 = .ok (.iadd, 1) := by decide +kernel
theorem dX9_meets_59 : decode cX9_meets 59 = .ok (.iaload, 1) := by decide +kernel
theorem dX9_meets_60 : decode cX9_meets 60 = .ok (.goto 24, 3) := by decide +kernel
theorem dX9_meets_63 : decode cX9_meets 63 = .ok (.aload_n 0, 1) := by decide +kernel
theorem dX9_meets_64 : decode cX9_meets 64 = .ok (.iconst 0, 1) := by decide +kernel
theorem dX9_meets_65 : decode cX9_meets 65 = .ok (.iaload, 1) := by decide +kernel
theorem dX9_meets_66 : decode cX9_meets 66 = .ok (.iconst 1, 1) := by decide +kernel
theorem dX9_meets_67 : decode cX9_meets 67 = .ok (.iadd, 1) := by decide +kernel
theorem dX9_meets_68 : decode cX9_meets 68 = .ok (.aload_n 0, 1) := by decide +kernel
theorem dX9_meets_69 : decode cX9_meets 69 = .ok (.iload 9, 2) := by decide +kernel
theorem dX9_meets_71 : decode cX9_meets 71 = .ok (.iconst 2, 1) := by decide +kernel
theorem dX9_meets_72 : decode cX9_meets 72 = .ok (.iadd, 1) := by decide +kernel
theorem dX9_meets_73 : decode cX9_meets 73 = .ok (.iaload, 1) := by decide +kernel
theorem dX9_meets_74 : decode cX9_meets 74 = .ok (.isub, 1) := by decide +kernel
theorem dX9_meets_75 : decode cX9_meets 75 = .ok (.iconst 4, 1) := by decide +kernel
theorem dX9_meets_76 : decode cX9_meets 76 = .ok (.aload_n 0, 1) := by decide +kernel
theorem dX9_meets_77 : decode cX9_meets 77 = .ok (.iload 9, 2) := by decide +kernel
theorem dX9_meets_79 : decode cX9_meets 79 = .ok (.iconst 0, 1) := by decide +kernel
theorem dX9_meets_80 : decode cX9_meets 80 = .ok (.iadd, 1) := by decide +kernel
theorem dX9_meets_81 : decode cX9_meets 81 = .ok (.iaload, 1) := by decide +kernel
theorem dX9_meets_82 : decode cX9_meets 82 = .ok (.imul, 1) := by decide +kernel
theorem dX9_meets_83 : decode cX9_meets 83 = .ok (.isub, 1) := by decide +kernel
theorem dX9_meets_84 : decode cX9_meets 84 = .ok (.istore 10, 2) := by decide +kernel
theorem dX9_meets_86 : decode cX9_meets 86 = .ok (.iload 6, 2) := by decide +kernel
theorem dX9_meets_88 : decode cX9_meets 88 = .ok (.iload 10, 2) := by decide +kernel
theorem dX9_meets_90 : decode cX9_meets 90 = .ok (.iconst 4, 1) := by decide +kernel
theorem dX9_meets_91 : decode cX9_meets 91 = .ok (.aload_n 0, 1) := by decide +kernel
theorem dX9_meets_92 : decode cX9_meets 92 = .ok (.iload 9, 2) := by decide +kernel
theorem dX9_meets_94 : decode cX9_meets 94 = .ok (.iconst 0, 1) := by decide +kernel
theorem dX9_meets_95 : decode cX9_meets 95 = .ok (.iadd, 1) := by decide +kernel
theorem dX9_meets_96 : decode cX9_meets 96 = .ok (.iaload, 1) := by decide +kernel
theorem dX9_meets_97 : decode cX9_meets 97 = .ok (.imul, 1) := by decide +kernel
theorem dX9_meets_98 : decode cX9_meets 98 = .ok (.iadd, 1) := by decide +kernel
theorem dX9_meets_99 : decode cX9_meets 99 = .ok (.iconst 2, 1) := by decide +kernel
theorem dX9_meets_100 : decode cX9_meets 100 = .ok (.isub, 1) := by decide +kernel
theorem dX9_meets_101 : decode cX9_meets 101 = .ok (.if_icmp .gt 20, 3) := by decide +kernel
theorem dX9_meets_104 : decode cX9_meets 104 = .ok (.iload 10, 2) := by decide +kernel
theorem dX9_meets_106 : decode cX9_meets 106 = .ok (.iload 6, 2) := by decide +kernel
theorem dX9_meets_108 : decode cX9_meets 108 = .ok (.iconst 4, 1) := by decide +kernel
theorem dX9_meets_109 : decode cX9_meets 109 = .ok (.iload_n 1, 1) := by decide +kernel
theorem dX9_meets_110 : decode cX9_meets 110 = .ok (.imul, 1) := by decide +kernel
theorem dX9_meets_111 : decode cX9_meets 111 = .ok (.iadd, 1) := by decide +kernel
theorem dX9_meets_112 : decode cX9_meets 112 = .ok (.iconst 2, 1) := by decide +kernel
theorem dX9_meets_113 : decode cX9_meets 113 = .ok (.isub, 1) := by decide +kernel
theorem dX9_meets_114 : decode cX9_meets 114 = .ok (.if_icmp .gt 7, 3) := by decide +kernel
theorem dX9_meets_117 : decode cX9_meets 117 = .ok (.iconst 1, 1) := by decide +kernel
theorem dX9_meets_118 : decode cX9_meets 118 = .ok (.goto 4, 3) := by decide +kernel
theorem dX9_meets_121 : decode cX9_meets 121 = .ok (.iconst 0, 1) := by decide +kernel
theorem dX9_meets_122 : decode cX9_meets 122 = .ok (.istore 11, 2) := by decide +kernel
theorem dX9_meets_124 : decode cX9_meets 124 = .ok (.iload 4, 2) := by decide +kernel
theorem dX9_meets_126 : decode cX9_meets 126 = .ok (.aload_n 0, 1) := by decide +kernel
theorem dX9_meets_127 : decode cX9_meets 127 = .ok (.iload 9, 2) := by decide +kernel
theorem dX9_meets_129 : decode cX9_meets 129 = .ok (.iconst 3, 1) := by decide +kernel
theorem dX9_meets_130 : decode cX9_meets 130 = .ok (.iadd, 1) := by decide +kernel
theorem dX9_meets_131 : decode cX9_meets 131 = .ok (.iaload, 1) := by decide +kernel
theorem dX9_meets_132 : decode cX9_meets 132 = .ok (.iconst 4, 1) := by decide +kernel
theorem dX9_meets_133 : decode cX9_meets 133 = .ok (.iadd, 1) := by decide +kernel
theorem dX9_meets_134 : decode cX9_meets 134 = .ok (.if_icmp .gt 20, 3) := by decide +kernel
theorem dX9_meets_137 : decode cX9_meets 137 = .ok (.aload_n 0, 1) := by decide +kernel
theorem dX9_meets_138 : decode cX9_meets 138 = .ok (.iload 9, 2) := by decide +kernel
theorem dX9_meets_140 : decode cX9_meets 140 = .ok (.iconst 3, 1) := by decide +kernel
theorem dX9_meets_141 : decode cX9_meets 141 = .ok (.iadd, 1) := by decide +kernel
theorem dX9_meets_142 : decode cX9_meets 142 = .ok (.iaload, 1) := by decide +kernel
theorem dX9_meets_143 : decode cX9_meets 143 = .ok (.iload 4, 2) := by decide +kernel
theorem dX9_meets_145 : decode cX9_meets 145 = .ok (.iconst 4, 1) := by decide +kernel
theorem dX9_meets_146 : decode cX9_meets 146 = .ok (.iadd, 1) := by decide +kernel
theorem dX9_meets_147 : decode cX9_meets 147 = .ok (.if_icmp .gt 7, 3) := by decide +kernel
theorem dX9_meets_150 : decode cX9_meets 150 = .ok (.iconst 1, 1) := by decide +kernel
theorem dX9_meets_151 : decode cX9_meets 151 = .ok (.goto 4, 3) := by decide +kernel
theorem dX9_meets_154 : decode cX9_meets 154 = .ok (.iconst 0, 1) := by decide +kernel
theorem dX9_meets_155 : decode cX9_meets 155 = .ok (.istore 12, 2) := by decide +kernel
theorem dX9_meets_157 : decode cX9_meets 157 = .ok (.iload 7, 2) := by decide +kernel
theorem dX9_meets_159 : decode cX9_meets 159 = .ok (.ifCond .ne 20, 3) := by decide +kernel
theorem dX9_meets_162 : decode cX9_meets 162 = .ok (.iload 8, 2) := by decide +kernel
theorem dX9_meets_164 : decode cX9_meets 164 = .ok (.iload 5, 2) := by decide +kernel
theorem dX9_meets_166 : decode cX9_meets 166 = .ok (.if_icmp .eq 17, 3) := by decide +kernel
theorem dX9_meets_169 : decode cX9_meets 169 = .ok (.iload 11, 2) := by decide +kernel
theorem dX9_meets_171 : decode cX9_meets 171 = .ok (.ifCond .eq 12, 3) := by decide +kernel
theorem dX9_meets_174 : decode cX9_meets 174 = .ok (.iload 12, 2) := by decide +kernel
theorem dX9_meets_176 : decode cX9_meets 176 = .ok (.ifCond .eq 7, 3) := by decide +kernel
theorem dX9_meets_179 : decode cX9_meets 179 = .ok (.iconst 1, 1) := by decide +kernel
theorem dX9_meets_180 : decode cX9_meets 180 = .ok (.goto 4, 3) := by decide +kernel
theorem dX9_meets_183 : decode cX9_meets 183 = .ok (.iconst 0, 1) := by decide +kernel
theorem dX9_meets_184 : decode cX9_meets 184 = .ok (.istore 7, 2) := by decide +kernel
theorem dX9_meets_186 : decode cX9_meets 186 = .ok (.iinc 8 1, 3) := by decide +kernel
theorem dX9_meets_189 : decode cX9_meets 189 = .ok (.goto (-162), 3) := by decide +kernel
theorem dX9_meets_192 : decode cX9_meets 192 = .ok (.iload 7, 2) := by decide +kernel
theorem dX9_meets_194 : decode cX9_meets 194 = .ok (.ireturn, 1) := by decide +kernel
theorem dX9_isMistake_0 : decode cX9_isMistake 0 = .ok (.iload_n 2, 1) := by decide +kernel
theorem dX9_isMistake_1 : decode cX9_isMistake 1 = .ok (.aload_n 0, 1) := by decide +kernel
theorem dX9_isMistake_2 : decode cX9_isMistake 2 = .ok (.getfield 7, 3) := by decide +kernel
theorem dX9_isMistake_5 : decode cX9_isMistake 5 = .ok (.iconst 4, 1) := by decide +kernel
theorem dX9_isMistake_6 : decode cX9_isMistake 6 = .ok (.iaload, 1) := by decide +kernel
theorem dX9_isMistake_7 : decode cX9_isMistake 7 = .ok (.if_icmp .ge 22, 3) := by decide +kernel
theorem dX9_isMistake_10 : decode cX9_isMistake 10 = .ok (.aload_n 0, 1) := by decide +kernel
theorem dX9_isMistake_11 : decode cX9_isMistake 11 = .ok (.iload_n 1, 1) := by decide +kernel
theorem dX9_isMistake_12 : decode cX9_isMistake 12 = .ok (.iload_n 2, 1) := by decide +kernel
theorem dX9_isMistake_13 : decode cX9_isMistake 13 = .ok (.invokevirtual 113, 3) := by decide +kernel
theorem dX9_isMistake_16 : decode cX9_isMistake 16 = .ok (.aload_n 0, 1) := by decide +kernel
theorem dX9_isMistake_17 : decode cX9_isMistake 17 = .ok (.iload_n 1, 1) := by decide +kernel
theorem dX9_isMistake_18 : decode cX9_isMistake 18 = .ok (.iload_n 2, 1) := by decide +kernel
theorem dX9_isMistake_19 : decode cX9_isMistake 19 = .ok (.invokevirtual 116, 3) := by decide +kernel
theorem dX9_isMistake_22 : decode cX9_isMistake 22 = .ok (.if_icmp .eq 7, 3) := by decide +kernel
theorem dX9_isMistake_25 : decode cX9_isMistake 25 = .ok (.iconst 1, 1) := by decide +kernel
theorem dX9_isMistake_26 : decode cX9_isMistake 26 = .ok (.goto 4, 3) := by decide +kernel
theorem dX9_isMistake_29 : decode cX9_isMistake 29 = .ok (.iconst 0, 1) := by decide +kernel
theorem dX9_isMistake_30 : decode cX9_isMistake 30 = .ok (.ireturn, 1) := by decide +kernel
theorem dX9_mistakesIn_0 : decode cX9_mistakesIn 0 = .ok (.iconst 0, 1) := by decide +kernel
theorem dX9_mistakesIn_1 : decode cX9_mistakesIn 1 = .ok (.istore_n 2, 1) := by decide +kernel
theorem dX9_mistakesIn_2 : decode cX9_mistakesIn 2 = .ok (.iconst 0, 1) := by decide +kernel
theorem dX9_mistakesIn_3 : decode cX9_mistakesIn 3 = .ok (.istore_n 3, 1) := by decide +kernel
theorem dX9_mistakesIn_4 : decode cX9_mistakesIn 4 = .ok (.iload_n 3, 1) := by decide +kernel
theorem dX9_mistakesIn_5 : decode cX9_mistakesIn 5 = .ok (.aload_n 0, 1) := by decide +kernel
theorem dX9_mistakesIn_6 : decode cX9_mistakesIn 6 = .ok (.getfield 7, 3) := by decide +kernel
theorem dX9_mistakesIn_9 : decode cX9_mistakesIn 9 = .ok (.iconst 0, 1) := by decide +kernel
theorem dX9_mistakesIn_10 : decode cX9_mistakesIn 10 = .ok (.iaload, 1) := by decide +kernel
theorem dX9_mistakesIn_11 : decode cX9_mistakesIn 11 = .ok (.if_icmp .ge 26, 3) := by decide +kernel
theorem dX9_mistakesIn_14 : decode cX9_mistakesIn 14 = .ok (.iload_n 2, 1) := by decide +kernel
theorem dX9_mistakesIn_15 : decode cX9_mistakesIn 15 = .ok (.aload_n 0, 1) := by decide +kernel
theorem dX9_mistakesIn_16 : decode cX9_mistakesIn 16 = .ok (.iload_n 3, 1) := by decide +kernel
theorem dX9_mistakesIn_17 : decode cX9_mistakesIn 17 = .ok (.iload_n 1, 1) := by decide +kernel
theorem dX9_mistakesIn_18 : decode cX9_mistakesIn 18 = .ok (.invokevirtual 119, 3) := by decide +kernel
theorem dX9_mistakesIn_21 : decode cX9_mistakesIn 21 = .ok (.ifCond .eq 7, 3) := by decide +kernel
theorem dX9_mistakesIn_24 : decode cX9_mistakesIn 24 = .ok (.iconst 1, 1) := by decide +kernel
theorem dX9_mistakesIn_25 : decode cX9_mistakesIn 25 = .ok (.goto 4, 3) := by decide +kernel
theorem dX9_mistakesIn_28 : decode cX9_mistakesIn 28 = .ok (.iconst 0, 1) := by decide +kernel
theorem dX9_mistakesIn_29 : decode cX9_mistakesIn 29 = .ok (.iadd, 1) := by decide +kernel
theorem dX9_mistakesIn_30 : decode cX9_mistakesIn 30 = .ok (.istore_n 2, 1) := by decide +kernel
theorem dX9_mistakesIn_31 : decode cX9_mistakesIn 31 = .ok (.iinc 3 1, 3) := by decide +kernel
theorem dX9_mistakesIn_34 : decode cX9_mistakesIn 34 = .ok (.goto (-30), 3) := by decide +kernel
theorem dX9_mistakesIn_37 : decode cX9_mistakesIn 37 = .ok (.iload_n 2, 1) := by decide +kernel
theorem dX9_mistakesIn_38 : decode cX9_mistakesIn 38 = .ok (.ireturn, 1) := by decide +kernel
theorem dX9_isSeen_0 : decode cX9_isSeen 0 = .ok (.iload_n 1, 1) := by decide +kernel
theorem dX9_isSeen_1 : decode cX9_isSeen 1 = .ok (.aload_n 0, 1) := by decide +kernel
theorem dX9_isSeen_2 : decode cX9_isSeen 2 = .ok (.getfield 7, 3) := by decide +kernel
theorem dX9_isSeen_5 : decode cX9_isSeen 5 = .ok (.iconst 3, 1) := by decide +kernel
theorem dX9_isSeen_6 : decode cX9_isSeen 6 = .ok (.iaload, 1) := by decide +kernel
theorem dX9_isSeen_7 : decode cX9_isSeen 7 = .ok (.if_icmp .lt 22, 3) := by decide +kernel
theorem dX9_isSeen_10 : decode cX9_isSeen 10 = .ok (.aload_n 0, 1) := by decide +kernel
theorem dX9_isSeen_11 : decode cX9_isSeen 11 = .ok (.getfield 7, 3) := by decide +kernel
theorem dX9_isSeen_14 : decode cX9_isSeen 14 = .ok (.iconst 4, 1) := by decide +kernel
theorem dX9_isSeen_15 : decode cX9_isSeen 15 = .ok (.iaload, 1) := by decide +kernel
theorem dX9_isSeen_16 : decode cX9_isSeen 16 = .ok (.iconst 1, 1) := by decide +kernel
theorem dX9_isSeen_17 : decode cX9_isSeen 17 = .ok (.isub, 1) := by decide +kernel
theorem dX9_isSeen_18 : decode cX9_isSeen 18 = .ok (.iload_n 1, 1) := by decide +kernel
theorem dX9_isSeen_19 : decode cX9_isSeen 19 = .ok (.isub, 1) := by decide +kernel
theorem dX9_isSeen_20 : decode cX9_isSeen 20 = .ok (.aload_n 0, 1) := by decide +kernel
theorem dX9_isSeen_21 : decode cX9_isSeen 21 = .ok (.getfield 7, 3) := by decide +kernel
theorem dX9_isSeen_24 : decode cX9_isSeen 24 = .ok (.iconst 2, 1) := by decide +kernel
theorem dX9_isSeen_25 : decode cX9_isSeen 25 = .ok (.iaload, 1) := by decide +kernel
theorem dX9_isSeen_26 : decode cX9_isSeen 26 = .ok (.if_icmp .lt 7, 3) := by decide +kernel
theorem dX9_isSeen_29 : decode cX9_isSeen 29 = .ok (.iconst 1, 1) := by decide +kernel
theorem dX9_isSeen_30 : decode cX9_isSeen 30 = .ok (.goto 4, 3) := by decide +kernel
theorem dX9_isSeen_33 : decode cX9_isSeen 33 = .ok (.iconst 0, 1) := by decide +kernel
theorem dX9_isSeen_34 : decode cX9_isSeen 34 = .ok (.ireturn, 1) := by decide +kernel
theorem dX9_mistakesAll_0 : decode cX9_mistakesAll 0 = .ok (.iconst 0, 1) := by decide +kernel
theorem dX9_mistakesAll_1 : decode cX9_mistakesAll 1 = .ok (.istore_n 2, 1) := by decide +kernel
theorem dX9_mistakesAll_2 : decode cX9_mistakesAll 2 = .ok (.iconst 0, 1) := by decide +kernel
theorem dX9_mistakesAll_3 : decode cX9_mistakesAll 3 = .ok (.istore_n 3, 1) := by decide +kernel
theorem dX9_mistakesAll_4 : decode cX9_mistakesAll 4 = .ok (.iload_n 3, 1) := by decide +kernel
theorem dX9_mistakesAll_5 : decode cX9_mistakesAll 5 = .ok (.aload_n 0, 1) := by decide +kernel
theorem dX9_mistakesAll_6 : decode cX9_mistakesAll 6 = .ok (.getfield 7, 3) := by decide +kernel
theorem dX9_mistakesAll_9 : decode cX9_mistakesAll 9 = .ok (.iconst 4, 1) := by decide +kernel
theorem dX9_mistakesAll_10 : decode cX9_mistakesAll 10 = .ok (.iaload, 1) := by decide +kernel
theorem dX9_mistakesAll_11 : decode cX9_mistakesAll 11 = .ok (.if_icmp .ge 33, 3) := by decide +kernel
theorem dX9_mistakesAll_14 : decode cX9_mistakesAll 14 = .ok (.iload_n 2, 1) := by decide +kernel
theorem dX9_mistakesAll_15 : decode cX9_mistakesAll 15 = .ok (.iload_n 1, 1) := by decide +kernel
theorem dX9_mistakesAll_16 : decode cX9_mistakesAll 16 = .ok (.ifCond .eq 11, 3) := by decide +kernel
theorem dX9_mistakesAll_19 : decode cX9_mistakesAll 19 = .ok (.aload_n 0, 1) := by decide +kernel
theorem dX9_mistakesAll_20 : decode cX9_mistakesAll 20 = .ok (.iload_n 3, 1) := by decide +kernel
theorem dX9_mistakesAll_21 : decode cX9_mistakesAll 21 = .ok (.invokevirtual 123, 3) := by decide +kernel
theorem dX9_mistakesAll_24 : decode cX9_mistakesAll 24 = .ok (.ifCond .eq 11, 3) := by decide +kernel
theorem dX9_mistakesAll_27 : decode cX9_mistakesAll 27 = .ok (.aload_n 0, 1) := by decide +kernel
theorem dX9_mistakesAll_28 : decode cX9_mistakesAll 28 = .ok (.iload_n 3, 1) := by decide +kernel
theorem dX9_mistakesAll_29 : decode cX9_mistakesAll 29 = .ok (.invokevirtual 127, 3) := by decide +kernel
theorem dX9_mistakesAll_32 : decode cX9_mistakesAll 32 = .ok (.goto 4, 3) := by decide +kernel
theorem dX9_mistakesAll_35 : decode cX9_mistakesAll 35 = .ok (.iconst 0, 1) := by decide +kernel
theorem dX9_mistakesAll_36 : decode cX9_mistakesAll 36 = .ok (.iadd, 1) := by decide +kernel
theorem dX9_mistakesAll_37 : decode cX9_mistakesAll 37 = .ok (.istore_n 2, 1) := by decide +kernel
theorem dX9_mistakesAll_38 : decode cX9_mistakesAll 38 = .ok (.iinc 3 1, 3) := by decide +kernel
theorem dX9_mistakesAll_41 : decode cX9_mistakesAll 41 = .ok (.goto (-37), 3) := by decide +kernel
theorem dX9_mistakesAll_44 : decode cX9_mistakesAll 44 = .ok (.iload_n 2, 1) := by decide +kernel
theorem dX9_mistakesAll_45 : decode cX9_mistakesAll 45 = .ok (.ireturn, 1) := by decide +kernel
theorem dX9_lowestWrong_0 : decode cX9_lowestWrong 0 = .ok (.iconst 0, 1) := by decide +kernel
theorem dX9_lowestWrong_1 : decode cX9_lowestWrong 1 = .ok (.istore_n 2, 1) := by decide +kernel
theorem dX9_lowestWrong_2 : decode cX9_lowestWrong 2 = .ok (.iload_n 2, 1) := by decide +kernel
theorem dX9_lowestWrong_3 : decode cX9_lowestWrong 3 = .ok (.aload_n 0, 1) := by decide +kernel
theorem dX9_lowestWrong_4 : decode cX9_lowestWrong 4 = .ok (.getfield 7, 3) := by decide +kernel
theorem dX9_lowestWrong_7 : decode cX9_lowestWrong 7 = .ok (.iconst 4, 1) := by decide +kernel
theorem dX9_lowestWrong_8 : decode cX9_lowestWrong 8 = .ok (.iaload, 1) := by decide +kernel
theorem dX9_lowestWrong_9 : decode cX9_lowestWrong 9 = .ok (.if_icmp .ge 31, 3) := by decide +kernel
theorem dX9_lowestWrong_12 : decode cX9_lowestWrong 12 = .ok (.iload_n 1, 1) := by decide +kernel
theorem dX9_lowestWrong_13 : decode cX9_lowestWrong 13 = .ok (.ifCond .eq 11, 3) := by decide +kernel
theorem dX9_lowestWrong_16 : decode cX9_lowestWrong 16 = .ok (.aload_n 0, 1) := by decide +kernel
theorem dX9_lowestWrong_17 : decode cX9_lowestWrong 17 = .ok (.iload_n 2, 1) := by decide +kernel
theorem dX9_lowestWrong_18 : decode cX9_lowestWrong 18 = .ok (.invokevirtual 123, 3) := by decide +kernel
theorem dX9_lowestWrong_21 : decode cX9_lowestWrong 21 = .ok (.ifCond .eq 13, 3) := by decide +kernel
theorem dX9_lowestWrong_24 : decode cX9_lowestWrong 24 = .ok (.aload_n 0, 1) := by decide +kernel
theorem dX9_lowestWrong_25 : decode cX9_lowestWrong 25 = .ok (.iload_n 2, 1) := by decide +kernel
theorem dX9_lowestWrong_26 : decode cX9_lowestWrong 26 = .ok (.invokevirtual 127, 3) := by decide +kernel
theorem dX9_lowestWrong_29 : decode cX9_lowestWrong 29 = .ok (.ifCond .le 5, 3) := by decide +kernel
theorem dX9_lowestWrong_32 : decode cX9_lowestWrong 32 = .ok (.iload_n 2, 1) := by decide +kernel
theorem dX9_lowestWrong_33 : decode cX9_lowestWrong 33 = .ok (.ireturn, 1) := by decide +kernel
theorem dX9_lowestWrong_34 : decode cX9_lowestWrong 34 = .ok (.iinc 2 1, 3) := by decide +kernel
theorem dX9_lowestWrong_37 : decode cX9_lowestWrong 37 = .ok (.goto (-35), 3) := by decide +kernel
theorem dX9_lowestWrong_40 : decode cX9_lowestWrong 40 = .ok (.iconst (-1), 1) := by decide +kernel
theorem dX9_lowestWrong_41 : decode cX9_lowestWrong 41 = .ok (.ireturn, 1) := by decide +kernel
theorem dX9_mistakes_0 : decode cX9_mistakes 0 = .ok (.aload_n 0, 1) := by decide +kernel
theorem dX9_mistakes_1 : decode cX9_mistakes 1 = .ok (.iload_n 1, 1) := by decide +kernel
theorem dX9_mistakes_2 : decode cX9_mistakes 2 = .ok (.i2l, 1) := by decide +kernel
theorem dX9_mistakes_3 : decode cX9_mistakes 3 = .ok (.lconst 0, 1) := by decide +kernel
theorem dX9_mistakes_4 : decode cX9_mistakes 4 = .ok (.ldc2_w 130, 3) := by decide +kernel
theorem dX9_mistakes_7 : decode cX9_mistakes 7 = .ok (.invokestatic 82, 3) := by decide +kernel
theorem dX9_mistakes_10 : decode cX9_mistakes 10 = .ok (.invokevirtual 74, 3) := by decide +kernel
theorem dX9_mistakes_13 : decode cX9_mistakes 13 = .ok (.ifCond .ne 5, 3) := by decide +kernel
theorem dX9_mistakes_16 : decode cX9_mistakes 16 = .ok (.iconst 0, 1) := by decide +kernel
theorem dX9_mistakes_17 : decode cX9_mistakes 17 = .ok (.ireturn, 1) := by decide +kernel
theorem dX9_mistakes_18 : decode cX9_mistakes 18 = .ok (.aload_n 0, 1) := by decide +kernel
theorem dX9_mistakes_19 : decode cX9_mistakes 19 = .ok (.iload_n 1, 1) := by decide +kernel
theorem dX9_mistakes_20 : decode cX9_mistakes 20 = .ok (.iconst 3, 1) := by decide +kernel
theorem dX9_mistakes_21 : decode cX9_mistakes 21 = .ok (.if_icmp .eq 8, 3) := by decide +kernel
theorem dX9_mistakes_24 : decode cX9_mistakes 24 = .ok (.iload_n 1, 1) := by decide +kernel
theorem dX9_mistakes_25 : decode cX9_mistakes 25 = .ok (.iconst 5, 1) := by decide +kernel
theorem dX9_mistakes_26 : decode cX9_mistakes 26 = .ok (.if_icmp .ne 7, 3) := by decide +kernel
theorem dX9_mistakes_29 : decode cX9_mistakes 29 = .ok (.iconst 1, 1) := by decide +kernel
theorem dX9_mistakes_30 : decode cX9_mistakes 30 = .ok (.goto 4, 3) := by decide +kernel
theorem dX9_mistakes_33 : decode cX9_mistakes 33 = .ok (.iconst 0, 1) := by decide +kernel
theorem dX9_mistakes_34 : decode cX9_mistakes 34 = .ok (.invokevirtual 132, 3) := by decide +kernel
theorem dX9_mistakes_37 : decode cX9_mistakes 37 = .ok (.istore_n 2, 1) := by decide +kernel
theorem dX9_mistakes_38 : decode cX9_mistakes 38 = .ok (.iload_n 1, 1) := by decide +kernel
theorem dX9_mistakes_39 : decode cX9_mistakes 39 = .ok (.tableswitch 87 0 3 #[29, 29, 44, 85], 29) := by decide +kernel
theorem dX9_mistakes_68 : decode cX9_mistakes 68 = .ok (.aload_n 0, 1) := by decide +kernel
theorem dX9_mistakes_69 : decode cX9_mistakes 69 = .ok (.iload_n 1, 1) := by decide +kernel
theorem dX9_mistakes_70 : decode cX9_mistakes 70 = .ok (.iconst 1, 1) := by decide +kernel
theorem dX9_mistakes_71 : decode cX9_mistakes 71 = .ok (.if_icmp .ne 7, 3) := by decide +kernel
theorem dX9_mistakes_74 : decode cX9_mistakes 74 = .ok (.iconst 1, 1) := by decide +kernel
theorem dX9_mistakes_75 : decode cX9_mistakes 75 = .ok (.goto 4, 3) := by decide +kernel
theorem dX9_mistakes_78 : decode cX9_mistakes 78 = .ok (.iconst 0, 1) := by decide +kernel
theorem dX9_mistakes_79 : decode cX9_mistakes 79 = .ok (.invokevirtual 136, 3) := by decide +kernel
theorem dX9_mistakes_82 : decode cX9_mistakes 82 = .ok (.ireturn, 1) := by decide +kernel
theorem dX9_mistakes_83 : decode cX9_mistakes 83 = .ok (.iconst 0, 1) := by decide +kernel
theorem dX9_mistakes_84 : decode cX9_mistakes 84 = .ok (.istore_n 3, 1) := by decide +kernel
theorem dX9_mistakes_85 : decode cX9_mistakes 85 = .ok (.iconst 0, 1) := by decide +kernel
theorem dX9_mistakes_86 : decode cX9_mistakes 86 = .ok (.istore 4, 2) := by decide +kernel
theorem dX9_mistakes_88 : decode cX9_mistakes 88 = .ok (.iload 4, 2) := by decide +kernel
theorem dX9_mistakes_90 : decode cX9_mistakes 90 = .ok (.aload_n 0, 1) := by decide +kernel
theorem dX9_mistakes_91 : decode cX9_mistakes 91 = .ok (.getfield 7, 3) := by decide +kernel
theorem dX9_mistakes_94 : decode cX9_mistakes 94 = .ok (.iconst 4, 1) := by decide +kernel
theorem dX9_mistakes_95 : decode cX9_mistakes 95 = .ok (.iaload, 1) := by decide +kernel
theorem dX9_mistakes_96 : decode cX9_mistakes 96 = .ok (.if_icmp .ge 26, 3) := by decide +kernel
theorem dX9_mistakes_99 : decode cX9_mistakes 99 = .ok (.iload_n 3, 1) := by decide +kernel
theorem dX9_mistakes_100 : decode cX9_mistakes 100 = .ok (.aload_n 0, 1) := by decide +kernel
theorem dX9_mistakes_101 : decode cX9_mistakes 101 = .ok (.iload 4, 2) := by decide +kernel
theorem dX9_mistakes_103 : decode cX9_mistakes 103 = .ok (.invokevirtual 127, 3) := by decide +kernel
theorem dX9_mistakes_106 : decode cX9_mistakes 106 = .ok (.ifCond .le 7, 3) := by decide +kernel
theorem dX9_mistakes_109 : decode cX9_mistakes 109 = .ok (.iconst 1, 1) := by decide +kernel
theorem dX9_mistakes_110 : decode cX9_mistakes 110 = .ok (.goto 4, 3) := by decide +kernel
theorem dX9_mistakes_113 : decode cX9_mistakes 113 = .ok (.iconst 0, 1) := by decide +kernel
theorem dX9_mistakes_114 : decode cX9_mistakes 114 = .ok (.iadd, 1) := by decide +kernel
theorem dX9_mistakes_115 : decode cX9_mistakes 115 = .ok (.istore_n 3, 1) := by decide +kernel
theorem dX9_mistakes_116 : decode cX9_mistakes 116 = .ok (.iinc 4 1, 3) := by decide +kernel
theorem dX9_mistakes_119 : decode cX9_mistakes 119 = .ok (.goto (-31), 3) := by decide +kernel
theorem dX9_mistakes_122 : decode cX9_mistakes 122 = .ok (.iload_n 3, 1) := by decide +kernel
theorem dX9_mistakes_123 : decode cX9_mistakes 123 = .ok (.ireturn, 1) := by decide +kernel
theorem dX9_mistakes_124 : decode cX9_mistakes 124 = .ok (.iload_n 2, 1) := by decide +kernel
theorem dX9_mistakes_125 : decode cX9_mistakes 125 = .ok (.ireturn, 1) := by decide +kernel
theorem dX9_mistakes_126 : decode cX9_mistakes 126 = .ok (.iload_n 2, 1) := by decide +kernel
theorem dX9_mistakes_127 : decode cX9_mistakes 127 = .ok (.iconst (-1), 1) := by decide +kernel
theorem dX9_mistakes_128 : decode cX9_mistakes 128 = .ok (.if_icmp .ne 7, 3) := by decide +kernel
theorem dX9_mistakes_131 : decode cX9_mistakes 131 = .ok (.iconst 0, 1) := by decide +kernel
theorem dX9_mistakes_132 : decode cX9_mistakes 132 = .ok (.goto 11, 3) := by decide +kernel
theorem dX9_mistakes_135 : decode cX9_mistakes 135 = .ok (.aload_n 0, 1) := by decide +kernel
theorem dX9_mistakes_136 : decode cX9_mistakes 136 = .ok (.getfield 7, 3) := by decide +kernel
theorem dX9_mistakes_139 : decode cX9_mistakes 139 = .ok (.iconst 4, 1) := by decide +kernel
theorem dX9_mistakes_140 : decode cX9_mistakes 140 = .ok (.iaload, 1) := by decide +kernel
theorem dX9_mistakes_141 : decode cX9_mistakes 141 = .ok (.iload_n 2, 1) := by decide +kernel
theorem dX9_mistakes_142 : decode cX9_mistakes 142 = .ok (.isub, 1) := by decide +kernel
theorem dX9_mistakes_143 : decode cX9_mistakes 143 = .ok (.ireturn, 1) := by decide +kernel
theorem dX9_isLegible_0 : decode cX9_isLegible 0 = .ok (.aload_n 0, 1) := by decide +kernel
theorem dX9_isLegible_1 : decode cX9_isLegible 1 = .ok (.iload_n 1, 1) := by decide +kernel
theorem dX9_isLegible_2 : decode cX9_isLegible 2 = .ok (.iconst 3, 1) := by decide +kernel
theorem dX9_isLegible_3 : decode cX9_isLegible 3 = .ok (.invokevirtual 95, 3) := by decide +kernel
theorem dX9_isLegible_6 : decode cX9_isLegible 6 = .ok (.iconst 4, 1) := by decide +kernel
theorem dX9_isLegible_7 : decode cX9_isLegible 7 = .ok (.iadd, 1) := by decide +kernel
theorem dX9_isLegible_8 : decode cX9_isLegible 8 = .ok (.aload_n 0, 1) := by decide +kernel
theorem dX9_isLegible_9 : decode cX9_isLegible 9 = .ok (.getfield 7, 3) := by decide +kernel
theorem dX9_isLegible_12 : decode cX9_isLegible 12 = .ok (.iconst 4, 1) := by decide +kernel
theorem dX9_isLegible_13 : decode cX9_isLegible 13 = .ok (.iaload, 1) := by decide +kernel
theorem dX9_isLegible_14 : decode cX9_isLegible 14 = .ok (.if_icmp .ge 7, 3) := by decide +kernel
theorem dX9_isLegible_17 : decode cX9_isLegible 17 = .ok (.iconst 1, 1) := by decide +kernel
theorem dX9_isLegible_18 : decode cX9_isLegible 18 = .ok (.goto 4, 3) := by decide +kernel
theorem dX9_isLegible_21 : decode cX9_isLegible 21 = .ok (.iconst 0, 1) := by decide +kernel
theorem dX9_isLegible_22 : decode cX9_isLegible 22 = .ok (.ireturn, 1) := by decide +kernel
theorem dX9_pictureOf_0 : decode cX9_pictureOf 0 = .ok (.iconst 0, 1) := by decide +kernel
theorem dX9_pictureOf_1 : decode cX9_pictureOf 1 = .ok (.istore 4, 2) := by decide +kernel
theorem dX9_pictureOf_3 : decode cX9_pictureOf 3 = .ok (.iconst 0, 1) := by decide +kernel
theorem dX9_pictureOf_4 : decode cX9_pictureOf 4 = .ok (.istore 5, 2) := by decide +kernel
theorem dX9_pictureOf_6 : decode cX9_pictureOf 6 = .ok (.iload 5, 2) := by decide +kernel
theorem dX9_pictureOf_8 : decode cX9_pictureOf 8 = .ok (.iconst 5, 1) := by decide +kernel
theorem dX9_pictureOf_9 : decode cX9_pictureOf 9 = .ok (.if_icmp .ge 124, 3) := by decide +kernel
theorem dX9_pictureOf_12 : decode cX9_pictureOf 12 = .ok (.iconst 0, 1) := by decide +kernel
theorem dX9_pictureOf_13 : decode cX9_pictureOf 13 = .ok (.istore 6, 2) := by decide +kernel
theorem dX9_pictureOf_15 : decode cX9_pictureOf 15 = .ok (.iload 6, 2) := by decide +kernel
theorem dX9_pictureOf_17 : decode cX9_pictureOf 17 = .ok (.iconst 3, 1) := by decide +kernel
theorem dX9_pictureOf_18 : decode cX9_pictureOf 18 = .ok (.if_icmp .ge 109, 3) := by decide +kernel
theorem dX9_pictureOf_21 : decode cX9_pictureOf 21 = .ok (.aload_n 0, 1) := by decide +kernel
theorem dX9_pictureOf_22 : decode cX9_pictureOf 22 = .ok (.iload_n 1, 1) := by decide +kernel
theorem dX9_pictureOf_23 : decode cX9_pictureOf 23 = .ok (.iconst 2, 1) := by decide +kernel
theorem dX9_pictureOf_24 : decode cX9_pictureOf 24 = .ok (.invokevirtual 95, 3) := by decide +kernel
theorem dX9_pictureOf_27 : decode cX9_pictureOf 27 = .ok (.iconst 4, 1) := by decide +kernel
theorem dX9_pictureOf_28 : decode cX9_pictureOf 28 = .ok (.iload_n 2, 1) := by decide +kernel
theorem dX9_pictureOf_29 : decode cX9_pictureOf 29 = .ok (.imul, 1) := by decide +kernel
theorem dX9_pictureOf_30 : decode cX9_pictureOf 30 = .ok (.iadd, 1) := by decide +kernel
theorem dX9_pictureOf_31 : decode cX9_pictureOf 31 = .ok (.iload 6, 2) := by decide +kernel
theorem dX9_pictureOf_33 : decode cX9_pictureOf 33 = .ok (.iadd, 1) := by decide +kernel
theorem dX9_pictureOf_34 : decode cX9_pictureOf 34 = .ok (.istore 7, 2) := by decide +kernel
theorem dX9_pictureOf_36 : decode cX9_pictureOf 36 = .ok (.aload_n 0, 1) := by decide +kernel
theorem dX9_pictureOf_37 : decode cX9_pictureOf 37 = .ok (.iload_n 1, 1) := by decide +kernel
theorem dX9_pictureOf_38 : decode cX9_pictureOf 38 = .ok (.iconst 1, 1) := by decide +kernel
theorem dX9_pictureOf_39 : decode cX9_pictureOf 39 = .ok (.invokevirtual 95, 3) := by decide +kernel
theorem dX9_pictureOf_42 : decode cX9_pictureOf 42 = .ok (.ifCond .ne 7, 3) := by decide +kernel
theorem dX9_pictureOf_45 : decode cX9_pictureOf 45 = .ok (.iconst 1, 1) := by decide +kernel
theorem dX9_pictureOf_46 : decode cX9_pictureOf 46 = .ok (.goto 4, 3) := by decide +kernel
theorem dX9_pictureOf_49 : decode cX9_pictureOf 49 = .ok (.iconst 0, 1) := by decide +kernel
theorem dX9_pictureOf_50 : decode cX9_pictureOf 50 = .ok (.istore 8, 2) := by decide +kernel
theorem dX9_pictureOf_52 : decode cX9_pictureOf 52 = .ok (.iload 8, 2) := by decide +kernel
theorem dX9_pictureOf_54 : decode cX9_pictureOf 54 = .ok (.iload_n 3, 1) := by decide +kernel
theorem dX9_pictureOf_55 : decode cX9_pictureOf 55 = .ok (.if_icmp .ne 12, 3) := by decide +kernel
theorem dX9_pictureOf_58 : decode cX9_pictureOf 58 = .ok (.aload_n 0, 1) := by decide +kernel
theorem dX9_pictureOf_59 : decode cX9_pictureOf 59 = .ok (.iload 7, 2) := by decide +kernel
theorem dX9_pictureOf_61 : decode cX9_pictureOf 61 = .ok (.invokevirtual 102, 3) := by decide +kernel
theorem dX9_pictureOf_64 : decode cX9_pictureOf 64 = .ok (.goto 5, 3) := by decide +kernel
theorem dX9_pictureOf_67 : decode cX9_pictureOf 67 = .ok (.iload 7, 2) := by decide +kernel
theorem dX9_pictureOf_69 : decode cX9_pictureOf 69 = .ok (.istore 9, 2) := by decide +kernel
theorem dX9_pictureOf_71 : decode cX9_pictureOf 71 = .ok (.aload_n 0, 1) := by decide +kernel
theorem dX9_pictureOf_72 : decode cX9_pictureOf 72 = .ok (.iload 9, 2) := by decide +kernel
theorem dX9_pictureOf_74 : decode cX9_pictureOf 74 = .ok (.aload_n 0, 1) := by decide +kernel
theorem dX9_pictureOf_75 : decode cX9_pictureOf 75 = .ok (.iload_n 1, 1) := by decide +kernel
theorem dX9_pictureOf_76 : decode cX9_pictureOf 76 = .ok (.iconst 3, 1) := by decide +kernel
theorem dX9_pictureOf_77 : decode cX9_pictureOf 77 = .ok (.invokevirtual 95, 3) := by decide +kernel
theorem dX9_pictureOf_80 : decode cX9_pictureOf 80 = .ok (.iconst 4, 1) := by decide +kernel
theorem dX9_pictureOf_81 : decode cX9_pictureOf 81 = .ok (.iadd, 1) := by decide +kernel
theorem dX9_pictureOf_82 : decode cX9_pictureOf 82 = .ok (.iload 5, 2) := by decide +kernel
theorem dX9_pictureOf_84 : decode cX9_pictureOf 84 = .ok (.isub, 1) := by decide +kernel
theorem dX9_pictureOf_85 : decode cX9_pictureOf 85 = .ok (.invokevirtual 113, 3) := by decide +kernel
theorem dX9_pictureOf_88 : decode cX9_pictureOf 88 = .ok (.aload_n 0, 1) := by decide +kernel
theorem dX9_pictureOf_89 : decode cX9_pictureOf 89 = .ok (.iload_n 1, 1) := by decide +kernel
theorem dX9_pictureOf_90 : decode cX9_pictureOf 90 = .ok (.iconst 4, 1) := by decide +kernel
theorem dX9_pictureOf_91 : decode cX9_pictureOf 91 = .ok (.invokevirtual 95, 3) := by decide +kernel
theorem dX9_pictureOf_94 : decode cX9_pictureOf 94 = .ok (.if_icmp .ne 7, 3) := by decide +kernel
theorem dX9_pictureOf_97 : decode cX9_pictureOf 97 = .ok (.iconst 1, 1) := by decide +kernel
theorem dX9_pictureOf_98 : decode cX9_pictureOf 98 = .ok (.goto 4, 3) := by decide +kernel
theorem dX9_pictureOf_101 : decode cX9_pictureOf 101 = .ok (.iconst 0, 1) := by decide +kernel
theorem dX9_pictureOf_102 : decode cX9_pictureOf 102 = .ok (.istore 10, 2) := by decide +kernel
theorem dX9_pictureOf_104 : decode cX9_pictureOf 104 = .ok (.iconst 2, 1) := by decide +kernel
theorem dX9_pictureOf_105 : decode cX9_pictureOf 105 = .ok (.iload 4, 2) := by decide +kernel
theorem dX9_pictureOf_107 : decode cX9_pictureOf 107 = .ok (.imul, 1) := by decide +kernel
theorem dX9_pictureOf_108 : decode cX9_pictureOf 108 = .ok (.iload 10, 2) := by decide +kernel
theorem dX9_pictureOf_110 : decode cX9_pictureOf 110 = .ok (.ifCond .eq 7, 3) := by decide +kernel
theorem dX9_pictureOf_113 : decode cX9_pictureOf 113 = .ok (.iconst 1, 1) := by decide +kernel
theorem dX9_pictureOf_114 : decode cX9_pictureOf 114 = .ok (.goto 4, 3) := by decide +kernel
theorem dX9_pictureOf_117 : decode cX9_pictureOf 117 = .ok (.iconst 0, 1) := by decide +kernel
theorem dX9_pictureOf_118 : decode cX9_pictureOf 118 = .ok (.iadd, 1) := by decide +kernel
theorem dX9_pictureOf_119 : decode cX9_pictureOf 119 = .ok (.istore 4, 2) := by decide +kernel
theorem dX9_pictureOf_121 : decode cX9_pictureOf 121 = .ok (.iinc 6 1, 3) := by decide +kernel
theorem dX9_pictureOf_124 : decode cX9_pictureOf 124 = .ok (.goto (-109), 3) := by decide +kernel
theorem dX9_pictureOf_127 : decode cX9_pictureOf 127 = .ok (.iinc 5 1, 3) := by decide +kernel
theorem dX9_pictureOf_130 : decode cX9_pictureOf 130 = .ok (.goto (-124), 3) := by decide +kernel
theorem dX9_pictureOf_133 : decode cX9_pictureOf 133 = .ok (.iload 4, 2) := by decide +kernel
theorem dX9_pictureOf_135 : decode cX9_pictureOf 135 = .ok (.ireturn, 1) := by decide +kernel
theorem dX9_letterOf_0 : decode cX9_letterOf 0 = .ok (.iconst 0, 1) := by decide +kernel
theorem dX9_letterOf_1 : decode cX9_letterOf 1 = .ok (.istore_n 1, 1) := by decide +kernel
theorem dX9_letterOf_2 : decode cX9_letterOf 2 = .ok (.iload_n 1, 1) := by decide +kernel
theorem dX9_letterOf_3 : decode cX9_letterOf 3 = .ok (.bipush 26, 2) := by decide +kernel
theorem dX9_letterOf_5 : decode cX9_letterOf 5 = .ok (.if_icmp .ge 22, 3) := by decide +kernel
theorem dX9_letterOf_8 : decode cX9_letterOf 8 = .ok (.getstatic 92, 3) := by decide +kernel
theorem dX9_letterOf_11 : decode cX9_letterOf 11 = .ok (.iload_n 1, 1) := by decide +kernel
theorem dX9_letterOf_12 : decode cX9_letterOf 12 = .ok (.iaload, 1) := by decide +kernel
theorem dX9_letterOf_13 : decode cX9_letterOf 13 = .ok (.iload_n 0, 1) := by decide +kernel
theorem dX9_letterOf_14 : decode cX9_letterOf 14 = .ok (.if_icmp .ne 7, 3) := by decide +kernel
theorem dX9_letterOf_17 : decode cX9_letterOf 17 = .ok (.iload_n 1, 1) := by decide +kernel
theorem dX9_letterOf_18 : decode cX9_letterOf 18 = .ok (.iconst 1, 1) := by decide +kernel
theorem dX9_letterOf_19 : decode cX9_letterOf 19 = .ok (.iadd, 1) := by decide +kernel
theorem dX9_letterOf_20 : decode cX9_letterOf 20 = .ok (.ireturn, 1) := by decide +kernel
theorem dX9_letterOf_21 : decode cX9_letterOf 21 = .ok (.iinc 1 1, 3) := by decide +kernel
theorem dX9_letterOf_24 : decode cX9_letterOf 24 = .ok (.goto (-22), 3) := by decide +kernel
theorem dX9_letterOf_27 : decode cX9_letterOf 27 = .ok (.iconst 0, 1) := by decide +kernel
theorem dX9_letterOf_28 : decode cX9_letterOf 28 = .ok (.ireturn, 1) := by decide +kernel
theorem dX9_reversed_0 : decode cX9_reversed 0 = .ok (.iconst 0, 1) := by decide +kernel
theorem dX9_reversed_1 : decode cX9_reversed 1 = .ok (.istore_n 1, 1) := by decide +kernel
theorem dX9_reversed_2 : decode cX9_reversed 2 = .ok (.iconst 0, 1) := by decide +kernel
theorem dX9_reversed_3 : decode cX9_reversed 3 = .ok (.istore_n 2, 1) := by decide +kernel
theorem dX9_reversed_4 : decode cX9_reversed 4 = .ok (.iload_n 2, 1) := by decide +kernel
theorem dX9_reversed_5 : decode cX9_reversed 5 = .ok (.iconst 5, 1) := by decide +kernel
theorem dX9_reversed_6 : decode cX9_reversed 6 = .ok (.if_icmp .ge 40, 3) := by decide +kernel
theorem dX9_reversed_9 : decode cX9_reversed 9 = .ok (.iconst 2, 1) := by decide +kernel
theorem dX9_reversed_10 : decode cX9_reversed 10 = .ok (.istore_n 3, 1) := by decide +kernel
theorem dX9_reversed_11 : decode cX9_reversed 11 = .ok (.iload_n 3, 1) := by decide +kernel
theorem dX9_reversed_12 : decode cX9_reversed 12 = .ok (.ifCond .lt 28, 3) := by decide +kernel
theorem dX9_reversed_15 : decode cX9_reversed 15 = .ok (.iconst 2, 1) := by decide +kernel
theorem dX9_reversed_16 : decode cX9_reversed 16 = .ok (.iload_n 1, 1) := by decide +kernel
theorem dX9_reversed_17 : decode cX9_reversed 17 = .ok (.imul, 1) := by decide +kernel
theorem dX9_reversed_18 : decode cX9_reversed 18 = .ok (.iload_n 0, 1) := by decide +kernel
theorem dX9_reversed_19 : decode cX9_reversed 19 = .ok (.iload_n 2, 1) := by decide +kernel
theorem dX9_reversed_20 : decode cX9_reversed 20 = .ok (.iload_n 3, 1) := by decide +kernel
theorem dX9_reversed_21 : decode cX9_reversed 21 = .ok (.invokestatic 98, 3) := by decide +kernel
theorem dX9_reversed_24 : decode cX9_reversed 24 = .ok (.ifCond .eq 7, 3) := by decide +kernel
theorem dX9_reversed_27 : decode cX9_reversed 27 = .ok (.iconst 1, 1) := by decide +kernel
theorem dX9_reversed_28 : decode cX9_reversed 28 = .ok (.goto 4, 3) := by decide +kernel
theorem dX9_reversed_31 : decode cX9_reversed 31 = .ok (.iconst 0, 1) := by decide +kernel
theorem dX9_reversed_32 : decode cX9_reversed 32 = .ok (.iadd, 1) := by decide +kernel
theorem dX9_reversed_33 : decode cX9_reversed 33 = .ok (.istore_n 1, 1) := by decide +kernel
theorem dX9_reversed_34 : decode cX9_reversed 34 = .ok (.iinc 3 (-1), 3) := by decide +kernel
theorem dX9_reversed_37 : decode cX9_reversed 37 = .ok (.goto (-26), 3) := by decide +kernel
theorem dX9_reversed_40 : decode cX9_reversed 40 = .ok (.iinc 2 1, 3) := by decide +kernel
theorem dX9_reversed_43 : decode cX9_reversed 43 = .ok (.goto (-39), 3) := by decide +kernel
theorem dX9_reversed_46 : decode cX9_reversed 46 = .ok (.iload_n 1, 1) := by decide +kernel
theorem dX9_reversed_47 : decode cX9_reversed 47 = .ok (.ireturn, 1) := by decide +kernel
theorem dX9_readOf_0 : decode cX9_readOf 0 = .ok (.aload_n 0, 1) := by decide +kernel
theorem dX9_readOf_1 : decode cX9_readOf 1 = .ok (.iload_n 1, 1) := by decide +kernel
theorem dX9_readOf_2 : decode cX9_readOf 2 = .ok (.iload_n 2, 1) := by decide +kernel
theorem dX9_readOf_3 : decode cX9_readOf 3 = .ok (.iconst 0, 1) := by decide +kernel
theorem dX9_readOf_4 : decode cX9_readOf 4 = .ok (.invokevirtual 139, 3) := by decide +kernel
theorem dX9_readOf_7 : decode cX9_readOf 7 = .ok (.istore 4, 2) := by decide +kernel
theorem dX9_readOf_9 : decode cX9_readOf 9 = .ok (.iload_n 3, 1) := by decide +kernel
theorem dX9_readOf_10 : decode cX9_readOf 10 = .ok (.ifCond .eq 11, 3) := by decide +kernel
theorem dX9_readOf_13 : decode cX9_readOf 13 = .ok (.iload 4, 2) := by decide +kernel
theorem dX9_readOf_15 : decode cX9_readOf 15 = .ok (.invokestatic 143, 3) := by decide +kernel
theorem dX9_readOf_18 : decode cX9_readOf 18 = .ok (.goto 5, 3) := by decide +kernel
theorem dX9_readOf_21 : decode cX9_readOf 21 = .ok (.iload 4, 2) := by decide +kernel
theorem dX9_readOf_23 : decode cX9_readOf 23 = .ok (.invokestatic 146, 3) := by decide +kernel
theorem dX9_readOf_26 : decode cX9_readOf 26 = .ok (.ireturn, 1) := by decide +kernel
theorem dX9_told_0 : decode cX9_told 0 = .ok (.aload_n 0, 1) := by decide +kernel
theorem dX9_told_1 : decode cX9_told 1 = .ok (.iload_n 1, 1) := by decide +kernel
theorem dX9_told_2 : decode cX9_told 2 = .ok (.iconst 5, 1) := by decide +kernel
theorem dX9_told_3 : decode cX9_told 3 = .ok (.iload_n 2, 1) := by decide +kernel
theorem dX9_told_4 : decode cX9_told 4 = .ok (.iadd, 1) := by decide +kernel
theorem dX9_told_5 : decode cX9_told 5 = .ok (.invokevirtual 95, 3) := by decide +kernel
theorem dX9_told_8 : decode cX9_told 8 = .ok (.iconst 1, 1) := by decide +kernel
theorem dX9_told_9 : decode cX9_told 9 = .ok (.iadd, 1) := by decide +kernel
theorem dX9_told_10 : decode cX9_told 10 = .ok (.ireturn, 1) := by decide +kernel
theorem dX9_lettersThat_0 : decode cX9_lettersThat 0 = .ok (.iconst 0, 1) := by decide +kernel
theorem dX9_lettersThat_1 : decode cX9_lettersThat 1 = .ok (.istore_n 3, 1) := by decide +kernel
theorem dX9_lettersThat_2 : decode cX9_lettersThat 2 = .ok (.iconst 0, 1) := by decide +kernel
theorem dX9_lettersThat_3 : decode cX9_lettersThat 3 = .ok (.istore 4, 2) := by decide +kernel
theorem dX9_lettersThat_5 : decode cX9_lettersThat 5 = .ok (.iload 4, 2) := by decide +kernel
theorem dX9_lettersThat_7 : decode cX9_lettersThat 7 = .ok (.aload_n 0, 1) := by decide +kernel
theorem dX9_lettersThat_8 : decode cX9_lettersThat 8 = .ok (.iload_n 1, 1) := by decide +kernel
theorem dX9_lettersThat_9 : decode cX9_lettersThat 9 = .ok (.iconst 0, 1) := by decide +kernel
theorem dX9_lettersThat_10 : decode cX9_lettersThat 10 = .ok (.invokevirtual 95, 3) := by decide +kernel
theorem dX9_lettersThat_13 : decode cX9_lettersThat 13 = .ok (.if_icmp .ge 75, 3) := by decide +kernel
theorem dX9_lettersThat_16 : decode cX9_lettersThat 16 = .ok (.aload_n 0, 1) := by decide +kernel
theorem dX9_lettersThat_17 : decode cX9_lettersThat 17 = .ok (.iload_n 1, 1) := by decide +kernel
theorem dX9_lettersThat_18 : decode cX9_lettersThat 18 = .ok (.invokevirtual 149, 3) := by decide +kernel
theorem dX9_lettersThat_21 : decode cX9_lettersThat 21 = .ok (.ifCond .eq 67, 3) := by decide +kernel
theorem dX9_lettersThat_24 : decode cX9_lettersThat 24 = .ok (.iload_n 2, 1) := by decide +kernel
theorem dX9_lettersThat_25 : decode cX9_lettersThat 25 = .ok (.iconst 2, 1) := by decide +kernel
theorem dX9_lettersThat_26 : decode cX9_lettersThat 26 = .ok (.if_icmp .ne 17, 3) := by decide +kernel
theorem dX9_lettersThat_29 : decode cX9_lettersThat 29 = .ok (.aload_n 0, 1) := by decide +kernel
theorem dX9_lettersThat_30 : decode cX9_lettersThat 30 = .ok (.iload_n 1, 1) := by decide +kernel
theorem dX9_lettersThat_31 : decode cX9_lettersThat 31 = .ok (.iload 4, 2) := by decide +kernel
theorem dX9_lettersThat_33 : decode cX9_lettersThat 33 = .ok (.iconst 1, 1) := by decide +kernel
theorem dX9_lettersThat_34 : decode cX9_lettersThat 34 = .ok (.invokevirtual 139, 3) := by decide +kernel
theorem dX9_lettersThat_37 : decode cX9_lettersThat 37 = .ok (.invokestatic 146, 3) := by decide +kernel
theorem dX9_lettersThat_40 : decode cX9_lettersThat 40 = .ok (.goto 20, 3) := by decide +kernel
theorem dX9_lettersThat_43 : decode cX9_lettersThat 43 = .ok (.aload_n 0, 1) := by decide +kernel
theorem dX9_lettersThat_44 : decode cX9_lettersThat 44 = .ok (.iload_n 1, 1) := by decide +kernel
theorem dX9_lettersThat_45 : decode cX9_lettersThat 45 = .ok (.iload 4, 2) := by decide +kernel
theorem dX9_lettersThat_47 : decode cX9_lettersThat 47 = .ok (.iload_n 2, 1) := by decide +kernel
theorem dX9_lettersThat_48 : decode cX9_lettersThat 48 = .ok (.iconst 1, 1) := by decide +kernel
theorem dX9_lettersThat_49 : decode cX9_lettersThat 49 = .ok (.if_icmp .ne 7, 3) := by decide +kernel
theorem dX9_lettersThat_52 : decode cX9_lettersThat 52 = .ok (.iconst 1, 1) := by decide +kernel
theorem dX9_lettersThat_53 : decode cX9_lettersThat 53 = .ok (.goto 4, 3) := by decide +kernel
theorem dX9_lettersThat_56 : decode cX9_lettersThat 56 = .ok (.iconst 0, 1) := by decide +kernel
theorem dX9_lettersThat_57 : decode cX9_lettersThat 57 = .ok (.invokevirtual 152, 3) := by decide +kernel
theorem dX9_lettersThat_60 : decode cX9_lettersThat 60 = .ok (.istore 5, 2) := by decide +kernel
theorem dX9_lettersThat_62 : decode cX9_lettersThat 62 = .ok (.iload_n 3, 1) := by decide +kernel
theorem dX9_lettersThat_63 : decode cX9_lettersThat 63 = .ok (.iload 5, 2) := by decide +kernel
theorem dX9_lettersThat_65 : decode cX9_lettersThat 65 = .ok (.aload_n 0, 1) := by decide +kernel
theorem dX9_lettersThat_66 : decode cX9_lettersThat 66 = .ok (.iload_n 1, 1) := by decide +kernel
theorem dX9_lettersThat_67 : decode cX9_lettersThat 67 = .ok (.iload 4, 2) := by decide +kernel
theorem dX9_lettersThat_69 : decode cX9_lettersThat 69 = .ok (.invokevirtual 155, 3) := by decide +kernel
theorem dX9_lettersThat_72 : decode cX9_lettersThat 72 = .ok (.if_icmp .ne 7, 3) := by decide +kernel
theorem dX9_lettersThat_75 : decode cX9_lettersThat 75 = .ok (.iconst 1, 1) := by decide +kernel
theorem dX9_lettersThat_76 : decode cX9_lettersThat 76 = .ok (.goto 4, 3) := by decide +kernel
theorem dX9_lettersThat_79 : decode cX9_lettersThat 79 = .ok (.iconst 0, 1) := by decide +kernel
theorem dX9_lettersThat_80 : decode cX9_lettersThat 80 = .ok (.iadd, 1) := by decide +kernel
theorem dX9_lettersThat_81 : decode cX9_lettersThat 81 = .ok (.istore_n 3, 1) := by decide +kernel
theorem dX9_lettersThat_82 : decode cX9_lettersThat 82 = .ok (.iinc 4 1, 3) := by decide +kernel
theorem dX9_lettersThat_85 : decode cX9_lettersThat 85 = .ok (.goto (-80), 3) := by decide +kernel
theorem dX9_lettersThat_88 : decode cX9_lettersThat 88 = .ok (.iload_n 3, 1) := by decide +kernel
theorem dX9_lettersThat_89 : decode cX9_lettersThat 89 = .ok (.ireturn, 1) := by decide +kernel
theorem dX9_mistakesOf_0 : decode cX9_mistakesOf 0 = .ok (.iconst 0, 1) := by decide +kernel
theorem dX9_mistakesOf_1 : decode cX9_mistakesOf 1 = .ok (.istore_n 2, 1) := by decide +kernel
theorem dX9_mistakesOf_2 : decode cX9_mistakesOf 2 = .ok (.iconst 0, 1) := by decide +kernel
theorem dX9_mistakesOf_3 : decode cX9_mistakesOf 3 = .ok (.istore_n 3, 1) := by decide +kernel
theorem dX9_mistakesOf_4 : decode cX9_mistakesOf 4 = .ok (.iload_n 3, 1) := by decide +kernel
theorem dX9_mistakesOf_5 : decode cX9_mistakesOf 5 = .ok (.iconst 4, 1) := by decide +kernel
theorem dX9_mistakesOf_6 : decode cX9_mistakesOf 6 = .ok (.aload_n 0, 1) := by decide +kernel
theorem dX9_mistakesOf_7 : decode cX9_mistakesOf 7 = .ok (.iload_n 1, 1) := by decide +kernel
theorem dX9_mistakesOf_8 : decode cX9_mistakesOf 8 = .ok (.iconst 0, 1) := by decide +kernel
theorem dX9_mistakesOf_9 : decode cX9_mistakesOf 9 = .ok (.invokevirtual 95, 3) := by decide +kernel
theorem dX9_mistakesOf_12 : decode cX9_mistakesOf 12 = .ok (.imul, 1) := by decide +kernel
theorem dX9_mistakesOf_13 : decode cX9_mistakesOf 13 = .ok (.iconst 2, 1) := by decide +kernel
theorem dX9_mistakesOf_14 : decode cX9_mistakesOf 14 = .ok (.isub, 1) := by decide +kernel
theorem dX9_mistakesOf_15 : decode cX9_mistakesOf 15 = .ok (.if_icmp .gt 78, 3) := by decide +kernel
theorem dX9_mistakesOf_18 : decode cX9_mistakesOf 18 = .ok (.aload_n 0, 1) := by decide +kernel
theorem dX9_mistakesOf_19 : decode cX9_mistakesOf 19 = .ok (.iload_n 1, 1) := by decide +kernel
theorem dX9_mistakesOf_20 : decode cX9_mistakesOf 20 = .ok (.iconst 2, 1) := by decide +kernel
theorem dX9_mistakesOf_21 : decode cX9_mistakesOf 21 = .ok (.invokevirtual 95, 3) := by decide +kernel
theorem dX9_mistakesOf_24 : decode cX9_mistakesOf 24 = .ok (.iload_n 3, 1) := by decide +kernel
theorem dX9_mistakesOf_25 : decode cX9_mistakesOf 25 = .ok (.iadd, 1) := by decide +kernel
theorem dX9_mistakesOf_26 : decode cX9_mistakesOf 26 = .ok (.istore 4, 2) := by decide +kernel
theorem dX9_mistakesOf_28 : decode cX9_mistakesOf 28 = .ok (.iconst 0, 1) := by decide +kernel
theorem dX9_mistakesOf_29 : decode cX9_mistakesOf 29 = .ok (.istore 5, 2) := by decide +kernel
theorem dX9_mistakesOf_31 : decode cX9_mistakesOf 31 = .ok (.iload 5, 2) := by decide +kernel
theorem dX9_mistakesOf_33 : decode cX9_mistakesOf 33 = .ok (.iconst 5, 1) := by decide +kernel
theorem dX9_mistakesOf_34 : decode cX9_mistakesOf 34 = .ok (.if_icmp .ge 53, 3) := by decide +kernel
theorem dX9_mistakesOf_37 : decode cX9_mistakesOf 37 = .ok (.iload_n 2, 1) := by decide +kernel
theorem dX9_mistakesOf_38 : decode cX9_mistakesOf 38 = .ok (.aload_n 0, 1) := by decide +kernel
theorem dX9_mistakesOf_39 : decode cX9_mistakesOf 39 = .ok (.aload_n 0, 1) := by decide +kernel
theorem dX9_mistakesOf_40 : decode cX9_mistakesOf 40 = .ok (.iload_n 1, 1) := by decide +kernel
theorem dX9_mistakesOf_41 : decode cX9_mistakesOf 41 = .ok (.iconst 1, 1) := by decide +kernel
theorem dX9_mistakesOf_42 : decode cX9_mistakesOf 42 = .ok (.invokevirtual 95, 3) := by decide +kernel
theorem dX9_mistakesOf_45 : decode cX9_mistakesOf 45 = .ok (.ifCond .ne 8, 3) := by decide +kernel
theorem dX9_mistakesOf_48 : decode cX9_mistakesOf 48 = .ok (.iload 4, 2) := by decide +kernel
theorem dX9_mistakesOf_50 : decode cX9_mistakesOf 50 = .ok (.goto 9, 3) := by decide +kernel
theorem dX9_mistakesOf_53 : decode cX9_mistakesOf 53 = .ok (.aload_n 0, 1) := by decide +kernel
theorem dX9_mistakesOf_54 : decode cX9_mistakesOf 54 = .ok (.iload 4, 2) := by decide +kernel
theorem dX9_mistakesOf_56 : decode cX9_mistakesOf 56 = .ok (.invokevirtual 102, 3) := by decide +kernel
theorem dX9_mistakesOf_59 : decode cX9_mistakesOf 59 = .ok (.aload_n 0, 1) := by decide +kernel
theorem dX9_mistakesOf_60 : decode cX9_mistakesOf 60 = .ok (.iload_n 1, 1) := by decide +kernel
theorem dX9_mistakesOf_61 : decode cX9_mistakesOf 61 = .ok (.iconst 3, 1) := by decide +kernel
theorem dX9_mistakesOf_62 : decode cX9_mistakesOf 62 = .ok (.invokevirtual 95, 3) := by decide +kernel
theorem dX9_mistakesOf_65 : decode cX9_mistakesOf 65 = .ok (.iload 5, 2) := by decide +kernel
theorem dX9_mistakesOf_67 : decode cX9_mistakesOf 67 = .ok (.iadd, 1) := by decide +kernel
theorem dX9_mistakesOf_68 : decode cX9_mistakesOf 68 = .ok (.invokevirtual 119, 3) := by decide +kernel
theorem dX9_mistakesOf_71 : decode cX9_mistakesOf 71 = .ok (.ifCond .eq 7, 3) := by decide +kernel
theorem dX9_mistakesOf_74 : decode cX9_mistakesOf 74 = .ok (.iconst 1, 1) := by decide +kernel
theorem dX9_mistakesOf_75 : decode cX9_mistakesOf 75 = .ok (.goto 4, 3) := by decide +kernel
theorem dX9_mistakesOf_78 : decode cX9_mistakesOf 78 = .ok (.iconst 0, 1) := by decide +kernel
theorem dX9_mistakesOf_79 : decode cX9_mistakesOf 79 = .ok (.iadd, 1) := by decide +kernel
theorem dX9_mistakesOf_80 : decode cX9_mistakesOf 80 = .ok (.istore_n 2, 1) := by decide +kernel
theorem dX9_mistakesOf_81 : decode cX9_mistakesOf 81 = .ok (.iinc 5 1, 3) := by decide +kernel
theorem dX9_mistakesOf_84 : decode cX9_mistakesOf 84 = .ok (.goto (-53), 3) := by decide +kernel
theorem dX9_mistakesOf_87 : decode cX9_mistakesOf 87 = .ok (.iinc 3 1, 3) := by decide +kernel
theorem dX9_mistakesOf_90 : decode cX9_mistakesOf 90 = .ok (.goto (-86), 3) := by decide +kernel
theorem dX9_mistakesOf_93 : decode cX9_mistakesOf 93 = .ok (.iload_n 2, 1) := by decide +kernel
theorem dX9_mistakesOf_94 : decode cX9_mistakesOf 94 = .ok (.ireturn, 1) := by decide +kernel
theorem dX9_caption_0 : decode cX9_caption 0 = .ok (.aload_n 0, 1) := by decide +kernel
theorem dX9_caption_1 : decode cX9_caption 1 = .ok (.aload_n 0, 1) := by decide +kernel
theorem dX9_caption_2 : decode cX9_caption 2 = .ok (.iload_n 1, 1) := by decide +kernel
theorem dX9_caption_3 : decode cX9_caption 3 = .ok (.invokevirtual 158, 3) := by decide +kernel
theorem dX9_caption_6 : decode cX9_caption 6 = .ok (.iload_n 2, 1) := by decide +kernel
theorem dX9_caption_7 : decode cX9_caption 7 = .ok (.i2l, 1) := by decide +kernel
theorem dX9_caption_8 : decode cX9_caption 8 = .ok (.lconst 0, 1) := by decide +kernel
theorem dX9_caption_9 : decode cX9_caption 9 = .ok (.ldc2_w 161, 3) := by decide +kernel
theorem dX9_caption_12 : decode cX9_caption 12 = .ok (.invokestatic 82, 3) := by decide +kernel
theorem dX9_caption_15 : decode cX9_caption 15 = .ok (.invokevirtual 163, 3) := by decide +kernel
theorem dX9_caption_18 : decode cX9_caption 18 = .ok (.ifCond .ne 5, 3) := by decide +kernel
theorem dX9_caption_21 : decode cX9_caption 21 = .ok (.iconst 0, 1) := by decide +kernel
theorem dX9_caption_22 : decode cX9_caption 22 = .ok (.ireturn, 1) := by decide +kernel
theorem dX9_caption_23 : decode cX9_caption 23 = .ok (.iload_n 2, 1) := by decide +kernel
theorem dX9_caption_24 : decode cX9_caption 24 = .ok (.tableswitch 74 5 9 #[36, 58, 58, 58, 68], 36) := by decide +kernel
theorem dX9_caption_60 : decode cX9_caption 60 = .ok (.iconst 0, 1) := by decide +kernel
theorem dX9_caption_61 : decode cX9_caption 61 = .ok (.iconst 5, 1) := by decide +kernel
theorem dX9_caption_62 : decode cX9_caption 62 = .ok (.aload_n 0, 1) := by decide +kernel
theorem dX9_caption_63 : decode cX9_caption 63 = .ok (.getfield 7, 3) := by decide +kernel
theorem dX9_caption_66 : decode cX9_caption 66 = .ok (.iconst 4, 1) := by decide +kernel
theorem dX9_caption_67 : decode cX9_caption 67 = .ok (.iaload, 1) := by decide +kernel
theorem dX9_caption_68 : decode cX9_caption 68 = .ok (.aload_n 0, 1) := by decide +kernel
theorem dX9_caption_69 : decode cX9_caption 69 = .ok (.iload_n 1, 1) := by decide +kernel
theorem dX9_caption_70 : decode cX9_caption 70 = .ok (.iconst 3, 1) := by decide +kernel
theorem dX9_caption_71 : decode cX9_caption 71 = .ok (.invokevirtual 95, 3) := by decide +kernel
theorem dX9_caption_74 : decode cX9_caption 74 = .ok (.isub, 1) := by decide +kernel
theorem dX9_caption_75 : decode cX9_caption 75 = .ok (.invokestatic 167, 3) := by decide +kernel
theorem dX9_caption_78 : decode cX9_caption 78 = .ok (.invokestatic 172, 3) := by decide +kernel
theorem dX9_caption_81 : decode cX9_caption 81 = .ok (.ireturn, 1) := by decide +kernel
theorem dX9_caption_82 : decode cX9_caption 82 = .ok (.aload_n 0, 1) := by decide +kernel
theorem dX9_caption_83 : decode cX9_caption 83 = .ok (.iload_n 1, 1) := by decide +kernel
theorem dX9_caption_84 : decode cX9_caption 84 = .ok (.iload_n 2, 1) := by decide +kernel
theorem dX9_caption_85 : decode cX9_caption 85 = .ok (.bipush 6, 2) := by decide +kernel
theorem dX9_caption_87 : decode cX9_caption 87 = .ok (.isub, 1) := by decide +kernel
theorem dX9_caption_88 : decode cX9_caption 88 = .ok (.invokevirtual 175, 3) := by decide +kernel
theorem dX9_caption_91 : decode cX9_caption 91 = .ok (.ireturn, 1) := by decide +kernel
theorem dX9_caption_92 : decode cX9_caption 92 = .ok (.aload_n 0, 1) := by decide +kernel
theorem dX9_caption_93 : decode cX9_caption 93 = .ok (.iload_n 1, 1) := by decide +kernel
theorem dX9_caption_94 : decode cX9_caption 94 = .ok (.invokevirtual 178, 3) := by decide +kernel
theorem dX9_caption_97 : decode cX9_caption 97 = .ok (.ireturn, 1) := by decide +kernel
theorem dX9_caption_98 : decode cX9_caption 98 = .ok (.aload_n 0, 1) := by decide +kernel
theorem dX9_caption_99 : decode cX9_caption 99 = .ok (.iload_n 1, 1) := by decide +kernel
theorem dX9_caption_100 : decode cX9_caption 100 = .ok (.iload_n 2, 1) := by decide +kernel
theorem dX9_caption_101 : decode cX9_caption 101 = .ok (.invokevirtual 95, 3) := by decide +kernel
theorem dX9_caption_104 : decode cX9_caption 104 = .ok (.ireturn, 1) := by decide +kernel
theorem dX9_letter_0 : decode cX9_letter 0 = .ok (.aload_n 0, 1) := by decide +kernel
theorem dX9_letter_1 : decode cX9_letter 1 = .ok (.aload_n 0, 1) := by decide +kernel
theorem dX9_letter_2 : decode cX9_letter 2 = .ok (.iload_n 1, 1) := by decide +kernel
theorem dX9_letter_3 : decode cX9_letter 3 = .ok (.invokevirtual 158, 3) := by decide +kernel
theorem dX9_letter_6 : decode cX9_letter 6 = .ok (.ifCond .eq 25, 3) := by decide +kernel
theorem dX9_letter_9 : decode cX9_letter 9 = .ok (.iload_n 2, 1) := by decide +kernel
theorem dX9_letter_10 : decode cX9_letter 10 = .ok (.i2l, 1) := by decide +kernel
theorem dX9_letter_11 : decode cX9_letter 11 = .ok (.lconst 0, 1) := by decide +kernel
theorem dX9_letter_12 : decode cX9_letter 12 = .ok (.aload_n 0, 1) := by decide +kernel
theorem dX9_letter_13 : decode cX9_letter 13 = .ok (.iload_n 1, 1) := by decide +kernel
theorem dX9_letter_14 : decode cX9_letter 14 = .ok (.iconst 0, 1) := by decide +kernel
theorem dX9_letter_15 : decode cX9_letter 15 = .ok (.invokevirtual 95, 3) := by decide +kernel
theorem dX9_letter_18 : decode cX9_letter 18 = .ok (.iconst 1, 1) := by decide +kernel
theorem dX9_letter_19 : decode cX9_letter 19 = .ok (.isub, 1) := by decide +kernel
theorem dX9_letter_20 : decode cX9_letter 20 = .ok (.i2l, 1) := by decide +kernel
theorem dX9_letter_21 : decode cX9_letter 21 = .ok (.invokestatic 82, 3) := by decide +kernel
theorem dX9_letter_24 : decode cX9_letter 24 = .ok (.ifCond .eq 7, 3) := by decide +kernel
theorem dX9_letter_27 : decode cX9_letter 27 = .ok (.iconst 1, 1) := by decide +kernel
theorem dX9_letter_28 : decode cX9_letter 28 = .ok (.goto 4, 3) := by decide +kernel
theorem dX9_letter_31 : decode cX9_letter 31 = .ok (.iconst 0, 1) := by decide +kernel
theorem dX9_letter_32 : decode cX9_letter 32 = .ok (.iload_n 3, 1) := by decide +kernel
theorem dX9_letter_33 : decode cX9_letter 33 = .ok (.i2l, 1) := by decide +kernel
theorem dX9_letter_34 : decode cX9_letter 34 = .ok (.lconst 0, 1) := by decide +kernel
theorem dX9_letter_35 : decode cX9_letter 35 = .ok (.ldc2_w 181, 3) := by decide +kernel
theorem dX9_letter_38 : decode cX9_letter 38 = .ok (.invokestatic 82, 3) := by decide +kernel
theorem dX9_letter_41 : decode cX9_letter 41 = .ok (.invokevirtual 163, 3) := by decide +kernel
theorem dX9_letter_44 : decode cX9_letter 44 = .ok (.ifCond .ne 5, 3) := by decide +kernel
theorem dX9_letter_47 : decode cX9_letter 47 = .ok (.iconst 0, 1) := by decide +kernel
theorem dX9_letter_48 : decode cX9_letter 48 = .ok (.ireturn, 1) := by decide +kernel
theorem dX9_letter_49 : decode cX9_letter 49 = .ok (.iload_n 3, 1) := by decide +kernel
theorem dX9_letter_50 : decode cX9_letter 50 = .ok (.ifCond .ne 10, 3) := by decide +kernel
theorem dX9_letter_53 : decode cX9_letter 53 = .ok (.aload_n 0, 1) := by decide +kernel
theorem dX9_letter_54 : decode cX9_letter 54 = .ok (.iload_n 1, 1) := by decide +kernel
theorem dX9_letter_55 : decode cX9_letter 55 = .ok (.iload_n 2, 1) := by decide +kernel
theorem dX9_letter_56 : decode cX9_letter 56 = .ok (.invokevirtual 155, 3) := by decide +kernel
theorem dX9_letter_59 : decode cX9_letter 59 = .ok (.ireturn, 1) := by decide +kernel
theorem dX9_letter_60 : decode cX9_letter 60 = .ok (.aload_n 0, 1) := by decide +kernel
theorem dX9_letter_61 : decode cX9_letter 61 = .ok (.iload_n 1, 1) := by decide +kernel
theorem dX9_letter_62 : decode cX9_letter 62 = .ok (.invokevirtual 149, 3) := by decide +kernel
theorem dX9_letter_65 : decode cX9_letter 65 = .ok (.ifCond .ne 5, 3) := by decide +kernel
theorem dX9_letter_68 : decode cX9_letter 68 = .ok (.iconst (-1), 1) := by decide +kernel
theorem dX9_letter_69 : decode cX9_letter 69 = .ok (.ireturn, 1) := by decide +kernel
theorem dX9_letter_70 : decode cX9_letter 70 = .ok (.iload_n 3, 1) := by decide +kernel
theorem dX9_letter_71 : decode cX9_letter 71 = .ok (.iconst 3, 1) := by decide +kernel
theorem dX9_letter_72 : decode cX9_letter 72 = .ok (.if_icmp .ne 13, 3) := by decide +kernel
theorem dX9_letter_75 : decode cX9_letter 75 = .ok (.aload_n 0, 1) := by decide +kernel
theorem dX9_letter_76 : decode cX9_letter 76 = .ok (.iload_n 1, 1) := by decide +kernel
theorem dX9_letter_77 : decode cX9_letter 77 = .ok (.iload_n 2, 1) := by decide +kernel
theorem dX9_letter_78 : decode cX9_letter 78 = .ok (.iconst 0, 1) := by decide +kernel
theorem dX9_letter_79 : decode cX9_letter 79 = .ok (.invokevirtual 139, 3) := by decide +kernel
theorem dX9_letter_82 : decode cX9_letter 82 = .ok (.goto 19, 3) := by decide +kernel
theorem dX9_letter_85 : decode cX9_letter 85 = .ok (.aload_n 0, 1) := by decide +kernel
theorem dX9_letter_86 : decode cX9_letter 86 = .ok (.iload_n 1, 1) := by decide +kernel
theorem dX9_letter_87 : decode cX9_letter 87 = .ok (.iload_n 2, 1) := by decide +kernel
theorem dX9_letter_88 : decode cX9_letter 88 = .ok (.iload_n 3, 1) := by decide +kernel
theorem dX9_letter_89 : decode cX9_letter 89 = .ok (.iconst 2, 1) := by decide +kernel
theorem dX9_letter_90 : decode cX9_letter 90 = .ok (.if_icmp .ne 7, 3) := by decide +kernel
theorem dX9_letter_93 : decode cX9_letter 93 = .ok (.iconst 1, 1) := by decide +kernel
theorem dX9_letter_94 : decode cX9_letter 94 = .ok (.goto 4, 3) := by decide +kernel
theorem dX9_letter_97 : decode cX9_letter 97 = .ok (.iconst 0, 1) := by decide +kernel
theorem dX9_letter_98 : decode cX9_letter 98 = .ok (.invokevirtual 152, 3) := by decide +kernel
theorem dX9_letter_101 : decode cX9_letter 101 = .ok (.ireturn, 1) := by decide +kernel
theorem dX9_fits_0 : decode cX9_fits 0 = .ok (.aload_n 0, 1) := by decide +kernel
theorem dX9_fits_1 : decode cX9_fits 1 = .ok (.iconst 0, 1) := by decide +kernel
theorem dX9_fits_2 : decode cX9_fits 2 = .ok (.putfield 58, 3) := by decide +kernel
theorem dX9_fits_5 : decode cX9_fits 5 = .ok (.aload_n 0, 1) := by decide +kernel
theorem dX9_fits_6 : decode cX9_fits 6 = .ok (.getfield 7, 3) := by decide +kernel
theorem dX9_fits_9 : decode cX9_fits 9 = .ok (.iconst 4, 1) := by decide +kernel
theorem dX9_fits_10 : decode cX9_fits 10 = .ok (.iaload, 1) := by decide +kernel
theorem dX9_fits_11 : decode cX9_fits 11 = .ok (.aload_n 0, 1) := by decide +kernel
theorem dX9_fits_12 : decode cX9_fits 12 = .ok (.getfield 7, 3) := by decide +kernel
theorem dX9_fits_15 : decode cX9_fits 15 = .ok (.iconst 1, 1) := by decide +kernel
theorem dX9_fits_16 : decode cX9_fits 16 = .ok (.iaload, 1) := by decide +kernel
theorem dX9_fits_17 : decode cX9_fits 17 = .ok (.if_icmp .ne 7, 3) := by decide +kernel
theorem dX9_fits_20 : decode cX9_fits 20 = .ok (.iconst 1, 1) := by decide +kernel
theorem dX9_fits_21 : decode cX9_fits 21 = .ok (.goto 4, 3) := by decide +kernel
theorem dX9_fits_24 : decode cX9_fits 24 = .ok (.iconst 0, 1) := by decide +kernel
theorem dX9_fits_25 : decode cX9_fits 25 = .ok (.istore_n 1, 1) := by decide +kernel
theorem dX9_fits_26 : decode cX9_fits 26 = .ok (.iconst 0, 1) := by decide +kernel
theorem dX9_fits_27 : decode cX9_fits 27 = .ok (.istore_n 2, 1) := by decide +kernel
theorem dX9_fits_28 : decode cX9_fits 28 = .ok (.iload_n 2, 1) := by decide +kernel
theorem dX9_fits_29 : decode cX9_fits 29 = .ok (.aload_n 0, 1) := by decide +kernel
theorem dX9_fits_30 : decode cX9_fits 30 = .ok (.getfield 7, 3) := by decide +kernel
theorem dX9_fits_33 : decode cX9_fits 33 = .ok (.iconst 5, 1) := by decide +kernel
theorem dX9_fits_34 : decode cX9_fits 34 = .ok (.iaload, 1) := by decide +kernel
theorem dX9_fits_35 : decode cX9_fits 35 = .ok (.if_icmp .ge 34, 3) := by decide +kernel
theorem dX9_fits_38 : decode cX9_fits 38 = .ok (.iload_n 1, 1) := by decide +kernel
theorem dX9_fits_39 : decode cX9_fits 39 = .ok (.ifCond .eq 22, 3) := by decide +kernel
theorem dX9_fits_42 : decode cX9_fits 42 = .ok (.aload_n 0, 1) := by decide +kernel
theorem dX9_fits_43 : decode cX9_fits 43 = .ok (.iload_n 2, 1) := by decide +kernel
theorem dX9_fits_44 : decode cX9_fits 44 = .ok (.iconst 0, 1) := by decide +kernel
theorem dX9_fits_45 : decode cX9_fits 45 = .ok (.invokevirtual 175, 3) := by decide +kernel
theorem dX9_fits_48 : decode cX9_fits 48 = .ok (.aload_n 0, 1) := by decide +kernel
theorem dX9_fits_49 : decode cX9_fits 49 = .ok (.iload_n 2, 1) := by decide +kernel
theorem dX9_fits_50 : decode cX9_fits 50 = .ok (.iconst 0, 1) := by decide +kernel
theorem dX9_fits_51 : decode cX9_fits 51 = .ok (.invokevirtual 95, 3) := by decide +kernel
theorem dX9_fits_54 : decode cX9_fits 54 = .ok (.if_icmp .ne 7, 3) := by decide +kernel
theorem dX9_fits_57 : decode cX9_fits 57 = .ok (.iconst 1, 1) := by decide +kernel
theorem dX9_fits_58 : decode cX9_fits 58 = .ok (.goto 4, 3) := by decide +kernel
theorem dX9_fits_61 : decode cX9_fits 61 = .ok (.iconst 0, 1) := by decide +kernel
theorem dX9_fits_62 : decode cX9_fits 62 = .ok (.istore_n 1, 1) := by decide +kernel
theorem dX9_fits_63 : decode cX9_fits 63 = .ok (.iinc 2 1, 3) := by decide +kernel
theorem dX9_fits_66 : decode cX9_fits 66 = .ok (.goto (-38), 3) := by decide +kernel
theorem dX9_fits_69 : decode cX9_fits 69 = .ok (.iload_n 1, 1) := by decide +kernel
theorem dX9_fits_70 : decode cX9_fits 70 = .ok (.ireturn, 1) := by decide +kernel
theorem dX9_isAlike_0 : decode cX9_isAlike 0 = .ok (.aload_n 0, 1) := by decide +kernel
theorem dX9_isAlike_1 : decode cX9_isAlike 1 = .ok (.aload_n 0, 1) := by decide +kernel
theorem dX9_isAlike_2 : decode cX9_isAlike 2 = .ok (.iload_n 1, 1) := by decide +kernel
theorem dX9_isAlike_3 : decode cX9_isAlike 3 = .ok (.invokevirtual 158, 3) := by decide +kernel
theorem dX9_isAlike_6 : decode cX9_isAlike 6 = .ok (.invokevirtual 74, 3) := by decide +kernel
theorem dX9_isAlike_9 : decode cX9_isAlike 9 = .ok (.ifCond .ne 5, 3) := by decide +kernel
theorem dX9_isAlike_12 : decode cX9_isAlike 12 = .ok (.iconst 0, 1) := by decide +kernel
theorem dX9_isAlike_13 : decode cX9_isAlike 13 = .ok (.ireturn, 1) := by decide +kernel
theorem dX9_isAlike_14 : decode cX9_isAlike 14 = .ok (.iconst 4, 1) := by decide +kernel
theorem dX9_isAlike_15 : decode cX9_isAlike 15 = .ok (.aload_n 0, 1) := by decide +kernel
theorem dX9_isAlike_16 : decode cX9_isAlike 16 = .ok (.iload_n 1, 1) := by decide +kernel
theorem dX9_isAlike_17 : decode cX9_isAlike 17 = .ok (.iconst 0, 1) := by decide +kernel
theorem dX9_isAlike_18 : decode cX9_isAlike 18 = .ok (.invokevirtual 95, 3) := by decide +kernel
theorem dX9_isAlike_21 : decode cX9_isAlike 21 = .ok (.imul, 1) := by decide +kernel
theorem dX9_isAlike_22 : decode cX9_isAlike 22 = .ok (.iconst 2, 1) := by decide +kernel
theorem dX9_isAlike_23 : decode cX9_isAlike 23 = .ok (.isub, 1) := by decide +kernel
theorem dX9_isAlike_24 : decode cX9_isAlike 24 = .ok (.istore_n 2, 1) := by decide +kernel
theorem dX9_isAlike_25 : decode cX9_isAlike 25 = .ok (.iconst 1, 1) := by decide +kernel
theorem dX9_isAlike_26 : decode cX9_isAlike 26 = .ok (.istore_n 3, 1) := by decide +kernel
theorem dX9_isAlike_27 : decode cX9_isAlike 27 = .ok (.iconst 0, 1) := by decide +kernel
theorem dX9_isAlike_28 : decode cX9_isAlike 28 = .ok (.istore 4, 2) := by decide +kernel
theorem dX9_isAlike_30 : decode cX9_isAlike 30 = .ok (.iload 4, 2) := by decide +kernel
theorem dX9_isAlike_32 : decode cX9_isAlike 32 = .ok (.iload_n 2, 1) := by decide +kernel
theorem dX9_isAlike_33 : decode cX9_isAlike 33 = .ok (.if_icmp .gt 57, 3) := by decide +kernel
theorem dX9_isAlike_36 : decode cX9_isAlike 36 = .ok (.iconst 0, 1) := by decide +kernel
theorem dX9_isAlike_37 : decode cX9_isAlike 37 = .ok (.istore 5, 2) := by decide +kernel
theorem dX9_isAlike_39 : decode cX9_isAlike 39 = .ok (.iload 5, 2) := by decide +kernel
theorem dX9_isAlike_41 : decode cX9_isAlike 41 = .ok (.iconst 5, 1) := by decide +kernel
theorem dX9_isAlike_42 : decode cX9_isAlike 42 = .ok (.if_icmp .ge 42, 3) := by decide +kernel
theorem dX9_isAlike_45 : decode cX9_isAlike 45 = .ok (.iload_n 3, 1) := by decide +kernel
theorem dX9_isAlike_46 : decode cX9_isAlike 46 = .ok (.ifCond .eq 30, 3) := by decide +kernel
theorem dX9_isAlike_49 : decode cX9_isAlike 49 = .ok (.aload_n 0, 1) := by decide +kernel
theorem dX9_isAlike_50 : decode cX9_isAlike 50 = .ok (.iload_n 1, 1) := by decide +kernel
theorem dX9_isAlike_51 : decode cX9_isAlike 51 = .ok (.iload 4, 2) := by decide +kernel
theorem dX9_isAlike_53 : decode cX9_isAlike 53 = .ok (.iload 5, 2) := by decide +kernel
theorem dX9_isAlike_55 : decode cX9_isAlike 55 = .ok (.invokevirtual 108, 3) := by decide +kernel
theorem dX9_isAlike_58 : decode cX9_isAlike 58 = .ok (.aload_n 0, 1) := by decide +kernel
theorem dX9_isAlike_59 : decode cX9_isAlike 59 = .ok (.iload_n 1, 1) := by decide +kernel
theorem dX9_isAlike_60 : decode cX9_isAlike 60 = .ok (.iload_n 2, 1) := by decide +kernel
theorem dX9_isAlike_61 : decode cX9_isAlike 61 = .ok (.iload 4, 2) := by decide +kernel
theorem dX9_isAlike_63 : decode cX9_isAlike 63 = .ok (.isub, 1) := by decide +kernel
theorem dX9_isAlike_64 : decode cX9_isAlike 64 = .ok (.iload 5, 2) := by decide +kernel
theorem dX9_isAlike_66 : decode cX9_isAlike 66 = .ok (.invokevirtual 108, 3) := by decide +kernel
theorem dX9_isAlike_69 : decode cX9_isAlike 69 = .ok (.if_icmp .ne 7, 3) := by decide +kernel
theorem dX9_isAlike_72 : decode cX9_isAlike 72 = .ok (.iconst 1, 1) := by decide +kernel
theorem dX9_isAlike_73 : decode cX9_isAlike 73 = .ok (.goto 4, 3) := by decide +kernel
theorem dX9_isAlike_76 : decode cX9_isAlike 76 = .ok (.iconst 0, 1) := by decide +kernel
theorem dX9_isAlike_77 : decode cX9_isAlike 77 = .ok (.istore_n 3, 1) := by decide +kernel
theorem dX9_isAlike_78 : decode cX9_isAlike 78 = .ok (.iinc 5 1, 3) := by decide +kernel
theorem dX9_isAlike_81 : decode cX9_isAlike 81 = .ok (.goto (-42), 3) := by decide +kernel
theorem dX9_isAlike_84 : decode cX9_isAlike 84 = .ok (.iinc 4 1, 3) := by decide +kernel
theorem dX9_isAlike_87 : decode cX9_isAlike 87 = .ok (.goto (-57), 3) := by decide +kernel
theorem dX9_isAlike_90 : decode cX9_isAlike 90 = .ok (.iload_n 3, 1) := by decide +kernel
theorem dX9_isAlike_91 : decode cX9_isAlike 91 = .ok (.ireturn, 1) := by decide +kernel
theorem dX9_cellsOpen_0 : decode cX9_cellsOpen 0 = .ok (.iconst 0, 1) := by decide +kernel
theorem dX9_cellsOpen_1 : decode cX9_cellsOpen 1 = .ok (.istore_n 1, 1) := by decide +kernel
theorem dX9_cellsOpen_2 : decode cX9_cellsOpen 2 = .ok (.iconst 0, 1) := by decide +kernel
theorem dX9_cellsOpen_3 : decode cX9_cellsOpen 3 = .ok (.istore_n 2, 1) := by decide +kernel
theorem dX9_cellsOpen_4 : decode cX9_cellsOpen 4 = .ok (.iload_n 2, 1) := by decide +kernel
theorem dX9_cellsOpen_5 : decode cX9_cellsOpen 5 = .ok (.aload_n 0, 1) := by decide +kernel
theorem dX9_cellsOpen_6 : decode cX9_cellsOpen 6 = .ok (.getfield 7, 3) := by decide +kernel
theorem dX9_cellsOpen_9 : decode cX9_cellsOpen 9 = .ok (.iconst 0, 1) := by decide +kernel
theorem dX9_cellsOpen_10 : decode cX9_cellsOpen 10 = .ok (.iaload, 1) := by decide +kernel
theorem dX9_cellsOpen_11 : decode cX9_cellsOpen 11 = .ok (.if_icmp .ge 47, 3) := by decide +kernel
theorem dX9_cellsOpen_14 : decode cX9_cellsOpen 14 = .ok (.aload_n 0, 1) := by decide +kernel
theorem dX9_cellsOpen_15 : decode cX9_cellsOpen 15 = .ok (.getfield 7, 3) := by decide +kernel
theorem dX9_cellsOpen_18 : decode cX9_cellsOpen 18 = .ok (.iconst 4, 1) := by decide +kernel
theorem dX9_cellsOpen_19 : decode cX9_cellsOpen 19 = .ok (.iaload, 1) := by decide +kernel
theorem dX9_cellsOpen_20 : decode cX9_cellsOpen 20 = .ok (.aload_n 0, 1) := by decide +kernel
theorem dX9_cellsOpen_21 : decode cX9_cellsOpen 21 = .ok (.getfield 7, 3) := by decide +kernel
theorem dX9_cellsOpen_24 : decode cX9_cellsOpen 24 = .ok (.iconst 1, 1) := by decide +kernel
theorem dX9_cellsOpen_25 : decode cX9_cellsOpen 25 = .ok (.iaload, 1) := by decide +kernel
theorem dX9_cellsOpen_26 : decode cX9_cellsOpen 26 = .ok (.if_icmp .ge 32, 3) := by decide +kernel
theorem dX9_cellsOpen_29 : decode cX9_cellsOpen 29 = .ok (.iload_n 1, 1) := by decide +kernel
theorem dX9_cellsOpen_30 : decode cX9_cellsOpen 30 = .ok (.aload_n 0, 1) := by decide +kernel
theorem dX9_cellsOpen_31 : decode cX9_cellsOpen 31 = .ok (.iload_n 2, 1) := by decide +kernel
theorem dX9_cellsOpen_32 : decode cX9_cellsOpen 32 = .ok (.aload_n 0, 1) := by decide +kernel
theorem dX9_cellsOpen_33 : decode cX9_cellsOpen 33 = .ok (.getfield 7, 3) := by decide +kernel
theorem dX9_cellsOpen_36 : decode cX9_cellsOpen 36 = .ok (.iconst 4, 1) := by decide +kernel
theorem dX9_cellsOpen_37 : decode cX9_cellsOpen 37 = .ok (.iaload, 1) := by decide +kernel
theorem dX9_cellsOpen_38 : decode cX9_cellsOpen 38 = .ok (.invokevirtual 113, 3) := by decide +kernel
theorem dX9_cellsOpen_41 : decode cX9_cellsOpen 41 = .ok (.iconst (-1), 1) := by decide +kernel
theorem dX9_cellsOpen_42 : decode cX9_cellsOpen 42 = .ok (.if_icmp .ne 7, 3) := by decide +kernel
theorem dX9_cellsOpen_45 : decode cX9_cellsOpen 45 = .ok (.iconst 0, 1) := by decide +kernel
theorem dX9_cellsOpen_46 : decode cX9_cellsOpen 46 = .ok (.goto 4, 3) := by decide +kernel
theorem dX9_cellsOpen_49 : decode cX9_cellsOpen 49 = .ok (.iconst 1, 1) := by decide +kernel
theorem dX9_cellsOpen_50 : decode cX9_cellsOpen 50 = .ok (.iadd, 1) := by decide +kernel
theorem dX9_cellsOpen_51 : decode cX9_cellsOpen 51 = .ok (.istore_n 1, 1) := by decide +kernel
theorem dX9_cellsOpen_52 : decode cX9_cellsOpen 52 = .ok (.iinc 2 1, 3) := by decide +kernel
theorem dX9_cellsOpen_55 : decode cX9_cellsOpen 55 = .ok (.goto (-51), 3) := by decide +kernel
theorem dX9_cellsOpen_58 : decode cX9_cellsOpen 58 = .ok (.iload_n 1, 1) := by decide +kernel
theorem dX9_cellsOpen_59 : decode cX9_cellsOpen 59 = .ok (.ireturn, 1) := by decide +kernel
theorem dX9_count_0 : decode cX9_count 0 = .ok (.aload_n 0, 1) := by decide +kernel
theorem dX9_count_1 : decode cX9_count 1 = .ok (.iload_n 1, 1) := by decide +kernel
theorem dX9_count_2 : decode cX9_count 2 = .ok (.i2l, 1) := by decide +kernel
theorem dX9_count_3 : decode cX9_count 3 = .ok (.lconst 0, 1) := by decide +kernel
theorem dX9_count_4 : decode cX9_count 4 = .ok (.ldc2_w 183, 3) := by decide +kernel
theorem dX9_count_7 : decode cX9_count 7 = .ok (.invokestatic 82, 3) := by decide +kernel
theorem dX9_count_10 : decode cX9_count 10 = .ok (.invokevirtual 74, 3) := by decide +kernel
theorem dX9_count_13 : decode cX9_count 13 = .ok (.ifCond .ne 5, 3) := by decide +kernel
theorem dX9_count_16 : decode cX9_count 16 = .ok (.iconst 0, 1) := by decide +kernel
theorem dX9_count_17 : decode cX9_count 17 = .ok (.ireturn, 1) := by decide +kernel
theorem dX9_count_18 : decode cX9_count 18 = .ok (.iload_n 1, 1) := by decide +kernel
theorem dX9_count_19 : decode cX9_count 19 = .ok (.tableswitch 116 0 7 #[45, 45, 52, 59, 64, 71, 78, 85], 45) := by decide +kernel
theorem dX9_count_64 : decode cX9_count 64 = .ok (.aload_n 0, 1) := by decide +kernel
theorem dX9_count_65 : decode cX9_count 65 = .ok (.getfield 7, 3) := by decide +kernel
theorem dX9_count_68 : decode cX9_count 68 = .ok (.iload_n 1, 1) := by decide +kernel
theorem dX9_count_69 : decode cX9_count 69 = .ok (.iaload, 1) := by decide +kernel
theorem dX9_count_70 : decode cX9_count 70 = .ok (.ireturn, 1) := by decide +kernel
theorem dX9_count_71 : decode cX9_count 71 = .ok (.aload_n 0, 1) := by decide +kernel
theorem dX9_count_72 : decode cX9_count 72 = .ok (.getfield 7, 3) := by decide +kernel
theorem dX9_count_75 : decode cX9_count 75 = .ok (.iconst 4, 1) := by decide +kernel
theorem dX9_count_76 : decode cX9_count 76 = .ok (.iaload, 1) := by decide +kernel
theorem dX9_count_77 : decode cX9_count 77 = .ok (.ireturn, 1) := by decide +kernel
theorem dX9_count_78 : decode cX9_count 78 = .ok (.aload_n 0, 1) := by decide +kernel
theorem dX9_count_79 : decode cX9_count 79 = .ok (.invokevirtual 185, 3) := by decide +kernel
theorem dX9_count_82 : decode cX9_count 82 = .ok (.ireturn, 1) := by decide +kernel
theorem dX9_count_83 : decode cX9_count 83 = .ok (.aload_n 0, 1) := by decide +kernel
theorem dX9_count_84 : decode cX9_count 84 = .ok (.getfield 7, 3) := by decide +kernel
theorem dX9_count_87 : decode cX9_count 87 = .ok (.iconst 5, 1) := by decide +kernel
theorem dX9_count_88 : decode cX9_count 88 = .ok (.iaload, 1) := by decide +kernel
theorem dX9_count_89 : decode cX9_count 89 = .ok (.ireturn, 1) := by decide +kernel
theorem dX9_count_90 : decode cX9_count 90 = .ok (.aload_n 0, 1) := by decide +kernel
theorem dX9_count_91 : decode cX9_count 91 = .ok (.getfield 7, 3) := by decide +kernel
theorem dX9_count_94 : decode cX9_count 94 = .ok (.iconst 2, 1) := by decide +kernel
theorem dX9_count_95 : decode cX9_count 95 = .ok (.iaload, 1) := by decide +kernel
theorem dX9_count_96 : decode cX9_count 96 = .ok (.ireturn, 1) := by decide +kernel
theorem dX9_count_97 : decode cX9_count 97 = .ok (.aload_n 0, 1) := by decide +kernel
theorem dX9_count_98 : decode cX9_count 98 = .ok (.getfield 7, 3) := by decide +kernel
theorem dX9_count_101 : decode cX9_count 101 = .ok (.iconst 3, 1) := by decide +kernel
theorem dX9_count_102 : decode cX9_count 102 = .ok (.iaload, 1) := by decide +kernel
theorem dX9_count_103 : decode cX9_count 103 = .ok (.ireturn, 1) := by decide +kernel
theorem dX9_count_104 : decode cX9_count 104 = .ok (.iconst 0, 1) := by decide +kernel
theorem dX9_count_105 : decode cX9_count 105 = .ok (.istore_n 2, 1) := by decide +kernel
theorem dX9_count_106 : decode cX9_count 106 = .ok (.iconst 0, 1) := by decide +kernel
theorem dX9_count_107 : decode cX9_count 107 = .ok (.istore_n 3, 1) := by decide +kernel
theorem dX9_count_108 : decode cX9_count 108 = .ok (.iload_n 3, 1) := by decide +kernel
theorem dX9_count_109 : decode cX9_count 109 = .ok (.aload_n 0, 1) := by decide +kernel
theorem dX9_count_110 : decode cX9_count 110 = .ok (.getfield 7, 3) := by decide +kernel
theorem dX9_count_113 : decode cX9_count 113 = .ok (.iconst 5, 1) := by decide +kernel
theorem dX9_count_114 : decode cX9_count 114 = .ok (.iaload, 1) := by decide +kernel
theorem dX9_count_115 : decode cX9_count 115 = .ok (.if_icmp .ge 18, 3) := by decide +kernel
theorem dX9_count_118 : decode cX9_count 118 = .ok (.iload_n 2, 1) := by decide +kernel
theorem dX9_count_119 : decode cX9_count 119 = .ok (.aload_n 0, 1) := by decide +kernel
theorem dX9_count_120 : decode cX9_count 120 = .ok (.iload_n 3, 1) := by decide +kernel
theorem dX9_count_121 : decode cX9_count 121 = .ok (.iconst 0, 1) := by decide +kernel
theorem dX9_count_122 : decode cX9_count 122 = .ok (.invokevirtual 95, 3) := by decide +kernel
theorem dX9_count_125 : decode cX9_count 125 = .ok (.iadd, 1) := by decide +kernel
theorem dX9_count_126 : decode cX9_count 126 = .ok (.istore_n 2, 1) := by decide +kernel
theorem dX9_count_127 : decode cX9_count 127 = .ok (.iinc 3 1, 3) := by decide +kernel
theorem dX9_count_130 : decode cX9_count 130 = .ok (.goto (-22), 3) := by decide +kernel
theorem dX9_count_133 : decode cX9_count 133 = .ok (.iload_n 2, 1) := by decide +kernel
theorem dX9_count_134 : decode cX9_count 134 = .ok (.ireturn, 1) := by decide +kernel
theorem dX9_count_135 : decode cX9_count 135 = .ok (.aload_n 0, 1) := by decide +kernel
theorem dX9_count_136 : decode cX9_count 136 = .ok (.getfield 61, 3) := by decide +kernel
theorem dX9_count_139 : decode cX9_count 139 = .ok (.ireturn, 1) := by decide +kernel
theorem dX9_mayCell_0 : decode cX9_mayCell 0 = .ok (.aload_n 0, 1) := by decide +kernel
theorem dX9_mayCell_1 : decode cX9_mayCell 1 = .ok (.iload_n 1, 1) := by decide +kernel
theorem dX9_mayCell_2 : decode cX9_mayCell 2 = .ok (.i2l, 1) := by decide +kernel
theorem dX9_mayCell_3 : decode cX9_mayCell 3 = .ok (.lconst 0, 1) := by decide +kernel
theorem dX9_mayCell_4 : decode cX9_mayCell 4 = .ok (.aload_n 0, 1) := by decide +kernel
theorem dX9_mayCell_5 : decode cX9_mayCell 5 = .ok (.getfield 7, 3) := by decide +kernel
theorem dX9_mayCell_8 : decode cX9_mayCell 8 = .ok (.iconst 0, 1) := by decide +kernel
theorem dX9_mayCell_9 : decode cX9_mayCell 9 = .ok (.iaload, 1) := by decide +kernel
theorem dX9_mayCell_10 : decode cX9_mayCell 10 = .ok (.iconst 1, 1) := by decide +kernel
theorem dX9_mayCell_11 : decode cX9_mayCell 11 = .ok (.isub, 1) := by decide +kernel
theorem dX9_mayCell_12 : decode cX9_mayCell 12 = .ok (.i2l, 1) := by decide +kernel
theorem dX9_mayCell_13 : decode cX9_mayCell 13 = .ok (.invokestatic 82, 3) := by decide +kernel
theorem dX9_mayCell_16 : decode cX9_mayCell 16 = .ok (.ifCond .eq 15, 3) := by decide +kernel
theorem dX9_mayCell_19 : decode cX9_mayCell 19 = .ok (.aload_n 0, 1) := by decide +kernel
theorem dX9_mayCell_20 : decode cX9_mayCell 20 = .ok (.iload_n 2, 1) := by decide +kernel
theorem dX9_mayCell_21 : decode cX9_mayCell 21 = .ok (.invokevirtual 189, 3) := by decide +kernel
theorem dX9_mayCell_24 : decode cX9_mayCell 24 = .ok (.ifCond .eq 7, 3) := by decide +kernel
theorem dX9_mayCell_27 : decode cX9_mayCell 27 = .ok (.iconst 1, 1) := by decide +kernel
theorem dX9_mayCell_28 : decode cX9_mayCell 28 = .ok (.goto 4, 3) := by decide +kernel
theorem dX9_mayCell_31 : decode cX9_mayCell 31 = .ok (.iconst 0, 1) := by decide +kernel
theorem dX9_mayCell_32 : decode cX9_mayCell 32 = .ok (.invokevirtual 74, 3) := by decide +kernel
theorem dX9_mayCell_35 : decode cX9_mayCell 35 = .ok (.ireturn, 1) := by decide +kernel
theorem dX9_cell_0 : decode cX9_cell 0 = .ok (.aload_n 0, 1) := by decide +kernel
theorem dX9_cell_1 : decode cX9_cell 1 = .ok (.iload_n 1, 1) := by decide +kernel
theorem dX9_cell_2 : decode cX9_cell 2 = .ok (.iload_n 2, 1) := by decide +kernel
theorem dX9_cell_3 : decode cX9_cell 3 = .ok (.invokevirtual 192, 3) := by decide +kernel
theorem dX9_cell_6 : decode cX9_cell 6 = .ok (.ifCond .eq 12, 3) := by decide +kernel
theorem dX9_cell_9 : decode cX9_cell 9 = .ok (.aload_n 0, 1) := by decide +kernel
theorem dX9_cell_10 : decode cX9_cell 10 = .ok (.iload_n 1, 1) := by decide +kernel
theorem dX9_cell_11 : decode cX9_cell 11 = .ok (.iload_n 2, 1) := by decide +kernel
theorem dX9_cell_12 : decode cX9_cell 12 = .ok (.invokevirtual 113, 3) := by decide +kernel
theorem dX9_cell_15 : decode cX9_cell 15 = .ok (.goto 4, 3) := by decide +kernel
theorem dX9_cell_18 : decode cX9_cell 18 = .ok (.iconst 0, 1) := by decide +kernel
theorem dX9_cell_19 : decode cX9_cell 19 = .ok (.ireturn, 1) := by decide +kernel
theorem dX9_design_0 : decode cX9_design 0 = .ok (.aload_n 0, 1) := by decide +kernel
theorem dX9_design_1 : decode cX9_design 1 = .ok (.iload_n 1, 1) := by decide +kernel
theorem dX9_design_2 : decode cX9_design 2 = .ok (.iload_n 2, 1) := by decide +kernel
theorem dX9_design_3 : decode cX9_design 3 = .ok (.invokevirtual 192, 3) := by decide +kernel
theorem dX9_design_6 : decode cX9_design 6 = .ok (.ifCond .eq 12, 3) := by decide +kernel
theorem dX9_design_9 : decode cX9_design 9 = .ok (.aload_n 0, 1) := by decide +kernel
theorem dX9_design_10 : decode cX9_design 10 = .ok (.iload_n 1, 1) := by decide +kernel
theorem dX9_design_11 : decode cX9_design 11 = .ok (.iload_n 2, 1) := by decide +kernel
theorem dX9_design_12 : decode cX9_design 12 = .ok (.invokevirtual 116, 3) := by decide +kernel
theorem dX9_design_15 : decode cX9_design 15 = .ok (.goto 4, 3) := by decide +kernel
theorem dX9_design_18 : decode cX9_design 18 = .ok (.iconst 0, 1) := by decide +kernel
theorem dX9_design_19 : decode cX9_design 19 = .ok (.ireturn, 1) := by decide +kernel
theorem dX9_cellsOf_0 : decode cX9_cellsOf 0 = .ok (.iconst 0, 1) := by decide +kernel
theorem dX9_cellsOf_1 : decode cX9_cellsOf 1 = .ok (.istore_n 3, 1) := by decide +kernel
theorem dX9_cellsOf_2 : decode cX9_cellsOf 2 = .ok (.iconst 0, 1) := by decide +kernel
theorem dX9_cellsOf_3 : decode cX9_cellsOf 3 = .ok (.istore 4, 2) := by decide +kernel
theorem dX9_cellsOf_5 : decode cX9_cellsOf 5 = .ok (.iload 4, 2) := by decide +kernel
theorem dX9_cellsOf_7 : decode cX9_cellsOf 7 = .ok (.aload_n 0, 1) := by decide +kernel
theorem dX9_cellsOf_8 : decode cX9_cellsOf 8 = .ok (.getfield 7, 3) := by decide +kernel
theorem dX9_cellsOf_11 : decode cX9_cellsOf 11 = .ok (.iconst 1, 1) := by decide +kernel
theorem dX9_cellsOf_12 : decode cX9_cellsOf 12 = .ok (.iaload, 1) := by decide +kernel
theorem dX9_cellsOf_13 : decode cX9_cellsOf 13 = .ok (.if_icmp .ge 143, 3) := by decide +kernel
theorem dX9_cellsOf_16 : decode cX9_cellsOf 16 = .ok (.iconst 0, 1) := by decide +kernel
theorem dX9_cellsOf_17 : decode cX9_cellsOf 17 = .ok (.istore 5, 2) := by decide +kernel
theorem dX9_cellsOf_19 : decode cX9_cellsOf 19 = .ok (.iload 5, 2) := by decide +kernel
theorem dX9_cellsOf_21 : decode cX9_cellsOf 21 = .ok (.aload_n 0, 1) := by decide +kernel
theorem dX9_cellsOf_22 : decode cX9_cellsOf 22 = .ok (.getfield 7, 3) := by decide +kernel
theorem dX9_cellsOf_25 : decode cX9_cellsOf 25 = .ok (.iconst 0, 1) := by decide +kernel
theorem dX9_cellsOf_26 : decode cX9_cellsOf 26 = .ok (.iaload, 1) := by decide +kernel
theorem dX9_cellsOf_27 : decode cX9_cellsOf 27 = .ok (.if_icmp .ge 123, 3) := by decide +kernel
theorem dX9_cellsOf_30 : decode cX9_cellsOf 30 = .ok (.iload_n 2, 1) := by decide +kernel
theorem dX9_cellsOf_31 : decode cX9_cellsOf 31 = .ok (.iconst 1, 1) := by decide +kernel
theorem dX9_cellsOf_32 : decode cX9_cellsOf 32 = .ok (.if_icmp .ne 36, 3) := by decide +kernel
theorem dX9_cellsOf_35 : decode cX9_cellsOf 35 = .ok (.iload 4, 2) := by decide +kernel
theorem dX9_cellsOf_37 : decode cX9_cellsOf 37 = .ok (.aload_n 0, 1) := by decide +kernel
theorem dX9_cellsOf_38 : decode cX9_cellsOf 38 = .ok (.getfield 7, 3) := by decide +kernel
theorem dX9_cellsOf_41 : decode cX9_cellsOf 41 = .ok (.iconst 4, 1) := by decide +kernel
theorem dX9_cellsOf_42 : decode cX9_cellsOf 42 = .ok (.iaload, 1) := by decide +kernel
theorem dX9_cellsOf_43 : decode cX9_cellsOf 43 = .ok (.if_icmp .ge 19, 3) := by decide +kernel
theorem dX9_cellsOf_46 : decode cX9_cellsOf 46 = .ok (.aload_n 0, 1) := by decide +kernel
theorem dX9_cellsOf_47 : decode cX9_cellsOf 47 = .ok (.iload 5, 2) := by decide +kernel
theorem dX9_cellsOf_49 : decode cX9_cellsOf 49 = .ok (.iload 4, 2) := by decide +kernel
theorem dX9_cellsOf_51 : decode cX9_cellsOf 51 = .ok (.invokevirtual 113, 3) := by decide +kernel
theorem dX9_cellsOf_54 : decode cX9_cellsOf 54 = .ok (.iload_n 1, 1) := by decide +kernel
theorem dX9_cellsOf_55 : decode cX9_cellsOf 55 = .ok (.if_icmp .ne 7, 3) := by decide +kernel
theorem dX9_cellsOf_58 : decode cX9_cellsOf 58 = .ok (.iconst 1, 1) := by decide +kernel
theorem dX9_cellsOf_59 : decode cX9_cellsOf 59 = .ok (.goto 4, 3) := by decide +kernel
theorem dX9_cellsOf_62 : decode cX9_cellsOf 62 = .ok (.iconst 0, 1) := by decide +kernel
theorem dX9_cellsOf_63 : decode cX9_cellsOf 63 = .ok (.istore 6, 2) := by decide +kernel
theorem dX9_cellsOf_65 : decode cX9_cellsOf 65 = .ok (.goto 66, 3) := by decide +kernel
theorem dX9_cellsOf_68 : decode cX9_cellsOf 68 = .ok (.iload_n 2, 1) := by decide +kernel
theorem dX9_cellsOf_69 : decode cX9_cellsOf 69 = .ok (.iconst 4, 1) := by decide +kernel
theorem dX9_cellsOf_70 : decode cX9_cellsOf 70 = .ok (.if_icmp .ne 25, 3) := by decide +kernel
theorem dX9_cellsOf_73 : decode cX9_cellsOf 73 = .ok (.aload_n 0, 1) := by decide +kernel
theorem dX9_cellsOf_74 : decode cX9_cellsOf 74 = .ok (.iload 5, 2) := by decide +kernel
theorem dX9_cellsOf_76 : decode cX9_cellsOf 76 = .ok (.iload 4, 2) := by decide +kernel
theorem dX9_cellsOf_78 : decode cX9_cellsOf 78 = .ok (.invokevirtual 113, 3) := by decide +kernel
theorem dX9_cellsOf_81 : decode cX9_cellsOf 81 = .ok (.iload_n 1, 1) := by decide +kernel
theorem dX9_cellsOf_82 : decode cX9_cellsOf 82 = .ok (.if_icmp .ne 7, 3) := by decide +kernel
theorem dX9_cellsOf_85 : decode cX9_cellsOf 85 = .ok (.iconst 1, 1) := by decide +kernel
theorem dX9_cellsOf_86 : decode cX9_cellsOf 86 = .ok (.goto 4, 3) := by decide +kernel
theorem dX9_cellsOf_89 : decode cX9_cellsOf 89 = .ok (.iconst 0, 1) := by decide +kernel
