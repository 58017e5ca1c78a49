theorem dX9_init_0 : decode cX9_init 0 = .ok (.aload_n 0, 1) := by decide +kernel
theorem dX9_init_1 : decode cX9_init 1 = .ok (.invokespecial 1, 3) := by decide +kernel
theorem dX9_init_4 : decode cX9_init 4 = .ok (.aload_n 0, 1) := by decide +kernel
theorem dX9_init_5 : decode cX9_init 5 = .ok (.aload_n 1, 1) := by decide +kernel
theorem dX9_init_6 : decode cX9_init 6 = .ok (.putfield 7, 3) := by decide +kernel
theorem dX9_init_9 : decode cX9_init 9 = .ok (.aload_n 0, 1) := by decide +kernel
theorem dX9_init_10 : decode cX9_init 10 = .ok (.iload_n 2, 1) := by decide +kernel
theorem dX9_init_11 : decode cX9_init 11 = .ok (.putfield 13, 3) := by decide +kernel
theorem dX9_init_14 : decode cX9_init 14 = .ok (.aload_n 0, 1) := by decide +kernel
theorem dX9_init_15 : decode cX9_init 15 = .ok (.iload_n 3, 1) := by decide +kernel
theorem dX9_init_16 : decode cX9_init 16 = .ok (.putfield 17, 3) := by decide +kernel
theorem dX9_init_19 : decode cX9_init 19 = .ok (.aload_n 0, 1) := by decide +kernel
theorem dX9_init_20 : decode cX9_init 20 = .ok (.iload 4, 2) := by decide +kernel
theorem dX9_init_22 : decode cX9_init 22 = .ok (.putfield 20, 3) := by decide +kernel
theorem dX9_init_25 : decode cX9_init 25 = .ok (.aload_n 0, 1) := by decide +kernel
theorem dX9_init_26 : decode cX9_init 26 = .ok (.iload 5, 2) := by decide +kernel
theorem dX9_init_28 : decode cX9_init 28 = .ok (.putfield 23, 3) := by decide +kernel
theorem dX9_init_31 : decode cX9_init 31 = .ok (.return_, 1) := by decide +kernel
theorem dX9_wide_0 : decode cX9_wide 0 = .ok (.iconst 4, 1) := by decide +kernel
theorem dX9_wide_1 : decode cX9_wide 1 = .ok (.aload_n 0, 1) := by decide +kernel
theorem dX9_wide_2 : decode cX9_wide 2 = .ok (.getfield 7, 3) := by decide +kernel
theorem dX9_wide_5 : decode cX9_wide 5 = .ok (.invokevirtual 26, 3) := by decide +kernel
theorem dX9_wide_8 : decode cX9_wide 8 = .ok (.imul, 1) := by decide +kernel
theorem dX9_wide_9 : decode cX9_wide 9 = .ok (.iconst 1, 1) := by decide +kernel
theorem dX9_wide_10 : decode cX9_wide 10 = .ok (.isub, 1) := by decide +kernel
theorem dX9_wide_11 : decode cX9_wide 11 = .ok (.ireturn, 1) := by decide +kernel
theorem dX9_ink_0 : decode cX9_ink 0 = .ok (.iload_n 1, 1) := by decide +kernel
theorem dX9_ink_1 : decode cX9_ink 1 = .ok (.ifCond .lt 27, 3) := by decide +kernel
theorem dX9_ink_4 : decode cX9_ink 4 = .ok (.iload_n 1, 1) := by decide +kernel
theorem dX9_ink_5 : decode cX9_ink 5 = .ok (.aload_n 0, 1) := by decide +kernel
theorem dX9_ink_6 : decode cX9_ink 6 = .ok (.invokevirtual 32, 3) := by decide +kernel
theorem dX9_ink_9 : decode cX9_ink 9 = .ok (.if_icmp .ge 19, 3) := by decide +kernel
theorem dX9_ink_12 : decode cX9_ink 12 = .ok (.iload_n 1, 1) := by decide +kernel
theorem dX9_ink_13 : decode cX9_ink 13 = .ok (.iconst 4, 1) := by decide +kernel
theorem dX9_ink_14 : decode cX9_ink 14 = .ok (.irem, 1) := by decide +kernel
theorem dX9_ink_15 : decode cX9_ink 15 = .ok (.iconst 3, 1) := by decide +kernel
theorem dX9_ink_16 : decode cX9_ink 16 = .ok (.if_icmp .eq 12, 3) := by decide +kernel
theorem dX9_ink_19 : decode cX9_ink 19 = .ok (.iload_n 2, 1) := by decide +kernel
theorem dX9_ink_20 : decode cX9_ink 20 = .ok (.ifCond .lt 8, 3) := by decide +kernel
theorem dX9_ink_23 : decode cX9_ink 23 = .ok (.iload_n 2, 1) := by decide +kernel
theorem dX9_ink_24 : decode cX9_ink 24 = .ok (.iconst 4, 1) := by decide +kernel
theorem dX9_ink_25 : decode cX9_ink 25 = .ok (.if_icmp .le 5, 3) := by decide +kernel
theorem dX9_ink_28 : decode cX9_ink 28 = .ok (.iconst 0, 1) := by decide +kernel
theorem dX9_ink_29 : decode cX9_ink 29 = .ok (.ireturn, 1) := by decide +kernel
theorem dX9_ink_30 : decode cX9_ink 30 = .ok (.getstatic 35, 3) := by decide +kernel
theorem dX9_ink_33 : decode cX9_ink 33 = .ok (.aload_n 0, 1) := by decide +kernel
theorem dX9_ink_34 : decode cX9_ink 34 = .ok (.getfield 7, 3) := by decide +kernel
theorem dX9_ink_37 : decode cX9_ink 37 = .ok (.iload_n 1, 1) := by decide +kernel
theorem dX9_ink_38 : decode cX9_ink 38 = .ok (.iconst 4, 1) := by decide +kernel
theorem dX9_ink_39 : decode cX9_ink 39 = .ok (.idiv, 1) := by decide +kernel
theorem dX9_ink_40 : decode cX9_ink 40 = .ok (.invokevirtual 41, 3) := by decide +kernel
theorem dX9_ink_43 : decode cX9_ink 43 = .ok (.bipush 97, 2) := by decide +kernel
theorem dX9_ink_45 : decode cX9_ink 45 = .ok (.isub, 1) := by decide +kernel
theorem dX9_ink_46 : decode cX9_ink 46 = .ok (.iaload, 1) := by decide +kernel
theorem dX9_ink_47 : decode cX9_ink 47 = .ok (.istore_n 3, 1) := by decide +kernel
theorem dX9_ink_48 : decode cX9_ink 48 = .ok (.iconst 3, 1) := by decide +kernel
theorem dX9_ink_49 : decode cX9_ink 49 = .ok (.iload_n 2, 1) := by decide +kernel
theorem dX9_ink_50 : decode cX9_ink 50 = .ok (.imul, 1) := by decide +kernel
theorem dX9_ink_51 : decode cX9_ink 51 = .ok (.iload_n 1, 1) := by decide +kernel
theorem dX9_ink_52 : decode cX9_ink 52 = .ok (.iconst 4, 1) := by decide +kernel
theorem dX9_ink_53 : decode cX9_ink 53 = .ok (.irem, 1) := by decide +kernel
theorem dX9_ink_54 : decode cX9_ink 54 = .ok (.iadd, 1) := by decide +kernel
theorem dX9_ink_55 : decode cX9_ink 55 = .ok (.istore 4, 2) := by decide +kernel
theorem dX9_ink_57 : decode cX9_ink 57 = .ok (.iload 4, 2) := by decide +kernel
theorem dX9_ink_59 : decode cX9_ink 59 = .ok (.bipush 14, 2) := by decide +kernel
theorem dX9_ink_61 : decode cX9_ink 61 = .ok (.if_icmp .ge 13, 3) := by decide +kernel
theorem dX9_ink_64 : decode cX9_ink 64 = .ok (.iload_n 3, 1) := by decide +kernel
theorem dX9_ink_65 : decode cX9_ink 65 = .ok (.iconst 2, 1) := by decide +kernel
theorem dX9_ink_66 : decode cX9_ink 66 = .ok (.idiv, 1) := by decide +kernel
theorem dX9_ink_67 : decode cX9_ink 67 = .ok (.istore_n 3, 1) := by decide +kernel
theorem dX9_ink_68 : decode cX9_ink 68 = .ok (.iinc 4 1, 3) := by decide +kernel
theorem dX9_ink_71 : decode cX9_ink 71 = .ok (.goto (-14), 3) := by decide +kernel
theorem dX9_ink_74 : decode cX9_ink 74 = .ok (.iload_n 3, 1) := by decide +kernel
theorem dX9_ink_75 : decode cX9_ink 75 = .ok (.iconst 2, 1) := by decide +kernel
theorem dX9_ink_76 : decode cX9_ink 76 = .ok (.irem, 1) := by decide +kernel
theorem dX9_ink_77 : decode cX9_ink 77 = .ok (.iconst 1, 1) := by decide +kernel
theorem dX9_ink_78 : decode cX9_ink 78 = .ok (.if_icmp .ne 7, 3) := by decide +kernel
theorem dX9_ink_81 : decode cX9_ink 81 = .ok (.iconst 1, 1) := by decide +kernel
theorem dX9_ink_82 : decode cX9_ink 82 = .ok (.goto 4, 3) := by decide +kernel
theorem dX9_ink_85 : decode cX9_ink 85 = .ok (.iconst 0, 1) := by decide +kernel
theorem dX9_ink_86 : decode cX9_ink 86 = .ok (.ireturn, 1) := by decide +kernel
theorem dX10_init_0 : decode cX10_init 0 = .ok (.aload_n 0, 1) := by decide +kernel
theorem dX10_init_1 : decode cX10_init 1 = .ok (.invokespecial 1, 3) := by decide +kernel
theorem dX10_init_4 : decode cX10_init 4 = .ok (.aload_n 0, 1) := by decide +kernel
theorem dX10_init_5 : decode cX10_init 5 = .ok (.iconst 4, 1) := by decide +kernel
theorem dX10_init_6 : decode cX10_init 6 = .ok (.putfield 7, 3) := by decide +kernel
theorem dX10_init_9 : decode cX10_init 9 = .ok (.aload_n 0, 1) := by decide +kernel
theorem dX10_init_10 : decode cX10_init 10 = .ok (.bipush 7, 2) := by decide +kernel
theorem dX10_init_12 : decode cX10_init 12 = .ok (.newarray .int, 2) := by decide +kernel
theorem dX10_init_14 : decode cX10_init 14 = .ok (.dup, 1) := by decide +kernel
theorem dX10_init_15 : decode cX10_init 15 = .ok (.iconst 0, 1) := by decide +kernel
theorem dX10_init_16 : decode cX10_init 16 = .ok (.sipush 500, 3) := by decide +kernel
theorem dX10_init_19 : decode cX10_init 19 = .ok (.iastore, 1) := by decide +kernel
theorem dX10_init_20 : decode cX10_init 20 = .ok (.dup, 1) := by decide +kernel
theorem dX10_init_21 : decode cX10_init 21 = .ok (.iconst 1, 1) := by decide +kernel
theorem dX10_init_22 : decode cX10_init 22 = .ok (.sipush 500, 3) := by decide +kernel
theorem dX10_init_25 : decode cX10_init 25 = .ok (.iastore, 1) := by decide +kernel
theorem dX10_init_26 : decode cX10_init 26 = .ok (.dup, 1) := by decide +kernel
theorem dX10_init_27 : decode cX10_init 27 = .ok (.iconst 2, 1) := by decide +kernel
theorem dX10_init_28 : decode cX10_init 28 = .ok (.sipush 500, 3) := by decide +kernel
theorem dX10_init_31 : decode cX10_init 31 = .ok (.iastore, 1) := by decide +kernel
theorem dX10_init_32 : decode cX10_init 32 = .ok (.dup, 1) := by decide +kernel
theorem dX10_init_33 : decode cX10_init 33 = .ok (.iconst 3, 1) := by decide +kernel
theorem dX10_init_34 : decode cX10_init 34 = .ok (.sipush 500, 3) := by decide +kernel
theorem dX10_init_37 : decode cX10_init 37 = .ok (.iastore, 1) := by decide +kernel
theorem dX10_init_38 : decode cX10_init 38 = .ok (.dup, 1) := by decide +kernel
theorem dX10_init_39 : decode cX10_init 39 = .ok (.iconst 4, 1) := by decide +kernel
theorem dX10_init_40 : decode cX10_init 40 = .ok (.sipush 500, 3) := by decide +kernel
theorem dX10_init_43 : decode cX10_init 43 = .ok (.iastore, 1) := by decide +kernel
theorem dX10_init_44 : decode cX10_init 44 = .ok (.dup, 1) := by decide +kernel
theorem dX10_init_45 : decode cX10_init 45 = .ok (.iconst 5, 1) := by decide +kernel
theorem dX10_init_46 : decode cX10_init 46 = .ok (.sipush 500, 3) := by decide +kernel
theorem dX10_init_49 : decode cX10_init 49 = .ok (.iastore, 1) := by decide +kernel
theorem dX10_init_50 : decode cX10_init 50 = .ok (.dup, 1) := by decide +kernel
theorem dX10_init_51 : decode cX10_init 51 = .ok (.bipush 6, 2) := by decide +kernel
theorem dX10_init_53 : decode cX10_init 53 = .ok (.sipush 500, 3) := by decide +kernel
theorem dX10_init_56 : decode cX10_init 56 = .ok (.iastore, 1) := by decide +kernel
theorem dX10_init_57 : decode cX10_init 57 = .ok (.putfield 13, 3) := by decide +kernel
theorem dX10_init_60 : decode cX10_init 60 = .ok (.aload_n 0, 1) := by decide +kernel
theorem dX10_init_61 : decode cX10_init 61 = .ok (.new 17, 3) := by decide +kernel
theorem dX10_init_64 : decode cX10_init 64 = .ok (.dup, 1) := by decide +kernel
theorem dX10_init_65 : decode cX10_init 65 = .ok (.invokespecial 19, 3) := by decide +kernel
theorem dX10_init_68 : decode cX10_init 68 = .ok (.putfield 20, 3) := by decide +kernel
theorem dX10_init_71 : decode cX10_init 71 = .ok (.aload_n 0, 1) := by decide +kernel
theorem dX10_init_72 : decode cX10_init 72 = .ok (.new 17, 3) := by decide +kernel
theorem dX10_init_75 : decode cX10_init 75 = .ok (.dup, 1) := by decide +kernel
theorem dX10_init_76 : decode cX10_init 76 = .ok (.invokespecial 19, 3) := by decide +kernel
theorem dX10_init_79 : decode cX10_init 79 = .ok (.putfield 24, 3) := by decide +kernel
theorem dX10_init_82 : decode cX10_init 82 = .ok (.return_, 1) := by decide +kernel
theorem dX10_empty_0 : decode cX10_empty 0 = .ok (.aload_n 0, 1) := by decide +kernel
theorem dX10_empty_1 : decode cX10_empty 1 = .ok (.getfield 27, 3) := by decide +kernel
theorem dX10_empty_4 : decode cX10_empty 4 = .ok (.newarray .int, 2) := by decide +kernel
theorem dX10_empty_6 : decode cX10_empty 6 = .ok (.astore_n 1, 1) := by decide +kernel
theorem dX10_empty_7 : decode cX10_empty 7 = .ok (.iconst 0, 1) := by decide +kernel
theorem dX10_empty_8 : decode cX10_empty 8 = .ok (.istore_n 2, 1) := by decide +kernel
theorem dX10_empty_9 : decode cX10_empty 9 = .ok (.iload_n 2, 1) := by decide +kernel
theorem dX10_empty_10 : decode cX10_empty 10 = .ok (.aload_n 0, 1) := by decide +kernel
theorem dX10_empty_11 : decode cX10_empty 11 = .ok (.getfield 27, 3) := by decide +kernel
theorem dX10_empty_14 : decode cX10_empty 14 = .ok (.if_icmp .ge 13, 3) := by decide +kernel
theorem dX10_empty_17 : decode cX10_empty 17 = .ok (.aload_n 1, 1) := by decide +kernel
theorem dX10_empty_18 : decode cX10_empty 18 = .ok (.iload_n 2, 1) := by decide +kernel
theorem dX10_empty_19 : decode cX10_empty 19 = .ok (.iconst (-1), 1) := by decide +kernel
theorem dX10_empty_20 : decode cX10_empty 20 = .ok (.iastore, 1) := by decide +kernel
theorem dX10_empty_21 : decode cX10_empty 21 = .ok (.iinc 2 1, 3) := by decide +kernel
theorem dX10_empty_24 : decode cX10_empty 24 = .ok (.goto (-15), 3) := by decide +kernel
theorem dX10_empty_27 : decode cX10_empty 27 = .ok (.aload_n 1, 1) := by decide +kernel
theorem dX10_empty_28 : decode cX10_empty 28 = .ok (.areturn, 1) := by decide +kernel
theorem dX10_rows_0 : decode cX10_rows 0 = .ok (.aload_n 0, 1) := by decide +kernel
theorem dX10_rows_1 : decode cX10_rows 1 = .ok (.getfield 30, 3) := by decide +kernel
theorem dX10_rows_4 : decode cX10_rows 4 = .ok (.ifCond .eq 10, 3) := by decide +kernel
theorem dX10_rows_7 : decode cX10_rows 7 = .ok (.aload_n 0, 1) := by decide +kernel
theorem dX10_rows_8 : decode cX10_rows 8 = .ok (.getfield 34, 3) := by decide +kernel
theorem dX10_rows_11 : decode cX10_rows 11 = .ok (.goto 14, 3) := by decide +kernel
theorem dX10_rows_14 : decode cX10_rows 14 = .ok (.aload_n 0, 1) := by decide +kernel
theorem dX10_rows_15 : decode cX10_rows 15 = .ok (.getfield 24, 3) := by decide +kernel
theorem dX10_rows_18 : decode cX10_rows 18 = .ok (.invokeinterface 37 1, 5) := by decide +kernel
theorem dX10_rows_23 : decode cX10_rows 23 = .ok (.iconst 1, 1) := by decide +kernel
theorem dX10_rows_24 : decode cX10_rows 24 = .ok (.isub, 1) := by decide +kernel
theorem dX10_rows_25 : decode cX10_rows 25 = .ok (.ireturn, 1) := by decide +kernel
theorem dX10_finishes_0 : decode cX10_finishes 0 = .ok (.aload_n 0, 1) := by decide +kernel
theorem dX10_finishes_1 : decode cX10_finishes 1 = .ok (.getfield 24, 3) := by decide +kernel
theorem dX10_finishes_4 : decode cX10_finishes 4 = .ok (.invokeinterface 37 1, 5) := by decide +kernel
theorem dX10_finishes_9 : decode cX10_finishes 9 = .ok (.aload_n 0, 1) := by decide +kernel
theorem dX10_finishes_10 : decode cX10_finishes 10 = .ok (.getfield 34, 3) := by decide +kernel
theorem dX10_finishes_13 : decode cX10_finishes 13 = .ok (.if_icmp .ne 11, 3) := by decide +kernel
theorem dX10_finishes_16 : decode cX10_finishes 16 = .ok (.aload_n 0, 1) := by decide +kernel
theorem dX10_finishes_17 : decode cX10_finishes 17 = .ok (.iconst 1, 1) := by decide +kernel
theorem dX10_finishes_18 : decode cX10_finishes 18 = .ok (.putfield 30, 3) := by decide +kernel
theorem dX10_finishes_21 : decode cX10_finishes 21 = .ok (.goto 17, 3) := by decide +kernel
theorem dX10_finishes_24 : decode cX10_finishes 24 = .ok (.aload_n 0, 1) := by decide +kernel
theorem dX10_finishes_25 : decode cX10_finishes 25 = .ok (.getfield 24, 3) := by decide +kernel
theorem dX10_finishes_28 : decode cX10_finishes 28 = .ok (.aload_n 0, 1) := by decide +kernel
theorem dX10_finishes_29 : decode cX10_finishes 29 = .ok (.invokevirtual 43, 3) := by decide +kernel
theorem dX10_finishes_32 : decode cX10_finishes 32 = .ok (.invokeinterface 47 2, 5) := by decide +kernel
theorem dX10_finishes_37 : decode cX10_finishes 37 = .ok (.pop, 1) := by decide +kernel
theorem dX10_finishes_38 : decode cX10_finishes 38 = .ok (.return_, 1) := by decide +kernel
theorem dX10_at_0 : decode cX10_at 0 = .ok (.iload_n 2, 1) := by decide +kernel
theorem dX10_at_1 : decode cX10_at 1 = .ok (.aload_n 0, 1) := by decide +kernel
theorem dX10_at_2 : decode cX10_at 2 = .ok (.getfield 24, 3) := by decide +kernel
theorem dX10_at_5 : decode cX10_at 5 = .ok (.invokeinterface 37 1, 5) := by decide +kernel
theorem dX10_at_10 : decode cX10_at 10 = .ok (.if_icmp .ge 21, 3) := by decide +kernel
theorem dX10_at_13 : decode cX10_at 13 = .ok (.aload_n 0, 1) := by decide +kernel
theorem dX10_at_14 : decode cX10_at 14 = .ok (.getfield 24, 3) := by decide +kernel
theorem dX10_at_17 : decode cX10_at 17 = .ok (.iload_n 2, 1) := by decide +kernel
theorem dX10_at_18 : decode cX10_at 18 = .ok (.invokeinterface 51 2, 5) := by decide +kernel
theorem dX10_at_23 : decode cX10_at 23 = .ok (.checkcast 55, 3) := by decide +kernel
theorem dX10_at_26 : decode cX10_at 26 = .ok (.iload_n 1, 1) := by decide +kernel
theorem dX10_at_27 : decode cX10_at 27 = .ok (.iaload, 1) := by decide +kernel
theorem dX10_at_28 : decode cX10_at 28 = .ok (.goto 4, 3) := by decide +kernel
theorem dX10_at_31 : decode cX10_at 31 = .ok (.iconst (-1), 1) := by decide +kernel
theorem dX10_at_32 : decode cX10_at 32 = .ok (.ireturn, 1) := by decide +kernel
theorem dX10_over_0 : decode cX10_over 0 = .ok (.aload_n 1, 1) := by decide +kernel
theorem dX10_over_1 : decode cX10_over 1 = .ok (.getfield 56, 3) := by decide +kernel
theorem dX10_over_4 : decode cX10_over 4 = .ok (.ifCond .ne 7, 3) := by decide +kernel
theorem dX10_over_7 : decode cX10_over 7 = .ok (.iload_n 2, 1) := by decide +kernel
theorem dX10_over_8 : decode cX10_over 8 = .ok (.goto 11, 3) := by decide +kernel
theorem dX10_over_11 : decode cX10_over 11 = .ok (.aload_n 0, 1) := by decide +kernel
theorem dX10_over_12 : decode cX10_over 12 = .ok (.getfield 27, 3) := by decide +kernel
theorem dX10_over_15 : decode cX10_over 15 = .ok (.iconst 1, 1) := by decide +kernel
theorem dX10_over_16 : decode cX10_over 16 = .ok (.isub, 1) := by decide +kernel
theorem dX10_over_17 : decode cX10_over 17 = .ok (.iload_n 2, 1) := by decide +kernel
theorem dX10_over_18 : decode cX10_over 18 = .ok (.isub, 1) := by decide +kernel
theorem dX10_over_19 : decode cX10_over 19 = .ok (.aload_n 1, 1) := by decide +kernel
theorem dX10_over_20 : decode cX10_over 20 = .ok (.getfield 61, 3) := by decide +kernel
theorem dX10_over_23 : decode cX10_over 23 = .ok (.isub, 1) := by decide +kernel
theorem dX10_over_24 : decode cX10_over 24 = .ok (.ireturn, 1) := by decide +kernel
theorem dX10_design_0 : decode cX10_design 0 = .ok (.iconst 0, 1) := by decide +kernel
theorem dX10_design_1 : decode cX10_design 1 = .ok (.istore_n 3, 1) := by decide +kernel
theorem dX10_design_2 : decode cX10_design 2 = .ok (.aload_n 0, 1) := by decide +kernel
theorem dX10_design_3 : decode cX10_design 3 = .ok (.getfield 20, 3) := by decide +kernel
theorem dX10_design_6 : decode cX10_design 6 = .ok (.invokeinterface 64 1, 5) := by decide +kernel
theorem dX10_design_11 : decode cX10_design 11 = .ok (.astore 4, 2) := by decide +kernel
theorem dX10_design_13 : decode cX10_design 13 = .ok (.aload 4, 2) := by decide +kernel
theorem dX10_design_15 : decode cX10_design 15 = .ok (.invokeinterface 68 1, 5) := by decide +kernel
theorem dX10_design_20 : decode cX10_design 20 = .ok (.ifCond .eq 48, 3) := by decide +kernel
theorem dX10_design_23 : decode cX10_design 23 = .ok (.aload 4, 2) := by decide +kernel
theorem dX10_design_25 : decode cX10_design 25 = .ok (.invokeinterface 74 1, 5) := by decide +kernel
theorem dX10_design_30 : decode cX10_design 30 = .ok (.checkcast 57, 3) := by decide +kernel
theorem dX10_design_33 : decode cX10_design 33 = .ok (.astore 5, 2) := by decide +kernel
theorem dX10_design_35 : decode cX10_design 35 = .ok (.aload 5, 2) := by decide +kernel
theorem dX10_design_37 : decode cX10_design 37 = .ok (.aload_n 0, 1) := by decide +kernel
theorem dX10_design_38 : decode cX10_design 38 = .ok (.aload 5, 2) := by decide +kernel
theorem dX10_design_40 : decode cX10_design 40 = .ok (.iload_n 1, 1) := by decide +kernel
theorem dX10_design_41 : decode cX10_design 41 = .ok (.invokevirtual 78, 3) := by decide +kernel
theorem dX10_design_44 : decode cX10_design 44 = .ok (.aload 5, 2) := by decide +kernel
theorem dX10_design_46 : decode cX10_design 46 = .ok (.getfield 82, 3) := by decide +kernel
theorem dX10_design_49 : decode cX10_design 49 = .ok (.iconst 4, 1) := by decide +kernel
theorem dX10_design_50 : decode cX10_design 50 = .ok (.iadd, 1) := by decide +kernel
theorem dX10_design_51 : decode cX10_design 51 = .ok (.iload_n 2, 1) := by decide +kernel
theorem dX10_design_52 : decode cX10_design 52 = .ok (.isub, 1) := by decide +kernel
theorem dX10_design_53 : decode cX10_design 53 = .ok (.invokevirtual 85, 3) := by decide +kernel
theorem dX10_design_56 : decode cX10_design 56 = .ok (.ifCond .eq 9, 3) := by decide +kernel
theorem dX10_design_59 : decode cX10_design 59 = .ok (.aload 5, 2) := by decide +kernel
theorem dX10_design_61 : decode cX10_design 61 = .ok (.getfield 89, 3) := by decide +kernel
theorem dX10_design_64 : decode cX10_design 64 = .ok (.istore_n 3, 1) := by decide +kernel
theorem dX10_design_65 : decode cX10_design 65 = .ok (.goto (-52), 3) := by decide +kernel
theorem dX10_design_68 : decode cX10_design 68 = .ok (.iload_n 3, 1) := by decide +kernel
theorem dX10_design_69 : decode cX10_design 69 = .ok (.ireturn, 1) := by decide +kernel
theorem dX10_lies_0 : decode cX10_lies 0 = .ok (.iload_n 2, 1) := by decide +kernel
theorem dX10_lies_1 : decode cX10_lies 1 = .ok (.ifCond .lt 35, 3) := by decide +kernel
theorem dX10_lies_4 : decode cX10_lies 4 = .ok (.iload_n 3, 1) := by decide +kernel
theorem dX10_lies_5 : decode cX10_lies 5 = .ok (.ifCond .lt 31, 3) := by decide +kernel
theorem dX10_lies_8 : decode cX10_lies 8 = .ok (.iload_n 2, 1) := by decide +kernel
theorem dX10_lies_9 : decode cX10_lies 9 = .ok (.iconst 4, 1) := by decide +kernel
theorem dX10_lies_10 : decode cX10_lies 10 = .ok (.iload_n 1, 1) := by decide +kernel
theorem dX10_lies_11 : decode cX10_lies 11 = .ok (.imul, 1) := by decide +kernel
theorem dX10_lies_12 : decode cX10_lies 12 = .ok (.iadd, 1) := by decide +kernel
theorem dX10_lies_13 : decode cX10_lies 13 = .ok (.iconst 1, 1) := by decide +kernel
theorem dX10_lies_14 : decode cX10_lies 14 = .ok (.isub, 1) := by decide +kernel
theorem dX10_lies_15 : decode cX10_lies 15 = .ok (.aload_n 0, 1) := by decide +kernel
theorem dX10_lies_16 : decode cX10_lies 16 = .ok (.getfield 27, 3) := by decide +kernel
theorem dX10_lies_19 : decode cX10_lies 19 = .ok (.if_icmp .gt 17, 3) := by decide +kernel
theorem dX10_lies_22 : decode cX10_lies 22 = .ok (.iload_n 3, 1) := by decide +kernel
theorem dX10_lies_23 : decode cX10_lies 23 = .ok (.iconst 5, 1) := by decide +kernel
theorem dX10_lies_24 : decode cX10_lies 24 = .ok (.iadd, 1) := by decide +kernel
theorem dX10_lies_25 : decode cX10_lies 25 = .ok (.aload_n 0, 1) := by decide +kernel
theorem dX10_lies_26 : decode cX10_lies 26 = .ok (.getfield 34, 3) := by decide +kernel
theorem dX10_lies_29 : decode cX10_lies 29 = .ok (.if_icmp .gt 7, 3) := by decide +kernel
theorem dX10_lies_32 : decode cX10_lies 32 = .ok (.iconst 1, 1) := by decide +kernel
theorem dX10_lies_33 : decode cX10_lies 33 = .ok (.goto 4, 3) := by decide +kernel
theorem dX10_lies_36 : decode cX10_lies 36 = .ok (.iconst 0, 1) := by decide +kernel
theorem dX10_lies_37 : decode cX10_lies 37 = .ok (.ireturn, 1) := by decide +kernel
theorem dX10_meets_0 : decode cX10_meets 0 = .ok (.iconst 0, 1) := by decide +kernel
theorem dX10_meets_1 : decode cX10_meets 1 = .ok (.istore_n 3, 1) := by decide +kernel
theorem dX10_meets_2 : decode cX10_meets 2 = .ok (.aload_n 0, 1) := by decide +kernel
theorem dX10_meets_3 : decode cX10_meets 3 = .ok (.getfield 20, 3) := by decide +kernel
theorem dX10_meets_6 : decode cX10_meets 6 = .ok (.invokeinterface 64 1, 5) := by decide +kernel
theorem dX10_meets_11 : decode cX10_meets 11 = .ok (.astore 4, 2) := by decide +kernel
theorem dX10_meets_13 : decode cX10_meets 13 = .ok (.aload 4, 2) := by decide +kernel
theorem dX10_meets_15 : decode cX10_meets 15 = .ok (.invokeinterface 68 1, 5) := by decide +kernel
theorem dX10_meets_20 : decode cX10_meets 20 = .ok (.ifCond .eq 123, 3) := by decide +kernel
theorem dX10_meets_23 : decode cX10_meets 23 = .ok (.aload 4, 2) := by decide +kernel
theorem dX10_meets_25 : decode cX10_meets 25 = .ok (.invokeinterface 74 1, 5) := by decide +kernel
theorem dX10_meets_30 : decode cX10_meets 30 = .ok (.checkcast 57, 3) := by decide +kernel
theorem dX10_meets_33 : decode cX10_meets 33 = .ok (.astore 5, 2) := by decide +kernel
theorem dX10_meets_35 : decode cX10_meets 35 = .ok (.aload 5, 2) := by decide +kernel
theorem dX10_meets_37 : decode cX10_meets 37 = .ok (.aload_n 2, 1) := by decide +kernel
theorem dX10_meets_38 : decode cX10_meets 38 = .ok (.if_acmp .eq (-25), 3) := by decide +kernel
theorem dX10_meets_41 : decode cX10_meets 41 = .ok (.aload 5, 2) := by decide +kernel
theorem dX10_meets_43 : decode cX10_meets 43 = .ok (.getfield 82, 3) := by decide +kernel
theorem dX10_meets_46 : decode cX10_meets 46 = .ok (.aload_n 1, 1) := by decide +kernel
theorem dX10_meets_47 : decode cX10_meets 47 = .ok (.getfield 82, 3) := by decide +kernel
theorem dX10_meets_50 : decode cX10_meets 50 = .ok (.isub, 1) := by decide +kernel
theorem dX10_meets_51 : decode cX10_meets 51 = .ok (.invokestatic 92, 3) := by decide +kernel
theorem dX10_meets_54 : decode cX10_meets 54 = .ok (.iconst 4, 1) := by decide +kernel
theorem dX10_meets_55 : decode cX10_meets 55 = .ok (.if_icmp .le 6, 3) := by decide +kernel
theorem dX10_meets_58 : decode cX10_meets 58 = .ok (.goto (-45), 3) := by decide +kernel
theorem dX10_meets_61 : decode cX10_meets 61 = .ok (.iconst 0, 1) := by decide +kernel
theorem dX10_meets_62 : decode cX10_meets 62 = .ok (.istore 6, 2) := by decide +kernel
theorem dX10_meets_64 : decode cX10_meets 64 = .ok (.iload 6, 2) := by decide +kernel
theorem dX10_meets_66 : decode cX10_meets 66 = .ok (.aload_n 0, 1) := by decide +kernel
theorem dX10_meets_67 : decode cX10_meets 67 = .ok (.getfield 27, 3) := by decide +kernel
theorem dX10_meets_70 : decode cX10_meets 70 = .ok (.if_icmp .ge 70, 3) := by decide +kernel
theorem dX10_meets_73 : decode cX10_meets 73 = .ok (.iload_n 3, 1) := by decide +kernel
theorem dX10_meets_74 : decode cX10_meets 74 = .ok (.ifCond .ne 54, 3) := by decide +kernel
theorem dX10_meets_77 : decode cX10_meets 77 = .ok (.aload_n 0, 1) := by decide +kernel
theorem dX10_meets_78 : decode cX10_meets 78 = .ok (.aload_n 1, 1) := by decide +kernel
theorem dX10_meets_79 : decode cX10_meets 79 = .ok (.iload 6, 2) := by decide +kernel
theorem dX10_meets_81 : decode cX10_meets 81 = .ok (.invokevirtual 78, 3) := by decide +kernel
theorem dX10_meets_84 : decode cX10_meets 84 = .ok (.ifCond .lt 48, 3) := by decide +kernel
theorem dX10_meets_87 : decode cX10_meets 87 = .ok (.aload_n 0, 1) := by decide +kernel
theorem dX10_meets_88 : decode cX10_meets 88 = .ok (.aload_n 1, 1) := by decide +kernel
theorem dX10_meets_89 : decode cX10_meets 89 = .ok (.iload 6, 2) := by decide +kernel
theorem dX10_meets_91 : decode cX10_meets 91 = .ok (.invokevirtual 78, 3) := by decide +kernel
theorem dX10_meets_94 : decode cX10_meets 94 = .ok (.aload_n 1, 1) := by decide +kernel
theorem dX10_meets_95 : decode cX10_meets 95 = .ok (.invokevirtual 98, 3) := by decide +kernel
theorem dX10_meets_98 : decode cX10_meets 98 = .ok (.if_icmp .ge 34, 3) := by decide +kernel
theorem dX10_meets_101 : decode cX10_meets 101 = .ok (.aload_n 0, 1) := by decide +kernel
theorem dX10_meets_102 : decode cX10_meets 102 = .ok (.aload 5, 2) := by decide +kernel
theorem dX10_meets_104 : decode cX10_meets 104 = .ok (.iload 6, 2) := by decide +kernel
theorem dX10_meets_106 : decode cX10_meets 106 = .ok (.invokevirtual 78, 3) := by decide +kernel
theorem dX10_meets_109 : decode cX10_meets 109 = .ok (.ifCond .lt 23, 3) := by decide +kernel
theorem dX10_meets_112 : decode cX10_meets 112 = .ok (.aload_n 0, 1) := by decide +kernel
theorem dX10_meets_113 : decode cX10_meets 113 = .ok (.aload 5, 2) := by decide +kernel
theorem dX10_meets_115 : decode cX10_meets 115 = .ok (.iload 6, 2) := by decide +kernel
theorem dX10_meets_117 : decode cX10_meets 117 = .ok (.invokevirtual 78, 3) := by decide +kernel
theorem dX10_meets_120 : decode cX10_meets 120 = .ok (.aload 5, 2) := by decide +kernel
theorem dX10_meets_122 : decode cX10_meets 122 = .ok (.invokevirtual 98, 3) := by decide +kernel
theorem dX10_meets_125 : decode cX10_meets 125 = .ok (.if_icmp .ge 7, 3) := by decide +kernel
theorem dX10_meets_128 : decode cX10_meets 128 = .ok (.iconst 1, 1) := by decide +kernel
theorem dX10_meets_129 : decode cX10_meets 129 = .ok (.goto 4, 3) := by decide +kernel
theorem dX10_meets_132 : decode cX10_meets 132 = .ok (.iconst 0, 1) := by decide +kernel
theorem dX10_meets_133 : decode cX10_meets 133 = .ok (.istore_n 3, 1) := by decide +kernel
theorem dX10_meets_134 : decode cX10_meets 134 = .ok (.iinc 6 1, 3) := by decide +kernel
theorem dX10_meets_137 : decode cX10_meets 137 = .ok (.goto (-73), 3) := by decide +kernel
theorem dX10_meets_140 : decode cX10_meets 140 = .ok (.goto (-127), 3) := by decide +kernel
theorem dX10_meets_143 : decode cX10_meets 143 = .ok (.iload_n 3, 1) := by decide +kernel
theorem dX10_meets_144 : decode cX10_meets 144 = .ok (.ireturn, 1) := by decide +kernel
theorem dX10_wrong_0 : decode cX10_wrong 0 = .ok (.iload_n 2, 1) := by decide +kernel
theorem dX10_wrong_1 : decode cX10_wrong 1 = .ok (.aload_n 0, 1) := by decide +kernel
theorem dX10_wrong_2 : decode cX10_wrong 2 = .ok (.invokevirtual 100, 3) := by decide +kernel
theorem dX10_wrong_5 : decode cX10_wrong 5 = .ok (.if_icmp .ge 22, 3) := by decide +kernel
theorem dX10_wrong_8 : decode cX10_wrong 8 = .ok (.aload_n 0, 1) := by decide +kernel
theorem dX10_wrong_9 : decode cX10_wrong 9 = .ok (.iload_n 1, 1) := by decide +kernel
theorem dX10_wrong_10 : decode cX10_wrong 10 = .ok (.iload_n 2, 1) := by decide +kernel
theorem dX10_wrong_11 : decode cX10_wrong 11 = .ok (.invokevirtual 103, 3) := by decide +kernel
theorem dX10_wrong_14 : decode cX10_wrong 14 = .ok (.aload_n 0, 1) := by decide +kernel
theorem dX10_wrong_15 : decode cX10_wrong 15 = .ok (.iload_n 1, 1) := by decide +kernel
theorem dX10_wrong_16 : decode cX10_wrong 16 = .ok (.iload_n 2, 1) := by decide +kernel
theorem dX10_wrong_17 : decode cX10_wrong 17 = .ok (.invokevirtual 107, 3) := by decide +kernel
theorem dX10_wrong_20 : decode cX10_wrong 20 = .ok (.if_icmp .eq 7, 3) := by decide +kernel
theorem dX10_wrong_23 : decode cX10_wrong 23 = .ok (.iconst 1, 1) := by decide +kernel
theorem dX10_wrong_24 : decode cX10_wrong 24 = .ok (.goto 4, 3) := by decide +kernel
theorem dX10_wrong_27 : decode cX10_wrong 27 = .ok (.iconst 0, 1) := by decide +kernel
theorem dX10_wrong_28 : decode cX10_wrong 28 = .ok (.ireturn, 1) := by decide +kernel
theorem dX10_wrongs_0 : decode cX10_wrongs 0 = .ok (.iconst 0, 1) := by decide +kernel
theorem dX10_wrongs_1 : decode cX10_wrongs 1 = .ok (.istore_n 2, 1) := by decide +kernel
theorem dX10_wrongs_2 : decode cX10_wrongs 2 = .ok (.iconst 0, 1) := by decide +kernel
theorem dX10_wrongs_3 : decode cX10_wrongs 3 = .ok (.istore_n 3, 1) := by decide +kernel
theorem dX10_wrongs_4 : decode cX10_wrongs 4 = .ok (.iload_n 3, 1) := by decide +kernel
theorem dX10_wrongs_5 : decode cX10_wrongs 5 = .ok (.aload_n 0, 1) := by decide +kernel
theorem dX10_wrongs_6 : decode cX10_wrongs 6 = .ok (.getfield 27, 3) := by decide +kernel
theorem dX10_wrongs_9 : decode cX10_wrongs 9 = .ok (.if_icmp .ge 26, 3) := by decide +kernel
theorem dX10_wrongs_12 : decode cX10_wrongs 12 = .ok (.iload_n 2, 1) := by decide +kernel
theorem dX10_wrongs_13 : decode cX10_wrongs 13 = .ok (.aload_n 0, 1) := by decide +kernel
theorem dX10_wrongs_14 : decode cX10_wrongs 14 = .ok (.iload_n 3, 1) := by decide +kernel
theorem dX10_wrongs_15 : decode cX10_wrongs 15 = .ok (.iload_n 1, 1) := by decide +kernel
theorem dX10_wrongs_16 : decode cX10_wrongs 16 = .ok (.invokevirtual 110, 3) := by decide +kernel
theorem dX10_wrongs_19 : decode cX10_wrongs 19 = .ok (.ifCond .eq 7, 3) := by decide +kernel
theorem dX10_wrongs_22 : decode cX10_wrongs 22 = .ok (.iconst 1, 1) := by decide +kernel
theorem dX10_wrongs_23 : decode cX10_wrongs 23 = .ok (.goto 4, 3) := by decide +kernel
theorem dX10_wrongs_26 : decode cX10_wrongs 26 = .ok (.iconst 0, 1) := by decide +kernel
theorem dX10_wrongs_27 : decode cX10_wrongs 27 = .ok (.iadd, 1) := by decide +kernel
theorem dX10_wrongs_28 : decode cX10_wrongs 28 = .ok (.istore_n 2, 1) := by decide +kernel
theorem dX10_wrongs_29 : decode cX10_wrongs 29 = .ok (.iinc 3 1, 3) := by decide +kernel
theorem dX10_wrongs_32 : decode cX10_wrongs 32 = .ok (.goto (-28), 3) := by decide +kernel
theorem dX10_wrongs_35 : decode cX10_wrongs 35 = .ok (.iload_n 2, 1) := by decide +kernel
theorem dX10_wrongs_36 : decode cX10_wrongs 36 = .ok (.ireturn, 1) := by decide +kernel
theorem dX10_seen_0 : decode cX10_seen 0 = .ok (.iload_n 1, 1) := by decide +kernel
theorem dX10_seen_1 : decode cX10_seen 1 = .ok (.aload_n 0, 1) := by decide +kernel
theorem dX10_seen_2 : decode cX10_seen 2 = .ok (.getfield 113, 3) := by decide +kernel
theorem dX10_seen_5 : decode cX10_seen 5 = .ok (.if_icmp .lt 16, 3) := by decide +kernel
theorem dX10_seen_8 : decode cX10_seen 8 = .ok (.iload_n 1, 1) := by decide +kernel
theorem dX10_seen_9 : decode cX10_seen 9 = .ok (.aload_n 0, 1) := by decide +kernel
theorem dX10_seen_10 : decode cX10_seen 10 = .ok (.getfield 7, 3) := by decide +kernel
theorem dX10_seen_13 : decode cX10_seen 13 = .ok (.iadd, 1) := by decide +kernel
theorem dX10_seen_14 : decode cX10_seen 14 = .ok (.aload_n 0, 1) := by decide +kernel
theorem dX10_seen_15 : decode cX10_seen 15 = .ok (.invokevirtual 100, 3) := by decide +kernel
theorem dX10_seen_18 : decode cX10_seen 18 = .ok (.if_icmp .ge 7, 3) := by decide +kernel
theorem dX10_seen_21 : decode cX10_seen 21 = .ok (.iconst 1, 1) := by decide +kernel
theorem dX10_seen_22 : decode cX10_seen 22 = .ok (.goto 4, 3) := by decide +kernel
theorem dX10_seen_25 : decode cX10_seen 25 = .ok (.iconst 0, 1) := by decide +kernel
theorem dX10_seen_26 : decode cX10_seen 26 = .ok (.ireturn, 1) := by decide +kernel
theorem dX10_allWrong_0 : decode cX10_allWrong 0 = .ok (.iconst 0, 1) := by decide +kernel
theorem dX10_allWrong_1 : decode cX10_allWrong 1 = .ok (.istore_n 2, 1) := by decide +kernel
theorem dX10_allWrong_2 : decode cX10_allWrong 2 = .ok (.iconst 0, 1) := by decide +kernel
theorem dX10_allWrong_3 : decode cX10_allWrong 3 = .ok (.istore_n 3, 1) := by decide +kernel
theorem dX10_allWrong_4 : decode cX10_allWrong 4 = .ok (.iload_n 3, 1) := by decide +kernel
theorem dX10_allWrong_5 : decode cX10_allWrong 5 = .ok (.aload_n 0, 1) := by decide +kernel
theorem dX10_allWrong_6 : decode cX10_allWrong 6 = .ok (.invokevirtual 100, 3) := by decide +kernel
theorem dX10_allWrong_9 : decode cX10_allWrong 9 = .ok (.if_icmp .ge 33, 3) := by decide +kernel
theorem dX10_allWrong_12 : decode cX10_allWrong 12 = .ok (.iload_n 2, 1) := by decide +kernel
theorem dX10_allWrong_13 : decode cX10_allWrong 13 = .ok (.iload_n 1, 1) := by decide +kernel
theorem dX10_allWrong_14 : decode cX10_allWrong 14 = .ok (.ifCond .eq 15, 3) := by decide +kernel
theorem dX10_allWrong_17 : decode cX10_allWrong 17 = .ok (.aload_n 0, 1) := by decide +kernel
theorem dX10_allWrong_18 : decode cX10_allWrong 18 = .ok (.iload_n 3, 1) := by decide +kernel
theorem dX10_allWrong_19 : decode cX10_allWrong 19 = .ok (.invokevirtual 116, 3) := by decide +kernel
theorem dX10_allWrong_22 : decode cX10_allWrong 22 = .ok (.ifCond .ne 7, 3) := by decide +kernel
theorem dX10_allWrong_25 : decode cX10_allWrong 25 = .ok (.iconst 0, 1) := by decide +kernel
theorem dX10_allWrong_26 : decode cX10_allWrong 26 = .ok (.goto 8, 3) := by decide +kernel
theorem dX10_allWrong_29 : decode cX10_allWrong 29 = .ok (.aload_n 0, 1) := by decide +kernel
theorem dX10_allWrong_30 : decode cX10_allWrong 30 = .ok (.iload_n 3, 1) := by decide +kernel
theorem dX10_allWrong_31 : decode cX10_allWrong 31 = .ok (.invokevirtual 120, 3) := by decide +kernel
theorem dX10_allWrong_34 : decode cX10_allWrong 34 = .ok (.iadd, 1) := by decide +kernel
theorem dX10_allWrong_35 : decode cX10_allWrong 35 = .ok (.istore_n 2, 1) := by decide +kernel
theorem dX10_allWrong_36 : decode cX10_allWrong 36 = .ok (.iinc 3 1, 3) := by decide +kernel
theorem dX10_allWrong_39 : decode cX10_allWrong 39 = .ok (.goto (-35), 3) := by decide +kernel
theorem dX10_allWrong_42 : decode cX10_allWrong 42 = .ok (.iload_n 2, 1) := by decide +kernel
theorem dX10_allWrong_43 : decode cX10_allWrong 43 = .ok (.ireturn, 1) := by decide +kernel
theorem dX10_joins_0 : decode cX10_joins 0 = .ok (.iconst 0, 1) := by decide +kernel
theorem dX10_joins_1 : decode cX10_joins 1 = .ok (.istore_n 2, 1) := by decide +kernel
theorem dX10_joins_2 : decode cX10_joins 2 = .ok (.iconst 1, 1) := by decide +kernel
theorem dX10_joins_3 : decode cX10_joins 3 = .ok (.istore_n 3, 1) := by decide +kernel
theorem dX10_joins_4 : decode cX10_joins 4 = .ok (.iload_n 3, 1) := by decide +kernel
theorem dX10_joins_5 : decode cX10_joins 5 = .ok (.aload_n 0, 1) := by decide +kernel
theorem dX10_joins_6 : decode cX10_joins 6 = .ok (.getfield 27, 3) := by decide +kernel
theorem dX10_joins_9 : decode cX10_joins 9 = .ok (.if_icmp .ge 34, 3) := by decide +kernel
theorem dX10_joins_12 : decode cX10_joins 12 = .ok (.iload_n 2, 1) := by decide +kernel
theorem dX10_joins_13 : decode cX10_joins 13 = .ok (.aload_n 0, 1) := by decide +kernel
theorem dX10_joins_14 : decode cX10_joins 14 = .ok (.iload_n 3, 1) := by decide +kernel
theorem dX10_joins_15 : decode cX10_joins 15 = .ok (.iload_n 1, 1) := by decide +kernel
theorem dX10_joins_16 : decode cX10_joins 16 = .ok (.invokevirtual 103, 3) := by decide +kernel
theorem dX10_joins_19 : decode cX10_joins 19 = .ok (.aload_n 0, 1) := by decide +kernel
theorem dX10_joins_20 : decode cX10_joins 20 = .ok (.iload_n 3, 1) := by decide +kernel
theorem dX10_joins_21 : decode cX10_joins 21 = .ok (.iconst 1, 1) := by decide +kernel
theorem dX10_joins_22 : decode cX10_joins 22 = .ok (.isub, 1) := by decide +kernel
theorem dX10_joins_23 : decode cX10_joins 23 = .ok (.iload_n 1, 1) := by decide +kernel
theorem dX10_joins_24 : decode cX10_joins 24 = .ok (.invokevirtual 103, 3) := by decide +kernel
theorem dX10_joins_27 : decode cX10_joins 27 = .ok (.if_icmp .ne 7, 3) := by decide +kernel
theorem dX10_joins_30 : decode cX10_joins 30 = .ok (.iconst 0, 1) := by decide +kernel
theorem dX10_joins_31 : decode cX10_joins 31 = .ok (.goto 4, 3) := by decide +kernel
theorem dX10_joins_34 : decode cX10_joins 34 = .ok (.iconst 1, 1) := by decide +kernel
theorem dX10_joins_35 : decode cX10_joins 35 = .ok (.iadd, 1) := by decide +kernel
theorem dX10_joins_36 : decode cX10_joins 36 = .ok (.istore_n 2, 1) := by decide +kernel
theorem dX10_joins_37 : decode cX10_joins 37 = .ok (.iinc 3 1, 3) := by decide +kernel
theorem dX10_joins_40 : decode cX10_joins 40 = .ok (.goto (-36), 3) := by decide +kernel
theorem dX10_joins_43 : decode cX10_joins 43 = .ok (.iload_n 2, 1) := by decide +kernel
theorem dX10_joins_44 : decode cX10_joins 44 = .ok (.ireturn, 1) := by decide +kernel
theorem dX10_due_0 : decode cX10_due 0 = .ok (.aload_n 0, 1) := by decide +kernel
theorem dX10_due_1 : decode cX10_due 1 = .ok (.iload_n 1, 1) := by decide +kernel
theorem dX10_due_2 : decode cX10_due 2 = .ok (.iload_n 2, 1) := by decide +kernel
theorem dX10_due_3 : decode cX10_due 3 = .ok (.invokevirtual 103, 3) := by decide +kernel
theorem dX10_due_6 : decode cX10_due 6 = .ok (.ifCond .lt 12, 3) := by decide +kernel
theorem dX10_due_9 : decode cX10_due 9 = .ok (.aload_n 0, 1) := by decide +kernel
theorem dX10_due_10 : decode cX10_due 10 = .ok (.iload_n 1, 1) := by decide +kernel
theorem dX10_due_11 : decode cX10_due 11 = .ok (.iload_n 2, 1) := by decide +kernel
theorem dX10_due_12 : decode cX10_due 12 = .ok (.invokevirtual 103, 3) := by decide +kernel
theorem dX10_due_15 : decode cX10_due 15 = .ok (.goto 24, 3) := by decide +kernel
theorem dX10_due_18 : decode cX10_due 18 = .ok (.aload_n 0, 1) := by decide +kernel
theorem dX10_due_19 : decode cX10_due 19 = .ok (.iload_n 3, 1) := by decide +kernel
theorem dX10_due_20 : decode cX10_due 20 = .ok (.ifCond .eq 14, 3) := by decide +kernel
theorem dX10_due_23 : decode cX10_due 23 = .ok (.aload_n 0, 1) := by decide +kernel
theorem dX10_due_24 : decode cX10_due 24 = .ok (.getfield 27, 3) := by decide +kernel
theorem dX10_due_27 : decode cX10_due 27 = .ok (.iconst 1, 1) := by decide +kernel
theorem dX10_due_28 : decode cX10_due 28 = .ok (.isub, 1) := by decide +kernel
theorem dX10_due_29 : decode cX10_due 29 = .ok (.iload_n 1, 1) := by decide +kernel
theorem dX10_due_30 : decode cX10_due 30 = .ok (.isub, 1) := by decide +kernel
theorem dX10_due_31 : decode cX10_due 31 = .ok (.goto 4, 3) := by decide +kernel
theorem dX10_due_34 : decode cX10_due 34 = .ok (.iload_n 1, 1) := by decide +kernel
theorem dX10_due_35 : decode cX10_due 35 = .ok (.iload_n 2, 1) := by decide +kernel
theorem dX10_due_36 : decode cX10_due 36 = .ok (.invokevirtual 107, 3) := by decide +kernel
theorem dX10_due_39 : decode cX10_due 39 = .ok (.ireturn, 1) := by decide +kernel
theorem dX10_enough_0 : decode cX10_enough 0 = .ok (.aload_n 0, 1) := by decide +kernel
theorem dX10_enough_1 : decode cX10_enough 1 = .ok (.getfield 13, 3) := by decide +kernel
theorem dX10_enough_4 : decode cX10_enough 4 = .ok (.invokevirtual 123, 3) := by decide +kernel
theorem dX10_enough_7 : decode cX10_enough 7 = .ok (.checkcast 55, 3) := by decide +kernel
theorem dX10_enough_10 : decode cX10_enough 10 = .ok (.astore_n 3, 1) := by decide +kernel
theorem dX10_enough_11 : decode cX10_enough 11 = .ok (.aload_n 0, 1) := by decide +kernel
theorem dX10_enough_12 : decode cX10_enough 12 = .ok (.invokevirtual 100, 3) := by decide +kernel
theorem dX10_enough_15 : decode cX10_enough 15 = .ok (.istore 4, 2) := by decide +kernel
theorem dX10_enough_17 : decode cX10_enough 17 = .ok (.iload 4, 2) := by decide +kernel
theorem dX10_enough_19 : decode cX10_enough 19 = .ok (.aload_n 0, 1) := by decide +kernel
theorem dX10_enough_20 : decode cX10_enough 20 = .ok (.invokevirtual 100, 3) := by decide +kernel
theorem dX10_enough_23 : decode cX10_enough 23 = .ok (.iload_n 1, 1) := by decide +kernel
theorem dX10_enough_24 : decode cX10_enough 24 = .ok (.iadd, 1) := by decide +kernel
theorem dX10_enough_25 : decode cX10_enough 25 = .ok (.if_icmp .ge 53, 3) := by decide +kernel
theorem dX10_enough_28 : decode cX10_enough 28 = .ok (.iconst 0, 1) := by decide +kernel
theorem dX10_enough_29 : decode cX10_enough 29 = .ok (.istore 5, 2) := by decide +kernel
theorem dX10_enough_31 : decode cX10_enough 31 = .ok (.iload 5, 2) := by decide +kernel
theorem dX10_enough_33 : decode cX10_enough 33 = .ok (.aload_n 0, 1) := by decide +kernel
theorem dX10_enough_34 : decode cX10_enough 34 = .ok (.getfield 27, 3) := by decide +kernel
theorem dX10_enough_37 : decode cX10_enough 37 = .ok (.if_icmp .ge 35, 3) := by decide +kernel
theorem dX10_enough_40 : decode cX10_enough 40 = .ok (.aload_n 0, 1) := by decide +kernel
theorem dX10_enough_41 : decode cX10_enough 41 = .ok (.iload 5, 2) := by decide +kernel
theorem dX10_enough_43 : decode cX10_enough 43 = .ok (.iload 4, 2) := by decide +kernel
theorem dX10_enough_45 : decode cX10_enough 45 = .ok (.invokevirtual 103, 3) := by decide +kernel
theorem dX10_enough_48 : decode cX10_enough 48 = .ok (.ifCond .ge 18, 3) := by decide +kernel
theorem dX10_enough_51 : decode cX10_enough 51 = .ok (.aload_n 3, 1) := by decide +kernel
theorem dX10_enough_52 : decode cX10_enough 52 = .ok (.aload_n 0, 1) := by decide +kernel
theorem dX10_enough_53 : decode cX10_enough 53 = .ok (.iload 5, 2) := by decide +kernel
theorem dX10_enough_55 : decode cX10_enough 55 = .ok (.iload 4, 2) := by decide +kernel
theorem dX10_enough_57 : decode cX10_enough 57 = .ok (.iload_n 2, 1) := by decide +kernel
theorem dX10_enough_58 : decode cX10_enough 58 = .ok (.invokevirtual 126, 3) := by decide +kernel
theorem dX10_enough_61 : decode cX10_enough 61 = .ok (.dup2, 1) := by decide +kernel
theorem dX10_enough_62 : decode cX10_enough 62 = .ok (.iaload, 1) := by decide +kernel
theorem dX10_enough_63 : decode cX10_enough 63 = .ok (.iconst 1, 1) := by decide +kernel
theorem dX10_enough_64 : decode cX10_enough 64 = .ok (.isub, 1) := by decide +kernel
theorem dX10_enough_65 : decode cX10_enough 65 = .ok (.iastore, 1) := by decide +kernel
theorem dX10_enough_66 : decode cX10_enough 66 = .ok (.iinc 5 1, 3) := by decide +kernel
theorem dX10_enough_69 : decode cX10_enough 69 = .ok (.goto (-38), 3) := by decide +kernel
theorem dX10_enough_72 : decode cX10_enough 72 = .ok (.iinc 4 1, 3) := by decide +kernel
theorem dX10_enough_75 : decode cX10_enough 75 = .ok (.goto (-58), 3) := by decide +kernel
theorem dX10_enough_78 : decode cX10_enough 78 = .ok (.aload_n 3, 1) := by decide +kernel
theorem dX10_enough_79 : decode cX10_enough 79 = .ok (.astore 4, 2) := by decide +kernel
theorem dX10_enough_81 : decode cX10_enough 81 = .ok (.aload 4, 2) := by decide +kernel
theorem dX10_enough_83 : decode cX10_enough 83 = .ok (.arraylength, 1) := by decide +kernel
theorem dX10_enough_84 : decode cX10_enough 84 = .ok (.istore 5, 2) := by decide +kernel
theorem dX10_enough_86 : decode cX10_enough 86 = .ok (.iconst 0, 1) := by decide +kernel
theorem dX10_enough_87 : decode cX10_enough 87 = .ok (.istore 6, 2) := by decide +kernel
theorem dX10_enough_89 : decode cX10_enough 89 = .ok (.iload 6, 2) := by decide +kernel
theorem dX10_enough_91 : decode cX10_enough 91 = .ok (.iload 5, 2) := by decide +kernel
theorem dX10_enough_93 : decode cX10_enough 93 = .ok (.if_icmp .ge 23, 3) := by decide +kernel
theorem dX10_enough_96 : decode cX10_enough 96 = .ok (.aload 4, 2) := by decide +kernel
theorem dX10_enough_98 : decode cX10_enough 98 = .ok (.iload 6, 2) := by decide +kernel
theorem dX10_enough_100 : decode cX10_enough 100 = .ok (.iaload, 1) := by decide +kernel
theorem dX10_enough_101 : decode cX10_enough 101 = .ok (.istore 7, 2) := by decide +kernel
theorem dX10_enough_103 : decode cX10_enough 103 = .ok (.iload 7, 2) := by decide +kernel
theorem dX10_enough_105 : decode cX10_enough 105 = .ok (.ifCond .ge 5, 3) := by decide +kernel
theorem dX10_enough_108 : decode cX10_enough 108 = .ok (.iconst 0, 1) := by decide +kernel
theorem dX10_enough_109 : decode cX10_enough 109 = .ok (.ireturn, 1) := by decide +kernel
theorem dX10_enough_110 : decode cX10_enough 110 = .ok (.iinc 6 1, 3) := by decide +kernel
theorem dX10_enough_113 : decode cX10_enough 113 = .ok (.goto (-24), 3) := by decide +kernel
theorem dX10_enough_116 : decode cX10_enough 116 = .ok (.iconst 1, 1) := by decide +kernel
theorem dX10_enough_117 : decode cX10_enough 117 = .ok (.ireturn, 1) := by decide +kernel
theorem dX10_picture_0 : decode cX10_picture 0 = .ok (.iconst 0, 1) := by decide +kernel
theorem dX10_picture_1 : decode cX10_picture 1 = .ok (.istore 4, 2) := by decide +kernel
theorem dX10_picture_3 : decode cX10_picture 3 = .ok (.iconst 0, 1) := by decide +kernel
theorem dX10_picture_4 : decode cX10_picture 4 = .ok (.istore 5, 2) := by decide +kernel
theorem dX10_picture_6 : decode cX10_picture 6 = .ok (.iload 5, 2) := by decide +kernel
theorem dX10_picture_8 : decode cX10_picture 8 = .ok (.iconst 5, 1) := by decide +kernel
theorem dX10_picture_9 : decode cX10_picture 9 = .ok (.if_icmp .ge 110, 3) := by decide +kernel
theorem dX10_picture_12 : decode cX10_picture 12 = .ok (.iconst 0, 1) := by decide +kernel
theorem dX10_picture_13 : decode cX10_picture 13 = .ok (.istore 6, 2) := by decide +kernel
theorem dX10_picture_15 : decode cX10_picture 15 = .ok (.iload 6, 2) := by decide +kernel
theorem dX10_picture_17 : decode cX10_picture 17 = .ok (.iconst 3, 1) := by decide +kernel
theorem dX10_picture_18 : decode cX10_picture 18 = .ok (.if_icmp .ge 95, 3) := by decide +kernel
theorem dX10_picture_21 : decode cX10_picture 21 = .ok (.aload_n 1, 1) := by decide +kernel
theorem dX10_picture_22 : decode cX10_picture 22 = .ok (.getfield 61, 3) := by decide +kernel
theorem dX10_picture_25 : decode cX10_picture 25 = .ok (.iconst 4, 1) := by decide +kernel
theorem dX10_picture_26 : decode cX10_picture 26 = .ok (.iload_n 2, 1) := by decide +kernel
theorem dX10_picture_27 : decode cX10_picture 27 = .ok (.imul, 1) := by decide +kernel
theorem dX10_picture_28 : decode cX10_picture 28 = .ok (.iadd, 1) := by decide +kernel
theorem dX10_picture_29 : decode cX10_picture 29 = .ok (.iload 6, 2) := by decide +kernel
theorem dX10_picture_31 : decode cX10_picture 31 = .ok (.iadd, 1) := by decide +kernel
theorem dX10_picture_32 : decode cX10_picture 32 = .ok (.istore 7, 2) := by decide +kernel
theorem dX10_picture_34 : decode cX10_picture 34 = .ok (.aload_n 1, 1) := by decide +kernel
theorem dX10_picture_35 : decode cX10_picture 35 = .ok (.getfield 56, 3) := by decide +kernel
theorem dX10_picture_38 : decode cX10_picture 38 = .ok (.ifCond .ne 8, 3) := by decide +kernel
theorem dX10_picture_41 : decode cX10_picture 41 = .ok (.iload 7, 2) := by decide +kernel
theorem dX10_picture_43 : decode cX10_picture 43 = .ok (.goto 12, 3) := by decide +kernel
theorem dX10_picture_46 : decode cX10_picture 46 = .ok (.aload_n 0, 1) := by decide +kernel
theorem dX10_picture_47 : decode cX10_picture 47 = .ok (.getfield 27, 3) := by decide +kernel
theorem dX10_picture_50 : decode cX10_picture 50 = .ok (.iconst 1, 1) := by decide +kernel
theorem dX10_picture_51 : decode cX10_picture 51 = .ok (.isub, 1) := by decide +kernel
theorem dX10_picture_52 : decode cX10_picture 52 = .ok (.iload 7, 2) := by decide +kernel
theorem dX10_picture_54 : decode cX10_picture 54 = .ok (.isub, 1) := by decide +kernel
theorem dX10_picture_55 : decode cX10_picture 55 = .ok (.istore 8, 2) := by decide +kernel
theorem dX10_picture_57 : decode cX10_picture 57 = .ok (.iload 4, 2) := by decide +kernel
theorem dX10_picture_59 : decode cX10_picture 59 = .ok (.iconst 2, 1) := by decide +kernel
theorem dX10_picture_60 : decode cX10_picture 60 = .ok (.imul, 1) := by decide +kernel
theorem dX10_picture_61 : decode cX10_picture 61 = .ok (.aload_n 0, 1) := by decide +kernel
theorem dX10_picture_62 : decode cX10_picture 62 = .ok (.iload_n 3, 1) := by decide +kernel
theorem dX10_picture_63 : decode cX10_picture 63 = .ok (.ifCond .eq 15, 3) := by decide +kernel
theorem dX10_picture_66 : decode cX10_picture 66 = .ok (.aload_n 0, 1) := by decide +kernel
theorem dX10_picture_67 : decode cX10_picture 67 = .ok (.getfield 27, 3) := by decide +kernel
theorem dX10_picture_70 : decode cX10_picture 70 = .ok (.iconst 1, 1) := by decide +kernel
theorem dX10_picture_71 : decode cX10_picture 71 = .ok (.isub, 1) := by decide +kernel
theorem dX10_picture_72 : decode cX10_picture 72 = .ok (.iload 8, 2) := by decide +kernel
theorem dX10_picture_74 : decode cX10_picture 74 = .ok (.isub, 1) := by decide +kernel
theorem dX10_picture_75 : decode cX10_picture 75 = .ok (.goto 5, 3) := by decide +kernel
theorem dX10_picture_78 : decode cX10_picture 78 = .ok (.iload 8, 2) := by decide +kernel
theorem dX10_picture_80 : decode cX10_picture 80 = .ok (.aload_n 1, 1) := by decide +kernel
theorem dX10_picture_81 : decode cX10_picture 81 = .ok (.getfield 82, 3) := by decide +kernel
theorem dX10_picture_84 : decode cX10_picture 84 = .ok (.iconst 4, 1) := by decide +kernel
theorem dX10_picture_85 : decode cX10_picture 85 = .ok (.iadd, 1) := by decide +kernel
theorem dX10_picture_86 : decode cX10_picture 86 = .ok (.iload 5, 2) := by decide +kernel
theorem dX10_picture_88 : decode cX10_picture 88 = .ok (.isub, 1) := by decide +kernel
theorem dX10_picture_89 : decode cX10_picture 89 = .ok (.invokevirtual 103, 3) := by decide +kernel
theorem dX10_picture_92 : decode cX10_picture 92 = .ok (.aload_n 1, 1) := by decide +kernel
theorem dX10_picture_93 : decode cX10_picture 93 = .ok (.getfield 89, 3) := by decide +kernel
theorem dX10_picture_96 : decode cX10_picture 96 = .ok (.if_icmp .ne 7, 3) := by decide +kernel
theorem dX10_picture_99 : decode cX10_picture 99 = .ok (.iconst 1, 1) := by decide +kernel
theorem dX10_picture_100 : decode cX10_picture 100 = .ok (.goto 4, 3) := by decide +kernel
theorem dX10_picture_103 : decode cX10_picture 103 = .ok (.iconst 0, 1) := by decide +kernel
theorem dX10_picture_104 : decode cX10_picture 104 = .ok (.iadd, 1) := by decide +kernel
theorem dX10_picture_105 : decode cX10_picture 105 = .ok (.istore 4, 2) := by decide +kernel
theorem dX10_picture_107 : decode cX10_picture 107 = .ok (.iinc 6 1, 3) := by decide +kernel
theorem dX10_picture_110 : decode cX10_picture 110 = .ok (.goto (-95), 3) := by decide +kernel
theorem dX10_picture_113 : decode cX10_picture 113 = .ok (.iinc 5 1, 3) := by decide +kernel
theorem dX10_picture_116 : decode cX10_picture 116 = .ok (.goto (-110), 3) := by decide +kernel
theorem dX10_picture_119 : decode cX10_picture 119 = .ok (.iload 4, 2) := by decide +kernel
theorem dX10_picture_121 : decode cX10_picture 121 = .ok (.ireturn, 1) := by decide +kernel
