theorem dX0_init_0 : decode cX0_init 0 = .ok (.aload_n 0, 1) := by decide +kernel
theorem dX0_init_1 : decode cX0_init 1 = .ok (.invokespecial 3, 3) := by decide +kernel
theorem dX0_init_4 : decode cX0_init 4 = .ok (.aload_n 0, 1) := by decide +kernel
theorem dX0_init_5 : decode cX0_init 5 = .ok (.sipush 400, 3) := by decide +kernel
theorem dX0_init_8 : decode cX0_init 8 = .ok (.newarray .int, 2) := by decide +kernel
theorem dX0_init_10 : decode cX0_init 10 = .ok (.putfield 9, 3) := by decide +kernel
theorem dX0_init_13 : decode cX0_init 13 = .ok (.return_, 1) := by decide +kernel
theorem dX0_size_0 : decode cX0_size 0 = .ok (.aload_n 0, 1) := by decide +kernel
theorem dX0_size_1 : decode cX0_size 1 = .ok (.getfield 15, 3) := by decide +kernel
theorem dX0_size_4 : decode cX0_size 4 = .ok (.ireturn, 1) := by decide +kernel
theorem dX0_cutTo_0 : decode cX0_cutTo 0 = .ok (.aload_n 0, 1) := by decide +kernel
theorem dX0_cutTo_1 : decode cX0_cutTo 1 = .ok (.iload_n 1, 1) := by decide +kernel
theorem dX0_cutTo_2 : decode cX0_cutTo 2 = .ok (.putfield 15, 3) := by decide +kernel
theorem dX0_cutTo_5 : decode cX0_cutTo 5 = .ok (.return_, 1) := by decide +kernel
theorem dX0_addByte_0 : decode cX0_addByte 0 = .ok (.aload_n 0, 1) := by decide +kernel
theorem dX0_addByte_1 : decode cX0_addByte 1 = .ok (.getfield 15, 3) := by decide +kernel
theorem dX0_addByte_4 : decode cX0_addByte 4 = .ok (.aload_n 0, 1) := by decide +kernel
theorem dX0_addByte_5 : decode cX0_addByte 5 = .ok (.getfield 9, 3) := by decide +kernel
theorem dX0_addByte_8 : decode cX0_addByte 8 = .ok (.arraylength, 1) := by decide +kernel
theorem dX0_addByte_9 : decode cX0_addByte 9 = .ok (.if_icmp .ge 25, 3) := by decide +kernel
theorem dX0_addByte_12 : decode cX0_addByte 12 = .ok (.aload_n 0, 1) := by decide +kernel
theorem dX0_addByte_13 : decode cX0_addByte 13 = .ok (.getfield 9, 3) := by decide +kernel
theorem dX0_addByte_16 : decode cX0_addByte 16 = .ok (.aload_n 0, 1) := by decide +kernel
theorem dX0_addByte_17 : decode cX0_addByte 17 = .ok (.getfield 15, 3) := by decide +kernel
theorem dX0_addByte_20 : decode cX0_addByte 20 = .ok (.iload_n 1, 1) := by decide +kernel
theorem dX0_addByte_21 : decode cX0_addByte 21 = .ok (.invokestatic 19, 3) := by decide +kernel
theorem dX0_addByte_24 : decode cX0_addByte 24 = .ok (.aload_n 0, 1) := by decide +kernel
theorem dX0_addByte_25 : decode cX0_addByte 25 = .ok (.dup, 1) := by decide +kernel
theorem dX0_addByte_26 : decode cX0_addByte 26 = .ok (.getfield 15, 3) := by decide +kernel
theorem dX0_addByte_29 : decode cX0_addByte 29 = .ok (.iconst 1, 1) := by decide +kernel
theorem dX0_addByte_30 : decode cX0_addByte 30 = .ok (.iadd, 1) := by decide +kernel
theorem dX0_addByte_31 : decode cX0_addByte 31 = .ok (.putfield 15, 3) := by decide +kernel
theorem dX0_addByte_34 : decode cX0_addByte 34 = .ok (.return_, 1) := by decide +kernel
theorem dX0_byteAt_0 : decode cX0_byteAt 0 = .ok (.iload_n 1, 1) := by decide +kernel
theorem dX0_byteAt_1 : decode cX0_byteAt 1 = .ok (.ifCond .lt 29, 3) := by decide +kernel
theorem dX0_byteAt_4 : decode cX0_byteAt 4 = .ok (.iload_n 1, 1) := by decide +kernel
theorem dX0_byteAt_5 : decode cX0_byteAt 5 = .ok (.aload_n 0, 1) := by decide +kernel
theorem dX0_byteAt_6 : decode cX0_byteAt 6 = .ok (.getfield 15, 3) := by decide +kernel
theorem dX0_byteAt_9 : decode cX0_byteAt 9 = .ok (.if_icmp .ge 21, 3) := by decide +kernel
theorem dX0_byteAt_12 : decode cX0_byteAt 12 = .ok (.iload_n 1, 1) := by decide +kernel
theorem dX0_byteAt_13 : decode cX0_byteAt 13 = .ok (.aload_n 0, 1) := by decide +kernel
theorem dX0_byteAt_14 : decode cX0_byteAt 14 = .ok (.getfield 9, 3) := by decide +kernel
theorem dX0_byteAt_17 : decode cX0_byteAt 17 = .ok (.arraylength, 1) := by decide +kernel
theorem dX0_byteAt_18 : decode cX0_byteAt 18 = .ok (.if_icmp .ge 12, 3) := by decide +kernel
theorem dX0_byteAt_21 : decode cX0_byteAt 21 = .ok (.aload_n 0, 1) := by decide +kernel
theorem dX0_byteAt_22 : decode cX0_byteAt 22 = .ok (.getfield 9, 3) := by decide +kernel
theorem dX0_byteAt_25 : decode cX0_byteAt 25 = .ok (.iload_n 1, 1) := by decide +kernel
theorem dX0_byteAt_26 : decode cX0_byteAt 26 = .ok (.iaload, 1) := by decide +kernel
theorem dX0_byteAt_27 : decode cX0_byteAt 27 = .ok (.goto 4, 3) := by decide +kernel
theorem dX0_byteAt_30 : decode cX0_byteAt 30 = .ok (.iconst (-1), 1) := by decide +kernel
theorem dX0_byteAt_31 : decode cX0_byteAt 31 = .ok (.ireturn, 1) := by decide +kernel
theorem dX1_init_0 : decode cX1_init 0 = .ok (.aload_n 0, 1) := by decide +kernel
theorem dX1_init_1 : decode cX1_init 1 = .ok (.invokespecial 3, 3) := by decide +kernel
theorem dX1_init_4 : decode cX1_init 4 = .ok (.aload_n 0, 1) := by decide +kernel
theorem dX1_init_5 : decode cX1_init 5 = .ok (.bipush 8, 2) := by decide +kernel
theorem dX1_init_7 : decode cX1_init 7 = .ok (.newarray .int, 2) := by decide +kernel
theorem dX1_init_9 : decode cX1_init 9 = .ok (.putfield 9, 3) := by decide +kernel
theorem dX1_init_12 : decode cX1_init 12 = .ok (.return_, 1) := by decide +kernel
theorem dX1_copyFrom_0 : decode cX1_copyFrom 0 = .ok (.aload_n 1, 1) := by decide +kernel
theorem dX1_copyFrom_1 : decode cX1_copyFrom 1 = .ok (.getfield 9, 3) := by decide +kernel
theorem dX1_copyFrom_4 : decode cX1_copyFrom 4 = .ok (.iconst 0, 1) := by decide +kernel
theorem dX1_copyFrom_5 : decode cX1_copyFrom 5 = .ok (.aload_n 0, 1) := by decide +kernel
theorem dX1_copyFrom_6 : decode cX1_copyFrom 6 = .ok (.getfield 9, 3) := by decide +kernel
theorem dX1_copyFrom_9 : decode cX1_copyFrom 9 = .ok (.iconst 0, 1) := by decide +kernel
theorem dX1_copyFrom_10 : decode cX1_copyFrom 10 = .ok (.aload_n 0, 1) := by decide +kernel
theorem dX1_copyFrom_11 : decode cX1_copyFrom 11 = .ok (.getfield 9, 3) := by decide +kernel
theorem dX1_copyFrom_14 : decode cX1_copyFrom 14 = .ok (.arraylength, 1) := by decide +kernel
theorem dX1_copyFrom_15 : decode cX1_copyFrom 15 = .ok (.invokestatic 15, 3) := by decide +kernel
theorem dX1_copyFrom_18 : decode cX1_copyFrom 18 = .ok (.aload_n 0, 1) := by decide +kernel
theorem dX1_copyFrom_19 : decode cX1_copyFrom 19 = .ok (.aload_n 1, 1) := by decide +kernel
theorem dX1_copyFrom_20 : decode cX1_copyFrom 20 = .ok (.getfield 21, 3) := by decide +kernel
theorem dX1_copyFrom_23 : decode cX1_copyFrom 23 = .ok (.putfield 21, 3) := by decide +kernel
theorem dX1_copyFrom_26 : decode cX1_copyFrom 26 = .ok (.aload_n 0, 1) := by decide +kernel
theorem dX1_copyFrom_27 : decode cX1_copyFrom 27 = .ok (.aload_n 1, 1) := by decide +kernel
theorem dX1_copyFrom_28 : decode cX1_copyFrom 28 = .ok (.getfield 25, 3) := by decide +kernel
theorem dX1_copyFrom_31 : decode cX1_copyFrom 31 = .ok (.putfield 25, 3) := by decide +kernel
theorem dX1_copyFrom_34 : decode cX1_copyFrom 34 = .ok (.aload_n 0, 1) := by decide +kernel
theorem dX1_copyFrom_35 : decode cX1_copyFrom 35 = .ok (.aload_n 1, 1) := by decide +kernel
theorem dX1_copyFrom_36 : decode cX1_copyFrom 36 = .ok (.getfield 28, 3) := by decide +kernel
theorem dX1_copyFrom_39 : decode cX1_copyFrom 39 = .ok (.putfield 28, 3) := by decide +kernel
theorem dX1_copyFrom_42 : decode cX1_copyFrom 42 = .ok (.aload_n 0, 1) := by decide +kernel
theorem dX1_copyFrom_43 : decode cX1_copyFrom 43 = .ok (.aload_n 1, 1) := by decide +kernel
theorem dX1_copyFrom_44 : decode cX1_copyFrom 44 = .ok (.getfield 31, 3) := by decide +kernel
theorem dX1_copyFrom_47 : decode cX1_copyFrom 47 = .ok (.putfield 31, 3) := by decide +kernel
theorem dX1_copyFrom_50 : decode cX1_copyFrom 50 = .ok (.aload_n 0, 1) := by decide +kernel
theorem dX1_copyFrom_51 : decode cX1_copyFrom 51 = .ok (.aload_n 1, 1) := by decide +kernel
theorem dX1_copyFrom_52 : decode cX1_copyFrom 52 = .ok (.getfield 34, 3) := by decide +kernel
theorem dX1_copyFrom_55 : decode cX1_copyFrom 55 = .ok (.putfield 34, 3) := by decide +kernel
theorem dX1_copyFrom_58 : decode cX1_copyFrom 58 = .ok (.return_, 1) := by decide +kernel
theorem dX1_takeWord_0 : decode cX1_takeWord 0 = .ok (.aload_n 0, 1) := by decide +kernel
theorem dX1_takeWord_1 : decode cX1_takeWord 1 = .ok (.iload_n 3, 1) := by decide +kernel
theorem dX1_takeWord_2 : decode cX1_takeWord 2 = .ok (.iload_n 2, 1) := by decide +kernel
theorem dX1_takeWord_3 : decode cX1_takeWord 3 = .ok (.isub, 1) := by decide +kernel
theorem dX1_takeWord_4 : decode cX1_takeWord 4 = .ok (.bipush 8, 2) := by decide +kernel
theorem dX1_takeWord_6 : decode cX1_takeWord 6 = .ok (.invokestatic 37, 3) := by decide +kernel
theorem dX1_takeWord_9 : decode cX1_takeWord 9 = .ok (.putfield 21, 3) := by decide +kernel
theorem dX1_takeWord_12 : decode cX1_takeWord 12 = .ok (.iconst 0, 1) := by decide +kernel
theorem dX1_takeWord_13 : decode cX1_takeWord 13 = .ok (.istore 4, 2) := by decide +kernel
theorem dX1_takeWord_15 : decode cX1_takeWord 15 = .ok (.iload 4, 2) := by decide +kernel
theorem dX1_takeWord_17 : decode cX1_takeWord 17 = .ok (.aload_n 0, 1) := by decide +kernel
theorem dX1_takeWord_18 : decode cX1_takeWord 18 = .ok (.getfield 21, 3) := by decide +kernel
theorem dX1_takeWord_21 : decode cX1_takeWord 21 = .ok (.if_icmp .ge 31, 3) := by decide +kernel
theorem dX1_takeWord_24 : decode cX1_takeWord 24 = .ok (.aload_n 0, 1) := by decide +kernel
theorem dX1_takeWord_25 : decode cX1_takeWord 25 = .ok (.getfield 9, 3) := by decide +kernel
theorem dX1_takeWord_28 : decode cX1_takeWord 28 = .ok (.iload 4, 2) := by decide +kernel
theorem dX1_takeWord_30 : decode cX1_takeWord 30 = .ok (.aload_n 1, 1) := by decide +kernel
theorem dX1_takeWord_31 : decode cX1_takeWord 31 = .ok (.iload_n 2, 1) := by decide +kernel
theorem dX1_takeWord_32 : decode cX1_takeWord 32 = .ok (.iload 4, 2) := by decide +kernel
theorem dX1_takeWord_34 : decode cX1_takeWord 34 = .ok (.iadd, 1) := by decide +kernel
theorem dX1_takeWord_35 : decode cX1_takeWord 35 = .ok (.invokevirtual 43, 3) := by decide +kernel
theorem dX1_takeWord_38 : decode cX1_takeWord 38 = .ok (.bipush 97, 2) := by decide +kernel
theorem dX1_takeWord_40 : decode cX1_takeWord 40 = .ok (.isub, 1) := by decide +kernel
theorem dX1_takeWord_41 : decode cX1_takeWord 41 = .ok (.iconst 1, 1) := by decide +kernel
theorem dX1_takeWord_42 : decode cX1_takeWord 42 = .ok (.iadd, 1) := by decide +kernel
theorem dX1_takeWord_43 : decode cX1_takeWord 43 = .ok (.invokestatic 49, 3) := by decide +kernel
theorem dX1_takeWord_46 : decode cX1_takeWord 46 = .ok (.iinc 4 1, 3) := by decide +kernel
theorem dX1_takeWord_49 : decode cX1_takeWord 49 = .ok (.goto (-34), 3) := by decide +kernel
theorem dX1_takeWord_52 : decode cX1_takeWord 52 = .ok (.return_, 1) := by decide +kernel
theorem dX1_putAt_0 : decode cX1_putAt 0 = .ok (.aload_n 0, 1) := by decide +kernel
theorem dX1_putAt_1 : decode cX1_putAt 1 = .ok (.iload_n 1, 1) := by decide +kernel
theorem dX1_putAt_2 : decode cX1_putAt 2 = .ok (.putfield 28, 3) := by decide +kernel
theorem dX1_putAt_5 : decode cX1_putAt 5 = .ok (.aload_n 0, 1) := by decide +kernel
theorem dX1_putAt_6 : decode cX1_putAt 6 = .ok (.iload_n 2, 1) := by decide +kernel
theorem dX1_putAt_7 : decode cX1_putAt 7 = .ok (.putfield 31, 3) := by decide +kernel
theorem dX1_putAt_10 : decode cX1_putAt 10 = .ok (.return_, 1) := by decide +kernel
theorem dX1_letterAt_0 : decode cX1_letterAt 0 = .ok (.aload_n 0, 1) := by decide +kernel
theorem dX1_letterAt_1 : decode cX1_letterAt 1 = .ok (.getfield 9, 3) := by decide +kernel
theorem dX1_letterAt_4 : decode cX1_letterAt 4 = .ok (.iload_n 1, 1) := by decide +kernel
theorem dX1_letterAt_5 : decode cX1_letterAt 5 = .ok (.invokestatic 53, 3) := by decide +kernel
theorem dX1_letterAt_8 : decode cX1_letterAt 8 = .ok (.ireturn, 1) := by decide +kernel
theorem dX1_glyphAt_0 : decode cX1_glyphAt 0 = .ok (.getstatic 57, 3) := by decide +kernel
theorem dX1_glyphAt_3 : decode cX1_glyphAt 3 = .ok (.aload_n 0, 1) := by decide +kernel
theorem dX1_glyphAt_4 : decode cX1_glyphAt 4 = .ok (.iload_n 1, 1) := by decide +kernel
theorem dX1_glyphAt_5 : decode cX1_glyphAt 5 = .ok (.invokevirtual 60, 3) := by decide +kernel
theorem dX1_glyphAt_8 : decode cX1_glyphAt 8 = .ok (.iconst 1, 1) := by decide +kernel
theorem dX1_glyphAt_9 : decode cX1_glyphAt 9 = .ok (.isub, 1) := by decide +kernel
theorem dX1_glyphAt_10 : decode cX1_glyphAt 10 = .ok (.invokestatic 53, 3) := by decide +kernel
theorem dX1_glyphAt_13 : decode cX1_glyphAt 13 = .ok (.ireturn, 1) := by decide +kernel
theorem dX1_boxWidth_0 : decode cX1_boxWidth 0 = .ok (.iconst 4, 1) := by decide +kernel
theorem dX1_boxWidth_1 : decode cX1_boxWidth 1 = .ok (.aload_n 0, 1) := by decide +kernel
theorem dX1_boxWidth_2 : decode cX1_boxWidth 2 = .ok (.getfield 21, 3) := by decide +kernel
theorem dX1_boxWidth_5 : decode cX1_boxWidth 5 = .ok (.imul, 1) := by decide +kernel
theorem dX1_boxWidth_6 : decode cX1_boxWidth 6 = .ok (.iconst 1, 1) := by decide +kernel
theorem dX1_boxWidth_7 : decode cX1_boxWidth 7 = .ok (.isub, 1) := by decide +kernel
theorem dX1_boxWidth_8 : decode cX1_boxWidth 8 = .ok (.ireturn, 1) := by decide +kernel
theorem dX1_leftColumn_0 : decode cX1_leftColumn 0 = .ok (.aload_n 0, 1) := by decide +kernel
theorem dX1_leftColumn_1 : decode cX1_leftColumn 1 = .ok (.getfield 25, 3) := by decide +kernel
theorem dX1_leftColumn_4 : decode cX1_leftColumn 4 = .ok (.ifCond .ne 10, 3) := by decide +kernel
theorem dX1_leftColumn_7 : decode cX1_leftColumn 7 = .ok (.aload_n 0, 1) := by decide +kernel
theorem dX1_leftColumn_8 : decode cX1_leftColumn 8 = .ok (.getfield 28, 3) := by decide +kernel
theorem dX1_leftColumn_11 : decode cX1_leftColumn 11 = .ok (.goto 14, 3) := by decide +kernel
theorem dX1_leftColumn_14 : decode cX1_leftColumn 14 = .ok (.iload_n 1, 1) := by decide +kernel
theorem dX1_leftColumn_15 : decode cX1_leftColumn 15 = .ok (.aload_n 0, 1) := by decide +kernel
theorem dX1_leftColumn_16 : decode cX1_leftColumn 16 = .ok (.getfield 28, 3) := by decide +kernel
theorem dX1_leftColumn_19 : decode cX1_leftColumn 19 = .ok (.isub, 1) := by decide +kernel
theorem dX1_leftColumn_20 : decode cX1_leftColumn 20 = .ok (.aload_n 0, 1) := by decide +kernel
theorem dX1_leftColumn_21 : decode cX1_leftColumn 21 = .ok (.invokevirtual 63, 3) := by decide +kernel
theorem dX1_leftColumn_24 : decode cX1_leftColumn 24 = .ok (.isub, 1) := by decide +kernel
theorem dX1_leftColumn_25 : decode cX1_leftColumn 25 = .ok (.ireturn, 1) := by decide +kernel
theorem dX1_meets_0 : decode cX1_meets 0 = .ok (.aload_n 0, 1) := by decide +kernel
theorem dX1_meets_1 : decode cX1_meets 1 = .ok (.getfield 25, 3) := by decide +kernel
theorem dX1_meets_4 : decode cX1_meets 4 = .ok (.aload_n 1, 1) := by decide +kernel
theorem dX1_meets_5 : decode cX1_meets 5 = .ok (.getfield 25, 3) := by decide +kernel
theorem dX1_meets_8 : decode cX1_meets 8 = .ok (.if_icmp .ne 10, 3) := by decide +kernel
theorem dX1_meets_11 : decode cX1_meets 11 = .ok (.aload_n 1, 1) := by decide +kernel
theorem dX1_meets_12 : decode cX1_meets 12 = .ok (.getfield 28, 3) := by decide +kernel
theorem dX1_meets_15 : decode cX1_meets 15 = .ok (.goto 14, 3) := by decide +kernel
theorem dX1_meets_18 : decode cX1_meets 18 = .ok (.iload_n 2, 1) := by decide +kernel
theorem dX1_meets_19 : decode cX1_meets 19 = .ok (.aload_n 1, 1) := by decide +kernel
theorem dX1_meets_20 : decode cX1_meets 20 = .ok (.getfield 28, 3) := by decide +kernel
theorem dX1_meets_23 : decode cX1_meets 23 = .ok (.isub, 1) := by decide +kernel
theorem dX1_meets_24 : decode cX1_meets 24 = .ok (.aload_n 1, 1) := by decide +kernel
theorem dX1_meets_25 : decode cX1_meets 25 = .ok (.invokevirtual 63, 3) := by decide +kernel
theorem dX1_meets_28 : decode cX1_meets 28 = .ok (.isub, 1) := by decide +kernel
theorem dX1_meets_29 : decode cX1_meets 29 = .ok (.istore_n 3, 1) := by decide +kernel
theorem dX1_meets_30 : decode cX1_meets 30 = .ok (.aload_n 0, 1) := by decide +kernel
theorem dX1_meets_31 : decode cX1_meets 31 = .ok (.getfield 28, 3) := by decide +kernel
theorem dX1_meets_34 : decode cX1_meets 34 = .ok (.iload_n 3, 1) := by decide +kernel
theorem dX1_meets_35 : decode cX1_meets 35 = .ok (.aload_n 1, 1) := by decide +kernel
theorem dX1_meets_36 : decode cX1_meets 36 = .ok (.invokevirtual 63, 3) := by decide +kernel
theorem dX1_meets_39 : decode cX1_meets 39 = .ok (.iadd, 1) := by decide +kernel
theorem dX1_meets_40 : decode cX1_meets 40 = .ok (.if_icmp .ge 46, 3) := by decide +kernel
theorem dX1_meets_43 : decode cX1_meets 43 = .ok (.iload_n 3, 1) := by decide +kernel
theorem dX1_meets_44 : decode cX1_meets 44 = .ok (.aload_n 0, 1) := by decide +kernel
theorem dX1_meets_45 : decode cX1_meets 45 = .ok (.getfield 28, 3) := by decide +kernel
theorem dX1_meets_48 : decode cX1_meets 48 = .ok (.aload_n 0, 1) := by decide +kernel
theorem dX1_meets_49 : decode cX1_meets 49 = .ok (.invokevirtual 63, 3) := by decide +kernel
theorem dX1_meets_52 : decode cX1_meets 52 = .ok (.iadd, 1) := by decide +kernel
theorem dX1_meets_53 : decode cX1_meets 53 = .ok (.if_icmp .ge 33, 3) := by decide +kernel
theorem dX1_meets_56 : decode cX1_meets 56 = .ok (.aload_n 0, 1) := by decide +kernel
theorem dX1_meets_57 : decode cX1_meets 57 = .ok (.getfield 31, 3) := by decide +kernel
theorem dX1_meets_60 : decode cX1_meets 60 = .ok (.aload_n 1, 1) := by decide +kernel
theorem dX1_meets_61 : decode cX1_meets 61 = .ok (.getfield 31, 3) := by decide +kernel
theorem dX1_meets_64 : decode cX1_meets 64 = .ok (.iconst 5, 1) := by decide +kernel
theorem dX1_meets_65 : decode cX1_meets 65 = .ok (.iadd, 1) := by decide +kernel
theorem dX1_meets_66 : decode cX1_meets 66 = .ok (.if_icmp .ge 20, 3) := by decide +kernel
theorem dX1_meets_69 : decode cX1_meets 69 = .ok (.aload_n 1, 1) := by decide +kernel
theorem dX1_meets_70 : decode cX1_meets 70 = .ok (.getfield 31, 3) := by decide +kernel
theorem dX1_meets_73 : decode cX1_meets 73 = .ok (.aload_n 0, 1) := by decide +kernel
theorem dX1_meets_74 : decode cX1_meets 74 = .ok (.getfield 31, 3) := by decide +kernel
theorem dX1_meets_77 : decode cX1_meets 77 = .ok (.iconst 5, 1) := by decide +kernel
theorem dX1_meets_78 : decode cX1_meets 78 = .ok (.iadd, 1) := by decide +kernel
theorem dX1_meets_79 : decode cX1_meets 79 = .ok (.if_icmp .ge 7, 3) := by decide +kernel
theorem dX1_meets_82 : decode cX1_meets 82 = .ok (.iconst 1, 1) := by decide +kernel
theorem dX1_meets_83 : decode cX1_meets 83 = .ok (.goto 4, 3) := by decide +kernel
theorem dX1_meets_86 : decode cX1_meets 86 = .ok (.iconst 0, 1) := by decide +kernel
theorem dX1_meets_87 : decode cX1_meets 87 = .ok (.ireturn, 1) := by decide +kernel
theorem dX1_isMirrored_0 : decode cX1_isMirrored 0 = .ok (.iconst 0, 1) := by decide +kernel
theorem dX1_isMirrored_1 : decode cX1_isMirrored 1 = .ok (.istore_n 1, 1) := by decide +kernel
theorem dX1_isMirrored_2 : decode cX1_isMirrored 2 = .ok (.iload_n 1, 1) := by decide +kernel
theorem dX1_isMirrored_3 : decode cX1_isMirrored 3 = .ok (.aload_n 0, 1) := by decide +kernel
theorem dX1_isMirrored_4 : decode cX1_isMirrored 4 = .ok (.getfield 21, 3) := by decide +kernel
theorem dX1_isMirrored_7 : decode cX1_isMirrored 7 = .ok (.if_icmp .ge 34, 3) := by decide +kernel
theorem dX1_isMirrored_10 : decode cX1_isMirrored 10 = .ok (.aload_n 0, 1) := by decide +kernel
theorem dX1_isMirrored_11 : decode cX1_isMirrored 11 = .ok (.aload_n 0, 1) := by decide +kernel
theorem dX1_isMirrored_12 : decode cX1_isMirrored 12 = .ok (.getfield 21, 3) := by decide +kernel
theorem dX1_isMirrored_15 : decode cX1_isMirrored 15 = .ok (.iconst 1, 1) := by decide +kernel
theorem dX1_isMirrored_16 : decode cX1_isMirrored 16 = .ok (.isub, 1) := by decide +kernel
theorem dX1_isMirrored_17 : decode cX1_isMirrored 17 = .ok (.iload_n 1, 1) := by decide +kernel
theorem dX1_isMirrored_18 : decode cX1_isMirrored 18 = .ok (.isub, 1) := by decide +kernel
theorem dX1_isMirrored_19 : decode cX1_isMirrored 19 = .ok (.invokevirtual 67, 3) := by decide +kernel
theorem dX1_isMirrored_22 : decode cX1_isMirrored 22 = .ok (.aload_n 0, 1) := by decide +kernel
theorem dX1_isMirrored_23 : decode cX1_isMirrored 23 = .ok (.iload_n 1, 1) := by decide +kernel
theorem dX1_isMirrored_24 : decode cX1_isMirrored 24 = .ok (.invokevirtual 67, 3) := by decide +kernel
theorem dX1_isMirrored_27 : decode cX1_isMirrored 27 = .ok (.invokestatic 70, 3) := by decide +kernel
theorem dX1_isMirrored_30 : decode cX1_isMirrored 30 = .ok (.if_icmp .eq 5, 3) := by decide +kernel
theorem dX1_isMirrored_33 : decode cX1_isMirrored 33 = .ok (.iconst 0, 1) := by decide +kernel
theorem dX1_isMirrored_34 : decode cX1_isMirrored 34 = .ok (.ireturn, 1) := by decide +kernel
theorem dX1_isMirrored_35 : decode cX1_isMirrored 35 = .ok (.iinc 1 1, 3) := by decide +kernel
theorem dX1_isMirrored_38 : decode cX1_isMirrored 38 = .ok (.goto (-36), 3) := by decide +kernel
theorem dX1_isMirrored_41 : decode cX1_isMirrored 41 = .ok (.iconst 1, 1) := by decide +kernel
theorem dX1_isMirrored_42 : decode cX1_isMirrored 42 = .ok (.ireturn, 1) := by decide +kernel
theorem dX2_init_0 : decode cX2_init 0 = .ok (.aload_n 0, 1) := by decide +kernel
theorem dX2_init_1 : decode cX2_init 1 = .ok (.invokespecial 3, 3) := by decide +kernel
theorem dX2_init_4 : decode cX2_init 4 = .ok (.aload_n 0, 1) := by decide +kernel
theorem dX2_init_5 : decode cX2_init 5 = .ok (.new 9, 3) := by decide +kernel
theorem dX2_init_8 : decode cX2_init 8 = .ok (.dup, 1) := by decide +kernel
theorem dX2_init_9 : decode cX2_init 9 = .ok (.invokespecial 11, 3) := by decide +kernel
theorem dX2_init_12 : decode cX2_init 12 = .ok (.putfield 12, 3) := by decide +kernel
theorem dX2_init_15 : decode cX2_init 15 = .ok (.aload_n 0, 1) := by decide +kernel
theorem dX2_init_16 : decode cX2_init 16 = .ok (.aload_n 1, 1) := by decide +kernel
theorem dX2_init_17 : decode cX2_init 17 = .ok (.putfield 18, 3) := by decide +kernel
theorem dX2_init_20 : decode cX2_init 20 = .ok (.return_, 1) := by decide +kernel
theorem dX2_readInto_0 : decode cX2_readInto 0 = .ok (.aload_n 0, 1) := by decide +kernel
theorem dX2_readInto_1 : decode cX2_readInto 1 = .ok (.iconst 0, 1) := by decide +kernel
theorem dX2_readInto_2 : decode cX2_readInto 2 = .ok (.putfield 22, 3) := by decide +kernel
theorem dX2_readInto_5 : decode cX2_readInto 5 = .ok (.aload_n 0, 1) := by decide +kernel
theorem dX2_readInto_6 : decode cX2_readInto 6 = .ok (.iconst 0, 1) := by decide +kernel
theorem dX2_readInto_7 : decode cX2_readInto 7 = .ok (.putfield 26, 3) := by decide +kernel
theorem dX2_readInto_10 : decode cX2_readInto 10 = .ok (.aload_n 0, 1) := by decide +kernel
theorem dX2_readInto_11 : decode cX2_readInto 11 = .ok (.getfield 18, 3) := by decide +kernel
theorem dX2_readInto_14 : decode cX2_readInto 14 = .ok (.invokevirtual 30, 3) := by decide +kernel
theorem dX2_readInto_17 : decode cX2_readInto 17 = .ok (.aload_n 0, 1) := by decide +kernel
theorem dX2_readInto_18 : decode cX2_readInto 18 = .ok (.aload_n 1, 1) := by decide +kernel
theorem dX2_readInto_19 : decode cX2_readInto 19 = .ok (.invokevirtual 35, 3) := by decide +kernel
theorem dX2_readInto_22 : decode cX2_readInto 22 = .ok (.ifCond .ne 5, 3) := by decide +kernel
theorem dX2_readInto_25 : decode cX2_readInto 25 = .ok (.iconst 0, 1) := by decide +kernel
theorem dX2_readInto_26 : decode cX2_readInto 26 = .ok (.ireturn, 1) := by decide +kernel
theorem dX2_readInto_27 : decode cX2_readInto 27 = .ok (.iconst 0, 1) := by decide +kernel
theorem dX2_readInto_28 : decode cX2_readInto 28 = .ok (.istore_n 2, 1) := by decide +kernel
theorem dX2_readInto_29 : decode cX2_readInto 29 = .ok (.iload_n 2, 1) := by decide +kernel
theorem dX2_readInto_30 : decode cX2_readInto 30 = .ok (.sipush 400, 3) := by decide +kernel
theorem dX2_readInto_33 : decode cX2_readInto 33 = .ok (.if_icmp .gt 41, 3) := by decide +kernel
theorem dX2_readInto_36 : decode cX2_readInto 36 = .ok (.aload_n 0, 1) := by decide +kernel
theorem dX2_readInto_37 : decode cX2_readInto 37 = .ok (.getfield 18, 3) := by decide +kernel
theorem dX2_readInto_40 : decode cX2_readInto 40 = .ok (.getfield 39, 3) := by decide +kernel
theorem dX2_readInto_43 : decode cX2_readInto 43 = .ok (.ifCond .eq 31, 3) := by decide +kernel
theorem dX2_readInto_46 : decode cX2_readInto 46 = .ok (.aload_n 0, 1) := by decide +kernel
theorem dX2_readInto_47 : decode cX2_readInto 47 = .ok (.aload_n 1, 1) := by decide +kernel
theorem dX2_readInto_48 : decode cX2_readInto 48 = .ok (.invokevirtual 42, 3) := by decide +kernel
theorem dX2_readInto_51 : decode cX2_readInto 51 = .ok (.ifCond .eq 15, 3) := by decide +kernel
theorem dX2_readInto_54 : decode cX2_readInto 54 = .ok (.aload_n 0, 1) := by decide +kernel
theorem dX2_readInto_55 : decode cX2_readInto 55 = .ok (.getfield 18, 3) := by decide +kernel
theorem dX2_readInto_58 : decode cX2_readInto 58 = .ok (.bipush 59, 2) := by decide +kernel
theorem dX2_readInto_60 : decode cX2_readInto 60 = .ok (.invokevirtual 45, 3) := by decide +kernel
theorem dX2_readInto_63 : decode cX2_readInto 63 = .ok (.ifCond .ne 5, 3) := by decide +kernel
theorem dX2_readInto_66 : decode cX2_readInto 66 = .ok (.iconst 0, 1) := by decide +kernel
theorem dX2_readInto_67 : decode cX2_readInto 67 = .ok (.ireturn, 1) := by decide +kernel
theorem dX2_readInto_68 : decode cX2_readInto 68 = .ok (.iinc 2 1, 3) := by decide +kernel
theorem dX2_readInto_71 : decode cX2_readInto 71 = .ok (.goto (-42), 3) := by decide +kernel
theorem dX2_readInto_74 : decode cX2_readInto 74 = .ok (.iconst 1, 1) := by decide +kernel
theorem dX2_readInto_75 : decode cX2_readInto 75 = .ok (.ireturn, 1) := by decide +kernel
theorem dX2_readSize_0 : decode cX2_readSize 0 = .ok (.aload_n 0, 1) := by decide +kernel
theorem dX2_readSize_1 : decode cX2_readSize 1 = .ok (.getfield 18, 3) := by decide +kernel
theorem dX2_readSize_4 : decode cX2_readSize 4 = .ok (.ldc 49, 2) := by decide +kernel
theorem dX2_readSize_6 : decode cX2_readSize 6 = .ok (.invokevirtual 51, 3) := by decide +kernel
theorem dX2_readSize_9 : decode cX2_readSize 9 = .ok (.ifCond .eq 17, 3) := by decide +kernel
theorem dX2_readSize_12 : decode cX2_readSize 12 = .ok (.aload_n 0, 1) := by decide +kernel
theorem dX2_readSize_13 : decode cX2_readSize 13 = .ok (.getfield 18, 3) := by decide +kernel
theorem dX2_readSize_16 : decode cX2_readSize 16 = .ok (.bipush 8, 2) := by decide +kernel
theorem dX2_readSize_18 : decode cX2_readSize 18 = .ok (.bipush 40, 2) := by decide +kernel
theorem dX2_readSize_20 : decode cX2_readSize 20 = .ok (.invokevirtual 55, 3) := by decide +kernel
theorem dX2_readSize_23 : decode cX2_readSize 23 = .ok (.ifCond .ne 5, 3) := by decide +kernel
theorem dX2_readSize_26 : decode cX2_readSize 26 = .ok (.iconst 0, 1) := by decide +kernel
theorem dX2_readSize_27 : decode cX2_readSize 27 = .ok (.ireturn, 1) := by decide +kernel
theorem dX2_readSize_28 : decode cX2_readSize 28 = .ok (.aload_n 0, 1) := by decide +kernel
theorem dX2_readSize_29 : decode cX2_readSize 29 = .ok (.getfield 18, 3) := by decide +kernel
theorem dX2_readSize_32 : decode cX2_readSize 32 = .ok (.getfield 59, 3) := by decide +kernel
theorem dX2_readSize_35 : decode cX2_readSize 35 = .ok (.istore_n 2, 1) := by decide +kernel
theorem dX2_readSize_36 : decode cX2_readSize 36 = .ok (.aload_n 0, 1) := by decide +kernel
theorem dX2_readSize_37 : decode cX2_readSize 37 = .ok (.getfield 18, 3) := by decide +kernel
theorem dX2_readSize_40 : decode cX2_readSize 40 = .ok (.bipush 6, 2) := by decide +kernel
theorem dX2_readSize_42 : decode cX2_readSize 42 = .ok (.bipush 30, 2) := by decide +kernel
theorem dX2_readSize_44 : decode cX2_readSize 44 = .ok (.invokevirtual 55, 3) := by decide +kernel
theorem dX2_readSize_47 : decode cX2_readSize 47 = .ok (.ifCond .ne 5, 3) := by decide +kernel
theorem dX2_readSize_50 : decode cX2_readSize 50 = .ok (.iconst 0, 1) := by decide +kernel
theorem dX2_readSize_51 : decode cX2_readSize 51 = .ok (.ireturn, 1) := by decide +kernel
theorem dX2_readSize_52 : decode cX2_readSize 52 = .ok (.aload_n 1, 1) := by decide +kernel
theorem dX2_readSize_53 : decode cX2_readSize 53 = .ok (.iload_n 2, 1) := by decide +kernel
theorem dX2_readSize_54 : decode cX2_readSize 54 = .ok (.aload_n 0, 1) := by decide +kernel
theorem dX2_readSize_55 : decode cX2_readSize 55 = .ok (.getfield 18, 3) := by decide +kernel
theorem dX2_readSize_58 : decode cX2_readSize 58 = .ok (.getfield 59, 3) := by decide +kernel
theorem dX2_readSize_61 : decode cX2_readSize 61 = .ok (.invokevirtual 62, 3) := by decide +kernel
theorem dX2_readSize_64 : decode cX2_readSize 64 = .ok (.aload_n 0, 1) := by decide +kernel
theorem dX2_readSize_65 : decode cX2_readSize 65 = .ok (.getfield 18, 3) := by decide +kernel
theorem dX2_readSize_68 : decode cX2_readSize 68 = .ok (.bipush 59, 2) := by decide +kernel
theorem dX2_readSize_70 : decode cX2_readSize 70 = .ok (.invokevirtual 45, 3) := by decide +kernel
theorem dX2_readSize_73 : decode cX2_readSize 73 = .ok (.ireturn, 1) := by decide +kernel
theorem dX2_readStatement_0 : decode cX2_readStatement 0 = .ok (.aload_n 0, 1) := by decide +kernel
theorem dX2_readStatement_1 : decode cX2_readStatement 1 = .ok (.getfield 18, 3) := by decide +kernel
theorem dX2_readStatement_4 : decode cX2_readStatement 4 = .ok (.ldc 68, 2) := by decide +kernel
theorem dX2_readStatement_6 : decode cX2_readStatement 6 = .ok (.invokevirtual 70, 3) := by decide +kernel
theorem dX2_readStatement_9 : decode cX2_readStatement 9 = .ok (.ifCond .eq 9, 3) := by decide +kernel
theorem dX2_readStatement_12 : decode cX2_readStatement 12 = .ok (.aload_n 0, 1) := by decide +kernel
theorem dX2_readStatement_13 : decode cX2_readStatement 13 = .ok (.aload_n 1, 1) := by decide +kernel
theorem dX2_readStatement_14 : decode cX2_readStatement 14 = .ok (.invokevirtual 73, 3) := by decide +kernel
theorem dX2_readStatement_17 : decode cX2_readStatement 17 = .ok (.ireturn, 1) := by decide +kernel
theorem dX2_readStatement_18 : decode cX2_readStatement 18 = .ok (.aload_n 0, 1) := by decide +kernel
theorem dX2_readStatement_19 : decode cX2_readStatement 19 = .ok (.getfield 18, 3) := by decide +kernel
theorem dX2_readStatement_22 : decode cX2_readStatement 22 = .ok (.ldc 76, 2) := by decide +kernel
theorem dX2_readStatement_24 : decode cX2_readStatement 24 = .ok (.invokevirtual 70, 3) := by decide +kernel
theorem dX2_readStatement_27 : decode cX2_readStatement 27 = .ok (.ifCond .eq 9, 3) := by decide +kernel
theorem dX2_readStatement_30 : decode cX2_readStatement 30 = .ok (.aload_n 0, 1) := by decide +kernel
theorem dX2_readStatement_31 : decode cX2_readStatement 31 = .ok (.aload_n 1, 1) := by decide +kernel
theorem dX2_readStatement_32 : decode cX2_readStatement 32 = .ok (.invokevirtual 78, 3) := by decide +kernel
theorem dX2_readStatement_35 : decode cX2_readStatement 35 = .ok (.ireturn, 1) := by decide +kernel
theorem dX2_readStatement_36 : decode cX2_readStatement 36 = .ok (.aload_n 0, 1) := by decide +kernel
theorem dX2_readStatement_37 : decode cX2_readStatement 37 = .ok (.getfield 18, 3) := by decide +kernel
theorem dX2_readStatement_40 : decode cX2_readStatement 40 = .ok (.ldc 81, 2) := by decide +kernel
theorem dX2_readStatement_42 : decode cX2_readStatement 42 = .ok (.invokevirtual 70, 3) := by decide +kernel
theorem dX2_readStatement_45 : decode cX2_readStatement 45 = .ok (.ifCond .eq 9, 3) := by decide +kernel
theorem dX2_readStatement_48 : decode cX2_readStatement 48 = .ok (.aload_n 0, 1) := by decide +kernel
theorem dX2_readStatement_49 : decode cX2_readStatement 49 = .ok (.aload_n 1, 1) := by decide +kernel
theorem dX2_readStatement_50 : decode cX2_readStatement 50 = .ok (.invokevirtual 83, 3) := by decide +kernel
theorem dX2_readStatement_53 : decode cX2_readStatement 53 = .ok (.ireturn, 1) := by decide +kernel
theorem dX2_readStatement_54 : decode cX2_readStatement 54 = .ok (.aload_n 0, 1) := by decide +kernel
theorem dX2_readStatement_55 : decode cX2_readStatement 55 = .ok (.getfield 18, 3) := by decide +kernel
theorem dX2_readStatement_58 : decode cX2_readStatement 58 = .ok (.iconst 1, 1) := by decide +kernel
theorem dX2_readStatement_59 : decode cX2_readStatement 59 = .ok (.invokevirtual 86, 3) := by decide +kernel
theorem dX2_readStatement_62 : decode cX2_readStatement 62 = .ok (.ireturn, 1) := by decide +kernel
theorem dX2_readCaption_0 : decode cX2_readCaption 0 = .ok (.aload_n 1, 1) := by decide +kernel
theorem dX2_readCaption_1 : decode cX2_readCaption 1 = .ok (.getfield 89, 3) := by decide +kernel
theorem dX2_readCaption_4 : decode cX2_readCaption 4 = .ok (.bipush 8, 2) := by decide +kernel
theorem dX2_readCaption_6 : decode cX2_readCaption 6 = .ok (.if_icmp .lt 13, 3) := by decide +kernel
theorem dX2_readCaption_9 : decode cX2_readCaption 9 = .ok (.aload_n 0, 1) := by decide +kernel
theorem dX2_readCaption_10 : decode cX2_readCaption 10 = .ok (.getfield 18, 3) := by decide +kernel
theorem dX2_readCaption_13 : decode cX2_readCaption 13 = .ok (.bipush 6, 2) := by decide +kernel
theorem dX2_readCaption_15 : decode cX2_readCaption 15 = .ok (.invokevirtual 86, 3) := by decide +kernel
theorem dX2_readCaption_18 : decode cX2_readCaption 18 = .ok (.ireturn, 1) := by decide +kernel
theorem dX2_readCaption_19 : decode cX2_readCaption 19 = .ok (.aload_n 0, 1) := by decide +kernel
theorem dX2_readCaption_20 : decode cX2_readCaption 20 = .ok (.getfield 18, 3) := by decide +kernel
theorem dX2_readCaption_23 : decode cX2_readCaption 23 = .ok (.invokevirtual 92, 3) := by decide +kernel
theorem dX2_readCaption_26 : decode cX2_readCaption 26 = .ok (.aload_n 0, 1) := by decide +kernel
theorem dX2_readCaption_27 : decode cX2_readCaption 27 = .ok (.invokevirtual 95, 3) := by decide +kernel
theorem dX2_readCaption_30 : decode cX2_readCaption 30 = .ok (.ifCond .eq 11, 3) := by decide +kernel
theorem dX2_readCaption_33 : decode cX2_readCaption 33 = .ok (.aload_n 0, 1) := by decide +kernel
theorem dX2_readCaption_34 : decode cX2_readCaption 34 = .ok (.aload_n 1, 1) := by decide +kernel
theorem dX2_readCaption_35 : decode cX2_readCaption 35 = .ok (.invokevirtual 99, 3) := by decide +kernel
theorem dX2_readCaption_38 : decode cX2_readCaption 38 = .ok (.ifCond .ne 5, 3) := by decide +kernel
theorem dX2_readCaption_41 : decode cX2_readCaption 41 = .ok (.iconst 0, 1) := by decide +kernel
theorem dX2_readCaption_42 : decode cX2_readCaption 42 = .ok (.ireturn, 1) := by decide +kernel
theorem dX2_readCaption_43 : decode cX2_readCaption 43 = .ok (.aload_n 0, 1) := by decide +kernel
theorem dX2_readCaption_44 : decode cX2_readCaption 44 = .ok (.getfield 18, 3) := by decide +kernel
theorem dX2_readCaption_47 : decode cX2_readCaption 47 = .ok (.ldc 102, 2) := by decide +kernel
theorem dX2_readCaption_49 : decode cX2_readCaption 49 = .ok (.invokevirtual 51, 3) := by decide +kernel
theorem dX2_readCaption_52 : decode cX2_readCaption 52 = .ok (.ifCond .eq 16, 3) := by decide +kernel
theorem dX2_readCaption_55 : decode cX2_readCaption 55 = .ok (.aload_n 0, 1) := by decide +kernel
theorem dX2_readCaption_56 : decode cX2_readCaption 56 = .ok (.getfield 18, 3) := by decide +kernel
theorem dX2_readCaption_59 : decode cX2_readCaption 59 = .ok (.iconst 1, 1) := by decide +kernel
theorem dX2_readCaption_60 : decode cX2_readCaption 60 = .ok (.bipush 6, 2) := by decide +kernel
theorem dX2_readCaption_62 : decode cX2_readCaption 62 = .ok (.invokevirtual 55, 3) := by decide +kernel
theorem dX2_readCaption_65 : decode cX2_readCaption 65 = .ok (.ifCond .ne 5, 3) := by decide +kernel
theorem dX2_readCaption_68 : decode cX2_readCaption 68 = .ok (.iconst 0, 1) := by decide +kernel
theorem dX2_readCaption_69 : decode cX2_readCaption 69 = .ok (.ireturn, 1) := by decide +kernel
theorem dX2_readCaption_70 : decode cX2_readCaption 70 = .ok (.aload_n 0, 1) := by decide +kernel
theorem dX2_readCaption_71 : decode cX2_readCaption 71 = .ok (.getfield 12, 3) := by decide +kernel
theorem dX2_readCaption_74 : decode cX2_readCaption 74 = .ok (.aload_n 0, 1) := by decide +kernel
theorem dX2_readCaption_75 : decode cX2_readCaption 75 = .ok (.getfield 18, 3) := by decide +kernel
theorem dX2_readCaption_78 : decode cX2_readCaption 78 = .ok (.getfield 59, 3) := by decide +kernel
theorem dX2_readCaption_81 : decode cX2_readCaption 81 = .ok (.putfield 104, 3) := by decide +kernel
theorem dX2_readCaption_84 : decode cX2_readCaption 84 = .ok (.aload_n 1, 1) := by decide +kernel
theorem dX2_readCaption_85 : decode cX2_readCaption 85 = .ok (.aload_n 0, 1) := by decide +kernel
theorem dX2_readCaption_86 : decode cX2_readCaption 86 = .ok (.getfield 12, 3) := by decide +kernel
theorem dX2_readCaption_89 : decode cX2_readCaption 89 = .ok (.invokevirtual 107, 3) := by decide +kernel
theorem dX2_readCaption_92 : decode cX2_readCaption 92 = .ok (.iconst 1, 1) := by decide +kernel
theorem dX2_readCaption_93 : decode cX2_readCaption 93 = .ok (.ireturn, 1) := by decide +kernel
theorem dX2_readCaptionWord_0 : decode cX2_readCaptionWord 0 = .ok (.aload_n 0, 1) := by decide +kernel
theorem dX2_readCaptionWord_1 : decode cX2_readCaptionWord 1 = .ok (.getfield 18, 3) := by decide +kernel
theorem dX2_readCaptionWord_4 : decode cX2_readCaptionWord 4 = .ok (.getfield 39, 3) := by decide +kernel
theorem dX2_readCaptionWord_7 : decode cX2_readCaptionWord 7 = .ok (.iconst 1, 1) := by decide +kernel
theorem dX2_readCaptionWord_8 : decode cX2_readCaptionWord 8 = .ok (.if_icmp .eq 12, 3) := by decide +kernel
theorem dX2_readCaptionWord_11 : decode cX2_readCaptionWord 11 = .ok (.aload_n 0, 1) := by decide +kernel
theorem dX2_readCaptionWord_12 : decode cX2_readCaptionWord 12 = .ok (.getfield 18, 3) := by decide +kernel
theorem dX2_readCaptionWord_15 : decode cX2_readCaptionWord 15 = .ok (.iconst 1, 1) := by decide +kernel
theorem dX2_readCaptionWord_16 : decode cX2_readCaptionWord 16 = .ok (.invokevirtual 86, 3) := by decide +kernel
theorem dX2_readCaptionWord_19 : decode cX2_readCaptionWord 19 = .ok (.ireturn, 1) := by decide +kernel
theorem dX2_readCaptionWord_20 : decode cX2_readCaptionWord 20 = .ok (.aload_n 0, 1) := by decide +kernel
theorem dX2_readCaptionWord_21 : decode cX2_readCaptionWord 21 = .ok (.getfield 18, 3) := by decide +kernel
theorem dX2_readCaptionWord_24 : decode cX2_readCaptionWord 24 = .ok (.getfield 111, 3) := by decide +kernel
theorem dX2_readCaptionWord_27 : decode cX2_readCaptionWord 27 = .ok (.aload_n 0, 1) := by decide +kernel
theorem dX2_readCaptionWord_28 : decode cX2_readCaptionWord 28 = .ok (.getfield 18, 3) := by decide +kernel
theorem dX2_readCaptionWord_31 : decode cX2_readCaptionWord 31 = .ok (.getfield 114, 3) := by decide +kernel
theorem dX2_readCaptionWord_34 : decode cX2_readCaptionWord 34 = .ok (.isub, 1) := by decide +kernel
theorem dX2_readCaptionWord_35 : decode cX2_readCaptionWord 35 = .ok (.bipush 8, 2) := by decide +kernel
theorem dX2_readCaptionWord_37 : decode cX2_readCaptionWord 37 = .ok (.if_icmp .le 12, 3) := by decide +kernel
theorem dX2_readCaptionWord_40 : decode cX2_readCaptionWord 40 = .ok (.aload_n 0, 1) := by decide +kernel
theorem dX2_readCaptionWord_41 : decode cX2_readCaptionWord 41 = .ok (.getfield 18, 3) := by decide +kernel
theorem dX2_readCaptionWord_44 : decode cX2_readCaptionWord 44 = .ok (.iconst 2, 1) := by decide +kernel
theorem dX2_readCaptionWord_45 : decode cX2_readCaptionWord 45 = .ok (.invokevirtual 86, 3) := by decide +kernel
theorem dX2_readCaptionWord_48 : decode cX2_readCaptionWord 48 = .ok (.ireturn, 1) := by decide +kernel
theorem dX2_readCaptionWord_49 : decode cX2_readCaptionWord 49 = .ok (.aload_n 0, 1) := by decide +kernel
theorem dX2_readCaptionWord_50 : decode cX2_readCaptionWord 50 = .ok (.getfield 12, 3) := by decide +kernel
theorem dX2_readCaptionWord_53 : decode cX2_readCaptionWord 53 = .ok (.aload_n 0, 1) := by decide +kernel
theorem dX2_readCaptionWord_54 : decode cX2_readCaptionWord 54 = .ok (.getfield 18, 3) := by decide +kernel
theorem dX2_readCaptionWord_57 : decode cX2_readCaptionWord 57 = .ok (.getfield 117, 3) := by decide +kernel
theorem dX2_readCaptionWord_60 : decode cX2_readCaptionWord 60 = .ok (.aload_n 0, 1) := by decide +kernel
theorem dX2_readCaptionWord_61 : decode cX2_readCaptionWord 61 = .ok (.getfield 18, 3) := by decide +kernel
theorem dX2_readCaptionWord_64 : decode cX2_readCaptionWord 64 = .ok (.getfield 114, 3) := by decide +kernel
theorem dX2_readCaptionWord_67 : decode cX2_readCaptionWord 67 = .ok (.aload_n 0, 1) := by decide +kernel
theorem dX2_readCaptionWord_68 : decode cX2_readCaptionWord 68 = .ok (.getfield 18, 3) := by decide +kernel
theorem dX2_readCaptionWord_71 : decode cX2_readCaptionWord 71 = .ok (.getfield 111, 3) := by decide +kernel
theorem dX2_readCaptionWord_74 : decode cX2_readCaptionWord 74 = .ok (.invokevirtual 121, 3) := by decide +kernel
theorem dX2_readCaptionWord_77 : decode cX2_readCaptionWord 77 = .ok (.aload_n 0, 1) := by decide +kernel
theorem dX2_readCaptionWord_78 : decode cX2_readCaptionWord 78 = .ok (.getfield 18, 3) := by decide +kernel
theorem dX2_readCaptionWord_81 : decode cX2_readCaptionWord 81 = .ok (.invokevirtual 92, 3) := by decide +kernel
theorem dX2_readCaptionWord_84 : decode cX2_readCaptionWord 84 = .ok (.aload_n 0, 1) := by decide +kernel
theorem dX2_readCaptionWord_85 : decode cX2_readCaptionWord 85 = .ok (.getfield 12, 3) := by decide +kernel
theorem dX2_readCaptionWord_88 : decode cX2_readCaptionWord 88 = .ok (.iconst 0, 1) := by decide +kernel
theorem dX2_readCaptionWord_89 : decode cX2_readCaptionWord 89 = .ok (.putfield 124, 3) := by decide +kernel
theorem dX2_readCaptionWord_92 : decode cX2_readCaptionWord 92 = .ok (.aload_n 0, 1) := by decide +kernel
theorem dX2_readCaptionWord_93 : decode cX2_readCaptionWord 93 = .ok (.getfield 18, 3) := by decide +kernel
theorem dX2_readCaptionWord_96 : decode cX2_readCaptionWord 96 = .ok (.ldc 127, 2) := by decide +kernel
theorem dX2_readCaptionWord_98 : decode cX2_readCaptionWord 98 = .ok (.invokevirtual 70, 3) := by decide +kernel
theorem dX2_readCaptionWord_101 : decode cX2_readCaptionWord 101 = .ok (.ifCond .eq 18, 3) := by decide +kernel
theorem dX2_readCaptionWord_104 : decode cX2_readCaptionWord 104 = .ok (.aload_n 0, 1) := by decide +kernel
theorem dX2_readCaptionWord_105 : decode cX2_readCaptionWord 105 = .ok (.getfield 12, 3) := by decide +kernel
theorem dX2_readCaptionWord_108 : decode cX2_readCaptionWord 108 = .ok (.iconst 1, 1) := by decide +kernel
theorem dX2_readCaptionWord_109 : decode cX2_readCaptionWord 109 = .ok (.putfield 124, 3) := by decide +kernel
theorem dX2_readCaptionWord_112 : decode cX2_readCaptionWord 112 = .ok (.aload_n 0, 1) := by decide +kernel
theorem dX2_readCaptionWord_113 : decode cX2_readCaptionWord 113 = .ok (.getfield 18, 3) := by decide +kernel
theorem dX2_readCaptionWord_116 : decode cX2_readCaptionWord 116 = .ok (.invokevirtual 92, 3) := by decide +kernel
theorem dX2_readCaptionWord_119 : decode cX2_readCaptionWord 119 = .ok (.iconst 1, 1) := by decide +kernel
theorem dX2_readCaptionWord_120 : decode cX2_readCaptionWord 120 = .ok (.ireturn, 1) := by decide +kernel
theorem dX2_readCaptionPlace_0 : decode cX2_readCaptionPlace 0 = .ok (.aload_n 0, 1) := by decide +kernel
theorem dX2_readCaptionPlace_1 : decode cX2_readCaptionPlace 1 = .ok (.getfield 18, 3) := by decide +kernel
theorem dX2_readCaptionPlace_4 : decode cX2_readCaptionPlace 4 = .ok (.ldc 129, 2) := by decide +kernel
theorem dX2_readCaptionPlace_6 : decode cX2_readCaptionPlace 6 = .ok (.invokevirtual 51, 3) := by decide +kernel
theorem dX2_readCaptionPlace_9 : decode cX2_readCaptionPlace 9 = .ok (.ifCond .eq 20, 3) := by decide +kernel
theorem dX2_readCaptionPlace_12 : decode cX2_readCaptionPlace 12 = .ok (.aload_n 0, 1) := by decide +kernel
theorem dX2_readCaptionPlace_13 : decode cX2_readCaptionPlace 13 = .ok (.getfield 18, 3) := by decide +kernel
theorem dX2_readCaptionPlace_16 : decode cX2_readCaptionPlace 16 = .ok (.iconst 0, 1) := by decide +kernel
theorem dX2_readCaptionPlace_17 : decode cX2_readCaptionPlace 17 = .ok (.aload_n 1, 1) := by decide +kernel
theorem dX2_readCaptionPlace_18 : decode cX2_readCaptionPlace 18 = .ok (.getfield 131, 3) := by decide +kernel
theorem dX2_readCaptionPlace_21 : decode cX2_readCaptionPlace 21 = .ok (.iconst 1, 1) := by decide +kernel
theorem dX2_readCaptionPlace_22 : decode cX2_readCaptionPlace 22 = .ok (.isub, 1) := by decide +kernel
theorem dX2_readCaptionPlace_23 : decode cX2_readCaptionPlace 23 = .ok (.invokevirtual 55, 3) := by decide +kernel
theorem dX2_readCaptionPlace_26 : decode cX2_readCaptionPlace 26 = .ok (.ifCond .ne 5, 3) := by decide +kernel
theorem dX2_readCaptionPlace_29 : decode cX2_readCaptionPlace 29 = .ok (.iconst 0, 1) := by decide +kernel
theorem dX2_readCaptionPlace_30 : decode cX2_readCaptionPlace 30 = .ok (.ireturn, 1) := by decide +kernel
theorem dX2_readCaptionPlace_31 : decode cX2_readCaptionPlace 31 = .ok (.aload_n 0, 1) := by decide +kernel
theorem dX2_readCaptionPlace_32 : decode cX2_readCaptionPlace 32 = .ok (.getfield 18, 3) := by decide +kernel
theorem dX2_readCaptionPlace_35 : decode cX2_readCaptionPlace 35 = .ok (.getfield 59, 3) := by decide +kernel
theorem dX2_readCaptionPlace_38 : decode cX2_readCaptionPlace 38 = .ok (.istore_n 2, 1) := by decide +kernel
theorem dX2_readCaptionPlace_39 : decode cX2_readCaptionPlace 39 = .ok (.aload_n 0, 1) := by decide +kernel
theorem dX2_readCaptionPlace_40 : decode cX2_readCaptionPlace 40 = .ok (.getfield 18, 3) := by decide +kernel
theorem dX2_readCaptionPlace_43 : decode cX2_readCaptionPlace 43 = .ok (.iconst 0, 1) := by decide +kernel
theorem dX2_readCaptionPlace_44 : decode cX2_readCaptionPlace 44 = .ok (.aload_n 1, 1) := by decide +kernel
theorem dX2_readCaptionPlace_45 : decode cX2_readCaptionPlace 45 = .ok (.getfield 134, 3) := by decide +kernel
theorem dX2_readCaptionPlace_48 : decode cX2_readCaptionPlace 48 = .ok (.iconst 1, 1) := by decide +kernel
theorem dX2_readCaptionPlace_49 : decode cX2_readCaptionPlace 49 = .ok (.isub, 1) := by decide +kernel
theorem dX2_readCaptionPlace_50 : decode cX2_readCaptionPlace 50 = .ok (.invokevirtual 137, 3) := by decide +kernel
theorem dX2_readCaptionPlace_53 : decode cX2_readCaptionPlace 53 = .ok (.ifCond .ne 5, 3) := by decide +kernel
theorem dX2_readCaptionPlace_56 : decode cX2_readCaptionPlace 56 = .ok (.iconst 0, 1) := by decide +kernel
theorem dX2_readCaptionPlace_57 : decode cX2_readCaptionPlace 57 = .ok (.ireturn, 1) := by decide +kernel
theorem dX2_readCaptionPlace_58 : decode cX2_readCaptionPlace 58 = .ok (.aload_n 0, 1) := by decide +kernel
theorem dX2_readCaptionPlace_59 : decode cX2_readCaptionPlace 59 = .ok (.getfield 12, 3) := by decide +kernel
theorem dX2_readCaptionPlace_62 : decode cX2_readCaptionPlace 62 = .ok (.iload_n 2, 1) := by decide +kernel
theorem dX2_readCaptionPlace_63 : decode cX2_readCaptionPlace 63 = .ok (.aload_n 0, 1) := by decide +kernel
theorem dX2_readCaptionPlace_64 : decode cX2_readCaptionPlace 64 = .ok (.getfield 18, 3) := by decide +kernel
theorem dX2_readCaptionPlace_67 : decode cX2_readCaptionPlace 67 = .ok (.getfield 59, 3) := by decide +kernel
theorem dX2_readCaptionPlace_70 : decode cX2_readCaptionPlace 70 = .ok (.invokevirtual 140, 3) := by decide +kernel
theorem dX2_readCaptionPlace_73 : decode cX2_readCaptionPlace 73 = .ok (.aload_n 1, 1) := by decide +kernel
theorem dX2_readCaptionPlace_74 : decode cX2_readCaptionPlace 74 = .ok (.aload_n 0, 1) := by decide +kernel
theorem dX2_readCaptionPlace_75 : decode cX2_readCaptionPlace 75 = .ok (.getfield 12, 3) := by decide +kernel
theorem dX2_readCaptionPlace_78 : decode cX2_readCaptionPlace 78 = .ok (.invokevirtual 143, 3) := by decide +kernel
theorem dX2_readCaptionPlace_81 : decode cX2_readCaptionPlace 81 = .ok (.ifCond .ne 12, 3) := by decide +kernel
theorem dX2_readCaptionPlace_84 : decode cX2_readCaptionPlace 84 = .ok (.aload_n 0, 1) := by decide +kernel
theorem dX2_readCaptionPlace_85 : decode cX2_readCaptionPlace 85 = .ok (.getfield 18, 3) := by decide +kernel
theorem dX2_readCaptionPlace_88 : decode cX2_readCaptionPlace 88 = .ok (.iconst 4, 1) := by decide +kernel
theorem dX2_readCaptionPlace_89 : decode cX2_readCaptionPlace 89 = .ok (.invokevirtual 86, 3) := by decide +kernel
theorem dX2_readCaptionPlace_92 : decode cX2_readCaptionPlace 92 = .ok (.ireturn, 1) := by decide +kernel
theorem dX2_readCaptionPlace_93 : decode cX2_readCaptionPlace 93 = .ok (.aload_n 1, 1) := by decide +kernel
theorem dX2_readCaptionPlace_94 : decode cX2_readCaptionPlace 94 = .ok (.aload_n 0, 1) := by decide +kernel
theorem dX2_readCaptionPlace_95 : decode cX2_readCaptionPlace 95 = .ok (.getfield 12, 3) := by decide +kernel
theorem dX2_readCaptionPlace_98 : decode cX2_readCaptionPlace 98 = .ok (.iconst (-1), 1) := by decide +kernel
theorem dX2_readCaptionPlace_99 : decode cX2_readCaptionPlace 99 = .ok (.invokevirtual 147, 3) := by decide +kernel
theorem dX2_readCaptionPlace_102 : decode cX2_readCaptionPlace 102 = .ok (.ifCond .ne 12, 3) := by decide +kernel
theorem dX2_readCaptionPlace_105 : decode cX2_readCaptionPlace 105 = .ok (.aload_n 0, 1) := by decide +kernel
theorem dX2_readCaptionPlace_106 : decode cX2_readCaptionPlace 106 = .ok (.getfield 18, 3) := by decide +kernel
theorem dX2_readCaptionPlace_109 : decode cX2_readCaptionPlace 109 = .ok (.iconst 5, 1) := by decide +kernel
theorem dX2_readCaptionPlace_110 : decode cX2_readCaptionPlace 110 = .ok (.invokevirtual 86, 3) := by decide +kernel
theorem dX2_readCaptionPlace_113 : decode cX2_readCaptionPlace 113 = .ok (.ireturn, 1) := by decide +kernel
theorem dX2_readCaptionPlace_114 : decode cX2_readCaptionPlace 114 = .ok (.aload_n 0, 1) := by decide +kernel
theorem dX2_readCaptionPlace_115 : decode cX2_readCaptionPlace 115 = .ok (.getfield 18, 3) := by decide +kernel
theorem dX2_readCaptionPlace_118 : decode cX2_readCaptionPlace 118 = .ok (.invokevirtual 92, 3) := by decide +kernel
theorem dX2_readCaptionPlace_121 : decode cX2_readCaptionPlace 121 = .ok (.iconst 1, 1) := by decide +kernel
theorem dX2_readCaptionPlace_122 : decode cX2_readCaptionPlace 122 = .ok (.ireturn, 1) := by decide +kernel
theorem dX2_readStock_0 : decode cX2_readStock 0 = .ok (.aload_n 0, 1) := by decide +kernel
theorem dX2_readStock_1 : decode cX2_readStock 1 = .ok (.getfield 18, 3) := by decide +kernel
theorem dX2_readStock_4 : decode cX2_readStock 4 = .ok (.invokevirtual 92, 3) := by decide +kernel
theorem dX2_readStock_7 : decode cX2_readStock 7 = .ok (.aload_n 0, 1) := by decide +kernel
theorem dX2_readStock_8 : decode cX2_readStock 8 = .ok (.getfield 18, 3) := by decide +kernel
theorem dX2_readStock_11 : decode cX2_readStock 11 = .ok (.iconst 0, 1) := by decide +kernel
theorem dX2_readStock_12 : decode cX2_readStock 12 = .ok (.bipush 6, 2) := by decide +kernel
theorem dX2_readStock_14 : decode cX2_readStock 14 = .ok (.invokevirtual 137, 3) := by decide +kernel
theorem dX2_readStock_17 : decode cX2_readStock 17 = .ok (.ifCond .ne 5, 3) := by decide +kernel
theorem dX2_readStock_20 : decode cX2_readStock 20 = .ok (.iconst 0, 1) := by decide +kernel
theorem dX2_readStock_21 : decode cX2_readStock 21 = .ok (.ireturn, 1) := by decide +kernel
theorem dX2_readStock_22 : decode cX2_readStock 22 = .ok (.aload_n 0, 1) := by decide +kernel
theorem dX2_readStock_23 : decode cX2_readStock 23 = .ok (.getfield 18, 3) := by decide +kernel
theorem dX2_readStock_26 : decode cX2_readStock 26 = .ok (.getfield 59, 3) := by decide +kernel
theorem dX2_readStock_29 : decode cX2_readStock 29 = .ok (.istore_n 2, 1) := by decide +kernel
theorem dX2_readStock_30 : decode cX2_readStock 30 = .ok (.aload_n 0, 1) := by decide +kernel
theorem dX2_readStock_31 : decode cX2_readStock 31 = .ok (.getfield 22, 3) := by decide +kernel
theorem dX2_readStock_34 : decode cX2_readStock 34 = .ok (.iconst 1, 1) := by decide +kernel
theorem dX2_readStock_35 : decode cX2_readStock 35 = .ok (.iload_n 2, 1) := by decide +kernel
theorem dX2_readStock_36 : decode cX2_readStock 36 = .ok (.ishl, 1) := by decide +kernel
theorem dX2_readStock_37 : decode cX2_readStock 37 = .ok (.iand, 1) := by decide +kernel
theorem dX2_readStock_38 : decode cX2_readStock 38 = .ok (.ifCond .eq 12, 3) := by decide +kernel
theorem dX2_readStock_41 : decode cX2_readStock 41 = .ok (.aload_n 0, 1) := by decide +kernel
theorem dX2_readStock_42 : decode cX2_readStock 42 = .ok (.getfield 18, 3) := by decide +kernel
theorem dX2_readStock_45 : decode cX2_readStock 45 = .ok (.iconst 3, 1) := by decide +kernel
theorem dX2_readStock_46 : decode cX2_readStock 46 = .ok (.invokevirtual 86, 3) := by decide +kernel
theorem dX2_readStock_49 : decode cX2_readStock 49 = .ok (.ireturn, 1) := by decide +kernel
theorem dX2_readStock_50 : decode cX2_readStock 50 = .ok (.aload_n 0, 1) := by decide +kernel
theorem dX2_readStock_51 : decode cX2_readStock 51 = .ok (.dup, 1) := by decide +kernel
theorem dX2_readStock_52 : decode cX2_readStock 52 = .ok (.getfield 22, 3) := by decide +kernel
theorem dX2_readStock_55 : decode cX2_readStock 55 = .ok (.iconst 1, 1) := by decide +kernel
theorem dX2_readStock_56 : decode cX2_readStock 56 = .ok (.iload_n 2, 1) := by decide +kernel
theorem dX2_readStock_57 : decode cX2_readStock 57 = .ok (.ishl, 1) := by decide +kernel
theorem dX2_readStock_58 : decode cX2_readStock 58 = .ok (.ior, 1) := by decide +kernel
theorem dX2_readStock_59 : decode cX2_readStock 59 = .ok (.putfield 22, 3) := by decide +kernel
theorem dX2_readStock_62 : decode cX2_readStock 62 = .ok (.aload_n 0, 1) := by decide +kernel
theorem dX2_readStock_63 : decode cX2_readStock 63 = .ok (.getfield 18, 3) := by decide +kernel
theorem dX2_readStock_66 : decode cX2_readStock 66 = .ok (.invokevirtual 92, 3) := by decide +kernel
theorem dX2_readStock_69 : decode cX2_readStock 69 = .ok (.aload_n 0, 1) := by decide +kernel
theorem dX2_readStock_70 : decode cX2_readStock 70 = .ok (.getfield 18, 3) := by decide +kernel
theorem dX2_readStock_73 : decode cX2_readStock 73 = .ok (.iconst 0, 1) := by decide +kernel
theorem dX2_readStock_74 : decode cX2_readStock 74 = .ok (.sipush 9999, 3) := by decide +kernel
theorem dX2_readStock_77 : decode cX2_readStock 77 = .ok (.invokevirtual 55, 3) := by decide +kernel
theorem dX2_readStock_80 : decode cX2_readStock 80 = .ok (.ifCond .ne 5, 3) := by decide +kernel
theorem dX2_readStock_83 : decode cX2_readStock 83 = .ok (.iconst 0, 1) := by decide +kernel
theorem dX2_readStock_84 : decode cX2_readStock 84 = .ok (.ireturn, 1) := by decide +kernel
theorem dX2_readStock_85 : decode cX2_readStock 85 = .ok (.aload_n 1, 1) := by decide +kernel
theorem dX2_readStock_86 : decode cX2_readStock 86 = .ok (.getfield 151, 3) := by decide +kernel
theorem dX2_readStock_89 : decode cX2_readStock 89 = .ok (.iload_n 2, 1) := by decide +kernel
theorem dX2_readStock_90 : decode cX2_readStock 90 = .ok (.aload_n 0, 1) := by decide +kernel
theorem dX2_readStock_91 : decode cX2_readStock 91 = .ok (.getfield 18, 3) := by decide +kernel
theorem dX2_readStock_94 : decode cX2_readStock 94 = .ok (.getfield 59, 3) := by decide +kernel
theorem dX2_readStock_97 : decode cX2_readStock 97 = .ok (.invokestatic 155, 3) := by decide +kernel
theorem dX2_readStock_100 : decode cX2_readStock 100 = .ok (.iconst 1, 1) := by decide +kernel
theorem dX2_readStock_101 : decode cX2_readStock 101 = .ok (.ireturn, 1) := by decide +kernel
theorem dX2_readDelay_0 : decode cX2_readDelay 0 = .ok (.aload_n 0, 1) := by decide +kernel
theorem dX2_readDelay_1 : decode cX2_readDelay 1 = .ok (.getfield 26, 3) := by decide +kernel
theorem dX2_readDelay_4 : decode cX2_readDelay 4 = .ok (.ifCond .eq 12, 3) := by decide +kernel
theorem dX2_readDelay_7 : decode cX2_readDelay 7 = .ok (.aload_n 0, 1) := by decide +kernel
theorem dX2_readDelay_8 : decode cX2_readDelay 8 = .ok (.getfield 18, 3) := by decide +kernel
theorem dX2_readDelay_11 : decode cX2_readDelay 11 = .ok (.iconst 3, 1) := by decide +kernel
theorem dX2_readDelay_12 : decode cX2_readDelay 12 = .ok (.invokevirtual 86, 3) := by decide +kernel
theorem dX2_readDelay_15 : decode cX2_readDelay 15 = .ok (.ireturn, 1) := by decide +kernel
theorem dX2_readDelay_16 : decode cX2_readDelay 16 = .ok (.aload_n 0, 1) := by decide +kernel
theorem dX2_readDelay_17 : decode cX2_readDelay 17 = .ok (.iconst 1, 1) := by decide +kernel
theorem dX2_readDelay_18 : decode cX2_readDelay 18 = .ok (.putfield 26, 3) := by decide +kernel
theorem dX2_readDelay_21 : decode cX2_readDelay 21 = .ok (.aload_n 0, 1) := by decide +kernel
theorem dX2_readDelay_22 : decode cX2_readDelay 22 = .ok (.getfield 18, 3) := by decide +kernel
theorem dX2_readDelay_25 : decode cX2_readDelay 25 = .ok (.invokevirtual 92, 3) := by decide +kernel
theorem dX2_readDelay_28 : decode cX2_readDelay 28 = .ok (.aload_n 0, 1) := by decide +kernel
theorem dX2_readDelay_29 : decode cX2_readDelay 29 = .ok (.getfield 18, 3) := by decide +kernel
theorem dX2_readDelay_32 : decode cX2_readDelay 32 = .ok (.iconst 0, 1) := by decide +kernel
theorem dX2_readDelay_33 : decode cX2_readDelay 33 = .ok (.bipush 30, 2) := by decide +kernel
theorem dX2_readDelay_35 : decode cX2_readDelay 35 = .ok (.invokevirtual 55, 3) := by decide +kernel
theorem dX2_readDelay_38 : decode cX2_readDelay 38 = .ok (.ifCond .ne 5, 3) := by decide +kernel
theorem dX2_readDelay_41 : decode cX2_readDelay 41 = .ok (.iconst 0, 1) := by decide +kernel
theorem dX2_readDelay_42 : decode cX2_readDelay 42 = .ok (.ireturn, 1) := by decide +kernel
theorem dX2_readDelay_43 : decode cX2_readDelay 43 = .ok (.aload_n 1, 1) := by decide +kernel
theorem dX2_readDelay_44 : decode cX2_readDelay 44 = .ok (.aload_n 0, 1) := by decide +kernel
theorem dX2_readDelay_45 : decode cX2_readDelay 45 = .ok (.getfield 18, 3) := by decide +kernel
theorem dX2_readDelay_48 : decode cX2_readDelay 48 = .ok (.getfield 59, 3) := by decide +kernel
theorem dX2_readDelay_51 : decode cX2_readDelay 51 = .ok (.putfield 159, 3) := by decide +kernel
theorem dX2_readDelay_54 : decode cX2_readDelay 54 = .ok (.iconst 1, 1) := by decide +kernel
theorem dX2_readDelay_55 : decode cX2_readDelay 55 = .ok (.ireturn, 1) := by decide +kernel
theorem dX3_init_0 : decode cX3_init 0 = .ok (.aload_n 0, 1) := by decide +kernel
theorem dX3_init_1 : decode cX3_init 1 = .ok (.invokespecial 3, 3) := by decide +kernel
theorem dX3_init_4 : decode cX3_init 4 = .ok (.aload_n 0, 1) := by decide +kernel
theorem dX3_init_5 : decode cX3_init 5 = .ok (.bipush 60, 2) := by decide +kernel
theorem dX3_init_7 : decode cX3_init 7 = .ok (.newarray .long, 2) := by decide +kernel
theorem dX3_init_9 : decode cX3_init 9 = .ok (.putfield 11, 3) := by decide +kernel
theorem dX3_init_12 : decode cX3_init 12 = .ok (.return_, 1) := by decide +kernel
theorem dX3_copyFrom_0 : decode cX3_copyFrom 0 = .ok (.aload_n 1, 1) := by decide +kernel
theorem dX3_copyFrom_1 : decode cX3_copyFrom 1 = .ok (.getfield 11, 3) := by decide +kernel
theorem dX3_copyFrom_4 : decode cX3_copyFrom 4 = .ok (.iconst 0, 1) := by decide +kernel
theorem dX3_copyFrom_5 : decode cX3_copyFrom 5 = .ok (.aload_n 0, 1) := by decide +kernel
theorem dX3_copyFrom_6 : decode cX3_copyFrom 6 = .ok (.getfield 11, 3) := by decide +kernel
theorem dX3_copyFrom_9 : decode cX3_copyFrom 9 = .ok (.iconst 0, 1) := by decide +kernel
theorem dX3_copyFrom_10 : decode cX3_copyFrom 10 = .ok (.aload_n 0, 1) := by decide +kernel
theorem dX3_copyFrom_11 : decode cX3_copyFrom 11 = .ok (.getfield 11, 3) := by decide +kernel
theorem dX3_copyFrom_14 : decode cX3_copyFrom 14 = .ok (.arraylength, 1) := by decide +kernel
theorem dX3_copyFrom_15 : decode cX3_copyFrom 15 = .ok (.invokestatic 15, 3) := by decide +kernel
theorem dX3_copyFrom_18 : decode cX3_copyFrom 18 = .ok (.return_, 1) := by decide +kernel
theorem dX3_get_0 : decode cX3_get 0 = .ok (.iconst 2, 1) := by decide +kernel
theorem dX3_get_1 : decode cX3_get 1 = .ok (.iload_n 2, 1) := by decide +kernel
theorem dX3_get_2 : decode cX3_get 2 = .ok (.imul, 1) := by decide +kernel
theorem dX3_get_3 : decode cX3_get 3 = .ok (.iload_n 1, 1) := by decide +kernel
theorem dX3_get_4 : decode cX3_get 4 = .ok (.bipush 20, 2) := by decide +kernel
theorem dX3_get_6 : decode cX3_get 6 = .ok (.idiv, 1) := by decide +kernel
theorem dX3_get_7 : decode cX3_get 7 = .ok (.iadd, 1) := by decide +kernel
theorem dX3_get_8 : decode cX3_get 8 = .ok (.istore_n 3, 1) := by decide +kernel
theorem dX3_get_9 : decode cX3_get 9 = .ok (.iload_n 1, 1) := by decide +kernel
theorem dX3_get_10 : decode cX3_get 10 = .ok (.iload_n 2, 1) := by decide +kernel
theorem dX3_get_11 : decode cX3_get 11 = .ok (.invokestatic 21, 3) := by decide +kernel
theorem dX3_get_14 : decode cX3_get 14 = .ok (.ifCond .eq 16, 3) := by decide +kernel
theorem dX3_get_17 : decode cX3_get 17 = .ok (.iload_n 3, 1) := by decide +kernel
theorem dX3_get_18 : decode cX3_get 18 = .ok (.ifCond .lt 12, 3) := by decide +kernel
theorem dX3_get_21 : decode cX3_get 21 = .ok (.iload_n 3, 1) := by decide +kernel
theorem dX3_get_22 : decode cX3_get 22 = .ok (.aload_n 0, 1) := by decide +kernel
theorem dX3_get_23 : decode cX3_get 23 = .ok (.getfield 11, 3) := by decide +kernel
theorem dX3_get_26 : decode cX3_get 26 = .ok (.arraylength, 1) := by decide +kernel
theorem dX3_get_27 : decode cX3_get 27 = .ok (.if_icmp .lt 5, 3) := by decide +kernel
theorem dX3_get_30 : decode cX3_get 30 = .ok (.iconst (-1), 1) := by decide +kernel
theorem dX3_get_31 : decode cX3_get 31 = .ok (.ireturn, 1) := by decide +kernel
theorem dX3_get_32 : decode cX3_get 32 = .ok (.aload_n 0, 1) := by decide +kernel
theorem dX3_get_33 : decode cX3_get 33 = .ok (.getfield 11, 3) := by decide +kernel
theorem dX3_get_36 : decode cX3_get 36 = .ok (.iload_n 3, 1) := by decide +kernel
theorem dX3_get_37 : decode cX3_get 37 = .ok (.laload, 1) := by decide +kernel
theorem dX3_get_38 : decode cX3_get 38 = .ok (.iload_n 1, 1) := by decide +kernel
theorem dX3_get_39 : decode cX3_get 39 = .ok (.invokestatic 25, 3) := by decide +kernel
theorem dX3_get_42 : decode cX3_get 42 = .ok (.lushr, 1) := by decide +kernel
theorem dX3_get_43 : decode cX3_get 43 = .ok (.ldc2_w 29, 3) := by decide +kernel
theorem dX3_get_46 : decode cX3_get 46 = .ok (.land, 1) := by decide +kernel
theorem dX3_get_47 : decode cX3_get 47 = .ok (.lstore 4, 2) := by decide +kernel
theorem dX3_get_49 : decode cX3_get 49 = .ok (.lload 4, 2) := by decide +kernel
theorem dX3_get_51 : decode cX3_get 51 = .ok (.ldc2_w 29, 3) := by decide +kernel
theorem dX3_get_54 : decode cX3_get 54 = .ok (.lcmp, 1) := by decide +kernel
theorem dX3_get_55 : decode cX3_get 55 = .ok (.ifCond .ne 7, 3) := by decide +kernel
theorem dX3_get_58 : decode cX3_get 58 = .ok (.iconst (-1), 1) := by decide +kernel
theorem dX3_get_59 : decode cX3_get 59 = .ok (.goto 6, 3) := by decide +kernel
theorem dX3_get_62 : decode cX3_get 62 = .ok (.lload 4, 2) := by decide +kernel
theorem dX3_get_64 : decode cX3_get 64 = .ok (.l2i, 1) := by decide +kernel
theorem dX3_get_65 : decode cX3_get 65 = .ok (.ireturn, 1) := by decide +kernel
theorem dX3_set_0 : decode cX3_set 0 = .ok (.iconst 2, 1) := by decide +kernel
theorem dX3_set_1 : decode cX3_set 1 = .ok (.iload_n 2, 1) := by decide +kernel
theorem dX3_set_2 : decode cX3_set 2 = .ok (.imul, 1) := by decide +kernel
theorem dX3_set_3 : decode cX3_set 3 = .ok (.iload_n 1, 1) := by decide +kernel
theorem dX3_set_4 : decode cX3_set 4 = .ok (.bipush 20, 2) := by decide +kernel
theorem dX3_set_6 : decode cX3_set 6 = .ok (.idiv, 1) := by decide +kernel
theorem dX3_set_7 : decode cX3_set 7 = .ok (.iadd, 1) := by decide +kernel
theorem dX3_set_8 : decode cX3_set 8 = .ok (.istore 4, 2) := by decide +kernel
theorem dX3_set_10 : decode cX3_set 10 = .ok (.iload_n 1, 1) := by decide +kernel
theorem dX3_set_11 : decode cX3_set 11 = .ok (.iload_n 2, 1) := by decide +kernel
theorem dX3_set_12 : decode cX3_set 12 = .ok (.invokestatic 21, 3) := by decide +kernel
theorem dX3_set_15 : decode cX3_set 15 = .ok (.ifCond .eq 18, 3) := by decide +kernel
theorem dX3_set_18 : decode cX3_set 18 = .ok (.iload 4, 2) := by decide +kernel
theorem dX3_set_20 : decode cX3_set 20 = .ok (.ifCond .lt 13, 3) := by decide +kernel
theorem dX3_set_23 : decode cX3_set 23 = .ok (.iload 4, 2) := by decide +kernel
theorem dX3_set_25 : decode cX3_set 25 = .ok (.aload_n 0, 1) := by decide +kernel
theorem dX3_set_26 : decode cX3_set 26 = .ok (.getfield 11, 3) := by decide +kernel
theorem dX3_set_29 : decode cX3_set 29 = .ok (.arraylength, 1) := by decide +kernel
theorem dX3_set_30 : decode cX3_set 30 = .ok (.if_icmp .lt 4, 3) := by decide +kernel
theorem dX3_set_33 : decode cX3_set 33 = .ok (.return_, 1) := by decide +kernel
theorem dX3_set_34 : decode cX3_set 34 = .ok (.iload_n 1, 1) := by decide +kernel
theorem dX3_set_35 : decode cX3_set 35 = .ok (.invokestatic 25, 3) := by decide +kernel
theorem dX3_set_38 : decode cX3_set 38 = .ok (.istore 5, 2) := by decide +kernel
theorem dX3_set_40 : decode cX3_set 40 = .ok (.aload_n 0, 1) := by decide +kernel
theorem dX3_set_41 : decode cX3_set 41 = .ok (.getfield 11, 3) := by decide +kernel
theorem dX3_set_44 : decode cX3_set 44 = .ok (.iload 4, 2) := by decide +kernel
theorem dX3_set_46 : decode cX3_set 46 = .ok (.aload_n 0, 1) := by decide +kernel
theorem dX3_set_47 : decode cX3_set 47 = .ok (.getfield 11, 3) := by decide +kernel
theorem dX3_set_50 : decode cX3_set 50 = .ok (.iload 4, 2) := by decide +kernel
theorem dX3_set_52 : decode cX3_set 52 = .ok (.laload, 1) := by decide +kernel
theorem dX3_set_53 : decode cX3_set 53 = .ok (.ldc2_w 29, 3) := by decide +kernel
theorem dX3_set_56 : decode cX3_set 56 = .ok (.iload 5, 2) := by decide +kernel
theorem dX3_set_58 : decode cX3_set 58 = .ok (.lshl, 1) := by decide +kernel
theorem dX3_set_59 : decode cX3_set 59 = .ok (.ldc2_w 31, 3) := by decide +kernel
theorem dX3_set_62 : decode cX3_set 62 = .ok (.lxor, 1) := by decide +kernel
theorem dX3_set_63 : decode cX3_set 63 = .ok (.land, 1) := by decide +kernel
theorem dX3_set_64 : decode cX3_set 64 = .ok (.iload_n 3, 1) := by decide +kernel
theorem dX3_set_65 : decode cX3_set 65 = .ok (.i2l, 1) := by decide +kernel
theorem dX3_set_66 : decode cX3_set 66 = .ok (.ldc2_w 29, 3) := by decide +kernel
theorem dX3_set_69 : decode cX3_set 69 = .ok (.land, 1) := by decide +kernel
theorem dX3_set_70 : decode cX3_set 70 = .ok (.iload 5, 2) := by decide +kernel
theorem dX3_set_72 : decode cX3_set 72 = .ok (.lshl, 1) := by decide +kernel
theorem dX3_set_73 : decode cX3_set 73 = .ok (.lor, 1) := by decide +kernel
theorem dX3_set_74 : decode cX3_set 74 = .ok (.lastore, 1) := by decide +kernel
theorem dX3_set_75 : decode cX3_set 75 = .ok (.return_, 1) := by decide +kernel
theorem dX3_clearToGround_0 : decode cX3_clearToGround 0 = .ok (.aload_n 0, 1) := by decide +kernel
theorem dX3_clearToGround_1 : decode cX3_clearToGround 1 = .ok (.getfield 11, 3) := by decide +kernel
theorem dX3_clearToGround_4 : decode cX3_clearToGround 4 = .ok (.lconst 0, 1) := by decide +kernel
theorem dX3_clearToGround_5 : decode cX3_clearToGround 5 = .ok (.invokestatic 33, 3) := by decide +kernel
theorem dX3_clearToGround_8 : decode cX3_clearToGround 8 = .ok (.return_, 1) := by decide +kernel
theorem dX3_clearFrom_0 : decode cX3_clearFrom 0 = .ok (.iconst 0, 1) := by decide +kernel
theorem dX3_clearFrom_1 : decode cX3_clearFrom 1 = .ok (.iconst 2, 1) := by decide +kernel
theorem dX3_clearFrom_2 : decode cX3_clearFrom 2 = .ok (.iload_n 1, 1) := by decide +kernel
theorem dX3_clearFrom_3 : decode cX3_clearFrom 3 = .ok (.imul, 1) := by decide +kernel
theorem dX3_clearFrom_4 : decode cX3_clearFrom 4 = .ok (.invokestatic 39, 3) := by decide +kernel
theorem dX3_clearFrom_7 : decode cX3_clearFrom 7 = .ok (.istore_n 2, 1) := by decide +kernel
theorem dX3_clearFrom_8 : decode cX3_clearFrom 8 = .ok (.iload_n 2, 1) := by decide +kernel
theorem dX3_clearFrom_9 : decode cX3_clearFrom 9 = .ok (.aload_n 0, 1) := by decide +kernel
theorem dX3_clearFrom_10 : decode cX3_clearFrom 10 = .ok (.getfield 11, 3) := by decide +kernel
theorem dX3_clearFrom_13 : decode cX3_clearFrom 13 = .ok (.arraylength, 1) := by decide +kernel
theorem dX3_clearFrom_14 : decode cX3_clearFrom 14 = .ok (.if_icmp .ge 18, 3) := by decide +kernel
theorem dX3_clearFrom_17 : decode cX3_clearFrom 17 = .ok (.aload_n 0, 1) := by decide +kernel
theorem dX3_clearFrom_18 : decode cX3_clearFrom 18 = .ok (.getfield 11, 3) := by decide +kernel
theorem dX3_clearFrom_21 : decode cX3_clearFrom 21 = .ok (.iload_n 2, 1) := by decide +kernel
theorem dX3_clearFrom_22 : decode cX3_clearFrom 22 = .ok (.ldc2_w 31, 3) := by decide +kernel
theorem dX3_clearFrom_25 : decode cX3_clearFrom 25 = .ok (.lastore, 1) := by decide +kernel
theorem dX3_clearFrom_26 : decode cX3_clearFrom 26 = .ok (.iinc 2 1, 3) := by decide +kernel
theorem dX3_clearFrom_29 : decode cX3_clearFrom 29 = .ok (.goto (-21), 3) := by decide +kernel
theorem dX3_clearFrom_32 : decode cX3_clearFrom 32 = .ok (.return_, 1) := by decide +kernel
theorem dX3_isCell_0 : decode cX3_isCell 0 = .ok (.iload_n 0, 1) := by decide +kernel
theorem dX3_isCell_1 : decode cX3_isCell 1 = .ok (.ifCond .lt 23, 3) := by decide +kernel
theorem dX3_isCell_4 : decode cX3_isCell 4 = .ok (.iload_n 0, 1) := by decide +kernel
theorem dX3_isCell_5 : decode cX3_isCell 5 = .ok (.bipush 40, 2) := by decide +kernel
theorem dX3_isCell_7 : decode cX3_isCell 7 = .ok (.if_icmp .ge 17, 3) := by decide +kernel
theorem dX3_isCell_10 : decode cX3_isCell 10 = .ok (.iload_n 1, 1) := by decide +kernel
theorem dX3_isCell_11 : decode cX3_isCell 11 = .ok (.ifCond .lt 13, 3) := by decide +kernel
theorem dX3_isCell_14 : decode cX3_isCell 14 = .ok (.iload_n 1, 1) := by decide +kernel
theorem dX3_isCell_15 : decode cX3_isCell 15 = .ok (.bipush 30, 2) := by decide +kernel
theorem dX3_isCell_17 : decode cX3_isCell 17 = .ok (.if_icmp .ge 7, 3) := by decide +kernel
theorem dX3_isCell_20 : decode cX3_isCell 20 = .ok (.iconst 1, 1) := by decide +kernel
theorem dX3_isCell_21 : decode cX3_isCell 21 = .ok (.goto 4, 3) := by decide +kernel
theorem dX3_isCell_24 : decode cX3_isCell 24 = .ok (.iconst 0, 1) := by decide +kernel
theorem dX3_isCell_25 : decode cX3_isCell 25 = .ok (.ireturn, 1) := by decide +kernel
theorem dX3_shiftOf_0 : decode cX3_shiftOf 0 = .ok (.iconst 3, 1) := by decide +kernel
theorem dX3_shiftOf_1 : decode cX3_shiftOf 1 = .ok (.iload_n 0, 1) := by decide +kernel
theorem dX3_shiftOf_2 : decode cX3_shiftOf 2 = .ok (.bipush 20, 2) := by decide +kernel
theorem dX3_shiftOf_4 : decode cX3_shiftOf 4 = .ok (.irem, 1) := by decide +kernel
theorem dX3_shiftOf_5 : decode cX3_shiftOf 5 = .ok (.imul, 1) := by decide +kernel
theorem dX3_shiftOf_6 : decode cX3_shiftOf 6 = .ok (.ireturn, 1) := by decide +kernel
theorem dX4_init_0 : decode cX4_init 0 = .ok (.aload_n 0, 1) := by decide +kernel
theorem dX4_init_1 : decode cX4_init 1 = .ok (.invokespecial 3, 3) := by decide +kernel
theorem dX4_init_4 : decode cX4_init 4 = .ok (.aload_n 0, 1) := by decide +kernel
theorem dX4_init_5 : decode cX4_init 5 = .ok (.bipush 8, 2) := by decide +kernel
theorem dX4_init_7 : decode cX4_init 7 = .ok (.anewarray 9, 3) := by decide +kernel
theorem dX4_init_10 : decode cX4_init 10 = .ok (.putfield 11, 3) := by decide +kernel
theorem dX4_init_13 : decode cX4_init 13 = .ok (.iconst 0, 1) := by decide +kernel
theorem dX4_init_14 : decode cX4_init 14 = .ok (.istore_n 1, 1) := by decide +kernel
theorem dX4_init_15 : decode cX4_init 15 = .ok (.iload_n 1, 1) := by decide +kernel
theorem dX4_init_16 : decode cX4_init 16 = .ok (.aload_n 0, 1) := by decide +kernel
theorem dX4_init_17 : decode cX4_init 17 = .ok (.getfield 11, 3) := by decide +kernel
theorem dX4_init_20 : decode cX4_init 20 = .ok (.arraylength, 1) := by decide +kernel
theorem dX4_init_21 : decode cX4_init 21 = .ok (.if_icmp .ge 22, 3) := by decide +kernel
theorem dX4_init_24 : decode cX4_init 24 = .ok (.aload_n 0, 1) := by decide +kernel
theorem dX4_init_25 : decode cX4_init 25 = .ok (.getfield 11, 3) := by decide +kernel
theorem dX4_init_28 : decode cX4_init 28 = .ok (.iload_n 1, 1) := by decide +kernel
theorem dX4_init_29 : decode cX4_init 29 = .ok (.new 9, 3) := by decide +kernel
theorem dX4_init_32 : decode cX4_init 32 = .ok (.dup, 1) := by decide +kernel
theorem dX4_init_33 : decode cX4_init 33 = .ok (.invokespecial 17, 3) := by decide +kernel
theorem dX4_init_36 : decode cX4_init 36 = .ok (.aastore, 1) := by decide +kernel
theorem dX4_init_37 : decode cX4_init 37 = .ok (.iinc 1 1, 3) := by decide +kernel
theorem dX4_init_40 : decode cX4_init 40 = .ok (.goto (-25), 3) := by decide +kernel
theorem dX4_init_43 : decode cX4_init 43 = .ok (.return_, 1) := by decide +kernel
theorem dX4_clear_0 : decode cX4_clear 0 = .ok (.aload_n 0, 1) := by decide +kernel
theorem dX4_clear_1 : decode cX4_clear 1 = .ok (.iconst 0, 1) := by decide +kernel
theorem dX4_clear_2 : decode cX4_clear 2 = .ok (.putfield 18, 3) := by decide +kernel
theorem dX4_clear_5 : decode cX4_clear 5 = .ok (.return_, 1) := by decide +kernel
theorem dX4_keep_0 : decode cX4_keep 0 = .ok (.aload_n 0, 1) := by decide +kernel
theorem dX4_keep_1 : decode cX4_keep 1 = .ok (.getfield 22, 3) := by decide +kernel
theorem dX4_keep_4 : decode cX4_keep 4 = .ok (.ifCond .lt 15, 3) := by decide +kernel
theorem dX4_keep_7 : decode cX4_keep 7 = .ok (.aload_n 0, 1) := by decide +kernel
theorem dX4_keep_8 : decode cX4_keep 8 = .ok (.getfield 22, 3) := by decide +kernel
theorem dX4_keep_11 : decode cX4_keep 11 = .ok (.aload_n 0, 1) := by decide +kernel
theorem dX4_keep_12 : decode cX4_keep 12 = .ok (.getfield 11, 3) := by decide +kernel
theorem dX4_keep_15 : decode cX4_keep 15 = .ok (.arraylength, 1) := by decide +kernel
theorem dX4_keep_16 : decode cX4_keep 16 = .ok (.if_icmp .lt 8, 3) := by decide +kernel
theorem dX4_keep_19 : decode cX4_keep 19 = .ok (.aload_n 0, 1) := by decide +kernel
theorem dX4_keep_20 : decode cX4_keep 20 = .ok (.iconst 0, 1) := by decide +kernel
theorem dX4_keep_21 : decode cX4_keep 21 = .ok (.putfield 22, 3) := by decide +kernel
theorem dX4_keep_24 : decode cX4_keep 24 = .ok (.aload_n 0, 1) := by decide +kernel
theorem dX4_keep_25 : decode cX4_keep 25 = .ok (.getfield 11, 3) := by decide +kernel
theorem dX4_keep_28 : decode cX4_keep 28 = .ok (.aload_n 0, 1) := by decide +kernel
theorem dX4_keep_29 : decode cX4_keep 29 = .ok (.getfield 22, 3) := by decide +kernel
theorem dX4_keep_32 : decode cX4_keep 32 = .ok (.aaload, 1) := by decide +kernel
theorem dX4_keep_33 : decode cX4_keep 33 = .ok (.aload_n 1, 1) := by decide +kernel
theorem dX4_keep_34 : decode cX4_keep 34 = .ok (.invokevirtual 25, 3) := by decide +kernel
theorem dX4_keep_37 : decode cX4_keep 37 = .ok (.aload_n 0, 1) := by decide +kernel
theorem dX4_keep_38 : decode cX4_keep 38 = .ok (.dup, 1) := by decide +kernel
theorem dX4_keep_39 : decode cX4_keep 39 = .ok (.getfield 22, 3) := by decide +kernel
theorem dX4_keep_42 : decode cX4_keep 42 = .ok (.iconst 1, 1) := by decide +kernel
theorem dX4_keep_43 : decode cX4_keep 43 = .ok (.iadd, 1) := by decide +kernel
theorem dX4_keep_44 : decode cX4_keep 44 = .ok (.putfield 22, 3) := by decide +kernel
theorem dX4_keep_47 : decode cX4_keep 47 = .ok (.aload_n 0, 1) := by decide +kernel
theorem dX4_keep_48 : decode cX4_keep 48 = .ok (.bipush 8, 2) := by decide +kernel
theorem dX4_keep_50 : decode cX4_keep 50 = .ok (.aload_n 0, 1) := by decide +kernel
theorem dX4_keep_51 : decode cX4_keep 51 = .ok (.getfield 18, 3) := by decide +kernel
theorem dX4_keep_54 : decode cX4_keep 54 = .ok (.iconst 1, 1) := by decide +kernel
theorem dX4_keep_55 : decode cX4_keep 55 = .ok (.iadd, 1) := by decide +kernel
theorem dX4_keep_56 : decode cX4_keep 56 = .ok (.invokestatic 29, 3) := by decide +kernel
theorem dX4_keep_59 : decode cX4_keep 59 = .ok (.putfield 18, 3) := by decide +kernel
theorem dX4_keep_62 : decode cX4_keep 62 = .ok (.return_, 1) := by decide +kernel
theorem dX4_takeLatest_0 : decode cX4_takeLatest 0 = .ok (.aload_n 0, 1) := by decide +kernel
theorem dX4_takeLatest_1 : decode cX4_takeLatest 1 = .ok (.dup, 1) := by decide +kernel
theorem dX4_takeLatest_2 : decode cX4_takeLatest 2 = .ok (.getfield 22, 3) := by decide +kernel
theorem dX4_takeLatest_5 : decode cX4_takeLatest 5 = .ok (.iconst 1, 1) := by decide +kernel
theorem dX4_takeLatest_6 : decode cX4_takeLatest 6 = .ok (.isub, 1) := by decide +kernel
theorem dX4_takeLatest_7 : decode cX4_takeLatest 7 = .ok (.putfield 22, 3) := by decide +kernel
theorem dX4_takeLatest_10 : decode cX4_takeLatest 10 = .ok (.aload_n 0, 1) := by decide +kernel
theorem dX4_takeLatest_11 : decode cX4_takeLatest 11 = .ok (.getfield 22, 3) := by decide +kernel
theorem dX4_takeLatest_14 : decode cX4_takeLatest 14 = .ok (.ifCond .lt 15, 3) := by decide +kernel
theorem dX4_takeLatest_17 : decode cX4_takeLatest 17 = .ok (.aload_n 0, 1) := by decide +kernel
theorem dX4_takeLatest_18 : decode cX4_takeLatest 18 = .ok (.getfield 22, 3) := by decide +kernel
theorem dX4_takeLatest_21 : decode cX4_takeLatest 21 = .ok (.aload_n 0, 1) := by decide +kernel
theorem dX4_takeLatest_22 : decode cX4_takeLatest 22 = .ok (.getfield 11, 3) := by decide +kernel
theorem dX4_takeLatest_25 : decode cX4_takeLatest 25 = .ok (.arraylength, 1) := by decide +kernel
theorem dX4_takeLatest_26 : decode cX4_takeLatest 26 = .ok (.if_icmp .lt 14, 3) := by decide +kernel
theorem dX4_takeLatest_29 : decode cX4_takeLatest 29 = .ok (.aload_n 0, 1) := by decide +kernel
theorem dX4_takeLatest_30 : decode cX4_takeLatest 30 = .ok (.aload_n 0, 1) := by decide +kernel
theorem dX4_takeLatest_31 : decode cX4_takeLatest 31 = .ok (.getfield 11, 3) := by decide +kernel
theorem dX4_takeLatest_34 : decode cX4_takeLatest 34 = .ok (.arraylength, 1) := by decide +kernel
theorem dX4_takeLatest_35 : decode cX4_takeLatest 35 = .ok (.iconst 1, 1) := by decide +kernel
theorem dX4_takeLatest_36 : decode cX4_takeLatest 36 = .ok (.isub, 1) := by decide +kernel
theorem dX4_takeLatest_37 : decode cX4_takeLatest 37 = .ok (.putfield 22, 3) := by decide +kernel
theorem dX4_takeLatest_40 : decode cX4_takeLatest 40 = .ok (.aload_n 0, 1) := by decide +kernel
theorem dX4_takeLatest_41 : decode cX4_takeLatest 41 = .ok (.dup, 1) := by decide +kernel
theorem dX4_takeLatest_42 : decode cX4_takeLatest 42 = .ok (.getfield 18, 3) := by decide +kernel
theorem dX4_takeLatest_45 : decode cX4_takeLatest 45 = .ok (.iconst 1, 1) := by decide +kernel
theorem dX4_takeLatest_46 : decode cX4_takeLatest 46 = .ok (.isub, 1) := by decide +kernel
theorem dX4_takeLatest_47 : decode cX4_takeLatest 47 = .ok (.putfield 18, 3) := by decide +kernel
theorem dX4_takeLatest_50 : decode cX4_takeLatest 50 = .ok (.aload_n 0, 1) := by decide +kernel
theorem dX4_takeLatest_51 : decode cX4_takeLatest 51 = .ok (.getfield 11, 3) := by decide +kernel
theorem dX4_takeLatest_54 : decode cX4_takeLatest 54 = .ok (.aload_n 0, 1) := by decide +kernel
theorem dX4_takeLatest_55 : decode cX4_takeLatest 55 = .ok (.getfield 22, 3) := by decide +kernel
theorem dX4_takeLatest_58 : decode cX4_takeLatest 58 = .ok (.aaload, 1) := by decide +kernel
theorem dX4_takeLatest_59 : decode cX4_takeLatest 59 = .ok (.areturn, 1) := by decide +kernel
theorem dX6_init_0 : decode cX6_init 0 = .ok (.aload_n 0, 1) := by decide +kernel
theorem dX6_init_1 : decode cX6_init 1 = .ok (.invokespecial 3, 3) := by decide +kernel
theorem dX6_init_4 : decode cX6_init 4 = .ok (.aload_n 0, 1) := by decide +kernel
theorem dX6_init_5 : decode cX6_init 5 = .ok (.iconst (-1), 1) := by decide +kernel
theorem dX6_init_6 : decode cX6_init 6 = .ok (.putfield 9, 3) := by decide +kernel
theorem dX6_init_9 : decode cX6_init 9 = .ok (.aload_n 0, 1) := by decide +kernel
theorem dX6_init_10 : decode cX6_init 10 = .ok (.aload_n 1, 1) := by decide +kernel
theorem dX6_init_11 : decode cX6_init 11 = .ok (.putfield 15, 3) := by decide +kernel
theorem dX6_init_14 : decode cX6_init 14 = .ok (.return_, 1) := by decide +kernel
theorem dX6_begin_0 : decode cX6_begin 0 = .ok (.aload_n 0, 1) := by decide +kernel
theorem dX6_begin_1 : decode cX6_begin 1 = .ok (.iconst 0, 1) := by decide +kernel
theorem dX6_begin_2 : decode cX6_begin 2 = .ok (.putfield 19, 3) := by decide +kernel
theorem dX6_begin_5 : decode cX6_begin 5 = .ok (.aload_n 0, 1) := by decide +kernel
theorem dX6_begin_6 : decode cX6_begin 6 = .ok (.iconst (-1), 1) := by decide +kernel
theorem dX6_begin_7 : decode cX6_begin 7 = .ok (.putfield 9, 3) := by decide +kernel
theorem dX6_begin_10 : decode cX6_begin 10 = .ok (.aload_n 0, 1) := by decide +kernel
theorem dX6_begin_11 : decode cX6_begin 11 = .ok (.iconst 0, 1) := by decide +kernel
theorem dX6_begin_12 : decode cX6_begin 12 = .ok (.putfield 22, 3) := by decide +kernel
theorem dX6_begin_15 : decode cX6_begin 15 = .ok (.aload_n 0, 1) := by decide +kernel
theorem dX6_begin_16 : decode cX6_begin 16 = .ok (.invokevirtual 25, 3) := by decide +kernel
theorem dX6_begin_19 : decode cX6_begin 19 = .ok (.return_, 1) := by decide +kernel
theorem dX6_fail_0 : decode cX6_fail 0 = .ok (.aload_n 0, 1) := by decide +kernel
theorem dX6_fail_1 : decode cX6_fail 1 = .ok (.iload_n 1, 1) := by decide +kernel
theorem dX6_fail_2 : decode cX6_fail 2 = .ok (.putfield 19, 3) := by decide +kernel
theorem dX6_fail_5 : decode cX6_fail 5 = .ok (.aload_n 0, 1) := by decide +kernel
theorem dX6_fail_6 : decode cX6_fail 6 = .ok (.aload_n 0, 1) := by decide +kernel
theorem dX6_fail_7 : decode cX6_fail 7 = .ok (.getfield 28, 3) := by decide +kernel
theorem dX6_fail_10 : decode cX6_fail 10 = .ok (.putfield 9, 3) := by decide +kernel
theorem dX6_fail_13 : decode cX6_fail 13 = .ok (.iconst 0, 1) := by decide +kernel
theorem dX6_fail_14 : decode cX6_fail 14 = .ok (.ireturn, 1) := by decide +kernel
theorem dX6_step_0 : decode cX6_step 0 = .ok (.aload_n 0, 1) := by decide +kernel
theorem dX6_step_1 : decode cX6_step 1 = .ok (.aload_n 0, 1) := by decide +kernel
theorem dX6_step_2 : decode cX6_step 2 = .ok (.getfield 22, 3) := by decide +kernel
theorem dX6_step_5 : decode cX6_step 5 = .ok (.putfield 28, 3) := by decide +kernel
theorem dX6_step_8 : decode cX6_step 8 = .ok (.aload_n 0, 1) := by decide +kernel
theorem dX6_step_9 : decode cX6_step 9 = .ok (.getfield 28, 3) := by decide +kernel
theorem dX6_step_12 : decode cX6_step 12 = .ok (.aload_n 0, 1) := by decide +kernel
theorem dX6_step_13 : decode cX6_step 13 = .ok (.getfield 15, 3) := by decide +kernel
theorem dX6_step_16 : decode cX6_step 16 = .ok (.invokevirtual 31, 3) := by decide +kernel
theorem dX6_step_19 : decode cX6_step 19 = .ok (.if_icmp .ge 33, 3) := by decide +kernel
theorem dX6_step_22 : decode cX6_step 22 = .ok (.aload_n 0, 1) := by decide +kernel
theorem dX6_step_23 : decode cX6_step 23 = .ok (.getfield 15, 3) := by decide +kernel
theorem dX6_step_26 : decode cX6_step 26 = .ok (.aload_n 0, 1) := by decide +kernel
theorem dX6_step_27 : decode cX6_step 27 = .ok (.getfield 28, 3) := by decide +kernel
theorem dX6_step_30 : decode cX6_step 30 = .ok (.invokevirtual 37, 3) := by decide +kernel
theorem dX6_step_33 : decode cX6_step 33 = .ok (.invokestatic 41, 3) := by decide +kernel
theorem dX6_step_36 : decode cX6_step 36 = .ok (.ifCond .eq 16, 3) := by decide +kernel
theorem dX6_step_39 : decode cX6_step 39 = .ok (.aload_n 0, 1) := by decide +kernel
theorem dX6_step_40 : decode cX6_step 40 = .ok (.dup, 1) := by decide +kernel
theorem dX6_step_41 : decode cX6_step 41 = .ok (.getfield 28, 3) := by decide +kernel
theorem dX6_step_44 : decode cX6_step 44 = .ok (.iconst 1, 1) := by decide +kernel
theorem dX6_step_45 : decode cX6_step 45 = .ok (.iadd, 1) := by decide +kernel
theorem dX6_step_46 : decode cX6_step 46 = .ok (.putfield 28, 3) := by decide +kernel
theorem dX6_step_49 : decode cX6_step 49 = .ok (.goto (-41), 3) := by decide +kernel
theorem dX6_step_52 : decode cX6_step 52 = .ok (.aload_n 0, 1) := by decide +kernel
theorem dX6_step_53 : decode cX6_step 53 = .ok (.getfield 15, 3) := by decide +kernel
theorem dX6_step_56 : decode cX6_step 56 = .ok (.aload_n 0, 1) := by decide +kernel
theorem dX6_step_57 : decode cX6_step 57 = .ok (.getfield 28, 3) := by decide +kernel
theorem dX6_step_60 : decode cX6_step 60 = .ok (.invokevirtual 37, 3) := by decide +kernel
theorem dX6_step_63 : decode cX6_step 63 = .ok (.istore_n 1, 1) := by decide +kernel
theorem dX6_step_64 : decode cX6_step 64 = .ok (.aload_n 0, 1) := by decide +kernel
theorem dX6_step_65 : decode cX6_step 65 = .ok (.aload_n 0, 1) := by decide +kernel
theorem dX6_step_66 : decode cX6_step 66 = .ok (.getfield 28, 3) := by decide +kernel
theorem dX6_step_69 : decode cX6_step 69 = .ok (.putfield 22, 3) := by decide +kernel
theorem dX6_step_72 : decode cX6_step 72 = .ok (.aload_n 0, 1) := by decide +kernel
theorem dX6_step_73 : decode cX6_step 73 = .ok (.iconst 0, 1) := by decide +kernel
theorem dX6_step_74 : decode cX6_step 74 = .ok (.putfield 45, 3) := by decide +kernel
theorem dX6_step_77 : decode cX6_step 77 = .ok (.iload_n 1, 1) := by decide +kernel
theorem dX6_step_78 : decode cX6_step 78 = .ok (.iconst (-1), 1) := by decide +kernel
theorem dX6_step_79 : decode cX6_step 79 = .ok (.if_icmp .ne 11, 3) := by decide +kernel
theorem dX6_step_82 : decode cX6_step 82 = .ok (.aload_n 0, 1) := by decide +kernel
theorem dX6_step_83 : decode cX6_step 83 = .ok (.iconst 0, 1) := by decide +kernel
theorem dX6_step_84 : decode cX6_step 84 = .ok (.putfield 48, 3) := by decide +kernel
theorem dX6_step_87 : decode cX6_step 87 = .ok (.goto 183, 3) := by decide +kernel
theorem dX6_step_90 : decode cX6_step 90 = .ok (.iload_n 1, 1) := by decide +kernel
theorem dX6_step_91 : decode cX6_step 91 = .ok (.invokestatic 51, 3) := by decide +kernel
theorem dX6_step_94 : decode cX6_step 94 = .ok (.ifCond .eq 52, 3) := by decide +kernel
theorem dX6_step_97 : decode cX6_step 97 = .ok (.aload_n 0, 1) := by decide +kernel
theorem dX6_step_98 : decode cX6_step 98 = .ok (.iconst 1, 1) := by decide +kernel
theorem dX6_step_99 : decode cX6_step 99 = .ok (.putfield 48, 3) := by decide +kernel
theorem dX6_step_102 : decode cX6_step 102 = .ok (.aload_n 0, 1) := by decide +kernel
theorem dX6_step_103 : decode cX6_step 103 = .ok (.getfield 22, 3) := by decide +kernel
theorem dX6_step_106 : decode cX6_step 106 = .ok (.aload_n 0, 1) := by decide +kernel
theorem dX6_step_107 : decode cX6_step 107 = .ok (.getfield 15, 3) := by decide +kernel
theorem dX6_step_110 : decode cX6_step 110 = .ok (.invokevirtual 31, 3) := by decide +kernel
theorem dX6_step_113 : decode cX6_step 113 = .ok (.if_icmp .ge 157, 3) := by decide +kernel
theorem dX6_step_116 : decode cX6_step 116 = .ok (.aload_n 0, 1) := by decide +kernel
theorem dX6_step_117 : decode cX6_step 117 = .ok (.getfield 15, 3) := by decide +kernel
theorem dX6_step_120 : decode cX6_step 120 = .ok (.aload_n 0, 1) := by decide +kernel
theorem dX6_step_121 : decode cX6_step 121 = .ok (.getfield 22, 3) := by decide +kernel
theorem dX6_step_124 : decode cX6_step 124 = .ok (.invokevirtual 37, 3) := by decide +kernel
theorem dX6_step_127 : decode cX6_step 127 = .ok (.invokestatic 51, 3) := by decide +kernel
theorem dX6_step_130 : decode cX6_step 130 = .ok (.ifCond .eq 140, 3) := by decide +kernel
theorem dX6_step_133 : decode cX6_step 133 = .ok (.aload_n 0, 1) := by decide +kernel
theorem dX6_step_134 : decode cX6_step 134 = .ok (.dup, 1) := by decide +kernel
theorem dX6_step_135 : decode cX6_step 135 = .ok (.getfield 22, 3) := by decide +kernel
theorem dX6_step_138 : decode cX6_step 138 = .ok (.iconst 1, 1) := by decide +kernel
theorem dX6_step_139 : decode cX6_step 139 = .ok (.iadd, 1) := by decide +kernel
theorem dX6_step_140 : decode cX6_step 140 = .ok (.putfield 22, 3) := by decide +kernel
theorem dX6_step_143 : decode cX6_step 143 = .ok (.goto (-41), 3) := by decide +kernel
theorem dX6_step_146 : decode cX6_step 146 = .ok (.iload_n 1, 1) := by decide +kernel
theorem dX6_step_147 : decode cX6_step 147 = .ok (.invokestatic 54, 3) := by decide +kernel
theorem dX6_step_150 : decode cX6_step 150 = .ok (.ifCond .eq 83, 3) := by decide +kernel
theorem dX6_step_153 : decode cX6_step 153 = .ok (.aload_n 0, 1) := by decide +kernel
theorem dX6_step_154 : decode cX6_step 154 = .ok (.iconst 2, 1) := by decide +kernel
theorem dX6_step_155 : decode cX6_step 155 = .ok (.putfield 48, 3) := by decide +kernel
theorem dX6_step_158 : decode cX6_step 158 = .ok (.aload_n 0, 1) := by decide +kernel
theorem dX6_step_159 : decode cX6_step 159 = .ok (.getfield 22, 3) := by decide +kernel
theorem dX6_step_162 : decode cX6_step 162 = .ok (.aload_n 0, 1) := by decide +kernel
theorem dX6_step_163 : decode cX6_step 163 = .ok (.getfield 15, 3) := by decide +kernel
theorem dX6_step_166 : decode cX6_step 166 = .ok (.invokevirtual 31, 3) := by decide +kernel
theorem dX6_step_169 : decode cX6_step 169 = .ok (.if_icmp .ge 101, 3) := by decide +kernel
theorem dX6_step_172 : decode cX6_step 172 = .ok (.aload_n 0, 1) := by decide +kernel
theorem dX6_step_173 : decode cX6_step 173 = .ok (.getfield 15, 3) := by decide +kernel
theorem dX6_step_176 : decode cX6_step 176 = .ok (.aload_n 0, 1) := by decide +kernel
theorem dX6_step_177 : decode cX6_step 177 = .ok (.getfield 22, 3) := by decide +kernel
theorem dX6_step_180 : decode cX6_step 180 = .ok (.invokevirtual 37, 3) := by decide +kernel
theorem dX6_step_183 : decode cX6_step 183 = .ok (.invokestatic 54, 3) := by decide +kernel
theorem dX6_step_186 : decode cX6_step 186 = .ok (.ifCond .eq 84, 3) := by decide +kernel
theorem dX6_step_189 : decode cX6_step 189 = .ok (.aload_n 0, 1) := by decide +kernel
theorem dX6_step_190 : decode cX6_step 190 = .ok (.ldc 57, 2) := by decide +kernel
theorem dX6_step_192 : decode cX6_step 192 = .ok (.bipush 10, 2) := by decide +kernel
theorem dX6_step_194 : decode cX6_step 194 = .ok (.aload_n 0, 1) := by decide +kernel
theorem dX6_step_195 : decode cX6_step 195 = .ok (.getfield 45, 3) := by decide +kernel
theorem dX6_step_198 : decode cX6_step 198 = .ok (.imul, 1) := by decide +kernel
theorem dX6_step_199 : decode cX6_step 199 = .ok (.aload_n 0, 1) := by decide +kernel
theorem dX6_step_200 : decode cX6_step 200 = .ok (.getfield 15, 3) := by decide +kernel
theorem dX6_step_203 : decode cX6_step 203 = .ok (.aload_n 0, 1) := by decide +kernel
theorem dX6_step_204 : decode cX6_step 204 = .ok (.getfield 22, 3) := by decide +kernel
theorem dX6_step_207 : decode cX6_step 207 = .ok (.invokevirtual 37, 3) := by decide +kernel
theorem dX6_step_210 : decode cX6_step 210 = .ok (.iadd, 1) := by decide +kernel
theorem dX6_step_211 : decode cX6_step 211 = .ok (.bipush 48, 2) := by decide +kernel
theorem dX6_step_213 : decode cX6_step 213 = .ok (.isub, 1) := by decide +kernel
theorem dX6_step_214 : decode cX6_step 214 = .ok (.invokestatic 58, 3) := by decide +kernel
theorem dX6_step_217 : decode cX6_step 217 = .ok (.putfield 45, 3) := by decide +kernel
theorem dX6_step_220 : decode cX6_step 220 = .ok (.aload_n 0, 1) := by decide +kernel
theorem dX6_step_221 : decode cX6_step 221 = .ok (.dup, 1) := by decide +kernel
theorem dX6_step_222 : decode cX6_step 222 = .ok (.getfield 22, 3) := by decide +kernel
theorem dX6_step_225 : decode cX6_step 225 = .ok (.iconst 1, 1) := by decide +kernel
theorem dX6_step_226 : decode cX6_step 226 = .ok (.iadd, 1) := by decide +kernel
theorem dX6_step_227 : decode cX6_step 227 = .ok (.putfield 22, 3) := by decide +kernel
theorem dX6_step_230 : decode cX6_step 230 = .ok (.goto (-72), 3) := by decide +kernel
theorem dX6_step_233 : decode cX6_step 233 = .ok (.aload_n 0, 1) := by decide +kernel
theorem dX6_step_234 : decode cX6_step 234 = .ok (.iload_n 1, 1) := by decide +kernel
theorem dX6_step_235 : decode cX6_step 235 = .ok (.bipush 59, 2) := by decide +kernel
theorem dX6_step_237 : decode cX6_step 237 = .ok (.if_icmp .eq 15, 3) := by decide +kernel
theorem dX6_step_240 : decode cX6_step 240 = .ok (.iload_n 1, 1) := by decide +kernel
theorem dX6_step_241 : decode cX6_step 241 = .ok (.bipush 123, 2) := by decide +kernel
theorem dX6_step_243 : decode cX6_step 243 = .ok (.if_icmp .eq 9, 3) := by decide +kernel
theorem dX6_step_246 : decode cX6_step 246 = .ok (.iload_n 1, 1) := by decide +kernel
theorem dX6_step_247 : decode cX6_step 247 = .ok (.bipush 125, 2) := by decide +kernel
theorem dX6_step_249 : decode cX6_step 249 = .ok (.if_icmp .ne 7, 3) := by decide +kernel
theorem dX6_step_252 : decode cX6_step 252 = .ok (.iload_n 1, 1) := by decide +kernel
theorem dX6_step_253 : decode cX6_step 253 = .ok (.goto 4, 3) := by decide +kernel
theorem dX6_step_256 : decode cX6_step 256 = .ok (.iconst (-1), 1) := by decide +kernel
theorem dX6_step_257 : decode cX6_step 257 = .ok (.putfield 48, 3) := by decide +kernel
theorem dX6_step_260 : decode cX6_step 260 = .ok (.aload_n 0, 1) := by decide +kernel
theorem dX6_step_261 : decode cX6_step 261 = .ok (.dup, 1) := by decide +kernel
theorem dX6_step_262 : decode cX6_step 262 = .ok (.getfield 22, 3) := by decide +kernel
theorem dX6_step_265 : decode cX6_step 265 = .ok (.iconst 1, 1) := by decide +kernel
theorem dX6_step_266 : decode cX6_step 266 = .ok (.iadd, 1) := by decide +kernel
theorem dX6_step_267 : decode cX6_step 267 = .ok (.putfield 22, 3) := by decide +kernel
theorem dX6_step_270 : decode cX6_step 270 = .ok (.return_, 1) := by decide +kernel
theorem dX6_isBlank_0 : decode cX6_isBlank 0 = .ok (.iload_n 0, 1) := by decide +kernel
theorem dX6_isBlank_1 : decode cX6_isBlank 1 = .ok (.bipush 32, 2) := by decide +kernel
theorem dX6_isBlank_3 : decode cX6_isBlank 3 = .ok (.if_icmp .eq 9, 3) := by decide +kernel
theorem dX6_isBlank_6 : decode cX6_isBlank 6 = .ok (.iload_n 0, 1) := by decide +kernel
theorem dX6_isBlank_7 : decode cX6_isBlank 7 = .ok (.bipush 10, 2) := by decide +kernel
theorem dX6_isBlank_9 : decode cX6_isBlank 9 = .ok (.if_icmp .ne 7, 3) := by decide +kernel
theorem dX6_isBlank_12 : decode cX6_isBlank 12 = .ok (.iconst 1, 1) := by decide +kernel
theorem dX6_isBlank_13 : decode cX6_isBlank 13 = .ok (.goto 4, 3) := by decide +kernel
theorem dX6_isBlank_16 : decode cX6_isBlank 16 = .ok (.iconst 0, 1) := by decide +kernel
theorem dX6_isBlank_17 : decode cX6_isBlank 17 = .ok (.ireturn, 1) := by decide +kernel
theorem dX6_isWord_0 : decode cX6_isWord 0 = .ok (.aload_n 0, 1) := by decide +kernel
theorem dX6_isWord_1 : decode cX6_isWord 1 = .ok (.getfield 48, 3) := by decide +kernel
theorem dX6_isWord_4 : decode cX6_isWord 4 = .ok (.iconst 1, 1) := by decide +kernel
theorem dX6_isWord_5 : decode cX6_isWord 5 = .ok (.if_icmp .ne 19, 3) := by decide +kernel
theorem dX6_isWord_8 : decode cX6_isWord 8 = .ok (.aload_n 0, 1) := by decide +kernel
theorem dX6_isWord_9 : decode cX6_isWord 9 = .ok (.getfield 22, 3) := by decide +kernel
theorem dX6_isWord_12 : decode cX6_isWord 12 = .ok (.aload_n 0, 1) := by decide +kernel
theorem dX6_isWord_13 : decode cX6_isWord 13 = .ok (.getfield 28, 3) := by decide +kernel
theorem dX6_isWord_16 : decode cX6_isWord 16 = .ok (.isub, 1) := by decide +kernel
theorem dX6_isWord_17 : decode cX6_isWord 17 = .ok (.aload_n 1, 1) := by decide +kernel
theorem dX6_isWord_18 : decode cX6_isWord 18 = .ok (.invokevirtual 64, 3) := by decide +kernel
theorem dX6_isWord_21 : decode cX6_isWord 21 = .ok (.if_icmp .eq 5, 3) := by decide +kernel
theorem dX6_isWord_24 : decode cX6_isWord 24 = .ok (.iconst 0, 1) := by decide +kernel
theorem dX6_isWord_25 : decode cX6_isWord 25 = .ok (.ireturn, 1) := by decide +kernel
theorem dX6_isWord_26 : decode cX6_isWord 26 = .ok (.iconst 0, 1) := by decide +kernel
theorem dX6_isWord_27 : decode cX6_isWord 27 = .ok (.istore_n 2, 1) := by decide +kernel
theorem dX6_isWord_28 : decode cX6_isWord 28 = .ok (.iload_n 2, 1) := by decide +kernel
theorem dX6_isWord_29 : decode cX6_isWord 29 = .ok (.aload_n 1, 1) := by decide +kernel
theorem dX6_isWord_30 : decode cX6_isWord 30 = .ok (.invokevirtual 64, 3) := by decide +kernel
theorem dX6_isWord_33 : decode cX6_isWord 33 = .ok (.if_icmp .ge 32, 3) := by decide +kernel
theorem dX6_isWord_36 : decode cX6_isWord 36 = .ok (.aload_n 0, 1) := by decide +kernel
theorem dX6_isWord_37 : decode cX6_isWord 37 = .ok (.getfield 15, 3) := by decide +kernel
theorem dX6_isWord_40 : decode cX6_isWord 40 = .ok (.aload_n 0, 1) := by decide +kernel
theorem dX6_isWord_41 : decode cX6_isWord 41 = .ok (.getfield 28, 3) := by decide +kernel
theorem dX6_isWord_44 : decode cX6_isWord 44 = .ok (.iload_n 2, 1) := by decide +kernel
theorem dX6_isWord_45 : decode cX6_isWord 45 = .ok (.iadd, 1) := by decide +kernel
theorem dX6_isWord_46 : decode cX6_isWord 46 = .ok (.invokevirtual 37, 3) := by decide +kernel
theorem dX6_isWord_49 : decode cX6_isWord 49 = .ok (.aload_n 1, 1) := by decide +kernel
theorem dX6_isWord_50 : decode cX6_isWord 50 = .ok (.iload_n 2, 1) := by decide +kernel
theorem dX6_isWord_51 : decode cX6_isWord 51 = .ok (.invokevirtual 69, 3) := by decide +kernel
theorem dX6_isWord_54 : decode cX6_isWord 54 = .ok (.if_icmp .eq 5, 3) := by decide +kernel
theorem dX6_isWord_57 : decode cX6_isWord 57 = .ok (.iconst 0, 1) := by decide +kernel
theorem dX6_isWord_58 : decode cX6_isWord 58 = .ok (.ireturn, 1) := by decide +kernel
theorem dX6_isWord_59 : decode cX6_isWord 59 = .ok (.iinc 2 1, 3) := by decide +kernel
theorem dX6_isWord_62 : decode cX6_isWord 62 = .ok (.goto (-34), 3) := by decide +kernel
theorem dX6_isWord_65 : decode cX6_isWord 65 = .ok (.iconst 1, 1) := by decide +kernel
theorem dX6_isWord_66 : decode cX6_isWord 66 = .ok (.ireturn, 1) := by decide +kernel
theorem dX6_takeWord_0 : decode cX6_takeWord 0 = .ok (.aload_n 0, 1) := by decide +kernel
theorem dX6_takeWord_1 : decode cX6_takeWord 1 = .ok (.aload_n 1, 1) := by decide +kernel
theorem dX6_takeWord_2 : decode cX6_takeWord 2 = .ok (.invokevirtual 73, 3) := by decide +kernel
theorem dX6_takeWord_5 : decode cX6_takeWord 5 = .ok (.ifCond .ne 9, 3) := by decide +kernel
theorem dX6_takeWord_8 : decode cX6_takeWord 8 = .ok (.aload_n 0, 1) := by decide +kernel
theorem dX6_takeWord_9 : decode cX6_takeWord 9 = .ok (.iconst 1, 1) := by decide +kernel
theorem dX6_takeWord_10 : decode cX6_takeWord 10 = .ok (.invokevirtual 77, 3) := by decide +kernel
theorem dX6_takeWord_13 : decode cX6_takeWord 13 = .ok (.ireturn, 1) := by decide +kernel
theorem dX6_takeWord_14 : decode cX6_takeWord 14 = .ok (.aload_n 0, 1) := by decide +kernel
theorem dX6_takeWord_15 : decode cX6_takeWord 15 = .ok (.invokevirtual 25, 3) := by decide +kernel
theorem dX6_takeWord_18 : decode cX6_takeWord 18 = .ok (.iconst 1, 1) := by decide +kernel
theorem dX6_takeWord_19 : decode cX6_takeWord 19 = .ok (.ireturn, 1) := by decide +kernel
theorem dX6_takeMark_0 : decode cX6_takeMark 0 = .ok (.aload_n 0, 1) := by decide +kernel
theorem dX6_takeMark_1 : decode cX6_takeMark 1 = .ok (.getfield 48, 3) := by decide +kernel
theorem dX6_takeMark_4 : decode cX6_takeMark 4 = .ok (.iload_n 1, 1) := by decide +kernel
theorem dX6_takeMark_5 : decode cX6_takeMark 5 = .ok (.if_icmp .eq 9, 3) := by decide +kernel
theorem dX6_takeMark_8 : decode cX6_takeMark 8 = .ok (.aload_n 0, 1) := by decide +kernel
theorem dX6_takeMark_9 : decode cX6_takeMark 9 = .ok (.iconst 1, 1) := by decide +kernel
theorem dX6_takeMark_10 : decode cX6_takeMark 10 = .ok (.invokevirtual 77, 3) := by decide +kernel
theorem dX6_takeMark_13 : decode cX6_takeMark 13 = .ok (.ireturn, 1) := by decide +kernel
theorem dX6_takeMark_14 : decode cX6_takeMark 14 = .ok (.aload_n 0, 1) := by decide +kernel
theorem dX6_takeMark_15 : decode cX6_takeMark 15 = .ok (.invokevirtual 25, 3) := by decide +kernel
theorem dX6_takeMark_18 : decode cX6_takeMark 18 = .ok (.iconst 1, 1) := by decide +kernel
theorem dX6_takeMark_19 : decode cX6_takeMark 19 = .ok (.ireturn, 1) := by decide +kernel
theorem dX6_seesNumber_0 : decode cX6_seesNumber 0 = .ok (.aload_n 0, 1) := by decide +kernel
theorem dX6_seesNumber_1 : decode cX6_seesNumber 1 = .ok (.getfield 48, 3) := by decide +kernel
theorem dX6_seesNumber_4 : decode cX6_seesNumber 4 = .ok (.iconst 2, 1) := by decide +kernel
theorem dX6_seesNumber_5 : decode cX6_seesNumber 5 = .ok (.if_icmp .eq 9, 3) := by decide +kernel
theorem dX6_seesNumber_8 : decode cX6_seesNumber 8 = .ok (.aload_n 0, 1) := by decide +kernel
theorem dX6_seesNumber_9 : decode cX6_seesNumber 9 = .ok (.iconst 1, 1) := by decide +kernel
theorem dX6_seesNumber_10 : decode cX6_seesNumber 10 = .ok (.invokevirtual 77, 3) := by decide +kernel
theorem dX6_seesNumber_13 : decode cX6_seesNumber 13 = .ok (.ireturn, 1) := by decide +kernel
theorem dX6_seesNumber_14 : decode cX6_seesNumber 14 = .ok (.aload_n 0, 1) := by decide +kernel
theorem dX6_seesNumber_15 : decode cX6_seesNumber 15 = .ok (.getfield 45, 3) := by decide +kernel
theorem dX6_seesNumber_18 : decode cX6_seesNumber 18 = .ok (.iload_n 1, 1) := by decide +kernel
theorem dX6_seesNumber_19 : decode cX6_seesNumber 19 = .ok (.if_icmp .lt 11, 3) := by decide +kernel
theorem dX6_seesNumber_22 : decode cX6_seesNumber 22 = .ok (.aload_n 0, 1) := by decide +kernel
theorem dX6_seesNumber_23 : decode cX6_seesNumber 23 = .ok (.getfield 45, 3) := by decide +kernel
theorem dX6_seesNumber_26 : decode cX6_seesNumber 26 = .ok (.iload_n 2, 1) := by decide +kernel
theorem dX6_seesNumber_27 : decode cX6_seesNumber 27 = .ok (.if_icmp .le 9, 3) := by decide +kernel
theorem dX6_seesNumber_30 : decode cX6_seesNumber 30 = .ok (.aload_n 0, 1) := by decide +kernel
theorem dX6_seesNumber_31 : decode cX6_seesNumber 31 = .ok (.iconst 2, 1) := by decide +kernel
theorem dX6_seesNumber_32 : decode cX6_seesNumber 32 = .ok (.invokevirtual 77, 3) := by decide +kernel
theorem dX6_seesNumber_35 : decode cX6_seesNumber 35 = .ok (.ireturn, 1) := by decide +kernel
theorem dX6_seesNumber_36 : decode cX6_seesNumber 36 = .ok (.aload_n 0, 1) := by decide +kernel
theorem dX6_seesNumber_37 : decode cX6_seesNumber 37 = .ok (.aload_n 0, 1) := by decide +kernel
theorem dX6_seesNumber_38 : decode cX6_seesNumber 38 = .ok (.getfield 45, 3) := by decide +kernel
theorem dX6_seesNumber_41 : decode cX6_seesNumber 41 = .ok (.putfield 80, 3) := by decide +kernel
theorem dX6_seesNumber_44 : decode cX6_seesNumber 44 = .ok (.iconst 1, 1) := by decide +kernel
theorem dX6_seesNumber_45 : decode cX6_seesNumber 45 = .ok (.ireturn, 1) := by decide +kernel
theorem dX6_takeNumber_0 : decode cX6_takeNumber 0 = .ok (.aload_n 0, 1) := by decide +kernel
theorem dX6_takeNumber_1 : decode cX6_takeNumber 1 = .ok (.iload_n 1, 1) := by decide +kernel
theorem dX6_takeNumber_2 : decode cX6_takeNumber 2 = .ok (.iload_n 2, 1) := by decide +kernel
theorem dX6_takeNumber_3 : decode cX6_takeNumber 3 = .ok (.invokevirtual 83, 3) := by decide +kernel
theorem dX6_takeNumber_6 : decode cX6_takeNumber 6 = .ok (.ifCond .ne 5, 3) := by decide +kernel
theorem dX6_takeNumber_9 : decode cX6_takeNumber 9 = .ok (.iconst 0, 1) := by decide +kernel
theorem dX6_takeNumber_10 : decode cX6_takeNumber 10 = .ok (.ireturn, 1) := by decide +kernel
theorem dX6_takeNumber_11 : decode cX6_takeNumber 11 = .ok (.aload_n 0, 1) := by decide +kernel
theorem dX6_takeNumber_12 : decode cX6_takeNumber 12 = .ok (.invokevirtual 25, 3) := by decide +kernel
theorem dX6_takeNumber_15 : decode cX6_takeNumber 15 = .ok (.iconst 1, 1) := by decide +kernel
theorem dX6_takeNumber_16 : decode cX6_takeNumber 16 = .ok (.ireturn, 1) := by decide +kernel
theorem dX7_init_0 : decode cX7_init 0 = .ok (.aload_n 0, 1) := by decide +kernel
theorem dX7_init_1 : decode cX7_init 1 = .ok (.invokespecial 3, 3) := by decide +kernel
theorem dX7_init_4 : decode cX7_init 4 = .ok (.aload_n 0, 1) := by decide +kernel
theorem dX7_init_5 : decode cX7_init 5 = .ok (.bipush 60, 2) := by decide +kernel
theorem dX7_init_7 : decode cX7_init 7 = .ok (.newarray .int, 2) := by decide +kernel
theorem dX7_init_9 : decode cX7_init 9 = .ok (.putfield 11, 3) := by decide +kernel
theorem dX7_init_12 : decode cX7_init 12 = .ok (.aload_n 0, 1) := by decide +kernel
theorem dX7_init_13 : decode cX7_init 13 = .ok (.sipush 180, 3) := by decide +kernel
theorem dX7_init_16 : decode cX7_init 16 = .ok (.newarray .int, 2) := by decide +kernel
theorem dX7_init_18 : decode cX7_init 18 = .ok (.putfield 15, 3) := by decide +kernel
theorem dX7_init_21 : decode cX7_init 21 = .ok (.aload_n 0, 1) := by decide +kernel
theorem dX7_init_22 : decode cX7_init 22 = .ok (.bipush 60, 2) := by decide +kernel
theorem dX7_init_24 : decode cX7_init 24 = .ok (.newarray .int, 2) := by decide +kernel
theorem dX7_init_26 : decode cX7_init 26 = .ok (.putfield 18, 3) := by decide +kernel
theorem dX7_init_29 : decode cX7_init 29 = .ok (.aload_n 0, 1) := by decide +kernel
theorem dX7_init_30 : decode cX7_init 30 = .ok (.iconst 3, 1) := by decide +kernel
theorem dX7_init_31 : decode cX7_init 31 = .ok (.newarray .int, 2) := by decide +kernel
theorem dX7_init_33 : decode cX7_init 33 = .ok (.putfield 21, 3) := by decide +kernel
theorem dX7_init_36 : decode cX7_init 36 = .ok (.aload_n 0, 1) := by decide +kernel
theorem dX7_init_37 : decode cX7_init 37 = .ok (.iconst 3, 1) := by decide +kernel
theorem dX7_init_38 : decode cX7_init 38 = .ok (.newarray .int, 2) := by decide +kernel
theorem dX7_init_40 : decode cX7_init 40 = .ok (.putfield 24, 3) := by decide +kernel
theorem dX7_init_43 : decode cX7_init 43 = .ok (.aload_n 0, 1) := by decide +kernel
theorem dX7_init_44 : decode cX7_init 44 = .ok (.aload_n 1, 1) := by decide +kernel
theorem dX7_init_45 : decode cX7_init 45 = .ok (.putfield 27, 3) := by decide +kernel
theorem dX7_init_48 : decode cX7_init 48 = .ok (.return_, 1) := by decide +kernel
theorem dX7_compile_0 : decode cX7_compile 0 = .ok (.aload_n 0, 1) := by decide +kernel
theorem dX7_compile_1 : decode cX7_compile 1 = .ok (.iconst 0, 1) := by decide +kernel
theorem dX7_compile_2 : decode cX7_compile 2 = .ok (.putfield 31, 3) := by decide +kernel
theorem dX7_compile_5 : decode cX7_compile 5 = .ok (.aload_n 0, 1) := by decide +kernel
theorem dX7_compile_6 : decode cX7_compile 6 = .ok (.iconst 0, 1) := by decide +kernel
theorem dX7_compile_7 : decode cX7_compile 7 = .ok (.putfield 35, 3) := by decide +kernel
theorem dX7_compile_10 : decode cX7_compile 10 = .ok (.aload_n 0, 1) := by decide +kernel
theorem dX7_compile_11 : decode cX7_compile 11 = .ok (.iconst 0, 1) := by decide +kernel
theorem dX7_compile_12 : decode cX7_compile 12 = .ok (.putfield 38, 3) := by decide +kernel
theorem dX7_compile_15 : decode cX7_compile 15 = .ok (.aload_n 0, 1) := by decide +kernel
theorem dX7_compile_16 : decode cX7_compile 16 = .ok (.iconst 0, 1) := by decide +kernel
theorem dX7_compile_17 : decode cX7_compile 17 = .ok (.putfield 41, 3) := by decide +kernel
theorem dX7_compile_20 : decode cX7_compile 20 = .ok (.aload_n 0, 1) := by decide +kernel
theorem dX7_compile_21 : decode cX7_compile 21 = .ok (.getfield 27, 3) := by decide +kernel
theorem dX7_compile_24 : decode cX7_compile 24 = .ok (.invokevirtual 44, 3) := by decide +kernel
theorem dX7_compile_27 : decode cX7_compile 27 = .ok (.iconst 0, 1) := by decide +kernel
theorem dX7_compile_28 : decode cX7_compile 28 = .ok (.istore_n 2, 1) := by decide +kernel
theorem dX7_compile_29 : decode cX7_compile 29 = .ok (.iload_n 2, 1) := by decide +kernel
theorem dX7_compile_30 : decode cX7_compile 30 = .ok (.sipush 400, 3) := by decide +kernel
theorem dX7_compile_33 : decode cX7_compile 33 = .ok (.if_icmp .gt 66, 3) := by decide +kernel
theorem dX7_compile_36 : decode cX7_compile 36 = .ok (.aload_n 0, 1) := by decide +kernel
theorem dX7_compile_37 : decode cX7_compile 37 = .ok (.getfield 41, 3) := by decide +kernel
theorem dX7_compile_40 : decode cX7_compile 40 = .ok (.ifCond .ne 15, 3) := by decide +kernel
theorem dX7_compile_43 : decode cX7_compile 43 = .ok (.aload_n 0, 1) := by decide +kernel
theorem dX7_compile_44 : decode cX7_compile 44 = .ok (.getfield 27, 3) := by decide +kernel
theorem dX7_compile_47 : decode cX7_compile 47 = .ok (.getfield 49, 3) := by decide +kernel
theorem dX7_compile_50 : decode cX7_compile 50 = .ok (.ifCond .ne 5, 3) := by decide +kernel
theorem dX7_compile_53 : decode cX7_compile 53 = .ok (.iconst 1, 1) := by decide +kernel
theorem dX7_compile_54 : decode cX7_compile 54 = .ok (.ireturn, 1) := by decide +kernel
theorem dX7_compile_55 : decode cX7_compile 55 = .ok (.aload_n 0, 1) := by decide +kernel
theorem dX7_compile_56 : decode cX7_compile 56 = .ok (.getfield 41, 3) := by decide +kernel
theorem dX7_compile_59 : decode cX7_compile 59 = .ok (.ifCond .le 22, 3) := by decide +kernel
theorem dX7_compile_62 : decode cX7_compile 62 = .ok (.aload_n 0, 1) := by decide +kernel
theorem dX7_compile_63 : decode cX7_compile 63 = .ok (.getfield 27, 3) := by decide +kernel
theorem dX7_compile_66 : decode cX7_compile 66 = .ok (.getfield 49, 3) := by decide +kernel
theorem dX7_compile_69 : decode cX7_compile 69 = .ok (.bipush 125, 2) := by decide +kernel
theorem dX7_compile_71 : decode cX7_compile 71 = .ok (.if_icmp .ne 10, 3) := by decide +kernel
theorem dX7_compile_74 : decode cX7_compile 74 = .ok (.aload_n 0, 1) := by decide +kernel
theorem dX7_compile_75 : decode cX7_compile 75 = .ok (.invokevirtual 52, 3) := by decide +kernel
theorem dX7_compile_78 : decode cX7_compile 78 = .ok (.goto 8, 3) := by decide +kernel
theorem dX7_compile_81 : decode cX7_compile 81 = .ok (.aload_n 0, 1) := by decide +kernel
theorem dX7_compile_82 : decode cX7_compile 82 = .ok (.iload_n 1, 1) := by decide +kernel
theorem dX7_compile_83 : decode cX7_compile 83 = .ok (.invokevirtual 56, 3) := by decide +kernel
theorem dX7_compile_86 : decode cX7_compile 86 = .ok (.istore_n 3, 1) := by decide +kernel
theorem dX7_compile_87 : decode cX7_compile 87 = .ok (.iload_n 3, 1) := by decide +kernel
theorem dX7_compile_88 : decode cX7_compile 88 = .ok (.ifCond .ne 5, 3) := by decide +kernel
theorem dX7_compile_91 : decode cX7_compile 91 = .ok (.iconst 0, 1) := by decide +kernel
theorem dX7_compile_92 : decode cX7_compile 92 = .ok (.ireturn, 1) := by decide +kernel
theorem dX7_compile_93 : decode cX7_compile 93 = .ok (.iinc 2 1, 3) := by decide +kernel
theorem dX7_compile_96 : decode cX7_compile 96 = .ok (.goto (-67), 3) := by decide +kernel
theorem dX7_compile_99 : decode cX7_compile 99 = .ok (.aload_n 0, 1) := by decide +kernel
theorem dX7_compile_100 : decode cX7_compile 100 = .ok (.getfield 27, 3) := by decide +kernel
theorem dX7_compile_103 : decode cX7_compile 103 = .ok (.iconst 1, 1) := by decide +kernel
theorem dX7_compile_104 : decode cX7_compile 104 = .ok (.invokevirtual 60, 3) := by decide +kernel
theorem dX7_compile_107 : decode cX7_compile 107 = .ok (.ireturn, 1) := by decide +kernel
theorem dX7_commandKind_0 : decode cX7_commandKind 0 = .ok (.aload_n 0, 1) := by decide +kernel
theorem dX7_commandKind_1 : decode cX7_commandKind 1 = .ok (.getfield 27, 3) := by decide +kernel
theorem dX7_commandKind_4 : decode cX7_commandKind 4 = .ok (.ldc 63, 2) := by decide +kernel
theorem dX7_commandKind_6 : decode cX7_commandKind 6 = .ok (.invokevirtual 65, 3) := by decide +kernel
theorem dX7_commandKind_9 : decode cX7_commandKind 9 = .ok (.ifCond .eq 5, 3) := by decide +kernel
theorem dX7_commandKind_12 : decode cX7_commandKind 12 = .ok (.iconst 0, 1) := by decide +kernel
theorem dX7_commandKind_13 : decode cX7_commandKind 13 = .ok (.ireturn, 1) := by decide +kernel
theorem dX7_commandKind_14 : decode cX7_commandKind 14 = .ok (.aload_n 0, 1) := by decide +kernel
theorem dX7_commandKind_15 : decode cX7_commandKind 15 = .ok (.getfield 27, 3) := by decide +kernel
theorem dX7_commandKind_18 : decode cX7_commandKind 18 = .ok (.ldc 69, 2) := by decide +kernel
theorem dX7_commandKind_20 : decode cX7_commandKind 20 = .ok (.invokevirtual 65, 3) := by decide +kernel
theorem dX7_commandKind_23 : decode cX7_commandKind 23 = .ok (.ifCond .eq 5, 3) := by decide +kernel
theorem dX7_commandKind_26 : decode cX7_commandKind 26 = .ok (.iconst 1, 1) := by decide +kernel
theorem dX7_commandKind_27 : decode cX7_commandKind 27 = .ok (.ireturn, 1) := by decide +kernel
theorem dX7_commandKind_28 : decode cX7_commandKind 28 = .ok (.aload_n 0, 1) := by decide +kernel
theorem dX7_commandKind_29 : decode cX7_commandKind 29 = .ok (.getfield 27, 3) := by decide +kernel
theorem dX7_commandKind_32 : decode cX7_commandKind 32 = .ok (.ldc 71, 2) := by decide +kernel
theorem dX7_commandKind_34 : decode cX7_commandKind 34 = .ok (.invokevirtual 65, 3) := by decide +kernel
theorem dX7_commandKind_37 : decode cX7_commandKind 37 = .ok (.ifCond .eq 5, 3) := by decide +kernel
theorem dX7_commandKind_40 : decode cX7_commandKind 40 = .ok (.iconst 2, 1) := by decide +kernel
theorem dX7_commandKind_41 : decode cX7_commandKind 41 = .ok (.ireturn, 1) := by decide +kernel
theorem dX7_commandKind_42 : decode cX7_commandKind 42 = .ok (.aload_n 0, 1) := by decide +kernel
theorem dX7_commandKind_43 : decode cX7_commandKind 43 = .ok (.getfield 27, 3) := by decide +kernel
theorem dX7_commandKind_46 : decode cX7_commandKind 46 = .ok (.ldc 73, 2) := by decide +kernel
theorem dX7_commandKind_48 : decode cX7_commandKind 48 = .ok (.invokevirtual 65, 3) := by decide +kernel
theorem dX7_commandKind_51 : decode cX7_commandKind 51 = .ok (.ifCond .eq 5, 3) := by decide +kernel
theorem dX7_commandKind_54 : decode cX7_commandKind 54 = .ok (.iconst 3, 1) := by decide +kernel
theorem dX7_commandKind_55 : decode cX7_commandKind 55 = .ok (.ireturn, 1) := by decide +kernel
theorem dX7_commandKind_56 : decode cX7_commandKind 56 = .ok (.aload_n 0, 1) := by decide +kernel
theorem dX7_commandKind_57 : decode cX7_commandKind 57 = .ok (.getfield 27, 3) := by decide +kernel
theorem dX7_commandKind_60 : decode cX7_commandKind 60 = .ok (.ldc 75, 2) := by decide +kernel
theorem dX7_commandKind_62 : decode cX7_commandKind 62 = .ok (.invokevirtual 65, 3) := by decide +kernel
theorem dX7_commandKind_65 : decode cX7_commandKind 65 = .ok (.ifCond .eq 5, 3) := by decide +kernel
theorem dX7_commandKind_68 : decode cX7_commandKind 68 = .ok (.iconst 4, 1) := by decide +kernel
theorem dX7_commandKind_69 : decode cX7_commandKind 69 = .ok (.ireturn, 1) := by decide +kernel
theorem dX7_commandKind_70 : decode cX7_commandKind 70 = .ok (.aload_n 0, 1) := by decide +kernel
theorem dX7_commandKind_71 : decode cX7_commandKind 71 = .ok (.getfield 27, 3) := by decide +kernel
theorem dX7_commandKind_74 : decode cX7_commandKind 74 = .ok (.ldc 77, 2) := by decide +kernel
theorem dX7_commandKind_76 : decode cX7_commandKind 76 = .ok (.invokevirtual 65, 3) := by decide +kernel
theorem dX7_commandKind_79 : decode cX7_commandKind 79 = .ok (.ifCond .eq 7, 3) := by decide +kernel
theorem dX7_commandKind_82 : decode cX7_commandKind 82 = .ok (.iconst 5, 1) := by decide +kernel
theorem dX7_commandKind_83 : decode cX7_commandKind 83 = .ok (.goto 4, 3) := by decide +kernel
theorem dX7_commandKind_86 : decode cX7_commandKind 86 = .ok (.iconst (-1), 1) := by decide +kernel
theorem dX7_commandKind_87 : decode cX7_commandKind 87 = .ok (.ireturn, 1) := by decide +kernel
theorem dX7_readCommand_0 : decode cX7_readCommand 0 = .ok (.aload_n 0, 1) := by decide +kernel
theorem dX7_readCommand_1 : decode cX7_readCommand 1 = .ok (.invokevirtual 79, 3) := by decide +kernel
theorem dX7_readCommand_4 : decode cX7_readCommand 4 = .ok (.istore_n 2, 1) := by decide +kernel
theorem dX7_readCommand_5 : decode cX7_readCommand 5 = .ok (.iload_n 2, 1) := by decide +kernel
theorem dX7_readCommand_6 : decode cX7_readCommand 6 = .ok (.iconst (-1), 1) := by decide +kernel
theorem dX7_readCommand_7 : decode cX7_readCommand 7 = .ok (.if_icmp .ne 12, 3) := by decide +kernel
theorem dX7_readCommand_10 : decode cX7_readCommand 10 = .ok (.aload_n 0, 1) := by decide +kernel
theorem dX7_readCommand_11 : decode cX7_readCommand 11 = .ok (.getfield 27, 3) := by decide +kernel
theorem dX7_readCommand_14 : decode cX7_readCommand 14 = .ok (.iconst 1, 1) := by decide +kernel
theorem dX7_readCommand_15 : decode cX7_readCommand 15 = .ok (.invokevirtual 60, 3) := by decide +kernel
theorem dX7_readCommand_18 : decode cX7_readCommand 18 = .ok (.ireturn, 1) := by decide +kernel
theorem dX7_readCommand_19 : decode cX7_readCommand 19 = .ok (.aload_n 0, 1) := by decide +kernel
theorem dX7_readCommand_20 : decode cX7_readCommand 20 = .ok (.getfield 35, 3) := by decide +kernel
theorem dX7_readCommand_23 : decode cX7_readCommand 23 = .ok (.bipush 30, 2) := by decide +kernel
theorem dX7_readCommand_25 : decode cX7_readCommand 25 = .ok (.if_icmp .ge 16, 3) := by decide +kernel
theorem dX7_readCommand_28 : decode cX7_readCommand 28 = .ok (.iload_n 2, 1) := by decide +kernel
theorem dX7_readCommand_29 : decode cX7_readCommand 29 = .ok (.iconst 5, 1) := by decide +kernel
theorem dX7_readCommand_30 : decode cX7_readCommand 30 = .ok (.if_icmp .ne 21, 3) := by decide +kernel
theorem dX7_readCommand_33 : decode cX7_readCommand 33 = .ok (.aload_n 0, 1) := by decide +kernel
theorem dX7_readCommand_34 : decode cX7_readCommand 34 = .ok (.getfield 41, 3) := by decide +kernel
theorem dX7_readCommand_37 : decode cX7_readCommand 37 = .ok (.iconst 3, 1) := by decide +kernel
theorem dX7_readCommand_38 : decode cX7_readCommand 38 = .ok (.if_icmp .lt 13, 3) := by decide +kernel
theorem dX7_readCommand_41 : decode cX7_readCommand 41 = .ok (.aload_n 0, 1) := by decide +kernel
theorem dX7_readCommand_42 : decode cX7_readCommand 42 = .ok (.getfield 27, 3) := by decide +kernel
theorem dX7_readCommand_45 : decode cX7_readCommand 45 = .ok (.bipush 6, 2) := by decide +kernel
theorem dX7_readCommand_47 : decode cX7_readCommand 47 = .ok (.invokevirtual 60, 3) := by decide +kernel
theorem dX7_readCommand_50 : decode cX7_readCommand 50 = .ok (.ireturn, 1) := by decide +kernel
theorem dX7_readCommand_51 : decode cX7_readCommand 51 = .ok (.aload_n 0, 1) := by decide +kernel
theorem dX7_readCommand_52 : decode cX7_readCommand 52 = .ok (.dup, 1) := by decide +kernel
theorem dX7_readCommand_53 : decode cX7_readCommand 53 = .ok (.getfield 35, 3) := by decide +kernel
theorem dX7_readCommand_56 : decode cX7_readCommand 56 = .ok (.iconst 1, 1) := by decide +kernel
theorem dX7_readCommand_57 : decode cX7_readCommand 57 = .ok (.iadd, 1) := by decide +kernel
theorem dX7_readCommand_58 : decode cX7_readCommand 58 = .ok (.putfield 35, 3) := by decide +kernel
theorem dX7_readCommand_61 : decode cX7_readCommand 61 = .ok (.aload_n 0, 1) := by decide +kernel
theorem dX7_readCommand_62 : decode cX7_readCommand 62 = .ok (.getfield 27, 3) := by decide +kernel
theorem dX7_readCommand_65 : decode cX7_readCommand 65 = .ok (.invokevirtual 83, 3) := by decide +kernel
theorem dX7_readCommand_68 : decode cX7_readCommand 68 = .ok (.aload_n 0, 1) := by decide +kernel
theorem dX7_readCommand_69 : decode cX7_readCommand 69 = .ok (.iload_n 2, 1) := by decide +kernel
theorem dX7_readCommand_70 : decode cX7_readCommand 70 = .ok (.invokevirtual 86, 3) := by decide +kernel
theorem dX7_readCommand_73 : decode cX7_readCommand 73 = .ok (.iload_n 2, 1) := by decide +kernel
theorem dX7_readCommand_74 : decode cX7_readCommand 74 = .ok (.iconst 5, 1) := by decide +kernel
theorem dX7_readCommand_75 : decode cX7_readCommand 75 = .ok (.if_icmp .ne 8, 3) := by decide +kernel
theorem dX7_readCommand_78 : decode cX7_readCommand 78 = .ok (.aload_n 0, 1) := by decide +kernel
theorem dX7_readCommand_79 : decode cX7_readCommand 79 = .ok (.invokevirtual 90, 3) := by decide +kernel
theorem dX7_readCommand_82 : decode cX7_readCommand 82 = .ok (.ireturn, 1) := by decide +kernel
theorem dX7_readCommand_83 : decode cX7_readCommand 83 = .ok (.aload_n 0, 1) := by decide +kernel
theorem dX7_readCommand_84 : decode cX7_readCommand 84 = .ok (.dup, 1) := by decide +kernel
theorem dX7_readCommand_85 : decode cX7_readCommand 85 = .ok (.getfield 38, 3) := by decide +kernel
theorem dX7_readCommand_88 : decode cX7_readCommand 88 = .ok (.iconst 1, 1) := by decide +kernel
theorem dX7_readCommand_89 : decode cX7_readCommand 89 = .ok (.iadd, 1) := by decide +kernel
theorem dX7_readCommand_90 : decode cX7_readCommand 90 = .ok (.putfield 38, 3) := by decide +kernel
theorem dX7_readCommand_93 : decode cX7_readCommand 93 = .ok (.aload_n 0, 1) := by decide +kernel
theorem dX7_readCommand_94 : decode cX7_readCommand 94 = .ok (.iload_n 2, 1) := by decide +kernel
theorem dX7_readCommand_95 : decode cX7_readCommand 95 = .ok (.iload_n 1, 1) := by decide +kernel
theorem dX7_readCommand_96 : decode cX7_readCommand 96 = .ok (.invokevirtual 93, 3) := by decide +kernel
theorem dX7_readCommand_99 : decode cX7_readCommand 99 = .ok (.ifCond .eq 19, 3) := by decide +kernel
theorem dX7_readCommand_102 : decode cX7_readCommand 102 = .ok (.aload_n 0, 1) := by decide +kernel
theorem dX7_readCommand_103 : decode cX7_readCommand 103 = .ok (.getfield 27, 3) := by decide +kernel
theorem dX7_readCommand_106 : decode cX7_readCommand 106 = .ok (.bipush 59, 2) := by decide +kernel
theorem dX7_readCommand_108 : decode cX7_readCommand 108 = .ok (.invokevirtual 97, 3) := by decide +kernel
theorem dX7_readCommand_111 : decode cX7_readCommand 111 = .ok (.ifCond .eq 7, 3) := by decide +kernel
theorem dX7_readCommand_114 : decode cX7_readCommand 114 = .ok (.iconst 1, 1) := by decide +kernel
theorem dX7_readCommand_115 : decode cX7_readCommand 115 = .ok (.goto 4, 3) := by decide +kernel
theorem dX7_readCommand_118 : decode cX7_readCommand 118 = .ok (.iconst 0, 1) := by decide +kernel
theorem dX7_readCommand_119 : decode cX7_readCommand 119 = .ok (.ireturn, 1) := by decide +kernel
theorem dX7_addStep_0 : decode cX7_addStep 0 = .ok (.aload_n 0, 1) := by decide +kernel
theorem dX7_addStep_1 : decode cX7_addStep 1 = .ok (.getfield 11, 3) := by decide +kernel
theorem dX7_addStep_4 : decode cX7_addStep 4 = .ok (.aload_n 0, 1) := by decide +kernel
theorem dX7_addStep_5 : decode cX7_addStep 5 = .ok (.getfield 31, 3) := by decide +kernel
theorem dX7_addStep_8 : decode cX7_addStep 8 = .ok (.iload_n 1, 1) := by decide +kernel
theorem dX7_addStep_9 : decode cX7_addStep 9 = .ok (.invokestatic 100, 3) := by decide +kernel
theorem dX7_addStep_12 : decode cX7_addStep 12 = .ok (.aload_n 0, 1) := by decide +kernel
theorem dX7_addStep_13 : decode cX7_addStep 13 = .ok (.dup, 1) := by decide +kernel
theorem dX7_addStep_14 : decode cX7_addStep 14 = .ok (.getfield 31, 3) := by decide +kernel
theorem dX7_addStep_17 : decode cX7_addStep 17 = .ok (.iconst 1, 1) := by decide +kernel
theorem dX7_addStep_18 : decode cX7_addStep 18 = .ok (.iadd, 1) := by decide +kernel
theorem dX7_addStep_19 : decode cX7_addStep 19 = .ok (.putfield 31, 3) := by decide +kernel
theorem dX7_addStep_22 : decode cX7_addStep 22 = .ok (.return_, 1) := by decide +kernel
theorem dX7_readArguments_0 : decode cX7_readArguments 0 = .ok (.iload_n 1, 1) := by decide +kernel
theorem dX7_readArguments_1 : decode cX7_readArguments 1 = .ok (.tableswitch 111 0 3 #[31, 111, 78, 102], 31) := by decide +kernel
theorem dX7_readArguments_32 : decode cX7_readArguments 32 = .ok (.aload_n 0, 1) := by decide +kernel
theorem dX7_readArguments_33 : decode cX7_readArguments 33 = .ok (.iconst 0, 1) := by decide +kernel
theorem dX7_readArguments_34 : decode cX7_readArguments 34 = .ok (.iconst 0, 1) := by decide +kernel
theorem dX7_readArguments_35 : decode cX7_readArguments 35 = .ok (.bipush 6, 2) := by decide +kernel
theorem dX7_readArguments_37 : decode cX7_readArguments 37 = .ok (.invokevirtual 104, 3) := by decide +kernel
theorem dX7_readArguments_40 : decode cX7_readArguments 40 = .ok (.ifCond .eq 37, 3) := by decide +kernel
theorem dX7_readArguments_43 : decode cX7_readArguments 43 = .ok (.aload_n 0, 1) := by decide +kernel
theorem dX7_readArguments_44 : decode cX7_readArguments 44 = .ok (.iconst 1, 1) := by decide +kernel
theorem dX7_readArguments_45 : decode cX7_readArguments 45 = .ok (.iconst 0, 1) := by decide +kernel
theorem dX7_readArguments_46 : decode cX7_readArguments 46 = .ok (.iload_n 2, 1) := by decide +kernel
theorem dX7_readArguments_47 : decode cX7_readArguments 47 = .ok (.iconst 1, 1) := by decide +kernel
theorem dX7_readArguments_48 : decode cX7_readArguments 48 = .ok (.isub, 1) := by decide +kernel
theorem dX7_readArguments_49 : decode cX7_readArguments 49 = .ok (.invokevirtual 104, 3) := by decide +kernel
theorem dX7_readArguments_52 : decode cX7_readArguments 52 = .ok (.ifCond .eq 25, 3) := by decide +kernel
theorem dX7_readArguments_55 : decode cX7_readArguments 55 = .ok (.aload_n 0, 1) := by decide +kernel
theorem dX7_readArguments_56 : decode cX7_readArguments 56 = .ok (.iconst 2, 1) := by decide +kernel
theorem dX7_readArguments_57 : decode cX7_readArguments 57 = .ok (.aload_n 0, 1) := by decide +kernel
theorem dX7_readArguments_58 : decode cX7_readArguments 58 = .ok (.getfield 27, 3) := by decide +kernel
theorem dX7_readArguments_61 : decode cX7_readArguments 61 = .ok (.getfield 108, 3) := by decide +kernel
theorem dX7_readArguments_64 : decode cX7_readArguments 64 = .ok (.iload_n 2, 1) := by decide +kernel
theorem dX7_readArguments_65 : decode cX7_readArguments 65 = .ok (.iconst 1, 1) := by decide +kernel
theorem dX7_readArguments_66 : decode cX7_readArguments 66 = .ok (.isub, 1) := by decide +kernel
theorem dX7_readArguments_67 : decode cX7_readArguments 67 = .ok (.invokevirtual 104, 3) := by decide +kernel
theorem dX7_readArguments_70 : decode cX7_readArguments 70 = .ok (.ifCond .eq 7, 3) := by decide +kernel
theorem dX7_readArguments_73 : decode cX7_readArguments 73 = .ok (.iconst 1, 1) := by decide +kernel
theorem dX7_readArguments_74 : decode cX7_readArguments 74 = .ok (.goto 4, 3) := by decide +kernel
theorem dX7_readArguments_77 : decode cX7_readArguments 77 = .ok (.iconst 0, 1) := by decide +kernel
theorem dX7_readArguments_78 : decode cX7_readArguments 78 = .ok (.ireturn, 1) := by decide +kernel
theorem dX7_readArguments_79 : decode cX7_readArguments 79 = .ok (.aload_n 0, 1) := by decide +kernel
theorem dX7_readArguments_80 : decode cX7_readArguments 80 = .ok (.iconst 0, 1) := by decide +kernel
theorem dX7_readArguments_81 : decode cX7_readArguments 81 = .ok (.iconst 1, 1) := by decide +kernel
theorem dX7_readArguments_82 : decode cX7_readArguments 82 = .ok (.bipush 30, 2) := by decide +kernel
theorem dX7_readArguments_84 : decode cX7_readArguments 84 = .ok (.invokevirtual 104, 3) := by decide +kernel
theorem dX7_readArguments_87 : decode cX7_readArguments 87 = .ok (.ifCond .eq 14, 3) := by decide +kernel
theorem dX7_readArguments_90 : decode cX7_readArguments 90 = .ok (.aload_n 0, 1) := by decide +kernel
theorem dX7_readArguments_91 : decode cX7_readArguments 91 = .ok (.invokevirtual 111, 3) := by decide +kernel
theorem dX7_readArguments_94 : decode cX7_readArguments 94 = .ok (.ifCond .eq 7, 3) := by decide +kernel
theorem dX7_readArguments_97 : decode cX7_readArguments 97 = .ok (.iconst 1, 1) := by decide +kernel
theorem dX7_readArguments_98 : decode cX7_readArguments 98 = .ok (.goto 4, 3) := by decide +kernel
theorem dX7_readArguments_101 : decode cX7_readArguments 101 = .ok (.iconst 0, 1) := by decide +kernel
theorem dX7_readArguments_102 : decode cX7_readArguments 102 = .ok (.ireturn, 1) := by decide +kernel
theorem dX7_readArguments_103 : decode cX7_readArguments 103 = .ok (.aload_n 0, 1) := by decide +kernel
theorem dX7_readArguments_104 : decode cX7_readArguments 104 = .ok (.iconst 0, 1) := by decide +kernel
theorem dX7_readArguments_105 : decode cX7_readArguments 105 = .ok (.iconst 0, 1) := by decide +kernel
theorem dX7_readArguments_106 : decode cX7_readArguments 106 = .ok (.bipush 30, 2) := by decide +kernel
theorem dX7_readArguments_108 : decode cX7_readArguments 108 = .ok (.invokevirtual 104, 3) := by decide +kernel
theorem dX7_readArguments_111 : decode cX7_readArguments 111 = .ok (.ireturn, 1) := by decide +kernel
theorem dX7_readArguments_112 : decode cX7_readArguments 112 = .ok (.iconst 1, 1) := by decide +kernel
theorem dX7_readArguments_113 : decode cX7_readArguments 113 = .ok (.ireturn, 1) := by decide +kernel
theorem dX7_readArgument_0 : decode cX7_readArgument 0 = .ok (.aload_n 0, 1) := by decide +kernel
theorem dX7_readArgument_1 : decode cX7_readArgument 1 = .ok (.getfield 27, 3) := by decide +kernel
theorem dX7_readArgument_4 : decode cX7_readArgument 4 = .ok (.iload_n 2, 1) := by decide +kernel
theorem dX7_readArgument_5 : decode cX7_readArgument 5 = .ok (.iload_n 3, 1) := by decide +kernel
theorem dX7_readArgument_6 : decode cX7_readArgument 6 = .ok (.invokevirtual 114, 3) := by decide +kernel
theorem dX7_readArgument_9 : decode cX7_readArgument 9 = .ok (.ifCond .ne 5, 3) := by decide +kernel
theorem dX7_readArgument_12 : decode cX7_readArgument 12 = .ok (.iconst 0, 1) := by decide +kernel
theorem dX7_readArgument_13 : decode cX7_readArgument 13 = .ok (.ireturn, 1) := by decide +kernel
theorem dX7_readArgument_14 : decode cX7_readArgument 14 = .ok (.aload_n 0, 1) := by decide +kernel
theorem dX7_readArgument_15 : decode cX7_readArgument 15 = .ok (.aload_n 0, 1) := by decide +kernel
theorem dX7_readArgument_16 : decode cX7_readArgument 16 = .ok (.getfield 31, 3) := by decide +kernel
theorem dX7_readArgument_19 : decode cX7_readArgument 19 = .ok (.iconst 1, 1) := by decide +kernel
theorem dX7_readArgument_20 : decode cX7_readArgument 20 = .ok (.isub, 1) := by decide +kernel
theorem dX7_readArgument_21 : decode cX7_readArgument 21 = .ok (.iload_n 1, 1) := by decide +kernel
theorem dX7_readArgument_22 : decode cX7_readArgument 22 = .ok (.aload_n 0, 1) := by decide +kernel
theorem dX7_readArgument_23 : decode cX7_readArgument 23 = .ok (.getfield 27, 3) := by decide +kernel
theorem dX7_readArgument_26 : decode cX7_readArgument 26 = .ok (.getfield 108, 3) := by decide +kernel
theorem dX7_readArgument_29 : decode cX7_readArgument 29 = .ok (.invokevirtual 117, 3) := by decide +kernel
theorem dX7_readArgument_32 : decode cX7_readArgument 32 = .ok (.aload_n 0, 1) := by decide +kernel
theorem dX7_readArgument_33 : decode cX7_readArgument 33 = .ok (.getfield 27, 3) := by decide +kernel
theorem dX7_readArgument_36 : decode cX7_readArgument 36 = .ok (.invokevirtual 83, 3) := by decide +kernel
theorem dX7_readArgument_39 : decode cX7_readArgument 39 = .ok (.iconst 1, 1) := by decide +kernel
theorem dX7_readArgument_40 : decode cX7_readArgument 40 = .ok (.ireturn, 1) := by decide +kernel
theorem dX7_readBlind_0 : decode cX7_readBlind 0 = .ok (.aload_n 0, 1) := by decide +kernel
theorem dX7_readBlind_1 : decode cX7_readBlind 1 = .ok (.getfield 27, 3) := by decide +kernel
theorem dX7_readBlind_4 : decode cX7_readBlind 4 = .ok (.ldc 121, 2) := by decide +kernel
theorem dX7_readBlind_6 : decode cX7_readBlind 6 = .ok (.invokevirtual 65, 3) := by decide +kernel
theorem dX7_readBlind_9 : decode cX7_readBlind 9 = .ok (.istore_n 1, 1) := by decide +kernel
theorem dX7_readBlind_10 : decode cX7_readBlind 10 = .ok (.aload_n 0, 1) := by decide +kernel
theorem dX7_readBlind_11 : decode cX7_readBlind 11 = .ok (.aload_n 0, 1) := by decide +kernel
theorem dX7_readBlind_12 : decode cX7_readBlind 12 = .ok (.getfield 31, 3) := by decide +kernel
theorem dX7_readBlind_15 : decode cX7_readBlind 15 = .ok (.iconst 1, 1) := by decide +kernel
theorem dX7_readBlind_16 : decode cX7_readBlind 16 = .ok (.isub, 1) := by decide +kernel
theorem dX7_readBlind_17 : decode cX7_readBlind 17 = .ok (.iconst 1, 1) := by decide +kernel
theorem dX7_readBlind_18 : decode cX7_readBlind 18 = .ok (.iload_n 1, 1) := by decide +kernel
theorem dX7_readBlind_19 : decode cX7_readBlind 19 = .ok (.ifCond .eq 7, 3) := by decide +kernel
theorem dX7_readBlind_22 : decode cX7_readBlind 22 = .ok (.iconst 1, 1) := by decide +kernel
theorem dX7_readBlind_23 : decode cX7_readBlind 23 = .ok (.goto 4, 3) := by decide +kernel
theorem dX7_readBlind_26 : decode cX7_readBlind 26 = .ok (.iconst 0, 1) := by decide +kernel
theorem dX7_readBlind_27 : decode cX7_readBlind 27 = .ok (.invokevirtual 117, 3) := by decide +kernel
theorem dX7_readBlind_30 : decode cX7_readBlind 30 = .ok (.iload_n 1, 1) := by decide +kernel
theorem dX7_readBlind_31 : decode cX7_readBlind 31 = .ok (.ifCond .eq 10, 3) := by decide +kernel
theorem dX7_readBlind_34 : decode cX7_readBlind 34 = .ok (.aload_n 0, 1) := by decide +kernel
theorem dX7_readBlind_35 : decode cX7_readBlind 35 = .ok (.getfield 27, 3) := by decide +kernel
theorem dX7_readBlind_38 : decode cX7_readBlind 38 = .ok (.invokevirtual 83, 3) := by decide +kernel
theorem dX7_readBlind_41 : decode cX7_readBlind 41 = .ok (.iconst 1, 1) := by decide +kernel
theorem dX7_readBlind_42 : decode cX7_readBlind 42 = .ok (.ireturn, 1) := by decide +kernel
theorem dX7_readRepeat_0 : decode cX7_readRepeat 0 = .ok (.aload_n 0, 1) := by decide +kernel
theorem dX7_readRepeat_1 : decode cX7_readRepeat 1 = .ok (.iconst 0, 1) := by decide +kernel
theorem dX7_readRepeat_2 : decode cX7_readRepeat 2 = .ok (.iconst 1, 1) := by decide +kernel
theorem dX7_readRepeat_3 : decode cX7_readRepeat 3 = .ok (.bipush 20, 2) := by decide +kernel
theorem dX7_readRepeat_5 : decode cX7_readRepeat 5 = .ok (.invokevirtual 104, 3) := by decide +kernel
theorem dX7_readRepeat_8 : decode cX7_readRepeat 8 = .ok (.ifCond .ne 5, 3) := by decide +kernel
theorem dX7_readRepeat_11 : decode cX7_readRepeat 11 = .ok (.iconst 0, 1) := by decide +kernel
theorem dX7_readRepeat_12 : decode cX7_readRepeat 12 = .ok (.ireturn, 1) := by decide +kernel
theorem dX7_readRepeat_13 : decode cX7_readRepeat 13 = .ok (.aload_n 0, 1) := by decide +kernel
theorem dX7_readRepeat_14 : decode cX7_readRepeat 14 = .ok (.getfield 21, 3) := by decide +kernel
theorem dX7_readRepeat_17 : decode cX7_readRepeat 17 = .ok (.aload_n 0, 1) := by decide +kernel
theorem dX7_readRepeat_18 : decode cX7_readRepeat 18 = .ok (.getfield 41, 3) := by decide +kernel
theorem dX7_readRepeat_21 : decode cX7_readRepeat 21 = .ok (.aload_n 0, 1) := by decide +kernel
theorem dX7_readRepeat_22 : decode cX7_readRepeat 22 = .ok (.getfield 31, 3) := by decide +kernel
theorem dX7_readRepeat_25 : decode cX7_readRepeat 25 = .ok (.iconst 1, 1) := by decide +kernel
theorem dX7_readRepeat_26 : decode cX7_readRepeat 26 = .ok (.isub, 1) := by decide +kernel
theorem dX7_readRepeat_27 : decode cX7_readRepeat 27 = .ok (.invokestatic 100, 3) := by decide +kernel
theorem dX7_readRepeat_30 : decode cX7_readRepeat 30 = .ok (.aload_n 0, 1) := by decide +kernel
theorem dX7_readRepeat_31 : decode cX7_readRepeat 31 = .ok (.getfield 24, 3) := by decide +kernel
theorem dX7_readRepeat_34 : decode cX7_readRepeat 34 = .ok (.aload_n 0, 1) := by decide +kernel
theorem dX7_readRepeat_35 : decode cX7_readRepeat 35 = .ok (.getfield 41, 3) := by decide +kernel
theorem dX7_readRepeat_38 : decode cX7_readRepeat 38 = .ok (.aload_n 0, 1) := by decide +kernel
theorem dX7_readRepeat_39 : decode cX7_readRepeat 39 = .ok (.getfield 38, 3) := by decide +kernel
theorem dX7_readRepeat_42 : decode cX7_readRepeat 42 = .ok (.invokestatic 100, 3) := by decide +kernel
theorem dX7_readRepeat_45 : decode cX7_readRepeat 45 = .ok (.aload_n 0, 1) := by decide +kernel
theorem dX7_readRepeat_46 : decode cX7_readRepeat 46 = .ok (.dup, 1) := by decide +kernel
theorem dX7_readRepeat_47 : decode cX7_readRepeat 47 = .ok (.getfield 41, 3) := by decide +kernel
theorem dX7_readRepeat_50 : decode cX7_readRepeat 50 = .ok (.iconst 1, 1) := by decide +kernel
theorem dX7_readRepeat_51 : decode cX7_readRepeat 51 = .ok (.iadd, 1) := by decide +kernel
theorem dX7_readRepeat_52 : decode cX7_readRepeat 52 = .ok (.putfield 41, 3) := by decide +kernel
theorem dX7_readRepeat_55 : decode cX7_readRepeat 55 = .ok (.aload_n 0, 1) := by decide +kernel
theorem dX7_readRepeat_56 : decode cX7_readRepeat 56 = .ok (.getfield 27, 3) := by decide +kernel
theorem dX7_readRepeat_59 : decode cX7_readRepeat 59 = .ok (.bipush 123, 2) := by decide +kernel
theorem dX7_readRepeat_61 : decode cX7_readRepeat 61 = .ok (.invokevirtual 97, 3) := by decide +kernel
theorem dX7_readRepeat_64 : decode cX7_readRepeat 64 = .ok (.ireturn, 1) := by decide +kernel
theorem dX7_readClose_0 : decode cX7_readClose 0 = .ok (.aload_n 0, 1) := by decide +kernel
theorem dX7_readClose_1 : decode cX7_readClose 1 = .ok (.dup, 1) := by decide +kernel
theorem dX7_readClose_2 : decode cX7_readClose 2 = .ok (.getfield 41, 3) := by decide +kernel
theorem dX7_readClose_5 : decode cX7_readClose 5 = .ok (.iconst 1, 1) := by decide +kernel
theorem dX7_readClose_6 : decode cX7_readClose 6 = .ok (.isub, 1) := by decide +kernel
theorem dX7_readClose_7 : decode cX7_readClose 7 = .ok (.putfield 41, 3) := by decide +kernel
theorem dX7_readClose_10 : decode cX7_readClose 10 = .ok (.aload_n 0, 1) := by decide +kernel
theorem dX7_readClose_11 : decode cX7_readClose 11 = .ok (.getfield 21, 3) := by decide +kernel
theorem dX7_readClose_14 : decode cX7_readClose 14 = .ok (.aload_n 0, 1) := by decide +kernel
theorem dX7_readClose_15 : decode cX7_readClose 15 = .ok (.getfield 41, 3) := by decide +kernel
theorem dX7_readClose_18 : decode cX7_readClose 18 = .ok (.invokestatic 123, 3) := by decide +kernel
theorem dX7_readClose_21 : decode cX7_readClose 21 = .ok (.istore_n 1, 1) := by decide +kernel
theorem dX7_readClose_22 : decode cX7_readClose 22 = .ok (.aload_n 0, 1) := by decide +kernel
theorem dX7_readClose_23 : decode cX7_readClose 23 = .ok (.iload_n 1, 1) := by decide +kernel
theorem dX7_readClose_24 : decode cX7_readClose 24 = .ok (.iconst 1, 1) := by decide +kernel
theorem dX7_readClose_25 : decode cX7_readClose 25 = .ok (.aload_n 0, 1) := by decide +kernel
theorem dX7_readClose_26 : decode cX7_readClose 26 = .ok (.getfield 31, 3) := by decide +kernel
theorem dX7_readClose_29 : decode cX7_readClose 29 = .ok (.invokevirtual 117, 3) := by decide +kernel
theorem dX7_readClose_32 : decode cX7_readClose 32 = .ok (.aload_n 0, 1) := by decide +kernel
theorem dX7_readClose_33 : decode cX7_readClose 33 = .ok (.getfield 38, 3) := by decide +kernel
theorem dX7_readClose_36 : decode cX7_readClose 36 = .ok (.aload_n 0, 1) := by decide +kernel
theorem dX7_readClose_37 : decode cX7_readClose 37 = .ok (.getfield 24, 3) := by decide +kernel
theorem dX7_readClose_40 : decode cX7_readClose 40 = .ok (.aload_n 0, 1) := by decide +kernel
theorem dX7_readClose_41 : decode cX7_readClose 41 = .ok (.getfield 41, 3) := by decide +kernel
theorem dX7_readClose_44 : decode cX7_readClose 44 = .ok (.invokestatic 123, 3) := by decide +kernel
theorem dX7_readClose_47 : decode cX7_readClose 47 = .ok (.if_icmp .ne 10, 3) := by decide +kernel
theorem dX7_readClose_50 : decode cX7_readClose 50 = .ok (.aload_n 0, 1) := by decide +kernel
theorem dX7_readClose_51 : decode cX7_readClose 51 = .ok (.iload_n 1, 1) := by decide +kernel
theorem dX7_readClose_52 : decode cX7_readClose 52 = .ok (.iconst 0, 1) := by decide +kernel
theorem dX7_readClose_53 : decode cX7_readClose 53 = .ok (.iconst 0, 1) := by decide +kernel
theorem dX7_readClose_54 : decode cX7_readClose 54 = .ok (.invokevirtual 117, 3) := by decide +kernel
theorem dX7_readClose_57 : decode cX7_readClose 57 = .ok (.aload_n 0, 1) := by decide +kernel
theorem dX7_readClose_58 : decode cX7_readClose 58 = .ok (.bipush 6, 2) := by decide +kernel
theorem dX7_readClose_60 : decode cX7_readClose 60 = .ok (.invokevirtual 86, 3) := by decide +kernel
theorem dX7_readClose_63 : decode cX7_readClose 63 = .ok (.aload_n 0, 1) := by decide +kernel
theorem dX7_readClose_64 : decode cX7_readClose 64 = .ok (.aload_n 0, 1) := by decide +kernel
theorem dX7_readClose_65 : decode cX7_readClose 65 = .ok (.getfield 31, 3) := by decide +kernel
theorem dX7_readClose_68 : decode cX7_readClose 68 = .ok (.iconst 1, 1) := by decide +kernel
theorem dX7_readClose_69 : decode cX7_readClose 69 = .ok (.isub, 1) := by decide +kernel
theorem dX7_readClose_70 : decode cX7_readClose 70 = .ok (.iconst 0, 1) := by decide +kernel
theorem dX7_readClose_71 : decode cX7_readClose 71 = .ok (.iload_n 1, 1) := by decide +kernel
theorem dX7_readClose_72 : decode cX7_readClose 72 = .ok (.invokevirtual 117, 3) := by decide +kernel
theorem dX7_readClose_75 : decode cX7_readClose 75 = .ok (.aload_n 0, 1) := by decide +kernel
theorem dX7_readClose_76 : decode cX7_readClose 76 = .ok (.getfield 27, 3) := by decide +kernel
theorem dX7_readClose_79 : decode cX7_readClose 79 = .ok (.invokevirtual 83, 3) := by decide +kernel
theorem dX7_readClose_82 : decode cX7_readClose 82 = .ok (.aload_n 0, 1) := by decide +kernel
theorem dX7_readClose_83 : decode cX7_readClose 83 = .ok (.getfield 27, 3) := by decide +kernel
theorem dX7_readClose_86 : decode cX7_readClose 86 = .ok (.bipush 59, 2) := by decide +kernel
theorem dX7_readClose_88 : decode cX7_readClose 88 = .ok (.invokevirtual 97, 3) := by decide +kernel
theorem dX7_readClose_91 : decode cX7_readClose 91 = .ok (.ireturn, 1) := by decide +kernel
theorem dX7_setArgument_0 : decode cX7_setArgument 0 = .ok (.aload_n 0, 1) := by decide +kernel
theorem dX7_setArgument_1 : decode cX7_setArgument 1 = .ok (.getfield 15, 3) := by decide +kernel
theorem dX7_setArgument_4 : decode cX7_setArgument 4 = .ok (.iconst 3, 1) := by decide +kernel
theorem dX7_setArgument_5 : decode cX7_setArgument 5 = .ok (.iload_n 1, 1) := by decide +kernel
theorem dX7_setArgument_6 : decode cX7_setArgument 6 = .ok (.imul, 1) := by decide +kernel
theorem dX7_setArgument_7 : decode cX7_setArgument 7 = .ok (.iload_n 2, 1) := by decide +kernel
theorem dX7_setArgument_8 : decode cX7_setArgument 8 = .ok (.iadd, 1) := by decide +kernel
theorem dX7_setArgument_9 : decode cX7_setArgument 9 = .ok (.iload_n 3, 1) := by decide +kernel
theorem dX7_setArgument_10 : decode cX7_setArgument 10 = .ok (.invokestatic 100, 3) := by decide +kernel
theorem dX7_setArgument_13 : decode cX7_setArgument 13 = .ok (.return_, 1) := by decide +kernel
theorem dX7_argumentOf_0 : decode cX7_argumentOf 0 = .ok (.aload_n 0, 1) := by decide +kernel
theorem dX7_argumentOf_1 : decode cX7_argumentOf 1 = .ok (.getfield 15, 3) := by decide +kernel
theorem dX7_argumentOf_4 : decode cX7_argumentOf 4 = .ok (.iconst 3, 1) := by decide +kernel
theorem dX7_argumentOf_5 : decode cX7_argumentOf 5 = .ok (.iload_n 1, 1) := by decide +kernel
theorem dX7_argumentOf_6 : decode cX7_argumentOf 6 = .ok (.imul, 1) := by decide +kernel
theorem dX7_argumentOf_7 : decode cX7_argumentOf 7 = .ok (.iload_n 2, 1) := by decide +kernel
theorem dX7_argumentOf_8 : decode cX7_argumentOf 8 = .ok (.iadd, 1) := by decide +kernel
theorem dX7_argumentOf_9 : decode cX7_argumentOf 9 = .ok (.invokestatic 123, 3) := by decide +kernel
theorem dX7_argumentOf_12 : decode cX7_argumentOf 12 = .ok (.ireturn, 1) := by decide +kernel
theorem dX7_rewind_0 : decode cX7_rewind 0 = .ok (.aload_n 0, 1) := by decide +kernel
theorem dX7_rewind_1 : decode cX7_rewind 1 = .ok (.iconst (-1), 1) := by decide +kernel
theorem dX7_rewind_2 : decode cX7_rewind 2 = .ok (.putfield 127, 3) := by decide +kernel
theorem dX7_rewind_5 : decode cX7_rewind 5 = .ok (.return_, 1) := by decide +kernel
theorem dX7_advance_0 : decode cX7_advance 0 = .ok (.iconst 0, 1) := by decide +kernel
theorem dX7_advance_1 : decode cX7_advance 1 = .ok (.istore_n 1, 1) := by decide +kernel
theorem dX7_advance_2 : decode cX7_advance 2 = .ok (.iload_n 1, 1) := by decide +kernel
theorem dX7_advance_3 : decode cX7_advance 3 = .ok (.sipush 10000, 3) := by decide +kernel
theorem dX7_advance_6 : decode cX7_advance 6 = .ok (.if_icmp .ge 65, 3) := by decide +kernel
theorem dX7_advance_9 : decode cX7_advance 9 = .ok (.aload_n 0, 1) := by decide +kernel
theorem dX7_advance_10 : decode cX7_advance 10 = .ok (.dup, 1) := by decide +kernel
theorem dX7_advance_11 : decode cX7_advance 11 = .ok (.getfield 127, 3) := by decide +kernel
theorem dX7_advance_14 : decode cX7_advance 14 = .ok (.iconst 1, 1) := by decide +kernel
theorem dX7_advance_15 : decode cX7_advance 15 = .ok (.iadd, 1) := by decide +kernel
theorem dX7_advance_16 : decode cX7_advance 16 = .ok (.putfield 127, 3) := by decide +kernel
theorem dX7_advance_19 : decode cX7_advance 19 = .ok (.aload_n 0, 1) := by decide +kernel
theorem dX7_advance_20 : decode cX7_advance 20 = .ok (.getfield 127, 3) := by decide +kernel
theorem dX7_advance_23 : decode cX7_advance 23 = .ok (.aload_n 0, 1) := by decide +kernel
theorem dX7_advance_24 : decode cX7_advance 24 = .ok (.getfield 31, 3) := by decide +kernel
theorem dX7_advance_27 : decode cX7_advance 27 = .ok (.if_icmp .lt 5, 3) := by decide +kernel
theorem dX7_advance_30 : decode cX7_advance 30 = .ok (.iconst 0, 1) := by decide +kernel
theorem dX7_advance_31 : decode cX7_advance 31 = .ok (.ireturn, 1) := by decide +kernel
theorem dX7_advance_32 : decode cX7_advance 32 = .ok (.aload_n 0, 1) := by decide +kernel
theorem dX7_advance_33 : decode cX7_advance 33 = .ok (.invokevirtual 130, 3) := by decide +kernel
theorem dX7_advance_36 : decode cX7_advance 36 = .ok (.iconst 5, 1) := by decide +kernel
theorem dX7_advance_37 : decode cX7_advance 37 = .ok (.if_icmp .ne 10, 3) := by decide +kernel
theorem dX7_advance_40 : decode cX7_advance 40 = .ok (.aload_n 0, 1) := by decide +kernel
theorem dX7_advance_41 : decode cX7_advance 41 = .ok (.invokevirtual 132, 3) := by decide +kernel
theorem dX7_advance_44 : decode cX7_advance 44 = .ok (.goto 21, 3) := by decide +kernel
theorem dX7_advance_47 : decode cX7_advance 47 = .ok (.aload_n 0, 1) := by decide +kernel
theorem dX7_advance_48 : decode cX7_advance 48 = .ok (.invokevirtual 130, 3) := by decide +kernel
theorem dX7_advance_51 : decode cX7_advance 51 = .ok (.bipush 6, 2) := by decide +kernel
theorem dX7_advance_53 : decode cX7_advance 53 = .ok (.if_icmp .ne 10, 3) := by decide +kernel
theorem dX7_advance_56 : decode cX7_advance 56 = .ok (.aload_n 0, 1) := by decide +kernel
theorem dX7_advance_57 : decode cX7_advance 57 = .ok (.invokevirtual 135, 3) := by decide +kernel
theorem dX7_advance_60 : decode cX7_advance 60 = .ok (.goto 5, 3) := by decide +kernel
theorem dX7_advance_63 : decode cX7_advance 63 = .ok (.iconst 1, 1) := by decide +kernel
theorem dX7_advance_64 : decode cX7_advance 64 = .ok (.ireturn, 1) := by decide +kernel
theorem dX7_advance_65 : decode cX7_advance 65 = .ok (.iinc 1 1, 3) := by decide +kernel
theorem dX7_advance_68 : decode cX7_advance 68 = .ok (.goto (-66), 3) := by decide +kernel
theorem dX7_advance_71 : decode cX7_advance 71 = .ok (.iconst 0, 1) := by decide +kernel
theorem dX7_advance_72 : decode cX7_advance 72 = .ok (.ireturn, 1) := by decide +kernel
theorem dX7_enterRepeat_0 : decode cX7_enterRepeat 0 = .ok (.aload_n 0, 1) := by decide +kernel
theorem dX7_enterRepeat_1 : decode cX7_enterRepeat 1 = .ok (.iconst 0, 1) := by decide +kernel
theorem dX7_enterRepeat_2 : decode cX7_enterRepeat 2 = .ok (.invokevirtual 138, 3) := by decide +kernel
theorem dX7_enterRepeat_5 : decode cX7_enterRepeat 5 = .ok (.istore_n 1, 1) := by decide +kernel
theorem dX7_enterRepeat_6 : decode cX7_enterRepeat 6 = .ok (.aload_n 0, 1) := by decide +kernel
theorem dX7_enterRepeat_7 : decode cX7_enterRepeat 7 = .ok (.getfield 18, 3) := by decide +kernel
theorem dX7_enterRepeat_10 : decode cX7_enterRepeat 10 = .ok (.aload_n 0, 1) := by decide +kernel
theorem dX7_enterRepeat_11 : decode cX7_enterRepeat 11 = .ok (.getfield 127, 3) := by decide +kernel
theorem dX7_enterRepeat_14 : decode cX7_enterRepeat 14 = .ok (.iload_n 1, 1) := by decide +kernel
theorem dX7_enterRepeat_15 : decode cX7_enterRepeat 15 = .ok (.invokestatic 100, 3) := by decide +kernel
theorem dX7_enterRepeat_18 : decode cX7_enterRepeat 18 = .ok (.iload_n 1, 1) := by decide +kernel
theorem dX7_enterRepeat_19 : decode cX7_enterRepeat 19 = .ok (.ifCond .ne 12, 3) := by decide +kernel
theorem dX7_enterRepeat_22 : decode cX7_enterRepeat 22 = .ok (.aload_n 0, 1) := by decide +kernel
theorem dX7_enterRepeat_23 : decode cX7_enterRepeat 23 = .ok (.aload_n 0, 1) := by decide +kernel
theorem dX7_enterRepeat_24 : decode cX7_enterRepeat 24 = .ok (.iconst 1, 1) := by decide +kernel
theorem dX7_enterRepeat_25 : decode cX7_enterRepeat 25 = .ok (.invokevirtual 138, 3) := by decide +kernel
theorem dX7_enterRepeat_28 : decode cX7_enterRepeat 28 = .ok (.putfield 127, 3) := by decide +kernel
theorem dX7_enterRepeat_31 : decode cX7_enterRepeat 31 = .ok (.return_, 1) := by decide +kernel
theorem dX7_goRound_0 : decode cX7_goRound 0 = .ok (.aload_n 0, 1) := by decide +kernel
theorem dX7_goRound_1 : decode cX7_goRound 1 = .ok (.iconst 0, 1) := by decide +kernel
theorem dX7_goRound_2 : decode cX7_goRound 2 = .ok (.invokevirtual 138, 3) := by decide +kernel
theorem dX7_goRound_5 : decode cX7_goRound 5 = .ok (.istore_n 1, 1) := by decide +kernel
theorem dX7_goRound_6 : decode cX7_goRound 6 = .ok (.aload_n 0, 1) := by decide +kernel
theorem dX7_goRound_7 : decode cX7_goRound 7 = .ok (.getfield 18, 3) := by decide +kernel
theorem dX7_goRound_10 : decode cX7_goRound 10 = .ok (.iload_n 1, 1) := by decide +kernel
theorem dX7_goRound_11 : decode cX7_goRound 11 = .ok (.invokestatic 123, 3) := by decide +kernel
theorem dX7_goRound_14 : decode cX7_goRound 14 = .ok (.iconst 1, 1) := by decide +kernel
theorem dX7_goRound_15 : decode cX7_goRound 15 = .ok (.isub, 1) := by decide +kernel
theorem dX7_goRound_16 : decode cX7_goRound 16 = .ok (.istore_n 2, 1) := by decide +kernel
theorem dX7_goRound_17 : decode cX7_goRound 17 = .ok (.aload_n 0, 1) := by decide +kernel
theorem dX7_goRound_18 : decode cX7_goRound 18 = .ok (.getfield 18, 3) := by decide +kernel
theorem dX7_goRound_21 : decode cX7_goRound 21 = .ok (.iload_n 1, 1) := by decide +kernel
theorem dX7_goRound_22 : decode cX7_goRound 22 = .ok (.iload_n 2, 1) := by decide +kernel
theorem dX7_goRound_23 : decode cX7_goRound 23 = .ok (.invokestatic 100, 3) := by decide +kernel
theorem dX7_goRound_26 : decode cX7_goRound 26 = .ok (.iload_n 2, 1) := by decide +kernel
theorem dX7_goRound_27 : decode cX7_goRound 27 = .ok (.ifCond .le 8, 3) := by decide +kernel
theorem dX7_goRound_30 : decode cX7_goRound 30 = .ok (.aload_n 0, 1) := by decide +kernel
theorem dX7_goRound_31 : decode cX7_goRound 31 = .ok (.iload_n 1, 1) := by decide +kernel
theorem dX7_goRound_32 : decode cX7_goRound 32 = .ok (.putfield 127, 3) := by decide +kernel
theorem dX7_goRound_35 : decode cX7_goRound 35 = .ok (.return_, 1) := by decide +kernel
theorem dX7_kind_0 : decode cX7_kind 0 = .ok (.aload_n 0, 1) := by decide +kernel
theorem dX7_kind_1 : decode cX7_kind 1 = .ok (.getfield 11, 3) := by decide +kernel
theorem dX7_kind_4 : decode cX7_kind 4 = .ok (.aload_n 0, 1) := by decide +kernel
theorem dX7_kind_5 : decode cX7_kind 5 = .ok (.getfield 127, 3) := by decide +kernel
theorem dX7_kind_8 : decode cX7_kind 8 = .ok (.invokestatic 123, 3) := by decide +kernel
theorem dX7_kind_11 : decode cX7_kind 11 = .ok (.ireturn, 1) := by decide +kernel
theorem dX7_argument_0 : decode cX7_argument 0 = .ok (.aload_n 0, 1) := by decide +kernel
theorem dX7_argument_1 : decode cX7_argument 1 = .ok (.aload_n 0, 1) := by decide +kernel
theorem dX7_argument_2 : decode cX7_argument 2 = .ok (.getfield 127, 3) := by decide +kernel
theorem dX7_argument_5 : decode cX7_argument 5 = .ok (.iload_n 1, 1) := by decide +kernel
theorem dX7_argument_6 : decode cX7_argument 6 = .ok (.invokevirtual 142, 3) := by decide +kernel
theorem dX7_argument_9 : decode cX7_argument 9 = .ok (.ireturn, 1) := by decide +kernel
