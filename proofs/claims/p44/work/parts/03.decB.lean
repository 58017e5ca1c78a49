theorem dX5_init_0 : decode cX5_init 0 = .ok (.aload_n 0, 1) := by decide +kernel
theorem dX5_init_1 : decode cX5_init 1 = .ok (.invokespecial 3, 3) := by decide +kernel
theorem dX5_init_4 : decode cX5_init 4 = .ok (.aload_n 0, 1) := by decide +kernel
theorem dX5_init_5 : decode cX5_init 5 = .ok (.new 9, 3) := by decide +kernel
theorem dX5_init_8 : decode cX5_init 8 = .ok (.dup, 1) := by decide +kernel
theorem dX5_init_9 : decode cX5_init 9 = .ok (.invokespecial 11, 3) := by decide +kernel
theorem dX5_init_12 : decode cX5_init 12 = .ok (.putfield 12, 3) := by decide +kernel
theorem dX5_init_15 : decode cX5_init 15 = .ok (.aload_n 0, 1) := by decide +kernel
theorem dX5_init_16 : decode cX5_init 16 = .ok (.new 9, 3) := by decide +kernel
theorem dX5_init_19 : decode cX5_init 19 = .ok (.dup, 1) := by decide +kernel
theorem dX5_init_20 : decode cX5_init 20 = .ok (.invokespecial 11, 3) := by decide +kernel
theorem dX5_init_23 : decode cX5_init 23 = .ok (.putfield 18, 3) := by decide +kernel
theorem dX5_init_26 : decode cX5_init 26 = .ok (.aload_n 0, 1) := by decide +kernel
theorem dX5_init_27 : decode cX5_init 27 = .ok (.bipush 7, 2) := by decide +kernel
theorem dX5_init_29 : decode cX5_init 29 = .ok (.newarray .int, 2) := by decide +kernel
theorem dX5_init_31 : decode cX5_init 31 = .ok (.putfield 21, 3) := by decide +kernel
theorem dX5_init_34 : decode cX5_init 34 = .ok (.aload_n 0, 1) := by decide +kernel
theorem dX5_init_35 : decode cX5_init 35 = .ok (.bipush 8, 2) := by decide +kernel
theorem dX5_init_37 : decode cX5_init 37 = .ok (.anewarray 25, 3) := by decide +kernel
theorem dX5_init_40 : decode cX5_init 40 = .ok (.putfield 27, 3) := by decide +kernel
theorem dX5_init_43 : decode cX5_init 43 = .ok (.aload_n 0, 1) := by decide +kernel
theorem dX5_init_44 : decode cX5_init 44 = .ok (.new 25, 3) := by decide +kernel
theorem dX5_init_47 : decode cX5_init 47 = .ok (.dup, 1) := by decide +kernel
theorem dX5_init_48 : decode cX5_init 48 = .ok (.invokespecial 31, 3) := by decide +kernel
theorem dX5_init_51 : decode cX5_init 51 = .ok (.putfield 32, 3) := by decide +kernel
theorem dX5_init_54 : decode cX5_init 54 = .ok (.iconst 0, 1) := by decide +kernel
theorem dX5_init_55 : decode cX5_init 55 = .ok (.istore_n 1, 1) := by decide +kernel
theorem dX5_init_56 : decode cX5_init 56 = .ok (.iload_n 1, 1) := by decide +kernel
theorem dX5_init_57 : decode cX5_init 57 = .ok (.aload_n 0, 1) := by decide +kernel
theorem dX5_init_58 : decode cX5_init 58 = .ok (.getfield 27, 3) := by decide +kernel
theorem dX5_init_61 : decode cX5_init 61 = .ok (.arraylength, 1) := by decide +kernel
theorem dX5_init_62 : decode cX5_init 62 = .ok (.if_icmp .ge 22, 3) := by decide +kernel
theorem dX5_init_65 : decode cX5_init 65 = .ok (.aload_n 0, 1) := by decide +kernel
theorem dX5_init_66 : decode cX5_init 66 = .ok (.getfield 27, 3) := by decide +kernel
theorem dX5_init_69 : decode cX5_init 69 = .ok (.iload_n 1, 1) := by decide +kernel
theorem dX5_init_70 : decode cX5_init 70 = .ok (.new 25, 3) := by decide +kernel
theorem dX5_init_73 : decode cX5_init 73 = .ok (.dup, 1) := by decide +kernel
theorem dX5_init_74 : decode cX5_init 74 = .ok (.invokespecial 31, 3) := by decide +kernel
theorem dX5_init_77 : decode cX5_init 77 = .ok (.aastore, 1) := by decide +kernel
theorem dX5_init_78 : decode cX5_init 78 = .ok (.iinc 1 1, 3) := by decide +kernel
theorem dX5_init_81 : decode cX5_init 81 = .ok (.goto (-25), 3) := by decide +kernel
theorem dX5_init_84 : decode cX5_init 84 = .ok (.aload_n 0, 1) := by decide +kernel
theorem dX5_init_85 : decode cX5_init 85 = .ok (.bipush 12, 2) := by decide +kernel
theorem dX5_init_87 : decode cX5_init 87 = .ok (.bipush 8, 2) := by decide +kernel
theorem dX5_init_89 : decode cX5_init 89 = .ok (.invokevirtual 36, 3) := by decide +kernel
theorem dX5_init_92 : decode cX5_init 92 = .ok (.return_, 1) := by decide +kernel
theorem dX5_reset_0 : decode cX5_reset 0 = .ok (.aload_n 0, 1) := by decide +kernel
theorem dX5_reset_1 : decode cX5_reset 1 = .ok (.iload_n 1, 1) := by decide +kernel
theorem dX5_reset_2 : decode cX5_reset 2 = .ok (.putfield 40, 3) := by decide +kernel
theorem dX5_reset_5 : decode cX5_reset 5 = .ok (.aload_n 0, 1) := by decide +kernel
theorem dX5_reset_6 : decode cX5_reset 6 = .ok (.iload_n 2, 1) := by decide +kernel
theorem dX5_reset_7 : decode cX5_reset 7 = .ok (.putfield 44, 3) := by decide +kernel
theorem dX5_reset_10 : decode cX5_reset 10 = .ok (.aload_n 0, 1) := by decide +kernel
theorem dX5_reset_11 : decode cX5_reset 11 = .ok (.iconst 0, 1) := by decide +kernel
theorem dX5_reset_12 : decode cX5_reset 12 = .ok (.putfield 47, 3) := by decide +kernel
theorem dX5_reset_15 : decode cX5_reset 15 = .ok (.aload_n 0, 1) := by decide +kernel
theorem dX5_reset_16 : decode cX5_reset 16 = .ok (.iconst 0, 1) := by decide +kernel
theorem dX5_reset_17 : decode cX5_reset 17 = .ok (.putfield 50, 3) := by decide +kernel
theorem dX5_reset_20 : decode cX5_reset 20 = .ok (.aload_n 0, 1) := by decide +kernel
theorem dX5_reset_21 : decode cX5_reset 21 = .ok (.iconst 4, 1) := by decide +kernel
theorem dX5_reset_22 : decode cX5_reset 22 = .ok (.putfield 53, 3) := by decide +kernel
theorem dX5_reset_25 : decode cX5_reset 25 = .ok (.aload_n 0, 1) := by decide +kernel
theorem dX5_reset_26 : decode cX5_reset 26 = .ok (.iconst 0, 1) := by decide +kernel
theorem dX5_reset_27 : decode cX5_reset 27 = .ok (.putfield 56, 3) := by decide +kernel
theorem dX5_reset_30 : decode cX5_reset 30 = .ok (.aload_n 0, 1) := by decide +kernel
theorem dX5_reset_31 : decode cX5_reset 31 = .ok (.getfield 21, 3) := by decide +kernel
theorem dX5_reset_34 : decode cX5_reset 34 = .ok (.sipush 500, 3) := by decide +kernel
theorem dX5_reset_37 : decode cX5_reset 37 = .ok (.invokestatic 59, 3) := by decide +kernel
theorem dX5_reset_40 : decode cX5_reset 40 = .ok (.aload_n 0, 1) := by decide +kernel
theorem dX5_reset_41 : decode cX5_reset 41 = .ok (.getfield 12, 3) := by decide +kernel
theorem dX5_reset_44 : decode cX5_reset 44 = .ok (.iconst 0, 1) := by decide +kernel
theorem dX5_reset_45 : decode cX5_reset 45 = .ok (.invokevirtual 65, 3) := by decide +kernel
theorem dX5_reset_48 : decode cX5_reset 48 = .ok (.aload_n 0, 1) := by decide +kernel
theorem dX5_reset_49 : decode cX5_reset 49 = .ok (.getfield 18, 3) := by decide +kernel
theorem dX5_reset_52 : decode cX5_reset 52 = .ok (.invokevirtual 69, 3) := by decide +kernel
theorem dX5_reset_55 : decode cX5_reset 55 = .ok (.return_, 1) := by decide +kernel
theorem dX5_copyFrom_0 : decode cX5_copyFrom 0 = .ok (.aload_n 0, 1) := by decide +kernel
theorem dX5_copyFrom_1 : decode cX5_copyFrom 1 = .ok (.aload_n 1, 1) := by decide +kernel
theorem dX5_copyFrom_2 : decode cX5_copyFrom 2 = .ok (.getfield 40, 3) := by decide +kernel
theorem dX5_copyFrom_5 : decode cX5_copyFrom 5 = .ok (.putfield 40, 3) := by decide +kernel
theorem dX5_copyFrom_8 : decode cX5_copyFrom 8 = .ok (.aload_n 0, 1) := by decide +kernel
theorem dX5_copyFrom_9 : decode cX5_copyFrom 9 = .ok (.aload_n 1, 1) := by decide +kernel
theorem dX5_copyFrom_10 : decode cX5_copyFrom 10 = .ok (.getfield 44, 3) := by decide +kernel
theorem dX5_copyFrom_13 : decode cX5_copyFrom 13 = .ok (.putfield 44, 3) := by decide +kernel
theorem dX5_copyFrom_16 : decode cX5_copyFrom 16 = .ok (.aload_n 0, 1) := by decide +kernel
theorem dX5_copyFrom_17 : decode cX5_copyFrom 17 = .ok (.aload_n 1, 1) := by decide +kernel
theorem dX5_copyFrom_18 : decode cX5_copyFrom 18 = .ok (.getfield 47, 3) := by decide +kernel
theorem dX5_copyFrom_21 : decode cX5_copyFrom 21 = .ok (.putfield 47, 3) := by decide +kernel
theorem dX5_copyFrom_24 : decode cX5_copyFrom 24 = .ok (.aload_n 0, 1) := by decide +kernel
theorem dX5_copyFrom_25 : decode cX5_copyFrom 25 = .ok (.aload_n 1, 1) := by decide +kernel
theorem dX5_copyFrom_26 : decode cX5_copyFrom 26 = .ok (.getfield 50, 3) := by decide +kernel
theorem dX5_copyFrom_29 : decode cX5_copyFrom 29 = .ok (.putfield 50, 3) := by decide +kernel
theorem dX5_copyFrom_32 : decode cX5_copyFrom 32 = .ok (.aload_n 0, 1) := by decide +kernel
theorem dX5_copyFrom_33 : decode cX5_copyFrom 33 = .ok (.aload_n 1, 1) := by decide +kernel
theorem dX5_copyFrom_34 : decode cX5_copyFrom 34 = .ok (.getfield 53, 3) := by decide +kernel
theorem dX5_copyFrom_37 : decode cX5_copyFrom 37 = .ok (.putfield 53, 3) := by decide +kernel
theorem dX5_copyFrom_40 : decode cX5_copyFrom 40 = .ok (.aload_n 0, 1) := by decide +kernel
theorem dX5_copyFrom_41 : decode cX5_copyFrom 41 = .ok (.aload_n 1, 1) := by decide +kernel
theorem dX5_copyFrom_42 : decode cX5_copyFrom 42 = .ok (.getfield 56, 3) := by decide +kernel
theorem dX5_copyFrom_45 : decode cX5_copyFrom 45 = .ok (.putfield 56, 3) := by decide +kernel
theorem dX5_copyFrom_48 : decode cX5_copyFrom 48 = .ok (.aload_n 1, 1) := by decide +kernel
theorem dX5_copyFrom_49 : decode cX5_copyFrom 49 = .ok (.getfield 21, 3) := by decide +kernel
theorem dX5_copyFrom_52 : decode cX5_copyFrom 52 = .ok (.iconst 0, 1) := by decide +kernel
theorem dX5_copyFrom_53 : decode cX5_copyFrom 53 = .ok (.aload_n 0, 1) := by decide +kernel
theorem dX5_copyFrom_54 : decode cX5_copyFrom 54 = .ok (.getfield 21, 3) := by decide +kernel
theorem dX5_copyFrom_57 : decode cX5_copyFrom 57 = .ok (.iconst 0, 1) := by decide +kernel
theorem dX5_copyFrom_58 : decode cX5_copyFrom 58 = .ok (.aload_n 0, 1) := by decide +kernel
theorem dX5_copyFrom_59 : decode cX5_copyFrom 59 = .ok (.getfield 21, 3) := by decide +kernel
theorem dX5_copyFrom_62 : decode cX5_copyFrom 62 = .ok (.arraylength, 1) := by decide +kernel
theorem dX5_copyFrom_63 : decode cX5_copyFrom 63 = .ok (.invokestatic 72, 3) := by decide +kernel
theorem dX5_copyFrom_66 : decode cX5_copyFrom 66 = .ok (.iconst 0, 1) := by decide +kernel
theorem dX5_copyFrom_67 : decode cX5_copyFrom 67 = .ok (.istore_n 2, 1) := by decide +kernel
theorem dX5_copyFrom_68 : decode cX5_copyFrom 68 = .ok (.iload_n 2, 1) := by decide +kernel
theorem dX5_copyFrom_69 : decode cX5_copyFrom 69 = .ok (.aload_n 0, 1) := by decide +kernel
theorem dX5_copyFrom_70 : decode cX5_copyFrom 70 = .ok (.getfield 56, 3) := by decide +kernel
theorem dX5_copyFrom_73 : decode cX5_copyFrom 73 = .ok (.if_icmp .ge 22, 3) := by decide +kernel
theorem dX5_copyFrom_76 : decode cX5_copyFrom 76 = .ok (.aload_n 0, 1) := by decide +kernel
theorem dX5_copyFrom_77 : decode cX5_copyFrom 77 = .ok (.iload_n 2, 1) := by decide +kernel
theorem dX5_copyFrom_78 : decode cX5_copyFrom 78 = .ok (.invokevirtual 78, 3) := by decide +kernel
theorem dX5_copyFrom_81 : decode cX5_copyFrom 81 = .ok (.aload_n 1, 1) := by decide +kernel
theorem dX5_copyFrom_82 : decode cX5_copyFrom 82 = .ok (.iload_n 2, 1) := by decide +kernel
theorem dX5_copyFrom_83 : decode cX5_copyFrom 83 = .ok (.invokevirtual 78, 3) := by decide +kernel
theorem dX5_copyFrom_86 : decode cX5_copyFrom 86 = .ok (.invokevirtual 82, 3) := by decide +kernel
theorem dX5_copyFrom_89 : decode cX5_copyFrom 89 = .ok (.iinc 2 1, 3) := by decide +kernel
theorem dX5_copyFrom_92 : decode cX5_copyFrom 92 = .ok (.goto (-24), 3) := by decide +kernel
theorem dX5_copyFrom_95 : decode cX5_copyFrom 95 = .ok (.aload_n 0, 1) := by decide +kernel
theorem dX5_copyFrom_96 : decode cX5_copyFrom 96 = .ok (.getfield 12, 3) := by decide +kernel
theorem dX5_copyFrom_99 : decode cX5_copyFrom 99 = .ok (.aload_n 1, 1) := by decide +kernel
theorem dX5_copyFrom_100 : decode cX5_copyFrom 100 = .ok (.getfield 12, 3) := by decide +kernel
theorem dX5_copyFrom_103 : decode cX5_copyFrom 103 = .ok (.invokevirtual 86, 3) := by decide +kernel
theorem dX5_copyFrom_106 : decode cX5_copyFrom 106 = .ok (.aload_n 0, 1) := by decide +kernel
theorem dX5_copyFrom_107 : decode cX5_copyFrom 107 = .ok (.getfield 18, 3) := by decide +kernel
theorem dX5_copyFrom_110 : decode cX5_copyFrom 110 = .ok (.aload_n 1, 1) := by decide +kernel
theorem dX5_copyFrom_111 : decode cX5_copyFrom 111 = .ok (.getfield 18, 3) := by decide +kernel
theorem dX5_copyFrom_114 : decode cX5_copyFrom 114 = .ok (.invokevirtual 86, 3) := by decide +kernel
theorem dX5_copyFrom_117 : decode cX5_copyFrom 117 = .ok (.return_, 1) := by decide +kernel
theorem dX5_hasColumn_0 : decode cX5_hasColumn 0 = .ok (.iload_n 1, 1) := by decide +kernel
theorem dX5_hasColumn_1 : decode cX5_hasColumn 1 = .ok (.ifCond .lt 15, 3) := by decide +kernel
theorem dX5_hasColumn_4 : decode cX5_hasColumn 4 = .ok (.iload_n 1, 1) := by decide +kernel
theorem dX5_hasColumn_5 : decode cX5_hasColumn 5 = .ok (.aload_n 0, 1) := by decide +kernel
theorem dX5_hasColumn_6 : decode cX5_hasColumn 6 = .ok (.getfield 40, 3) := by decide +kernel
theorem dX5_hasColumn_9 : decode cX5_hasColumn 9 = .ok (.if_icmp .ge 7, 3) := by decide +kernel
theorem dX5_hasColumn_12 : decode cX5_hasColumn 12 = .ok (.iconst 1, 1) := by decide +kernel
theorem dX5_hasColumn_13 : decode cX5_hasColumn 13 = .ok (.goto 4, 3) := by decide +kernel
theorem dX5_hasColumn_16 : decode cX5_hasColumn 16 = .ok (.iconst 0, 1) := by decide +kernel
theorem dX5_hasColumn_17 : decode cX5_hasColumn 17 = .ok (.ireturn, 1) := by decide +kernel
theorem dX5_hasRow_0 : decode cX5_hasRow 0 = .ok (.iload_n 1, 1) := by decide +kernel
theorem dX5_hasRow_1 : decode cX5_hasRow 1 = .ok (.ifCond .lt 15, 3) := by decide +kernel
theorem dX5_hasRow_4 : decode cX5_hasRow 4 = .ok (.iload_n 1, 1) := by decide +kernel
theorem dX5_hasRow_5 : decode cX5_hasRow 5 = .ok (.aload_n 0, 1) := by decide +kernel
theorem dX5_hasRow_6 : decode cX5_hasRow 6 = .ok (.getfield 44, 3) := by decide +kernel
theorem dX5_hasRow_9 : decode cX5_hasRow 9 = .ok (.if_icmp .ge 7, 3) := by decide +kernel
theorem dX5_hasRow_12 : decode cX5_hasRow 12 = .ok (.iconst 1, 1) := by decide +kernel
theorem dX5_hasRow_13 : decode cX5_hasRow 13 = .ok (.goto 4, 3) := by decide +kernel
theorem dX5_hasRow_16 : decode cX5_hasRow 16 = .ok (.iconst 0, 1) := by decide +kernel
theorem dX5_hasRow_17 : decode cX5_hasRow 17 = .ok (.ireturn, 1) := by decide +kernel
theorem dX5_isOpen_0 : decode cX5_isOpen 0 = .ok (.aload_n 0, 1) := by decide +kernel
theorem dX5_isOpen_1 : decode cX5_isOpen 1 = .ok (.getfield 47, 3) := by decide +kernel
theorem dX5_isOpen_4 : decode cX5_isOpen 4 = .ok (.aload_n 0, 1) := by decide +kernel
theorem dX5_isOpen_5 : decode cX5_isOpen 5 = .ok (.getfield 44, 3) := by decide +kernel
theorem dX5_isOpen_8 : decode cX5_isOpen 8 = .ok (.if_icmp .ge 7, 3) := by decide +kernel
theorem dX5_isOpen_11 : decode cX5_isOpen 11 = .ok (.iconst 1, 1) := by decide +kernel
theorem dX5_isOpen_12 : decode cX5_isOpen 12 = .ok (.goto 4, 3) := by decide +kernel
theorem dX5_isOpen_15 : decode cX5_isOpen 15 = .ok (.iconst 0, 1) := by decide +kernel
theorem dX5_isOpen_16 : decode cX5_isOpen 16 = .ok (.ireturn, 1) := by decide +kernel
theorem dX5_turned_0 : decode cX5_turned 0 = .ok (.aload_n 0, 1) := by decide +kernel
theorem dX5_turned_1 : decode cX5_turned 1 = .ok (.getfield 40, 3) := by decide +kernel
theorem dX5_turned_4 : decode cX5_turned 4 = .ok (.iconst 1, 1) := by decide +kernel
theorem dX5_turned_5 : decode cX5_turned 5 = .ok (.isub, 1) := by decide +kernel
theorem dX5_turned_6 : decode cX5_turned 6 = .ok (.iload_n 1, 1) := by decide +kernel
theorem dX5_turned_7 : decode cX5_turned 7 = .ok (.isub, 1) := by decide +kernel
theorem dX5_turned_8 : decode cX5_turned 8 = .ok (.ireturn, 1) := by decide +kernel
theorem dX5_stockOf_0 : decode cX5_stockOf 0 = .ok (.aload_n 0, 1) := by decide +kernel
theorem dX5_stockOf_1 : decode cX5_stockOf 1 = .ok (.getfield 21, 3) := by decide +kernel
theorem dX5_stockOf_4 : decode cX5_stockOf 4 = .ok (.iload_n 1, 1) := by decide +kernel
theorem dX5_stockOf_5 : decode cX5_stockOf 5 = .ok (.invokestatic 89, 3) := by decide +kernel
theorem dX5_stockOf_8 : decode cX5_stockOf 8 = .ok (.ireturn, 1) := by decide +kernel
theorem dX5_captionAt_0 : decode cX5_captionAt 0 = .ok (.iload_n 1, 1) := by decide +kernel
theorem dX5_captionAt_1 : decode cX5_captionAt 1 = .ok (.ifCond .lt 21, 3) := by decide +kernel
theorem dX5_captionAt_4 : decode cX5_captionAt 4 = .ok (.iload_n 1, 1) := by decide +kernel
theorem dX5_captionAt_5 : decode cX5_captionAt 5 = .ok (.aload_n 0, 1) := by decide +kernel
theorem dX5_captionAt_6 : decode cX5_captionAt 6 = .ok (.getfield 27, 3) := by decide +kernel
theorem dX5_captionAt_9 : decode cX5_captionAt 9 = .ok (.arraylength, 1) := by decide +kernel
theorem dX5_captionAt_10 : decode cX5_captionAt 10 = .ok (.if_icmp .ge 12, 3) := by decide +kernel
theorem dX5_captionAt_13 : decode cX5_captionAt 13 = .ok (.aload_n 0, 1) := by decide +kernel
theorem dX5_captionAt_14 : decode cX5_captionAt 14 = .ok (.getfield 27, 3) := by decide +kernel
theorem dX5_captionAt_17 : decode cX5_captionAt 17 = .ok (.iload_n 1, 1) := by decide +kernel
theorem dX5_captionAt_18 : decode cX5_captionAt 18 = .ok (.aaload, 1) := by decide +kernel
theorem dX5_captionAt_19 : decode cX5_captionAt 19 = .ok (.goto 7, 3) := by decide +kernel
theorem dX5_captionAt_22 : decode cX5_captionAt 22 = .ok (.aload_n 0, 1) := by decide +kernel
theorem dX5_captionAt_23 : decode cX5_captionAt 23 = .ok (.getfield 32, 3) := by decide +kernel
theorem dX5_captionAt_26 : decode cX5_captionAt 26 = .ok (.areturn, 1) := by decide +kernel
theorem dX5_allLetters_0 : decode cX5_allLetters 0 = .ok (.iconst 0, 1) := by decide +kernel
theorem dX5_allLetters_1 : decode cX5_allLetters 1 = .ok (.istore_n 1, 1) := by decide +kernel
theorem dX5_allLetters_2 : decode cX5_allLetters 2 = .ok (.iconst 0, 1) := by decide +kernel
theorem dX5_allLetters_3 : decode cX5_allLetters 3 = .ok (.istore_n 2, 1) := by decide +kernel
theorem dX5_allLetters_4 : decode cX5_allLetters 4 = .ok (.iload_n 2, 1) := by decide +kernel
theorem dX5_allLetters_5 : decode cX5_allLetters 5 = .ok (.aload_n 0, 1) := by decide +kernel
theorem dX5_allLetters_6 : decode cX5_allLetters 6 = .ok (.getfield 56, 3) := by decide +kernel
theorem dX5_allLetters_9 : decode cX5_allLetters 9 = .ok (.if_icmp .ge 20, 3) := by decide +kernel
theorem dX5_allLetters_12 : decode cX5_allLetters 12 = .ok (.iload_n 1, 1) := by decide +kernel
theorem dX5_allLetters_13 : decode cX5_allLetters 13 = .ok (.aload_n 0, 1) := by decide +kernel
theorem dX5_allLetters_14 : decode cX5_allLetters 14 = .ok (.iload_n 2, 1) := by decide +kernel
theorem dX5_allLetters_15 : decode cX5_allLetters 15 = .ok (.invokevirtual 78, 3) := by decide +kernel
theorem dX5_allLetters_18 : decode cX5_allLetters 18 = .ok (.getfield 93, 3) := by decide +kernel
theorem dX5_allLetters_21 : decode cX5_allLetters 21 = .ok (.iadd, 1) := by decide +kernel
theorem dX5_allLetters_22 : decode cX5_allLetters 22 = .ok (.istore_n 1, 1) := by decide +kernel
theorem dX5_allLetters_23 : decode cX5_allLetters 23 = .ok (.iinc 2 1, 3) := by decide +kernel
theorem dX5_allLetters_26 : decode cX5_allLetters 26 = .ok (.goto (-22), 3) := by decide +kernel
theorem dX5_allLetters_29 : decode cX5_allLetters 29 = .ok (.iload_n 1, 1) := by decide +kernel
theorem dX5_allLetters_30 : decode cX5_allLetters 30 = .ok (.ireturn, 1) := by decide +kernel
theorem dX5_holds_0 : decode cX5_holds 0 = .ok (.aload_n 1, 1) := by decide +kernel
theorem dX5_holds_1 : decode cX5_holds 1 = .ok (.getfield 96, 3) := by decide +kernel
theorem dX5_holds_4 : decode cX5_holds 4 = .ok (.ifCond .lt 43, 3) := by decide +kernel
theorem dX5_holds_7 : decode cX5_holds 7 = .ok (.aload_n 1, 1) := by decide +kernel
theorem dX5_holds_8 : decode cX5_holds 8 = .ok (.getfield 96, 3) := by decide +kernel
theorem dX5_holds_11 : decode cX5_holds 11 = .ok (.aload_n 0, 1) := by decide +kernel
theorem dX5_holds_12 : decode cX5_holds 12 = .ok (.getfield 40, 3) := by decide +kernel
theorem dX5_holds_15 : decode cX5_holds 15 = .ok (.aload_n 1, 1) := by decide +kernel
theorem dX5_holds_16 : decode cX5_holds 16 = .ok (.invokevirtual 99, 3) := by decide +kernel
theorem dX5_holds_19 : decode cX5_holds 19 = .ok (.isub, 1) := by decide +kernel
theorem dX5_holds_20 : decode cX5_holds 20 = .ok (.if_icmp .gt 27, 3) := by decide +kernel
theorem dX5_holds_23 : decode cX5_holds 23 = .ok (.aload_n 1, 1) := by decide +kernel
theorem dX5_holds_24 : decode cX5_holds 24 = .ok (.getfield 103, 3) := by decide +kernel
theorem dX5_holds_27 : decode cX5_holds 27 = .ok (.ifCond .lt 20, 3) := by decide +kernel
theorem dX5_holds_30 : decode cX5_holds 30 = .ok (.aload_n 1, 1) := by decide +kernel
theorem dX5_holds_31 : decode cX5_holds 31 = .ok (.getfield 103, 3) := by decide +kernel
theorem dX5_holds_34 : decode cX5_holds 34 = .ok (.aload_n 0, 1) := by decide +kernel
theorem dX5_holds_35 : decode cX5_holds 35 = .ok (.getfield 44, 3) := by decide +kernel
theorem dX5_holds_38 : decode cX5_holds 38 = .ok (.iconst 5, 1) := by decide +kernel
theorem dX5_holds_39 : decode cX5_holds 39 = .ok (.isub, 1) := by decide +kernel
theorem dX5_holds_40 : decode cX5_holds 40 = .ok (.if_icmp .gt 7, 3) := by decide +kernel
theorem dX5_holds_43 : decode cX5_holds 43 = .ok (.iconst 1, 1) := by decide +kernel
theorem dX5_holds_44 : decode cX5_holds 44 = .ok (.goto 4, 3) := by decide +kernel
theorem dX5_holds_47 : decode cX5_holds 47 = .ok (.iconst 0, 1) := by decide +kernel
theorem dX5_holds_48 : decode cX5_holds 48 = .ok (.ireturn, 1) := by decide +kernel
theorem dX5_isFree_0 : decode cX5_isFree 0 = .ok (.iconst 0, 1) := by decide +kernel
theorem dX5_isFree_1 : decode cX5_isFree 1 = .ok (.istore_n 3, 1) := by decide +kernel
theorem dX5_isFree_2 : decode cX5_isFree 2 = .ok (.iload_n 3, 1) := by decide +kernel
theorem dX5_isFree_3 : decode cX5_isFree 3 = .ok (.aload_n 0, 1) := by decide +kernel
theorem dX5_isFree_4 : decode cX5_isFree 4 = .ok (.getfield 56, 3) := by decide +kernel
theorem dX5_isFree_7 : decode cX5_isFree 7 = .ok (.if_icmp .ge 32, 3) := by decide +kernel
theorem dX5_isFree_10 : decode cX5_isFree 10 = .ok (.iload_n 3, 1) := by decide +kernel
theorem dX5_isFree_11 : decode cX5_isFree 11 = .ok (.iload_n 2, 1) := by decide +kernel
theorem dX5_isFree_12 : decode cX5_isFree 12 = .ok (.if_icmp .eq 21, 3) := by decide +kernel
theorem dX5_isFree_15 : decode cX5_isFree 15 = .ok (.aload_n 1, 1) := by decide +kernel
theorem dX5_isFree_16 : decode cX5_isFree 16 = .ok (.aload_n 0, 1) := by decide +kernel
theorem dX5_isFree_17 : decode cX5_isFree 17 = .ok (.iload_n 3, 1) := by decide +kernel
theorem dX5_isFree_18 : decode cX5_isFree 18 = .ok (.invokevirtual 78, 3) := by decide +kernel
theorem dX5_isFree_21 : decode cX5_isFree 21 = .ok (.aload_n 0, 1) := by decide +kernel
theorem dX5_isFree_22 : decode cX5_isFree 22 = .ok (.getfield 40, 3) := by decide +kernel
theorem dX5_isFree_25 : decode cX5_isFree 25 = .ok (.invokevirtual 106, 3) := by decide +kernel
theorem dX5_isFree_28 : decode cX5_isFree 28 = .ok (.ifCond .eq 5, 3) := by decide +kernel
theorem dX5_isFree_31 : decode cX5_isFree 31 = .ok (.iconst 0, 1) := by decide +kernel
theorem dX5_isFree_32 : decode cX5_isFree 32 = .ok (.ireturn, 1) := by decide +kernel
theorem dX5_isFree_33 : decode cX5_isFree 33 = .ok (.iinc 3 1, 3) := by decide +kernel
theorem dX5_isFree_36 : decode cX5_isFree 36 = .ok (.goto (-34), 3) := by decide +kernel
theorem dX5_isFree_39 : decode cX5_isFree 39 = .ok (.iconst 1, 1) := by decide +kernel
theorem dX5_isFree_40 : decode cX5_isFree 40 = .ok (.ireturn, 1) := by decide +kernel
theorem dX5_hang_0 : decode cX5_hang 0 = .ok (.aload_n 0, 1) := by decide +kernel
theorem dX5_hang_1 : decode cX5_hang 1 = .ok (.aload_n 0, 1) := by decide +kernel
theorem dX5_hang_2 : decode cX5_hang 2 = .ok (.getfield 56, 3) := by decide +kernel
theorem dX5_hang_5 : decode cX5_hang 5 = .ok (.invokevirtual 78, 3) := by decide +kernel
theorem dX5_hang_8 : decode cX5_hang 8 = .ok (.aload_n 1, 1) := by decide +kernel
theorem dX5_hang_9 : decode cX5_hang 9 = .ok (.invokevirtual 82, 3) := by decide +kernel
theorem dX5_hang_12 : decode cX5_hang 12 = .ok (.aload_n 0, 1) := by decide +kernel
theorem dX5_hang_13 : decode cX5_hang 13 = .ok (.dup, 1) := by decide +kernel
theorem dX5_hang_14 : decode cX5_hang 14 = .ok (.getfield 56, 3) := by decide +kernel
theorem dX5_hang_17 : decode cX5_hang 17 = .ok (.iconst 1, 1) := by decide +kernel
theorem dX5_hang_18 : decode cX5_hang 18 = .ok (.iadd, 1) := by decide +kernel
theorem dX5_hang_19 : decode cX5_hang 19 = .ok (.putfield 56, 3) := by decide +kernel
theorem dX5_hang_22 : decode cX5_hang 22 = .ok (.return_, 1) := by decide +kernel
theorem dX5_takeAway_0 : decode cX5_takeAway 0 = .ok (.iload_n 1, 1) := by decide +kernel
theorem dX5_takeAway_1 : decode cX5_takeAway 1 = .ok (.istore_n 2, 1) := by decide +kernel
theorem dX5_takeAway_2 : decode cX5_takeAway 2 = .ok (.iload_n 2, 1) := by decide +kernel
theorem dX5_takeAway_3 : decode cX5_takeAway 3 = .ok (.aload_n 0, 1) := by decide +kernel
theorem dX5_takeAway_4 : decode cX5_takeAway 4 = .ok (.getfield 56, 3) := by decide +kernel
theorem dX5_takeAway_7 : decode cX5_takeAway 7 = .ok (.iconst 1, 1) := by decide +kernel
theorem dX5_takeAway_8 : decode cX5_takeAway 8 = .ok (.isub, 1) := by decide +kernel
theorem dX5_takeAway_9 : decode cX5_takeAway 9 = .ok (.if_icmp .ge 24, 3) := by decide +kernel
theorem dX5_takeAway_12 : decode cX5_takeAway 12 = .ok (.aload_n 0, 1) := by decide +kernel
theorem dX5_takeAway_13 : decode cX5_takeAway 13 = .ok (.iload_n 2, 1) := by decide +kernel
theorem dX5_takeAway_14 : decode cX5_takeAway 14 = .ok (.invokevirtual 78, 3) := by decide +kernel
theorem dX5_takeAway_17 : decode cX5_takeAway 17 = .ok (.aload_n 0, 1) := by decide +kernel
theorem dX5_takeAway_18 : decode cX5_takeAway 18 = .ok (.iload_n 2, 1) := by decide +kernel
theorem dX5_takeAway_19 : decode cX5_takeAway 19 = .ok (.iconst 1, 1) := by decide +kernel
theorem dX5_takeAway_20 : decode cX5_takeAway 20 = .ok (.iadd, 1) := by decide +kernel
theorem dX5_takeAway_21 : decode cX5_takeAway 21 = .ok (.invokevirtual 78, 3) := by decide +kernel
theorem dX5_takeAway_24 : decode cX5_takeAway 24 = .ok (.invokevirtual 82, 3) := by decide +kernel
theorem dX5_takeAway_27 : decode cX5_takeAway 27 = .ok (.iinc 2 1, 3) := by decide +kernel
theorem dX5_takeAway_30 : decode cX5_takeAway 30 = .ok (.goto (-28), 3) := by decide +kernel
theorem dX5_takeAway_33 : decode cX5_takeAway 33 = .ok (.aload_n 0, 1) := by decide +kernel
theorem dX5_takeAway_34 : decode cX5_takeAway 34 = .ok (.dup, 1) := by decide +kernel
theorem dX5_takeAway_35 : decode cX5_takeAway 35 = .ok (.getfield 56, 3) := by decide +kernel
theorem dX5_takeAway_38 : decode cX5_takeAway 38 = .ok (.iconst 1, 1) := by decide +kernel
theorem dX5_takeAway_39 : decode cX5_takeAway 39 = .ok (.isub, 1) := by decide +kernel
theorem dX5_takeAway_40 : decode cX5_takeAway 40 = .ok (.putfield 56, 3) := by decide +kernel
theorem dX5_takeAway_43 : decode cX5_takeAway 43 = .ok (.return_, 1) := by decide +kernel
theorem dX5_paint_0 : decode cX5_paint 0 = .ok (.aload_n 0, 1) := by decide +kernel
theorem dX5_paint_1 : decode cX5_paint 1 = .ok (.getfield 18, 3) := by decide +kernel
theorem dX5_paint_4 : decode cX5_paint 4 = .ok (.invokevirtual 69, 3) := by decide +kernel
theorem dX5_paint_7 : decode cX5_paint 7 = .ok (.iconst 0, 1) := by decide +kernel
theorem dX5_paint_8 : decode cX5_paint 8 = .ok (.istore_n 1, 1) := by decide +kernel
theorem dX5_paint_9 : decode cX5_paint 9 = .ok (.iload_n 1, 1) := by decide +kernel
theorem dX5_paint_10 : decode cX5_paint 10 = .ok (.aload_n 0, 1) := by decide +kernel
theorem dX5_paint_11 : decode cX5_paint 11 = .ok (.getfield 56, 3) := by decide +kernel
theorem dX5_paint_14 : decode cX5_paint 14 = .ok (.if_icmp .ge 37, 3) := by decide +kernel
theorem dX5_paint_17 : decode cX5_paint 17 = .ok (.aload_n 0, 1) := by decide +kernel
theorem dX5_paint_18 : decode cX5_paint 18 = .ok (.iload_n 1, 1) := by decide +kernel
theorem dX5_paint_19 : decode cX5_paint 19 = .ok (.invokevirtual 78, 3) := by decide +kernel
theorem dX5_paint_22 : decode cX5_paint 22 = .ok (.astore_n 2, 1) := by decide +kernel
theorem dX5_paint_23 : decode cX5_paint 23 = .ok (.iconst 0, 1) := by decide +kernel
theorem dX5_paint_24 : decode cX5_paint 24 = .ok (.istore_n 3, 1) := by decide +kernel
theorem dX5_paint_25 : decode cX5_paint 25 = .ok (.iload_n 3, 1) := by decide +kernel
theorem dX5_paint_26 : decode cX5_paint 26 = .ok (.aload_n 2, 1) := by decide +kernel
theorem dX5_paint_27 : decode cX5_paint 27 = .ok (.getfield 93, 3) := by decide +kernel
theorem dX5_paint_30 : decode cX5_paint 30 = .ok (.if_icmp .ge 15, 3) := by decide +kernel
theorem dX5_paint_33 : decode cX5_paint 33 = .ok (.aload_n 0, 1) := by decide +kernel
theorem dX5_paint_34 : decode cX5_paint 34 = .ok (.aload_n 2, 1) := by decide +kernel
theorem dX5_paint_35 : decode cX5_paint 35 = .ok (.iload_n 3, 1) := by decide +kernel
theorem dX5_paint_36 : decode cX5_paint 36 = .ok (.invokevirtual 110, 3) := by decide +kernel
theorem dX5_paint_39 : decode cX5_paint 39 = .ok (.iinc 3 1, 3) := by decide +kernel
theorem dX5_paint_42 : decode cX5_paint 42 = .ok (.goto (-17), 3) := by decide +kernel
theorem dX5_paint_45 : decode cX5_paint 45 = .ok (.iinc 1 1, 3) := by decide +kernel
theorem dX5_paint_48 : decode cX5_paint 48 = .ok (.goto (-39), 3) := by decide +kernel
theorem dX5_paint_51 : decode cX5_paint 51 = .ok (.return_, 1) := by decide +kernel
theorem dX5_paintLetter_0 : decode cX5_paintLetter 0 = .ok (.aload_n 1, 1) := by decide +kernel
theorem dX5_paintLetter_1 : decode cX5_paintLetter 1 = .ok (.iload_n 2, 1) := by decide +kernel
theorem dX5_paintLetter_2 : decode cX5_paintLetter 2 = .ok (.invokevirtual 114, 3) := by decide +kernel
theorem dX5_paintLetter_5 : decode cX5_paintLetter 5 = .ok (.istore_n 3, 1) := by decide +kernel
theorem dX5_paintLetter_6 : decode cX5_paintLetter 6 = .ok (.iconst 0, 1) := by decide +kernel
theorem dX5_paintLetter_7 : decode cX5_paintLetter 7 = .ok (.istore 4, 2) := by decide +kernel
theorem dX5_paintLetter_9 : decode cX5_paintLetter 9 = .ok (.iload 4, 2) := by decide +kernel
theorem dX5_paintLetter_11 : decode cX5_paintLetter 11 = .ok (.bipush 14, 2) := by decide +kernel
theorem dX5_paintLetter_13 : decode cX5_paintLetter 13 = .ok (.if_icmp .gt 45, 3) := by decide +kernel
theorem dX5_paintLetter_16 : decode cX5_paintLetter 16 = .ok (.iload_n 3, 1) := by decide +kernel
theorem dX5_paintLetter_17 : decode cX5_paintLetter 17 = .ok (.iload 4, 2) := by decide +kernel
theorem dX5_paintLetter_19 : decode cX5_paintLetter 19 = .ok (.ishr, 1) := by decide +kernel
theorem dX5_paintLetter_20 : decode cX5_paintLetter 20 = .ok (.iconst 1, 1) := by decide +kernel
theorem dX5_paintLetter_21 : decode cX5_paintLetter 21 = .ok (.iand, 1) := by decide +kernel
theorem dX5_paintLetter_22 : decode cX5_paintLetter 22 = .ok (.iconst 1, 1) := by decide +kernel
theorem dX5_paintLetter_23 : decode cX5_paintLetter 23 = .ok (.if_icmp .ne 29, 3) := by decide +kernel
theorem dX5_paintLetter_26 : decode cX5_paintLetter 26 = .ok (.aload_n 0, 1) := by decide +kernel
theorem dX5_paintLetter_27 : decode cX5_paintLetter 27 = .ok (.getfield 18, 3) := by decide +kernel
theorem dX5_paintLetter_30 : decode cX5_paintLetter 30 = .ok (.aload_n 0, 1) := by decide +kernel
theorem dX5_paintLetter_31 : decode cX5_paintLetter 31 = .ok (.aload_n 1, 1) := by decide +kernel
theorem dX5_paintLetter_32 : decode cX5_paintLetter 32 = .ok (.iload_n 2, 1) := by decide +kernel
theorem dX5_paintLetter_33 : decode cX5_paintLetter 33 = .ok (.iload 4, 2) := by decide +kernel
theorem dX5_paintLetter_35 : decode cX5_paintLetter 35 = .ok (.invokevirtual 118, 3) := by decide +kernel
theorem dX5_paintLetter_38 : decode cX5_paintLetter 38 = .ok (.aload_n 0, 1) := by decide +kernel
theorem dX5_paintLetter_39 : decode cX5_paintLetter 39 = .ok (.aload_n 1, 1) := by decide +kernel
theorem dX5_paintLetter_40 : decode cX5_paintLetter 40 = .ok (.iload 4, 2) := by decide +kernel
theorem dX5_paintLetter_42 : decode cX5_paintLetter 42 = .ok (.invokevirtual 122, 3) := by decide +kernel
theorem dX5_paintLetter_45 : decode cX5_paintLetter 45 = .ok (.aload_n 1, 1) := by decide +kernel
theorem dX5_paintLetter_46 : decode cX5_paintLetter 46 = .ok (.getfield 126, 3) := by decide +kernel
theorem dX5_paintLetter_49 : decode cX5_paintLetter 49 = .ok (.invokevirtual 129, 3) := by decide +kernel
theorem dX5_paintLetter_52 : decode cX5_paintLetter 52 = .ok (.iinc 4 1, 3) := by decide +kernel
theorem dX5_paintLetter_55 : decode cX5_paintLetter 55 = .ok (.goto (-46), 3) := by decide +kernel
theorem dX5_paintLetter_58 : decode cX5_paintLetter 58 = .ok (.return_, 1) := by decide +kernel
theorem dX5_columnOfBit_0 : decode cX5_columnOfBit 0 = .ok (.aload_n 1, 1) := by decide +kernel
theorem dX5_columnOfBit_1 : decode cX5_columnOfBit 1 = .ok (.getfield 96, 3) := by decide +kernel
theorem dX5_columnOfBit_4 : decode cX5_columnOfBit 4 = .ok (.iconst 4, 1) := by decide +kernel
theorem dX5_columnOfBit_5 : decode cX5_columnOfBit 5 = .ok (.iload_n 2, 1) := by decide +kernel
theorem dX5_columnOfBit_6 : decode cX5_columnOfBit 6 = .ok (.imul, 1) := by decide +kernel
theorem dX5_columnOfBit_7 : decode cX5_columnOfBit 7 = .ok (.iadd, 1) := by decide +kernel
theorem dX5_columnOfBit_8 : decode cX5_columnOfBit 8 = .ok (.bipush 14, 2) := by decide +kernel
theorem dX5_columnOfBit_10 : decode cX5_columnOfBit 10 = .ok (.iload_n 3, 1) := by decide +kernel
theorem dX5_columnOfBit_11 : decode cX5_columnOfBit 11 = .ok (.isub, 1) := by decide +kernel
theorem dX5_columnOfBit_12 : decode cX5_columnOfBit 12 = .ok (.iconst 3, 1) := by decide +kernel
theorem dX5_columnOfBit_13 : decode cX5_columnOfBit 13 = .ok (.irem, 1) := by decide +kernel
theorem dX5_columnOfBit_14 : decode cX5_columnOfBit 14 = .ok (.iadd, 1) := by decide +kernel
theorem dX5_columnOfBit_15 : decode cX5_columnOfBit 15 = .ok (.istore 4, 2) := by decide +kernel
theorem dX5_columnOfBit_17 : decode cX5_columnOfBit 17 = .ok (.aload_n 1, 1) := by decide +kernel
theorem dX5_columnOfBit_18 : decode cX5_columnOfBit 18 = .ok (.getfield 133, 3) := by decide +kernel
theorem dX5_columnOfBit_21 : decode cX5_columnOfBit 21 = .ok (.ifCond .ne 8, 3) := by decide +kernel
theorem dX5_columnOfBit_24 : decode cX5_columnOfBit 24 = .ok (.iload 4, 2) := by decide +kernel
theorem dX5_columnOfBit_26 : decode cX5_columnOfBit 26 = .ok (.goto 9, 3) := by decide +kernel
theorem dX5_columnOfBit_29 : decode cX5_columnOfBit 29 = .ok (.aload_n 0, 1) := by decide +kernel
theorem dX5_columnOfBit_30 : decode cX5_columnOfBit 30 = .ok (.iload 4, 2) := by decide +kernel
theorem dX5_columnOfBit_32 : decode cX5_columnOfBit 32 = .ok (.invokevirtual 136, 3) := by decide +kernel
theorem dX5_columnOfBit_35 : decode cX5_columnOfBit 35 = .ok (.ireturn, 1) := by decide +kernel
theorem dX5_rowOfBit_0 : decode cX5_rowOfBit 0 = .ok (.aload_n 1, 1) := by decide +kernel
theorem dX5_rowOfBit_1 : decode cX5_rowOfBit 1 = .ok (.getfield 103, 3) := by decide +kernel
theorem dX5_rowOfBit_4 : decode cX5_rowOfBit 4 = .ok (.iload_n 2, 1) := by decide +kernel
theorem dX5_rowOfBit_5 : decode cX5_rowOfBit 5 = .ok (.iconst 3, 1) := by decide +kernel
theorem dX5_rowOfBit_6 : decode cX5_rowOfBit 6 = .ok (.idiv, 1) := by decide +kernel
theorem dX5_rowOfBit_7 : decode cX5_rowOfBit 7 = .ok (.iadd, 1) := by decide +kernel
theorem dX5_rowOfBit_8 : decode cX5_rowOfBit 8 = .ok (.ireturn, 1) := by decide +kernel
theorem dX5_picture_0 : decode cX5_picture 0 = .ok (.iconst 0, 1) := by decide +kernel
theorem dX5_picture_1 : decode cX5_picture 1 = .ok (.istore_n 3, 1) := by decide +kernel
theorem dX5_picture_2 : decode cX5_picture 2 = .ok (.bipush 14, 2) := by decide +kernel
theorem dX5_picture_4 : decode cX5_picture 4 = .ok (.istore 4, 2) := by decide +kernel
theorem dX5_picture_6 : decode cX5_picture 6 = .ok (.iload 4, 2) := by decide +kernel
theorem dX5_picture_8 : decode cX5_picture 8 = .ok (.ifCond .lt 52, 3) := by decide +kernel
theorem dX5_picture_11 : decode cX5_picture 11 = .ok (.aload_n 0, 1) := by decide +kernel
theorem dX5_picture_12 : decode cX5_picture 12 = .ok (.getfield 12, 3) := by decide +kernel
theorem dX5_picture_15 : decode cX5_picture 15 = .ok (.aload_n 0, 1) := by decide +kernel
theorem dX5_picture_16 : decode cX5_picture 16 = .ok (.aload_n 1, 1) := by decide +kernel
theorem dX5_picture_17 : decode cX5_picture 17 = .ok (.iload_n 2, 1) := by decide +kernel
theorem dX5_picture_18 : decode cX5_picture 18 = .ok (.iload 4, 2) := by decide +kernel
theorem dX5_picture_20 : decode cX5_picture 20 = .ok (.invokevirtual 118, 3) := by decide +kernel
theorem dX5_picture_23 : decode cX5_picture 23 = .ok (.aload_n 0, 1) := by decide +kernel
theorem dX5_picture_24 : decode cX5_picture 24 = .ok (.aload_n 1, 1) := by decide +kernel
theorem dX5_picture_25 : decode cX5_picture 25 = .ok (.iload 4, 2) := by decide +kernel
theorem dX5_picture_27 : decode cX5_picture 27 = .ok (.invokevirtual 122, 3) := by decide +kernel
theorem dX5_picture_30 : decode cX5_picture 30 = .ok (.invokevirtual 139, 3) := by decide +kernel
theorem dX5_picture_33 : decode cX5_picture 33 = .ok (.istore 5, 2) := by decide +kernel
theorem dX5_picture_35 : decode cX5_picture 35 = .ok (.iconst 2, 1) := by decide +kernel
theorem dX5_picture_36 : decode cX5_picture 36 = .ok (.iload_n 3, 1) := by decide +kernel
theorem dX5_picture_37 : decode cX5_picture 37 = .ok (.imul, 1) := by decide +kernel
theorem dX5_picture_38 : decode cX5_picture 38 = .ok (.iload 5, 2) := by decide +kernel
theorem dX5_picture_40 : decode cX5_picture 40 = .ok (.aload_n 1, 1) := by decide +kernel
theorem dX5_picture_41 : decode cX5_picture 41 = .ok (.getfield 126, 3) := by decide +kernel
theorem dX5_picture_44 : decode cX5_picture 44 = .ok (.if_icmp .ne 7, 3) := by decide +kernel
theorem dX5_picture_47 : decode cX5_picture 47 = .ok (.iconst 1, 1) := by decide +kernel
theorem dX5_picture_48 : decode cX5_picture 48 = .ok (.goto 4, 3) := by decide +kernel
theorem dX5_picture_51 : decode cX5_picture 51 = .ok (.iconst 0, 1) := by decide +kernel
theorem dX5_picture_52 : decode cX5_picture 52 = .ok (.iadd, 1) := by decide +kernel
theorem dX5_picture_53 : decode cX5_picture 53 = .ok (.istore_n 3, 1) := by decide +kernel
theorem dX5_picture_54 : decode cX5_picture 54 = .ok (.iinc 4 (-1), 3) := by decide +kernel
theorem dX5_picture_57 : decode cX5_picture 57 = .ok (.goto (-51), 3) := by decide +kernel
theorem dX5_picture_60 : decode cX5_picture 60 = .ok (.iload_n 3, 1) := by decide +kernel
theorem dX5_picture_61 : decode cX5_picture 61 = .ok (.ireturn, 1) := by decide +kernel
theorem dX5_ghost_0 : decode cX5_ghost 0 = .ok (.iconst 0, 1) := by decide +kernel
theorem dX5_ghost_1 : decode cX5_ghost 1 = .ok (.istore_n 3, 1) := by decide +kernel
theorem dX5_ghost_2 : decode cX5_ghost 2 = .ok (.bipush 14, 2) := by decide +kernel
theorem dX5_ghost_4 : decode cX5_ghost 4 = .ok (.istore 4, 2) := by decide +kernel
theorem dX5_ghost_6 : decode cX5_ghost 6 = .ok (.iload 4, 2) := by decide +kernel
theorem dX5_ghost_8 : decode cX5_ghost 8 = .ok (.ifCond .lt 56, 3) := by decide +kernel
theorem dX5_ghost_11 : decode cX5_ghost 11 = .ok (.aload_n 0, 1) := by decide +kernel
theorem dX5_ghost_12 : decode cX5_ghost 12 = .ok (.getfield 12, 3) := by decide +kernel
theorem dX5_ghost_15 : decode cX5_ghost 15 = .ok (.aload_n 0, 1) := by decide +kernel
theorem dX5_ghost_16 : decode cX5_ghost 16 = .ok (.aload_n 0, 1) := by decide +kernel
theorem dX5_ghost_17 : decode cX5_ghost 17 = .ok (.aload_n 1, 1) := by decide +kernel
theorem dX5_ghost_18 : decode cX5_ghost 18 = .ok (.iload_n 2, 1) := by decide +kernel
theorem dX5_ghost_19 : decode cX5_ghost 19 = .ok (.iload 4, 2) := by decide +kernel
theorem dX5_ghost_21 : decode cX5_ghost 21 = .ok (.invokevirtual 118, 3) := by decide +kernel
theorem dX5_ghost_24 : decode cX5_ghost 24 = .ok (.invokevirtual 136, 3) := by decide +kernel
theorem dX5_ghost_27 : decode cX5_ghost 27 = .ok (.aload_n 0, 1) := by decide +kernel
theorem dX5_ghost_28 : decode cX5_ghost 28 = .ok (.aload_n 1, 1) := by decide +kernel
theorem dX5_ghost_29 : decode cX5_ghost 29 = .ok (.iload 4, 2) := by decide +kernel
theorem dX5_ghost_31 : decode cX5_ghost 31 = .ok (.invokevirtual 122, 3) := by decide +kernel
theorem dX5_ghost_34 : decode cX5_ghost 34 = .ok (.invokevirtual 139, 3) := by decide +kernel
theorem dX5_ghost_37 : decode cX5_ghost 37 = .ok (.istore 5, 2) := by decide +kernel
theorem dX5_ghost_39 : decode cX5_ghost 39 = .ok (.iconst 2, 1) := by decide +kernel
theorem dX5_ghost_40 : decode cX5_ghost 40 = .ok (.iload_n 3, 1) := by decide +kernel
theorem dX5_ghost_41 : decode cX5_ghost 41 = .ok (.imul, 1) := by decide +kernel
theorem dX5_ghost_42 : decode cX5_ghost 42 = .ok (.iload 5, 2) := by decide +kernel
theorem dX5_ghost_44 : decode cX5_ghost 44 = .ok (.aload_n 1, 1) := by decide +kernel
theorem dX5_ghost_45 : decode cX5_ghost 45 = .ok (.getfield 126, 3) := by decide +kernel
theorem dX5_ghost_48 : decode cX5_ghost 48 = .ok (.if_icmp .ne 7, 3) := by decide +kernel
theorem dX5_ghost_51 : decode cX5_ghost 51 = .ok (.iconst 1, 1) := by decide +kernel
theorem dX5_ghost_52 : decode cX5_ghost 52 = .ok (.goto 4, 3) := by decide +kernel
theorem dX5_ghost_55 : decode cX5_ghost 55 = .ok (.iconst 0, 1) := by decide +kernel
theorem dX5_ghost_56 : decode cX5_ghost 56 = .ok (.iadd, 1) := by decide +kernel
theorem dX5_ghost_57 : decode cX5_ghost 57 = .ok (.istore_n 3, 1) := by decide +kernel
theorem dX5_ghost_58 : decode cX5_ghost 58 = .ok (.iinc 4 (-1), 3) := by decide +kernel
theorem dX5_ghost_61 : decode cX5_ghost 61 = .ok (.goto (-55), 3) := by decide +kernel
theorem dX5_ghost_64 : decode cX5_ghost 64 = .ok (.iload_n 3, 1) := by decide +kernel
theorem dX5_ghost_65 : decode cX5_ghost 65 = .ok (.ireturn, 1) := by decide +kernel
theorem dX5_finishedRowsOf_0 : decode cX5_finishedRowsOf 0 = .ok (.iconst 0, 1) := by decide +kernel
theorem dX5_finishedRowsOf_1 : decode cX5_finishedRowsOf 1 = .ok (.iconst 5, 1) := by decide +kernel
theorem dX5_finishedRowsOf_2 : decode cX5_finishedRowsOf 2 = .ok (.aload_n 0, 1) := by decide +kernel
theorem dX5_finishedRowsOf_3 : decode cX5_finishedRowsOf 3 = .ok (.getfield 47, 3) := by decide +kernel
theorem dX5_finishedRowsOf_6 : decode cX5_finishedRowsOf 6 = .ok (.aload_n 1, 1) := by decide +kernel
theorem dX5_finishedRowsOf_7 : decode cX5_finishedRowsOf 7 = .ok (.getfield 103, 3) := by decide +kernel
theorem dX5_finishedRowsOf_10 : decode cX5_finishedRowsOf 10 = .ok (.isub, 1) := by decide +kernel
theorem dX5_finishedRowsOf_11 : decode cX5_finishedRowsOf 11 = .ok (.invokestatic 143, 3) := by decide +kernel
theorem dX5_finishedRowsOf_14 : decode cX5_finishedRowsOf 14 = .ok (.invokestatic 148, 3) := by decide +kernel
theorem dX5_finishedRowsOf_17 : decode cX5_finishedRowsOf 17 = .ok (.ireturn, 1) := by decide +kernel
theorem dX5_isReadable_0 : decode cX5_isReadable 0 = .ok (.aload_n 0, 1) := by decide +kernel
theorem dX5_isReadable_1 : decode cX5_isReadable 1 = .ok (.aload_n 1, 1) := by decide +kernel
theorem dX5_isReadable_2 : decode cX5_isReadable 2 = .ok (.invokevirtual 151, 3) := by decide +kernel
theorem dX5_isReadable_5 : decode cX5_isReadable 5 = .ok (.iconst 5, 1) := by decide +kernel
theorem dX5_isReadable_6 : decode cX5_isReadable 6 = .ok (.if_icmp .ne 7, 3) := by decide +kernel
theorem dX5_isReadable_9 : decode cX5_isReadable 9 = .ok (.iconst 1, 1) := by decide +kernel
theorem dX5_isReadable_10 : decode cX5_isReadable 10 = .ok (.goto 4, 3) := by decide +kernel
theorem dX5_isReadable_13 : decode cX5_isReadable 13 = .ok (.iconst 0, 1) := by decide +kernel
theorem dX5_isReadable_14 : decode cX5_isReadable 14 = .ok (.ireturn, 1) := by decide +kernel
theorem dX5_read_0 : decode cX5_read 0 = .ok (.aload_n 0, 1) := by decide +kernel
theorem dX5_read_1 : decode cX5_read 1 = .ok (.aload_n 1, 1) := by decide +kernel
theorem dX5_read_2 : decode cX5_read 2 = .ok (.invokevirtual 155, 3) := by decide +kernel
theorem dX5_read_5 : decode cX5_read 5 = .ok (.ifCond .eq 15, 3) := by decide +kernel
theorem dX5_read_8 : decode cX5_read 8 = .ok (.aload_n 0, 1) := by decide +kernel
theorem dX5_read_9 : decode cX5_read 9 = .ok (.aload_n 1, 1) := by decide +kernel
theorem dX5_read_10 : decode cX5_read 10 = .ok (.iload_n 2, 1) := by decide +kernel
theorem dX5_read_11 : decode cX5_read 11 = .ok (.invokevirtual 159, 3) := by decide +kernel
theorem dX5_read_14 : decode cX5_read 14 = .ok (.invokestatic 162, 3) := by decide +kernel
theorem dX5_read_17 : decode cX5_read 17 = .ok (.goto 4, 3) := by decide +kernel
theorem dX5_read_20 : decode cX5_read 20 = .ok (.iconst (-1), 1) := by decide +kernel
theorem dX5_read_21 : decode cX5_read 21 = .ok (.ireturn, 1) := by decide +kernel
theorem dX5_readTurned_0 : decode cX5_readTurned 0 = .ok (.aload_n 0, 1) := by decide +kernel
theorem dX5_readTurned_1 : decode cX5_readTurned 1 = .ok (.aload_n 1, 1) := by decide +kernel
theorem dX5_readTurned_2 : decode cX5_readTurned 2 = .ok (.invokevirtual 155, 3) := by decide +kernel
theorem dX5_readTurned_5 : decode cX5_readTurned 5 = .ok (.ifCond .eq 18, 3) := by decide +kernel
theorem dX5_readTurned_8 : decode cX5_readTurned 8 = .ok (.aload_n 0, 1) := by decide +kernel
theorem dX5_readTurned_9 : decode cX5_readTurned 9 = .ok (.aload_n 1, 1) := by decide +kernel
theorem dX5_readTurned_10 : decode cX5_readTurned 10 = .ok (.iload_n 2, 1) := by decide +kernel
theorem dX5_readTurned_11 : decode cX5_readTurned 11 = .ok (.invokevirtual 159, 3) := by decide +kernel
theorem dX5_readTurned_14 : decode cX5_readTurned 14 = .ok (.invokestatic 165, 3) := by decide +kernel
theorem dX5_readTurned_17 : decode cX5_readTurned 17 = .ok (.invokestatic 162, 3) := by decide +kernel
theorem dX5_readTurned_20 : decode cX5_readTurned 20 = .ok (.goto 4, 3) := by decide +kernel
theorem dX5_readTurned_23 : decode cX5_readTurned 23 = .ok (.iconst (-1), 1) := by decide +kernel
theorem dX5_readTurned_24 : decode cX5_readTurned 24 = .ok (.ireturn, 1) := by decide +kernel
theorem dX5_lettersRead_0 : decode cX5_lettersRead 0 = .ok (.iconst 0, 1) := by decide +kernel
theorem dX5_lettersRead_1 : decode cX5_lettersRead 1 = .ok (.istore_n 2, 1) := by decide +kernel
theorem dX5_lettersRead_2 : decode cX5_lettersRead 2 = .ok (.iconst 0, 1) := by decide +kernel
theorem dX5_lettersRead_3 : decode cX5_lettersRead 3 = .ok (.istore_n 3, 1) := by decide +kernel
theorem dX5_lettersRead_4 : decode cX5_lettersRead 4 = .ok (.iload_n 3, 1) := by decide +kernel
theorem dX5_lettersRead_5 : decode cX5_lettersRead 5 = .ok (.aload_n 1, 1) := by decide +kernel
theorem dX5_lettersRead_6 : decode cX5_lettersRead 6 = .ok (.getfield 93, 3) := by decide +kernel
theorem dX5_lettersRead_9 : decode cX5_lettersRead 9 = .ok (.if_icmp .ge 26, 3) := by decide +kernel
theorem dX5_lettersRead_12 : decode cX5_lettersRead 12 = .ok (.aload_n 0, 1) := by decide +kernel
theorem dX5_lettersRead_13 : decode cX5_lettersRead 13 = .ok (.aload_n 1, 1) := by decide +kernel
theorem dX5_lettersRead_14 : decode cX5_lettersRead 14 = .ok (.iload_n 3, 1) := by decide +kernel
theorem dX5_lettersRead_15 : decode cX5_lettersRead 15 = .ok (.invokevirtual 168, 3) := by decide +kernel
theorem dX5_lettersRead_18 : decode cX5_lettersRead 18 = .ok (.aload_n 1, 1) := by decide +kernel
theorem dX5_lettersRead_19 : decode cX5_lettersRead 19 = .ok (.iload_n 3, 1) := by decide +kernel
theorem dX5_lettersRead_20 : decode cX5_lettersRead 20 = .ok (.invokevirtual 171, 3) := by decide +kernel
theorem dX5_lettersRead_23 : decode cX5_lettersRead 23 = .ok (.if_icmp .ne 6, 3) := by decide +kernel
theorem dX5_lettersRead_26 : decode cX5_lettersRead 26 = .ok (.iinc 2 1, 3) := by decide +kernel
theorem dX5_lettersRead_29 : decode cX5_lettersRead 29 = .ok (.iinc 3 1, 3) := by decide +kernel
theorem dX5_lettersRead_32 : decode cX5_lettersRead 32 = .ok (.goto (-28), 3) := by decide +kernel
theorem dX5_lettersRead_35 : decode cX5_lettersRead 35 = .ok (.iload_n 2, 1) := by decide +kernel
theorem dX5_lettersRead_36 : decode cX5_lettersRead 36 = .ok (.ireturn, 1) := by decide +kernel
theorem dX5_lettersReadTurned_0 : decode cX5_lettersReadTurned 0 = .ok (.iconst 0, 1) := by decide +kernel
theorem dX5_lettersReadTurned_1 : decode cX5_lettersReadTurned 1 = .ok (.istore_n 2, 1) := by decide +kernel
theorem dX5_lettersReadTurned_2 : decode cX5_lettersReadTurned 2 = .ok (.iconst 0, 1) := by decide +kernel
theorem dX5_lettersReadTurned_3 : decode cX5_lettersReadTurned 3 = .ok (.istore_n 3, 1) := by decide +kernel
theorem dX5_lettersReadTurned_4 : decode cX5_lettersReadTurned 4 = .ok (.iload_n 3, 1) := by decide +kernel
theorem dX5_lettersReadTurned_5 : decode cX5_lettersReadTurned 5 = .ok (.aload_n 1, 1) := by decide +kernel
theorem dX5_lettersReadTurned_6 : decode cX5_lettersReadTurned 6 = .ok (.getfield 93, 3) := by decide +kernel
theorem dX5_lettersReadTurned_9 : decode cX5_lettersReadTurned 9 = .ok (.if_icmp .ge 26, 3) := by decide +kernel
theorem dX5_lettersReadTurned_12 : decode cX5_lettersReadTurned 12 = .ok (.aload_n 0, 1) := by decide +kernel
theorem dX5_lettersReadTurned_13 : decode cX5_lettersReadTurned 13 = .ok (.aload_n 1, 1) := by decide +kernel
theorem dX5_lettersReadTurned_14 : decode cX5_lettersReadTurned 14 = .ok (.iload_n 3, 1) := by decide +kernel
theorem dX5_lettersReadTurned_15 : decode cX5_lettersReadTurned 15 = .ok (.invokevirtual 174, 3) := by decide +kernel
theorem dX5_lettersReadTurned_18 : decode cX5_lettersReadTurned 18 = .ok (.aload_n 1, 1) := by decide +kernel
theorem dX5_lettersReadTurned_19 : decode cX5_lettersReadTurned 19 = .ok (.iload_n 3, 1) := by decide +kernel
theorem dX5_lettersReadTurned_20 : decode cX5_lettersReadTurned 20 = .ok (.invokevirtual 171, 3) := by decide +kernel
theorem dX5_lettersReadTurned_23 : decode cX5_lettersReadTurned 23 = .ok (.if_icmp .ne 6, 3) := by decide +kernel
theorem dX5_lettersReadTurned_26 : decode cX5_lettersReadTurned 26 = .ok (.iinc 2 1, 3) := by decide +kernel
theorem dX5_lettersReadTurned_29 : decode cX5_lettersReadTurned 29 = .ok (.iinc 3 1, 3) := by decide +kernel
theorem dX5_lettersReadTurned_32 : decode cX5_lettersReadTurned 32 = .ok (.goto (-28), 3) := by decide +kernel
theorem dX5_lettersReadTurned_35 : decode cX5_lettersReadTurned 35 = .ok (.iload_n 2, 1) := by decide +kernel
theorem dX5_lettersReadTurned_36 : decode cX5_lettersReadTurned 36 = .ok (.ireturn, 1) := by decide +kernel
theorem dX5_ghostsShown_0 : decode cX5_ghostsShown 0 = .ok (.iconst 0, 1) := by decide +kernel
theorem dX5_ghostsShown_1 : decode cX5_ghostsShown 1 = .ok (.istore_n 2, 1) := by decide +kernel
theorem dX5_ghostsShown_2 : decode cX5_ghostsShown 2 = .ok (.iconst 0, 1) := by decide +kernel
theorem dX5_ghostsShown_3 : decode cX5_ghostsShown 3 = .ok (.istore_n 3, 1) := by decide +kernel
theorem dX5_ghostsShown_4 : decode cX5_ghostsShown 4 = .ok (.iload_n 3, 1) := by decide +kernel
theorem dX5_ghostsShown_5 : decode cX5_ghostsShown 5 = .ok (.aload_n 1, 1) := by decide +kernel
theorem dX5_ghostsShown_6 : decode cX5_ghostsShown 6 = .ok (.getfield 93, 3) := by decide +kernel
theorem dX5_ghostsShown_9 : decode cX5_ghostsShown 9 = .ok (.if_icmp .ge 34, 3) := by decide +kernel
theorem dX5_ghostsShown_12 : decode cX5_ghostsShown 12 = .ok (.aload_n 0, 1) := by decide +kernel
theorem dX5_ghostsShown_13 : decode cX5_ghostsShown 13 = .ok (.aload_n 1, 1) := by decide +kernel
theorem dX5_ghostsShown_14 : decode cX5_ghostsShown 14 = .ok (.invokevirtual 155, 3) := by decide +kernel
theorem dX5_ghostsShown_17 : decode cX5_ghostsShown 17 = .ok (.ifCond .eq 26, 3) := by decide +kernel
theorem dX5_ghostsShown_20 : decode cX5_ghostsShown 20 = .ok (.aload_n 0, 1) := by decide +kernel
theorem dX5_ghostsShown_21 : decode cX5_ghostsShown 21 = .ok (.aload_n 1, 1) := by decide +kernel
theorem dX5_ghostsShown_22 : decode cX5_ghostsShown 22 = .ok (.iload_n 3, 1) := by decide +kernel
theorem dX5_ghostsShown_23 : decode cX5_ghostsShown 23 = .ok (.invokevirtual 177, 3) := by decide +kernel
theorem dX5_ghostsShown_26 : decode cX5_ghostsShown 26 = .ok (.aload_n 1, 1) := by decide +kernel
theorem dX5_ghostsShown_27 : decode cX5_ghostsShown 27 = .ok (.iload_n 3, 1) := by decide +kernel
theorem dX5_ghostsShown_28 : decode cX5_ghostsShown 28 = .ok (.invokevirtual 114, 3) := by decide +kernel
theorem dX5_ghostsShown_31 : decode cX5_ghostsShown 31 = .ok (.if_icmp .ne 6, 3) := by decide +kernel
theorem dX5_ghostsShown_34 : decode cX5_ghostsShown 34 = .ok (.iinc 2 1, 3) := by decide +kernel
theorem dX5_ghostsShown_37 : decode cX5_ghostsShown 37 = .ok (.iinc 3 1, 3) := by decide +kernel
theorem dX5_ghostsShown_40 : decode cX5_ghostsShown 40 = .ok (.goto (-36), 3) := by decide +kernel
theorem dX5_ghostsShown_43 : decode cX5_ghostsShown 43 = .ok (.iload_n 2, 1) := by decide +kernel
theorem dX5_ghostsShown_44 : decode cX5_ghostsShown 44 = .ok (.ireturn, 1) := by decide +kernel
theorem dX5_mistakesInBox_0 : decode cX5_mistakesInBox 0 = .ok (.aload_n 1, 1) := by decide +kernel
theorem dX5_mistakesInBox_1 : decode cX5_mistakesInBox 1 = .ok (.aload_n 0, 1) := by decide +kernel
theorem dX5_mistakesInBox_2 : decode cX5_mistakesInBox 2 = .ok (.getfield 40, 3) := by decide +kernel
theorem dX5_mistakesInBox_5 : decode cX5_mistakesInBox 5 = .ok (.invokevirtual 180, 3) := by decide +kernel
theorem dX5_mistakesInBox_8 : decode cX5_mistakesInBox 8 = .ok (.istore_n 2, 1) := by decide +kernel
theorem dX5_mistakesInBox_9 : decode cX5_mistakesInBox 9 = .ok (.iconst 0, 1) := by decide +kernel
theorem dX5_mistakesInBox_10 : decode cX5_mistakesInBox 10 = .ok (.istore_n 3, 1) := by decide +kernel
theorem dX5_mistakesInBox_11 : decode cX5_mistakesInBox 11 = .ok (.aload_n 1, 1) := by decide +kernel
theorem dX5_mistakesInBox_12 : decode cX5_mistakesInBox 12 = .ok (.getfield 103, 3) := by decide +kernel
theorem dX5_mistakesInBox_15 : decode cX5_mistakesInBox 15 = .ok (.istore 4, 2) := by decide +kernel
theorem dX5_mistakesInBox_17 : decode cX5_mistakesInBox 17 = .ok (.iload 4, 2) := by decide +kernel
theorem dX5_mistakesInBox_19 : decode cX5_mistakesInBox 19 = .ok (.aload_n 1, 1) := by decide +kernel
theorem dX5_mistakesInBox_20 : decode cX5_mistakesInBox 20 = .ok (.getfield 103, 3) := by decide +kernel
theorem dX5_mistakesInBox_23 : decode cX5_mistakesInBox 23 = .ok (.iconst 5, 1) := by decide +kernel
theorem dX5_mistakesInBox_24 : decode cX5_mistakesInBox 24 = .ok (.iadd, 1) := by decide +kernel
theorem dX5_mistakesInBox_25 : decode cX5_mistakesInBox 25 = .ok (.if_icmp .ge 43, 3) := by decide +kernel
theorem dX5_mistakesInBox_28 : decode cX5_mistakesInBox 28 = .ok (.iload_n 2, 1) := by decide +kernel
theorem dX5_mistakesInBox_29 : decode cX5_mistakesInBox 29 = .ok (.istore 5, 2) := by decide +kernel
theorem dX5_mistakesInBox_31 : decode cX5_mistakesInBox 31 = .ok (.iload 5, 2) := by decide +kernel
theorem dX5_mistakesInBox_33 : decode cX5_mistakesInBox 33 = .ok (.iload_n 2, 1) := by decide +kernel
theorem dX5_mistakesInBox_34 : decode cX5_mistakesInBox 34 = .ok (.aload_n 1, 1) := by decide +kernel
theorem dX5_mistakesInBox_35 : decode cX5_mistakesInBox 35 = .ok (.invokevirtual 99, 3) := by decide +kernel
theorem dX5_mistakesInBox_38 : decode cX5_mistakesInBox 38 = .ok (.iadd, 1) := by decide +kernel
theorem dX5_mistakesInBox_39 : decode cX5_mistakesInBox 39 = .ok (.if_icmp .ge 23, 3) := by decide +kernel
theorem dX5_mistakesInBox_42 : decode cX5_mistakesInBox 42 = .ok (.aload_n 0, 1) := by decide +kernel
theorem dX5_mistakesInBox_43 : decode cX5_mistakesInBox 43 = .ok (.iload 5, 2) := by decide +kernel
theorem dX5_mistakesInBox_45 : decode cX5_mistakesInBox 45 = .ok (.iload 4, 2) := by decide +kernel
theorem dX5_mistakesInBox_47 : decode cX5_mistakesInBox 47 = .ok (.invokevirtual 183, 3) := by decide +kernel
theorem dX5_mistakesInBox_50 : decode cX5_mistakesInBox 50 = .ok (.ifCond .eq 6, 3) := by decide +kernel
theorem dX5_mistakesInBox_53 : decode cX5_mistakesInBox 53 = .ok (.iinc 3 1, 3) := by decide +kernel
theorem dX5_mistakesInBox_56 : decode cX5_mistakesInBox 56 = .ok (.iinc 5 1, 3) := by decide +kernel
theorem dX5_mistakesInBox_59 : decode cX5_mistakesInBox 59 = .ok (.goto (-28), 3) := by decide +kernel
theorem dX5_mistakesInBox_62 : decode cX5_mistakesInBox 62 = .ok (.iinc 4 1, 3) := by decide +kernel
theorem dX5_mistakesInBox_65 : decode cX5_mistakesInBox 65 = .ok (.goto (-48), 3) := by decide +kernel
theorem dX5_mistakesInBox_68 : decode cX5_mistakesInBox 68 = .ok (.iload_n 3, 1) := by decide +kernel
theorem dX5_mistakesInBox_69 : decode cX5_mistakesInBox 69 = .ok (.ireturn, 1) := by decide +kernel
theorem dX5_isEmpty_0 : decode cX5_isEmpty 0 = .ok (.aload_n 0, 1) := by decide +kernel
theorem dX5_isEmpty_1 : decode cX5_isEmpty 1 = .ok (.getfield 12, 3) := by decide +kernel
theorem dX5_isEmpty_4 : decode cX5_isEmpty 4 = .ok (.iload_n 1, 1) := by decide +kernel
theorem dX5_isEmpty_5 : decode cX5_isEmpty 5 = .ok (.iload_n 2, 1) := by decide +kernel
theorem dX5_isEmpty_6 : decode cX5_isEmpty 6 = .ok (.invokevirtual 139, 3) := by decide +kernel
theorem dX5_isEmpty_9 : decode cX5_isEmpty 9 = .ok (.iconst (-1), 1) := by decide +kernel
theorem dX5_isEmpty_10 : decode cX5_isEmpty 10 = .ok (.if_icmp .ne 7, 3) := by decide +kernel
theorem dX5_isEmpty_13 : decode cX5_isEmpty 13 = .ok (.iconst 1, 1) := by decide +kernel
theorem dX5_isEmpty_14 : decode cX5_isEmpty 14 = .ok (.goto 4, 3) := by decide +kernel
theorem dX5_isEmpty_17 : decode cX5_isEmpty 17 = .ok (.iconst 0, 1) := by decide +kernel
theorem dX5_isEmpty_18 : decode cX5_isEmpty 18 = .ok (.ireturn, 1) := by decide +kernel
theorem dX5_filledCells_0 : decode cX5_filledCells 0 = .ok (.iconst 0, 1) := by decide +kernel
theorem dX5_filledCells_1 : decode cX5_filledCells 1 = .ok (.istore_n 1, 1) := by decide +kernel
theorem dX5_filledCells_2 : decode cX5_filledCells 2 = .ok (.iconst 0, 1) := by decide +kernel
theorem dX5_filledCells_3 : decode cX5_filledCells 3 = .ok (.istore_n 2, 1) := by decide +kernel
theorem dX5_filledCells_4 : decode cX5_filledCells 4 = .ok (.iload_n 2, 1) := by decide +kernel
theorem dX5_filledCells_5 : decode cX5_filledCells 5 = .ok (.aload_n 0, 1) := by decide +kernel
theorem dX5_filledCells_6 : decode cX5_filledCells 6 = .ok (.getfield 40, 3) := by decide +kernel
theorem dX5_filledCells_9 : decode cX5_filledCells 9 = .ok (.if_icmp .ge 31, 3) := by decide +kernel
theorem dX5_filledCells_12 : decode cX5_filledCells 12 = .ok (.aload_n 0, 1) := by decide +kernel
theorem dX5_filledCells_13 : decode cX5_filledCells 13 = .ok (.invokevirtual 187, 3) := by decide +kernel
theorem dX5_filledCells_16 : decode cX5_filledCells 16 = .ok (.ifCond .eq 18, 3) := by decide +kernel
theorem dX5_filledCells_19 : decode cX5_filledCells 19 = .ok (.aload_n 0, 1) := by decide +kernel
theorem dX5_filledCells_20 : decode cX5_filledCells 20 = .ok (.iload_n 2, 1) := by decide +kernel
theorem dX5_filledCells_21 : decode cX5_filledCells 21 = .ok (.aload_n 0, 1) := by decide +kernel
theorem dX5_filledCells_22 : decode cX5_filledCells 22 = .ok (.getfield 47, 3) := by decide +kernel
theorem dX5_filledCells_25 : decode cX5_filledCells 25 = .ok (.invokevirtual 191, 3) := by decide +kernel
theorem dX5_filledCells_28 : decode cX5_filledCells 28 = .ok (.ifCond .ne 6, 3) := by decide +kernel
theorem dX5_filledCells_31 : decode cX5_filledCells 31 = .ok (.iinc 1 1, 3) := by decide +kernel
theorem dX5_filledCells_34 : decode cX5_filledCells 34 = .ok (.iinc 2 1, 3) := by decide +kernel
theorem dX5_filledCells_37 : decode cX5_filledCells 37 = .ok (.goto (-33), 3) := by decide +kernel
theorem dX5_filledCells_40 : decode cX5_filledCells 40 = .ok (.iload_n 1, 1) := by decide +kernel
theorem dX5_filledCells_41 : decode cX5_filledCells 41 = .ok (.ireturn, 1) := by decide +kernel
theorem dX5_wovenCells_0 : decode cX5_wovenCells 0 = .ok (.iconst 0, 1) := by decide +kernel
theorem dX5_wovenCells_1 : decode cX5_wovenCells 1 = .ok (.istore 4, 2) := by decide +kernel
theorem dX5_wovenCells_3 : decode cX5_wovenCells 3 = .ok (.iload_n 2, 1) := by decide +kernel
theorem dX5_wovenCells_4 : decode cX5_wovenCells 4 = .ok (.istore 5, 2) := by decide +kernel
theorem dX5_wovenCells_6 : decode cX5_wovenCells 6 = .ok (.iload 5, 2) := by decide +kernel
theorem dX5_wovenCells_8 : decode cX5_wovenCells 8 = .ok (.iload_n 3, 1) := by decide +kernel
theorem dX5_wovenCells_9 : decode cX5_wovenCells 9 = .ok (.if_icmp .ge 45, 3) := by decide +kernel
theorem dX5_wovenCells_12 : decode cX5_wovenCells 12 = .ok (.iconst 0, 1) := by decide +kernel
theorem dX5_wovenCells_13 : decode cX5_wovenCells 13 = .ok (.istore 6, 2) := by decide +kernel
theorem dX5_wovenCells_15 : decode cX5_wovenCells 15 = .ok (.iload 6, 2) := by decide +kernel
theorem dX5_wovenCells_17 : decode cX5_wovenCells 17 = .ok (.aload_n 0, 1) := by decide +kernel
theorem dX5_wovenCells_18 : decode cX5_wovenCells 18 = .ok (.getfield 40, 3) := by decide +kernel
theorem dX5_wovenCells_21 : decode cX5_wovenCells 21 = .ok (.if_icmp .ge 27, 3) := by decide +kernel
theorem dX5_wovenCells_24 : decode cX5_wovenCells 24 = .ok (.aload_n 0, 1) := by decide +kernel
theorem dX5_wovenCells_25 : decode cX5_wovenCells 25 = .ok (.getfield 12, 3) := by decide +kernel
theorem dX5_wovenCells_28 : decode cX5_wovenCells 28 = .ok (.iload 6, 2) := by decide +kernel
theorem dX5_wovenCells_30 : decode cX5_wovenCells 30 = .ok (.iload 5, 2) := by decide +kernel
theorem dX5_wovenCells_32 : decode cX5_wovenCells 32 = .ok (.invokevirtual 139, 3) := by decide +kernel
theorem dX5_wovenCells_35 : decode cX5_wovenCells 35 = .ok (.iload_n 1, 1) := by decide +kernel
theorem dX5_wovenCells_36 : decode cX5_wovenCells 36 = .ok (.if_icmp .ne 6, 3) := by decide +kernel
theorem dX5_wovenCells_39 : decode cX5_wovenCells 39 = .ok (.iinc 4 1, 3) := by decide +kernel
theorem dX5_wovenCells_42 : decode cX5_wovenCells 42 = .ok (.iinc 6 1, 3) := by decide +kernel
theorem dX5_wovenCells_45 : decode cX5_wovenCells 45 = .ok (.goto (-30), 3) := by decide +kernel
theorem dX5_wovenCells_48 : decode cX5_wovenCells 48 = .ok (.iinc 5 1, 3) := by decide +kernel
theorem dX5_wovenCells_51 : decode cX5_wovenCells 51 = .ok (.goto (-45), 3) := by decide +kernel
theorem dX5_wovenCells_54 : decode cX5_wovenCells 54 = .ok (.iload 4, 2) := by decide +kernel
theorem dX5_wovenCells_56 : decode cX5_wovenCells 56 = .ok (.ireturn, 1) := by decide +kernel
theorem dX5_plannedCells_0 : decode cX5_plannedCells 0 = .ok (.iconst 0, 1) := by decide +kernel
theorem dX5_plannedCells_1 : decode cX5_plannedCells 1 = .ok (.istore_n 2, 1) := by decide +kernel
theorem dX5_plannedCells_2 : decode cX5_plannedCells 2 = .ok (.iconst 0, 1) := by decide +kernel
theorem dX5_plannedCells_3 : decode cX5_plannedCells 3 = .ok (.istore_n 3, 1) := by decide +kernel
theorem dX5_plannedCells_4 : decode cX5_plannedCells 4 = .ok (.iload_n 3, 1) := by decide +kernel
theorem dX5_plannedCells_5 : decode cX5_plannedCells 5 = .ok (.aload_n 0, 1) := by decide +kernel
theorem dX5_plannedCells_6 : decode cX5_plannedCells 6 = .ok (.getfield 44, 3) := by decide +kernel
theorem dX5_plannedCells_9 : decode cX5_plannedCells 9 = .ok (.if_icmp .ge 44, 3) := by decide +kernel
theorem dX5_plannedCells_12 : decode cX5_plannedCells 12 = .ok (.iconst 0, 1) := by decide +kernel
theorem dX5_plannedCells_13 : decode cX5_plannedCells 13 = .ok (.istore 4, 2) := by decide +kernel
theorem dX5_plannedCells_15 : decode cX5_plannedCells 15 = .ok (.iload 4, 2) := by decide +kernel
theorem dX5_plannedCells_17 : decode cX5_plannedCells 17 = .ok (.aload_n 0, 1) := by decide +kernel
theorem dX5_plannedCells_18 : decode cX5_plannedCells 18 = .ok (.getfield 40, 3) := by decide +kernel
theorem dX5_plannedCells_21 : decode cX5_plannedCells 21 = .ok (.if_icmp .ge 26, 3) := by decide +kernel
theorem dX5_plannedCells_24 : decode cX5_plannedCells 24 = .ok (.aload_n 0, 1) := by decide +kernel
theorem dX5_plannedCells_25 : decode cX5_plannedCells 25 = .ok (.getfield 18, 3) := by decide +kernel
theorem dX5_plannedCells_28 : decode cX5_plannedCells 28 = .ok (.iload 4, 2) := by decide +kernel
theorem dX5_plannedCells_30 : decode cX5_plannedCells 30 = .ok (.iload_n 3, 1) := by decide +kernel
theorem dX5_plannedCells_31 : decode cX5_plannedCells 31 = .ok (.invokevirtual 139, 3) := by decide +kernel
theorem dX5_plannedCells_34 : decode cX5_plannedCells 34 = .ok (.iload_n 1, 1) := by decide +kernel
theorem dX5_plannedCells_35 : decode cX5_plannedCells 35 = .ok (.if_icmp .ne 6, 3) := by decide +kernel
theorem dX5_plannedCells_38 : decode cX5_plannedCells 38 = .ok (.iinc 2 1, 3) := by decide +kernel
theorem dX5_plannedCells_41 : decode cX5_plannedCells 41 = .ok (.iinc 4 1, 3) := by decide +kernel
theorem dX5_plannedCells_44 : decode cX5_plannedCells 44 = .ok (.goto (-29), 3) := by decide +kernel
theorem dX5_plannedCells_47 : decode cX5_plannedCells 47 = .ok (.iinc 3 1, 3) := by decide +kernel
theorem dX5_plannedCells_50 : decode cX5_plannedCells 50 = .ok (.goto (-46), 3) := by decide +kernel
theorem dX5_plannedCells_53 : decode cX5_plannedCells 53 = .ok (.iload_n 2, 1) := by decide +kernel
theorem dX5_plannedCells_54 : decode cX5_plannedCells 54 = .ok (.ireturn, 1) := by decide +kernel
theorem dX5_cellsToWeave_0 : decode cX5_cellsToWeave 0 = .ok (.iconst 0, 1) := by decide +kernel
theorem dX5_cellsToWeave_1 : decode cX5_cellsToWeave 1 = .ok (.istore_n 2, 1) := by decide +kernel
theorem dX5_cellsToWeave_2 : decode cX5_cellsToWeave 2 = .ok (.aload_n 0, 1) := by decide +kernel
theorem dX5_cellsToWeave_3 : decode cX5_cellsToWeave 3 = .ok (.getfield 47, 3) := by decide +kernel
theorem dX5_cellsToWeave_6 : decode cX5_cellsToWeave 6 = .ok (.istore_n 3, 1) := by decide +kernel
theorem dX5_cellsToWeave_7 : decode cX5_cellsToWeave 7 = .ok (.iload_n 3, 1) := by decide +kernel
theorem dX5_cellsToWeave_8 : decode cX5_cellsToWeave 8 = .ok (.aload_n 0, 1) := by decide +kernel
theorem dX5_cellsToWeave_9 : decode cX5_cellsToWeave 9 = .ok (.getfield 44, 3) := by decide +kernel
theorem dX5_cellsToWeave_12 : decode cX5_cellsToWeave 12 = .ok (.if_icmp .ge 54, 3) := by decide +kernel
theorem dX5_cellsToWeave_15 : decode cX5_cellsToWeave 15 = .ok (.iconst 0, 1) := by decide +kernel
theorem dX5_cellsToWeave_16 : decode cX5_cellsToWeave 16 = .ok (.istore 4, 2) := by decide +kernel
theorem dX5_cellsToWeave_18 : decode cX5_cellsToWeave 18 = .ok (.iload 4, 2) := by decide +kernel
theorem dX5_cellsToWeave_20 : decode cX5_cellsToWeave 20 = .ok (.aload_n 0, 1) := by decide +kernel
theorem dX5_cellsToWeave_21 : decode cX5_cellsToWeave 21 = .ok (.getfield 40, 3) := by decide +kernel
theorem dX5_cellsToWeave_24 : decode cX5_cellsToWeave 24 = .ok (.if_icmp .ge 36, 3) := by decide +kernel
theorem dX5_cellsToWeave_27 : decode cX5_cellsToWeave 27 = .ok (.aload_n 0, 1) := by decide +kernel
theorem dX5_cellsToWeave_28 : decode cX5_cellsToWeave 28 = .ok (.iload 4, 2) := by decide +kernel
theorem dX5_cellsToWeave_30 : decode cX5_cellsToWeave 30 = .ok (.iload_n 3, 1) := by decide +kernel
theorem dX5_cellsToWeave_31 : decode cX5_cellsToWeave 31 = .ok (.invokevirtual 191, 3) := by decide +kernel
theorem dX5_cellsToWeave_34 : decode cX5_cellsToWeave 34 = .ok (.ifCond .eq 20, 3) := by decide +kernel
theorem dX5_cellsToWeave_37 : decode cX5_cellsToWeave 37 = .ok (.aload_n 0, 1) := by decide +kernel
theorem dX5_cellsToWeave_38 : decode cX5_cellsToWeave 38 = .ok (.getfield 18, 3) := by decide +kernel
theorem dX5_cellsToWeave_41 : decode cX5_cellsToWeave 41 = .ok (.iload 4, 2) := by decide +kernel
theorem dX5_cellsToWeave_43 : decode cX5_cellsToWeave 43 = .ok (.iload_n 3, 1) := by decide +kernel
theorem dX5_cellsToWeave_44 : decode cX5_cellsToWeave 44 = .ok (.invokevirtual 139, 3) := by decide +kernel
theorem dX5_cellsToWeave_47 : decode cX5_cellsToWeave 47 = .ok (.iload_n 1, 1) := by decide +kernel
theorem dX5_cellsToWeave_48 : decode cX5_cellsToWeave 48 = .ok (.if_icmp .ne 6, 3) := by decide +kernel
theorem dX5_cellsToWeave_51 : decode cX5_cellsToWeave 51 = .ok (.iinc 2 1, 3) := by decide +kernel
theorem dX5_cellsToWeave_54 : decode cX5_cellsToWeave 54 = .ok (.iinc 4 1, 3) := by decide +kernel
theorem dX5_cellsToWeave_57 : decode cX5_cellsToWeave 57 = .ok (.goto (-39), 3) := by decide +kernel
theorem dX5_cellsToWeave_60 : decode cX5_cellsToWeave 60 = .ok (.iinc 3 1, 3) := by decide +kernel
theorem dX5_cellsToWeave_63 : decode cX5_cellsToWeave 63 = .ok (.goto (-56), 3) := by decide +kernel
theorem dX5_cellsToWeave_66 : decode cX5_cellsToWeave 66 = .ok (.iload_n 2, 1) := by decide +kernel
theorem dX5_cellsToWeave_67 : decode cX5_cellsToWeave 67 = .ok (.ireturn, 1) := by decide +kernel
theorem dX5_planned_0 : decode cX5_planned 0 = .ok (.aload_n 0, 1) := by decide +kernel
theorem dX5_planned_1 : decode cX5_planned 1 = .ok (.getfield 18, 3) := by decide +kernel
theorem dX5_planned_4 : decode cX5_planned 4 = .ok (.iload_n 3, 1) := by decide +kernel
theorem dX5_planned_5 : decode cX5_planned 5 = .ok (.ifCond .eq 11, 3) := by decide +kernel
theorem dX5_planned_8 : decode cX5_planned 8 = .ok (.aload_n 0, 1) := by decide +kernel
theorem dX5_planned_9 : decode cX5_planned 9 = .ok (.iload_n 1, 1) := by decide +kernel
theorem dX5_planned_10 : decode cX5_planned 10 = .ok (.invokevirtual 136, 3) := by decide +kernel
theorem dX5_planned_13 : decode cX5_planned 13 = .ok (.goto 4, 3) := by decide +kernel
theorem dX5_planned_16 : decode cX5_planned 16 = .ok (.iload_n 1, 1) := by decide +kernel
theorem dX5_planned_17 : decode cX5_planned 17 = .ok (.iload_n 2, 1) := by decide +kernel
theorem dX5_planned_18 : decode cX5_planned 18 = .ok (.invokevirtual 139, 3) := by decide +kernel
theorem dX5_planned_21 : decode cX5_planned 21 = .ok (.ireturn, 1) := by decide +kernel
theorem dX5_addNeeds_0 : decode cX5_addNeeds 0 = .ok (.iconst 0, 1) := by decide +kernel
theorem dX5_addNeeds_1 : decode cX5_addNeeds 1 = .ok (.istore 4, 2) := by decide +kernel
theorem dX5_addNeeds_3 : decode cX5_addNeeds 3 = .ok (.iload 4, 2) := by decide +kernel
theorem dX5_addNeeds_5 : decode cX5_addNeeds 5 = .ok (.aload_n 0, 1) := by decide +kernel
theorem dX5_addNeeds_6 : decode cX5_addNeeds 6 = .ok (.getfield 40, 3) := by decide +kernel
theorem dX5_addNeeds_9 : decode cX5_addNeeds 9 = .ok (.if_icmp .ge 43, 3) := by decide +kernel
theorem dX5_addNeeds_12 : decode cX5_addNeeds 12 = .ok (.aload_n 0, 1) := by decide +kernel
theorem dX5_addNeeds_13 : decode cX5_addNeeds 13 = .ok (.iload 4, 2) := by decide +kernel
theorem dX5_addNeeds_15 : decode cX5_addNeeds 15 = .ok (.iload_n 2, 1) := by decide +kernel
theorem dX5_addNeeds_16 : decode cX5_addNeeds 16 = .ok (.invokevirtual 191, 3) := by decide +kernel
theorem dX5_addNeeds_19 : decode cX5_addNeeds 19 = .ok (.ifCond .eq 27, 3) := by decide +kernel
theorem dX5_addNeeds_22 : decode cX5_addNeeds 22 = .ok (.aload_n 0, 1) := by decide +kernel
theorem dX5_addNeeds_23 : decode cX5_addNeeds 23 = .ok (.iload 4, 2) := by decide +kernel
theorem dX5_addNeeds_25 : decode cX5_addNeeds 25 = .ok (.iload_n 2, 1) := by decide +kernel
theorem dX5_addNeeds_26 : decode cX5_addNeeds 26 = .ok (.iload_n 3, 1) := by decide +kernel
theorem dX5_addNeeds_27 : decode cX5_addNeeds 27 = .ok (.invokevirtual 194, 3) := by decide +kernel
theorem dX5_addNeeds_30 : decode cX5_addNeeds 30 = .ok (.istore 5, 2) := by decide +kernel
theorem dX5_addNeeds_32 : decode cX5_addNeeds 32 = .ok (.aload_n 1, 1) := by decide +kernel
theorem dX5_addNeeds_33 : decode cX5_addNeeds 33 = .ok (.iload 5, 2) := by decide +kernel
theorem dX5_addNeeds_35 : decode cX5_addNeeds 35 = .ok (.aload_n 1, 1) := by decide +kernel
theorem dX5_addNeeds_36 : decode cX5_addNeeds 36 = .ok (.iload 5, 2) := by decide +kernel
theorem dX5_addNeeds_38 : decode cX5_addNeeds 38 = .ok (.invokestatic 89, 3) := by decide +kernel
theorem dX5_addNeeds_41 : decode cX5_addNeeds 41 = .ok (.iconst 1, 1) := by decide +kernel
theorem dX5_addNeeds_42 : decode cX5_addNeeds 42 = .ok (.iadd, 1) := by decide +kernel
theorem dX5_addNeeds_43 : decode cX5_addNeeds 43 = .ok (.invokestatic 198, 3) := by decide +kernel
theorem dX5_addNeeds_46 : decode cX5_addNeeds 46 = .ok (.iinc 4 1, 3) := by decide +kernel
theorem dX5_addNeeds_49 : decode cX5_addNeeds 49 = .ok (.goto (-46), 3) := by decide +kernel
theorem dX5_addNeeds_52 : decode cX5_addNeeds 52 = .ok (.return_, 1) := by decide +kernel
theorem dX5_suffices_0 : decode cX5_suffices 0 = .ok (.iconst 0, 1) := by decide +kernel
theorem dX5_suffices_1 : decode cX5_suffices 1 = .ok (.istore_n 2, 1) := by decide +kernel
theorem dX5_suffices_2 : decode cX5_suffices 2 = .ok (.iload_n 2, 1) := by decide +kernel
theorem dX5_suffices_3 : decode cX5_suffices 3 = .ok (.bipush 7, 2) := by decide +kernel
theorem dX5_suffices_5 : decode cX5_suffices 5 = .ok (.if_icmp .ge 24, 3) := by decide +kernel
theorem dX5_suffices_8 : decode cX5_suffices 8 = .ok (.aload_n 0, 1) := by decide +kernel
theorem dX5_suffices_9 : decode cX5_suffices 9 = .ok (.iload_n 2, 1) := by decide +kernel
theorem dX5_suffices_10 : decode cX5_suffices 10 = .ok (.invokevirtual 202, 3) := by decide +kernel
theorem dX5_suffices_13 : decode cX5_suffices 13 = .ok (.aload_n 1, 1) := by decide +kernel
theorem dX5_suffices_14 : decode cX5_suffices 14 = .ok (.iload_n 2, 1) := by decide +kernel
theorem dX5_suffices_15 : decode cX5_suffices 15 = .ok (.invokestatic 89, 3) := by decide +kernel
theorem dX5_suffices_18 : decode cX5_suffices 18 = .ok (.if_icmp .ge 5, 3) := by decide +kernel
theorem dX5_suffices_21 : decode cX5_suffices 21 = .ok (.iconst 0, 1) := by decide +kernel
theorem dX5_suffices_22 : decode cX5_suffices 22 = .ok (.ireturn, 1) := by decide +kernel
theorem dX5_suffices_23 : decode cX5_suffices 23 = .ok (.iinc 2 1, 3) := by decide +kernel
theorem dX5_suffices_26 : decode cX5_suffices 26 = .ok (.goto (-24), 3) := by decide +kernel
theorem dX5_suffices_29 : decode cX5_suffices 29 = .ok (.iconst 1, 1) := by decide +kernel
theorem dX5_suffices_30 : decode cX5_suffices 30 = .ok (.ireturn, 1) := by decide +kernel
theorem dX5_giveCell_0 : decode cX5_giveCell 0 = .ok (.aload_n 0, 1) := by decide +kernel
theorem dX5_giveCell_1 : decode cX5_giveCell 1 = .ok (.getfield 12, 3) := by decide +kernel
theorem dX5_giveCell_4 : decode cX5_giveCell 4 = .ok (.iload_n 1, 1) := by decide +kernel
theorem dX5_giveCell_5 : decode cX5_giveCell 5 = .ok (.iload_n 2, 1) := by decide +kernel
theorem dX5_giveCell_6 : decode cX5_giveCell 6 = .ok (.iload_n 3, 1) := by decide +kernel
theorem dX5_giveCell_7 : decode cX5_giveCell 7 = .ok (.invokevirtual 129, 3) := by decide +kernel
theorem dX5_giveCell_10 : decode cX5_giveCell 10 = .ok (.aload_n 0, 1) := by decide +kernel
theorem dX5_giveCell_11 : decode cX5_giveCell 11 = .ok (.getfield 21, 3) := by decide +kernel
theorem dX5_giveCell_14 : decode cX5_giveCell 14 = .ok (.iload_n 3, 1) := by decide +kernel
theorem dX5_giveCell_15 : decode cX5_giveCell 15 = .ok (.aload_n 0, 1) := by decide +kernel
theorem dX5_giveCell_16 : decode cX5_giveCell 16 = .ok (.iload_n 3, 1) := by decide +kernel
theorem dX5_giveCell_17 : decode cX5_giveCell 17 = .ok (.invokevirtual 202, 3) := by decide +kernel
theorem dX5_giveCell_20 : decode cX5_giveCell 20 = .ok (.iconst 1, 1) := by decide +kernel
theorem dX5_giveCell_21 : decode cX5_giveCell 21 = .ok (.isub, 1) := by decide +kernel
theorem dX5_giveCell_22 : decode cX5_giveCell 22 = .ok (.invokestatic 198, 3) := by decide +kernel
theorem dX5_giveCell_25 : decode cX5_giveCell 25 = .ok (.return_, 1) := by decide +kernel
theorem dX5_fillRow_0 : decode cX5_fillRow 0 = .ok (.iconst 0, 1) := by decide +kernel
theorem dX5_fillRow_1 : decode cX5_fillRow 1 = .ok (.istore_n 3, 1) := by decide +kernel
theorem dX5_fillRow_2 : decode cX5_fillRow 2 = .ok (.iload_n 3, 1) := by decide +kernel
theorem dX5_fillRow_3 : decode cX5_fillRow 3 = .ok (.aload_n 0, 1) := by decide +kernel
theorem dX5_fillRow_4 : decode cX5_fillRow 4 = .ok (.getfield 40, 3) := by decide +kernel
theorem dX5_fillRow_7 : decode cX5_fillRow 7 = .ok (.if_icmp .ge 31, 3) := by decide +kernel
theorem dX5_fillRow_10 : decode cX5_fillRow 10 = .ok (.aload_n 0, 1) := by decide +kernel
theorem dX5_fillRow_11 : decode cX5_fillRow 11 = .ok (.iload_n 3, 1) := by decide +kernel
theorem dX5_fillRow_12 : decode cX5_fillRow 12 = .ok (.iload_n 1, 1) := by decide +kernel
theorem dX5_fillRow_13 : decode cX5_fillRow 13 = .ok (.invokevirtual 191, 3) := by decide +kernel
theorem dX5_fillRow_16 : decode cX5_fillRow 16 = .ok (.ifCond .eq 16, 3) := by decide +kernel
theorem dX5_fillRow_19 : decode cX5_fillRow 19 = .ok (.aload_n 0, 1) := by decide +kernel
theorem dX5_fillRow_20 : decode cX5_fillRow 20 = .ok (.iload_n 3, 1) := by decide +kernel
theorem dX5_fillRow_21 : decode cX5_fillRow 21 = .ok (.iload_n 1, 1) := by decide +kernel
theorem dX5_fillRow_22 : decode cX5_fillRow 22 = .ok (.aload_n 0, 1) := by decide +kernel
theorem dX5_fillRow_23 : decode cX5_fillRow 23 = .ok (.iload_n 3, 1) := by decide +kernel
theorem dX5_fillRow_24 : decode cX5_fillRow 24 = .ok (.iload_n 1, 1) := by decide +kernel
theorem dX5_fillRow_25 : decode cX5_fillRow 25 = .ok (.iload_n 2, 1) := by decide +kernel
theorem dX5_fillRow_26 : decode cX5_fillRow 26 = .ok (.invokevirtual 194, 3) := by decide +kernel
theorem dX5_fillRow_29 : decode cX5_fillRow 29 = .ok (.invokevirtual 205, 3) := by decide +kernel
theorem dX5_fillRow_32 : decode cX5_fillRow 32 = .ok (.iinc 3 1, 3) := by decide +kernel
theorem dX5_fillRow_35 : decode cX5_fillRow 35 = .ok (.goto (-33), 3) := by decide +kernel
theorem dX5_fillRow_38 : decode cX5_fillRow 38 = .ok (.return_, 1) := by decide +kernel
theorem dX5_clearFrom_0 : decode cX5_clearFrom 0 = .ok (.aload_n 0, 1) := by decide +kernel
theorem dX5_clearFrom_1 : decode cX5_clearFrom 1 = .ok (.getfield 12, 3) := by decide +kernel
theorem dX5_clearFrom_4 : decode cX5_clearFrom 4 = .ok (.iload_n 1, 1) := by decide +kernel
theorem dX5_clearFrom_5 : decode cX5_clearFrom 5 = .ok (.invokevirtual 65, 3) := by decide +kernel
theorem dX5_clearFrom_8 : decode cX5_clearFrom 8 = .ok (.aload_n 0, 1) := by decide +kernel
theorem dX5_clearFrom_9 : decode cX5_clearFrom 9 = .ok (.iload_n 1, 1) := by decide +kernel
theorem dX5_clearFrom_10 : decode cX5_clearFrom 10 = .ok (.putfield 47, 3) := by decide +kernel
theorem dX5_clearFrom_13 : decode cX5_clearFrom 13 = .ok (.aload_n 0, 1) := by decide +kernel
theorem dX5_clearFrom_14 : decode cX5_clearFrom 14 = .ok (.aload_n 0, 1) := by decide +kernel
theorem dX5_clearFrom_15 : decode cX5_clearFrom 15 = .ok (.getfield 50, 3) := by decide +kernel
theorem dX5_clearFrom_18 : decode cX5_clearFrom 18 = .ok (.iload_n 1, 1) := by decide +kernel
theorem dX5_clearFrom_19 : decode cX5_clearFrom 19 = .ok (.invokestatic 143, 3) := by decide +kernel
theorem dX5_clearFrom_22 : decode cX5_clearFrom 22 = .ok (.putfield 50, 3) := by decide +kernel
theorem dX5_clearFrom_25 : decode cX5_clearFrom 25 = .ok (.return_, 1) := by decide +kernel
theorem dX5_isMistake_0 : decode cX5_isMistake 0 = .ok (.iload_n 2, 1) := by decide +kernel
theorem dX5_isMistake_1 : decode cX5_isMistake 1 = .ok (.aload_n 0, 1) := by decide +kernel
theorem dX5_isMistake_2 : decode cX5_isMistake 2 = .ok (.getfield 47, 3) := by decide +kernel
theorem dX5_isMistake_5 : decode cX5_isMistake 5 = .ok (.if_icmp .ge 28, 3) := by decide +kernel
theorem dX5_isMistake_8 : decode cX5_isMistake 8 = .ok (.aload_n 0, 1) := by decide +kernel
theorem dX5_isMistake_9 : decode cX5_isMistake 9 = .ok (.getfield 12, 3) := by decide +kernel
theorem dX5_isMistake_12 : decode cX5_isMistake 12 = .ok (.iload_n 1, 1) := by decide +kernel
theorem dX5_isMistake_13 : decode cX5_isMistake 13 = .ok (.iload_n 2, 1) := by decide +kernel
theorem dX5_isMistake_14 : decode cX5_isMistake 14 = .ok (.invokevirtual 139, 3) := by decide +kernel
theorem dX5_isMistake_17 : decode cX5_isMistake 17 = .ok (.aload_n 0, 1) := by decide +kernel
theorem dX5_isMistake_18 : decode cX5_isMistake 18 = .ok (.getfield 18, 3) := by decide +kernel
theorem dX5_isMistake_21 : decode cX5_isMistake 21 = .ok (.iload_n 1, 1) := by decide +kernel
theorem dX5_isMistake_22 : decode cX5_isMistake 22 = .ok (.iload_n 2, 1) := by decide +kernel
theorem dX5_isMistake_23 : decode cX5_isMistake 23 = .ok (.invokevirtual 139, 3) := by decide +kernel
theorem dX5_isMistake_26 : decode cX5_isMistake 26 = .ok (.if_icmp .eq 7, 3) := by decide +kernel
theorem dX5_isMistake_29 : decode cX5_isMistake 29 = .ok (.iconst 1, 1) := by decide +kernel
theorem dX5_isMistake_30 : decode cX5_isMistake 30 = .ok (.goto 4, 3) := by decide +kernel
theorem dX5_isMistake_33 : decode cX5_isMistake 33 = .ok (.iconst 0, 1) := by decide +kernel
theorem dX5_isMistake_34 : decode cX5_isMistake 34 = .ok (.ireturn, 1) := by decide +kernel
theorem dX5_isSeen_0 : decode cX5_isSeen 0 = .ok (.iload_n 1, 1) := by decide +kernel
theorem dX5_isSeen_1 : decode cX5_isSeen 1 = .ok (.aload_n 0, 1) := by decide +kernel
theorem dX5_isSeen_2 : decode cX5_isSeen 2 = .ok (.getfield 50, 3) := by decide +kernel
theorem dX5_isSeen_5 : decode cX5_isSeen 5 = .ok (.if_icmp .lt 18, 3) := by decide +kernel
theorem dX5_isSeen_8 : decode cX5_isSeen 8 = .ok (.aload_n 0, 1) := by decide +kernel
theorem dX5_isSeen_9 : decode cX5_isSeen 9 = .ok (.getfield 47, 3) := by decide +kernel
theorem dX5_isSeen_12 : decode cX5_isSeen 12 = .ok (.iconst 1, 1) := by decide +kernel
theorem dX5_isSeen_13 : decode cX5_isSeen 13 = .ok (.isub, 1) := by decide +kernel
theorem dX5_isSeen_14 : decode cX5_isSeen 14 = .ok (.iload_n 1, 1) := by decide +kernel
theorem dX5_isSeen_15 : decode cX5_isSeen 15 = .ok (.isub, 1) := by decide +kernel
theorem dX5_isSeen_16 : decode cX5_isSeen 16 = .ok (.aload_n 0, 1) := by decide +kernel
theorem dX5_isSeen_17 : decode cX5_isSeen 17 = .ok (.getfield 53, 3) := by decide +kernel
theorem dX5_isSeen_20 : decode cX5_isSeen 20 = .ok (.if_icmp .lt 7, 3) := by decide +kernel
theorem dX5_isSeen_23 : decode cX5_isSeen 23 = .ok (.iconst 1, 1) := by decide +kernel
theorem dX5_isSeen_24 : decode cX5_isSeen 24 = .ok (.goto 4, 3) := by decide +kernel
theorem dX5_isSeen_27 : decode cX5_isSeen 27 = .ok (.iconst 0, 1) := by decide +kernel
theorem dX5_isSeen_28 : decode cX5_isSeen 28 = .ok (.ireturn, 1) := by decide +kernel
theorem dX5_mistakesOf_0 : decode cX5_mistakesOf 0 = .ok (.iconst 0, 1) := by decide +kernel
theorem dX5_mistakesOf_1 : decode cX5_mistakesOf 1 = .ok (.istore_n 2, 1) := by decide +kernel
theorem dX5_mistakesOf_2 : decode cX5_mistakesOf 2 = .ok (.iconst 0, 1) := by decide +kernel
theorem dX5_mistakesOf_3 : decode cX5_mistakesOf 3 = .ok (.istore_n 3, 1) := by decide +kernel
theorem dX5_mistakesOf_4 : decode cX5_mistakesOf 4 = .ok (.iload_n 3, 1) := by decide +kernel
theorem dX5_mistakesOf_5 : decode cX5_mistakesOf 5 = .ok (.aload_n 0, 1) := by decide +kernel
theorem dX5_mistakesOf_6 : decode cX5_mistakesOf 6 = .ok (.getfield 40, 3) := by decide +kernel
theorem dX5_mistakesOf_9 : decode cX5_mistakesOf 9 = .ok (.if_icmp .ge 21, 3) := by decide +kernel
theorem dX5_mistakesOf_12 : decode cX5_mistakesOf 12 = .ok (.aload_n 0, 1) := by decide +kernel
theorem dX5_mistakesOf_13 : decode cX5_mistakesOf 13 = .ok (.iload_n 3, 1) := by decide +kernel
theorem dX5_mistakesOf_14 : decode cX5_mistakesOf 14 = .ok (.iload_n 1, 1) := by decide +kernel
theorem dX5_mistakesOf_15 : decode cX5_mistakesOf 15 = .ok (.invokevirtual 183, 3) := by decide +kernel
theorem dX5_mistakesOf_18 : decode cX5_mistakesOf 18 = .ok (.ifCond .eq 6, 3) := by decide +kernel
theorem dX5_mistakesOf_21 : decode cX5_mistakesOf 21 = .ok (.iinc 2 1, 3) := by decide +kernel
theorem dX5_mistakesOf_24 : decode cX5_mistakesOf 24 = .ok (.iinc 3 1, 3) := by decide +kernel
theorem dX5_mistakesOf_27 : decode cX5_mistakesOf 27 = .ok (.goto (-23), 3) := by decide +kernel
theorem dX5_mistakesOf_30 : decode cX5_mistakesOf 30 = .ok (.iload_n 2, 1) := by decide +kernel
theorem dX5_mistakesOf_31 : decode cX5_mistakesOf 31 = .ok (.ireturn, 1) := by decide +kernel
theorem dX5_mistakesFrom_0 : decode cX5_mistakesFrom 0 = .ok (.iconst 0, 1) := by decide +kernel
theorem dX5_mistakesFrom_1 : decode cX5_mistakesFrom 1 = .ok (.istore_n 2, 1) := by decide +kernel
theorem dX5_mistakesFrom_2 : decode cX5_mistakesFrom 2 = .ok (.iload_n 1, 1) := by decide +kernel
theorem dX5_mistakesFrom_3 : decode cX5_mistakesFrom 3 = .ok (.istore_n 3, 1) := by decide +kernel
theorem dX5_mistakesFrom_4 : decode cX5_mistakesFrom 4 = .ok (.iload_n 3, 1) := by decide +kernel
theorem dX5_mistakesFrom_5 : decode cX5_mistakesFrom 5 = .ok (.aload_n 0, 1) := by decide +kernel
theorem dX5_mistakesFrom_6 : decode cX5_mistakesFrom 6 = .ok (.getfield 47, 3) := by decide +kernel
theorem dX5_mistakesFrom_9 : decode cX5_mistakesFrom 9 = .ok (.if_icmp .ge 17, 3) := by decide +kernel
theorem dX5_mistakesFrom_12 : decode cX5_mistakesFrom 12 = .ok (.iload_n 2, 1) := by decide +kernel
theorem dX5_mistakesFrom_13 : decode cX5_mistakesFrom 13 = .ok (.aload_n 0, 1) := by decide +kernel
theorem dX5_mistakesFrom_14 : decode cX5_mistakesFrom 14 = .ok (.iload_n 3, 1) := by decide +kernel
theorem dX5_mistakesFrom_15 : decode cX5_mistakesFrom 15 = .ok (.invokevirtual 208, 3) := by decide +kernel
theorem dX5_mistakesFrom_18 : decode cX5_mistakesFrom 18 = .ok (.iadd, 1) := by decide +kernel
theorem dX5_mistakesFrom_19 : decode cX5_mistakesFrom 19 = .ok (.istore_n 2, 1) := by decide +kernel
theorem dX5_mistakesFrom_20 : decode cX5_mistakesFrom 20 = .ok (.iinc 3 1, 3) := by decide +kernel
theorem dX5_mistakesFrom_23 : decode cX5_mistakesFrom 23 = .ok (.goto (-19), 3) := by decide +kernel
theorem dX5_mistakesFrom_26 : decode cX5_mistakesFrom 26 = .ok (.iload_n 2, 1) := by decide +kernel
theorem dX5_mistakesFrom_27 : decode cX5_mistakesFrom 27 = .ok (.ireturn, 1) := by decide +kernel
theorem dX5_seenMistakes_0 : decode cX5_seenMistakes 0 = .ok (.iconst 0, 1) := by decide +kernel
theorem dX5_seenMistakes_1 : decode cX5_seenMistakes 1 = .ok (.istore_n 1, 1) := by decide +kernel
theorem dX5_seenMistakes_2 : decode cX5_seenMistakes 2 = .ok (.iconst 0, 1) := by decide +kernel
theorem dX5_seenMistakes_3 : decode cX5_seenMistakes 3 = .ok (.istore_n 2, 1) := by decide +kernel
theorem dX5_seenMistakes_4 : decode cX5_seenMistakes 4 = .ok (.iload_n 2, 1) := by decide +kernel
theorem dX5_seenMistakes_5 : decode cX5_seenMistakes 5 = .ok (.aload_n 0, 1) := by decide +kernel
theorem dX5_seenMistakes_6 : decode cX5_seenMistakes 6 = .ok (.getfield 47, 3) := by decide +kernel
theorem dX5_seenMistakes_9 : decode cX5_seenMistakes 9 = .ok (.if_icmp .ge 25, 3) := by decide +kernel
theorem dX5_seenMistakes_12 : decode cX5_seenMistakes 12 = .ok (.aload_n 0, 1) := by decide +kernel
theorem dX5_seenMistakes_13 : decode cX5_seenMistakes 13 = .ok (.iload_n 2, 1) := by decide +kernel
theorem dX5_seenMistakes_14 : decode cX5_seenMistakes 14 = .ok (.invokevirtual 211, 3) := by decide +kernel
theorem dX5_seenMistakes_17 : decode cX5_seenMistakes 17 = .ok (.ifCond .eq 11, 3) := by decide +kernel
theorem dX5_seenMistakes_20 : decode cX5_seenMistakes 20 = .ok (.iload_n 1, 1) := by decide +kernel
theorem dX5_seenMistakes_21 : decode cX5_seenMistakes 21 = .ok (.aload_n 0, 1) := by decide +kernel
theorem dX5_seenMistakes_22 : decode cX5_seenMistakes 22 = .ok (.iload_n 2, 1) := by decide +kernel
theorem dX5_seenMistakes_23 : decode cX5_seenMistakes 23 = .ok (.invokevirtual 208, 3) := by decide +kernel
theorem dX5_seenMistakes_26 : decode cX5_seenMistakes 26 = .ok (.iadd, 1) := by decide +kernel
theorem dX5_seenMistakes_27 : decode cX5_seenMistakes 27 = .ok (.istore_n 1, 1) := by decide +kernel
theorem dX5_seenMistakes_28 : decode cX5_seenMistakes 28 = .ok (.iinc 2 1, 3) := by decide +kernel
theorem dX5_seenMistakes_31 : decode cX5_seenMistakes 31 = .ok (.goto (-27), 3) := by decide +kernel
theorem dX5_seenMistakes_34 : decode cX5_seenMistakes 34 = .ok (.iload_n 1, 1) := by decide +kernel
theorem dX5_seenMistakes_35 : decode cX5_seenMistakes 35 = .ok (.ireturn, 1) := by decide +kernel
theorem dX5_faultyRows_0 : decode cX5_faultyRows 0 = .ok (.iconst 0, 1) := by decide +kernel
theorem dX5_faultyRows_1 : decode cX5_faultyRows 1 = .ok (.istore_n 1, 1) := by decide +kernel
theorem dX5_faultyRows_2 : decode cX5_faultyRows 2 = .ok (.iconst 0, 1) := by decide +kernel
theorem dX5_faultyRows_3 : decode cX5_faultyRows 3 = .ok (.istore_n 2, 1) := by decide +kernel
theorem dX5_faultyRows_4 : decode cX5_faultyRows 4 = .ok (.iload_n 2, 1) := by decide +kernel
theorem dX5_faultyRows_5 : decode cX5_faultyRows 5 = .ok (.aload_n 0, 1) := by decide +kernel
theorem dX5_faultyRows_6 : decode cX5_faultyRows 6 = .ok (.getfield 47, 3) := by decide +kernel
theorem dX5_faultyRows_9 : decode cX5_faultyRows 9 = .ok (.if_icmp .ge 20, 3) := by decide +kernel
theorem dX5_faultyRows_12 : decode cX5_faultyRows 12 = .ok (.aload_n 0, 1) := by decide +kernel
theorem dX5_faultyRows_13 : decode cX5_faultyRows 13 = .ok (.iload_n 2, 1) := by decide +kernel
theorem dX5_faultyRows_14 : decode cX5_faultyRows 14 = .ok (.invokevirtual 208, 3) := by decide +kernel
theorem dX5_faultyRows_17 : decode cX5_faultyRows 17 = .ok (.ifCond .le 6, 3) := by decide +kernel
theorem dX5_faultyRows_20 : decode cX5_faultyRows 20 = .ok (.iinc 1 1, 3) := by decide +kernel
theorem dX5_faultyRows_23 : decode cX5_faultyRows 23 = .ok (.iinc 2 1, 3) := by decide +kernel
theorem dX5_faultyRows_26 : decode cX5_faultyRows 26 = .ok (.goto (-22), 3) := by decide +kernel
theorem dX5_faultyRows_29 : decode cX5_faultyRows 29 = .ok (.iload_n 1, 1) := by decide +kernel
theorem dX5_faultyRows_30 : decode cX5_faultyRows 30 = .ok (.ireturn, 1) := by decide +kernel
theorem dX5_lowestFaultyRow_0 : decode cX5_lowestFaultyRow 0 = .ok (.iconst 0, 1) := by decide +kernel
theorem dX5_lowestFaultyRow_1 : decode cX5_lowestFaultyRow 1 = .ok (.istore_n 2, 1) := by decide +kernel
theorem dX5_lowestFaultyRow_2 : decode cX5_lowestFaultyRow 2 = .ok (.iload_n 2, 1) := by decide +kernel
theorem dX5_lowestFaultyRow_3 : decode cX5_lowestFaultyRow 3 = .ok (.aload_n 0, 1) := by decide +kernel
theorem dX5_lowestFaultyRow_4 : decode cX5_lowestFaultyRow 4 = .ok (.getfield 47, 3) := by decide +kernel
theorem dX5_lowestFaultyRow_7 : decode cX5_lowestFaultyRow 7 = .ok (.if_icmp .ge 31, 3) := by decide +kernel
theorem dX5_lowestFaultyRow_10 : decode cX5_lowestFaultyRow 10 = .ok (.iload_n 1, 1) := by decide +kernel
theorem dX5_lowestFaultyRow_11 : decode cX5_lowestFaultyRow 11 = .ok (.ifCond .eq 11, 3) := by decide +kernel
theorem dX5_lowestFaultyRow_14 : decode cX5_lowestFaultyRow 14 = .ok (.aload_n 0, 1) := by decide +kernel
theorem dX5_lowestFaultyRow_15 : decode cX5_lowestFaultyRow 15 = .ok (.iload_n 2, 1) := by decide +kernel
theorem dX5_lowestFaultyRow_16 : decode cX5_lowestFaultyRow 16 = .ok (.invokevirtual 211, 3) := by decide +kernel
theorem dX5_lowestFaultyRow_19 : decode cX5_lowestFaultyRow 19 = .ok (.ifCond .eq 13, 3) := by decide +kernel
theorem dX5_lowestFaultyRow_22 : decode cX5_lowestFaultyRow 22 = .ok (.aload_n 0, 1) := by decide +kernel
theorem dX5_lowestFaultyRow_23 : decode cX5_lowestFaultyRow 23 = .ok (.iload_n 2, 1) := by decide +kernel
theorem dX5_lowestFaultyRow_24 : decode cX5_lowestFaultyRow 24 = .ok (.invokevirtual 208, 3) := by decide +kernel
theorem dX5_lowestFaultyRow_27 : decode cX5_lowestFaultyRow 27 = .ok (.ifCond .le 5, 3) := by decide +kernel
theorem dX5_lowestFaultyRow_30 : decode cX5_lowestFaultyRow 30 = .ok (.iload_n 2, 1) := by decide +kernel
theorem dX5_lowestFaultyRow_31 : decode cX5_lowestFaultyRow 31 = .ok (.ireturn, 1) := by decide +kernel
theorem dX5_lowestFaultyRow_32 : decode cX5_lowestFaultyRow 32 = .ok (.iinc 2 1, 3) := by decide +kernel
theorem dX5_lowestFaultyRow_35 : decode cX5_lowestFaultyRow 35 = .ok (.goto (-33), 3) := by decide +kernel
theorem dX5_lowestFaultyRow_38 : decode cX5_lowestFaultyRow 38 = .ok (.iconst (-1), 1) := by decide +kernel
theorem dX5_lowestFaultyRow_39 : decode cX5_lowestFaultyRow 39 = .ok (.ireturn, 1) := by decide +kernel
theorem dX5_rowsDownTo_0 : decode cX5_rowsDownTo 0 = .ok (.iload_n 1, 1) := by decide +kernel
theorem dX5_rowsDownTo_1 : decode cX5_rowsDownTo 1 = .ok (.iconst (-1), 1) := by decide +kernel
theorem dX5_rowsDownTo_2 : decode cX5_rowsDownTo 2 = .ok (.if_icmp .ne 7, 3) := by decide +kernel
theorem dX5_rowsDownTo_5 : decode cX5_rowsDownTo 5 = .ok (.iconst 0, 1) := by decide +kernel
theorem dX5_rowsDownTo_6 : decode cX5_rowsDownTo 6 = .ok (.goto 9, 3) := by decide +kernel
theorem dX5_rowsDownTo_9 : decode cX5_rowsDownTo 9 = .ok (.aload_n 0, 1) := by decide +kernel
theorem dX5_rowsDownTo_10 : decode cX5_rowsDownTo 10 = .ok (.getfield 47, 3) := by decide +kernel
theorem dX5_rowsDownTo_13 : decode cX5_rowsDownTo 13 = .ok (.iload_n 1, 1) := by decide +kernel
theorem dX5_rowsDownTo_14 : decode cX5_rowsDownTo 14 = .ok (.isub, 1) := by decide +kernel
theorem dX5_rowsDownTo_15 : decode cX5_rowsDownTo 15 = .ok (.ireturn, 1) := by decide +kernel
theorem dX5_colourWhenWoven_0 : decode cX5_colourWhenWoven 0 = .ok (.aload_n 0, 1) := by decide +kernel
theorem dX5_colourWhenWoven_1 : decode cX5_colourWhenWoven 1 = .ok (.getfield 12, 3) := by decide +kernel
theorem dX5_colourWhenWoven_4 : decode cX5_colourWhenWoven 4 = .ok (.iload_n 1, 1) := by decide +kernel
theorem dX5_colourWhenWoven_5 : decode cX5_colourWhenWoven 5 = .ok (.iload_n 2, 1) := by decide +kernel
theorem dX5_colourWhenWoven_6 : decode cX5_colourWhenWoven 6 = .ok (.invokevirtual 139, 3) := by decide +kernel
theorem dX5_colourWhenWoven_9 : decode cX5_colourWhenWoven 9 = .ok (.istore_n 3, 1) := by decide +kernel
theorem dX5_colourWhenWoven_10 : decode cX5_colourWhenWoven 10 = .ok (.iload_n 3, 1) := by decide +kernel
theorem dX5_colourWhenWoven_11 : decode cX5_colourWhenWoven 11 = .ok (.iconst (-1), 1) := by decide +kernel
theorem dX5_colourWhenWoven_12 : decode cX5_colourWhenWoven 12 = .ok (.if_icmp .ne 15, 3) := by decide +kernel
theorem dX5_colourWhenWoven_15 : decode cX5_colourWhenWoven 15 = .ok (.aload_n 0, 1) := by decide +kernel
theorem dX5_colourWhenWoven_16 : decode cX5_colourWhenWoven 16 = .ok (.getfield 18, 3) := by decide +kernel
theorem dX5_colourWhenWoven_19 : decode cX5_colourWhenWoven 19 = .ok (.iload_n 1, 1) := by decide +kernel
theorem dX5_colourWhenWoven_20 : decode cX5_colourWhenWoven 20 = .ok (.iload_n 2, 1) := by decide +kernel
theorem dX5_colourWhenWoven_21 : decode cX5_colourWhenWoven 21 = .ok (.invokevirtual 139, 3) := by decide +kernel
theorem dX5_colourWhenWoven_24 : decode cX5_colourWhenWoven 24 = .ok (.goto 4, 3) := by decide +kernel
theorem dX5_colourWhenWoven_27 : decode cX5_colourWhenWoven 27 = .ok (.iload_n 3, 1) := by decide +kernel
theorem dX5_colourWhenWoven_28 : decode cX5_colourWhenWoven 28 = .ok (.ireturn, 1) := by decide +kernel
theorem dX5_joinsOf_0 : decode cX5_joinsOf 0 = .ok (.iconst 0, 1) := by decide +kernel
theorem dX5_joinsOf_1 : decode cX5_joinsOf 1 = .ok (.istore_n 2, 1) := by decide +kernel
theorem dX5_joinsOf_2 : decode cX5_joinsOf 2 = .ok (.iconst 0, 1) := by decide +kernel
theorem dX5_joinsOf_3 : decode cX5_joinsOf 3 = .ok (.istore_n 3, 1) := by decide +kernel
theorem dX5_joinsOf_4 : decode cX5_joinsOf 4 = .ok (.iload_n 3, 1) := by decide +kernel
theorem dX5_joinsOf_5 : decode cX5_joinsOf 5 = .ok (.aload_n 0, 1) := by decide +kernel
theorem dX5_joinsOf_6 : decode cX5_joinsOf 6 = .ok (.getfield 40, 3) := by decide +kernel
theorem dX5_joinsOf_9 : decode cX5_joinsOf 9 = .ok (.iconst 1, 1) := by decide +kernel
theorem dX5_joinsOf_10 : decode cX5_joinsOf 10 = .ok (.isub, 1) := by decide +kernel
theorem dX5_joinsOf_11 : decode cX5_joinsOf 11 = .ok (.if_icmp .ge 29, 3) := by decide +kernel
theorem dX5_joinsOf_14 : decode cX5_joinsOf 14 = .ok (.aload_n 0, 1) := by decide +kernel
theorem dX5_joinsOf_15 : decode cX5_joinsOf 15 = .ok (.iload_n 3, 1) := by decide +kernel
theorem dX5_joinsOf_16 : decode cX5_joinsOf 16 = .ok (.iload_n 1, 1) := by decide +kernel
theorem dX5_joinsOf_17 : decode cX5_joinsOf 17 = .ok (.invokevirtual 215, 3) := by decide +kernel
theorem dX5_joinsOf_20 : decode cX5_joinsOf 20 = .ok (.aload_n 0, 1) := by decide +kernel
theorem dX5_joinsOf_21 : decode cX5_joinsOf 21 = .ok (.iload_n 3, 1) := by decide +kernel
theorem dX5_joinsOf_22 : decode cX5_joinsOf 22 = .ok (.iconst 1, 1) := by decide +kernel
theorem dX5_joinsOf_23 : decode cX5_joinsOf 23 = .ok (.iadd, 1) := by decide +kernel
theorem dX5_joinsOf_24 : decode cX5_joinsOf 24 = .ok (.iload_n 1, 1) := by decide +kernel
theorem dX5_joinsOf_25 : decode cX5_joinsOf 25 = .ok (.invokevirtual 215, 3) := by decide +kernel
theorem dX5_joinsOf_28 : decode cX5_joinsOf 28 = .ok (.if_icmp .eq 6, 3) := by decide +kernel
theorem dX5_joinsOf_31 : decode cX5_joinsOf 31 = .ok (.iinc 2 1, 3) := by decide +kernel
theorem dX5_joinsOf_34 : decode cX5_joinsOf 34 = .ok (.iinc 3 1, 3) := by decide +kernel
theorem dX5_joinsOf_37 : decode cX5_joinsOf 37 = .ok (.goto (-33), 3) := by decide +kernel
theorem dX5_joinsOf_40 : decode cX5_joinsOf 40 = .ok (.iload_n 2, 1) := by decide +kernel
theorem dX5_joinsOf_41 : decode cX5_joinsOf 41 = .ok (.ireturn, 1) := by decide +kernel
theorem dX5_isJoin_0 : decode cX5_isJoin 0 = .ok (.aload_n 0, 1) := by decide +kernel
theorem dX5_isJoin_1 : decode cX5_isJoin 1 = .ok (.getfield 12, 3) := by decide +kernel
theorem dX5_isJoin_4 : decode cX5_isJoin 4 = .ok (.iload_n 1, 1) := by decide +kernel
theorem dX5_isJoin_5 : decode cX5_isJoin 5 = .ok (.iload_n 2, 1) := by decide +kernel
theorem dX5_isJoin_6 : decode cX5_isJoin 6 = .ok (.invokevirtual 139, 3) := by decide +kernel
theorem dX5_isJoin_9 : decode cX5_isJoin 9 = .ok (.aload_n 0, 1) := by decide +kernel
theorem dX5_isJoin_10 : decode cX5_isJoin 10 = .ok (.getfield 12, 3) := by decide +kernel
theorem dX5_isJoin_13 : decode cX5_isJoin 13 = .ok (.iload_n 1, 1) := by decide +kernel
theorem dX5_isJoin_14 : decode cX5_isJoin 14 = .ok (.iconst 1, 1) := by decide +kernel
theorem dX5_isJoin_15 : decode cX5_isJoin 15 = .ok (.iadd, 1) := by decide +kernel
theorem dX5_isJoin_16 : decode cX5_isJoin 16 = .ok (.iload_n 2, 1) := by decide +kernel
theorem dX5_isJoin_17 : decode cX5_isJoin 17 = .ok (.invokevirtual 139, 3) := by decide +kernel
theorem dX5_isJoin_20 : decode cX5_isJoin 20 = .ok (.if_icmp .eq 7, 3) := by decide +kernel
theorem dX5_isJoin_23 : decode cX5_isJoin 23 = .ok (.iconst 1, 1) := by decide +kernel
theorem dX5_isJoin_24 : decode cX5_isJoin 24 = .ok (.goto 4, 3) := by decide +kernel
theorem dX5_isJoin_27 : decode cX5_isJoin 27 = .ok (.iconst 0, 1) := by decide +kernel
theorem dX5_isJoin_28 : decode cX5_isJoin 28 = .ok (.ireturn, 1) := by decide +kernel
theorem dX5_minutesFor_0 : decode cX5_minutesFor 0 = .ok (.aload_n 0, 1) := by decide +kernel
theorem dX5_minutesFor_1 : decode cX5_minutesFor 1 = .ok (.getfield 40, 3) := by decide +kernel
theorem dX5_minutesFor_4 : decode cX5_minutesFor 4 = .ok (.i2d, 1) := by decide +kernel
theorem dX5_minutesFor_5 : decode cX5_minutesFor 5 = .ok (.ldc2_w 218, 3) := by decide +kernel
theorem dX5_minutesFor_8 : decode cX5_minutesFor 8 = .ok (.dmul, 1) := by decide +kernel
theorem dX5_minutesFor_9 : decode cX5_minutesFor 9 = .ok (.iload_n 1, 1) := by decide +kernel
theorem dX5_minutesFor_10 : decode cX5_minutesFor 10 = .ok (.i2d, 1) := by decide +kernel
theorem dX5_minutesFor_11 : decode cX5_minutesFor 11 = .ok (.ldc2_w 220, 3) := by decide +kernel
theorem dX5_minutesFor_14 : decode cX5_minutesFor 14 = .ok (.dmul, 1) := by decide +kernel
theorem dX5_minutesFor_15 : decode cX5_minutesFor 15 = .ok (.dadd, 1) := by decide +kernel
theorem dX5_minutesFor_16 : decode cX5_minutesFor 16 = .ok (.d2i, 1) := by decide +kernel
theorem dX5_minutesFor_17 : decode cX5_minutesFor 17 = .ok (.ireturn, 1) := by decide +kernel
theorem dX5_slitsOf_0 : decode cX5_slitsOf 0 = .ok (.iconst 0, 1) := by decide +kernel
theorem dX5_slitsOf_1 : decode cX5_slitsOf 1 = .ok (.istore_n 2, 1) := by decide +kernel
theorem dX5_slitsOf_2 : decode cX5_slitsOf 2 = .ok (.iconst 0, 1) := by decide +kernel
theorem dX5_slitsOf_3 : decode cX5_slitsOf 3 = .ok (.istore_n 3, 1) := by decide +kernel
theorem dX5_slitsOf_4 : decode cX5_slitsOf 4 = .ok (.iload_n 3, 1) := by decide +kernel
theorem dX5_slitsOf_5 : decode cX5_slitsOf 5 = .ok (.aload_n 0, 1) := by decide +kernel
theorem dX5_slitsOf_6 : decode cX5_slitsOf 6 = .ok (.getfield 40, 3) := by decide +kernel
theorem dX5_slitsOf_9 : decode cX5_slitsOf 9 = .ok (.iconst 1, 1) := by decide +kernel
theorem dX5_slitsOf_10 : decode cX5_slitsOf 10 = .ok (.isub, 1) := by decide +kernel
theorem dX5_slitsOf_11 : decode cX5_slitsOf 11 = .ok (.if_icmp .ge 59, 3) := by decide +kernel
theorem dX5_slitsOf_14 : decode cX5_slitsOf 14 = .ok (.iconst 0, 1) := by decide +kernel
theorem dX5_slitsOf_15 : decode cX5_slitsOf 15 = .ok (.istore 4, 2) := by decide +kernel
theorem dX5_slitsOf_17 : decode cX5_slitsOf 17 = .ok (.iconst 0, 1) := by decide +kernel
theorem dX5_slitsOf_18 : decode cX5_slitsOf 18 = .ok (.istore 5, 2) := by decide +kernel
theorem dX5_slitsOf_20 : decode cX5_slitsOf 20 = .ok (.iload 5, 2) := by decide +kernel
theorem dX5_slitsOf_22 : decode cX5_slitsOf 22 = .ok (.aload_n 0, 1) := by decide +kernel
theorem dX5_slitsOf_23 : decode cX5_slitsOf 23 = .ok (.getfield 47, 3) := by decide +kernel
theorem dX5_slitsOf_26 : decode cX5_slitsOf 26 = .ok (.if_icmp .ge 38, 3) := by decide +kernel
theorem dX5_slitsOf_29 : decode cX5_slitsOf 29 = .ok (.aload_n 0, 1) := by decide +kernel
theorem dX5_slitsOf_30 : decode cX5_slitsOf 30 = .ok (.iload_n 3, 1) := by decide +kernel
theorem dX5_slitsOf_31 : decode cX5_slitsOf 31 = .ok (.iload 5, 2) := by decide +kernel
theorem dX5_slitsOf_33 : decode cX5_slitsOf 33 = .ok (.invokevirtual 222, 3) := by decide +kernel
theorem dX5_slitsOf_36 : decode cX5_slitsOf 36 = .ok (.ifCond .eq 10, 3) := by decide +kernel
theorem dX5_slitsOf_39 : decode cX5_slitsOf 39 = .ok (.iload 4, 2) := by decide +kernel
theorem dX5_slitsOf_41 : decode cX5_slitsOf 41 = .ok (.iconst 1, 1) := by decide +kernel
theorem dX5_slitsOf_42 : decode cX5_slitsOf 42 = .ok (.iadd, 1) := by decide +kernel
theorem dX5_slitsOf_43 : decode cX5_slitsOf 43 = .ok (.goto 4, 3) := by decide +kernel
theorem dX5_slitsOf_46 : decode cX5_slitsOf 46 = .ok (.iconst 0, 1) := by decide +kernel
theorem dX5_slitsOf_47 : decode cX5_slitsOf 47 = .ok (.istore 4, 2) := by decide +kernel
theorem dX5_slitsOf_49 : decode cX5_slitsOf 49 = .ok (.iload 4, 2) := by decide +kernel
theorem dX5_slitsOf_51 : decode cX5_slitsOf 51 = .ok (.iload_n 1, 1) := by decide +kernel
theorem dX5_slitsOf_52 : decode cX5_slitsOf 52 = .ok (.if_icmp .ne 6, 3) := by decide +kernel
theorem dX5_slitsOf_55 : decode cX5_slitsOf 55 = .ok (.iinc 2 1, 3) := by decide +kernel
theorem dX5_slitsOf_58 : decode cX5_slitsOf 58 = .ok (.iinc 5 1, 3) := by decide +kernel
theorem dX5_slitsOf_61 : decode cX5_slitsOf 61 = .ok (.goto (-41), 3) := by decide +kernel
theorem dX5_slitsOf_64 : decode cX5_slitsOf 64 = .ok (.iinc 3 1, 3) := by decide +kernel
theorem dX5_slitsOf_67 : decode cX5_slitsOf 67 = .ok (.goto (-63), 3) := by decide +kernel
theorem dX5_slitsOf_70 : decode cX5_slitsOf 70 = .ok (.iload_n 2, 1) := by decide +kernel
theorem dX5_slitsOf_71 : decode cX5_slitsOf 71 = .ok (.ireturn, 1) := by decide +kernel
theorem dX5_longestRun_0 : decode cX5_longestRun 0 = .ok (.iconst 0, 1) := by decide +kernel
theorem dX5_longestRun_1 : decode cX5_longestRun 1 = .ok (.istore_n 1, 1) := by decide +kernel
theorem dX5_longestRun_2 : decode cX5_longestRun 2 = .ok (.iconst 0, 1) := by decide +kernel
theorem dX5_longestRun_3 : decode cX5_longestRun 3 = .ok (.istore_n 2, 1) := by decide +kernel
theorem dX5_longestRun_4 : decode cX5_longestRun 4 = .ok (.iload_n 2, 1) := by decide +kernel
theorem dX5_longestRun_5 : decode cX5_longestRun 5 = .ok (.aload_n 0, 1) := by decide +kernel
theorem dX5_longestRun_6 : decode cX5_longestRun 6 = .ok (.getfield 40, 3) := by decide +kernel
theorem dX5_longestRun_9 : decode cX5_longestRun 9 = .ok (.iconst 1, 1) := by decide +kernel
theorem dX5_longestRun_10 : decode cX5_longestRun 10 = .ok (.isub, 1) := by decide +kernel
theorem dX5_longestRun_11 : decode cX5_longestRun 11 = .ok (.if_icmp .ge 53, 3) := by decide +kernel
theorem dX5_longestRun_14 : decode cX5_longestRun 14 = .ok (.iconst 0, 1) := by decide +kernel
theorem dX5_longestRun_15 : decode cX5_longestRun 15 = .ok (.istore_n 3, 1) := by decide +kernel
theorem dX5_longestRun_16 : decode cX5_longestRun 16 = .ok (.iconst 0, 1) := by decide +kernel
theorem dX5_longestRun_17 : decode cX5_longestRun 17 = .ok (.istore 4, 2) := by decide +kernel
theorem dX5_longestRun_19 : decode cX5_longestRun 19 = .ok (.iload 4, 2) := by decide +kernel
theorem dX5_longestRun_21 : decode cX5_longestRun 21 = .ok (.aload_n 0, 1) := by decide +kernel
theorem dX5_longestRun_22 : decode cX5_longestRun 22 = .ok (.getfield 47, 3) := by decide +kernel
theorem dX5_longestRun_25 : decode cX5_longestRun 25 = .ok (.if_icmp .ge 33, 3) := by decide +kernel
theorem dX5_longestRun_28 : decode cX5_longestRun 28 = .ok (.aload_n 0, 1) := by decide +kernel
theorem dX5_longestRun_29 : decode cX5_longestRun 29 = .ok (.iload_n 2, 1) := by decide +kernel
theorem dX5_longestRun_30 : decode cX5_longestRun 30 = .ok (.iload 4, 2) := by decide +kernel
theorem dX5_longestRun_32 : decode cX5_longestRun 32 = .ok (.invokevirtual 222, 3) := by decide +kernel
theorem dX5_longestRun_35 : decode cX5_longestRun 35 = .ok (.ifCond .eq 9, 3) := by decide +kernel
theorem dX5_longestRun_38 : decode cX5_longestRun 38 = .ok (.iload_n 3, 1) := by decide +kernel
theorem dX5_longestRun_39 : decode cX5_longestRun 39 = .ok (.iconst 1, 1) := by decide +kernel
theorem dX5_longestRun_40 : decode cX5_longestRun 40 = .ok (.iadd, 1) := by decide +kernel
theorem dX5_longestRun_41 : decode cX5_longestRun 41 = .ok (.goto 4, 3) := by decide +kernel
theorem dX5_longestRun_44 : decode cX5_longestRun 44 = .ok (.iconst 0, 1) := by decide +kernel
theorem dX5_longestRun_45 : decode cX5_longestRun 45 = .ok (.istore_n 3, 1) := by decide +kernel
theorem dX5_longestRun_46 : decode cX5_longestRun 46 = .ok (.iload_n 1, 1) := by decide +kernel
theorem dX5_longestRun_47 : decode cX5_longestRun 47 = .ok (.iload_n 3, 1) := by decide +kernel
theorem dX5_longestRun_48 : decode cX5_longestRun 48 = .ok (.invokestatic 148, 3) := by decide +kernel
theorem dX5_longestRun_51 : decode cX5_longestRun 51 = .ok (.istore_n 1, 1) := by decide +kernel
theorem dX5_longestRun_52 : decode cX5_longestRun 52 = .ok (.iinc 4 1, 3) := by decide +kernel
theorem dX5_longestRun_55 : decode cX5_longestRun 55 = .ok (.goto (-36), 3) := by decide +kernel
theorem dX5_longestRun_58 : decode cX5_longestRun 58 = .ok (.iinc 2 1, 3) := by decide +kernel
theorem dX5_longestRun_61 : decode cX5_longestRun 61 = .ok (.goto (-57), 3) := by decide +kernel
theorem dX5_longestRun_64 : decode cX5_longestRun 64 = .ok (.iload_n 1, 1) := by decide +kernel
theorem dX5_longestRun_65 : decode cX5_longestRun 65 = .ok (.ireturn, 1) := by decide +kernel
