theorem dX9_goesOn_27 : decode cX9_goesOn 27 = .ok (.dup, 1) := by decide +kernel
theorem dX9_goesOn_28 : decode cX9_goesOn 28 = .ok (.getfield 276, 3) := by decide +kernel
theorem dX9_goesOn_31 : decode cX9_goesOn 31 = .ok (.iconst 1, 1) := by decide +kernel
theorem dX9_goesOn_32 : decode cX9_goesOn 32 = .ok (.iadd, 1) := by decide +kernel
theorem dX9_goesOn_33 : decode cX9_goesOn 33 = .ok (.putfield 276, 3) := by decide +kernel
theorem dX9_goesOn_36 : decode cX9_goesOn 36 = .ok (.goto (-36), 3) := by decide +kernel
theorem dX9_goesOn_39 : decode cX9_goesOn 39 = .ok (.aload_n 0, 1) := by decide +kernel
theorem dX9_goesOn_40 : decode cX9_goesOn 40 = .ok (.aload_n 0, 1) := by decide +kernel
theorem dX9_goesOn_41 : decode cX9_goesOn 41 = .ok (.getfield 276, 3) := by decide +kernel
theorem dX9_goesOn_44 : decode cX9_goesOn 44 = .ok (.putfield 282, 3) := by decide +kernel
theorem dX9_goesOn_47 : decode cX9_goesOn 47 = .ok (.aload_n 0, 1) := by decide +kernel
theorem dX9_goesOn_48 : decode cX9_goesOn 48 = .ok (.aload_n 0, 1) := by decide +kernel
theorem dX9_goesOn_49 : decode cX9_goesOn 49 = .ok (.getfield 276, 3) := by decide +kernel
theorem dX9_goesOn_52 : decode cX9_goesOn 52 = .ok (.invokevirtual 279, 3) := by decide +kernel
theorem dX9_goesOn_55 : decode cX9_goesOn 55 = .ok (.istore_n 1, 1) := by decide +kernel
theorem dX9_goesOn_56 : decode cX9_goesOn 56 = .ok (.aload_n 0, 1) := by decide +kernel
theorem dX9_goesOn_57 : decode cX9_goesOn 57 = .ok (.iconst 0, 1) := by decide +kernel
theorem dX9_goesOn_58 : decode cX9_goesOn 58 = .ok (.putfield 285, 3) := by decide +kernel
theorem dX9_goesOn_61 : decode cX9_goesOn 61 = .ok (.iload_n 1, 1) := by decide +kernel
theorem dX9_goesOn_62 : decode cX9_goesOn 62 = .ok (.iconst (-1), 1) := by decide +kernel
theorem dX9_goesOn_63 : decode cX9_goesOn 63 = .ok (.if_icmp .ne 11, 3) := by decide +kernel
theorem dX9_goesOn_66 : decode cX9_goesOn 66 = .ok (.aload_n 0, 1) := by decide +kernel
theorem dX9_goesOn_67 : decode cX9_goesOn 67 = .ok (.iconst 0, 1) := by decide +kernel
theorem dX9_goesOn_68 : decode cX9_goesOn 68 = .ok (.putfield 288, 3) := by decide +kernel
theorem dX9_goesOn_71 : decode cX9_goesOn 71 = .ok (.goto 175, 3) := by decide +kernel
theorem dX9_goesOn_74 : decode cX9_goesOn 74 = .ok (.iload_n 1, 1) := by decide +kernel
theorem dX9_goesOn_75 : decode cX9_goesOn 75 = .ok (.i2l, 1) := by decide +kernel
theorem dX9_goesOn_76 : decode cX9_goesOn 76 = .ok (.ldc2_w 266, 3) := by decide +kernel
theorem dX9_goesOn_79 : decode cX9_goesOn 79 = .ok (.ldc2_w 268, 3) := by decide +kernel
theorem dX9_goesOn_82 : decode cX9_goesOn 82 = .ok (.invokestatic 82, 3) := by decide +kernel
theorem dX9_goesOn_85 : decode cX9_goesOn 85 = .ok (.ifCond .eq 42, 3) := by decide +kernel
theorem dX9_goesOn_88 : decode cX9_goesOn 88 = .ok (.aload_n 0, 1) := by decide +kernel
theorem dX9_goesOn_89 : decode cX9_goesOn 89 = .ok (.iconst 1, 1) := by decide +kernel
theorem dX9_goesOn_90 : decode cX9_goesOn 90 = .ok (.putfield 288, 3) := by decide +kernel
theorem dX9_goesOn_93 : decode cX9_goesOn 93 = .ok (.aload_n 0, 1) := by decide +kernel
theorem dX9_goesOn_94 : decode cX9_goesOn 94 = .ok (.aload_n 0, 1) := by decide +kernel
theorem dX9_goesOn_95 : decode cX9_goesOn 95 = .ok (.getfield 276, 3) := by decide +kernel
theorem dX9_goesOn_98 : decode cX9_goesOn 98 = .ok (.invokevirtual 279, 3) := by decide +kernel
theorem dX9_goesOn_101 : decode cX9_goesOn 101 = .ok (.i2l, 1) := by decide +kernel
theorem dX9_goesOn_102 : decode cX9_goesOn 102 = .ok (.ldc2_w 266, 3) := by decide +kernel
theorem dX9_goesOn_105 : decode cX9_goesOn 105 = .ok (.ldc2_w 268, 3) := by decide +kernel
theorem dX9_goesOn_108 : decode cX9_goesOn 108 = .ok (.invokestatic 82, 3) := by decide +kernel
theorem dX9_goesOn_111 : decode cX9_goesOn 111 = .ok (.ifCond .eq 135, 3) := by decide +kernel
theorem dX9_goesOn_114 : decode cX9_goesOn 114 = .ok (.aload_n 0, 1) := by decide +kernel
theorem dX9_goesOn_115 : decode cX9_goesOn 115 = .ok (.dup, 1) := by decide +kernel
theorem dX9_goesOn_116 : decode cX9_goesOn 116 = .ok (.getfield 276, 3) := by decide +kernel
theorem dX9_goesOn_119 : decode cX9_goesOn 119 = .ok (.iconst 1, 1) := by decide +kernel
theorem dX9_goesOn_120 : decode cX9_goesOn 120 = .ok (.iadd, 1) := by decide +kernel
theorem dX9_goesOn_121 : decode cX9_goesOn 121 = .ok (.putfield 276, 3) := by decide +kernel
theorem dX9_goesOn_124 : decode cX9_goesOn 124 = .ok (.goto (-31), 3) := by decide +kernel
theorem dX9_goesOn_127 : decode cX9_goesOn 127 = .ok (.iload_n 1, 1) := by decide +kernel
theorem dX9_goesOn_128 : decode cX9_goesOn 128 = .ok (.i2l, 1) := by decide +kernel
theorem dX9_goesOn_129 : decode cX9_goesOn 129 = .ok (.ldc2_w 291, 3) := by decide +kernel
theorem dX9_goesOn_132 : decode cX9_goesOn 132 = .ok (.ldc2_w 293, 3) := by decide +kernel
theorem dX9_goesOn_135 : decode cX9_goesOn 135 = .ok (.invokestatic 82, 3) := by decide +kernel
theorem dX9_goesOn_138 : decode cX9_goesOn 138 = .ok (.ifCond .eq 71, 3) := by decide +kernel
theorem dX9_goesOn_141 : decode cX9_goesOn 141 = .ok (.aload_n 0, 1) := by decide +kernel
theorem dX9_goesOn_142 : decode cX9_goesOn 142 = .ok (.iconst 2, 1) := by decide +kernel
theorem dX9_goesOn_143 : decode cX9_goesOn 143 = .ok (.putfield 288, 3) := by decide +kernel
theorem dX9_goesOn_146 : decode cX9_goesOn 146 = .ok (.aload_n 0, 1) := by decide +kernel
theorem dX9_goesOn_147 : decode cX9_goesOn 147 = .ok (.aload_n 0, 1) := by decide +kernel
theorem dX9_goesOn_148 : decode cX9_goesOn 148 = .ok (.getfield 276, 3) := by decide +kernel
theorem dX9_goesOn_151 : decode cX9_goesOn 151 = .ok (.invokevirtual 279, 3) := by decide +kernel
theorem dX9_goesOn_154 : decode cX9_goesOn 154 = .ok (.i2l, 1) := by decide +kernel
theorem dX9_goesOn_155 : decode cX9_goesOn 155 = .ok (.ldc2_w 291, 3) := by decide +kernel
theorem dX9_goesOn_158 : decode cX9_goesOn 158 = .ok (.ldc2_w 293, 3) := by decide +kernel
theorem dX9_goesOn_161 : decode cX9_goesOn 161 = .ok (.invokestatic 82, 3) := by decide +kernel
theorem dX9_goesOn_164 : decode cX9_goesOn 164 = .ok (.ifCond .eq 82, 3) := by decide +kernel
theorem dX9_goesOn_167 : decode cX9_goesOn 167 = .ok (.aload_n 0, 1) := by decide +kernel
theorem dX9_goesOn_168 : decode cX9_goesOn 168 = .ok (.ldc_w 295, 3) := by decide +kernel
theorem dX9_goesOn_171 : decode cX9_goesOn 171 = .ok (.bipush 10, 2) := by decide +kernel
theorem dX9_goesOn_173 : decode cX9_goesOn 173 = .ok (.aload_n 0, 1) := by decide +kernel
theorem dX9_goesOn_174 : decode cX9_goesOn 174 = .ok (.getfield 285, 3) := by decide +kernel
theorem dX9_goesOn_177 : decode cX9_goesOn 177 = .ok (.imul, 1) := by decide +kernel
theorem dX9_goesOn_178 : decode cX9_goesOn 178 = .ok (.aload_n 0, 1) := by decide +kernel
theorem dX9_goesOn_179 : decode cX9_goesOn 179 = .ok (.aload_n 0, 1) := by decide +kernel
theorem dX9_goesOn_180 : decode cX9_goesOn 180 = .ok (.getfield 276, 3) := by decide +kernel
theorem dX9_goesOn_183 : decode cX9_goesOn 183 = .ok (.invokevirtual 279, 3) := by decide +kernel
theorem dX9_goesOn_186 : decode cX9_goesOn 186 = .ok (.iadd, 1) := by decide +kernel
theorem dX9_goesOn_187 : decode cX9_goesOn 187 = .ok (.bipush 48, 2) := by decide +kernel
theorem dX9_goesOn_189 : decode cX9_goesOn 189 = .ok (.isub, 1) := by decide +kernel
theorem dX9_goesOn_190 : decode cX9_goesOn 190 = .ok (.invokestatic 167, 3) := by decide +kernel
theorem dX9_goesOn_193 : decode cX9_goesOn 193 = .ok (.putfield 285, 3) := by decide +kernel
theorem dX9_goesOn_196 : decode cX9_goesOn 196 = .ok (.aload_n 0, 1) := by decide +kernel
theorem dX9_goesOn_197 : decode cX9_goesOn 197 = .ok (.dup, 1) := by decide +kernel
theorem dX9_goesOn_198 : decode cX9_goesOn 198 = .ok (.getfield 276, 3) := by decide +kernel
theorem dX9_goesOn_201 : decode cX9_goesOn 201 = .ok (.iconst 1, 1) := by decide +kernel
theorem dX9_goesOn_202 : decode cX9_goesOn 202 = .ok (.iadd, 1) := by decide +kernel
theorem dX9_goesOn_203 : decode cX9_goesOn 203 = .ok (.putfield 276, 3) := by decide +kernel
theorem dX9_goesOn_206 : decode cX9_goesOn 206 = .ok (.goto (-60), 3) := by decide +kernel
theorem dX9_goesOn_209 : decode cX9_goesOn 209 = .ok (.aload_n 0, 1) := by decide +kernel
theorem dX9_goesOn_210 : decode cX9_goesOn 210 = .ok (.iload_n 1, 1) := by decide +kernel
theorem dX9_goesOn_211 : decode cX9_goesOn 211 = .ok (.bipush 59, 2) := by decide +kernel
theorem dX9_goesOn_213 : decode cX9_goesOn 213 = .ok (.if_icmp .eq 15, 3) := by decide +kernel
theorem dX9_goesOn_216 : decode cX9_goesOn 216 = .ok (.iload_n 1, 1) := by decide +kernel
theorem dX9_goesOn_217 : decode cX9_goesOn 217 = .ok (.bipush 123, 2) := by decide +kernel
theorem dX9_goesOn_219 : decode cX9_goesOn 219 = .ok (.if_icmp .eq 9, 3) := by decide +kernel
theorem dX9_goesOn_222 : decode cX9_goesOn 222 = .ok (.iload_n 1, 1) := by decide +kernel
theorem dX9_goesOn_223 : decode cX9_goesOn 223 = .ok (.bipush 125, 2) := by decide +kernel
theorem dX9_goesOn_225 : decode cX9_goesOn 225 = .ok (.if_icmp .ne 7, 3) := by decide +kernel
theorem dX9_goesOn_228 : decode cX9_goesOn 228 = .ok (.iconst 3, 1) := by decide +kernel
theorem dX9_goesOn_229 : decode cX9_goesOn 229 = .ok (.goto 4, 3) := by decide +kernel
theorem dX9_goesOn_232 : decode cX9_goesOn 232 = .ok (.iconst 4, 1) := by decide +kernel
theorem dX9_goesOn_233 : decode cX9_goesOn 233 = .ok (.putfield 288, 3) := by decide +kernel
theorem dX9_goesOn_236 : decode cX9_goesOn 236 = .ok (.aload_n 0, 1) := by decide +kernel
theorem dX9_goesOn_237 : decode cX9_goesOn 237 = .ok (.dup, 1) := by decide +kernel
theorem dX9_goesOn_238 : decode cX9_goesOn 238 = .ok (.getfield 276, 3) := by decide +kernel
theorem dX9_goesOn_241 : decode cX9_goesOn 241 = .ok (.iconst 1, 1) := by decide +kernel
theorem dX9_goesOn_242 : decode cX9_goesOn 242 = .ok (.iadd, 1) := by decide +kernel
theorem dX9_goesOn_243 : decode cX9_goesOn 243 = .ok (.putfield 276, 3) := by decide +kernel
theorem dX9_goesOn_246 : decode cX9_goesOn 246 = .ok (.return_, 1) := by decide +kernel
theorem dX9_isFine_0 : decode cX9_isFine 0 = .ok (.aload_n 0, 1) := by decide +kernel
theorem dX9_isFine_1 : decode cX9_isFine 1 = .ok (.getfield 296, 3) := by decide +kernel
theorem dX9_isFine_4 : decode cX9_isFine 4 = .ok (.ifCond .ne 7, 3) := by decide +kernel
theorem dX9_isFine_7 : decode cX9_isFine 7 = .ok (.iconst 1, 1) := by decide +kernel
theorem dX9_isFine_8 : decode cX9_isFine 8 = .ok (.goto 4, 3) := by decide +kernel
theorem dX9_isFine_11 : decode cX9_isFine 11 = .ok (.iconst 0, 1) := by decide +kernel
theorem dX9_isFine_12 : decode cX9_isFine 12 = .ok (.ireturn, 1) := by decide +kernel
theorem dX9_fails_0 : decode cX9_fails 0 = .ok (.aload_n 0, 1) := by decide +kernel
theorem dX9_fails_1 : decode cX9_fails 1 = .ok (.invokevirtual 299, 3) := by decide +kernel
theorem dX9_fails_4 : decode cX9_fails 4 = .ok (.ifCond .eq 16, 3) := by decide +kernel
theorem dX9_fails_7 : decode cX9_fails 7 = .ok (.aload_n 0, 1) := by decide +kernel
theorem dX9_fails_8 : decode cX9_fails 8 = .ok (.iload_n 1, 1) := by decide +kernel
theorem dX9_fails_9 : decode cX9_fails 9 = .ok (.putfield 296, 3) := by decide +kernel
theorem dX9_fails_12 : decode cX9_fails 12 = .ok (.aload_n 0, 1) := by decide +kernel
theorem dX9_fails_13 : decode cX9_fails 13 = .ok (.aload_n 0, 1) := by decide +kernel
theorem dX9_fails_14 : decode cX9_fails 14 = .ok (.getfield 282, 3) := by decide +kernel
theorem dX9_fails_17 : decode cX9_fails 17 = .ok (.putfield 35, 3) := by decide +kernel
theorem dX9_fails_20 : decode cX9_fails 20 = .ok (.return_, 1) := by decide +kernel
theorem dX9_isWord_0 : decode cX9_isWord 0 = .ok (.aload_n 0, 1) := by decide +kernel
theorem dX9_isWord_1 : decode cX9_isWord 1 = .ok (.invokevirtual 299, 3) := by decide +kernel
theorem dX9_isWord_4 : decode cX9_isWord 4 = .ok (.ifCond .eq 31, 3) := by decide +kernel
theorem dX9_isWord_7 : decode cX9_isWord 7 = .ok (.aload_n 0, 1) := by decide +kernel
theorem dX9_isWord_8 : decode cX9_isWord 8 = .ok (.getfield 288, 3) := by decide +kernel
theorem dX9_isWord_11 : decode cX9_isWord 11 = .ok (.iconst 1, 1) := by decide +kernel
theorem dX9_isWord_12 : decode cX9_isWord 12 = .ok (.if_icmp .ne 23, 3) := by decide +kernel
theorem dX9_isWord_15 : decode cX9_isWord 15 = .ok (.aload_n 0, 1) := by decide +kernel
theorem dX9_isWord_16 : decode cX9_isWord 16 = .ok (.getfield 276, 3) := by decide +kernel
theorem dX9_isWord_19 : decode cX9_isWord 19 = .ok (.aload_n 0, 1) := by decide +kernel
theorem dX9_isWord_20 : decode cX9_isWord 20 = .ok (.getfield 282, 3) := by decide +kernel
theorem dX9_isWord_23 : decode cX9_isWord 23 = .ok (.isub, 1) := by decide +kernel
theorem dX9_isWord_24 : decode cX9_isWord 24 = .ok (.aload_n 1, 1) := by decide +kernel
theorem dX9_isWord_25 : decode cX9_isWord 25 = .ok (.invokevirtual 303, 3) := by decide +kernel
theorem dX9_isWord_28 : decode cX9_isWord 28 = .ok (.if_icmp .ne 7, 3) := by decide +kernel
theorem dX9_isWord_31 : decode cX9_isWord 31 = .ok (.iconst 1, 1) := by decide +kernel
theorem dX9_isWord_32 : decode cX9_isWord 32 = .ok (.goto 4, 3) := by decide +kernel
theorem dX9_isWord_35 : decode cX9_isWord 35 = .ok (.iconst 0, 1) := by decide +kernel
theorem dX9_isWord_36 : decode cX9_isWord 36 = .ok (.istore_n 2, 1) := by decide +kernel
theorem dX9_isWord_37 : decode cX9_isWord 37 = .ok (.iconst 0, 1) := by decide +kernel
theorem dX9_isWord_38 : decode cX9_isWord 38 = .ok (.istore_n 3, 1) := by decide +kernel
theorem dX9_isWord_39 : decode cX9_isWord 39 = .ok (.iload_n 3, 1) := by decide +kernel
theorem dX9_isWord_40 : decode cX9_isWord 40 = .ok (.aload_n 1, 1) := by decide +kernel
theorem dX9_isWord_41 : decode cX9_isWord 41 = .ok (.invokevirtual 303, 3) := by decide +kernel
theorem dX9_isWord_44 : decode cX9_isWord 44 = .ok (.if_icmp .ge 38, 3) := by decide +kernel
theorem dX9_isWord_47 : decode cX9_isWord 47 = .ok (.iload_n 2, 1) := by decide +kernel
theorem dX9_isWord_48 : decode cX9_isWord 48 = .ok (.ifCond .eq 34, 3) := by decide +kernel
theorem dX9_isWord_51 : decode cX9_isWord 51 = .ok (.aload_n 0, 1) := by decide +kernel
theorem dX9_isWord_52 : decode cX9_isWord 52 = .ok (.getfield 29, 3) := by decide +kernel
theorem dX9_isWord_55 : decode cX9_isWord 55 = .ok (.aload_n 0, 1) := by decide +kernel
theorem dX9_isWord_56 : decode cX9_isWord 56 = .ok (.getfield 282, 3) := by decide +kernel
theorem dX9_isWord_59 : decode cX9_isWord 59 = .ok (.iload_n 3, 1) := by decide +kernel
theorem dX9_isWord_60 : decode cX9_isWord 60 = .ok (.iadd, 1) := by decide +kernel
theorem dX9_isWord_61 : decode cX9_isWord 61 = .ok (.iaload, 1) := by decide +kernel
theorem dX9_isWord_62 : decode cX9_isWord 62 = .ok (.aload_n 1, 1) := by decide +kernel
theorem dX9_isWord_63 : decode cX9_isWord 63 = .ok (.iload_n 3, 1) := by decide +kernel
theorem dX9_isWord_64 : decode cX9_isWord 64 = .ok (.invokevirtual 307, 3) := by decide +kernel
theorem dX9_isWord_67 : decode cX9_isWord 67 = .ok (.if_icmp .ne 7, 3) := by decide +kernel
theorem dX9_isWord_70 : decode cX9_isWord 70 = .ok (.iconst 1, 1) := by decide +kernel
theorem dX9_isWord_71 : decode cX9_isWord 71 = .ok (.goto 4, 3) := by decide +kernel
theorem dX9_isWord_74 : decode cX9_isWord 74 = .ok (.iconst 0, 1) := by decide +kernel
theorem dX9_isWord_75 : decode cX9_isWord 75 = .ok (.istore_n 2, 1) := by decide +kernel
theorem dX9_isWord_76 : decode cX9_isWord 76 = .ok (.iinc 3 1, 3) := by decide +kernel
theorem dX9_isWord_79 : decode cX9_isWord 79 = .ok (.goto (-40), 3) := by decide +kernel
theorem dX9_isWord_82 : decode cX9_isWord 82 = .ok (.iload_n 2, 1) := by decide +kernel
theorem dX9_isWord_83 : decode cX9_isWord 83 = .ok (.ireturn, 1) := by decide +kernel
theorem dX9_isSign_0 : decode cX9_isSign 0 = .ok (.aload_n 0, 1) := by decide +kernel
theorem dX9_isSign_1 : decode cX9_isSign 1 = .ok (.invokevirtual 299, 3) := by decide +kernel
theorem dX9_isSign_4 : decode cX9_isSign 4 = .ok (.ifCond .eq 28, 3) := by decide +kernel
theorem dX9_isSign_7 : decode cX9_isSign 7 = .ok (.aload_n 0, 1) := by decide +kernel
theorem dX9_isSign_8 : decode cX9_isSign 8 = .ok (.getfield 288, 3) := by decide +kernel
theorem dX9_isSign_11 : decode cX9_isSign 11 = .ok (.iconst 3, 1) := by decide +kernel
theorem dX9_isSign_12 : decode cX9_isSign 12 = .ok (.if_icmp .ne 20, 3) := by decide +kernel
theorem dX9_isSign_15 : decode cX9_isSign 15 = .ok (.aload_n 0, 1) := by decide +kernel
theorem dX9_isSign_16 : decode cX9_isSign 16 = .ok (.getfield 29, 3) := by decide +kernel
theorem dX9_isSign_19 : decode cX9_isSign 19 = .ok (.aload_n 0, 1) := by decide +kernel
theorem dX9_isSign_20 : decode cX9_isSign 20 = .ok (.getfield 282, 3) := by decide +kernel
theorem dX9_isSign_23 : decode cX9_isSign 23 = .ok (.iaload, 1) := by decide +kernel
theorem dX9_isSign_24 : decode cX9_isSign 24 = .ok (.iload_n 1, 1) := by decide +kernel
theorem dX9_isSign_25 : decode cX9_isSign 25 = .ok (.if_icmp .ne 7, 3) := by decide +kernel
theorem dX9_isSign_28 : decode cX9_isSign 28 = .ok (.iconst 1, 1) := by decide +kernel
theorem dX9_isSign_29 : decode cX9_isSign 29 = .ok (.goto 4, 3) := by decide +kernel
theorem dX9_isSign_32 : decode cX9_isSign 32 = .ok (.iconst 0, 1) := by decide +kernel
theorem dX9_isSign_33 : decode cX9_isSign 33 = .ok (.ireturn, 1) := by decide +kernel
theorem dX9_must_0 : decode cX9_must 0 = .ok (.iload_n 1, 1) := by decide +kernel
theorem dX9_must_1 : decode cX9_must 1 = .ok (.ifCond .ne 8, 3) := by decide +kernel
theorem dX9_must_4 : decode cX9_must 4 = .ok (.aload_n 0, 1) := by decide +kernel
theorem dX9_must_5 : decode cX9_must 5 = .ok (.iconst 1, 1) := by decide +kernel
theorem dX9_must_6 : decode cX9_must 6 = .ok (.invokevirtual 311, 3) := by decide +kernel
theorem dX9_must_9 : decode cX9_must 9 = .ok (.aload_n 0, 1) := by decide +kernel
theorem dX9_must_10 : decode cX9_must 10 = .ok (.invokevirtual 299, 3) := by decide +kernel
theorem dX9_must_13 : decode cX9_must 13 = .ok (.ifCond .eq 7, 3) := by decide +kernel
theorem dX9_must_16 : decode cX9_must 16 = .ok (.aload_n 0, 1) := by decide +kernel
theorem dX9_must_17 : decode cX9_must 17 = .ok (.invokevirtual 314, 3) := by decide +kernel
theorem dX9_must_20 : decode cX9_must 20 = .ok (.return_, 1) := by decide +kernel
theorem dX9_sees_0 : decode cX9_sees 0 = .ok (.aload_n 0, 1) := by decide +kernel
theorem dX9_sees_1 : decode cX9_sees 1 = .ok (.invokevirtual 299, 3) := by decide +kernel
theorem dX9_sees_4 : decode cX9_sees 4 = .ok (.ifCond .eq 16, 3) := by decide +kernel
theorem dX9_sees_7 : decode cX9_sees 7 = .ok (.aload_n 0, 1) := by decide +kernel
theorem dX9_sees_8 : decode cX9_sees 8 = .ok (.getfield 288, 3) := by decide +kernel
theorem dX9_sees_11 : decode cX9_sees 11 = .ok (.iconst 2, 1) := by decide +kernel
theorem dX9_sees_12 : decode cX9_sees 12 = .ok (.if_icmp .eq 8, 3) := by decide +kernel
theorem dX9_sees_15 : decode cX9_sees 15 = .ok (.aload_n 0, 1) := by decide +kernel
theorem dX9_sees_16 : decode cX9_sees 16 = .ok (.iconst 1, 1) := by decide +kernel
theorem dX9_sees_17 : decode cX9_sees 17 = .ok (.invokevirtual 311, 3) := by decide +kernel
theorem dX9_sees_20 : decode cX9_sees 20 = .ok (.aload_n 0, 1) := by decide +kernel
theorem dX9_sees_21 : decode cX9_sees 21 = .ok (.invokevirtual 299, 3) := by decide +kernel
theorem dX9_sees_24 : decode cX9_sees 24 = .ok (.ifCond .eq 23, 3) := by decide +kernel
theorem dX9_sees_27 : decode cX9_sees 27 = .ok (.aload_n 0, 1) := by decide +kernel
theorem dX9_sees_28 : decode cX9_sees 28 = .ok (.getfield 285, 3) := by decide +kernel
theorem dX9_sees_31 : decode cX9_sees 31 = .ok (.i2l, 1) := by decide +kernel
theorem dX9_sees_32 : decode cX9_sees 32 = .ok (.iload_n 1, 1) := by decide +kernel
theorem dX9_sees_33 : decode cX9_sees 33 = .ok (.i2l, 1) := by decide +kernel
theorem dX9_sees_34 : decode cX9_sees 34 = .ok (.iload_n 2, 1) := by decide +kernel
theorem dX9_sees_35 : decode cX9_sees 35 = .ok (.i2l, 1) := by decide +kernel
theorem dX9_sees_36 : decode cX9_sees 36 = .ok (.invokestatic 82, 3) := by decide +kernel
theorem dX9_sees_39 : decode cX9_sees 39 = .ok (.ifCond .ne 8, 3) := by decide +kernel
theorem dX9_sees_42 : decode cX9_sees 42 = .ok (.aload_n 0, 1) := by decide +kernel
theorem dX9_sees_43 : decode cX9_sees 43 = .ok (.iconst 2, 1) := by decide +kernel
theorem dX9_sees_44 : decode cX9_sees 44 = .ok (.invokevirtual 311, 3) := by decide +kernel
theorem dX9_sees_47 : decode cX9_sees 47 = .ok (.aload_n 0, 1) := by decide +kernel
theorem dX9_sees_48 : decode cX9_sees 48 = .ok (.invokevirtual 299, 3) := by decide +kernel
theorem dX9_sees_51 : decode cX9_sees 51 = .ok (.ifCond .eq 10, 3) := by decide +kernel
theorem dX9_sees_54 : decode cX9_sees 54 = .ok (.aload_n 0, 1) := by decide +kernel
theorem dX9_sees_55 : decode cX9_sees 55 = .ok (.getfield 285, 3) := by decide +kernel
theorem dX9_sees_58 : decode cX9_sees 58 = .ok (.goto 4, 3) := by decide +kernel
theorem dX9_sees_61 : decode cX9_sees 61 = .ok (.iload_n 1, 1) := by decide +kernel
theorem dX9_sees_62 : decode cX9_sees 62 = .ok (.ireturn, 1) := by decide +kernel
theorem dX9_takesNumber_0 : decode cX9_takesNumber 0 = .ok (.aload_n 0, 1) := by decide +kernel
theorem dX9_takesNumber_1 : decode cX9_takesNumber 1 = .ok (.iload_n 1, 1) := by decide +kernel
theorem dX9_takesNumber_2 : decode cX9_takesNumber 2 = .ok (.iload_n 2, 1) := by decide +kernel
theorem dX9_takesNumber_3 : decode cX9_takesNumber 3 = .ok (.invokevirtual 317, 3) := by decide +kernel
theorem dX9_takesNumber_6 : decode cX9_takesNumber 6 = .ok (.istore_n 3, 1) := by decide +kernel
theorem dX9_takesNumber_7 : decode cX9_takesNumber 7 = .ok (.aload_n 0, 1) := by decide +kernel
theorem dX9_takesNumber_8 : decode cX9_takesNumber 8 = .ok (.invokevirtual 299, 3) := by decide +kernel
theorem dX9_takesNumber_11 : decode cX9_takesNumber 11 = .ok (.ifCond .eq 7, 3) := by decide +kernel
theorem dX9_takesNumber_14 : decode cX9_takesNumber 14 = .ok (.aload_n 0, 1) := by decide +kernel
theorem dX9_takesNumber_15 : decode cX9_takesNumber 15 = .ok (.invokevirtual 314, 3) := by decide +kernel
theorem dX9_takesNumber_18 : decode cX9_takesNumber 18 = .ok (.iload_n 3, 1) := by decide +kernel
theorem dX9_takesNumber_19 : decode cX9_takesNumber 19 = .ok (.ireturn, 1) := by decide +kernel
theorem dX9_startsText_0 : decode cX9_startsText 0 = .ok (.aload_n 0, 1) := by decide +kernel
theorem dX9_startsText_1 : decode cX9_startsText 1 = .ok (.iconst 0, 1) := by decide +kernel
theorem dX9_startsText_2 : decode cX9_startsText 2 = .ok (.putfield 276, 3) := by decide +kernel
theorem dX9_startsText_5 : decode cX9_startsText 5 = .ok (.aload_n 0, 1) := by decide +kernel
theorem dX9_startsText_6 : decode cX9_startsText 6 = .ok (.iconst 0, 1) := by decide +kernel
theorem dX9_startsText_7 : decode cX9_startsText 7 = .ok (.putfield 296, 3) := by decide +kernel
theorem dX9_startsText_10 : decode cX9_startsText 10 = .ok (.aload_n 0, 1) := by decide +kernel
theorem dX9_startsText_11 : decode cX9_startsText 11 = .ok (.iconst (-1), 1) := by decide +kernel
theorem dX9_startsText_12 : decode cX9_startsText 12 = .ok (.putfield 35, 3) := by decide +kernel
theorem dX9_startsText_15 : decode cX9_startsText 15 = .ok (.aload_n 0, 1) := by decide +kernel
theorem dX9_startsText_16 : decode cX9_startsText 16 = .ok (.invokevirtual 314, 3) := by decide +kernel
theorem dX9_startsText_19 : decode cX9_startsText 19 = .ok (.return_, 1) := by decide +kernel
theorem dX9_endsText_0 : decode cX9_endsText 0 = .ok (.aload_n 0, 1) := by decide +kernel
theorem dX9_endsText_1 : decode cX9_endsText 1 = .ok (.iconst 0, 1) := by decide +kernel
theorem dX9_endsText_2 : decode cX9_endsText 2 = .ok (.putfield 71, 3) := by decide +kernel
theorem dX9_endsText_5 : decode cX9_endsText 5 = .ok (.aload_n 0, 1) := by decide +kernel
theorem dX9_endsText_6 : decode cX9_endsText 6 = .ok (.aload_n 0, 1) := by decide +kernel
theorem dX9_endsText_7 : decode cX9_endsText 7 = .ok (.getfield 296, 3) := by decide +kernel
theorem dX9_endsText_10 : decode cX9_endsText 10 = .ok (.putfield 320, 3) := by decide +kernel
theorem dX9_endsText_13 : decode cX9_endsText 13 = .ok (.aload_n 0, 1) := by decide +kernel
theorem dX9_endsText_14 : decode cX9_endsText 14 = .ok (.aload_n 0, 1) := by decide +kernel
theorem dX9_endsText_15 : decode cX9_endsText 15 = .ok (.getfield 35, 3) := by decide +kernel
theorem dX9_endsText_18 : decode cX9_endsText 18 = .ok (.putfield 39, 3) := by decide +kernel
theorem dX9_endsText_21 : decode cX9_endsText 21 = .ok (.aload_n 0, 1) := by decide +kernel
theorem dX9_endsText_22 : decode cX9_endsText 22 = .ok (.invokevirtual 299, 3) := by decide +kernel
theorem dX9_endsText_25 : decode cX9_endsText 25 = .ok (.ireturn, 1) := by decide +kernel
theorem dX9_errorCode_0 : decode cX9_errorCode 0 = .ok (.aload_n 0, 1) := by decide +kernel
theorem dX9_errorCode_1 : decode cX9_errorCode 1 = .ok (.iconst 0, 1) := by decide +kernel
theorem dX9_errorCode_2 : decode cX9_errorCode 2 = .ok (.putfield 58, 3) := by decide +kernel
theorem dX9_errorCode_5 : decode cX9_errorCode 5 = .ok (.aload_n 0, 1) := by decide +kernel
theorem dX9_errorCode_6 : decode cX9_errorCode 6 = .ok (.getfield 320, 3) := by decide +kernel
theorem dX9_errorCode_9 : decode cX9_errorCode 9 = .ok (.ireturn, 1) := by decide +kernel
theorem dX9_errorPosition_0 : decode cX9_errorPosition 0 = .ok (.aload_n 0, 1) := by decide +kernel
theorem dX9_errorPosition_1 : decode cX9_errorPosition 1 = .ok (.iconst 0, 1) := by decide +kernel
theorem dX9_errorPosition_2 : decode cX9_errorPosition 2 = .ok (.putfield 58, 3) := by decide +kernel
theorem dX9_errorPosition_5 : decode cX9_errorPosition 5 = .ok (.aload_n 0, 1) := by decide +kernel
theorem dX9_errorPosition_6 : decode cX9_errorPosition 6 = .ok (.getfield 39, 3) := by decide +kernel
theorem dX9_errorPosition_9 : decode cX9_errorPosition 9 = .ok (.ireturn, 1) := by decide +kernel
theorem dX9_readsCaption_0 : decode cX9_readsCaption 0 = .ok (.aload_n 0, 1) := by decide +kernel
theorem dX9_readsCaption_1 : decode cX9_readsCaption 1 = .ok (.getfield 13, 3) := by decide +kernel
theorem dX9_readsCaption_4 : decode cX9_readsCaption 4 = .ok (.iconst 5, 1) := by decide +kernel
theorem dX9_readsCaption_5 : decode cX9_readsCaption 5 = .ok (.iaload, 1) := by decide +kernel
theorem dX9_readsCaption_6 : decode cX9_readsCaption 6 = .ok (.bipush 8, 2) := by decide +kernel
theorem dX9_readsCaption_8 : decode cX9_readsCaption 8 = .ok (.if_icmp .ne 9, 3) := by decide +kernel
theorem dX9_readsCaption_11 : decode cX9_readsCaption 11 = .ok (.aload_n 0, 1) := by decide +kernel
theorem dX9_readsCaption_12 : decode cX9_readsCaption 12 = .ok (.bipush 6, 2) := by decide +kernel
theorem dX9_readsCaption_14 : decode cX9_readsCaption 14 = .ok (.invokevirtual 311, 3) := by decide +kernel
theorem dX9_readsCaption_17 : decode cX9_readsCaption 17 = .ok (.aload_n 0, 1) := by decide +kernel
theorem dX9_readsCaption_18 : decode cX9_readsCaption 18 = .ok (.iconst 1, 1) := by decide +kernel
theorem dX9_readsCaption_19 : decode cX9_readsCaption 19 = .ok (.invokevirtual 323, 3) := by decide +kernel
theorem dX9_readsCaption_22 : decode cX9_readsCaption 22 = .ok (.bipush 13, 2) := by decide +kernel
theorem dX9_readsCaption_24 : decode cX9_readsCaption 24 = .ok (.bipush 13, 2) := by decide +kernel
theorem dX9_readsCaption_26 : decode cX9_readsCaption 26 = .ok (.aload_n 0, 1) := by decide +kernel
theorem dX9_readsCaption_27 : decode cX9_readsCaption 27 = .ok (.getfield 13, 3) := by decide +kernel
theorem dX9_readsCaption_30 : decode cX9_readsCaption 30 = .ok (.iconst 5, 1) := by decide +kernel
theorem dX9_readsCaption_31 : decode cX9_readsCaption 31 = .ok (.iaload, 1) := by decide +kernel
theorem dX9_readsCaption_32 : decode cX9_readsCaption 32 = .ok (.bipush 7, 2) := by decide +kernel
theorem dX9_readsCaption_34 : decode cX9_readsCaption 34 = .ok (.invokestatic 167, 3) := by decide +kernel
theorem dX9_readsCaption_37 : decode cX9_readsCaption 37 = .ok (.imul, 1) := by decide +kernel
theorem dX9_readsCaption_38 : decode cX9_readsCaption 38 = .ok (.iadd, 1) := by decide +kernel
theorem dX9_readsCaption_39 : decode cX9_readsCaption 39 = .ok (.istore_n 1, 1) := by decide +kernel
theorem dX9_readsCaption_40 : decode cX9_readsCaption 40 = .ok (.aload_n 0, 1) := by decide +kernel
theorem dX9_readsCaption_41 : decode cX9_readsCaption 41 = .ok (.getfield 276, 3) := by decide +kernel
theorem dX9_readsCaption_44 : decode cX9_readsCaption 44 = .ok (.aload_n 0, 1) := by decide +kernel
theorem dX9_readsCaption_45 : decode cX9_readsCaption 45 = .ok (.getfield 282, 3) := by decide +kernel
theorem dX9_readsCaption_48 : decode cX9_readsCaption 48 = .ok (.isub, 1) := by decide +kernel
theorem dX9_readsCaption_49 : decode cX9_readsCaption 49 = .ok (.istore_n 2, 1) := by decide +kernel
theorem dX9_readsCaption_50 : decode cX9_readsCaption 50 = .ok (.aload_n 0, 1) := by decide +kernel
theorem dX9_readsCaption_51 : decode cX9_readsCaption 51 = .ok (.getfield 288, 3) := by decide +kernel
theorem dX9_readsCaption_54 : decode cX9_readsCaption 54 = .ok (.iconst 1, 1) := by decide +kernel
theorem dX9_readsCaption_55 : decode cX9_readsCaption 55 = .ok (.if_icmp .ne 14, 3) := by decide +kernel
theorem dX9_readsCaption_58 : decode cX9_readsCaption 58 = .ok (.iload_n 2, 1) := by decide +kernel
theorem dX9_readsCaption_59 : decode cX9_readsCaption 59 = .ok (.bipush 8, 2) := by decide +kernel
theorem dX9_readsCaption_61 : decode cX9_readsCaption 61 = .ok (.if_icmp .le 8, 3) := by decide +kernel
theorem dX9_readsCaption_64 : decode cX9_readsCaption 64 = .ok (.aload_n 0, 1) := by decide +kernel
theorem dX9_readsCaption_65 : decode cX9_readsCaption 65 = .ok (.iconst 2, 1) := by decide +kernel
theorem dX9_readsCaption_66 : decode cX9_readsCaption 66 = .ok (.invokevirtual 311, 3) := by decide +kernel
theorem dX9_readsCaption_69 : decode cX9_readsCaption 69 = .ok (.iconst 0, 1) := by decide +kernel
theorem dX9_readsCaption_70 : decode cX9_readsCaption 70 = .ok (.istore_n 3, 1) := by decide +kernel
theorem dX9_readsCaption_71 : decode cX9_readsCaption 71 = .ok (.iload_n 3, 1) := by decide +kernel
theorem dX9_readsCaption_72 : decode cX9_readsCaption 72 = .ok (.iload_n 2, 1) := by decide +kernel
theorem dX9_readsCaption_73 : decode cX9_readsCaption 73 = .ok (.if_icmp .ge 48, 3) := by decide +kernel
theorem dX9_readsCaption_76 : decode cX9_readsCaption 76 = .ok (.aload_n 0, 1) := by decide +kernel
theorem dX9_readsCaption_77 : decode cX9_readsCaption 77 = .ok (.invokevirtual 299, 3) := by decide +kernel
theorem dX9_readsCaption_80 : decode cX9_readsCaption 80 = .ok (.ifCond .eq 41, 3) := by decide +kernel
theorem dX9_readsCaption_83 : decode cX9_readsCaption 83 = .ok (.aload_n 0, 1) := by decide +kernel
theorem dX9_readsCaption_84 : decode cX9_readsCaption 84 = .ok (.getfield 288, 3) := by decide +kernel
theorem dX9_readsCaption_87 : decode cX9_readsCaption 87 = .ok (.iconst 1, 1) := by decide +kernel
theorem dX9_readsCaption_88 : decode cX9_readsCaption 88 = .ok (.if_icmp .ne 33, 3) := by decide +kernel
theorem dX9_readsCaption_91 : decode cX9_readsCaption 91 = .ok (.aload_n 0, 1) := by decide +kernel
theorem dX9_readsCaption_92 : decode cX9_readsCaption 92 = .ok (.getfield 13, 3) := by decide +kernel
theorem dX9_readsCaption_95 : decode cX9_readsCaption 95 = .ok (.iload_n 1, 1) := by decide +kernel
theorem dX9_readsCaption_96 : decode cX9_readsCaption 96 = .ok (.iconst 5, 1) := by decide +kernel
theorem dX9_readsCaption_97 : decode cX9_readsCaption 97 = .ok (.iadd, 1) := by decide +kernel
theorem dX9_readsCaption_98 : decode cX9_readsCaption 98 = .ok (.iload_n 3, 1) := by decide +kernel
theorem dX9_readsCaption_99 : decode cX9_readsCaption 99 = .ok (.iadd, 1) := by decide +kernel
theorem dX9_readsCaption_100 : decode cX9_readsCaption 100 = .ok (.aload_n 0, 1) := by decide +kernel
theorem dX9_readsCaption_101 : decode cX9_readsCaption 101 = .ok (.getfield 29, 3) := by decide +kernel
theorem dX9_readsCaption_104 : decode cX9_readsCaption 104 = .ok (.aload_n 0, 1) := by decide +kernel
theorem dX9_readsCaption_105 : decode cX9_readsCaption 105 = .ok (.getfield 282, 3) := by decide +kernel
theorem dX9_readsCaption_108 : decode cX9_readsCaption 108 = .ok (.iload_n 3, 1) := by decide +kernel
theorem dX9_readsCaption_109 : decode cX9_readsCaption 109 = .ok (.iadd, 1) := by decide +kernel
theorem dX9_readsCaption_110 : decode cX9_readsCaption 110 = .ok (.iaload, 1) := by decide +kernel
theorem dX9_readsCaption_111 : decode cX9_readsCaption 111 = .ok (.bipush 97, 2) := by decide +kernel
theorem dX9_readsCaption_113 : decode cX9_readsCaption 113 = .ok (.isub, 1) := by decide +kernel
theorem dX9_readsCaption_114 : decode cX9_readsCaption 114 = .ok (.iastore, 1) := by decide +kernel
theorem dX9_readsCaption_115 : decode cX9_readsCaption 115 = .ok (.iinc 3 1, 3) := by decide +kernel
theorem dX9_readsCaption_118 : decode cX9_readsCaption 118 = .ok (.goto (-47), 3) := by decide +kernel
theorem dX9_readsCaption_121 : decode cX9_readsCaption 121 = .ok (.aload_n 0, 1) := by decide +kernel
theorem dX9_readsCaption_122 : decode cX9_readsCaption 122 = .ok (.aload_n 0, 1) := by decide +kernel
theorem dX9_readsCaption_123 : decode cX9_readsCaption 123 = .ok (.getfield 288, 3) := by decide +kernel
theorem dX9_readsCaption_126 : decode cX9_readsCaption 126 = .ok (.iconst 1, 1) := by decide +kernel
theorem dX9_readsCaption_127 : decode cX9_readsCaption 127 = .ok (.if_icmp .ne 7, 3) := by decide +kernel
theorem dX9_readsCaption_130 : decode cX9_readsCaption 130 = .ok (.iconst 1, 1) := by decide +kernel
theorem dX9_readsCaption_131 : decode cX9_readsCaption 131 = .ok (.goto 4, 3) := by decide +kernel
theorem dX9_readsCaption_134 : decode cX9_readsCaption 134 = .ok (.iconst 0, 1) := by decide +kernel
theorem dX9_readsCaption_135 : decode cX9_readsCaption 135 = .ok (.invokevirtual 323, 3) := by decide +kernel
theorem dX9_readsCaption_138 : decode cX9_readsCaption 138 = .ok (.aload_n 0, 1) := by decide +kernel
theorem dX9_readsCaption_139 : decode cX9_readsCaption 139 = .ok (.ldc_w 327, 3) := by decide +kernel
theorem dX9_readsCaption_142 : decode cX9_readsCaption 142 = .ok (.invokevirtual 329, 3) := by decide +kernel
theorem dX9_readsCaption_145 : decode cX9_readsCaption 145 = .ok (.ifCond .eq 7, 3) := by decide +kernel
theorem dX9_readsCaption_148 : decode cX9_readsCaption 148 = .ok (.iconst 1, 1) := by decide +kernel
theorem dX9_readsCaption_149 : decode cX9_readsCaption 149 = .ok (.goto 4, 3) := by decide +kernel
theorem dX9_readsCaption_152 : decode cX9_readsCaption 152 = .ok (.iconst 0, 1) := by decide +kernel
theorem dX9_readsCaption_153 : decode cX9_readsCaption 153 = .ok (.istore_n 3, 1) := by decide +kernel
theorem dX9_readsCaption_154 : decode cX9_readsCaption 154 = .ok (.iload_n 3, 1) := by decide +kernel
theorem dX9_readsCaption_155 : decode cX9_readsCaption 155 = .ok (.iconst 1, 1) := by decide +kernel
theorem dX9_readsCaption_156 : decode cX9_readsCaption 156 = .ok (.if_icmp .ne 7, 3) := by decide +kernel
theorem dX9_readsCaption_159 : decode cX9_readsCaption 159 = .ok (.aload_n 0, 1) := by decide +kernel
theorem dX9_readsCaption_160 : decode cX9_readsCaption 160 = .ok (.invokevirtual 314, 3) := by decide +kernel
theorem dX9_readsCaption_163 : decode cX9_readsCaption 163 = .ok (.aload_n 0, 1) := by decide +kernel
theorem dX9_readsCaption_164 : decode cX9_readsCaption 164 = .ok (.aload_n 0, 1) := by decide +kernel
theorem dX9_readsCaption_165 : decode cX9_readsCaption 165 = .ok (.ldc_w 333, 3) := by decide +kernel
theorem dX9_readsCaption_168 : decode cX9_readsCaption 168 = .ok (.invokevirtual 329, 3) := by decide +kernel
theorem dX9_readsCaption_171 : decode cX9_readsCaption 171 = .ok (.invokevirtual 323, 3) := by decide +kernel
theorem dX9_readsCaption_174 : decode cX9_readsCaption 174 = .ok (.aload_n 0, 1) := by decide +kernel
theorem dX9_readsCaption_175 : decode cX9_readsCaption 175 = .ok (.iconst 0, 1) := by decide +kernel
theorem dX9_readsCaption_176 : decode cX9_readsCaption 176 = .ok (.aload_n 0, 1) := by decide +kernel
theorem dX9_readsCaption_177 : decode cX9_readsCaption 177 = .ok (.getfield 13, 3) := by decide +kernel
theorem dX9_readsCaption_180 : decode cX9_readsCaption 180 = .ok (.iconst 0, 1) := by decide +kernel
theorem dX9_readsCaption_181 : decode cX9_readsCaption 181 = .ok (.iaload, 1) := by decide +kernel
theorem dX9_readsCaption_182 : decode cX9_readsCaption 182 = .ok (.iconst 1, 1) := by decide +kernel
theorem dX9_readsCaption_183 : decode cX9_readsCaption 183 = .ok (.isub, 1) := by decide +kernel
theorem dX9_readsCaption_184 : decode cX9_readsCaption 184 = .ok (.invokevirtual 334, 3) := by decide +kernel
theorem dX9_readsCaption_187 : decode cX9_readsCaption 187 = .ok (.istore 4, 2) := by decide +kernel
theorem dX9_readsCaption_189 : decode cX9_readsCaption 189 = .ok (.aload_n 0, 1) := by decide +kernel
theorem dX9_readsCaption_190 : decode cX9_readsCaption 190 = .ok (.iconst 0, 1) := by decide +kernel
theorem dX9_readsCaption_191 : decode cX9_readsCaption 191 = .ok (.aload_n 0, 1) := by decide +kernel
theorem dX9_readsCaption_192 : decode cX9_readsCaption 192 = .ok (.getfield 13, 3) := by decide +kernel
theorem dX9_readsCaption_195 : decode cX9_readsCaption 195 = .ok (.iconst 1, 1) := by decide +kernel
theorem dX9_readsCaption_196 : decode cX9_readsCaption 196 = .ok (.iaload, 1) := by decide +kernel
theorem dX9_readsCaption_197 : decode cX9_readsCaption 197 = .ok (.iconst 1, 1) := by decide +kernel
theorem dX9_readsCaption_198 : decode cX9_readsCaption 198 = .ok (.isub, 1) := by decide +kernel
theorem dX9_readsCaption_199 : decode cX9_readsCaption 199 = .ok (.invokevirtual 317, 3) := by decide +kernel
theorem dX9_readsCaption_202 : decode cX9_readsCaption 202 = .ok (.istore 5, 2) := by decide +kernel
theorem dX9_readsCaption_204 : decode cX9_readsCaption 204 = .ok (.aload_n 0, 1) := by decide +kernel
theorem dX9_readsCaption_205 : decode cX9_readsCaption 205 = .ok (.invokevirtual 299, 3) := by decide +kernel
theorem dX9_readsCaption_208 : decode cX9_readsCaption 208 = .ok (.ifCond .eq 25, 3) := by decide +kernel
theorem dX9_readsCaption_211 : decode cX9_readsCaption 211 = .ok (.aload_n 0, 1) := by decide +kernel
theorem dX9_readsCaption_212 : decode cX9_readsCaption 212 = .ok (.getfield 13, 3) := by decide +kernel
theorem dX9_readsCaption_215 : decode cX9_readsCaption 215 = .ok (.iload_n 2, 1) := by decide +kernel
theorem dX9_readsCaption_216 : decode cX9_readsCaption 216 = .ok (.iload 4, 2) := by decide +kernel
theorem dX9_readsCaption_218 : decode cX9_readsCaption 218 = .ok (.i2l, 1) := by decide +kernel
theorem dX9_readsCaption_219 : decode cX9_readsCaption 219 = .ok (.iload 5, 2) := by decide +kernel
theorem dX9_readsCaption_221 : decode cX9_readsCaption 221 = .ok (.i2l, 1) := by decide +kernel
theorem dX9_readsCaption_222 : decode cX9_readsCaption 222 = .ok (.invokestatic 235, 3) := by decide +kernel
theorem dX9_readsCaption_225 : decode cX9_readsCaption 225 = .ok (.ifCond .ne 8, 3) := by decide +kernel
theorem dX9_readsCaption_228 : decode cX9_readsCaption 228 = .ok (.aload_n 0, 1) := by decide +kernel
theorem dX9_readsCaption_229 : decode cX9_readsCaption 229 = .ok (.iconst 4, 1) := by decide +kernel
theorem dX9_readsCaption_230 : decode cX9_readsCaption 230 = .ok (.invokevirtual 311, 3) := by decide +kernel
theorem dX9_readsCaption_233 : decode cX9_readsCaption 233 = .ok (.aload_n 0, 1) := by decide +kernel
theorem dX9_readsCaption_234 : decode cX9_readsCaption 234 = .ok (.invokevirtual 299, 3) := by decide +kernel
theorem dX9_readsCaption_237 : decode cX9_readsCaption 237 = .ok (.ifCond .eq 25, 3) := by decide +kernel
theorem dX9_readsCaption_240 : decode cX9_readsCaption 240 = .ok (.aload_n 0, 1) := by decide +kernel
theorem dX9_readsCaption_241 : decode cX9_readsCaption 241 = .ok (.getfield 13, 3) := by decide +kernel
theorem dX9_readsCaption_244 : decode cX9_readsCaption 244 = .ok (.iload_n 2, 1) := by decide +kernel
theorem dX9_readsCaption_245 : decode cX9_readsCaption 245 = .ok (.iload_n 3, 1) := by decide +kernel
theorem dX9_readsCaption_246 : decode cX9_readsCaption 246 = .ok (.iload 4, 2) := by decide +kernel
theorem dX9_readsCaption_248 : decode cX9_readsCaption 248 = .ok (.iload 5, 2) := by decide +kernel
theorem dX9_readsCaption_250 : decode cX9_readsCaption 250 = .ok (.iconst (-1), 1) := by decide +kernel
theorem dX9_readsCaption_251 : decode cX9_readsCaption 251 = .ok (.invokestatic 239, 3) := by decide +kernel
theorem dX9_readsCaption_254 : decode cX9_readsCaption 254 = .ok (.ifCond .eq 8, 3) := by decide +kernel
theorem dX9_readsCaption_257 : decode cX9_readsCaption 257 = .ok (.aload_n 0, 1) := by decide +kernel
theorem dX9_readsCaption_258 : decode cX9_readsCaption 258 = .ok (.iconst 5, 1) := by decide +kernel
theorem dX9_readsCaption_259 : decode cX9_readsCaption 259 = .ok (.invokevirtual 311, 3) := by decide +kernel
theorem dX9_readsCaption_262 : decode cX9_readsCaption 262 = .ok (.aload_n 0, 1) := by decide +kernel
theorem dX9_readsCaption_263 : decode cX9_readsCaption 263 = .ok (.iconst 1, 1) := by decide +kernel
theorem dX9_readsCaption_264 : decode cX9_readsCaption 264 = .ok (.invokevirtual 323, 3) := by decide +kernel
theorem dX9_readsCaption_267 : decode cX9_readsCaption 267 = .ok (.aload_n 0, 1) := by decide +kernel
theorem dX9_readsCaption_268 : decode cX9_readsCaption 268 = .ok (.aload_n 0, 1) := by decide +kernel
theorem dX9_readsCaption_269 : decode cX9_readsCaption 269 = .ok (.ldc_w 337, 3) := by decide +kernel
theorem dX9_readsCaption_272 : decode cX9_readsCaption 272 = .ok (.invokevirtual 329, 3) := by decide +kernel
theorem dX9_readsCaption_275 : decode cX9_readsCaption 275 = .ok (.invokevirtual 323, 3) := by decide +kernel
theorem dX9_readsCaption_278 : decode cX9_readsCaption 278 = .ok (.aload_n 0, 1) := by decide +kernel
theorem dX9_readsCaption_279 : decode cX9_readsCaption 279 = .ok (.iconst 1, 1) := by decide +kernel
theorem dX9_readsCaption_280 : decode cX9_readsCaption 280 = .ok (.bipush 6, 2) := by decide +kernel
theorem dX9_readsCaption_282 : decode cX9_readsCaption 282 = .ok (.invokevirtual 334, 3) := by decide +kernel
theorem dX9_readsCaption_285 : decode cX9_readsCaption 285 = .ok (.istore 6, 2) := by decide +kernel
theorem dX9_readsCaption_287 : decode cX9_readsCaption 287 = .ok (.aload_n 0, 1) := by decide +kernel
theorem dX9_readsCaption_288 : decode cX9_readsCaption 288 = .ok (.invokevirtual 299, 3) := by decide +kernel
theorem dX9_readsCaption_291 : decode cX9_readsCaption 291 = .ok (.ifCond .ne 4, 3) := by decide +kernel
theorem dX9_readsCaption_294 : decode cX9_readsCaption 294 = .ok (.return_, 1) := by decide +kernel
theorem dX9_readsCaption_295 : decode cX9_readsCaption 295 = .ok (.aload_n 0, 1) := by decide +kernel
theorem dX9_readsCaption_296 : decode cX9_readsCaption 296 = .ok (.getfield 13, 3) := by decide +kernel
theorem dX9_readsCaption_299 : decode cX9_readsCaption 299 = .ok (.iload_n 1, 1) := by decide +kernel
theorem dX9_readsCaption_300 : decode cX9_readsCaption 300 = .ok (.iconst 0, 1) := by decide +kernel
theorem dX9_readsCaption_301 : decode cX9_readsCaption 301 = .ok (.iadd, 1) := by decide +kernel
theorem dX9_readsCaption_302 : decode cX9_readsCaption 302 = .ok (.iload_n 2, 1) := by decide +kernel
theorem dX9_readsCaption_303 : decode cX9_readsCaption 303 = .ok (.iastore, 1) := by decide +kernel
theorem dX9_readsCaption_304 : decode cX9_readsCaption 304 = .ok (.aload_n 0, 1) := by decide +kernel
theorem dX9_readsCaption_305 : decode cX9_readsCaption 305 = .ok (.getfield 13, 3) := by decide +kernel
theorem dX9_readsCaption_308 : decode cX9_readsCaption 308 = .ok (.iload_n 1, 1) := by decide +kernel
theorem dX9_readsCaption_309 : decode cX9_readsCaption 309 = .ok (.iconst 1, 1) := by decide +kernel
theorem dX9_readsCaption_310 : decode cX9_readsCaption 310 = .ok (.iadd, 1) := by decide +kernel
theorem dX9_readsCaption_311 : decode cX9_readsCaption 311 = .ok (.iload_n 3, 1) := by decide +kernel
theorem dX9_readsCaption_312 : decode cX9_readsCaption 312 = .ok (.iastore, 1) := by decide +kernel
theorem dX9_readsCaption_313 : decode cX9_readsCaption 313 = .ok (.aload_n 0, 1) := by decide +kernel
theorem dX9_readsCaption_314 : decode cX9_readsCaption 314 = .ok (.getfield 13, 3) := by decide +kernel
theorem dX9_readsCaption_317 : decode cX9_readsCaption 317 = .ok (.iload_n 1, 1) := by decide +kernel
theorem dX9_readsCaption_318 : decode cX9_readsCaption 318 = .ok (.iconst 2, 1) := by decide +kernel
theorem dX9_readsCaption_319 : decode cX9_readsCaption 319 = .ok (.iadd, 1) := by decide +kernel
theorem dX9_readsCaption_320 : decode cX9_readsCaption 320 = .ok (.iload 4, 2) := by decide +kernel
theorem dX9_readsCaption_322 : decode cX9_readsCaption 322 = .ok (.iastore, 1) := by decide +kernel
theorem dX9_readsCaption_323 : decode cX9_readsCaption 323 = .ok (.aload_n 0, 1) := by decide +kernel
theorem dX9_readsCaption_324 : decode cX9_readsCaption 324 = .ok (.getfield 13, 3) := by decide +kernel
theorem dX9_readsCaption_327 : decode cX9_readsCaption 327 = .ok (.iload_n 1, 1) := by decide +kernel
theorem dX9_readsCaption_328 : decode cX9_readsCaption 328 = .ok (.iconst 3, 1) := by decide +kernel
theorem dX9_readsCaption_329 : decode cX9_readsCaption 329 = .ok (.iadd, 1) := by decide +kernel
theorem dX9_readsCaption_330 : decode cX9_readsCaption 330 = .ok (.iload 5, 2) := by decide +kernel
theorem dX9_readsCaption_332 : decode cX9_readsCaption 332 = .ok (.iastore, 1) := by decide +kernel
theorem dX9_readsCaption_333 : decode cX9_readsCaption 333 = .ok (.aload_n 0, 1) := by decide +kernel
theorem dX9_readsCaption_334 : decode cX9_readsCaption 334 = .ok (.getfield 13, 3) := by decide +kernel
theorem dX9_readsCaption_337 : decode cX9_readsCaption 337 = .ok (.iload_n 1, 1) := by decide +kernel
theorem dX9_readsCaption_338 : decode cX9_readsCaption 338 = .ok (.iconst 4, 1) := by decide +kernel
theorem dX9_readsCaption_339 : decode cX9_readsCaption 339 = .ok (.iadd, 1) := by decide +kernel
theorem dX9_readsCaption_340 : decode cX9_readsCaption 340 = .ok (.iload 6, 2) := by decide +kernel
theorem dX9_readsCaption_342 : decode cX9_readsCaption 342 = .ok (.iastore, 1) := by decide +kernel
theorem dX9_readsCaption_343 : decode cX9_readsCaption 343 = .ok (.aload_n 0, 1) := by decide +kernel
theorem dX9_readsCaption_344 : decode cX9_readsCaption 344 = .ok (.getfield 13, 3) := by decide +kernel
theorem dX9_readsCaption_347 : decode cX9_readsCaption 347 = .ok (.iconst 5, 1) := by decide +kernel
theorem dX9_readsCaption_348 : decode cX9_readsCaption 348 = .ok (.dup2, 1) := by decide +kernel
theorem dX9_readsCaption_349 : decode cX9_readsCaption 349 = .ok (.iaload, 1) := by decide +kernel
theorem dX9_readsCaption_350 : decode cX9_readsCaption 350 = .ok (.iconst 1, 1) := by decide +kernel
theorem dX9_readsCaption_351 : decode cX9_readsCaption 351 = .ok (.iadd, 1) := by decide +kernel
theorem dX9_readsCaption_352 : decode cX9_readsCaption 352 = .ok (.iastore, 1) := by decide +kernel
theorem dX9_readsCaption_353 : decode cX9_readsCaption 353 = .ok (.return_, 1) := by decide +kernel
theorem dX9_readsStock_0 : decode cX9_readsStock 0 = .ok (.aload_n 0, 1) := by decide +kernel
theorem dX9_readsStock_1 : decode cX9_readsStock 1 = .ok (.invokevirtual 314, 3) := by decide +kernel
theorem dX9_readsStock_4 : decode cX9_readsStock 4 = .ok (.aload_n 0, 1) := by decide +kernel
theorem dX9_readsStock_5 : decode cX9_readsStock 5 = .ok (.iconst 0, 1) := by decide +kernel
theorem dX9_readsStock_6 : decode cX9_readsStock 6 = .ok (.bipush 6, 2) := by decide +kernel
theorem dX9_readsStock_8 : decode cX9_readsStock 8 = .ok (.invokevirtual 317, 3) := by decide +kernel
theorem dX9_readsStock_11 : decode cX9_readsStock 11 = .ok (.istore_n 1, 1) := by decide +kernel
theorem dX9_readsStock_12 : decode cX9_readsStock 12 = .ok (.aload_n 0, 1) := by decide +kernel
theorem dX9_readsStock_13 : decode cX9_readsStock 13 = .ok (.getfield 339, 3) := by decide +kernel
theorem dX9_readsStock_16 : decode cX9_readsStock 16 = .ok (.iload_n 1, 1) := by decide +kernel
theorem dX9_readsStock_17 : decode cX9_readsStock 17 = .ok (.ishr, 1) := by decide +kernel
theorem dX9_readsStock_18 : decode cX9_readsStock 18 = .ok (.iconst 1, 1) := by decide +kernel
theorem dX9_readsStock_19 : decode cX9_readsStock 19 = .ok (.iand, 1) := by decide +kernel
theorem dX9_readsStock_20 : decode cX9_readsStock 20 = .ok (.iconst 1, 1) := by decide +kernel
theorem dX9_readsStock_21 : decode cX9_readsStock 21 = .ok (.if_icmp .ne 8, 3) := by decide +kernel
theorem dX9_readsStock_24 : decode cX9_readsStock 24 = .ok (.aload_n 0, 1) := by decide +kernel
theorem dX9_readsStock_25 : decode cX9_readsStock 25 = .ok (.iconst 3, 1) := by decide +kernel
theorem dX9_readsStock_26 : decode cX9_readsStock 26 = .ok (.invokevirtual 311, 3) := by decide +kernel
theorem dX9_readsStock_29 : decode cX9_readsStock 29 = .ok (.aload_n 0, 1) := by decide +kernel
theorem dX9_readsStock_30 : decode cX9_readsStock 30 = .ok (.dup, 1) := by decide +kernel
theorem dX9_readsStock_31 : decode cX9_readsStock 31 = .ok (.getfield 339, 3) := by decide +kernel
theorem dX9_readsStock_34 : decode cX9_readsStock 34 = .ok (.iconst 1, 1) := by decide +kernel
theorem dX9_readsStock_35 : decode cX9_readsStock 35 = .ok (.iload_n 1, 1) := by decide +kernel
theorem dX9_readsStock_36 : decode cX9_readsStock 36 = .ok (.ishl, 1) := by decide +kernel
theorem dX9_readsStock_37 : decode cX9_readsStock 37 = .ok (.ior, 1) := by decide +kernel
theorem dX9_readsStock_38 : decode cX9_readsStock 38 = .ok (.putfield 339, 3) := by decide +kernel
theorem dX9_readsStock_41 : decode cX9_readsStock 41 = .ok (.aload_n 0, 1) := by decide +kernel
theorem dX9_readsStock_42 : decode cX9_readsStock 42 = .ok (.iconst 1, 1) := by decide +kernel
theorem dX9_readsStock_43 : decode cX9_readsStock 43 = .ok (.invokevirtual 323, 3) := by decide +kernel
theorem dX9_readsStock_46 : decode cX9_readsStock 46 = .ok (.aload_n 0, 1) := by decide +kernel
theorem dX9_readsStock_47 : decode cX9_readsStock 47 = .ok (.getfield 13, 3) := by decide +kernel
theorem dX9_readsStock_50 : decode cX9_readsStock 50 = .ok (.bipush 6, 2) := by decide +kernel
theorem dX9_readsStock_52 : decode cX9_readsStock 52 = .ok (.iload_n 1, 1) := by decide +kernel
theorem dX9_readsStock_53 : decode cX9_readsStock 53 = .ok (.iadd, 1) := by decide +kernel
theorem dX9_readsStock_54 : decode cX9_readsStock 54 = .ok (.aload_n 0, 1) := by decide +kernel
theorem dX9_readsStock_55 : decode cX9_readsStock 55 = .ok (.iconst 0, 1) := by decide +kernel
theorem dX9_readsStock_56 : decode cX9_readsStock 56 = .ok (.sipush 9999, 3) := by decide +kernel
theorem dX9_readsStock_59 : decode cX9_readsStock 59 = .ok (.invokevirtual 334, 3) := by decide +kernel
theorem dX9_readsStock_62 : decode cX9_readsStock 62 = .ok (.iastore, 1) := by decide +kernel
theorem dX9_readsStock_63 : decode cX9_readsStock 63 = .ok (.return_, 1) := by decide +kernel
theorem dX9_readsDelay_0 : decode cX9_readsDelay 0 = .ok (.aload_n 0, 1) := by decide +kernel
theorem dX9_readsDelay_1 : decode cX9_readsDelay 1 = .ok (.getfield 342, 3) := by decide +kernel
theorem dX9_readsDelay_4 : decode cX9_readsDelay 4 = .ok (.ifCond .eq 8, 3) := by decide +kernel
theorem dX9_readsDelay_7 : decode cX9_readsDelay 7 = .ok (.aload_n 0, 1) := by decide +kernel
theorem dX9_readsDelay_8 : decode cX9_readsDelay 8 = .ok (.iconst 3, 1) := by decide +kernel
theorem dX9_readsDelay_9 : decode cX9_readsDelay 9 = .ok (.invokevirtual 311, 3) := by decide +kernel
theorem dX9_readsDelay_12 : decode cX9_readsDelay 12 = .ok (.aload_n 0, 1) := by decide +kernel
theorem dX9_readsDelay_13 : decode cX9_readsDelay 13 = .ok (.iconst 1, 1) := by decide +kernel
theorem dX9_readsDelay_14 : decode cX9_readsDelay 14 = .ok (.putfield 342, 3) := by decide +kernel
theorem dX9_readsDelay_17 : decode cX9_readsDelay 17 = .ok (.aload_n 0, 1) := by decide +kernel
theorem dX9_readsDelay_18 : decode cX9_readsDelay 18 = .ok (.iconst 1, 1) := by decide +kernel
theorem dX9_readsDelay_19 : decode cX9_readsDelay 19 = .ok (.invokevirtual 323, 3) := by decide +kernel
theorem dX9_readsDelay_22 : decode cX9_readsDelay 22 = .ok (.aload_n 0, 1) := by decide +kernel
theorem dX9_readsDelay_23 : decode cX9_readsDelay 23 = .ok (.getfield 13, 3) := by decide +kernel
theorem dX9_readsDelay_26 : decode cX9_readsDelay 26 = .ok (.iconst 2, 1) := by decide +kernel
theorem dX9_readsDelay_27 : decode cX9_readsDelay 27 = .ok (.aload_n 0, 1) := by decide +kernel
theorem dX9_readsDelay_28 : decode cX9_readsDelay 28 = .ok (.iconst 0, 1) := by decide +kernel
theorem dX9_readsDelay_29 : decode cX9_readsDelay 29 = .ok (.bipush 30, 2) := by decide +kernel
theorem dX9_readsDelay_31 : decode cX9_readsDelay 31 = .ok (.invokevirtual 334, 3) := by decide +kernel
theorem dX9_readsDelay_34 : decode cX9_readsDelay 34 = .ok (.iastore, 1) := by decide +kernel
theorem dX9_readsDelay_35 : decode cX9_readsDelay 35 = .ok (.return_, 1) := by decide +kernel
theorem dX9_readsDesign_0 : decode cX9_readsDesign 0 = .ok (.aload_n 0, 1) := by decide +kernel
theorem dX9_readsDesign_1 : decode cX9_readsDesign 1 = .ok (.aload_n 0, 1) := by decide +kernel
theorem dX9_readsDesign_2 : decode cX9_readsDesign 2 = .ok (.ldc_w 346, 3) := by decide +kernel
theorem dX9_readsDesign_5 : decode cX9_readsDesign 5 = .ok (.invokevirtual 329, 3) := by decide +kernel
theorem dX9_readsDesign_8 : decode cX9_readsDesign 8 = .ok (.invokevirtual 323, 3) := by decide +kernel
theorem dX9_readsDesign_11 : decode cX9_readsDesign 11 = .ok (.aload_n 0, 1) := by decide +kernel
theorem dX9_readsDesign_12 : decode cX9_readsDesign 12 = .ok (.bipush 8, 2) := by decide +kernel
theorem dX9_readsDesign_14 : decode cX9_readsDesign 14 = .ok (.bipush 40, 2) := by decide +kernel
theorem dX9_readsDesign_16 : decode cX9_readsDesign 16 = .ok (.invokevirtual 334, 3) := by decide +kernel
theorem dX9_readsDesign_19 : decode cX9_readsDesign 19 = .ok (.istore_n 1, 1) := by decide +kernel
theorem dX9_readsDesign_20 : decode cX9_readsDesign 20 = .ok (.aload_n 0, 1) := by decide +kernel
theorem dX9_readsDesign_21 : decode cX9_readsDesign 21 = .ok (.bipush 6, 2) := by decide +kernel
theorem dX9_readsDesign_23 : decode cX9_readsDesign 23 = .ok (.bipush 30, 2) := by decide +kernel
theorem dX9_readsDesign_25 : decode cX9_readsDesign 25 = .ok (.invokevirtual 334, 3) := by decide +kernel
theorem dX9_readsDesign_28 : decode cX9_readsDesign 28 = .ok (.istore_n 2, 1) := by decide +kernel
theorem dX9_readsDesign_29 : decode cX9_readsDesign 29 = .ok (.aload_n 0, 1) := by decide +kernel
theorem dX9_readsDesign_30 : decode cX9_readsDesign 30 = .ok (.aload_n 0, 1) := by decide +kernel
theorem dX9_readsDesign_31 : decode cX9_readsDesign 31 = .ok (.bipush 59, 2) := by decide +kernel
theorem dX9_readsDesign_33 : decode cX9_readsDesign 33 = .ok (.invokevirtual 348, 3) := by decide +kernel
theorem dX9_readsDesign_36 : decode cX9_readsDesign 36 = .ok (.invokevirtual 323, 3) := by decide +kernel
theorem dX9_readsDesign_39 : decode cX9_readsDesign 39 = .ok (.aload_n 0, 1) := by decide +kernel
theorem dX9_readsDesign_40 : decode cX9_readsDesign 40 = .ok (.getfield 13, 3) := by decide +kernel
theorem dX9_readsDesign_43 : decode cX9_readsDesign 43 = .ok (.iload_n 1, 1) := by decide +kernel
theorem dX9_readsDesign_44 : decode cX9_readsDesign 44 = .ok (.iload_n 2, 1) := by decide +kernel
theorem dX9_readsDesign_45 : decode cX9_readsDesign 45 = .ok (.invokestatic 54, 3) := by decide +kernel
theorem dX9_readsDesign_48 : decode cX9_readsDesign 48 = .ok (.aload_n 0, 1) := by decide +kernel
theorem dX9_readsDesign_49 : decode cX9_readsDesign 49 = .ok (.invokevirtual 299, 3) := by decide +kernel
theorem dX9_readsDesign_52 : decode cX9_readsDesign 52 = .ok (.ifCond .eq 79, 3) := by decide +kernel
theorem dX9_readsDesign_55 : decode cX9_readsDesign 55 = .ok (.aload_n 0, 1) := by decide +kernel
theorem dX9_readsDesign_56 : decode cX9_readsDesign 56 = .ok (.getfield 288, 3) := by decide +kernel
theorem dX9_readsDesign_59 : decode cX9_readsDesign 59 = .ok (.ifCond .eq 72, 3) := by decide +kernel
theorem dX9_readsDesign_62 : decode cX9_readsDesign 62 = .ok (.aload_n 0, 1) := by decide +kernel
theorem dX9_readsDesign_63 : decode cX9_readsDesign 63 = .ok (.ldc_w 351, 3) := by decide +kernel
theorem dX9_readsDesign_66 : decode cX9_readsDesign 66 = .ok (.invokevirtual 329, 3) := by decide +kernel
theorem dX9_readsDesign_69 : decode cX9_readsDesign 69 = .ok (.ifCond .eq 10, 3) := by decide +kernel
theorem dX9_readsDesign_72 : decode cX9_readsDesign 72 = .ok (.aload_n 0, 1) := by decide +kernel
theorem dX9_readsDesign_73 : decode cX9_readsDesign 73 = .ok (.invokevirtual 353, 3) := by decide +kernel
theorem dX9_readsDesign_76 : decode cX9_readsDesign 76 = .ok (.goto 42, 3) := by decide +kernel
theorem dX9_readsDesign_79 : decode cX9_readsDesign 79 = .ok (.aload_n 0, 1) := by decide +kernel
theorem dX9_readsDesign_80 : decode cX9_readsDesign 80 = .ok (.ldc_w 356, 3) := by decide +kernel
theorem dX9_readsDesign_83 : decode cX9_readsDesign 83 = .ok (.invokevirtual 329, 3) := by decide +kernel
theorem dX9_readsDesign_86 : decode cX9_readsDesign 86 = .ok (.ifCond .eq 10, 3) := by decide +kernel
theorem dX9_readsDesign_89 : decode cX9_readsDesign 89 = .ok (.aload_n 0, 1) := by decide +kernel
theorem dX9_readsDesign_90 : decode cX9_readsDesign 90 = .ok (.invokevirtual 358, 3) := by decide +kernel
theorem dX9_readsDesign_93 : decode cX9_readsDesign 93 = .ok (.goto 25, 3) := by decide +kernel
theorem dX9_readsDesign_96 : decode cX9_readsDesign 96 = .ok (.aload_n 0, 1) := by decide +kernel
theorem dX9_readsDesign_97 : decode cX9_readsDesign 97 = .ok (.ldc_w 361, 3) := by decide +kernel
theorem dX9_readsDesign_100 : decode cX9_readsDesign 100 = .ok (.invokevirtual 329, 3) := by decide +kernel
theorem dX9_readsDesign_103 : decode cX9_readsDesign 103 = .ok (.ifCond .eq 10, 3) := by decide +kernel
theorem dX9_readsDesign_106 : decode cX9_readsDesign 106 = .ok (.aload_n 0, 1) := by decide +kernel
theorem dX9_readsDesign_107 : decode cX9_readsDesign 107 = .ok (.invokevirtual 363, 3) := by decide +kernel
theorem dX9_readsDesign_110 : decode cX9_readsDesign 110 = .ok (.goto 8, 3) := by decide +kernel
theorem dX9_readsDesign_113 : decode cX9_readsDesign 113 = .ok (.aload_n 0, 1) := by decide +kernel
theorem dX9_readsDesign_114 : decode cX9_readsDesign 114 = .ok (.iconst 1, 1) := by decide +kernel
theorem dX9_readsDesign_115 : decode cX9_readsDesign 115 = .ok (.invokevirtual 311, 3) := by decide +kernel
theorem dX9_readsDesign_118 : decode cX9_readsDesign 118 = .ok (.aload_n 0, 1) := by decide +kernel
theorem dX9_readsDesign_119 : decode cX9_readsDesign 119 = .ok (.aload_n 0, 1) := by decide +kernel
theorem dX9_readsDesign_120 : decode cX9_readsDesign 120 = .ok (.bipush 59, 2) := by decide +kernel
theorem dX9_readsDesign_122 : decode cX9_readsDesign 122 = .ok (.invokevirtual 348, 3) := by decide +kernel
theorem dX9_readsDesign_125 : decode cX9_readsDesign 125 = .ok (.invokevirtual 323, 3) := by decide +kernel
theorem dX9_readsDesign_128 : decode cX9_readsDesign 128 = .ok (.goto (-80), 3) := by decide +kernel
theorem dX9_readsDesign_131 : decode cX9_readsDesign 131 = .ok (.return_, 1) := by decide +kernel
theorem dX9_load_0 : decode cX9_load 0 = .ok (.aload_n 0, 1) := by decide +kernel
theorem dX9_load_1 : decode cX9_load 1 = .ok (.iconst 0, 1) := by decide +kernel
theorem dX9_load_2 : decode cX9_load 2 = .ok (.putfield 58, 3) := by decide +kernel
theorem dX9_load_5 : decode cX9_load 5 = .ok (.aload_n 0, 1) := by decide +kernel
theorem dX9_load_6 : decode cX9_load 6 = .ok (.iconst 0, 1) := by decide +kernel
theorem dX9_load_7 : decode cX9_load 7 = .ok (.putfield 339, 3) := by decide +kernel
theorem dX9_load_10 : decode cX9_load 10 = .ok (.aload_n 0, 1) := by decide +kernel
theorem dX9_load_11 : decode cX9_load 11 = .ok (.iconst 0, 1) := by decide +kernel
theorem dX9_load_12 : decode cX9_load 12 = .ok (.putfield 342, 3) := by decide +kernel
theorem dX9_load_15 : decode cX9_load 15 = .ok (.aload_n 0, 1) := by decide +kernel
theorem dX9_load_16 : decode cX9_load 16 = .ok (.invokevirtual 366, 3) := by decide +kernel
theorem dX9_load_19 : decode cX9_load 19 = .ok (.aload_n 0, 1) := by decide +kernel
theorem dX9_load_20 : decode cX9_load 20 = .ok (.invokevirtual 369, 3) := by decide +kernel
theorem dX9_load_23 : decode cX9_load 23 = .ok (.aload_n 0, 1) := by decide +kernel
theorem dX9_load_24 : decode cX9_load 24 = .ok (.invokevirtual 372, 3) := by decide +kernel
theorem dX9_load_27 : decode cX9_load 27 = .ok (.ifCond .ne 5, 3) := by decide +kernel
theorem dX9_load_30 : decode cX9_load 30 = .ok (.iconst (-1), 1) := by decide +kernel
theorem dX9_load_31 : decode cX9_load 31 = .ok (.ireturn, 1) := by decide +kernel
theorem dX9_load_32 : decode cX9_load 32 = .ok (.aload_n 0, 1) := by decide +kernel
theorem dX9_load_33 : decode cX9_load 33 = .ok (.getfield 13, 3) := by decide +kernel
theorem dX9_load_36 : decode cX9_load 36 = .ok (.iconst 0, 1) := by decide +kernel
theorem dX9_load_37 : decode cX9_load 37 = .ok (.aload_n 0, 1) := by decide +kernel
theorem dX9_load_38 : decode cX9_load 38 = .ok (.getfield 7, 3) := by decide +kernel
theorem dX9_load_41 : decode cX9_load 41 = .ok (.iconst 0, 1) := by decide +kernel
theorem dX9_load_42 : decode cX9_load 42 = .ok (.invokestatic 64, 3) := by decide +kernel
theorem dX9_load_45 : decode cX9_load 45 = .ok (.aload_n 0, 1) := by decide +kernel
theorem dX9_load_46 : decode cX9_load 46 = .ok (.iconst 0, 1) := by decide +kernel
theorem dX9_load_47 : decode cX9_load 47 = .ok (.putfield 61, 3) := by decide +kernel
theorem dX9_load_50 : decode cX9_load 50 = .ok (.aload_n 0, 1) := by decide +kernel
theorem dX9_load_51 : decode cX9_load 51 = .ok (.getfield 7, 3) := by decide +kernel
theorem dX9_load_54 : decode cX9_load 54 = .ok (.iconst 5, 1) := by decide +kernel
theorem dX9_load_55 : decode cX9_load 55 = .ok (.iaload, 1) := by decide +kernel
theorem dX9_load_56 : decode cX9_load 56 = .ok (.ireturn, 1) := by decide +kernel
theorem dX9_commandHere_0 : decode cX9_commandHere 0 = .ok (.aload_n 0, 1) := by decide +kernel
theorem dX9_commandHere_1 : decode cX9_commandHere 1 = .ok (.ldc_w 375, 3) := by decide +kernel
theorem dX9_commandHere_4 : decode cX9_commandHere 4 = .ok (.invokevirtual 329, 3) := by decide +kernel
theorem dX9_commandHere_7 : decode cX9_commandHere 7 = .ok (.ifCond .eq 7, 3) := by decide +kernel
theorem dX9_commandHere_10 : decode cX9_commandHere 10 = .ok (.iconst 0, 1) := by decide +kernel
theorem dX9_commandHere_11 : decode cX9_commandHere 11 = .ok (.goto 74, 3) := by decide +kernel
theorem dX9_commandHere_14 : decode cX9_commandHere 14 = .ok (.aload_n 0, 1) := by decide +kernel
theorem dX9_commandHere_15 : decode cX9_commandHere 15 = .ok (.ldc_w 377, 3) := by decide +kernel
theorem dX9_commandHere_18 : decode cX9_commandHere 18 = .ok (.invokevirtual 329, 3) := by decide +kernel
theorem dX9_commandHere_21 : decode cX9_commandHere 21 = .ok (.ifCond .eq 7, 3) := by decide +kernel
theorem dX9_commandHere_24 : decode cX9_commandHere 24 = .ok (.iconst 1, 1) := by decide +kernel
theorem dX9_commandHere_25 : decode cX9_commandHere 25 = .ok (.goto 60, 3) := by decide +kernel
theorem dX9_commandHere_28 : decode cX9_commandHere 28 = .ok (.aload_n 0, 1) := by decide +kernel
theorem dX9_commandHere_29 : decode cX9_commandHere 29 = .ok (.ldc_w 379, 3) := by decide +kernel
theorem dX9_commandHere_32 : decode cX9_commandHere 32 = .ok (.invokevirtual 329, 3) := by decide +kernel
theorem dX9_commandHere_35 : decode cX9_commandHere 35 = .ok (.ifCond .eq 7, 3) := by decide +kernel
theorem dX9_commandHere_38 : decode cX9_commandHere 38 = .ok (.iconst 2, 1) := by decide +kernel
theorem dX9_commandHere_39 : decode cX9_commandHere 39 = .ok (.goto 46, 3) := by decide +kernel
theorem dX9_commandHere_42 : decode cX9_commandHere 42 = .ok (.aload_n 0, 1) := by decide +kernel
theorem dX9_commandHere_43 : decode cX9_commandHere 43 = .ok (.ldc_w 381, 3) := by decide +kernel
theorem dX9_commandHere_46 : decode cX9_commandHere 46 = .ok (.invokevirtual 329, 3) := by decide +kernel
theorem dX9_commandHere_49 : decode cX9_commandHere 49 = .ok (.ifCond .eq 7, 3) := by decide +kernel
theorem dX9_commandHere_52 : decode cX9_commandHere 52 = .ok (.iconst 3, 1) := by decide +kernel
theorem dX9_commandHere_53 : decode cX9_commandHere 53 = .ok (.goto 32, 3) := by decide +kernel
theorem dX9_commandHere_56 : decode cX9_commandHere 56 = .ok (.aload_n 0, 1) := by decide +kernel
theorem dX9_commandHere_57 : decode cX9_commandHere 57 = .ok (.ldc_w 383, 3) := by decide +kernel
theorem dX9_commandHere_60 : decode cX9_commandHere 60 = .ok (.invokevirtual 329, 3) := by decide +kernel
theorem dX9_commandHere_63 : decode cX9_commandHere 63 = .ok (.ifCond .eq 7, 3) := by decide +kernel
theorem dX9_commandHere_66 : decode cX9_commandHere 66 = .ok (.iconst 4, 1) := by decide +kernel
theorem dX9_commandHere_67 : decode cX9_commandHere 67 = .ok (.goto 18, 3) := by decide +kernel
theorem dX9_commandHere_70 : decode cX9_commandHere 70 = .ok (.aload_n 0, 1) := by decide +kernel
theorem dX9_commandHere_71 : decode cX9_commandHere 71 = .ok (.ldc_w 385, 3) := by decide +kernel
theorem dX9_commandHere_74 : decode cX9_commandHere 74 = .ok (.invokevirtual 329, 3) := by decide +kernel
theorem dX9_commandHere_77 : decode cX9_commandHere 77 = .ok (.ifCond .eq 7, 3) := by decide +kernel
theorem dX9_commandHere_80 : decode cX9_commandHere 80 = .ok (.iconst 5, 1) := by decide +kernel
theorem dX9_commandHere_81 : decode cX9_commandHere 81 = .ok (.goto 4, 3) := by decide +kernel
theorem dX9_commandHere_84 : decode cX9_commandHere 84 = .ok (.iconst (-1), 1) := by decide +kernel
theorem dX9_commandHere_85 : decode cX9_commandHere 85 = .ok (.ireturn, 1) := by decide +kernel
theorem dX9_lays_0 : decode cX9_lays 0 = .ok (.aload_n 0, 1) := by decide +kernel
theorem dX9_lays_1 : decode cX9_lays 1 = .ok (.getfield 42, 3) := by decide +kernel
theorem dX9_lays_4 : decode cX9_lays 4 = .ok (.iconst 4, 1) := by decide +kernel
theorem dX9_lays_5 : decode cX9_lays 5 = .ok (.aload_n 0, 1) := by decide +kernel
theorem dX9_lays_6 : decode cX9_lays 6 = .ok (.getfield 387, 3) := by decide +kernel
theorem dX9_lays_9 : decode cX9_lays 9 = .ok (.imul, 1) := by decide +kernel
theorem dX9_lays_10 : decode cX9_lays 10 = .ok (.iload_n 1, 1) := by decide +kernel
theorem dX9_lays_11 : decode cX9_lays 11 = .ok (.iastore, 1) := by decide +kernel
theorem dX9_lays_12 : decode cX9_lays 12 = .ok (.aload_n 0, 1) := by decide +kernel
theorem dX9_lays_13 : decode cX9_lays 13 = .ok (.getfield 42, 3) := by decide +kernel
theorem dX9_lays_16 : decode cX9_lays 16 = .ok (.iconst 4, 1) := by decide +kernel
theorem dX9_lays_17 : decode cX9_lays 17 = .ok (.aload_n 0, 1) := by decide +kernel
theorem dX9_lays_18 : decode cX9_lays 18 = .ok (.getfield 387, 3) := by decide +kernel
theorem dX9_lays_21 : decode cX9_lays 21 = .ok (.imul, 1) := by decide +kernel
theorem dX9_lays_22 : decode cX9_lays 22 = .ok (.iconst 1, 1) := by decide +kernel
theorem dX9_lays_23 : decode cX9_lays 23 = .ok (.iadd, 1) := by decide +kernel
theorem dX9_lays_24 : decode cX9_lays 24 = .ok (.iload_n 2, 1) := by decide +kernel
theorem dX9_lays_25 : decode cX9_lays 25 = .ok (.iastore, 1) := by decide +kernel
theorem dX9_lays_26 : decode cX9_lays 26 = .ok (.aload_n 0, 1) := by decide +kernel
theorem dX9_lays_27 : decode cX9_lays 27 = .ok (.getfield 42, 3) := by decide +kernel
theorem dX9_lays_30 : decode cX9_lays 30 = .ok (.iconst 4, 1) := by decide +kernel
theorem dX9_lays_31 : decode cX9_lays 31 = .ok (.aload_n 0, 1) := by decide +kernel
theorem dX9_lays_32 : decode cX9_lays 32 = .ok (.getfield 387, 3) := by decide +kernel
theorem dX9_lays_35 : decode cX9_lays 35 = .ok (.imul, 1) := by decide +kernel
theorem dX9_lays_36 : decode cX9_lays 36 = .ok (.iconst 2, 1) := by decide +kernel
theorem dX9_lays_37 : decode cX9_lays 37 = .ok (.iadd, 1) := by decide +kernel
theorem dX9_lays_38 : decode cX9_lays 38 = .ok (.iload_n 3, 1) := by decide +kernel
theorem dX9_lays_39 : decode cX9_lays 39 = .ok (.iastore, 1) := by decide +kernel
theorem dX9_lays_40 : decode cX9_lays 40 = .ok (.aload_n 0, 1) := by decide +kernel
theorem dX9_lays_41 : decode cX9_lays 41 = .ok (.getfield 42, 3) := by decide +kernel
theorem dX9_lays_44 : decode cX9_lays 44 = .ok (.iconst 4, 1) := by decide +kernel
theorem dX9_lays_45 : decode cX9_lays 45 = .ok (.aload_n 0, 1) := by decide +kernel
theorem dX9_lays_46 : decode cX9_lays 46 = .ok (.getfield 387, 3) := by decide +kernel
theorem dX9_lays_49 : decode cX9_lays 49 = .ok (.imul, 1) := by decide +kernel
theorem dX9_lays_50 : decode cX9_lays 50 = .ok (.iconst 3, 1) := by decide +kernel
theorem dX9_lays_51 : decode cX9_lays 51 = .ok (.iadd, 1) := by decide +kernel
theorem dX9_lays_52 : decode cX9_lays 52 = .ok (.iload 4, 2) := by decide +kernel
theorem dX9_lays_54 : decode cX9_lays 54 = .ok (.iastore, 1) := by decide +kernel
theorem dX9_lays_55 : decode cX9_lays 55 = .ok (.aload_n 0, 1) := by decide +kernel
theorem dX9_lays_56 : decode cX9_lays 56 = .ok (.dup, 1) := by decide +kernel
theorem dX9_lays_57 : decode cX9_lays 57 = .ok (.getfield 387, 3) := by decide +kernel
theorem dX9_lays_60 : decode cX9_lays 60 = .ok (.iconst 1, 1) := by decide +kernel
theorem dX9_lays_61 : decode cX9_lays 61 = .ok (.iadd, 1) := by decide +kernel
theorem dX9_lays_62 : decode cX9_lays 62 = .ok (.putfield 387, 3) := by decide +kernel
theorem dX9_lays_65 : decode cX9_lays 65 = .ok (.return_, 1) := by decide +kernel
theorem dX9_readsCommand_0 : decode cX9_readsCommand 0 = .ok (.aload_n 0, 1) := by decide +kernel
theorem dX9_readsCommand_1 : decode cX9_readsCommand 1 = .ok (.invokevirtual 390, 3) := by decide +kernel
theorem dX9_readsCommand_4 : decode cX9_readsCommand 4 = .ok (.istore_n 1, 1) := by decide +kernel
theorem dX9_readsCommand_5 : decode cX9_readsCommand 5 = .ok (.iload_n 1, 1) := by decide +kernel
theorem dX9_readsCommand_6 : decode cX9_readsCommand 6 = .ok (.iconst (-1), 1) := by decide +kernel
theorem dX9_readsCommand_7 : decode cX9_readsCommand 7 = .ok (.if_icmp .ne 8, 3) := by decide +kernel
theorem dX9_readsCommand_10 : decode cX9_readsCommand 10 = .ok (.aload_n 0, 1) := by decide +kernel
theorem dX9_readsCommand_11 : decode cX9_readsCommand 11 = .ok (.iconst 1, 1) := by decide +kernel
theorem dX9_readsCommand_12 : decode cX9_readsCommand 12 = .ok (.invokevirtual 311, 3) := by decide +kernel
theorem dX9_readsCommand_15 : decode cX9_readsCommand 15 = .ok (.aload_n 0, 1) := by decide +kernel
theorem dX9_readsCommand_16 : decode cX9_readsCommand 16 = .ok (.getfield 393, 3) := by decide +kernel
theorem dX9_readsCommand_19 : decode cX9_readsCommand 19 = .ok (.bipush 30, 2) := by decide +kernel
theorem dX9_readsCommand_21 : decode cX9_readsCommand 21 = .ok (.if_icmp .eq 16, 3) := by decide +kernel
theorem dX9_readsCommand_24 : decode cX9_readsCommand 24 = .ok (.iload_n 1, 1) := by decide +kernel
theorem dX9_readsCommand_25 : decode cX9_readsCommand 25 = .ok (.iconst 5, 1) := by decide +kernel
theorem dX9_readsCommand_26 : decode cX9_readsCommand 26 = .ok (.if_icmp .ne 17, 3) := by decide +kernel
theorem dX9_readsCommand_29 : decode cX9_readsCommand 29 = .ok (.aload_n 0, 1) := by decide +kernel
theorem dX9_readsCommand_30 : decode cX9_readsCommand 30 = .ok (.getfield 396, 3) := by decide +kernel
theorem dX9_readsCommand_33 : decode cX9_readsCommand 33 = .ok (.iconst 3, 1) := by decide +kernel
theorem dX9_readsCommand_34 : decode cX9_readsCommand 34 = .ok (.if_icmp .ne 9, 3) := by decide +kernel
theorem dX9_readsCommand_37 : decode cX9_readsCommand 37 = .ok (.aload_n 0, 1) := by decide +kernel
theorem dX9_readsCommand_38 : decode cX9_readsCommand 38 = .ok (.bipush 6, 2) := by decide +kernel
theorem dX9_readsCommand_40 : decode cX9_readsCommand 40 = .ok (.invokevirtual 311, 3) := by decide +kernel
theorem dX9_readsCommand_43 : decode cX9_readsCommand 43 = .ok (.aload_n 0, 1) := by decide +kernel
theorem dX9_readsCommand_44 : decode cX9_readsCommand 44 = .ok (.invokevirtual 299, 3) := by decide +kernel
theorem dX9_readsCommand_47 : decode cX9_readsCommand 47 = .ok (.ifCond .ne 4, 3) := by decide +kernel
theorem dX9_readsCommand_50 : decode cX9_readsCommand 50 = .ok (.return_, 1) := by decide +kernel
theorem dX9_readsCommand_51 : decode cX9_readsCommand 51 = .ok (.aload_n 0, 1) := by decide +kernel
theorem dX9_readsCommand_52 : decode cX9_readsCommand 52 = .ok (.dup, 1) := by decide +kernel
theorem dX9_readsCommand_53 : decode cX9_readsCommand 53 = .ok (.getfield 393, 3) := by decide +kernel
theorem dX9_readsCommand_56 : decode cX9_readsCommand 56 = .ok (.iconst 1, 1) := by decide +kernel
theorem dX9_readsCommand_57 : decode cX9_readsCommand 57 = .ok (.iadd, 1) := by decide +kernel
theorem dX9_readsCommand_58 : decode cX9_readsCommand 58 = .ok (.putfield 393, 3) := by decide +kernel
theorem dX9_readsCommand_61 : decode cX9_readsCommand 61 = .ok (.aload_n 0, 1) := by decide +kernel
theorem dX9_readsCommand_62 : decode cX9_readsCommand 62 = .ok (.invokevirtual 314, 3) := by decide +kernel
theorem dX9_readsCommand_65 : decode cX9_readsCommand 65 = .ok (.iload_n 1, 1) := by decide +kernel
theorem dX9_readsCommand_66 : decode cX9_readsCommand 66 = .ok (.ifCond .ne 13, 3) := by decide +kernel
theorem dX9_readsCommand_69 : decode cX9_readsCommand 69 = .ok (.aload_n 0, 1) := by decide +kernel
theorem dX9_readsCommand_70 : decode cX9_readsCommand 70 = .ok (.iconst 0, 1) := by decide +kernel
theorem dX9_readsCommand_71 : decode cX9_readsCommand 71 = .ok (.bipush 6, 2) := by decide +kernel
theorem dX9_readsCommand_73 : decode cX9_readsCommand 73 = .ok (.invokevirtual 334, 3) := by decide +kernel
theorem dX9_readsCommand_76 : decode cX9_readsCommand 76 = .ok (.goto 49, 3) := by decide +kernel
theorem dX9_readsCommand_79 : decode cX9_readsCommand 79 = .ok (.iload_n 1, 1) := by decide +kernel
theorem dX9_readsCommand_80 : decode cX9_readsCommand 80 = .ok (.iconst 2, 1) := by decide +kernel
theorem dX9_readsCommand_81 : decode cX9_readsCommand 81 = .ok (.if_icmp .ne 13, 3) := by decide +kernel
theorem dX9_readsCommand_84 : decode cX9_readsCommand 84 = .ok (.aload_n 0, 1) := by decide +kernel
theorem dX9_readsCommand_85 : decode cX9_readsCommand 85 = .ok (.iconst 1, 1) := by decide +kernel
theorem dX9_readsCommand_86 : decode cX9_readsCommand 86 = .ok (.bipush 30, 2) := by decide +kernel
theorem dX9_readsCommand_88 : decode cX9_readsCommand 88 = .ok (.invokevirtual 334, 3) := by decide +kernel
theorem dX9_readsCommand_91 : decode cX9_readsCommand 91 = .ok (.goto 34, 3) := by decide +kernel
theorem dX9_readsCommand_94 : decode cX9_readsCommand 94 = .ok (.iload_n 1, 1) := by decide +kernel
theorem dX9_readsCommand_95 : decode cX9_readsCommand 95 = .ok (.iconst 3, 1) := by decide +kernel
theorem dX9_readsCommand_96 : decode cX9_readsCommand 96 = .ok (.if_icmp .ne 13, 3) := by decide +kernel
theorem dX9_readsCommand_99 : decode cX9_readsCommand 99 = .ok (.aload_n 0, 1) := by decide +kernel
theorem dX9_readsCommand_100 : decode cX9_readsCommand 100 = .ok (.iconst 0, 1) := by decide +kernel
theorem dX9_readsCommand_101 : decode cX9_readsCommand 101 = .ok (.bipush 30, 2) := by decide +kernel
theorem dX9_readsCommand_103 : decode cX9_readsCommand 103 = .ok (.invokevirtual 334, 3) := by decide +kernel
theorem dX9_readsCommand_106 : decode cX9_readsCommand 106 = .ok (.goto 19, 3) := by decide +kernel
theorem dX9_readsCommand_109 : decode cX9_readsCommand 109 = .ok (.iload_n 1, 1) := by decide +kernel
theorem dX9_readsCommand_110 : decode cX9_readsCommand 110 = .ok (.iconst 5, 1) := by decide +kernel
theorem dX9_readsCommand_111 : decode cX9_readsCommand 111 = .ok (.if_icmp .ne 13, 3) := by decide +kernel
theorem dX9_readsCommand_114 : decode cX9_readsCommand 114 = .ok (.aload_n 0, 1) := by decide +kernel
theorem dX9_readsCommand_115 : decode cX9_readsCommand 115 = .ok (.iconst 1, 1) := by decide +kernel
theorem dX9_readsCommand_116 : decode cX9_readsCommand 116 = .ok (.bipush 20, 2) := by decide +kernel
theorem dX9_readsCommand_118 : decode cX9_readsCommand 118 = .ok (.invokevirtual 334, 3) := by decide +kernel
theorem dX9_readsCommand_121 : decode cX9_readsCommand 121 = .ok (.goto 4, 3) := by decide +kernel
theorem dX9_readsCommand_124 : decode cX9_readsCommand 124 = .ok (.iconst 0, 1) := by decide +kernel
theorem dX9_readsCommand_125 : decode cX9_readsCommand 125 = .ok (.istore_n 2, 1) := by decide +kernel
theorem dX9_readsCommand_126 : decode cX9_readsCommand 126 = .ok (.iload_n 1, 1) := by decide +kernel
theorem dX9_readsCommand_127 : decode cX9_readsCommand 127 = .ok (.ifCond .ne 19, 3) := by decide +kernel
theorem dX9_readsCommand_130 : decode cX9_readsCommand 130 = .ok (.aload_n 0, 1) := by decide +kernel
theorem dX9_readsCommand_131 : decode cX9_readsCommand 131 = .ok (.iconst 0, 1) := by decide +kernel
theorem dX9_readsCommand_132 : decode cX9_readsCommand 132 = .ok (.aload_n 0, 1) := by decide +kernel
theorem dX9_readsCommand_133 : decode cX9_readsCommand 133 = .ok (.getfield 7, 3) := by decide +kernel
theorem dX9_readsCommand_136 : decode cX9_readsCommand 136 = .ok (.iconst 0, 1) := by decide +kernel
theorem dX9_readsCommand_137 : decode cX9_readsCommand 137 = .ok (.iaload, 1) := by decide +kernel
theorem dX9_readsCommand_138 : decode cX9_readsCommand 138 = .ok (.iconst 1, 1) := by decide +kernel
theorem dX9_readsCommand_139 : decode cX9_readsCommand 139 = .ok (.isub, 1) := by decide +kernel
theorem dX9_readsCommand_140 : decode cX9_readsCommand 140 = .ok (.invokevirtual 334, 3) := by decide +kernel
theorem dX9_readsCommand_143 : decode cX9_readsCommand 143 = .ok (.goto 23, 3) := by decide +kernel
theorem dX9_readsCommand_146 : decode cX9_readsCommand 146 = .ok (.iload_n 1, 1) := by decide +kernel
theorem dX9_readsCommand_147 : decode cX9_readsCommand 147 = .ok (.iconst 2, 1) := by decide +kernel
theorem dX9_readsCommand_148 : decode cX9_readsCommand 148 = .ok (.if_icmp .ne 17, 3) := by decide +kernel
theorem dX9_readsCommand_151 : decode cX9_readsCommand 151 = .ok (.aload_n 0, 1) := by decide +kernel
theorem dX9_readsCommand_152 : decode cX9_readsCommand 152 = .ok (.ldc_w 399, 3) := by decide +kernel
theorem dX9_readsCommand_155 : decode cX9_readsCommand 155 = .ok (.invokevirtual 329, 3) := by decide +kernel
theorem dX9_readsCommand_158 : decode cX9_readsCommand 158 = .ok (.ifCond .eq 7, 3) := by decide +kernel
theorem dX9_readsCommand_161 : decode cX9_readsCommand 161 = .ok (.iconst 1, 1) := by decide +kernel
theorem dX9_readsCommand_162 : decode cX9_readsCommand 162 = .ok (.goto 4, 3) := by decide +kernel
theorem dX9_readsCommand_165 : decode cX9_readsCommand 165 = .ok (.iconst 0, 1) := by decide +kernel
theorem dX9_readsCommand_166 : decode cX9_readsCommand 166 = .ok (.istore_n 3, 1) := by decide +kernel
theorem dX9_readsCommand_167 : decode cX9_readsCommand 167 = .ok (.iload_n 1, 1) := by decide +kernel
theorem dX9_readsCommand_168 : decode cX9_readsCommand 168 = .ok (.iconst 2, 1) := by decide +kernel
theorem dX9_readsCommand_169 : decode cX9_readsCommand 169 = .ok (.if_icmp .ne 12, 3) := by decide +kernel
theorem dX9_readsCommand_172 : decode cX9_readsCommand 172 = .ok (.iload_n 3, 1) := by decide +kernel
theorem dX9_readsCommand_173 : decode cX9_readsCommand 173 = .ok (.iconst 1, 1) := by decide +kernel
theorem dX9_readsCommand_174 : decode cX9_readsCommand 174 = .ok (.if_icmp .ne 7, 3) := by decide +kernel
theorem dX9_readsCommand_177 : decode cX9_readsCommand 177 = .ok (.aload_n 0, 1) := by decide +kernel
theorem dX9_readsCommand_178 : decode cX9_readsCommand 178 = .ok (.invokevirtual 314, 3) := by decide +kernel
theorem dX9_readsCommand_181 : decode cX9_readsCommand 181 = .ok (.iload_n 1, 1) := by decide +kernel
theorem dX9_readsCommand_182 : decode cX9_readsCommand 182 = .ok (.ifCond .ne 19, 3) := by decide +kernel
theorem dX9_readsCommand_185 : decode cX9_readsCommand 185 = .ok (.aload_n 0, 1) := by decide +kernel
theorem dX9_readsCommand_186 : decode cX9_readsCommand 186 = .ok (.iload_n 3, 1) := by decide +kernel
theorem dX9_readsCommand_187 : decode cX9_readsCommand 187 = .ok (.aload_n 0, 1) := by decide +kernel
theorem dX9_readsCommand_188 : decode cX9_readsCommand 188 = .ok (.getfield 7, 3) := by decide +kernel
theorem dX9_readsCommand_191 : decode cX9_readsCommand 191 = .ok (.iconst 0, 1) := by decide +kernel
theorem dX9_readsCommand_192 : decode cX9_readsCommand 192 = .ok (.iaload, 1) := by decide +kernel
theorem dX9_readsCommand_193 : decode cX9_readsCommand 193 = .ok (.iconst 1, 1) := by decide +kernel
theorem dX9_readsCommand_194 : decode cX9_readsCommand 194 = .ok (.isub, 1) := by decide +kernel
theorem dX9_readsCommand_195 : decode cX9_readsCommand 195 = .ok (.invokevirtual 334, 3) := by decide +kernel
theorem dX9_readsCommand_198 : decode cX9_readsCommand 198 = .ok (.goto 4, 3) := by decide +kernel
theorem dX9_readsCommand_201 : decode cX9_readsCommand 201 = .ok (.iconst 0, 1) := by decide +kernel
theorem dX9_readsCommand_202 : decode cX9_readsCommand 202 = .ok (.istore 4, 2) := by decide +kernel
theorem dX9_readsCommand_204 : decode cX9_readsCommand 204 = .ok (.iload_n 1, 1) := by decide +kernel
theorem dX9_readsCommand_205 : decode cX9_readsCommand 205 = .ok (.iconst 5, 1) := by decide +kernel
theorem dX9_readsCommand_206 : decode cX9_readsCommand 206 = .ok (.if_icmp .ne 13, 3) := by decide +kernel
theorem dX9_readsCommand_209 : decode cX9_readsCommand 209 = .ok (.aload_n 0, 1) := by decide +kernel
theorem dX9_readsCommand_210 : decode cX9_readsCommand 210 = .ok (.aload_n 0, 1) := by decide +kernel
theorem dX9_readsCommand_211 : decode cX9_readsCommand 211 = .ok (.bipush 123, 2) := by decide +kernel
theorem dX9_readsCommand_213 : decode cX9_readsCommand 213 = .ok (.invokevirtual 348, 3) := by decide +kernel
theorem dX9_readsCommand_216 : decode cX9_readsCommand 216 = .ok (.invokevirtual 323, 3) := by decide +kernel
theorem dX9_readsCommand_219 : decode cX9_readsCommand 219 = .ok (.aload_n 0, 1) := by decide +kernel
theorem dX9_readsCommand_220 : decode cX9_readsCommand 220 = .ok (.invokevirtual 299, 3) := by decide +kernel
theorem dX9_readsCommand_223 : decode cX9_readsCommand 223 = .ok (.ifCond .ne 4, 3) := by decide +kernel
theorem dX9_readsCommand_226 : decode cX9_readsCommand 226 = .ok (.return_, 1) := by decide +kernel
theorem dX9_readsCommand_227 : decode cX9_readsCommand 227 = .ok (.aload_n 0, 1) := by decide +kernel
theorem dX9_readsCommand_228 : decode cX9_readsCommand 228 = .ok (.iload_n 1, 1) := by decide +kernel
theorem dX9_readsCommand_229 : decode cX9_readsCommand 229 = .ok (.iload_n 2, 1) := by decide +kernel
theorem dX9_readsCommand_230 : decode cX9_readsCommand 230 = .ok (.iload_n 3, 1) := by decide +kernel
theorem dX9_readsCommand_231 : decode cX9_readsCommand 231 = .ok (.iload 4, 2) := by decide +kernel
theorem dX9_readsCommand_233 : decode cX9_readsCommand 233 = .ok (.invokevirtual 401, 3) := by decide +kernel
theorem dX9_readsCommand_236 : decode cX9_readsCommand 236 = .ok (.iload_n 1, 1) := by decide +kernel
theorem dX9_readsCommand_237 : decode cX9_readsCommand 237 = .ok (.iconst 5, 1) := by decide +kernel
theorem dX9_readsCommand_238 : decode cX9_readsCommand 238 = .ok (.if_icmp .ne 16, 3) := by decide +kernel
theorem dX9_readsCommand_241 : decode cX9_readsCommand 241 = .ok (.aload_n 0, 1) := by decide +kernel
theorem dX9_readsCommand_242 : decode cX9_readsCommand 242 = .ok (.dup, 1) := by decide +kernel
theorem dX9_readsCommand_243 : decode cX9_readsCommand 243 = .ok (.getfield 396, 3) := by decide +kernel
theorem dX9_readsCommand_246 : decode cX9_readsCommand 246 = .ok (.iconst 1, 1) := by decide +kernel
theorem dX9_readsCommand_247 : decode cX9_readsCommand 247 = .ok (.iadd, 1) := by decide +kernel
theorem dX9_readsCommand_248 : decode cX9_readsCommand 248 = .ok (.putfield 396, 3) := by decide +kernel
theorem dX9_readsCommand_251 : decode cX9_readsCommand 251 = .ok (.goto 13, 3) := by decide +kernel
theorem dX9_readsCommand_254 : decode cX9_readsCommand 254 = .ok (.aload_n 0, 1) := by decide +kernel
theorem dX9_readsCommand_255 : decode cX9_readsCommand 255 = .ok (.aload_n 0, 1) := by decide +kernel
theorem dX9_readsCommand_256 : decode cX9_readsCommand 256 = .ok (.bipush 59, 2) := by decide +kernel
theorem dX9_readsCommand_258 : decode cX9_readsCommand 258 = .ok (.invokevirtual 348, 3) := by decide +kernel
theorem dX9_readsCommand_261 : decode cX9_readsCommand 261 = .ok (.invokevirtual 323, 3) := by decide +kernel
theorem dX9_readsCommand_264 : decode cX9_readsCommand 264 = .ok (.return_, 1) := by decide +kernel
theorem dX9_readsScript_0 : decode cX9_readsScript 0 = .ok (.aload_n 0, 1) := by decide +kernel
theorem dX9_readsScript_1 : decode cX9_readsScript 1 = .ok (.iconst 0, 1) := by decide +kernel
theorem dX9_readsScript_2 : decode cX9_readsScript 2 = .ok (.putfield 387, 3) := by decide +kernel
theorem dX9_readsScript_5 : decode cX9_readsScript 5 = .ok (.aload_n 0, 1) := by decide +kernel
theorem dX9_readsScript_6 : decode cX9_readsScript 6 = .ok (.iconst 0, 1) := by decide +kernel
theorem dX9_readsScript_7 : decode cX9_readsScript 7 = .ok (.putfield 393, 3) := by decide +kernel
theorem dX9_readsScript_10 : decode cX9_readsScript 10 = .ok (.aload_n 0, 1) := by decide +kernel
theorem dX9_readsScript_11 : decode cX9_readsScript 11 = .ok (.iconst 0, 1) := by decide +kernel
theorem dX9_readsScript_12 : decode cX9_readsScript 12 = .ok (.putfield 396, 3) := by decide +kernel
theorem dX9_readsScript_15 : decode cX9_readsScript 15 = .ok (.aload_n 0, 1) := by decide +kernel
theorem dX9_readsScript_16 : decode cX9_readsScript 16 = .ok (.invokevirtual 299, 3) := by decide +kernel
theorem dX9_readsScript_19 : decode cX9_readsScript 19 = .ok (.ifCond .eq 69, 3) := by decide +kernel
theorem dX9_readsScript_22 : decode cX9_readsScript 22 = .ok (.aload_n 0, 1) := by decide +kernel
theorem dX9_readsScript_23 : decode cX9_readsScript 23 = .ok (.getfield 288, 3) := by decide +kernel
theorem dX9_readsScript_26 : decode cX9_readsScript 26 = .ok (.ifCond .eq 62, 3) := by decide +kernel
theorem dX9_readsScript_29 : decode cX9_readsScript 29 = .ok (.aload_n 0, 1) := by decide +kernel
theorem dX9_readsScript_30 : decode cX9_readsScript 30 = .ok (.getfield 396, 3) := by decide +kernel
theorem dX9_readsScript_33 : decode cX9_readsScript 33 = .ok (.ifCond .le 48, 3) := by decide +kernel
theorem dX9_readsScript_36 : decode cX9_readsScript 36 = .ok (.aload_n 0, 1) := by decide +kernel
theorem dX9_readsScript_37 : decode cX9_readsScript 37 = .ok (.bipush 125, 2) := by decide +kernel
theorem dX9_readsScript_39 : decode cX9_readsScript 39 = .ok (.invokevirtual 348, 3) := by decide +kernel
theorem dX9_readsScript_42 : decode cX9_readsScript 42 = .ok (.ifCond .eq 39, 3) := by decide +kernel
theorem dX9_readsScript_45 : decode cX9_readsScript 45 = .ok (.aload_n 0, 1) := by decide +kernel
theorem dX9_readsScript_46 : decode cX9_readsScript 46 = .ok (.dup, 1) := by decide +kernel
theorem dX9_readsScript_47 : decode cX9_readsScript 47 = .ok (.getfield 396, 3) := by decide +kernel
theorem dX9_readsScript_50 : decode cX9_readsScript 50 = .ok (.iconst 1, 1) := by decide +kernel
theorem dX9_readsScript_51 : decode cX9_readsScript 51 = .ok (.isub, 1) := by decide +kernel
theorem dX9_readsScript_52 : decode cX9_readsScript 52 = .ok (.putfield 396, 3) := by decide +kernel
theorem dX9_readsScript_55 : decode cX9_readsScript 55 = .ok (.aload_n 0, 1) := by decide +kernel
theorem dX9_readsScript_56 : decode cX9_readsScript 56 = .ok (.bipush 6, 2) := by decide +kernel
theorem dX9_readsScript_58 : decode cX9_readsScript 58 = .ok (.iconst 0, 1) := by decide +kernel
theorem dX9_readsScript_59 : decode cX9_readsScript 59 = .ok (.iconst 0, 1) := by decide +kernel
theorem dX9_readsScript_60 : decode cX9_readsScript 60 = .ok (.iconst 0, 1) := by decide +kernel
theorem dX9_readsScript_61 : decode cX9_readsScript 61 = .ok (.invokevirtual 401, 3) := by decide +kernel
theorem dX9_readsScript_64 : decode cX9_readsScript 64 = .ok (.aload_n 0, 1) := by decide +kernel
theorem dX9_readsScript_65 : decode cX9_readsScript 65 = .ok (.invokevirtual 314, 3) := by decide +kernel
theorem dX9_readsScript_68 : decode cX9_readsScript 68 = .ok (.aload_n 0, 1) := by decide +kernel
theorem dX9_readsScript_69 : decode cX9_readsScript 69 = .ok (.aload_n 0, 1) := by decide +kernel
theorem dX9_readsScript_70 : decode cX9_readsScript 70 = .ok (.bipush 59, 2) := by decide +kernel
theorem dX9_readsScript_72 : decode cX9_readsScript 72 = .ok (.invokevirtual 348, 3) := by decide +kernel
theorem dX9_readsScript_75 : decode cX9_readsScript 75 = .ok (.invokevirtual 323, 3) := by decide +kernel
theorem dX9_readsScript_78 : decode cX9_readsScript 78 = .ok (.goto (-63), 3) := by decide +kernel
theorem dX9_readsScript_81 : decode cX9_readsScript 81 = .ok (.aload_n 0, 1) := by decide +kernel
theorem dX9_readsScript_82 : decode cX9_readsScript 82 = .ok (.invokevirtual 405, 3) := by decide +kernel
theorem dX9_readsScript_85 : decode cX9_readsScript 85 = .ok (.goto (-70), 3) := by decide +kernel
theorem dX9_readsScript_88 : decode cX9_readsScript 88 = .ok (.aload_n 0, 1) := by decide +kernel
theorem dX9_readsScript_89 : decode cX9_readsScript 89 = .ok (.getfield 396, 3) := by decide +kernel
theorem dX9_readsScript_92 : decode cX9_readsScript 92 = .ok (.ifCond .le 8, 3) := by decide +kernel
theorem dX9_readsScript_95 : decode cX9_readsScript 95 = .ok (.aload_n 0, 1) := by decide +kernel
theorem dX9_readsScript_96 : decode cX9_readsScript 96 = .ok (.iconst 1, 1) := by decide +kernel
theorem dX9_readsScript_97 : decode cX9_readsScript 97 = .ok (.invokevirtual 311, 3) := by decide +kernel
theorem dX9_readsScript_100 : decode cX9_readsScript 100 = .ok (.return_, 1) := by decide +kernel
theorem dX9_does_0 : decode cX9_does 0 = .ok (.aload_n 0, 1) := by decide +kernel
theorem dX9_does_1 : decode cX9_does 1 = .ok (.getfield 42, 3) := by decide +kernel
theorem dX9_does_4 : decode cX9_does 4 = .ok (.iload_n 1, 1) := by decide +kernel
theorem dX9_does_5 : decode cX9_does 5 = .ok (.iconst 1, 1) := by decide +kernel
theorem dX9_does_6 : decode cX9_does 6 = .ok (.iadd, 1) := by decide +kernel
theorem dX9_does_7 : decode cX9_does 7 = .ok (.iaload, 1) := by decide +kernel
theorem dX9_does_8 : decode cX9_does 8 = .ok (.istore_n 2, 1) := by decide +kernel
theorem dX9_does_9 : decode cX9_does 9 = .ok (.aload_n 0, 1) := by decide +kernel
theorem dX9_does_10 : decode cX9_does 10 = .ok (.getfield 42, 3) := by decide +kernel
theorem dX9_does_13 : decode cX9_does 13 = .ok (.iload_n 1, 1) := by decide +kernel
theorem dX9_does_14 : decode cX9_does 14 = .ok (.iconst 2, 1) := by decide +kernel
theorem dX9_does_15 : decode cX9_does 15 = .ok (.iadd, 1) := by decide +kernel
theorem dX9_does_16 : decode cX9_does 16 = .ok (.iaload, 1) := by decide +kernel
theorem dX9_does_17 : decode cX9_does 17 = .ok (.istore_n 3, 1) := by decide +kernel
theorem dX9_does_18 : decode cX9_does 18 = .ok (.aload_n 0, 1) := by decide +kernel
theorem dX9_does_19 : decode cX9_does 19 = .ok (.getfield 42, 3) := by decide +kernel
theorem dX9_does_22 : decode cX9_does 22 = .ok (.iload_n 1, 1) := by decide +kernel
theorem dX9_does_23 : decode cX9_does 23 = .ok (.iaload, 1) := by decide +kernel
theorem dX9_does_24 : decode cX9_does 24 = .ok (.tableswitch 74 0 3 #[32, 47, 52, 68], 32) := by decide +kernel
theorem dX9_does_56 : decode cX9_does 56 = .ok (.aload_n 0, 1) := by decide +kernel
theorem dX9_does_57 : decode cX9_does 57 = .ok (.iload_n 2, 1) := by decide +kernel
theorem dX9_does_58 : decode cX9_does 58 = .ok (.iload_n 3, 1) := by decide +kernel
theorem dX9_does_59 : decode cX9_does 59 = .ok (.aload_n 0, 1) := by decide +kernel
theorem dX9_does_60 : decode cX9_does 60 = .ok (.getfield 42, 3) := by decide +kernel
theorem dX9_does_63 : decode cX9_does 63 = .ok (.iload_n 1, 1) := by decide +kernel
theorem dX9_does_64 : decode cX9_does 64 = .ok (.iconst 3, 1) := by decide +kernel
theorem dX9_does_65 : decode cX9_does 65 = .ok (.iadd, 1) := by decide +kernel
theorem dX9_does_66 : decode cX9_does 66 = .ok (.iaload, 1) := by decide +kernel
theorem dX9_does_67 : decode cX9_does 67 = .ok (.invokevirtual 243, 3) := by decide +kernel
theorem dX9_does_70 : decode cX9_does 70 = .ok (.ireturn, 1) := by decide +kernel
theorem dX9_does_71 : decode cX9_does 71 = .ok (.aload_n 0, 1) := by decide +kernel
theorem dX9_does_72 : decode cX9_does 72 = .ok (.invokevirtual 408, 3) := by decide +kernel
theorem dX9_does_75 : decode cX9_does 75 = .ok (.ireturn, 1) := by decide +kernel
theorem dX9_does_76 : decode cX9_does 76 = .ok (.aload_n 0, 1) := by decide +kernel
theorem dX9_does_77 : decode cX9_does 77 = .ok (.iload_n 2, 1) := by decide +kernel
theorem dX9_does_78 : decode cX9_does 78 = .ok (.iload_n 3, 1) := by decide +kernel
theorem dX9_does_79 : decode cX9_does 79 = .ok (.iconst 1, 1) := by decide +kernel
theorem dX9_does_80 : decode cX9_does 80 = .ok (.if_icmp .ne 7, 3) := by decide +kernel
theorem dX9_does_83 : decode cX9_does 83 = .ok (.iconst 1, 1) := by decide +kernel
theorem dX9_does_84 : decode cX9_does 84 = .ok (.goto 4, 3) := by decide +kernel
theorem dX9_does_87 : decode cX9_does 87 = .ok (.iconst 0, 1) := by decide +kernel
theorem dX9_does_88 : decode cX9_does 88 = .ok (.invokevirtual 256, 3) := by decide +kernel
theorem dX9_does_91 : decode cX9_does 91 = .ok (.ireturn, 1) := by decide +kernel
theorem dX9_does_92 : decode cX9_does 92 = .ok (.aload_n 0, 1) := by decide +kernel
theorem dX9_does_93 : decode cX9_does 93 = .ok (.iload_n 2, 1) := by decide +kernel
theorem dX9_does_94 : decode cX9_does 94 = .ok (.invokevirtual 260, 3) := by decide +kernel
theorem dX9_does_97 : decode cX9_does 97 = .ok (.ireturn, 1) := by decide +kernel
theorem dX9_does_98 : decode cX9_does 98 = .ok (.aload_n 0, 1) := by decide +kernel
theorem dX9_does_99 : decode cX9_does 99 = .ok (.invokevirtual 263, 3) := by decide +kernel
theorem dX9_does_102 : decode cX9_does 102 = .ok (.ireturn, 1) := by decide +kernel
theorem dX9_play_0 : decode cX9_play 0 = .ok (.aload_n 0, 1) := by decide +kernel
theorem dX9_play_1 : decode cX9_play 1 = .ok (.iconst 0, 1) := by decide +kernel
theorem dX9_play_2 : decode cX9_play 2 = .ok (.putfield 58, 3) := by decide +kernel
theorem dX9_play_5 : decode cX9_play 5 = .ok (.aload_n 0, 1) := by decide +kernel
theorem dX9_play_6 : decode cX9_play 6 = .ok (.invokevirtual 366, 3) := by decide +kernel
theorem dX9_play_9 : decode cX9_play 9 = .ok (.aload_n 0, 1) := by decide +kernel
theorem dX9_play_10 : decode cX9_play 10 = .ok (.invokevirtual 410, 3) := by decide +kernel
theorem dX9_play_13 : decode cX9_play 13 = .ok (.aload_n 0, 1) := by decide +kernel
theorem dX9_play_14 : decode cX9_play 14 = .ok (.invokevirtual 372, 3) := by decide +kernel
theorem dX9_play_17 : decode cX9_play 17 = .ok (.ifCond .ne 5, 3) := by decide +kernel
theorem dX9_play_20 : decode cX9_play 20 = .ok (.iconst (-1), 1) := by decide +kernel
theorem dX9_play_21 : decode cX9_play 21 = .ok (.ireturn, 1) := by decide +kernel
theorem dX9_play_22 : decode cX9_play 22 = .ok (.iconst 0, 1) := by decide +kernel
theorem dX9_play_23 : decode cX9_play 23 = .ok (.istore_n 1, 1) := by decide +kernel
theorem dX9_play_24 : decode cX9_play 24 = .ok (.iconst 0, 1) := by decide +kernel
theorem dX9_play_25 : decode cX9_play 25 = .ok (.istore_n 2, 1) := by decide +kernel
theorem dX9_play_26 : decode cX9_play 26 = .ok (.iconst 0, 1) := by decide +kernel
theorem dX9_play_27 : decode cX9_play 27 = .ok (.istore_n 3, 1) := by decide +kernel
theorem dX9_play_28 : decode cX9_play 28 = .ok (.iload_n 3, 1) := by decide +kernel
theorem dX9_play_29 : decode cX9_play 29 = .ok (.aload_n 0, 1) := by decide +kernel
theorem dX9_play_30 : decode cX9_play 30 = .ok (.getfield 387, 3) := by decide +kernel
theorem dX9_play_33 : decode cX9_play 33 = .ok (.if_icmp .ge 154, 3) := by decide +kernel
theorem dX9_play_36 : decode cX9_play 36 = .ok (.iload_n 1, 1) := by decide +kernel
theorem dX9_play_37 : decode cX9_play 37 = .ok (.sipush 200, 3) := by decide +kernel
theorem dX9_play_40 : decode cX9_play 40 = .ok (.if_icmp .ge 147, 3) := by decide +kernel
theorem dX9_play_43 : decode cX9_play 43 = .ok (.aload_n 0, 1) := by decide +kernel
theorem dX9_play_44 : decode cX9_play 44 = .ok (.getfield 42, 3) := by decide +kernel
theorem dX9_play_47 : decode cX9_play 47 = .ok (.iconst 4, 1) := by decide +kernel
theorem dX9_play_48 : decode cX9_play 48 = .ok (.iload_n 3, 1) := by decide +kernel
theorem dX9_play_49 : decode cX9_play 49 = .ok (.imul, 1) := by decide +kernel
theorem dX9_play_50 : decode cX9_play 50 = .ok (.iaload, 1) := by decide +kernel
theorem dX9_play_51 : decode cX9_play 51 = .ok (.istore 4, 2) := by decide +kernel
theorem dX9_play_53 : decode cX9_play 53 = .ok (.iload 4, 2) := by decide +kernel
theorem dX9_play_55 : decode cX9_play 55 = .ok (.iconst 5, 1) := by decide +kernel
theorem dX9_play_56 : decode cX9_play 56 = .ok (.if_icmp .ne 35, 3) := by decide +kernel
theorem dX9_play_59 : decode cX9_play 59 = .ok (.aload_n 0, 1) := by decide +kernel
theorem dX9_play_60 : decode cX9_play 60 = .ok (.getfield 45, 3) := by decide +kernel
theorem dX9_play_63 : decode cX9_play 63 = .ok (.iload_n 2, 1) := by decide +kernel
theorem dX9_play_64 : decode cX9_play 64 = .ok (.iload_n 3, 1) := by decide +kernel
theorem dX9_play_65 : decode cX9_play 65 = .ok (.iastore, 1) := by decide +kernel
theorem dX9_play_66 : decode cX9_play 66 = .ok (.aload_n 0, 1) := by decide +kernel
theorem dX9_play_67 : decode cX9_play 67 = .ok (.getfield 48, 3) := by decide +kernel
theorem dX9_play_70 : decode cX9_play 70 = .ok (.iload_n 2, 1) := by decide +kernel
theorem dX9_play_71 : decode cX9_play 71 = .ok (.aload_n 0, 1) := by decide +kernel
theorem dX9_play_72 : decode cX9_play 72 = .ok (.getfield 42, 3) := by decide +kernel
theorem dX9_play_75 : decode cX9_play 75 = .ok (.iconst 4, 1) := by decide +kernel
theorem dX9_play_76 : decode cX9_play 76 = .ok (.iload_n 3, 1) := by decide +kernel
theorem dX9_play_77 : decode cX9_play 77 = .ok (.imul, 1) := by decide +kernel
theorem dX9_play_78 : decode cX9_play 78 = .ok (.iconst 1, 1) := by decide +kernel
theorem dX9_play_79 : decode cX9_play 79 = .ok (.iadd, 1) := by decide +kernel
theorem dX9_play_80 : decode cX9_play 80 = .ok (.iaload, 1) := by decide +kernel
theorem dX9_play_81 : decode cX9_play 81 = .ok (.iastore, 1) := by decide +kernel
theorem dX9_play_82 : decode cX9_play 82 = .ok (.iinc 2 1, 3) := by decide +kernel
theorem dX9_play_85 : decode cX9_play 85 = .ok (.iinc 3 1, 3) := by decide +kernel
theorem dX9_play_88 : decode cX9_play 88 = .ok (.goto 96, 3) := by decide +kernel
theorem dX9_play_91 : decode cX9_play 91 = .ok (.iload 4, 2) := by decide +kernel
theorem dX9_play_93 : decode cX9_play 93 = .ok (.bipush 6, 2) := by decide +kernel
theorem dX9_play_95 : decode cX9_play 95 = .ok (.if_icmp .ne 71, 3) := by decide +kernel
theorem dX9_play_98 : decode cX9_play 98 = .ok (.aload_n 0, 1) := by decide +kernel
theorem dX9_play_99 : decode cX9_play 99 = .ok (.getfield 48, 3) := by decide +kernel
theorem dX9_play_102 : decode cX9_play 102 = .ok (.iload_n 2, 1) := by decide +kernel
theorem dX9_play_103 : decode cX9_play 103 = .ok (.iconst 1, 1) := by decide +kernel
theorem dX9_play_104 : decode cX9_play 104 = .ok (.isub, 1) := by decide +kernel
theorem dX9_play_105 : decode cX9_play 105 = .ok (.dup2, 1) := by decide +kernel
theorem dX9_play_106 : decode cX9_play 106 = .ok (.iaload, 1) := by decide +kernel
theorem dX9_play_107 : decode cX9_play 107 = .ok (.iconst 1, 1) := by decide +kernel
theorem dX9_play_108 : decode cX9_play 108 = .ok (.isub, 1) := by decide +kernel
theorem dX9_play_109 : decode cX9_play 109 = .ok (.iastore, 1) := by decide +kernel
theorem dX9_play_110 : decode cX9_play 110 = .ok (.aload_n 0, 1) := by decide +kernel
theorem dX9_play_111 : decode cX9_play 111 = .ok (.getfield 48, 3) := by decide +kernel
theorem dX9_play_114 : decode cX9_play 114 = .ok (.iload_n 2, 1) := by decide +kernel
theorem dX9_play_115 : decode cX9_play 115 = .ok (.iconst 1, 1) := by decide +kernel
theorem dX9_play_116 : decode cX9_play 116 = .ok (.isub, 1) := by decide +kernel
theorem dX9_play_117 : decode cX9_play 117 = .ok (.iaload, 1) := by decide +kernel
theorem dX9_play_118 : decode cX9_play 118 = .ok (.ifCond .le 7, 3) := by decide +kernel
theorem dX9_play_121 : decode cX9_play 121 = .ok (.iconst 1, 1) := by decide +kernel
theorem dX9_play_122 : decode cX9_play 122 = .ok (.goto 4, 3) := by decide +kernel
theorem dX9_play_125 : decode cX9_play 125 = .ok (.iconst 0, 1) := by decide +kernel
theorem dX9_play_126 : decode cX9_play 126 = .ok (.istore 5, 2) := by decide +kernel
theorem dX9_play_128 : decode cX9_play 128 = .ok (.iload 5, 2) := by decide +kernel
theorem dX9_play_130 : decode cX9_play 130 = .ok (.ifCond .eq 16, 3) := by decide +kernel
theorem dX9_play_133 : decode cX9_play 133 = .ok (.aload_n 0, 1) := by decide +kernel
theorem dX9_play_134 : decode cX9_play 134 = .ok (.getfield 45, 3) := by decide +kernel
theorem dX9_play_137 : decode cX9_play 137 = .ok (.iload_n 2, 1) := by decide +kernel
theorem dX9_play_138 : decode cX9_play 138 = .ok (.iconst 1, 1) := by decide +kernel
theorem dX9_play_139 : decode cX9_play 139 = .ok (.isub, 1) := by decide +kernel
theorem dX9_play_140 : decode cX9_play 140 = .ok (.iaload, 1) := by decide +kernel
theorem dX9_play_141 : decode cX9_play 141 = .ok (.iconst 1, 1) := by decide +kernel
theorem dX9_play_142 : decode cX9_play 142 = .ok (.iadd, 1) := by decide +kernel
theorem dX9_play_143 : decode cX9_play 143 = .ok (.goto 6, 3) := by decide +kernel
theorem dX9_play_146 : decode cX9_play 146 = .ok (.iload_n 3, 1) := by decide +kernel
theorem dX9_play_147 : decode cX9_play 147 = .ok (.iconst 1, 1) := by decide +kernel
theorem dX9_play_148 : decode cX9_play 148 = .ok (.iadd, 1) := by decide +kernel
theorem dX9_play_149 : decode cX9_play 149 = .ok (.istore_n 3, 1) := by decide +kernel
theorem dX9_play_150 : decode cX9_play 150 = .ok (.iload_n 2, 1) := by decide +kernel
theorem dX9_play_151 : decode cX9_play 151 = .ok (.iload 5, 2) := by decide +kernel
theorem dX9_play_153 : decode cX9_play 153 = .ok (.ifCond .eq 7, 3) := by decide +kernel
theorem dX9_play_156 : decode cX9_play 156 = .ok (.iconst 0, 1) := by decide +kernel
theorem dX9_play_157 : decode cX9_play 157 = .ok (.goto 4, 3) := by decide +kernel
theorem dX9_play_160 : decode cX9_play 160 = .ok (.iconst 1, 1) := by decide +kernel
theorem dX9_play_161 : decode cX9_play 161 = .ok (.isub, 1) := by decide +kernel
theorem dX9_play_162 : decode cX9_play 162 = .ok (.istore_n 2, 1) := by decide +kernel
theorem dX9_play_163 : decode cX9_play 163 = .ok (.goto 21, 3) := by decide +kernel
theorem dX9_play_166 : decode cX9_play 166 = .ok (.aload_n 0, 1) := by decide +kernel
theorem dX9_play_167 : decode cX9_play 167 = .ok (.iconst 4, 1) := by decide +kernel
theorem dX9_play_168 : decode cX9_play 168 = .ok (.iload_n 3, 1) := by decide +kernel
theorem dX9_play_169 : decode cX9_play 169 = .ok (.imul, 1) := by decide +kernel
theorem dX9_play_170 : decode cX9_play 170 = .ok (.invokevirtual 413, 3) := by decide +kernel
theorem dX9_play_173 : decode cX9_play 173 = .ok (.ifCond .ge 5, 3) := by decide +kernel
theorem dX9_play_176 : decode cX9_play 176 = .ok (.iload_n 1, 1) := by decide +kernel
theorem dX9_play_177 : decode cX9_play 177 = .ok (.ireturn, 1) := by decide +kernel
theorem dX9_play_178 : decode cX9_play 178 = .ok (.iinc 1 1, 3) := by decide +kernel
theorem dX9_play_181 : decode cX9_play 181 = .ok (.iinc 3 1, 3) := by decide +kernel
theorem dX9_play_184 : decode cX9_play 184 = .ok (.goto (-156), 3) := by decide +kernel
theorem dX9_play_187 : decode cX9_play 187 = .ok (.iload_n 1, 1) := by decide +kernel
theorem dX9_play_188 : decode cX9_play 188 = .ok (.ireturn, 1) := by decide +kernel
theorem dX9_says_0 : decode cX9_says 0 = .ok (.aload_n 0, 1) := by decide +kernel
theorem dX9_says_1 : decode cX9_says 1 = .ok (.getfield 51, 3) := by decide +kernel
theorem dX9_says_4 : decode cX9_says 4 = .ok (.aload_n 0, 1) := by decide +kernel
theorem dX9_says_5 : decode cX9_says 5 = .ok (.getfield 416, 3) := by decide +kernel
theorem dX9_says_8 : decode cX9_says 8 = .ok (.iload_n 1, 1) := by decide +kernel
theorem dX9_says_9 : decode cX9_says 9 = .ok (.iastore, 1) := by decide +kernel
theorem dX9_says_10 : decode cX9_says 10 = .ok (.aload_n 0, 1) := by decide +kernel
theorem dX9_says_11 : decode cX9_says 11 = .ok (.dup, 1) := by decide +kernel
theorem dX9_says_12 : decode cX9_says 12 = .ok (.getfield 416, 3) := by decide +kernel
theorem dX9_says_15 : decode cX9_says 15 = .ok (.iconst 1, 1) := by decide +kernel
theorem dX9_says_16 : decode cX9_says 16 = .ok (.iadd, 1) := by decide +kernel
theorem dX9_says_17 : decode cX9_says 17 = .ok (.putfield 416, 3) := by decide +kernel
theorem dX9_says_20 : decode cX9_says 20 = .ok (.return_, 1) := by decide +kernel
theorem dX9_writeRow_0 : decode cX9_writeRow 0 = .ok (.aload_n 0, 1) := by decide +kernel
theorem dX9_writeRow_1 : decode cX9_writeRow 1 = .ok (.aload_n 0, 1) := by decide +kernel
theorem dX9_writeRow_2 : decode cX9_writeRow 2 = .ok (.iload_n 1, 1) := by decide +kernel
theorem dX9_writeRow_3 : decode cX9_writeRow 3 = .ok (.invokevirtual 189, 3) := by decide +kernel
theorem dX9_writeRow_6 : decode cX9_writeRow 6 = .ok (.invokevirtual 74, 3) := by decide +kernel
theorem dX9_writeRow_9 : decode cX9_writeRow 9 = .ok (.ifCond .ne 5, 3) := by decide +kernel
theorem dX9_writeRow_12 : decode cX9_writeRow 12 = .ok (.iconst 0, 1) := by decide +kernel
theorem dX9_writeRow_13 : decode cX9_writeRow 13 = .ok (.ireturn, 1) := by decide +kernel
theorem dX9_writeRow_14 : decode cX9_writeRow 14 = .ok (.aload_n 0, 1) := by decide +kernel
theorem dX9_writeRow_15 : decode cX9_writeRow 15 = .ok (.iconst 0, 1) := by decide +kernel
theorem dX9_writeRow_16 : decode cX9_writeRow 16 = .ok (.putfield 416, 3) := by decide +kernel
theorem dX9_writeRow_19 : decode cX9_writeRow 19 = .ok (.iconst 0, 1) := by decide +kernel
theorem dX9_writeRow_20 : decode cX9_writeRow 20 = .ok (.istore_n 3, 1) := by decide +kernel
theorem dX9_writeRow_21 : decode cX9_writeRow 21 = .ok (.iload_n 3, 1) := by decide +kernel
theorem dX9_writeRow_22 : decode cX9_writeRow 22 = .ok (.aload_n 0, 1) := by decide +kernel
theorem dX9_writeRow_23 : decode cX9_writeRow 23 = .ok (.getfield 7, 3) := by decide +kernel
theorem dX9_writeRow_26 : decode cX9_writeRow 26 = .ok (.iconst 0, 1) := by decide +kernel
theorem dX9_writeRow_27 : decode cX9_writeRow 27 = .ok (.iaload, 1) := by decide +kernel
theorem dX9_writeRow_28 : decode cX9_writeRow 28 = .ok (.if_icmp .ge 77, 3) := by decide +kernel
theorem dX9_writeRow_31 : decode cX9_writeRow 31 = .ok (.iload_n 2, 1) := by decide +kernel
theorem dX9_writeRow_32 : decode cX9_writeRow 32 = .ok (.ifCond .eq 11, 3) := by decide +kernel
theorem dX9_writeRow_35 : decode cX9_writeRow 35 = .ok (.aload_n 0, 1) := by decide +kernel
theorem dX9_writeRow_36 : decode cX9_writeRow 36 = .ok (.iload_n 3, 1) := by decide +kernel
theorem dX9_writeRow_37 : decode cX9_writeRow 37 = .ok (.invokevirtual 102, 3) := by decide +kernel
theorem dX9_writeRow_40 : decode cX9_writeRow 40 = .ok (.goto 4, 3) := by decide +kernel
theorem dX9_writeRow_43 : decode cX9_writeRow 43 = .ok (.iload_n 3, 1) := by decide +kernel
theorem dX9_writeRow_44 : decode cX9_writeRow 44 = .ok (.istore 4, 2) := by decide +kernel
theorem dX9_writeRow_46 : decode cX9_writeRow 46 = .ok (.aload_n 0, 1) := by decide +kernel
theorem dX9_writeRow_47 : decode cX9_writeRow 47 = .ok (.iload 4, 2) := by decide +kernel
theorem dX9_writeRow_49 : decode cX9_writeRow 49 = .ok (.iload_n 1, 1) := by decide +kernel
theorem dX9_writeRow_50 : decode cX9_writeRow 50 = .ok (.invokevirtual 113, 3) := by decide +kernel
theorem dX9_writeRow_53 : decode cX9_writeRow 53 = .ok (.istore 5, 2) := by decide +kernel
theorem dX9_writeRow_55 : decode cX9_writeRow 55 = .ok (.aload_n 0, 1) := by decide +kernel
theorem dX9_writeRow_56 : decode cX9_writeRow 56 = .ok (.iload 5, 2) := by decide +kernel
theorem dX9_writeRow_58 : decode cX9_writeRow 58 = .ok (.iconst (-1), 1) := by decide +kernel
theorem dX9_writeRow_59 : decode cX9_writeRow 59 = .ok (.if_icmp .ne 8, 3) := by decide +kernel
theorem dX9_writeRow_62 : decode cX9_writeRow 62 = .ok (.bipush 46, 2) := by decide +kernel
theorem dX9_writeRow_64 : decode cX9_writeRow 64 = .ok (.goto 8, 3) := by decide +kernel
theorem dX9_writeRow_67 : decode cX9_writeRow 67 = .ok (.bipush 48, 2) := by decide +kernel
theorem dX9_writeRow_69 : decode cX9_writeRow 69 = .ok (.iload 5, 2) := by decide +kernel
theorem dX9_writeRow_71 : decode cX9_writeRow 71 = .ok (.iadd, 1) := by decide +kernel
theorem dX9_writeRow_72 : decode cX9_writeRow 72 = .ok (.invokevirtual 419, 3) := by decide +kernel
theorem dX9_writeRow_75 : decode cX9_writeRow 75 = .ok (.aload_n 0, 1) := by decide +kernel
theorem dX9_writeRow_76 : decode cX9_writeRow 76 = .ok (.iload 4, 2) := by decide +kernel
theorem dX9_writeRow_78 : decode cX9_writeRow 78 = .ok (.iload_n 1, 1) := by decide +kernel
theorem dX9_writeRow_79 : decode cX9_writeRow 79 = .ok (.invokevirtual 119, 3) := by decide +kernel
theorem dX9_writeRow_82 : decode cX9_writeRow 82 = .ok (.ifCond .eq 17, 3) := by decide +kernel
theorem dX9_writeRow_85 : decode cX9_writeRow 85 = .ok (.aload_n 0, 1) := by decide +kernel
theorem dX9_writeRow_86 : decode cX9_writeRow 86 = .ok (.iload_n 1, 1) := by decide +kernel
theorem dX9_writeRow_87 : decode cX9_writeRow 87 = .ok (.invokevirtual 123, 3) := by decide +kernel
theorem dX9_writeRow_90 : decode cX9_writeRow 90 = .ok (.ifCond .eq 9, 3) := by decide +kernel
theorem dX9_writeRow_93 : decode cX9_writeRow 93 = .ok (.aload_n 0, 1) := by decide +kernel
theorem dX9_writeRow_94 : decode cX9_writeRow 94 = .ok (.bipush 33, 2) := by decide +kernel
theorem dX9_writeRow_96 : decode cX9_writeRow 96 = .ok (.invokevirtual 419, 3) := by decide +kernel
theorem dX9_writeRow_99 : decode cX9_writeRow 99 = .ok (.iinc 3 1, 3) := by decide +kernel
theorem dX9_writeRow_102 : decode cX9_writeRow 102 = .ok (.goto (-81), 3) := by decide +kernel
theorem dX9_writeRow_105 : decode cX9_writeRow 105 = .ok (.aload_n 0, 1) := by decide +kernel
theorem dX9_writeRow_106 : decode cX9_writeRow 106 = .ok (.getfield 416, 3) := by decide +kernel
theorem dX9_writeRow_109 : decode cX9_writeRow 109 = .ok (.ireturn, 1) := by decide +kernel
theorem dX9_writeCaption_0 : decode cX9_writeCaption 0 = .ok (.aload_n 0, 1) := by decide +kernel
theorem dX9_writeCaption_1 : decode cX9_writeCaption 1 = .ok (.aload_n 0, 1) := by decide +kernel
theorem dX9_writeCaption_2 : decode cX9_writeCaption 2 = .ok (.iload_n 1, 1) := by decide +kernel
theorem dX9_writeCaption_3 : decode cX9_writeCaption 3 = .ok (.invokevirtual 158, 3) := by decide +kernel
theorem dX9_writeCaption_6 : decode cX9_writeCaption 6 = .ok (.invokevirtual 74, 3) := by decide +kernel
theorem dX9_writeCaption_9 : decode cX9_writeCaption 9 = .ok (.ifCond .ne 5, 3) := by decide +kernel
theorem dX9_writeCaption_12 : decode cX9_writeCaption 12 = .ok (.iconst 0, 1) := by decide +kernel
theorem dX9_writeCaption_13 : decode cX9_writeCaption 13 = .ok (.ireturn, 1) := by decide +kernel
theorem dX9_writeCaption_14 : decode cX9_writeCaption 14 = .ok (.aload_n 0, 1) := by decide +kernel
theorem dX9_writeCaption_15 : decode cX9_writeCaption 15 = .ok (.iconst 0, 1) := by decide +kernel
theorem dX9_writeCaption_16 : decode cX9_writeCaption 16 = .ok (.putfield 416, 3) := by decide +kernel
theorem dX9_writeCaption_19 : decode cX9_writeCaption 19 = .ok (.iconst 0, 1) := by decide +kernel
theorem dX9_writeCaption_20 : decode cX9_writeCaption 20 = .ok (.istore_n 2, 1) := by decide +kernel
theorem dX9_writeCaption_21 : decode cX9_writeCaption 21 = .ok (.iload_n 2, 1) := by decide +kernel
theorem dX9_writeCaption_22 : decode cX9_writeCaption 22 = .ok (.aload_n 0, 1) := by decide +kernel
theorem dX9_writeCaption_23 : decode cX9_writeCaption 23 = .ok (.iload_n 1, 1) := by decide +kernel
theorem dX9_writeCaption_24 : decode cX9_writeCaption 24 = .ok (.iconst 0, 1) := by decide +kernel
theorem dX9_writeCaption_25 : decode cX9_writeCaption 25 = .ok (.invokevirtual 95, 3) := by decide +kernel
theorem dX9_writeCaption_28 : decode cX9_writeCaption 28 = .ok (.if_icmp .ge 58, 3) := by decide +kernel
theorem dX9_writeCaption_31 : decode cX9_writeCaption 31 = .ok (.aload_n 0, 1) := by decide +kernel
theorem dX9_writeCaption_32 : decode cX9_writeCaption 32 = .ok (.iload_n 1, 1) := by decide +kernel
theorem dX9_writeCaption_33 : decode cX9_writeCaption 33 = .ok (.invokevirtual 149, 3) := by decide +kernel
theorem dX9_writeCaption_36 : decode cX9_writeCaption 36 = .ok (.ifCond .eq 13, 3) := by decide +kernel
theorem dX9_writeCaption_39 : decode cX9_writeCaption 39 = .ok (.aload_n 0, 1) := by decide +kernel
theorem dX9_writeCaption_40 : decode cX9_writeCaption 40 = .ok (.iload_n 1, 1) := by decide +kernel
theorem dX9_writeCaption_41 : decode cX9_writeCaption 41 = .ok (.iload_n 2, 1) := by decide +kernel
theorem dX9_writeCaption_42 : decode cX9_writeCaption 42 = .ok (.iconst 0, 1) := by decide +kernel
theorem dX9_writeCaption_43 : decode cX9_writeCaption 43 = .ok (.invokevirtual 152, 3) := by decide +kernel
theorem dX9_writeCaption_46 : decode cX9_writeCaption 46 = .ok (.goto 4, 3) := by decide +kernel
theorem dX9_writeCaption_49 : decode cX9_writeCaption 49 = .ok (.iconst (-1), 1) := by decide +kernel
theorem dX9_writeCaption_50 : decode cX9_writeCaption 50 = .ok (.istore_n 3, 1) := by decide +kernel
theorem dX9_writeCaption_51 : decode cX9_writeCaption 51 = .ok (.aload_n 0, 1) := by decide +kernel
theorem dX9_writeCaption_52 : decode cX9_writeCaption 52 = .ok (.iload_n 3, 1) := by decide +kernel
theorem dX9_writeCaption_53 : decode cX9_writeCaption 53 = .ok (.iconst (-1), 1) := by decide +kernel
theorem dX9_writeCaption_54 : decode cX9_writeCaption 54 = .ok (.if_icmp .ne 8, 3) := by decide +kernel
theorem dX9_writeCaption_57 : decode cX9_writeCaption 57 = .ok (.bipush 45, 2) := by decide +kernel
theorem dX9_writeCaption_59 : decode cX9_writeCaption 59 = .ok (.goto 18, 3) := by decide +kernel
theorem dX9_writeCaption_62 : decode cX9_writeCaption 62 = .ok (.iload_n 3, 1) := by decide +kernel
theorem dX9_writeCaption_63 : decode cX9_writeCaption 63 = .ok (.ifCond .ne 8, 3) := by decide +kernel
theorem dX9_writeCaption_66 : decode cX9_writeCaption 66 = .ok (.bipush 63, 2) := by decide +kernel
theorem dX9_writeCaption_68 : decode cX9_writeCaption 68 = .ok (.goto 9, 3) := by decide +kernel
theorem dX9_writeCaption_71 : decode cX9_writeCaption 71 = .ok (.bipush 97, 2) := by decide +kernel
theorem dX9_writeCaption_73 : decode cX9_writeCaption 73 = .ok (.iload_n 3, 1) := by decide +kernel
theorem dX9_writeCaption_74 : decode cX9_writeCaption 74 = .ok (.iadd, 1) := by decide +kernel
theorem dX9_writeCaption_75 : decode cX9_writeCaption 75 = .ok (.iconst 1, 1) := by decide +kernel
theorem dX9_writeCaption_76 : decode cX9_writeCaption 76 = .ok (.isub, 1) := by decide +kernel
theorem dX9_writeCaption_77 : decode cX9_writeCaption 77 = .ok (.invokevirtual 419, 3) := by decide +kernel
theorem dX9_writeCaption_80 : decode cX9_writeCaption 80 = .ok (.iinc 2 1, 3) := by decide +kernel
theorem dX9_writeCaption_83 : decode cX9_writeCaption 83 = .ok (.goto (-62), 3) := by decide +kernel
theorem dX9_writeCaption_86 : decode cX9_writeCaption 86 = .ok (.aload_n 0, 1) := by decide +kernel
theorem dX9_writeCaption_87 : decode cX9_writeCaption 87 = .ok (.getfield 416, 3) := by decide +kernel
theorem dX9_writeCaption_90 : decode cX9_writeCaption 90 = .ok (.ireturn, 1) := by decide +kernel
theorem dX9_output_0 : decode cX9_output 0 = .ok (.aload_n 0, 1) := by decide +kernel
theorem dX9_output_1 : decode cX9_output 1 = .ok (.iconst 0, 1) := by decide +kernel
theorem dX9_output_2 : decode cX9_output 2 = .ok (.putfield 58, 3) := by decide +kernel
theorem dX9_output_5 : decode cX9_output 5 = .ok (.iload_n 1, 1) := by decide +kernel
theorem dX9_output_6 : decode cX9_output 6 = .ok (.i2l, 1) := by decide +kernel
theorem dX9_output_7 : decode cX9_output 7 = .ok (.lconst 0, 1) := by decide +kernel
theorem dX9_output_8 : decode cX9_output 8 = .ok (.aload_n 0, 1) := by decide +kernel
theorem dX9_output_9 : decode cX9_output 9 = .ok (.getfield 416, 3) := by decide +kernel
theorem dX9_output_12 : decode cX9_output 12 = .ok (.iconst 1, 1) := by decide +kernel
theorem dX9_output_13 : decode cX9_output 13 = .ok (.isub, 1) := by decide +kernel
theorem dX9_output_14 : decode cX9_output 14 = .ok (.i2l, 1) := by decide +kernel
theorem dX9_output_15 : decode cX9_output 15 = .ok (.invokestatic 82, 3) := by decide +kernel
theorem dX9_output_18 : decode cX9_output 18 = .ok (.ifCond .eq 12, 3) := by decide +kernel
theorem dX9_output_21 : decode cX9_output 21 = .ok (.aload_n 0, 1) := by decide +kernel
theorem dX9_output_22 : decode cX9_output 22 = .ok (.getfield 51, 3) := by decide +kernel
theorem dX9_output_25 : decode cX9_output 25 = .ok (.iload_n 1, 1) := by decide +kernel
theorem dX9_output_26 : decode cX9_output 26 = .ok (.iaload, 1) := by decide +kernel
theorem dX9_output_27 : decode cX9_output 27 = .ok (.goto 4, 3) := by decide +kernel
theorem dX9_output_30 : decode cX9_output 30 = .ok (.iconst (-1), 1) := by decide +kernel
theorem dX9_output_31 : decode cX9_output 31 = .ok (.ireturn, 1) := by decide +kernel
theorem dX9_undo_0 : decode cX9_undo 0 = .ok (.aload_n 0, 1) := by decide +kernel
theorem dX9_undo_1 : decode cX9_undo 1 = .ok (.iconst 0, 1) := by decide +kernel
theorem dX9_undo_2 : decode cX9_undo 2 = .ok (.putfield 58, 3) := by decide +kernel
theorem dX9_undo_5 : decode cX9_undo 5 = .ok (.aload_n 0, 1) := by decide +kernel
theorem dX9_undo_6 : decode cX9_undo 6 = .ok (.getfield 61, 3) := by decide +kernel
theorem dX9_undo_9 : decode cX9_undo 9 = .ok (.ifCond .ne 5, 3) := by decide +kernel
theorem dX9_undo_12 : decode cX9_undo 12 = .ok (.iconst (-1), 1) := by decide +kernel
theorem dX9_undo_13 : decode cX9_undo 13 = .ok (.ireturn, 1) := by decide +kernel
theorem dX9_undo_14 : decode cX9_undo 14 = .ok (.aload_n 0, 1) := by decide +kernel
theorem dX9_undo_15 : decode cX9_undo 15 = .ok (.dup, 1) := by decide +kernel
theorem dX9_undo_16 : decode cX9_undo 16 = .ok (.getfield 61, 3) := by decide +kernel
theorem dX9_undo_19 : decode cX9_undo 19 = .ok (.iconst 1, 1) := by decide +kernel
theorem dX9_undo_20 : decode cX9_undo 20 = .ok (.isub, 1) := by decide +kernel
theorem dX9_undo_21 : decode cX9_undo 21 = .ok (.putfield 61, 3) := by decide +kernel
theorem dX9_undo_24 : decode cX9_undo 24 = .ok (.aload_n 0, 1) := by decide +kernel
theorem dX9_undo_25 : decode cX9_undo 25 = .ok (.getfield 16, 3) := by decide +kernel
theorem dX9_undo_28 : decode cX9_undo 28 = .ok (.sipush 1317, 3) := by decide +kernel
theorem dX9_undo_31 : decode cX9_undo 31 = .ok (.aload_n 0, 1) := by decide +kernel
theorem dX9_undo_32 : decode cX9_undo 32 = .ok (.getfield 61, 3) := by decide +kernel
theorem dX9_undo_35 : decode cX9_undo 35 = .ok (.imul, 1) := by decide +kernel
theorem dX9_undo_36 : decode cX9_undo 36 = .ok (.aload_n 0, 1) := by decide +kernel
theorem dX9_undo_37 : decode cX9_undo 37 = .ok (.getfield 7, 3) := by decide +kernel
theorem dX9_undo_40 : decode cX9_undo 40 = .ok (.iconst 0, 1) := by decide +kernel
theorem dX9_undo_41 : decode cX9_undo 41 = .ok (.invokestatic 64, 3) := by decide +kernel
theorem dX9_undo_44 : decode cX9_undo 44 = .ok (.aload_n 0, 1) := by decide +kernel
theorem dX9_undo_45 : decode cX9_undo 45 = .ok (.getfield 61, 3) := by decide +kernel
theorem dX9_undo_48 : decode cX9_undo 48 = .ok (.ireturn, 1) := by decide +kernel
theorem dX9_save_0 : decode cX9_save 0 = .ok (.aload_n 0, 1) := by decide +kernel
theorem dX9_save_1 : decode cX9_save 1 = .ok (.iload_n 1, 1) := by decide +kernel
theorem dX9_save_2 : decode cX9_save 2 = .ok (.i2l, 1) := by decide +kernel
theorem dX9_save_3 : decode cX9_save 3 = .ok (.lconst 0, 1) := by decide +kernel
theorem dX9_save_4 : decode cX9_save 4 = .ok (.lconst 1, 1) := by decide +kernel
theorem dX9_save_5 : decode cX9_save 5 = .ok (.invokestatic 82, 3) := by decide +kernel
theorem dX9_save_8 : decode cX9_save 8 = .ok (.invokevirtual 74, 3) := by decide +kernel
theorem dX9_save_11 : decode cX9_save 11 = .ok (.ifCond .eq 27, 3) := by decide +kernel
theorem dX9_save_14 : decode cX9_save 14 = .ok (.aload_n 0, 1) := by decide +kernel
theorem dX9_save_15 : decode cX9_save 15 = .ok (.getfield 7, 3) := by decide +kernel
theorem dX9_save_18 : decode cX9_save 18 = .ok (.iconst 0, 1) := by decide +kernel
theorem dX9_save_19 : decode cX9_save 19 = .ok (.aload_n 0, 1) := by decide +kernel
theorem dX9_save_20 : decode cX9_save 20 = .ok (.getfield 19, 3) := by decide +kernel
theorem dX9_save_23 : decode cX9_save 23 = .ok (.sipush 1317, 3) := by decide +kernel
theorem dX9_save_26 : decode cX9_save 26 = .ok (.iload_n 1, 1) := by decide +kernel
theorem dX9_save_27 : decode cX9_save 27 = .ok (.imul, 1) := by decide +kernel
theorem dX9_save_28 : decode cX9_save 28 = .ok (.invokestatic 64, 3) := by decide +kernel
theorem dX9_save_31 : decode cX9_save 31 = .ok (.aload_n 0, 1) := by decide +kernel
theorem dX9_save_32 : decode cX9_save 32 = .ok (.getfield 22, 3) := by decide +kernel
theorem dX9_save_35 : decode cX9_save 35 = .ok (.iload_n 1, 1) := by decide +kernel
theorem dX9_save_36 : decode cX9_save 36 = .ok (.iconst 1, 1) := by decide +kernel
theorem dX9_save_37 : decode cX9_save 37 = .ok (.bastore, 1) := by decide +kernel
theorem dX9_save_38 : decode cX9_save 38 = .ok (.return_, 1) := by decide +kernel
theorem dX9_restore_0 : decode cX9_restore 0 = .ok (.iload_n 1, 1) := by decide +kernel
theorem dX9_restore_1 : decode cX9_restore 1 = .ok (.i2l, 1) := by decide +kernel
theorem dX9_restore_2 : decode cX9_restore 2 = .ok (.lconst 0, 1) := by decide +kernel
theorem dX9_restore_3 : decode cX9_restore 3 = .ok (.lconst 1, 1) := by decide +kernel
theorem dX9_restore_4 : decode cX9_restore 4 = .ok (.invokestatic 82, 3) := by decide +kernel
theorem dX9_restore_7 : decode cX9_restore 7 = .ok (.istore_n 2, 1) := by decide +kernel
theorem dX9_restore_8 : decode cX9_restore 8 = .ok (.aload_n 0, 1) := by decide +kernel
theorem dX9_restore_9 : decode cX9_restore 9 = .ok (.iload_n 2, 1) := by decide +kernel
theorem dX9_restore_10 : decode cX9_restore 10 = .ok (.iload_n 2, 1) := by decide +kernel
theorem dX9_restore_11 : decode cX9_restore 11 = .ok (.ifCond .eq 16, 3) := by decide +kernel
theorem dX9_restore_14 : decode cX9_restore 14 = .ok (.aload_n 0, 1) := by decide +kernel
theorem dX9_restore_15 : decode cX9_restore 15 = .ok (.getfield 22, 3) := by decide +kernel
theorem dX9_restore_18 : decode cX9_restore 18 = .ok (.iload_n 1, 1) := by decide +kernel
theorem dX9_restore_19 : decode cX9_restore 19 = .ok (.baload, 1) := by decide +kernel
theorem dX9_restore_20 : decode cX9_restore 20 = .ok (.ifCond .eq 7, 3) := by decide +kernel
theorem dX9_restore_23 : decode cX9_restore 23 = .ok (.iconst 1, 1) := by decide +kernel
theorem dX9_restore_24 : decode cX9_restore 24 = .ok (.goto 4, 3) := by decide +kernel
theorem dX9_restore_27 : decode cX9_restore 27 = .ok (.iconst 0, 1) := by decide +kernel
theorem dX9_restore_28 : decode cX9_restore 28 = .ok (.invokevirtual 163, 3) := by decide +kernel
theorem dX9_restore_31 : decode cX9_restore 31 = .ok (.ifCond .ne 4, 3) := by decide +kernel
theorem dX9_restore_34 : decode cX9_restore 34 = .ok (.return_, 1) := by decide +kernel
theorem dX9_restore_35 : decode cX9_restore 35 = .ok (.aload_n 0, 1) := by decide +kernel
theorem dX9_restore_36 : decode cX9_restore 36 = .ok (.getfield 19, 3) := by decide +kernel
theorem dX9_restore_39 : decode cX9_restore 39 = .ok (.sipush 1317, 3) := by decide +kernel
theorem dX9_restore_42 : decode cX9_restore 42 = .ok (.iload_n 1, 1) := by decide +kernel
theorem dX9_restore_43 : decode cX9_restore 43 = .ok (.imul, 1) := by decide +kernel
theorem dX9_restore_44 : decode cX9_restore 44 = .ok (.aload_n 0, 1) := by decide +kernel
theorem dX9_restore_45 : decode cX9_restore 45 = .ok (.getfield 7, 3) := by decide +kernel
theorem dX9_restore_48 : decode cX9_restore 48 = .ok (.iconst 0, 1) := by decide +kernel
theorem dX9_restore_49 : decode cX9_restore 49 = .ok (.invokestatic 64, 3) := by decide +kernel
theorem dX9_restore_52 : decode cX9_restore 52 = .ok (.aload_n 0, 1) := by decide +kernel
theorem dX9_restore_53 : decode cX9_restore 53 = .ok (.iconst 0, 1) := by decide +kernel
theorem dX9_restore_54 : decode cX9_restore 54 = .ok (.putfield 61, 3) := by decide +kernel
theorem dX9_restore_57 : decode cX9_restore 57 = .ok (.return_, 1) := by decide +kernel
