theorem dL_still_0 : decode cL_still 0 = .ok (.iconst 0, 1) := by decide +kernel
theorem dL_still_1 : decode cL_still 1 = .ok (.istore_n 2, 1) := by decide +kernel
theorem dL_still_2 : decode cL_still 2 = .ok (.iconst 0, 1) := by decide +kernel
theorem dL_still_3 : decode cL_still 3 = .ok (.istore_n 3, 1) := by decide +kernel
theorem dL_still_4 : decode cL_still 4 = .ok (.bipush 7, 2) := by decide +kernel
theorem dL_still_6 : decode cL_still 6 = .ok (.newarray .int, 2) := by decide +kernel
theorem dL_still_8 : decode cL_still 8 = .ok (.astore 4, 2) := by decide +kernel
theorem dL_still_10 : decode cL_still 10 = .ok (.bipush 7, 2) := by decide +kernel
theorem dL_still_12 : decode cL_still 12 = .ok (.newarray .int, 2) := by decide +kernel
theorem dL_still_14 : decode cL_still 14 = .ok (.astore 5, 2) := by decide +kernel
theorem dL_still_16 : decode cL_still 16 = .ok (.bipush 7, 2) := by decide +kernel
theorem dL_still_18 : decode cL_still 18 = .ok (.newarray .int, 2) := by decide +kernel
theorem dL_still_20 : decode cL_still 20 = .ok (.astore 6, 2) := by decide +kernel
theorem dL_still_22 : decode cL_still 22 = .ok (.bipush 7, 2) := by decide +kernel
theorem dL_still_24 : decode cL_still 24 = .ok (.newarray .int, 2) := by decide +kernel
theorem dL_still_26 : decode cL_still 26 = .ok (.astore 7, 2) := by decide +kernel
theorem dL_still_28 : decode cL_still 28 = .ok (.iconst 0, 1) := by decide +kernel
theorem dL_still_29 : decode cL_still 29 = .ok (.istore 8, 2) := by decide +kernel
theorem dL_still_31 : decode cL_still 31 = .ok (.iload 8, 2) := by decide +kernel
theorem dL_still_33 : decode cL_still 33 = .ok (.aload_n 1, 1) := by decide +kernel
theorem dL_still_34 : decode cL_still 34 = .ok (.getfield 66, 3) := by decide +kernel
theorem dL_still_37 : decode cL_still 37 = .ok (.if_icmp .ge 169, 3) := by decide +kernel
theorem dL_still_40 : decode cL_still 40 = .ok (.iconst 0, 1) := by decide +kernel
theorem dL_still_41 : decode cL_still 41 = .ok (.istore 9, 2) := by decide +kernel
theorem dL_still_43 : decode cL_still 43 = .ok (.iload 9, 2) := by decide +kernel
theorem dL_still_45 : decode cL_still 45 = .ok (.aload_n 1, 1) := by decide +kernel
theorem dL_still_46 : decode cL_still 46 = .ok (.getfield 60, 3) := by decide +kernel
theorem dL_still_49 : decode cL_still 49 = .ok (.if_icmp .ge 121, 3) := by decide +kernel
theorem dL_still_52 : decode cL_still 52 = .ok (.aload_n 1, 1) := by decide +kernel
theorem dL_still_53 : decode cL_still 53 = .ok (.iload 9, 2) := by decide +kernel
theorem dL_still_55 : decode cL_still 55 = .ok (.iload 8, 2) := by decide +kernel
theorem dL_still_57 : decode cL_still 57 = .ok (.invokevirtual 175, 3) := by decide +kernel
theorem dL_still_60 : decode cL_still 60 = .ok (.istore 10, 2) := by decide +kernel
theorem dL_still_62 : decode cL_still 62 = .ok (.aload_n 1, 1) := by decide +kernel
theorem dL_still_63 : decode cL_still 63 = .ok (.iload 9, 2) := by decide +kernel
theorem dL_still_65 : decode cL_still 65 = .ok (.iload 8, 2) := by decide +kernel
theorem dL_still_67 : decode cL_still 67 = .ok (.invokevirtual 179, 3) := by decide +kernel
theorem dL_still_70 : decode cL_still 70 = .ok (.istore 11, 2) := by decide +kernel
theorem dL_still_72 : decode cL_still 72 = .ok (.aload_n 0, 1) := by decide +kernel
theorem dL_still_73 : decode cL_still 73 = .ok (.iload 9, 2) := by decide +kernel
theorem dL_still_75 : decode cL_still 75 = .ok (.iload 8, 2) := by decide +kernel
theorem dL_still_77 : decode cL_still 77 = .ok (.invokevirtual 182, 3) := by decide +kernel
theorem dL_still_80 : decode cL_still 80 = .ok (.iload 10, 2) := by decide +kernel
theorem dL_still_82 : decode cL_still 82 = .ok (.if_icmp .ne 16, 3) := by decide +kernel
theorem dL_still_85 : decode cL_still 85 = .ok (.aload_n 0, 1) := by decide +kernel
theorem dL_still_86 : decode cL_still 86 = .ok (.iload 9, 2) := by decide +kernel
theorem dL_still_88 : decode cL_still 88 = .ok (.iload 8, 2) := by decide +kernel
theorem dL_still_90 : decode cL_still 90 = .ok (.invokevirtual 185, 3) := by decide +kernel
theorem dL_still_93 : decode cL_still 93 = .ok (.iload 11, 2) := by decide +kernel
theorem dL_still_95 : decode cL_still 95 = .ok (.if_icmp .eq 5, 3) := by decide +kernel
theorem dL_still_98 : decode cL_still 98 = .ok (.iconst 0, 1) := by decide +kernel
theorem dL_still_99 : decode cL_still 99 = .ok (.ireturn, 1) := by decide +kernel
theorem dL_still_100 : decode cL_still 100 = .ok (.aload 6, 2) := by decide +kernel
theorem dL_still_102 : decode cL_still 102 = .ok (.iload 11, 2) := by decide +kernel
theorem dL_still_104 : decode cL_still 104 = .ok (.dup2, 1) := by decide +kernel
theorem dL_still_105 : decode cL_still 105 = .ok (.iaload, 1) := by decide +kernel
theorem dL_still_106 : decode cL_still 106 = .ok (.iconst 1, 1) := by decide +kernel
theorem dL_still_107 : decode cL_still 107 = .ok (.iadd, 1) := by decide +kernel
theorem dL_still_108 : decode cL_still 108 = .ok (.iastore, 1) := by decide +kernel
theorem dL_still_109 : decode cL_still 109 = .ok (.iload 10, 2) := by decide +kernel
theorem dL_still_111 : decode cL_still 111 = .ok (.ifCond .lt 12, 3) := by decide +kernel
theorem dL_still_114 : decode cL_still 114 = .ok (.aload 4, 2) := by decide +kernel
theorem dL_still_116 : decode cL_still 116 = .ok (.iload 10, 2) := by decide +kernel
theorem dL_still_118 : decode cL_still 118 = .ok (.dup2, 1) := by decide +kernel
theorem dL_still_119 : decode cL_still 119 = .ok (.iaload, 1) := by decide +kernel
theorem dL_still_120 : decode cL_still 120 = .ok (.iconst 1, 1) := by decide +kernel
theorem dL_still_121 : decode cL_still 121 = .ok (.iadd, 1) := by decide +kernel
theorem dL_still_122 : decode cL_still 122 = .ok (.iastore, 1) := by decide +kernel
theorem dL_still_123 : decode cL_still 123 = .ok (.iload 10, 2) := by decide +kernel
theorem dL_still_125 : decode cL_still 125 = .ok (.ifCond .ge 15, 3) := by decide +kernel
theorem dL_still_128 : decode cL_still 128 = .ok (.aload 7, 2) := by decide +kernel
theorem dL_still_130 : decode cL_still 130 = .ok (.iload 11, 2) := by decide +kernel
theorem dL_still_132 : decode cL_still 132 = .ok (.dup2, 1) := by decide +kernel
theorem dL_still_133 : decode cL_still 133 = .ok (.iaload, 1) := by decide +kernel
theorem dL_still_134 : decode cL_still 134 = .ok (.iconst 1, 1) := by decide +kernel
theorem dL_still_135 : decode cL_still 135 = .ok (.iadd, 1) := by decide +kernel
theorem dL_still_136 : decode cL_still 136 = .ok (.iastore, 1) := by decide +kernel
theorem dL_still_137 : decode cL_still 137 = .ok (.goto 27, 3) := by decide +kernel
theorem dL_still_140 : decode cL_still 140 = .ok (.iload 8, 2) := by decide +kernel
theorem dL_still_142 : decode cL_still 142 = .ok (.aload_n 1, 1) := by decide +kernel
theorem dL_still_143 : decode cL_still 143 = .ok (.invokevirtual 186, 3) := by decide +kernel
theorem dL_still_146 : decode cL_still 146 = .ok (.if_icmp .ge 15, 3) := by decide +kernel
theorem dL_still_149 : decode cL_still 149 = .ok (.aload 5, 2) := by decide +kernel
theorem dL_still_151 : decode cL_still 151 = .ok (.iload 10, 2) := by decide +kernel
theorem dL_still_153 : decode cL_still 153 = .ok (.dup2, 1) := by decide +kernel
theorem dL_still_154 : decode cL_still 154 = .ok (.iaload, 1) := by decide +kernel
theorem dL_still_155 : decode cL_still 155 = .ok (.iconst 1, 1) := by decide +kernel
theorem dL_still_156 : decode cL_still 156 = .ok (.iadd, 1) := by decide +kernel
theorem dL_still_157 : decode cL_still 157 = .ok (.iastore, 1) := by decide +kernel
theorem dL_still_158 : decode cL_still 158 = .ok (.goto 6, 3) := by decide +kernel
theorem dL_still_161 : decode cL_still 161 = .ok (.iinc 2 1, 3) := by decide +kernel
theorem dL_still_164 : decode cL_still 164 = .ok (.iinc 9 1, 3) := by decide +kernel
theorem dL_still_167 : decode cL_still 167 = .ok (.goto (-124), 3) := by decide +kernel
theorem dL_still_170 : decode cL_still 170 = .ok (.aload_n 0, 1) := by decide +kernel
theorem dL_still_171 : decode cL_still 171 = .ok (.iload 8, 2) := by decide +kernel
theorem dL_still_173 : decode cL_still 173 = .ok (.invokevirtual 189, 3) := by decide +kernel
theorem dL_still_176 : decode cL_still 176 = .ok (.iload 8, 2) := by decide +kernel
theorem dL_still_178 : decode cL_still 178 = .ok (.aload_n 1, 1) := by decide +kernel
theorem dL_still_179 : decode cL_still 179 = .ok (.invokevirtual 186, 3) := by decide +kernel
theorem dL_still_182 : decode cL_still 182 = .ok (.if_icmp .ge 12, 3) := by decide +kernel
