theorem dL_acts_0 : decode cL_acts 0 = .ok (.aload_n 1, 1) := by decide +kernel
theorem dL_acts_1 : decode cL_acts 1 = .ok (.invokevirtual 186, 3) := by decide +kernel
theorem dL_acts_4 : decode cL_acts 4 = .ok (.aload_n 1, 1) := by decide +kernel
theorem dL_acts_5 : decode cL_acts 5 = .ok (.getfield 66, 3) := by decide +kernel
theorem dL_acts_8 : decode cL_acts 8 = .ok (.if_icmp .ge 7, 3) := by decide +kernel
theorem dL_acts_11 : decode cL_acts 11 = .ok (.iconst 1, 1) := by decide +kernel
theorem dL_acts_12 : decode cL_acts 12 = .ok (.goto 4, 3) := by decide +kernel
theorem dL_acts_15 : decode cL_acts 15 = .ok (.iconst 0, 1) := by decide +kernel
theorem dL_acts_16 : decode cL_acts 16 = .ok (.istore 4, 2) := by decide +kernel
theorem dL_acts_18 : decode cL_acts 18 = .ok (.aload_n 2, 1) := by decide +kernel
theorem dL_acts_19 : decode cL_acts 19 = .ok (.bipush 13, 2) := by decide +kernel
theorem dL_acts_21 : decode cL_acts 21 = .ok (.invokestatic 45, 3) := by decide +kernel
theorem dL_acts_24 : decode cL_acts 24 = .ok (.tableswitch 1558 0 11 #[64, 64, 334, 523, 523, 523, 727, 968, 1000, 1186, 1371, 1487], 64) := by decide +kernel
theorem dL_acts_88 : decode cL_acts 88 = .ok (.aload_n 2, 1) := by decide +kernel
theorem dL_acts_89 : decode cL_acts 89 = .ok (.bipush 7, 2) := by decide +kernel
theorem dL_acts_91 : decode cL_acts 91 = .ok (.invokestatic 45, 3) := by decide +kernel
theorem dL_acts_94 : decode cL_acts 94 = .ok (.istore 5, 2) := by decide +kernel
theorem dL_acts_96 : decode cL_acts 96 = .ok (.aload_n 2, 1) := by decide +kernel
theorem dL_acts_97 : decode cL_acts 97 = .ok (.aload_n 1, 1) := by decide +kernel
theorem dL_acts_98 : decode cL_acts 98 = .ok (.getfield 60, 3) := by decide +kernel
theorem dL_acts_101 : decode cL_acts 101 = .ok (.invokestatic 45, 3) := by decide +kernel
theorem dL_acts_104 : decode cL_acts 104 = .ok (.istore 6, 2) := by decide +kernel
theorem dL_acts_106 : decode cL_acts 106 = .ok (.iload 6, 2) := by decide +kernel
theorem dL_acts_108 : decode cL_acts 108 = .ok (.aload_n 2, 1) := by decide +kernel
theorem dL_acts_109 : decode cL_acts 109 = .ok (.aload_n 1, 1) := by decide +kernel
theorem dL_acts_110 : decode cL_acts 110 = .ok (.getfield 60, 3) := by decide +kernel
theorem dL_acts_113 : decode cL_acts 113 = .ok (.iload 6, 2) := by decide +kernel
theorem dL_acts_115 : decode cL_acts 115 = .ok (.isub, 1) := by decide +kernel
theorem dL_acts_116 : decode cL_acts 116 = .ok (.invokestatic 45, 3) := by decide +kernel
theorem dL_acts_119 : decode cL_acts 119 = .ok (.iadd, 1) := by decide +kernel
theorem dL_acts_120 : decode cL_acts 120 = .ok (.istore 7, 2) := by decide +kernel
theorem dL_acts_122 : decode cL_acts 122 = .ok (.iload 4, 2) := by decide +kernel
theorem dL_acts_124 : decode cL_acts 124 = .ok (.ifCond .ne 7, 3) := by decide +kernel
theorem dL_acts_127 : decode cL_acts 127 = .ok (.iconst (-1), 1) := by decide +kernel
theorem dL_acts_128 : decode cL_acts 128 = .ok (.goto 40, 3) := by decide +kernel
theorem dL_acts_131 : decode cL_acts 131 = .ok (.aload_n 1, 1) := by decide +kernel
theorem dL_acts_132 : decode cL_acts 132 = .ok (.getfield 145, 3) := by decide +kernel
theorem dL_acts_135 : decode cL_acts 135 = .ok (.iload 5, 2) := by decide +kernel
theorem dL_acts_137 : decode cL_acts 137 = .ok (.iaload, 1) := by decide +kernel
theorem dL_acts_138 : decode cL_acts 138 = .ok (.iload 7, 2) := by decide +kernel
theorem dL_acts_140 : decode cL_acts 140 = .ok (.iload 6, 2) := by decide +kernel
theorem dL_acts_142 : decode cL_acts 142 = .ok (.isub, 1) := by decide +kernel
theorem dL_acts_143 : decode cL_acts 143 = .ok (.iconst 1, 1) := by decide +kernel
theorem dL_acts_144 : decode cL_acts 144 = .ok (.iadd, 1) := by decide +kernel
theorem dL_acts_145 : decode cL_acts 145 = .ok (.if_icmp .ge 8, 3) := by decide +kernel
theorem dL_acts_148 : decode cL_acts 148 = .ok (.bipush (-2), 2) := by decide +kernel
theorem dL_acts_150 : decode cL_acts 150 = .ok (.goto 18, 3) := by decide +kernel
theorem dL_acts_153 : decode cL_acts 153 = .ok (.aload_n 1, 1) := by decide +kernel
theorem dL_acts_154 : decode cL_acts 154 = .ok (.getfield 145, 3) := by decide +kernel
theorem dL_acts_157 : decode cL_acts 157 = .ok (.iload 5, 2) := by decide +kernel
theorem dL_acts_159 : decode cL_acts 159 = .ok (.iaload, 1) := by decide +kernel
theorem dL_acts_160 : decode cL_acts 160 = .ok (.iload 7, 2) := by decide +kernel
theorem dL_acts_162 : decode cL_acts 162 = .ok (.iload 6, 2) := by decide +kernel
theorem dL_acts_164 : decode cL_acts 164 = .ok (.isub, 1) := by decide +kernel
theorem dL_acts_165 : decode cL_acts 165 = .ok (.iconst 1, 1) := by decide +kernel
theorem dL_acts_166 : decode cL_acts 166 = .ok (.iadd, 1) := by decide +kernel
theorem dL_acts_167 : decode cL_acts 167 = .ok (.isub, 1) := by decide +kernel
theorem dL_acts_168 : decode cL_acts 168 = .ok (.istore 8, 2) := by decide +kernel
theorem dL_acts_170 : decode cL_acts 170 = .ok (.iload 8, 2) := by decide +kernel
theorem dL_acts_172 : decode cL_acts 172 = .ok (.ifCond .lt 57, 3) := by decide +kernel
theorem dL_acts_175 : decode cL_acts 175 = .ok (.aload_n 1, 1) := by decide +kernel
theorem dL_acts_176 : decode cL_acts 176 = .ok (.getfield 145, 3) := by decide +kernel
theorem dL_acts_179 : decode cL_acts 179 = .ok (.iload 5, 2) := by decide +kernel
theorem dL_acts_181 : decode cL_acts 181 = .ok (.iload 8, 2) := by decide +kernel
theorem dL_acts_183 : decode cL_acts 183 = .ok (.iastore, 1) := by decide +kernel
theorem dL_acts_184 : decode cL_acts 184 = .ok (.iload 6, 2) := by decide +kernel
theorem dL_acts_186 : decode cL_acts 186 = .ok (.istore 9, 2) := by decide +kernel
theorem dL_acts_188 : decode cL_acts 188 = .ok (.iload 9, 2) := by decide +kernel
theorem dL_acts_190 : decode cL_acts 190 = .ok (.iload 7, 2) := by decide +kernel
theorem dL_acts_192 : decode cL_acts 192 = .ok (.if_icmp .gt 37, 3) := by decide +kernel
theorem dL_acts_195 : decode cL_acts 195 = .ok (.aload_n 1, 1) := by decide +kernel
theorem dL_acts_196 : decode cL_acts 196 = .ok (.getfield 83, 3) := by decide +kernel
theorem dL_acts_199 : decode cL_acts 199 = .ok (.aload_n 1, 1) := by decide +kernel
theorem dL_acts_200 : decode cL_acts 200 = .ok (.invokevirtual 186, 3) := by decide +kernel
theorem dL_acts_203 : decode cL_acts 203 = .ok (.invokeinterface 195 2, 5) := by decide +kernel
theorem dL_acts_208 : decode cL_acts 208 = .ok (.checkcast 325, 3) := by decide +kernel
theorem dL_acts_211 : decode cL_acts 211 = .ok (.aload_n 1, 1) := by decide +kernel
theorem dL_acts_212 : decode cL_acts 212 = .ok (.getfield 60, 3) := by decide +kernel
theorem dL_acts_215 : decode cL_acts 215 = .ok (.iconst 1, 1) := by decide +kernel
theorem dL_acts_216 : decode cL_acts 216 = .ok (.isub, 1) := by decide +kernel
