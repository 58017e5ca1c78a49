theorem dL_acts_1023 : decode cL_acts 1023 = .ok (.ireturn, 1) := by decide +kernel
theorem dL_acts_1024 : decode cL_acts 1024 = .ok (.new 69, 3) := by decide +kernel
theorem dL_acts_1027 : decode cL_acts 1027 = .ok (.dup, 1) := by decide +kernel
theorem dL_acts_1028 : decode cL_acts 1028 = .ok (.aload_n 2, 1) := by decide +kernel
theorem dL_acts_1029 : decode cL_acts 1029 = .ok (.iconst 3, 1) := by decide +kernel
theorem dL_acts_1030 : decode cL_acts 1030 = .ok (.invokestatic 56, 3) := by decide +kernel
theorem dL_acts_1033 : decode cL_acts 1033 = .ok (.aload_n 2, 1) := by decide +kernel
theorem dL_acts_1034 : decode cL_acts 1034 = .ok (.iconst 2, 1) := by decide +kernel
theorem dL_acts_1035 : decode cL_acts 1035 = .ok (.invokestatic 45, 3) := by decide +kernel
theorem dL_acts_1038 : decode cL_acts 1038 = .ok (.aload_n 2, 1) := by decide +kernel
theorem dL_acts_1039 : decode cL_acts 1039 = .ok (.aload_n 1, 1) := by decide +kernel
theorem dL_acts_1040 : decode cL_acts 1040 = .ok (.getfield 60, 3) := by decide +kernel
theorem dL_acts_1043 : decode cL_acts 1043 = .ok (.invokestatic 45, 3) := by decide +kernel
theorem dL_acts_1046 : decode cL_acts 1046 = .ok (.aload_n 2, 1) := by decide +kernel
theorem dL_acts_1047 : decode cL_acts 1047 = .ok (.aload_n 1, 1) := by decide +kernel
theorem dL_acts_1048 : decode cL_acts 1048 = .ok (.getfield 66, 3) := by decide +kernel
theorem dL_acts_1051 : decode cL_acts 1051 = .ok (.invokestatic 45, 3) := by decide +kernel
theorem dL_acts_1054 : decode cL_acts 1054 = .ok (.iconst 1, 1) := by decide +kernel
theorem dL_acts_1055 : decode cL_acts 1055 = .ok (.aload_n 2, 1) := by decide +kernel
theorem dL_acts_1056 : decode cL_acts 1056 = .ok (.bipush 6, 2) := by decide +kernel
theorem dL_acts_1058 : decode cL_acts 1058 = .ok (.invokestatic 45, 3) := by decide +kernel
theorem dL_acts_1061 : decode cL_acts 1061 = .ok (.iadd, 1) := by decide +kernel
theorem dL_acts_1062 : decode cL_acts 1062 = .ok (.invokespecial 71, 3) := by decide +kernel
theorem dL_acts_1065 : decode cL_acts 1065 = .ok (.astore 5, 2) := by decide +kernel
theorem dL_acts_1067 : decode cL_acts 1067 = .ok (.aload_n 1, 1) := by decide +kernel
theorem dL_acts_1068 : decode cL_acts 1068 = .ok (.getfield 109, 3) := by decide +kernel
theorem dL_acts_1071 : decode cL_acts 1071 = .ok (.invokeinterface 160 1, 5) := by decide +kernel
theorem dL_acts_1076 : decode cL_acts 1076 = .ok (.bipush 8, 2) := by decide +kernel
theorem dL_acts_1078 : decode cL_acts 1078 = .ok (.if_icmp .ne 8, 3) := by decide +kernel
theorem dL_acts_1081 : decode cL_acts 1081 = .ok (.bipush (-4), 2) := by decide +kernel
theorem dL_acts_1083 : decode cL_acts 1083 = .ok (.goto 57, 3) := by decide +kernel
theorem dL_acts_1086 : decode cL_acts 1086 = .ok (.aload_n 1, 1) := by decide +kernel
theorem dL_acts_1087 : decode cL_acts 1087 = .ok (.aload 5, 2) := by decide +kernel
theorem dL_acts_1089 : decode cL_acts 1089 = .ok (.getfield 117, 3) := by decide +kernel
theorem dL_acts_1092 : decode cL_acts 1092 = .ok (.invokevirtual 7, 3) := by decide +kernel
theorem dL_acts_1095 : decode cL_acts 1095 = .ok (.aload 5, 2) := by decide +kernel
theorem dL_acts_1097 : decode cL_acts 1097 = .ok (.getfield 129, 3) := by decide +kernel
theorem dL_acts_1100 : decode cL_acts 1100 = .ok (.aload 5, 2) := by decide +kernel
theorem dL_acts_1102 : decode cL_acts 1102 = .ok (.getfield 132, 3) := by decide +kernel
theorem dL_acts_1105 : decode cL_acts 1105 = .ok (.invokevirtual 74, 3) := by decide +kernel
theorem dL_acts_1108 : decode cL_acts 1108 = .ok (.ifCond .ne 8, 3) := by decide +kernel
theorem dL_acts_1111 : decode cL_acts 1111 = .ok (.bipush (-5), 2) := by decide +kernel
theorem dL_acts_1113 : decode cL_acts 1113 = .ok (.goto 27, 3) := by decide +kernel
theorem dL_acts_1116 : decode cL_acts 1116 = .ok (.aload_n 1, 1) := by decide +kernel
theorem dL_acts_1117 : decode cL_acts 1117 = .ok (.aload 5, 2) := by decide +kernel
theorem dL_acts_1119 : decode cL_acts 1119 = .ok (.aconst_null, 1) := by decide +kernel
theorem dL_acts_1120 : decode cL_acts 1120 = .ok (.invokevirtual 78, 3) := by decide +kernel
theorem dL_acts_1123 : decode cL_acts 1123 = .ok (.ifCond .eq 8, 3) := by decide +kernel
theorem dL_acts_1126 : decode cL_acts 1126 = .ok (.bipush (-6), 2) := by decide +kernel
theorem dL_acts_1128 : decode cL_acts 1128 = .ok (.goto 12, 3) := by decide +kernel
theorem dL_acts_1131 : decode cL_acts 1131 = .ok (.aload_n 1, 1) := by decide +kernel
theorem dL_acts_1132 : decode cL_acts 1132 = .ok (.getfield 109, 3) := by decide +kernel
theorem dL_acts_1135 : decode cL_acts 1135 = .ok (.invokeinterface 160 1, 5) := by decide +kernel
theorem dL_acts_1140 : decode cL_acts 1140 = .ok (.istore 6, 2) := by decide +kernel
theorem dL_acts_1142 : decode cL_acts 1142 = .ok (.iload 6, 2) := by decide +kernel
theorem dL_acts_1144 : decode cL_acts 1144 = .ok (.ifCond .lt 15, 3) := by decide +kernel
theorem dL_acts_1147 : decode cL_acts 1147 = .ok (.aload_n 1, 1) := by decide +kernel
theorem dL_acts_1148 : decode cL_acts 1148 = .ok (.getfield 109, 3) := by decide +kernel
theorem dL_acts_1151 : decode cL_acts 1151 = .ok (.aload 5, 2) := by decide +kernel
theorem dL_acts_1153 : decode cL_acts 1153 = .ok (.invokeinterface 91 2, 5) := by decide +kernel
theorem dL_acts_1158 : decode cL_acts 1158 = .ok (.pop, 1) := by decide +kernel
theorem dL_acts_1159 : decode cL_acts 1159 = .ok (.aload_n 0, 1) := by decide +kernel
theorem dL_acts_1160 : decode cL_acts 1160 = .ok (.aload 5, 2) := by decide +kernel
theorem dL_acts_1162 : decode cL_acts 1162 = .ok (.getfield 117, 3) := by decide +kernel
theorem dL_acts_1165 : decode cL_acts 1165 = .ok (.invokestatic 153, 3) := by decide +kernel
theorem dL_acts_1168 : decode cL_acts 1168 = .ok (.ifCond .eq 40, 3) := by decide +kernel
theorem dL_acts_1171 : decode cL_acts 1171 = .ok (.aload_n 0, 1) := by decide +kernel
theorem dL_acts_1172 : decode cL_acts 1172 = .ok (.aload 5, 2) := by decide +kernel
theorem dL_acts_1174 : decode cL_acts 1174 = .ok (.getfield 120, 3) := by decide +kernel
theorem dL_acts_1177 : decode cL_acts 1177 = .ok (.aload 5, 2) := by decide +kernel
theorem dL_acts_1179 : decode cL_acts 1179 = .ok (.getfield 129, 3) := by decide +kernel
theorem dL_acts_1182 : decode cL_acts 1182 = .ok (.aload 5, 2) := by decide +kernel
theorem dL_acts_1184 : decode cL_acts 1184 = .ok (.getfield 132, 3) := by decide +kernel
theorem dL_acts_1187 : decode cL_acts 1187 = .ok (.aload 5, 2) := by decide +kernel
theorem dL_acts_1189 : decode cL_acts 1189 = .ok (.getfield 137, 3) := by decide +kernel
theorem dL_acts_1192 : decode cL_acts 1192 = .ok (.invokevirtual 372, 3) := by decide +kernel
theorem dL_acts_1195 : decode cL_acts 1195 = .ok (.iload 6, 2) := by decide +kernel
theorem dL_acts_1197 : decode cL_acts 1197 = .ok (.aload_n 3, 1) := by decide +kernel
theorem dL_acts_1198 : decode cL_acts 1198 = .ok (.invokestatic 329, 3) := by decide +kernel
theorem dL_acts_1201 : decode cL_acts 1201 = .ok (.ifCond .eq 7, 3) := by decide +kernel
