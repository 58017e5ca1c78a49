theorem dL_acts_1204 : decode cL_acts 1204 = .ok (.iconst 1, 1) := by decide +kernel
theorem dL_acts_1205 : decode cL_acts 1205 = .ok (.goto 4, 3) := by decide +kernel
theorem dL_acts_1208 : decode cL_acts 1208 = .ok (.iconst 0, 1) := by decide +kernel
theorem dL_acts_1209 : decode cL_acts 1209 = .ok (.ireturn, 1) := by decide +kernel
theorem dL_acts_1210 : decode cL_acts 1210 = .ok (.aload_n 1, 1) := by decide +kernel
theorem dL_acts_1211 : decode cL_acts 1211 = .ok (.getfield 109, 3) := by decide +kernel
theorem dL_acts_1214 : decode cL_acts 1214 = .ok (.invokeinterface 375 1, 5) := by decide +kernel
theorem dL_acts_1219 : decode cL_acts 1219 = .ok (.ifCond .eq 5, 3) := by decide +kernel
theorem dL_acts_1222 : decode cL_acts 1222 = .ok (.iconst 1, 1) := by decide +kernel
theorem dL_acts_1223 : decode cL_acts 1223 = .ok (.ireturn, 1) := by decide +kernel
theorem dL_acts_1224 : decode cL_acts 1224 = .ok (.aload_n 2, 1) := by decide +kernel
theorem dL_acts_1225 : decode cL_acts 1225 = .ok (.aload_n 1, 1) := by decide +kernel
theorem dL_acts_1226 : decode cL_acts 1226 = .ok (.getfield 109, 3) := by decide +kernel
theorem dL_acts_1229 : decode cL_acts 1229 = .ok (.invokeinterface 160 1, 5) := by decide +kernel
theorem dL_acts_1234 : decode cL_acts 1234 = .ok (.invokestatic 45, 3) := by decide +kernel
theorem dL_acts_1237 : decode cL_acts 1237 = .ok (.istore 5, 2) := by decide +kernel
theorem dL_acts_1239 : decode cL_acts 1239 = .ok (.aload_n 1, 1) := by decide +kernel
theorem dL_acts_1240 : decode cL_acts 1240 = .ok (.getfield 109, 3) := by decide +kernel
theorem dL_acts_1243 : decode cL_acts 1243 = .ok (.iload 5, 2) := by decide +kernel
theorem dL_acts_1245 : decode cL_acts 1245 = .ok (.invokeinterface 195 2, 5) := by decide +kernel
theorem dL_acts_1250 : decode cL_acts 1250 = .ok (.checkcast 69, 3) := by decide +kernel
theorem dL_acts_1253 : decode cL_acts 1253 = .ok (.astore 6, 2) := by decide +kernel
theorem dL_acts_1255 : decode cL_acts 1255 = .ok (.aload_n 2, 1) := by decide +kernel
theorem dL_acts_1256 : decode cL_acts 1256 = .ok (.aload_n 1, 1) := by decide +kernel
theorem dL_acts_1257 : decode cL_acts 1257 = .ok (.getfield 60, 3) := by decide +kernel
theorem dL_acts_1260 : decode cL_acts 1260 = .ok (.invokestatic 45, 3) := by decide +kernel
theorem dL_acts_1263 : decode cL_acts 1263 = .ok (.istore 7, 2) := by decide +kernel
theorem dL_acts_1265 : decode cL_acts 1265 = .ok (.aload_n 2, 1) := by decide +kernel
theorem dL_acts_1266 : decode cL_acts 1266 = .ok (.aload_n 1, 1) := by decide +kernel
theorem dL_acts_1267 : decode cL_acts 1267 = .ok (.getfield 66, 3) := by decide +kernel
theorem dL_acts_1270 : decode cL_acts 1270 = .ok (.invokestatic 45, 3) := by decide +kernel
theorem dL_acts_1273 : decode cL_acts 1273 = .ok (.istore 8, 2) := by decide +kernel
theorem dL_acts_1275 : decode cL_acts 1275 = .ok (.new 69, 3) := by decide +kernel
theorem dL_acts_1278 : decode cL_acts 1278 = .ok (.dup, 1) := by decide +kernel
theorem dL_acts_1279 : decode cL_acts 1279 = .ok (.aload 6, 2) := by decide +kernel
theorem dL_acts_1281 : decode cL_acts 1281 = .ok (.getfield 117, 3) := by decide +kernel
theorem dL_acts_1284 : decode cL_acts 1284 = .ok (.aload 6, 2) := by decide +kernel
theorem dL_acts_1286 : decode cL_acts 1286 = .ok (.getfield 120, 3) := by decide +kernel
theorem dL_acts_1289 : decode cL_acts 1289 = .ok (.iload 7, 2) := by decide +kernel
theorem dL_acts_1291 : decode cL_acts 1291 = .ok (.iload 8, 2) := by decide +kernel
theorem dL_acts_1293 : decode cL_acts 1293 = .ok (.aload 6, 2) := by decide +kernel
theorem dL_acts_1295 : decode cL_acts 1295 = .ok (.getfield 137, 3) := by decide +kernel
theorem dL_acts_1298 : decode cL_acts 1298 = .ok (.invokespecial 71, 3) := by decide +kernel
theorem dL_acts_1301 : decode cL_acts 1301 = .ok (.astore 9, 2) := by decide +kernel
theorem dL_acts_1303 : decode cL_acts 1303 = .ok (.aload_n 1, 1) := by decide +kernel
theorem dL_acts_1304 : decode cL_acts 1304 = .ok (.aload 6, 2) := by decide +kernel
theorem dL_acts_1306 : decode cL_acts 1306 = .ok (.getfield 117, 3) := by decide +kernel
theorem dL_acts_1309 : decode cL_acts 1309 = .ok (.invokevirtual 7, 3) := by decide +kernel
theorem dL_acts_1312 : decode cL_acts 1312 = .ok (.iload 7, 2) := by decide +kernel
theorem dL_acts_1314 : decode cL_acts 1314 = .ok (.iload 8, 2) := by decide +kernel
theorem dL_acts_1316 : decode cL_acts 1316 = .ok (.invokevirtual 74, 3) := by decide +kernel
theorem dL_acts_1319 : decode cL_acts 1319 = .ok (.ifCond .ne 8, 3) := by decide +kernel
theorem dL_acts_1322 : decode cL_acts 1322 = .ok (.bipush (-5), 2) := by decide +kernel
theorem dL_acts_1324 : decode cL_acts 1324 = .ok (.goto 20, 3) := by decide +kernel
theorem dL_acts_1327 : decode cL_acts 1327 = .ok (.aload_n 1, 1) := by decide +kernel
theorem dL_acts_1328 : decode cL_acts 1328 = .ok (.aload 9, 2) := by decide +kernel
theorem dL_acts_1330 : decode cL_acts 1330 = .ok (.aload 6, 2) := by decide +kernel
theorem dL_acts_1332 : decode cL_acts 1332 = .ok (.invokevirtual 78, 3) := by decide +kernel
theorem dL_acts_1335 : decode cL_acts 1335 = .ok (.ifCond .eq 8, 3) := by decide +kernel
theorem dL_acts_1338 : decode cL_acts 1338 = .ok (.bipush (-6), 2) := by decide +kernel
theorem dL_acts_1340 : decode cL_acts 1340 = .ok (.goto 4, 3) := by decide +kernel
theorem dL_acts_1343 : decode cL_acts 1343 = .ok (.iconst 0, 1) := by decide +kernel
theorem dL_acts_1344 : decode cL_acts 1344 = .ok (.istore 10, 2) := by decide +kernel
theorem dL_acts_1346 : decode cL_acts 1346 = .ok (.iload 10, 2) := by decide +kernel
theorem dL_acts_1348 : decode cL_acts 1348 = .ok (.ifCond .ne 17, 3) := by decide +kernel
theorem dL_acts_1351 : decode cL_acts 1351 = .ok (.aload_n 1, 1) := by decide +kernel
theorem dL_acts_1352 : decode cL_acts 1352 = .ok (.getfield 109, 3) := by decide +kernel
theorem dL_acts_1355 : decode cL_acts 1355 = .ok (.iload 5, 2) := by decide +kernel
theorem dL_acts_1357 : decode cL_acts 1357 = .ok (.aload 9, 2) := by decide +kernel
theorem dL_acts_1359 : decode cL_acts 1359 = .ok (.invokeinterface 315 3, 5) := by decide +kernel
theorem dL_acts_1364 : decode cL_acts 1364 = .ok (.pop, 1) := by decide +kernel
theorem dL_acts_1365 : decode cL_acts 1365 = .ok (.aload_n 0, 1) := by decide +kernel
theorem dL_acts_1366 : decode cL_acts 1366 = .ok (.iload 5, 2) := by decide +kernel
theorem dL_acts_1368 : decode cL_acts 1368 = .ok (.iload 7, 2) := by decide +kernel
theorem dL_acts_1370 : decode cL_acts 1370 = .ok (.iload 8, 2) := by decide +kernel
theorem dL_acts_1372 : decode cL_acts 1372 = .ok (.invokevirtual 378, 3) := by decide +kernel
theorem dL_acts_1375 : decode cL_acts 1375 = .ok (.iload 10, 2) := by decide +kernel
theorem dL_acts_1377 : decode cL_acts 1377 = .ok (.ifCond .ge 8, 3) := by decide +kernel
theorem dL_acts_1380 : decode cL_acts 1380 = .ok (.iload 10, 2) := by decide +kernel
theorem dL_acts_1382 : decode cL_acts 1382 = .ok (.goto 8, 3) := by decide +kernel
