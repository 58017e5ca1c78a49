theorem dL_acts_217 : decode cL_acts 217 = .ok (.iload 9, 2) := by decide +kernel
theorem dL_acts_219 : decode cL_acts 219 = .ok (.isub, 1) := by decide +kernel
theorem dL_acts_220 : decode cL_acts 220 = .ok (.iload 5, 2) := by decide +kernel
theorem dL_acts_222 : decode cL_acts 222 = .ok (.iastore, 1) := by decide +kernel
theorem dL_acts_223 : decode cL_acts 223 = .ok (.iinc 9 1, 3) := by decide +kernel
theorem dL_acts_226 : decode cL_acts 226 = .ok (.goto (-38), 3) := by decide +kernel
theorem dL_acts_229 : decode cL_acts 229 = .ok (.aload_n 2, 1) := by decide +kernel
theorem dL_acts_230 : decode cL_acts 230 = .ok (.iconst 3, 1) := by decide +kernel
theorem dL_acts_231 : decode cL_acts 231 = .ok (.invokestatic 45, 3) := by decide +kernel
theorem dL_acts_234 : decode cL_acts 234 = .ok (.ifCond .le 20, 3) := by decide +kernel
theorem dL_acts_237 : decode cL_acts 237 = .ok (.aload_n 0, 1) := by decide +kernel
theorem dL_acts_238 : decode cL_acts 238 = .ok (.iload 5, 2) := by decide +kernel
theorem dL_acts_240 : decode cL_acts 240 = .ok (.iload 6, 2) := by decide +kernel
theorem dL_acts_242 : decode cL_acts 242 = .ok (.iload 7, 2) := by decide +kernel
theorem dL_acts_244 : decode cL_acts 244 = .ok (.invokevirtual 326, 3) := by decide +kernel
theorem dL_acts_247 : decode cL_acts 247 = .ok (.iload 8, 2) := by decide +kernel
theorem dL_acts_249 : decode cL_acts 249 = .ok (.aload_n 3, 1) := by decide +kernel
theorem dL_acts_250 : decode cL_acts 250 = .ok (.invokestatic 329, 3) := by decide +kernel
theorem dL_acts_253 : decode cL_acts 253 = .ok (.ireturn, 1) := by decide +kernel
theorem dL_acts_254 : decode cL_acts 254 = .ok (.aload_n 3, 1) := by decide +kernel
theorem dL_acts_255 : decode cL_acts 255 = .ok (.iload 8, 2) := by decide +kernel
theorem dL_acts_257 : decode cL_acts 257 = .ok (.ifCond .ge 9, 3) := by decide +kernel
theorem dL_acts_260 : decode cL_acts 260 = .ok (.iload 8, 2) := by decide +kernel
theorem dL_acts_262 : decode cL_acts 262 = .ok (.ineg, 1) := by decide +kernel
theorem dL_acts_263 : decode cL_acts 263 = .ok (.goto 4, 3) := by decide +kernel
theorem dL_acts_266 : decode cL_acts 266 = .ok (.iconst 0, 1) := by decide +kernel
theorem dL_acts_267 : decode cL_acts 267 = .ok (.dup2, 1) := by decide +kernel
theorem dL_acts_268 : decode cL_acts 268 = .ok (.iaload, 1) := by decide +kernel
theorem dL_acts_269 : decode cL_acts 269 = .ok (.iconst 1, 1) := by decide +kernel
theorem dL_acts_270 : decode cL_acts 270 = .ok (.iadd, 1) := by decide +kernel
theorem dL_acts_271 : decode cL_acts 271 = .ok (.iastore, 1) := by decide +kernel
theorem dL_acts_272 : decode cL_acts 272 = .ok (.aload_n 0, 1) := by decide +kernel
theorem dL_acts_273 : decode cL_acts 273 = .ok (.new 40, 3) := by decide +kernel
theorem dL_acts_276 : decode cL_acts 276 = .ok (.dup, 1) := by decide +kernel
theorem dL_acts_277 : decode cL_acts 277 = .ok (.invokespecial 42, 3) := by decide +kernel
theorem dL_acts_280 : decode cL_acts 280 = .ok (.ldc_w 333, 3) := by decide +kernel
theorem dL_acts_283 : decode cL_acts 283 = .ok (.invokevirtual 114, 3) := by decide +kernel
theorem dL_acts_286 : decode cL_acts 286 = .ok (.iload 5, 2) := by decide +kernel
theorem dL_acts_288 : decode cL_acts 288 = .ok (.invokevirtual 102, 3) := by decide +kernel
theorem dL_acts_291 : decode cL_acts 291 = .ok (.ldc_w 335, 3) := by decide +kernel
theorem dL_acts_294 : decode cL_acts 294 = .ok (.invokevirtual 114, 3) := by decide +kernel
theorem dL_acts_297 : decode cL_acts 297 = .ok (.iload 6, 2) := by decide +kernel
theorem dL_acts_299 : decode cL_acts 299 = .ok (.invokevirtual 102, 3) := by decide +kernel
theorem dL_acts_302 : decode cL_acts 302 = .ok (.ldc_w 335, 3) := by decide +kernel
theorem dL_acts_305 : decode cL_acts 305 = .ok (.invokevirtual 114, 3) := by decide +kernel
theorem dL_acts_308 : decode cL_acts 308 = .ok (.iload 7, 2) := by decide +kernel
theorem dL_acts_310 : decode cL_acts 310 = .ok (.invokevirtual 102, 3) := by decide +kernel
theorem dL_acts_313 : decode cL_acts 313 = .ok (.ldc_w 337, 3) := by decide +kernel
theorem dL_acts_316 : decode cL_acts 316 = .ok (.invokevirtual 114, 3) := by decide +kernel
theorem dL_acts_319 : decode cL_acts 319 = .ok (.invokevirtual 52, 3) := by decide +kernel
theorem dL_acts_322 : decode cL_acts 322 = .ok (.invokestatic 153, 3) := by decide +kernel
theorem dL_acts_325 : decode cL_acts 325 = .ok (.ifCond .eq 31, 3) := by decide +kernel
theorem dL_acts_328 : decode cL_acts 328 = .ok (.aload_n 0, 1) := by decide +kernel
theorem dL_acts_329 : decode cL_acts 329 = .ok (.invokevirtual 339, 3) := by decide +kernel
theorem dL_acts_332 : decode cL_acts 332 = .ok (.iload 8, 2) := by decide +kernel
theorem dL_acts_334 : decode cL_acts 334 = .ok (.ifCond .ge 7, 3) := by decide +kernel
theorem dL_acts_337 : decode cL_acts 337 = .ok (.iconst 0, 1) := by decide +kernel
theorem dL_acts_338 : decode cL_acts 338 = .ok (.goto 4, 3) := by decide +kernel
theorem dL_acts_341 : decode cL_acts 341 = .ok (.iconst 1, 1) := by decide +kernel
theorem dL_acts_342 : decode cL_acts 342 = .ok (.if_icmp .ne 14, 3) := by decide +kernel
theorem dL_acts_345 : decode cL_acts 345 = .ok (.aload_n 0, 1) := by decide +kernel
theorem dL_acts_346 : decode cL_acts 346 = .ok (.invokevirtual 342, 3) := by decide +kernel
theorem dL_acts_349 : decode cL_acts 349 = .ok (.ifCond .ne 7, 3) := by decide +kernel
theorem dL_acts_352 : decode cL_acts 352 = .ok (.iconst 1, 1) := by decide +kernel
theorem dL_acts_353 : decode cL_acts 353 = .ok (.goto 4, 3) := by decide +kernel
theorem dL_acts_356 : decode cL_acts 356 = .ok (.iconst 0, 1) := by decide +kernel
theorem dL_acts_357 : decode cL_acts 357 = .ok (.ireturn, 1) := by decide +kernel
theorem dL_acts_358 : decode cL_acts 358 = .ok (.iconst 0, 1) := by decide +kernel
theorem dL_acts_359 : decode cL_acts 359 = .ok (.istore 5, 2) := by decide +kernel
theorem dL_acts_361 : decode cL_acts 361 = .ok (.iconst 0, 1) := by decide +kernel
theorem dL_acts_362 : decode cL_acts 362 = .ok (.istore 6, 2) := by decide +kernel
theorem dL_acts_364 : decode cL_acts 364 = .ok (.iload 6, 2) := by decide +kernel
theorem dL_acts_366 : decode cL_acts 366 = .ok (.aload_n 1, 1) := by decide +kernel
theorem dL_acts_367 : decode cL_acts 367 = .ok (.getfield 60, 3) := by decide +kernel
theorem dL_acts_370 : decode cL_acts 370 = .ok (.if_icmp .ge 37, 3) := by decide +kernel
theorem dL_acts_373 : decode cL_acts 373 = .ok (.iload 4, 2) := by decide +kernel
theorem dL_acts_375 : decode cL_acts 375 = .ok (.ifCond .eq 32, 3) := by decide +kernel
theorem dL_acts_378 : decode cL_acts 378 = .ok (.iload 5, 2) := by decide +kernel
theorem dL_acts_380 : decode cL_acts 380 = .ok (.aload_n 1, 1) := by decide +kernel
theorem dL_acts_381 : decode cL_acts 381 = .ok (.iload 6, 2) := by decide +kernel
