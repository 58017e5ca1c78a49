theorem dL_still_185 : decode cL_still 185 = .ok (.aload_n 1, 1) := by decide +kernel
theorem dL_still_186 : decode cL_still 186 = .ok (.iload 8, 2) := by decide +kernel
theorem dL_still_188 : decode cL_still 188 = .ok (.invokevirtual 192, 3) := by decide +kernel
theorem dL_still_191 : decode cL_still 191 = .ok (.goto 4, 3) := by decide +kernel
theorem dL_still_194 : decode cL_still 194 = .ok (.iconst (-1), 1) := by decide +kernel
theorem dL_still_195 : decode cL_still 195 = .ok (.if_icmp .eq 5, 3) := by decide +kernel
theorem dL_still_198 : decode cL_still 198 = .ok (.iconst 0, 1) := by decide +kernel
theorem dL_still_199 : decode cL_still 199 = .ok (.ireturn, 1) := by decide +kernel
theorem dL_still_200 : decode cL_still 200 = .ok (.iinc 8 1, 3) := by decide +kernel
theorem dL_still_203 : decode cL_still 203 = .ok (.goto (-172), 3) := by decide +kernel
theorem dL_still_206 : decode cL_still 206 = .ok (.iconst 0, 1) := by decide +kernel
theorem dL_still_207 : decode cL_still 207 = .ok (.istore 8, 2) := by decide +kernel
theorem dL_still_209 : decode cL_still 209 = .ok (.iload 8, 2) := by decide +kernel
theorem dL_still_211 : decode cL_still 211 = .ok (.bipush 7, 2) := by decide +kernel
theorem dL_still_213 : decode cL_still 213 = .ok (.if_icmp .ge 91, 3) := by decide +kernel
theorem dL_still_216 : decode cL_still 216 = .ok (.iconst 5, 1) := by decide +kernel
theorem dL_still_217 : decode cL_still 217 = .ok (.newarray .int, 2) := by decide +kernel
theorem dL_still_219 : decode cL_still 219 = .ok (.dup, 1) := by decide +kernel
theorem dL_still_220 : decode cL_still 220 = .ok (.iconst 0, 1) := by decide +kernel
theorem dL_still_221 : decode cL_still 221 = .ok (.aload_n 1, 1) := by decide +kernel
theorem dL_still_222 : decode cL_still 222 = .ok (.getfield 145, 3) := by decide +kernel
theorem dL_still_225 : decode cL_still 225 = .ok (.iload 8, 2) := by decide +kernel
theorem dL_still_227 : decode cL_still 227 = .ok (.iaload, 1) := by decide +kernel
theorem dL_still_228 : decode cL_still 228 = .ok (.iastore, 1) := by decide +kernel
theorem dL_still_229 : decode cL_still 229 = .ok (.dup, 1) := by decide +kernel
theorem dL_still_230 : decode cL_still 230 = .ok (.iconst 1, 1) := by decide +kernel
theorem dL_still_231 : decode cL_still 231 = .ok (.aload 5, 2) := by decide +kernel
theorem dL_still_233 : decode cL_still 233 = .ok (.iload 8, 2) := by decide +kernel
theorem dL_still_235 : decode cL_still 235 = .ok (.iaload, 1) := by decide +kernel
theorem dL_still_236 : decode cL_still 236 = .ok (.iastore, 1) := by decide +kernel
theorem dL_still_237 : decode cL_still 237 = .ok (.dup, 1) := by decide +kernel
theorem dL_still_238 : decode cL_still 238 = .ok (.iconst 2, 1) := by decide +kernel
theorem dL_still_239 : decode cL_still 239 = .ok (.aload 6, 2) := by decide +kernel
theorem dL_still_241 : decode cL_still 241 = .ok (.iload 8, 2) := by decide +kernel
theorem dL_still_243 : decode cL_still 243 = .ok (.iaload, 1) := by decide +kernel
theorem dL_still_244 : decode cL_still 244 = .ok (.iastore, 1) := by decide +kernel
theorem dL_still_245 : decode cL_still 245 = .ok (.dup, 1) := by decide +kernel
theorem dL_still_246 : decode cL_still 246 = .ok (.iconst 3, 1) := by decide +kernel
theorem dL_still_247 : decode cL_still 247 = .ok (.aload 7, 2) := by decide +kernel
theorem dL_still_249 : decode cL_still 249 = .ok (.iload 8, 2) := by decide +kernel
theorem dL_still_251 : decode cL_still 251 = .ok (.iaload, 1) := by decide +kernel
theorem dL_still_252 : decode cL_still 252 = .ok (.iastore, 1) := by decide +kernel
theorem dL_still_253 : decode cL_still 253 = .ok (.dup, 1) := by decide +kernel
theorem dL_still_254 : decode cL_still 254 = .ok (.iconst 4, 1) := by decide +kernel
theorem dL_still_255 : decode cL_still 255 = .ok (.aload 4, 2) := by decide +kernel
theorem dL_still_257 : decode cL_still 257 = .ok (.iload 8, 2) := by decide +kernel
theorem dL_still_259 : decode cL_still 259 = .ok (.iaload, 1) := by decide +kernel
theorem dL_still_260 : decode cL_still 260 = .ok (.iconst 2, 1) := by decide +kernel
theorem dL_still_261 : decode cL_still 261 = .ok (.idiv, 1) := by decide +kernel
theorem dL_still_262 : decode cL_still 262 = .ok (.iastore, 1) := by decide +kernel
theorem dL_still_263 : decode cL_still 263 = .ok (.astore 9, 2) := by decide +kernel
theorem dL_still_265 : decode cL_still 265 = .ok (.iconst 0, 1) := by decide +kernel
theorem dL_still_266 : decode cL_still 266 = .ok (.istore 10, 2) := by decide +kernel
theorem dL_still_268 : decode cL_still 268 = .ok (.iload 10, 2) := by decide +kernel
theorem dL_still_270 : decode cL_still 270 = .ok (.iconst 5, 1) := by decide +kernel
theorem dL_still_271 : decode cL_still 271 = .ok (.if_icmp .ge 27, 3) := by decide +kernel
theorem dL_still_274 : decode cL_still 274 = .ok (.aload_n 0, 1) := by decide +kernel
theorem dL_still_275 : decode cL_still 275 = .ok (.iload 8, 2) := by decide +kernel
theorem dL_still_277 : decode cL_still 277 = .ok (.iload 10, 2) := by decide +kernel
theorem dL_still_279 : decode cL_still 279 = .ok (.invokevirtual 193, 3) := by decide +kernel
theorem dL_still_282 : decode cL_still 282 = .ok (.aload 9, 2) := by decide +kernel
theorem dL_still_284 : decode cL_still 284 = .ok (.iload 10, 2) := by decide +kernel
theorem dL_still_286 : decode cL_still 286 = .ok (.iaload, 1) := by decide +kernel
theorem dL_still_287 : decode cL_still 287 = .ok (.if_icmp .eq 5, 3) := by decide +kernel
theorem dL_still_290 : decode cL_still 290 = .ok (.iconst 0, 1) := by decide +kernel
theorem dL_still_291 : decode cL_still 291 = .ok (.ireturn, 1) := by decide +kernel
theorem dL_still_292 : decode cL_still 292 = .ok (.iinc 10 1, 3) := by decide +kernel
theorem dL_still_295 : decode cL_still 295 = .ok (.goto (-27), 3) := by decide +kernel
theorem dL_still_298 : decode cL_still 298 = .ok (.iinc 8 1, 3) := by decide +kernel
theorem dL_still_301 : decode cL_still 301 = .ok (.goto (-92), 3) := by decide +kernel
theorem dL_still_304 : decode cL_still 304 = .ok (.aload_n 1, 1) := by decide +kernel
theorem dL_still_305 : decode cL_still 305 = .ok (.invokevirtual 186, 3) := by decide +kernel
theorem dL_still_308 : decode cL_still 308 = .ok (.aload_n 1, 1) := by decide +kernel
theorem dL_still_309 : decode cL_still 309 = .ok (.getfield 66, 3) := by decide +kernel
theorem dL_still_312 : decode cL_still 312 = .ok (.if_icmp .ne 7, 3) := by decide +kernel
theorem dL_still_315 : decode cL_still 315 = .ok (.iconst 1, 1) := by decide +kernel
theorem dL_still_316 : decode cL_still 316 = .ok (.goto 4, 3) := by decide +kernel
theorem dL_still_319 : decode cL_still 319 = .ok (.iconst 0, 1) := by decide +kernel
theorem dL_still_320 : decode cL_still 320 = .ok (.istore 8, 2) := by decide +kernel
theorem dL_still_322 : decode cL_still 322 = .ok (.iconst 0, 1) := by decide +kernel
theorem dL_still_323 : decode cL_still 323 = .ok (.istore 9, 2) := by decide +kernel
theorem dL_still_325 : decode cL_still 325 = .ok (.iload 9, 2) := by decide +kernel
theorem dL_still_327 : decode cL_still 327 = .ok (.aload_n 1, 1) := by decide +kernel
theorem dL_still_328 : decode cL_still 328 = .ok (.getfield 109, 3) := by decide +kernel
theorem dL_still_331 : decode cL_still 331 = .ok (.invokeinterface 160 1, 5) := by decide +kernel
theorem dL_still_336 : decode cL_still 336 = .ok (.if_icmp .ge 81, 3) := by decide +kernel
theorem dL_still_339 : decode cL_still 339 = .ok (.aload_n 1, 1) := by decide +kernel
theorem dL_still_340 : decode cL_still 340 = .ok (.getfield 109, 3) := by decide +kernel
theorem dL_still_343 : decode cL_still 343 = .ok (.iload 9, 2) := by decide +kernel
theorem dL_still_345 : decode cL_still 345 = .ok (.invokeinterface 195 2, 5) := by decide +kernel
theorem dL_still_350 : decode cL_still 350 = .ok (.checkcast 69, 3) := by decide +kernel
theorem dL_still_353 : decode cL_still 353 = .ok (.astore 10, 2) := by decide +kernel
theorem dL_still_355 : decode cL_still 355 = .ok (.aload_n 0, 1) := by decide +kernel
theorem dL_still_356 : decode cL_still 356 = .ok (.aload_n 1, 1) := by decide +kernel
theorem dL_still_357 : decode cL_still 357 = .ok (.iload 9, 2) := by decide +kernel
theorem dL_still_359 : decode cL_still 359 = .ok (.aload 10, 2) := by decide +kernel
theorem dL_still_361 : decode cL_still 361 = .ok (.invokestatic 199, 3) := by decide +kernel
theorem dL_still_364 : decode cL_still 364 = .ok (.ifCond .ne 5, 3) := by decide +kernel
theorem dL_still_367 : decode cL_still 367 = .ok (.iconst 0, 1) := by decide +kernel
theorem dL_still_368 : decode cL_still 368 = .ok (.ireturn, 1) := by decide +kernel
