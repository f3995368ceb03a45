theorem law_d {cc : ByteArray} {tb : List (Nat × Instr × Nat)} (h : tb.all (fun e => decide (decode cc e.1 = .ok (e.2.1, e.2.2))) = true) {i pc len : Nat} {ins : Instr} (hi : tb[i]? = some (pc, ins, len)) : decode cc pc = .ok (ins, len) := by
  have hd := of_decide_eq_true (List.all_eq_true.mp h _ (List.mem_of_getElem? hi))
  dsimp only at hd
  exact hd
theorem d_law_0 : decode code 0 = .ok (.new 7, 3) := law_d (cc := code) lawTb0_ok (i := 0) rfl
theorem d_law_3 : decode code 3 = .ok (.dup, 1) := law_d (cc := code) lawTb0_ok (i := 1) rfl
theorem d_law_4 : decode code 4 = .ok (.invokespecial 9, 3) := law_d (cc := code) lawTb0_ok (i := 2) rfl
theorem d_law_7 : decode code 7 = .ok (.astore_n 1, 1) := law_d (cc := code) lawTb0_ok (i := 3) rfl
theorem d_law_8 : decode code 8 = .ok (.new 10, 3) := law_d (cc := code) lawTb0_ok (i := 4) rfl
theorem d_law_11 : decode code 11 = .ok (.dup, 1) := law_d (cc := code) lawTb0_ok (i := 5) rfl
theorem d_law_12 : decode code 12 = .ok (.invokespecial 12, 3) := law_d (cc := code) lawTb0_ok (i := 6) rfl
theorem d_law_15 : decode code 15 = .ok (.astore_n 2, 1) := law_d (cc := code) lawTb0_ok (i := 7) rfl
theorem d_law_16 : decode code 16 = .ok (.iconst 0, 1) := law_d (cc := code) lawTb0_ok (i := 8) rfl
theorem d_law_17 : decode code 17 = .ok (.istore_n 3, 1) := law_d (cc := code) lawTb0_ok (i := 9) rfl
theorem d_law_18 : decode code 18 = .ok (.iload_n 3, 1) := law_d (cc := code) lawTb0_ok (i := 10) rfl
theorem d_law_19 : decode code 19 = .ok (.aload_n 0, 1) := law_d (cc := code) lawTb0_ok (i := 11) rfl
theorem d_law_20 : decode code 20 = .ok (.arraylength, 1) := law_d (cc := code) lawTb0_ok (i := 12) rfl
theorem d_law_21 : decode code 21 = .ok (.iconst 4, 1) := law_d (cc := code) lawTb0_ok (i := 13) rfl
theorem d_law_22 : decode code 22 = .ok (.isub, 1) := law_d (cc := code) lawTb0_ok (i := 14) rfl
theorem d_law_23 : decode code 23 = .ok (.if_icmp .gt 1227, 3) := law_d (cc := code) lawTb0_ok (i := 15) rfl
theorem d_law_26 : decode code 26 = .ok (.aload_n 0, 1) := law_d (cc := code) lawTb0_ok (i := 16) rfl
theorem d_law_27 : decode code 27 = .ok (.iload_n 3, 1) := law_d (cc := code) lawTb0_ok (i := 17) rfl
theorem d_law_28 : decode code 28 = .ok (.iaload, 1) := law_d (cc := code) lawTb0_ok (i := 18) rfl
theorem d_law_29 : decode code 29 = .ok (.bipush 63, 2) := law_d (cc := code) lawTb0_ok (i := 19) rfl
theorem d_law_31 : decode code 31 = .ok (.iand, 1) := law_d (cc := code) lawTb0_ok (i := 20) rfl
theorem d_law_32 : decode code 32 = .ok (.tableswitch 1212 0 41 #[184, 207, 220, 253, 286, 319, 362, 405, 428, 461, 494, 527, 550, 573, 596, 619, 652, 675, 698, 711, 724, 737, 750, 773, 796, 809, 822, 845, 888, 901, 924, 947, 991, 1015, 1038, 1071, 1094, 1107, 1120, 1163, 1176, 1189], 184) := law_d (cc := code) lawTb0_ok (i := 21) rfl
theorem d_law_216 : decode code 216 = .ok (.aload_n 1, 1) := law_d (cc := code) lawTb0_ok (i := 22) rfl
theorem d_law_217 : decode code 217 = .ok (.aload_n 0, 1) := law_d (cc := code) lawTb0_ok (i := 23) rfl
theorem d_law_218 : decode code 218 = .ok (.iload_n 3, 1) := law_d (cc := code) lawTb0_ok (i := 24) rfl
theorem d_law_219 : decode code 219 = .ok (.iconst 1, 1) := law_d (cc := code) lawTb0_ok (i := 25) rfl
theorem d_law_220 : decode code 220 = .ok (.iadd, 1) := law_d (cc := code) lawTb0_ok (i := 26) rfl
theorem d_law_221 : decode code 221 = .ok (.iaload, 1) := law_d (cc := code) lawTb0_ok (i := 27) rfl
theorem d_law_222 : decode code 222 = .ok (.invokevirtual 13, 3) := law_d (cc := code) lawTb0_ok (i := 28) rfl
theorem d_law_225 : decode code 225 = .ok (.aload_n 2, 1) := law_d (cc := code) lawTb0_ok (i := 29) rfl
theorem d_law_226 : decode code 226 = .ok (.aload_n 0, 1) := law_d (cc := code) lawTb0_ok (i := 30) rfl
theorem d_law_227 : decode code 227 = .ok (.iload_n 3, 1) := law_d (cc := code) lawTb0_ok (i := 31) rfl
theorem d_law_228 : decode code 228 = .ok (.iconst 1, 1) := law_d (cc := code) lawTb0_ok (i := 32) rfl
theorem d_law_229 : decode code 229 = .ok (.iadd, 1) := law_d (cc := code) lawTb0_ok (i := 33) rfl
theorem d_law_230 : decode code 230 = .ok (.iaload, 1) := law_d (cc := code) lawTb0_ok (i := 34) rfl
theorem d_law_231 : decode code 231 = .ok (.invokevirtual 17, 3) := law_d (cc := code) lawTb0_ok (i := 35) rfl
theorem d_law_234 : decode code 234 = .ok (.if_icmp .eq 1010, 3) := law_d (cc := code) lawTb0_ok (i := 36) rfl
theorem d_law_237 : decode code 237 = .ok (.iconst 0, 1) := law_d (cc := code) lawTb0_ok (i := 37) rfl
theorem d_law_238 : decode code 238 = .ok (.ireturn, 1) := law_d (cc := code) lawTb0_ok (i := 38) rfl
theorem d_law_239 : decode code 239 = .ok (.aload_n 1, 1) := law_d (cc := code) lawTb0_ok (i := 39) rfl
theorem d_law_240 : decode code 240 = .ok (.invokevirtual 18, 3) := law_d (cc := code) lawTb0_ok (i := 40) rfl
theorem d_law_243 : decode code 243 = .ok (.aload_n 2, 1) := law_d (cc := code) lawTb0_ok (i := 41) rfl
theorem d_law_244 : decode code 244 = .ok (.invokevirtual 22, 3) := law_d (cc := code) lawTb0_ok (i := 42) rfl
theorem d_law_247 : decode code 247 = .ok (.if_icmp .eq 997, 3) := law_d (cc := code) lawTb0_ok (i := 43) rfl
theorem d_law_250 : decode code 250 = .ok (.iconst 0, 1) := law_d (cc := code) lawTb0_ok (i := 44) rfl
theorem d_law_251 : decode code 251 = .ok (.ireturn, 1) := law_d (cc := code) lawTb0_ok (i := 45) rfl
theorem d_law_252 : decode code 252 = .ok (.aload_n 1, 1) := law_d (cc := code) lawTb0_ok (i := 46) rfl
theorem d_law_253 : decode code 253 = .ok (.aload_n 0, 1) := law_d (cc := code) lawTb0_ok (i := 47) rfl
theorem d_law_254 : decode code 254 = .ok (.iload_n 3, 1) := law_d (cc := code) lawTb0_ok (i := 48) rfl
theorem d_law_255 : decode code 255 = .ok (.iconst 1, 1) := law_d (cc := code) lawTb0_ok (i := 49) rfl
theorem d_law_256 : decode code 256 = .ok (.iadd, 1) := law_d (cc := code) lawTb0_ok (i := 50) rfl
theorem d_law_257 : decode code 257 = .ok (.iaload, 1) := law_d (cc := code) lawTb0_ok (i := 51) rfl
theorem d_law_258 : decode code 258 = .ok (.aload_n 0, 1) := law_d (cc := code) lawTb0_ok (i := 52) rfl
theorem d_law_259 : decode code 259 = .ok (.iload_n 3, 1) := law_d (cc := code) lawTb0_ok (i := 53) rfl
theorem d_law_260 : decode code 260 = .ok (.iconst 2, 1) := law_d (cc := code) lawTb0_ok (i := 54) rfl
theorem d_law_261 : decode code 261 = .ok (.iadd, 1) := law_d (cc := code) lawTb0_ok (i := 55) rfl
theorem d_law_262 : decode code 262 = .ok (.iaload, 1) := law_d (cc := code) lawTb0_ok (i := 56) rfl
theorem d_law_263 : decode code 263 = .ok (.invokevirtual 23, 3) := law_d (cc := code) lawTb0_ok (i := 57) rfl
theorem d_law_266 : decode code 266 = .ok (.aload_n 2, 1) := law_d (cc := code) lawTb0_ok (i := 58) rfl
theorem d_law_267 : decode code 267 = .ok (.aload_n 0, 1) := law_d (cc := code) lawTb0_ok (i := 59) rfl
theorem d_law_268 : decode code 268 = .ok (.iload_n 3, 1) := law_d (cc := code) lawTb0_ok (i := 60) rfl
theorem d_law_269 : decode code 269 = .ok (.iconst 1, 1) := law_d (cc := code) lawTb0_ok (i := 61) rfl
theorem d_law_270 : decode code 270 = .ok (.iadd, 1) := law_d (cc := code) lawTb0_ok (i := 62) rfl
theorem d_law_271 : decode code 271 = .ok (.iaload, 1) := law_d (cc := code) lawTb0_ok (i := 63) rfl
theorem d_law_272 : decode code 272 = .ok (.aload_n 0, 1) := law_d (cc := code) lawTb0_ok (i := 64) rfl
theorem d_law_273 : decode code 273 = .ok (.iload_n 3, 1) := law_d (cc := code) lawTb0_ok (i := 65) rfl
theorem d_law_274 : decode code 274 = .ok (.iconst 2, 1) := law_d (cc := code) lawTb0_ok (i := 66) rfl
theorem d_law_275 : decode code 275 = .ok (.iadd, 1) := law_d (cc := code) lawTb0_ok (i := 67) rfl
theorem d_law_276 : decode code 276 = .ok (.iaload, 1) := law_d (cc := code) lawTb0_ok (i := 68) rfl
theorem d_law_277 : decode code 277 = .ok (.invokevirtual 27, 3) := law_d (cc := code) lawTb0_ok (i := 69) rfl
theorem d_law_280 : decode code 280 = .ok (.if_icmp .eq 964, 3) := law_d (cc := code) lawTb0_ok (i := 70) rfl
theorem d_law_283 : decode code 283 = .ok (.iconst 0, 1) := law_d (cc := code) lawTb0_ok (i := 71) rfl
theorem d_law_284 : decode code 284 = .ok (.ireturn, 1) := law_d (cc := code) lawTb0_ok (i := 72) rfl
theorem d_law_285 : decode code 285 = .ok (.aload_n 1, 1) := law_d (cc := code) lawTb0_ok (i := 73) rfl
theorem d_law_286 : decode code 286 = .ok (.aload_n 0, 1) := law_d (cc := code) lawTb0_ok (i := 74) rfl
theorem d_law_287 : decode code 287 = .ok (.iload_n 3, 1) := law_d (cc := code) lawTb0_ok (i := 75) rfl
theorem d_law_288 : decode code 288 = .ok (.iconst 1, 1) := law_d (cc := code) lawTb0_ok (i := 76) rfl
theorem d_law_289 : decode code 289 = .ok (.iadd, 1) := law_d (cc := code) lawTb0_ok (i := 77) rfl
theorem d_law_290 : decode code 290 = .ok (.iaload, 1) := law_d (cc := code) lawTb0_ok (i := 78) rfl
theorem d_law_291 : decode code 291 = .ok (.aload_n 0, 1) := law_d (cc := code) lawTb0_ok (i := 79) rfl
theorem d_law_292 : decode code 292 = .ok (.iload_n 3, 1) := law_d (cc := code) lawTb1_ok (i := 0) rfl
theorem d_law_293 : decode code 293 = .ok (.iconst 2, 1) := law_d (cc := code) lawTb1_ok (i := 1) rfl
theorem d_law_294 : decode code 294 = .ok (.iadd, 1) := law_d (cc := code) lawTb1_ok (i := 2) rfl
theorem d_law_295 : decode code 295 = .ok (.iaload, 1) := law_d (cc := code) lawTb1_ok (i := 3) rfl
theorem d_law_296 : decode code 296 = .ok (.invokevirtual 28, 3) := law_d (cc := code) lawTb1_ok (i := 4) rfl
theorem d_law_299 : decode code 299 = .ok (.aload_n 2, 1) := law_d (cc := code) lawTb1_ok (i := 5) rfl
theorem d_law_300 : decode code 300 = .ok (.aload_n 0, 1) := law_d (cc := code) lawTb1_ok (i := 6) rfl
theorem d_law_301 : decode code 301 = .ok (.iload_n 3, 1) := law_d (cc := code) lawTb1_ok (i := 7) rfl
theorem d_law_302 : decode code 302 = .ok (.iconst 1, 1) := law_d (cc := code) lawTb1_ok (i := 8) rfl
theorem d_law_303 : decode code 303 = .ok (.iadd, 1) := law_d (cc := code) lawTb1_ok (i := 9) rfl
theorem d_law_304 : decode code 304 = .ok (.iaload, 1) := law_d (cc := code) lawTb1_ok (i := 10) rfl
theorem d_law_305 : decode code 305 = .ok (.aload_n 0, 1) := law_d (cc := code) lawTb1_ok (i := 11) rfl
theorem d_law_306 : decode code 306 = .ok (.iload_n 3, 1) := law_d (cc := code) lawTb1_ok (i := 12) rfl
theorem d_law_307 : decode code 307 = .ok (.iconst 2, 1) := law_d (cc := code) lawTb1_ok (i := 13) rfl
theorem d_law_308 : decode code 308 = .ok (.iadd, 1) := law_d (cc := code) lawTb1_ok (i := 14) rfl
theorem d_law_309 : decode code 309 = .ok (.iaload, 1) := law_d (cc := code) lawTb1_ok (i := 15) rfl
theorem d_law_310 : decode code 310 = .ok (.invokevirtual 31, 3) := law_d (cc := code) lawTb1_ok (i := 16) rfl
theorem d_law_313 : decode code 313 = .ok (.if_icmp .eq 931, 3) := law_d (cc := code) lawTb1_ok (i := 17) rfl
theorem d_law_316 : decode code 316 = .ok (.iconst 0, 1) := law_d (cc := code) lawTb1_ok (i := 18) rfl
theorem d_law_317 : decode code 317 = .ok (.ireturn, 1) := law_d (cc := code) lawTb1_ok (i := 19) rfl
theorem d_law_318 : decode code 318 = .ok (.aload_n 1, 1) := law_d (cc := code) lawTb1_ok (i := 20) rfl
theorem d_law_319 : decode code 319 = .ok (.aload_n 0, 1) := law_d (cc := code) lawTb1_ok (i := 21) rfl
theorem d_law_320 : decode code 320 = .ok (.iload_n 3, 1) := law_d (cc := code) lawTb1_ok (i := 22) rfl
theorem d_law_321 : decode code 321 = .ok (.iconst 1, 1) := law_d (cc := code) lawTb1_ok (i := 23) rfl
theorem d_law_322 : decode code 322 = .ok (.iadd, 1) := law_d (cc := code) lawTb1_ok (i := 24) rfl
theorem d_law_323 : decode code 323 = .ok (.iaload, 1) := law_d (cc := code) lawTb1_ok (i := 25) rfl
theorem d_law_324 : decode code 324 = .ok (.aload_n 0, 1) := law_d (cc := code) lawTb1_ok (i := 26) rfl
theorem d_law_325 : decode code 325 = .ok (.iload_n 3, 1) := law_d (cc := code) lawTb1_ok (i := 27) rfl
theorem d_law_326 : decode code 326 = .ok (.iconst 2, 1) := law_d (cc := code) lawTb1_ok (i := 28) rfl
theorem d_law_327 : decode code 327 = .ok (.iadd, 1) := law_d (cc := code) lawTb1_ok (i := 29) rfl
theorem d_law_328 : decode code 328 = .ok (.iaload, 1) := law_d (cc := code) lawTb1_ok (i := 30) rfl
theorem d_law_329 : decode code 329 = .ok (.invokevirtual 32, 3) := law_d (cc := code) lawTb1_ok (i := 31) rfl
theorem d_law_332 : decode code 332 = .ok (.aload_n 2, 1) := law_d (cc := code) lawTb1_ok (i := 32) rfl
theorem d_law_333 : decode code 333 = .ok (.aload_n 0, 1) := law_d (cc := code) lawTb1_ok (i := 33) rfl
theorem d_law_334 : decode code 334 = .ok (.iload_n 3, 1) := law_d (cc := code) lawTb1_ok (i := 34) rfl
theorem d_law_335 : decode code 335 = .ok (.iconst 1, 1) := law_d (cc := code) lawTb1_ok (i := 35) rfl
theorem d_law_336 : decode code 336 = .ok (.iadd, 1) := law_d (cc := code) lawTb1_ok (i := 36) rfl
theorem d_law_337 : decode code 337 = .ok (.iaload, 1) := law_d (cc := code) lawTb1_ok (i := 37) rfl
theorem d_law_338 : decode code 338 = .ok (.aload_n 0, 1) := law_d (cc := code) lawTb1_ok (i := 38) rfl
theorem d_law_339 : decode code 339 = .ok (.iload_n 3, 1) := law_d (cc := code) lawTb1_ok (i := 39) rfl
theorem d_law_340 : decode code 340 = .ok (.iconst 2, 1) := law_d (cc := code) lawTb1_ok (i := 40) rfl
theorem d_law_341 : decode code 341 = .ok (.iadd, 1) := law_d (cc := code) lawTb1_ok (i := 41) rfl
theorem d_law_342 : decode code 342 = .ok (.iaload, 1) := law_d (cc := code) lawTb1_ok (i := 42) rfl
theorem d_law_343 : decode code 343 = .ok (.invokevirtual 35, 3) := law_d (cc := code) lawTb1_ok (i := 43) rfl
theorem d_law_346 : decode code 346 = .ok (.if_icmp .eq 898, 3) := law_d (cc := code) lawTb1_ok (i := 44) rfl
theorem d_law_349 : decode code 349 = .ok (.iconst 0, 1) := law_d (cc := code) lawTb1_ok (i := 45) rfl
theorem d_law_350 : decode code 350 = .ok (.ireturn, 1) := law_d (cc := code) lawTb1_ok (i := 46) rfl
theorem d_law_351 : decode code 351 = .ok (.aload_n 1, 1) := law_d (cc := code) lawTb1_ok (i := 47) rfl
theorem d_law_352 : decode code 352 = .ok (.aload_n 0, 1) := law_d (cc := code) lawTb1_ok (i := 48) rfl
theorem d_law_353 : decode code 353 = .ok (.iload_n 3, 1) := law_d (cc := code) lawTb1_ok (i := 49) rfl
theorem d_law_354 : decode code 354 = .ok (.iconst 1, 1) := law_d (cc := code) lawTb1_ok (i := 50) rfl
theorem d_law_355 : decode code 355 = .ok (.iadd, 1) := law_d (cc := code) lawTb1_ok (i := 51) rfl
theorem d_law_356 : decode code 356 = .ok (.iaload, 1) := law_d (cc := code) lawTb1_ok (i := 52) rfl
theorem d_law_357 : decode code 357 = .ok (.aload_n 0, 1) := law_d (cc := code) lawTb1_ok (i := 53) rfl
theorem d_law_358 : decode code 358 = .ok (.iload_n 3, 1) := law_d (cc := code) lawTb1_ok (i := 54) rfl
theorem d_law_359 : decode code 359 = .ok (.iconst 2, 1) := law_d (cc := code) lawTb1_ok (i := 55) rfl
theorem d_law_360 : decode code 360 = .ok (.iadd, 1) := law_d (cc := code) lawTb1_ok (i := 56) rfl
theorem d_law_361 : decode code 361 = .ok (.iaload, 1) := law_d (cc := code) lawTb1_ok (i := 57) rfl
theorem d_law_362 : decode code 362 = .ok (.aload_n 0, 1) := law_d (cc := code) lawTb1_ok (i := 58) rfl
theorem d_law_363 : decode code 363 = .ok (.iload_n 3, 1) := law_d (cc := code) lawTb1_ok (i := 59) rfl
theorem d_law_364 : decode code 364 = .ok (.iconst 3, 1) := law_d (cc := code) lawTb1_ok (i := 60) rfl
theorem d_law_365 : decode code 365 = .ok (.iadd, 1) := law_d (cc := code) lawTb1_ok (i := 61) rfl
theorem d_law_366 : decode code 366 = .ok (.iaload, 1) := law_d (cc := code) lawTb1_ok (i := 62) rfl
theorem d_law_367 : decode code 367 = .ok (.invokevirtual 36, 3) := law_d (cc := code) lawTb1_ok (i := 63) rfl
theorem d_law_370 : decode code 370 = .ok (.aload_n 2, 1) := law_d (cc := code) lawTb1_ok (i := 64) rfl
theorem d_law_371 : decode code 371 = .ok (.aload_n 0, 1) := law_d (cc := code) lawTb1_ok (i := 65) rfl
theorem d_law_372 : decode code 372 = .ok (.iload_n 3, 1) := law_d (cc := code) lawTb1_ok (i := 66) rfl
theorem d_law_373 : decode code 373 = .ok (.iconst 1, 1) := law_d (cc := code) lawTb1_ok (i := 67) rfl
theorem d_law_374 : decode code 374 = .ok (.iadd, 1) := law_d (cc := code) lawTb1_ok (i := 68) rfl
theorem d_law_375 : decode code 375 = .ok (.iaload, 1) := law_d (cc := code) lawTb1_ok (i := 69) rfl
theorem d_law_376 : decode code 376 = .ok (.aload_n 0, 1) := law_d (cc := code) lawTb1_ok (i := 70) rfl
theorem d_law_377 : decode code 377 = .ok (.iload_n 3, 1) := law_d (cc := code) lawTb1_ok (i := 71) rfl
theorem d_law_378 : decode code 378 = .ok (.iconst 2, 1) := law_d (cc := code) lawTb1_ok (i := 72) rfl
theorem d_law_379 : decode code 379 = .ok (.iadd, 1) := law_d (cc := code) lawTb1_ok (i := 73) rfl
theorem d_law_380 : decode code 380 = .ok (.iaload, 1) := law_d (cc := code) lawTb1_ok (i := 74) rfl
theorem d_law_381 : decode code 381 = .ok (.aload_n 0, 1) := law_d (cc := code) lawTb1_ok (i := 75) rfl
theorem d_law_382 : decode code 382 = .ok (.iload_n 3, 1) := law_d (cc := code) lawTb1_ok (i := 76) rfl
theorem d_law_383 : decode code 383 = .ok (.iconst 3, 1) := law_d (cc := code) lawTb1_ok (i := 77) rfl
theorem d_law_384 : decode code 384 = .ok (.iadd, 1) := law_d (cc := code) lawTb1_ok (i := 78) rfl
theorem d_law_385 : decode code 385 = .ok (.iaload, 1) := law_d (cc := code) lawTb1_ok (i := 79) rfl
theorem d_law_386 : decode code 386 = .ok (.invokevirtual 40, 3) := law_d (cc := code) lawTb2_ok (i := 0) rfl
theorem d_law_389 : decode code 389 = .ok (.if_icmp .eq 855, 3) := law_d (cc := code) lawTb2_ok (i := 1) rfl
theorem d_law_392 : decode code 392 = .ok (.iconst 0, 1) := law_d (cc := code) lawTb2_ok (i := 2) rfl
theorem d_law_393 : decode code 393 = .ok (.ireturn, 1) := law_d (cc := code) lawTb2_ok (i := 3) rfl
theorem d_law_394 : decode code 394 = .ok (.aload_n 1, 1) := law_d (cc := code) lawTb2_ok (i := 4) rfl
theorem d_law_395 : decode code 395 = .ok (.aload_n 0, 1) := law_d (cc := code) lawTb2_ok (i := 5) rfl
theorem d_law_396 : decode code 396 = .ok (.iload_n 3, 1) := law_d (cc := code) lawTb2_ok (i := 6) rfl
theorem d_law_397 : decode code 397 = .ok (.iconst 1, 1) := law_d (cc := code) lawTb2_ok (i := 7) rfl
theorem d_law_398 : decode code 398 = .ok (.iadd, 1) := law_d (cc := code) lawTb2_ok (i := 8) rfl
theorem d_law_399 : decode code 399 = .ok (.iaload, 1) := law_d (cc := code) lawTb2_ok (i := 9) rfl
theorem d_law_400 : decode code 400 = .ok (.aload_n 0, 1) := law_d (cc := code) lawTb2_ok (i := 10) rfl
theorem d_law_401 : decode code 401 = .ok (.iload_n 3, 1) := law_d (cc := code) lawTb2_ok (i := 11) rfl
theorem d_law_402 : decode code 402 = .ok (.iconst 2, 1) := law_d (cc := code) lawTb2_ok (i := 12) rfl
theorem d_law_403 : decode code 403 = .ok (.iadd, 1) := law_d (cc := code) lawTb2_ok (i := 13) rfl
theorem d_law_404 : decode code 404 = .ok (.iaload, 1) := law_d (cc := code) lawTb2_ok (i := 14) rfl
theorem d_law_405 : decode code 405 = .ok (.aload_n 0, 1) := law_d (cc := code) lawTb2_ok (i := 15) rfl
theorem d_law_406 : decode code 406 = .ok (.iload_n 3, 1) := law_d (cc := code) lawTb2_ok (i := 16) rfl
theorem d_law_407 : decode code 407 = .ok (.iconst 3, 1) := law_d (cc := code) lawTb2_ok (i := 17) rfl
theorem d_law_408 : decode code 408 = .ok (.iadd, 1) := law_d (cc := code) lawTb2_ok (i := 18) rfl
theorem d_law_409 : decode code 409 = .ok (.iaload, 1) := law_d (cc := code) lawTb2_ok (i := 19) rfl
theorem d_law_410 : decode code 410 = .ok (.invokevirtual 41, 3) := law_d (cc := code) lawTb2_ok (i := 20) rfl
theorem d_law_413 : decode code 413 = .ok (.aload_n 2, 1) := law_d (cc := code) lawTb2_ok (i := 21) rfl
theorem d_law_414 : decode code 414 = .ok (.aload_n 0, 1) := law_d (cc := code) lawTb2_ok (i := 22) rfl
theorem d_law_415 : decode code 415 = .ok (.iload_n 3, 1) := law_d (cc := code) lawTb2_ok (i := 23) rfl
theorem d_law_416 : decode code 416 = .ok (.iconst 1, 1) := law_d (cc := code) lawTb2_ok (i := 24) rfl
theorem d_law_417 : decode code 417 = .ok (.iadd, 1) := law_d (cc := code) lawTb2_ok (i := 25) rfl
theorem d_law_418 : decode code 418 = .ok (.iaload, 1) := law_d (cc := code) lawTb2_ok (i := 26) rfl
theorem d_law_419 : decode code 419 = .ok (.aload_n 0, 1) := law_d (cc := code) lawTb2_ok (i := 27) rfl
theorem d_law_420 : decode code 420 = .ok (.iload_n 3, 1) := law_d (cc := code) lawTb2_ok (i := 28) rfl
theorem d_law_421 : decode code 421 = .ok (.iconst 2, 1) := law_d (cc := code) lawTb2_ok (i := 29) rfl
theorem d_law_422 : decode code 422 = .ok (.iadd, 1) := law_d (cc := code) lawTb2_ok (i := 30) rfl
theorem d_law_423 : decode code 423 = .ok (.iaload, 1) := law_d (cc := code) lawTb2_ok (i := 31) rfl
theorem d_law_424 : decode code 424 = .ok (.aload_n 0, 1) := law_d (cc := code) lawTb2_ok (i := 32) rfl
theorem d_law_425 : decode code 425 = .ok (.iload_n 3, 1) := law_d (cc := code) lawTb2_ok (i := 33) rfl
theorem d_law_426 : decode code 426 = .ok (.iconst 3, 1) := law_d (cc := code) lawTb2_ok (i := 34) rfl
theorem d_law_427 : decode code 427 = .ok (.iadd, 1) := law_d (cc := code) lawTb2_ok (i := 35) rfl
theorem d_law_428 : decode code 428 = .ok (.iaload, 1) := law_d (cc := code) lawTb2_ok (i := 36) rfl
theorem d_law_429 : decode code 429 = .ok (.invokevirtual 44, 3) := law_d (cc := code) lawTb2_ok (i := 37) rfl
theorem d_law_432 : decode code 432 = .ok (.if_icmp .eq 812, 3) := law_d (cc := code) lawTb2_ok (i := 38) rfl
theorem d_law_435 : decode code 435 = .ok (.iconst 0, 1) := law_d (cc := code) lawTb2_ok (i := 39) rfl
theorem d_law_436 : decode code 436 = .ok (.ireturn, 1) := law_d (cc := code) lawTb2_ok (i := 40) rfl
theorem d_law_437 : decode code 437 = .ok (.aload_n 1, 1) := law_d (cc := code) lawTb2_ok (i := 41) rfl
theorem d_law_438 : decode code 438 = .ok (.aload_n 0, 1) := law_d (cc := code) lawTb2_ok (i := 42) rfl
theorem d_law_439 : decode code 439 = .ok (.iload_n 3, 1) := law_d (cc := code) lawTb2_ok (i := 43) rfl
theorem d_law_440 : decode code 440 = .ok (.iconst 1, 1) := law_d (cc := code) lawTb2_ok (i := 44) rfl
theorem d_law_441 : decode code 441 = .ok (.iadd, 1) := law_d (cc := code) lawTb2_ok (i := 45) rfl
theorem d_law_442 : decode code 442 = .ok (.iaload, 1) := law_d (cc := code) lawTb2_ok (i := 46) rfl
theorem d_law_443 : decode code 443 = .ok (.invokevirtual 45, 3) := law_d (cc := code) lawTb2_ok (i := 47) rfl
theorem d_law_446 : decode code 446 = .ok (.aload_n 2, 1) := law_d (cc := code) lawTb2_ok (i := 48) rfl
theorem d_law_447 : decode code 447 = .ok (.aload_n 0, 1) := law_d (cc := code) lawTb2_ok (i := 49) rfl
theorem d_law_448 : decode code 448 = .ok (.iload_n 3, 1) := law_d (cc := code) lawTb2_ok (i := 50) rfl
theorem d_law_449 : decode code 449 = .ok (.iconst 1, 1) := law_d (cc := code) lawTb2_ok (i := 51) rfl
theorem d_law_450 : decode code 450 = .ok (.iadd, 1) := law_d (cc := code) lawTb2_ok (i := 52) rfl
theorem d_law_451 : decode code 451 = .ok (.iaload, 1) := law_d (cc := code) lawTb2_ok (i := 53) rfl
theorem d_law_452 : decode code 452 = .ok (.invokevirtual 48, 3) := law_d (cc := code) lawTb2_ok (i := 54) rfl
theorem d_law_455 : decode code 455 = .ok (.if_icmp .eq 789, 3) := law_d (cc := code) lawTb2_ok (i := 55) rfl
theorem d_law_458 : decode code 458 = .ok (.iconst 0, 1) := law_d (cc := code) lawTb2_ok (i := 56) rfl
theorem d_law_459 : decode code 459 = .ok (.ireturn, 1) := law_d (cc := code) lawTb2_ok (i := 57) rfl
theorem d_law_460 : decode code 460 = .ok (.aload_n 1, 1) := law_d (cc := code) lawTb2_ok (i := 58) rfl
theorem d_law_461 : decode code 461 = .ok (.aload_n 0, 1) := law_d (cc := code) lawTb2_ok (i := 59) rfl
theorem d_law_462 : decode code 462 = .ok (.iload_n 3, 1) := law_d (cc := code) lawTb2_ok (i := 60) rfl
theorem d_law_463 : decode code 463 = .ok (.iconst 1, 1) := law_d (cc := code) lawTb2_ok (i := 61) rfl
theorem d_law_464 : decode code 464 = .ok (.iadd, 1) := law_d (cc := code) lawTb2_ok (i := 62) rfl
theorem d_law_465 : decode code 465 = .ok (.iaload, 1) := law_d (cc := code) lawTb2_ok (i := 63) rfl
theorem d_law_466 : decode code 466 = .ok (.aload_n 0, 1) := law_d (cc := code) lawTb2_ok (i := 64) rfl
theorem d_law_467 : decode code 467 = .ok (.iload_n 3, 1) := law_d (cc := code) lawTb2_ok (i := 65) rfl
theorem d_law_468 : decode code 468 = .ok (.iconst 2, 1) := law_d (cc := code) lawTb2_ok (i := 66) rfl
theorem d_law_469 : decode code 469 = .ok (.iadd, 1) := law_d (cc := code) lawTb2_ok (i := 67) rfl
theorem d_law_470 : decode code 470 = .ok (.iaload, 1) := law_d (cc := code) lawTb2_ok (i := 68) rfl
theorem d_law_471 : decode code 471 = .ok (.invokevirtual 49, 3) := law_d (cc := code) lawTb2_ok (i := 69) rfl
theorem d_law_474 : decode code 474 = .ok (.aload_n 2, 1) := law_d (cc := code) lawTb2_ok (i := 70) rfl
theorem d_law_475 : decode code 475 = .ok (.aload_n 0, 1) := law_d (cc := code) lawTb2_ok (i := 71) rfl
theorem d_law_476 : decode code 476 = .ok (.iload_n 3, 1) := law_d (cc := code) lawTb2_ok (i := 72) rfl
theorem d_law_477 : decode code 477 = .ok (.iconst 1, 1) := law_d (cc := code) lawTb2_ok (i := 73) rfl
theorem d_law_478 : decode code 478 = .ok (.iadd, 1) := law_d (cc := code) lawTb2_ok (i := 74) rfl
theorem d_law_479 : decode code 479 = .ok (.iaload, 1) := law_d (cc := code) lawTb2_ok (i := 75) rfl
theorem d_law_480 : decode code 480 = .ok (.aload_n 0, 1) := law_d (cc := code) lawTb2_ok (i := 76) rfl
theorem d_law_481 : decode code 481 = .ok (.iload_n 3, 1) := law_d (cc := code) lawTb2_ok (i := 77) rfl
theorem d_law_482 : decode code 482 = .ok (.iconst 2, 1) := law_d (cc := code) lawTb2_ok (i := 78) rfl
theorem d_law_483 : decode code 483 = .ok (.iadd, 1) := law_d (cc := code) lawTb2_ok (i := 79) rfl
theorem d_law_484 : decode code 484 = .ok (.iaload, 1) := law_d (cc := code) lawTb3_ok (i := 0) rfl
theorem d_law_485 : decode code 485 = .ok (.invokevirtual 52, 3) := law_d (cc := code) lawTb3_ok (i := 1) rfl
theorem d_law_488 : decode code 488 = .ok (.if_icmp .eq 756, 3) := law_d (cc := code) lawTb3_ok (i := 2) rfl
theorem d_law_491 : decode code 491 = .ok (.iconst 0, 1) := law_d (cc := code) lawTb3_ok (i := 3) rfl
theorem d_law_492 : decode code 492 = .ok (.ireturn, 1) := law_d (cc := code) lawTb3_ok (i := 4) rfl
theorem d_law_493 : decode code 493 = .ok (.aload_n 1, 1) := law_d (cc := code) lawTb3_ok (i := 5) rfl
theorem d_law_494 : decode code 494 = .ok (.aload_n 0, 1) := law_d (cc := code) lawTb3_ok (i := 6) rfl
theorem d_law_495 : decode code 495 = .ok (.iload_n 3, 1) := law_d (cc := code) lawTb3_ok (i := 7) rfl
theorem d_law_496 : decode code 496 = .ok (.iconst 1, 1) := law_d (cc := code) lawTb3_ok (i := 8) rfl
theorem d_law_497 : decode code 497 = .ok (.iadd, 1) := law_d (cc := code) lawTb3_ok (i := 9) rfl
theorem d_law_498 : decode code 498 = .ok (.iaload, 1) := law_d (cc := code) lawTb3_ok (i := 10) rfl
theorem d_law_499 : decode code 499 = .ok (.aload_n 0, 1) := law_d (cc := code) lawTb3_ok (i := 11) rfl
theorem d_law_500 : decode code 500 = .ok (.iload_n 3, 1) := law_d (cc := code) lawTb3_ok (i := 12) rfl
theorem d_law_501 : decode code 501 = .ok (.iconst 2, 1) := law_d (cc := code) lawTb3_ok (i := 13) rfl
theorem d_law_502 : decode code 502 = .ok (.iadd, 1) := law_d (cc := code) lawTb3_ok (i := 14) rfl
theorem d_law_503 : decode code 503 = .ok (.iaload, 1) := law_d (cc := code) lawTb3_ok (i := 15) rfl
theorem d_law_504 : decode code 504 = .ok (.invokevirtual 53, 3) := law_d (cc := code) lawTb3_ok (i := 16) rfl
theorem d_law_507 : decode code 507 = .ok (.aload_n 2, 1) := law_d (cc := code) lawTb3_ok (i := 17) rfl
theorem d_law_508 : decode code 508 = .ok (.aload_n 0, 1) := law_d (cc := code) lawTb3_ok (i := 18) rfl
theorem d_law_509 : decode code 509 = .ok (.iload_n 3, 1) := law_d (cc := code) lawTb3_ok (i := 19) rfl
theorem d_law_510 : decode code 510 = .ok (.iconst 1, 1) := law_d (cc := code) lawTb3_ok (i := 20) rfl
theorem d_law_511 : decode code 511 = .ok (.iadd, 1) := law_d (cc := code) lawTb3_ok (i := 21) rfl
theorem d_law_512 : decode code 512 = .ok (.iaload, 1) := law_d (cc := code) lawTb3_ok (i := 22) rfl
theorem d_law_513 : decode code 513 = .ok (.aload_n 0, 1) := law_d (cc := code) lawTb3_ok (i := 23) rfl
theorem d_law_514 : decode code 514 = .ok (.iload_n 3, 1) := law_d (cc := code) lawTb3_ok (i := 24) rfl
theorem d_law_515 : decode code 515 = .ok (.iconst 2, 1) := law_d (cc := code) lawTb3_ok (i := 25) rfl
theorem d_law_516 : decode code 516 = .ok (.iadd, 1) := law_d (cc := code) lawTb3_ok (i := 26) rfl
theorem d_law_517 : decode code 517 = .ok (.iaload, 1) := law_d (cc := code) lawTb3_ok (i := 27) rfl
theorem d_law_518 : decode code 518 = .ok (.invokevirtual 56, 3) := law_d (cc := code) lawTb3_ok (i := 28) rfl
theorem d_law_521 : decode code 521 = .ok (.if_icmp .eq 723, 3) := law_d (cc := code) lawTb3_ok (i := 29) rfl
theorem d_law_524 : decode code 524 = .ok (.iconst 0, 1) := law_d (cc := code) lawTb3_ok (i := 30) rfl
theorem d_law_525 : decode code 525 = .ok (.ireturn, 1) := law_d (cc := code) lawTb3_ok (i := 31) rfl
theorem d_law_526 : decode code 526 = .ok (.aload_n 1, 1) := law_d (cc := code) lawTb3_ok (i := 32) rfl
theorem d_law_527 : decode code 527 = .ok (.aload_n 0, 1) := law_d (cc := code) lawTb3_ok (i := 33) rfl
theorem d_law_528 : decode code 528 = .ok (.iload_n 3, 1) := law_d (cc := code) lawTb3_ok (i := 34) rfl
theorem d_law_529 : decode code 529 = .ok (.iconst 1, 1) := law_d (cc := code) lawTb3_ok (i := 35) rfl
theorem d_law_530 : decode code 530 = .ok (.iadd, 1) := law_d (cc := code) lawTb3_ok (i := 36) rfl
theorem d_law_531 : decode code 531 = .ok (.iaload, 1) := law_d (cc := code) lawTb3_ok (i := 37) rfl
theorem d_law_532 : decode code 532 = .ok (.aload_n 0, 1) := law_d (cc := code) lawTb3_ok (i := 38) rfl
theorem d_law_533 : decode code 533 = .ok (.iload_n 3, 1) := law_d (cc := code) lawTb3_ok (i := 39) rfl
theorem d_law_534 : decode code 534 = .ok (.iconst 2, 1) := law_d (cc := code) lawTb3_ok (i := 40) rfl
theorem d_law_535 : decode code 535 = .ok (.iadd, 1) := law_d (cc := code) lawTb3_ok (i := 41) rfl
theorem d_law_536 : decode code 536 = .ok (.iaload, 1) := law_d (cc := code) lawTb3_ok (i := 42) rfl
theorem d_law_537 : decode code 537 = .ok (.invokevirtual 57, 3) := law_d (cc := code) lawTb3_ok (i := 43) rfl
theorem d_law_540 : decode code 540 = .ok (.aload_n 2, 1) := law_d (cc := code) lawTb3_ok (i := 44) rfl
theorem d_law_541 : decode code 541 = .ok (.aload_n 0, 1) := law_d (cc := code) lawTb3_ok (i := 45) rfl
theorem d_law_542 : decode code 542 = .ok (.iload_n 3, 1) := law_d (cc := code) lawTb3_ok (i := 46) rfl
theorem d_law_543 : decode code 543 = .ok (.iconst 1, 1) := law_d (cc := code) lawTb3_ok (i := 47) rfl
theorem d_law_544 : decode code 544 = .ok (.iadd, 1) := law_d (cc := code) lawTb3_ok (i := 48) rfl
theorem d_law_545 : decode code 545 = .ok (.iaload, 1) := law_d (cc := code) lawTb3_ok (i := 49) rfl
theorem d_law_546 : decode code 546 = .ok (.aload_n 0, 1) := law_d (cc := code) lawTb3_ok (i := 50) rfl
theorem d_law_547 : decode code 547 = .ok (.iload_n 3, 1) := law_d (cc := code) lawTb3_ok (i := 51) rfl
theorem d_law_548 : decode code 548 = .ok (.iconst 2, 1) := law_d (cc := code) lawTb3_ok (i := 52) rfl
theorem d_law_549 : decode code 549 = .ok (.iadd, 1) := law_d (cc := code) lawTb3_ok (i := 53) rfl
theorem d_law_550 : decode code 550 = .ok (.iaload, 1) := law_d (cc := code) lawTb3_ok (i := 54) rfl
theorem d_law_551 : decode code 551 = .ok (.invokevirtual 60, 3) := law_d (cc := code) lawTb3_ok (i := 55) rfl
theorem d_law_554 : decode code 554 = .ok (.if_icmp .eq 690, 3) := law_d (cc := code) lawTb3_ok (i := 56) rfl
theorem d_law_557 : decode code 557 = .ok (.iconst 0, 1) := law_d (cc := code) lawTb3_ok (i := 57) rfl
theorem d_law_558 : decode code 558 = .ok (.ireturn, 1) := law_d (cc := code) lawTb3_ok (i := 58) rfl
theorem d_law_559 : decode code 559 = .ok (.aload_n 1, 1) := law_d (cc := code) lawTb3_ok (i := 59) rfl
theorem d_law_560 : decode code 560 = .ok (.aload_n 0, 1) := law_d (cc := code) lawTb3_ok (i := 60) rfl
theorem d_law_561 : decode code 561 = .ok (.iload_n 3, 1) := law_d (cc := code) lawTb3_ok (i := 61) rfl
theorem d_law_562 : decode code 562 = .ok (.iconst 1, 1) := law_d (cc := code) lawTb3_ok (i := 62) rfl
theorem d_law_563 : decode code 563 = .ok (.iadd, 1) := law_d (cc := code) lawTb3_ok (i := 63) rfl
theorem d_law_564 : decode code 564 = .ok (.iaload, 1) := law_d (cc := code) lawTb3_ok (i := 64) rfl
theorem d_law_565 : decode code 565 = .ok (.invokevirtual 61, 3) := law_d (cc := code) lawTb3_ok (i := 65) rfl
theorem d_law_568 : decode code 568 = .ok (.aload_n 2, 1) := law_d (cc := code) lawTb3_ok (i := 66) rfl
theorem d_law_569 : decode code 569 = .ok (.aload_n 0, 1) := law_d (cc := code) lawTb3_ok (i := 67) rfl
theorem d_law_570 : decode code 570 = .ok (.iload_n 3, 1) := law_d (cc := code) lawTb3_ok (i := 68) rfl
theorem d_law_571 : decode code 571 = .ok (.iconst 1, 1) := law_d (cc := code) lawTb3_ok (i := 69) rfl
theorem d_law_572 : decode code 572 = .ok (.iadd, 1) := law_d (cc := code) lawTb3_ok (i := 70) rfl
theorem d_law_573 : decode code 573 = .ok (.iaload, 1) := law_d (cc := code) lawTb3_ok (i := 71) rfl
theorem d_law_574 : decode code 574 = .ok (.invokevirtual 64, 3) := law_d (cc := code) lawTb3_ok (i := 72) rfl
theorem d_law_577 : decode code 577 = .ok (.if_icmp .eq 667, 3) := law_d (cc := code) lawTb3_ok (i := 73) rfl
theorem d_law_580 : decode code 580 = .ok (.iconst 0, 1) := law_d (cc := code) lawTb3_ok (i := 74) rfl
theorem d_law_581 : decode code 581 = .ok (.ireturn, 1) := law_d (cc := code) lawTb3_ok (i := 75) rfl
theorem d_law_582 : decode code 582 = .ok (.aload_n 1, 1) := law_d (cc := code) lawTb3_ok (i := 76) rfl
theorem d_law_583 : decode code 583 = .ok (.aload_n 0, 1) := law_d (cc := code) lawTb3_ok (i := 77) rfl
theorem d_law_584 : decode code 584 = .ok (.iload_n 3, 1) := law_d (cc := code) lawTb3_ok (i := 78) rfl
theorem d_law_585 : decode code 585 = .ok (.iconst 1, 1) := law_d (cc := code) lawTb3_ok (i := 79) rfl
theorem d_law_586 : decode code 586 = .ok (.iadd, 1) := law_d (cc := code) lawTb4_ok (i := 0) rfl
theorem d_law_587 : decode code 587 = .ok (.iaload, 1) := law_d (cc := code) lawTb4_ok (i := 1) rfl
theorem d_law_588 : decode code 588 = .ok (.invokevirtual 65, 3) := law_d (cc := code) lawTb4_ok (i := 2) rfl
theorem d_law_591 : decode code 591 = .ok (.aload_n 2, 1) := law_d (cc := code) lawTb4_ok (i := 3) rfl
theorem d_law_592 : decode code 592 = .ok (.aload_n 0, 1) := law_d (cc := code) lawTb4_ok (i := 4) rfl
theorem d_law_593 : decode code 593 = .ok (.iload_n 3, 1) := law_d (cc := code) lawTb4_ok (i := 5) rfl
theorem d_law_594 : decode code 594 = .ok (.iconst 1, 1) := law_d (cc := code) lawTb4_ok (i := 6) rfl
theorem d_law_595 : decode code 595 = .ok (.iadd, 1) := law_d (cc := code) lawTb4_ok (i := 7) rfl
theorem d_law_596 : decode code 596 = .ok (.iaload, 1) := law_d (cc := code) lawTb4_ok (i := 8) rfl
theorem d_law_597 : decode code 597 = .ok (.invokevirtual 68, 3) := law_d (cc := code) lawTb4_ok (i := 9) rfl
theorem d_law_600 : decode code 600 = .ok (.if_icmp .eq 644, 3) := law_d (cc := code) lawTb4_ok (i := 10) rfl
theorem d_law_603 : decode code 603 = .ok (.iconst 0, 1) := law_d (cc := code) lawTb4_ok (i := 11) rfl
theorem d_law_604 : decode code 604 = .ok (.ireturn, 1) := law_d (cc := code) lawTb4_ok (i := 12) rfl
theorem d_law_605 : decode code 605 = .ok (.aload_n 1, 1) := law_d (cc := code) lawTb4_ok (i := 13) rfl
theorem d_law_606 : decode code 606 = .ok (.aload_n 0, 1) := law_d (cc := code) lawTb4_ok (i := 14) rfl
theorem d_law_607 : decode code 607 = .ok (.iload_n 3, 1) := law_d (cc := code) lawTb4_ok (i := 15) rfl
theorem d_law_608 : decode code 608 = .ok (.iconst 1, 1) := law_d (cc := code) lawTb4_ok (i := 16) rfl
theorem d_law_609 : decode code 609 = .ok (.iadd, 1) := law_d (cc := code) lawTb4_ok (i := 17) rfl
theorem d_law_610 : decode code 610 = .ok (.iaload, 1) := law_d (cc := code) lawTb4_ok (i := 18) rfl
theorem d_law_611 : decode code 611 = .ok (.invokevirtual 69, 3) := law_d (cc := code) lawTb4_ok (i := 19) rfl
theorem d_law_614 : decode code 614 = .ok (.aload_n 2, 1) := law_d (cc := code) lawTb4_ok (i := 20) rfl
theorem d_law_615 : decode code 615 = .ok (.aload_n 0, 1) := law_d (cc := code) lawTb4_ok (i := 21) rfl
theorem d_law_616 : decode code 616 = .ok (.iload_n 3, 1) := law_d (cc := code) lawTb4_ok (i := 22) rfl
theorem d_law_617 : decode code 617 = .ok (.iconst 1, 1) := law_d (cc := code) lawTb4_ok (i := 23) rfl
theorem d_law_618 : decode code 618 = .ok (.iadd, 1) := law_d (cc := code) lawTb4_ok (i := 24) rfl
theorem d_law_619 : decode code 619 = .ok (.iaload, 1) := law_d (cc := code) lawTb4_ok (i := 25) rfl
theorem d_law_620 : decode code 620 = .ok (.invokevirtual 72, 3) := law_d (cc := code) lawTb4_ok (i := 26) rfl
theorem d_law_623 : decode code 623 = .ok (.if_icmp .eq 621, 3) := law_d (cc := code) lawTb4_ok (i := 27) rfl
theorem d_law_626 : decode code 626 = .ok (.iconst 0, 1) := law_d (cc := code) lawTb4_ok (i := 28) rfl
theorem d_law_627 : decode code 627 = .ok (.ireturn, 1) := law_d (cc := code) lawTb4_ok (i := 29) rfl
theorem d_law_628 : decode code 628 = .ok (.aload_n 1, 1) := law_d (cc := code) lawTb4_ok (i := 30) rfl
theorem d_law_629 : decode code 629 = .ok (.aload_n 0, 1) := law_d (cc := code) lawTb4_ok (i := 31) rfl
theorem d_law_630 : decode code 630 = .ok (.iload_n 3, 1) := law_d (cc := code) lawTb4_ok (i := 32) rfl
theorem d_law_631 : decode code 631 = .ok (.iconst 1, 1) := law_d (cc := code) lawTb4_ok (i := 33) rfl
theorem d_law_632 : decode code 632 = .ok (.iadd, 1) := law_d (cc := code) lawTb4_ok (i := 34) rfl
theorem d_law_633 : decode code 633 = .ok (.iaload, 1) := law_d (cc := code) lawTb4_ok (i := 35) rfl
theorem d_law_634 : decode code 634 = .ok (.invokevirtual 73, 3) := law_d (cc := code) lawTb4_ok (i := 36) rfl
theorem d_law_637 : decode code 637 = .ok (.aload_n 2, 1) := law_d (cc := code) lawTb4_ok (i := 37) rfl
theorem d_law_638 : decode code 638 = .ok (.aload_n 0, 1) := law_d (cc := code) lawTb4_ok (i := 38) rfl
theorem d_law_639 : decode code 639 = .ok (.iload_n 3, 1) := law_d (cc := code) lawTb4_ok (i := 39) rfl
theorem d_law_640 : decode code 640 = .ok (.iconst 1, 1) := law_d (cc := code) lawTb4_ok (i := 40) rfl
theorem d_law_641 : decode code 641 = .ok (.iadd, 1) := law_d (cc := code) lawTb4_ok (i := 41) rfl
theorem d_law_642 : decode code 642 = .ok (.iaload, 1) := law_d (cc := code) lawTb4_ok (i := 42) rfl
theorem d_law_643 : decode code 643 = .ok (.invokevirtual 76, 3) := law_d (cc := code) lawTb4_ok (i := 43) rfl
theorem d_law_646 : decode code 646 = .ok (.if_icmp .eq 598, 3) := law_d (cc := code) lawTb4_ok (i := 44) rfl
theorem d_law_649 : decode code 649 = .ok (.iconst 0, 1) := law_d (cc := code) lawTb4_ok (i := 45) rfl
theorem d_law_650 : decode code 650 = .ok (.ireturn, 1) := law_d (cc := code) lawTb4_ok (i := 46) rfl
theorem d_law_651 : decode code 651 = .ok (.aload_n 1, 1) := law_d (cc := code) lawTb4_ok (i := 47) rfl
theorem d_law_652 : decode code 652 = .ok (.aload_n 0, 1) := law_d (cc := code) lawTb4_ok (i := 48) rfl
theorem d_law_653 : decode code 653 = .ok (.iload_n 3, 1) := law_d (cc := code) lawTb4_ok (i := 49) rfl
theorem d_law_654 : decode code 654 = .ok (.iconst 1, 1) := law_d (cc := code) lawTb4_ok (i := 50) rfl
theorem d_law_655 : decode code 655 = .ok (.iadd, 1) := law_d (cc := code) lawTb4_ok (i := 51) rfl
theorem d_law_656 : decode code 656 = .ok (.iaload, 1) := law_d (cc := code) lawTb4_ok (i := 52) rfl
theorem d_law_657 : decode code 657 = .ok (.aload_n 0, 1) := law_d (cc := code) lawTb4_ok (i := 53) rfl
theorem d_law_658 : decode code 658 = .ok (.iload_n 3, 1) := law_d (cc := code) lawTb4_ok (i := 54) rfl
theorem d_law_659 : decode code 659 = .ok (.iconst 2, 1) := law_d (cc := code) lawTb4_ok (i := 55) rfl
theorem d_law_660 : decode code 660 = .ok (.iadd, 1) := law_d (cc := code) lawTb4_ok (i := 56) rfl
theorem d_law_661 : decode code 661 = .ok (.iaload, 1) := law_d (cc := code) lawTb4_ok (i := 57) rfl
theorem d_law_662 : decode code 662 = .ok (.invokevirtual 77, 3) := law_d (cc := code) lawTb4_ok (i := 58) rfl
theorem d_law_665 : decode code 665 = .ok (.aload_n 2, 1) := law_d (cc := code) lawTb4_ok (i := 59) rfl
theorem d_law_666 : decode code 666 = .ok (.aload_n 0, 1) := law_d (cc := code) lawTb4_ok (i := 60) rfl
theorem d_law_667 : decode code 667 = .ok (.iload_n 3, 1) := law_d (cc := code) lawTb4_ok (i := 61) rfl
theorem d_law_668 : decode code 668 = .ok (.iconst 1, 1) := law_d (cc := code) lawTb4_ok (i := 62) rfl
theorem d_law_669 : decode code 669 = .ok (.iadd, 1) := law_d (cc := code) lawTb4_ok (i := 63) rfl
theorem d_law_670 : decode code 670 = .ok (.iaload, 1) := law_d (cc := code) lawTb4_ok (i := 64) rfl
theorem d_law_671 : decode code 671 = .ok (.aload_n 0, 1) := law_d (cc := code) lawTb4_ok (i := 65) rfl
theorem d_law_672 : decode code 672 = .ok (.iload_n 3, 1) := law_d (cc := code) lawTb4_ok (i := 66) rfl
theorem d_law_673 : decode code 673 = .ok (.iconst 2, 1) := law_d (cc := code) lawTb4_ok (i := 67) rfl
theorem d_law_674 : decode code 674 = .ok (.iadd, 1) := law_d (cc := code) lawTb4_ok (i := 68) rfl
theorem d_law_675 : decode code 675 = .ok (.iaload, 1) := law_d (cc := code) lawTb4_ok (i := 69) rfl
theorem d_law_676 : decode code 676 = .ok (.invokevirtual 80, 3) := law_d (cc := code) lawTb4_ok (i := 70) rfl
theorem d_law_679 : decode code 679 = .ok (.if_icmp .eq 565, 3) := law_d (cc := code) lawTb4_ok (i := 71) rfl
theorem d_law_682 : decode code 682 = .ok (.iconst 0, 1) := law_d (cc := code) lawTb4_ok (i := 72) rfl
theorem d_law_683 : decode code 683 = .ok (.ireturn, 1) := law_d (cc := code) lawTb4_ok (i := 73) rfl
theorem d_law_684 : decode code 684 = .ok (.aload_n 1, 1) := law_d (cc := code) lawTb4_ok (i := 74) rfl
theorem d_law_685 : decode code 685 = .ok (.aload_n 0, 1) := law_d (cc := code) lawTb4_ok (i := 75) rfl
theorem d_law_686 : decode code 686 = .ok (.iload_n 3, 1) := law_d (cc := code) lawTb4_ok (i := 76) rfl
theorem d_law_687 : decode code 687 = .ok (.iconst 1, 1) := law_d (cc := code) lawTb4_ok (i := 77) rfl
theorem d_law_688 : decode code 688 = .ok (.iadd, 1) := law_d (cc := code) lawTb4_ok (i := 78) rfl
theorem d_law_689 : decode code 689 = .ok (.iaload, 1) := law_d (cc := code) lawTb4_ok (i := 79) rfl
theorem d_law_690 : decode code 690 = .ok (.invokevirtual 81, 3) := law_d (cc := code) lawTb5_ok (i := 0) rfl
theorem d_law_693 : decode code 693 = .ok (.aload_n 2, 1) := law_d (cc := code) lawTb5_ok (i := 1) rfl
theorem d_law_694 : decode code 694 = .ok (.aload_n 0, 1) := law_d (cc := code) lawTb5_ok (i := 2) rfl
theorem d_law_695 : decode code 695 = .ok (.iload_n 3, 1) := law_d (cc := code) lawTb5_ok (i := 3) rfl
theorem d_law_696 : decode code 696 = .ok (.iconst 1, 1) := law_d (cc := code) lawTb5_ok (i := 4) rfl
theorem d_law_697 : decode code 697 = .ok (.iadd, 1) := law_d (cc := code) lawTb5_ok (i := 5) rfl
theorem d_law_698 : decode code 698 = .ok (.iaload, 1) := law_d (cc := code) lawTb5_ok (i := 6) rfl
theorem d_law_699 : decode code 699 = .ok (.invokevirtual 84, 3) := law_d (cc := code) lawTb5_ok (i := 7) rfl
theorem d_law_702 : decode code 702 = .ok (.if_icmp .eq 542, 3) := law_d (cc := code) lawTb5_ok (i := 8) rfl
theorem d_law_705 : decode code 705 = .ok (.iconst 0, 1) := law_d (cc := code) lawTb5_ok (i := 9) rfl
theorem d_law_706 : decode code 706 = .ok (.ireturn, 1) := law_d (cc := code) lawTb5_ok (i := 10) rfl
theorem d_law_707 : decode code 707 = .ok (.aload_n 1, 1) := law_d (cc := code) lawTb5_ok (i := 11) rfl
theorem d_law_708 : decode code 708 = .ok (.aload_n 0, 1) := law_d (cc := code) lawTb5_ok (i := 12) rfl
theorem d_law_709 : decode code 709 = .ok (.iload_n 3, 1) := law_d (cc := code) lawTb5_ok (i := 13) rfl
theorem d_law_710 : decode code 710 = .ok (.iconst 1, 1) := law_d (cc := code) lawTb5_ok (i := 14) rfl
theorem d_law_711 : decode code 711 = .ok (.iadd, 1) := law_d (cc := code) lawTb5_ok (i := 15) rfl
theorem d_law_712 : decode code 712 = .ok (.iaload, 1) := law_d (cc := code) lawTb5_ok (i := 16) rfl
theorem d_law_713 : decode code 713 = .ok (.invokevirtual 85, 3) := law_d (cc := code) lawTb5_ok (i := 17) rfl
theorem d_law_716 : decode code 716 = .ok (.aload_n 2, 1) := law_d (cc := code) lawTb5_ok (i := 18) rfl
theorem d_law_717 : decode code 717 = .ok (.aload_n 0, 1) := law_d (cc := code) lawTb5_ok (i := 19) rfl
theorem d_law_718 : decode code 718 = .ok (.iload_n 3, 1) := law_d (cc := code) lawTb5_ok (i := 20) rfl
theorem d_law_719 : decode code 719 = .ok (.iconst 1, 1) := law_d (cc := code) lawTb5_ok (i := 21) rfl
theorem d_law_720 : decode code 720 = .ok (.iadd, 1) := law_d (cc := code) lawTb5_ok (i := 22) rfl
theorem d_law_721 : decode code 721 = .ok (.iaload, 1) := law_d (cc := code) lawTb5_ok (i := 23) rfl
theorem d_law_722 : decode code 722 = .ok (.invokevirtual 88, 3) := law_d (cc := code) lawTb5_ok (i := 24) rfl
theorem d_law_725 : decode code 725 = .ok (.if_icmp .eq 519, 3) := law_d (cc := code) lawTb5_ok (i := 25) rfl
theorem d_law_728 : decode code 728 = .ok (.iconst 0, 1) := law_d (cc := code) lawTb5_ok (i := 26) rfl
theorem d_law_729 : decode code 729 = .ok (.ireturn, 1) := law_d (cc := code) lawTb5_ok (i := 27) rfl
theorem d_law_730 : decode code 730 = .ok (.aload_n 1, 1) := law_d (cc := code) lawTb5_ok (i := 28) rfl
theorem d_law_731 : decode code 731 = .ok (.invokevirtual 89, 3) := law_d (cc := code) lawTb5_ok (i := 29) rfl
theorem d_law_734 : decode code 734 = .ok (.aload_n 2, 1) := law_d (cc := code) lawTb5_ok (i := 30) rfl
theorem d_law_735 : decode code 735 = .ok (.invokevirtual 92, 3) := law_d (cc := code) lawTb5_ok (i := 31) rfl
theorem d_law_738 : decode code 738 = .ok (.if_icmp .eq 506, 3) := law_d (cc := code) lawTb5_ok (i := 32) rfl
theorem d_law_741 : decode code 741 = .ok (.iconst 0, 1) := law_d (cc := code) lawTb5_ok (i := 33) rfl
theorem d_law_742 : decode code 742 = .ok (.ireturn, 1) := law_d (cc := code) lawTb5_ok (i := 34) rfl
theorem d_law_743 : decode code 743 = .ok (.aload_n 1, 1) := law_d (cc := code) lawTb5_ok (i := 35) rfl
theorem d_law_744 : decode code 744 = .ok (.invokevirtual 93, 3) := law_d (cc := code) lawTb5_ok (i := 36) rfl
theorem d_law_747 : decode code 747 = .ok (.aload_n 2, 1) := law_d (cc := code) lawTb5_ok (i := 37) rfl
theorem d_law_748 : decode code 748 = .ok (.invokevirtual 96, 3) := law_d (cc := code) lawTb5_ok (i := 38) rfl
theorem d_law_751 : decode code 751 = .ok (.if_icmp .eq 493, 3) := law_d (cc := code) lawTb5_ok (i := 39) rfl
theorem d_law_754 : decode code 754 = .ok (.iconst 0, 1) := law_d (cc := code) lawTb5_ok (i := 40) rfl
theorem d_law_755 : decode code 755 = .ok (.ireturn, 1) := law_d (cc := code) lawTb5_ok (i := 41) rfl
theorem d_law_756 : decode code 756 = .ok (.aload_n 1, 1) := law_d (cc := code) lawTb5_ok (i := 42) rfl
theorem d_law_757 : decode code 757 = .ok (.invokevirtual 97, 3) := law_d (cc := code) lawTb5_ok (i := 43) rfl
theorem d_law_760 : decode code 760 = .ok (.aload_n 2, 1) := law_d (cc := code) lawTb5_ok (i := 44) rfl
theorem d_law_761 : decode code 761 = .ok (.invokevirtual 100, 3) := law_d (cc := code) lawTb5_ok (i := 45) rfl
theorem d_law_764 : decode code 764 = .ok (.if_icmp .eq 480, 3) := law_d (cc := code) lawTb5_ok (i := 46) rfl
theorem d_law_767 : decode code 767 = .ok (.iconst 0, 1) := law_d (cc := code) lawTb5_ok (i := 47) rfl
theorem d_law_768 : decode code 768 = .ok (.ireturn, 1) := law_d (cc := code) lawTb5_ok (i := 48) rfl
theorem d_law_769 : decode code 769 = .ok (.aload_n 1, 1) := law_d (cc := code) lawTb5_ok (i := 49) rfl
theorem d_law_770 : decode code 770 = .ok (.invokevirtual 101, 3) := law_d (cc := code) lawTb5_ok (i := 50) rfl
theorem d_law_773 : decode code 773 = .ok (.aload_n 2, 1) := law_d (cc := code) lawTb5_ok (i := 51) rfl
theorem d_law_774 : decode code 774 = .ok (.invokevirtual 104, 3) := law_d (cc := code) lawTb5_ok (i := 52) rfl
theorem d_law_777 : decode code 777 = .ok (.if_icmp .eq 467, 3) := law_d (cc := code) lawTb5_ok (i := 53) rfl
theorem d_law_780 : decode code 780 = .ok (.iconst 0, 1) := law_d (cc := code) lawTb5_ok (i := 54) rfl
theorem d_law_781 : decode code 781 = .ok (.ireturn, 1) := law_d (cc := code) lawTb5_ok (i := 55) rfl
theorem d_law_782 : decode code 782 = .ok (.aload_n 1, 1) := law_d (cc := code) lawTb5_ok (i := 56) rfl
theorem d_law_783 : decode code 783 = .ok (.aload_n 0, 1) := law_d (cc := code) lawTb5_ok (i := 57) rfl
theorem d_law_784 : decode code 784 = .ok (.iload_n 3, 1) := law_d (cc := code) lawTb5_ok (i := 58) rfl
theorem d_law_785 : decode code 785 = .ok (.iconst 1, 1) := law_d (cc := code) lawTb5_ok (i := 59) rfl
theorem d_law_786 : decode code 786 = .ok (.iadd, 1) := law_d (cc := code) lawTb5_ok (i := 60) rfl
theorem d_law_787 : decode code 787 = .ok (.iaload, 1) := law_d (cc := code) lawTb5_ok (i := 61) rfl
theorem d_law_788 : decode code 788 = .ok (.invokevirtual 105, 3) := law_d (cc := code) lawTb5_ok (i := 62) rfl
theorem d_law_791 : decode code 791 = .ok (.aload_n 2, 1) := law_d (cc := code) lawTb5_ok (i := 63) rfl
theorem d_law_792 : decode code 792 = .ok (.aload_n 0, 1) := law_d (cc := code) lawTb5_ok (i := 64) rfl
theorem d_law_793 : decode code 793 = .ok (.iload_n 3, 1) := law_d (cc := code) lawTb5_ok (i := 65) rfl
theorem d_law_794 : decode code 794 = .ok (.iconst 1, 1) := law_d (cc := code) lawTb5_ok (i := 66) rfl
theorem d_law_795 : decode code 795 = .ok (.iadd, 1) := law_d (cc := code) lawTb5_ok (i := 67) rfl
theorem d_law_796 : decode code 796 = .ok (.iaload, 1) := law_d (cc := code) lawTb5_ok (i := 68) rfl
theorem d_law_797 : decode code 797 = .ok (.invokevirtual 108, 3) := law_d (cc := code) lawTb5_ok (i := 69) rfl
theorem d_law_800 : decode code 800 = .ok (.if_icmp .eq 444, 3) := law_d (cc := code) lawTb5_ok (i := 70) rfl
theorem d_law_803 : decode code 803 = .ok (.iconst 0, 1) := law_d (cc := code) lawTb5_ok (i := 71) rfl
theorem d_law_804 : decode code 804 = .ok (.ireturn, 1) := law_d (cc := code) lawTb5_ok (i := 72) rfl
theorem d_law_805 : decode code 805 = .ok (.aload_n 1, 1) := law_d (cc := code) lawTb5_ok (i := 73) rfl
theorem d_law_806 : decode code 806 = .ok (.aload_n 0, 1) := law_d (cc := code) lawTb5_ok (i := 74) rfl
theorem d_law_807 : decode code 807 = .ok (.iload_n 3, 1) := law_d (cc := code) lawTb5_ok (i := 75) rfl
theorem d_law_808 : decode code 808 = .ok (.iconst 1, 1) := law_d (cc := code) lawTb5_ok (i := 76) rfl
theorem d_law_809 : decode code 809 = .ok (.iadd, 1) := law_d (cc := code) lawTb5_ok (i := 77) rfl
theorem d_law_810 : decode code 810 = .ok (.iaload, 1) := law_d (cc := code) lawTb5_ok (i := 78) rfl
theorem d_law_811 : decode code 811 = .ok (.invokevirtual 109, 3) := law_d (cc := code) lawTb5_ok (i := 79) rfl
theorem d_law_814 : decode code 814 = .ok (.aload_n 2, 1) := law_d (cc := code) lawTb6_ok (i := 0) rfl
theorem d_law_815 : decode code 815 = .ok (.aload_n 0, 1) := law_d (cc := code) lawTb6_ok (i := 1) rfl
theorem d_law_816 : decode code 816 = .ok (.iload_n 3, 1) := law_d (cc := code) lawTb6_ok (i := 2) rfl
theorem d_law_817 : decode code 817 = .ok (.iconst 1, 1) := law_d (cc := code) lawTb6_ok (i := 3) rfl
theorem d_law_818 : decode code 818 = .ok (.iadd, 1) := law_d (cc := code) lawTb6_ok (i := 4) rfl
theorem d_law_819 : decode code 819 = .ok (.iaload, 1) := law_d (cc := code) lawTb6_ok (i := 5) rfl
theorem d_law_820 : decode code 820 = .ok (.invokevirtual 112, 3) := law_d (cc := code) lawTb6_ok (i := 6) rfl
theorem d_law_823 : decode code 823 = .ok (.if_icmp .eq 421, 3) := law_d (cc := code) lawTb6_ok (i := 7) rfl
theorem d_law_826 : decode code 826 = .ok (.iconst 0, 1) := law_d (cc := code) lawTb6_ok (i := 8) rfl
theorem d_law_827 : decode code 827 = .ok (.ireturn, 1) := law_d (cc := code) lawTb6_ok (i := 9) rfl
theorem d_law_828 : decode code 828 = .ok (.aload_n 1, 1) := law_d (cc := code) lawTb6_ok (i := 10) rfl
theorem d_law_829 : decode code 829 = .ok (.invokevirtual 113, 3) := law_d (cc := code) lawTb6_ok (i := 11) rfl
theorem d_law_832 : decode code 832 = .ok (.aload_n 2, 1) := law_d (cc := code) lawTb6_ok (i := 12) rfl
theorem d_law_833 : decode code 833 = .ok (.invokevirtual 116, 3) := law_d (cc := code) lawTb6_ok (i := 13) rfl
theorem d_law_836 : decode code 836 = .ok (.if_icmp .eq 408, 3) := law_d (cc := code) lawTb6_ok (i := 14) rfl
theorem d_law_839 : decode code 839 = .ok (.iconst 0, 1) := law_d (cc := code) lawTb6_ok (i := 15) rfl
theorem d_law_840 : decode code 840 = .ok (.ireturn, 1) := law_d (cc := code) lawTb6_ok (i := 16) rfl
theorem d_law_841 : decode code 841 = .ok (.aload_n 1, 1) := law_d (cc := code) lawTb6_ok (i := 17) rfl
theorem d_law_842 : decode code 842 = .ok (.invokevirtual 117, 3) := law_d (cc := code) lawTb6_ok (i := 18) rfl
theorem d_law_845 : decode code 845 = .ok (.aload_n 2, 1) := law_d (cc := code) lawTb6_ok (i := 19) rfl
theorem d_law_846 : decode code 846 = .ok (.invokevirtual 120, 3) := law_d (cc := code) lawTb6_ok (i := 20) rfl
theorem d_law_849 : decode code 849 = .ok (.if_icmp .eq 395, 3) := law_d (cc := code) lawTb6_ok (i := 21) rfl
theorem d_law_852 : decode code 852 = .ok (.iconst 0, 1) := law_d (cc := code) lawTb6_ok (i := 22) rfl
theorem d_law_853 : decode code 853 = .ok (.ireturn, 1) := law_d (cc := code) lawTb6_ok (i := 23) rfl
theorem d_law_854 : decode code 854 = .ok (.aload_n 1, 1) := law_d (cc := code) lawTb6_ok (i := 24) rfl
theorem d_law_855 : decode code 855 = .ok (.aload_n 0, 1) := law_d (cc := code) lawTb6_ok (i := 25) rfl
theorem d_law_856 : decode code 856 = .ok (.iload_n 3, 1) := law_d (cc := code) lawTb6_ok (i := 26) rfl
theorem d_law_857 : decode code 857 = .ok (.iconst 1, 1) := law_d (cc := code) lawTb6_ok (i := 27) rfl
theorem d_law_858 : decode code 858 = .ok (.iadd, 1) := law_d (cc := code) lawTb6_ok (i := 28) rfl
theorem d_law_859 : decode code 859 = .ok (.iaload, 1) := law_d (cc := code) lawTb6_ok (i := 29) rfl
theorem d_law_860 : decode code 860 = .ok (.invokevirtual 121, 3) := law_d (cc := code) lawTb6_ok (i := 30) rfl
theorem d_law_863 : decode code 863 = .ok (.aload_n 2, 1) := law_d (cc := code) lawTb6_ok (i := 31) rfl
theorem d_law_864 : decode code 864 = .ok (.aload_n 0, 1) := law_d (cc := code) lawTb6_ok (i := 32) rfl
theorem d_law_865 : decode code 865 = .ok (.iload_n 3, 1) := law_d (cc := code) lawTb6_ok (i := 33) rfl
theorem d_law_866 : decode code 866 = .ok (.iconst 1, 1) := law_d (cc := code) lawTb6_ok (i := 34) rfl
theorem d_law_867 : decode code 867 = .ok (.iadd, 1) := law_d (cc := code) lawTb6_ok (i := 35) rfl
theorem d_law_868 : decode code 868 = .ok (.iaload, 1) := law_d (cc := code) lawTb6_ok (i := 36) rfl
theorem d_law_869 : decode code 869 = .ok (.invokevirtual 124, 3) := law_d (cc := code) lawTb6_ok (i := 37) rfl
theorem d_law_872 : decode code 872 = .ok (.if_icmp .eq 372, 3) := law_d (cc := code) lawTb6_ok (i := 38) rfl
theorem d_law_875 : decode code 875 = .ok (.iconst 0, 1) := law_d (cc := code) lawTb6_ok (i := 39) rfl
theorem d_law_876 : decode code 876 = .ok (.ireturn, 1) := law_d (cc := code) lawTb6_ok (i := 40) rfl
theorem d_law_877 : decode code 877 = .ok (.aload_n 1, 1) := law_d (cc := code) lawTb6_ok (i := 41) rfl
theorem d_law_878 : decode code 878 = .ok (.aload_n 0, 1) := law_d (cc := code) lawTb6_ok (i := 42) rfl
theorem d_law_879 : decode code 879 = .ok (.iload_n 3, 1) := law_d (cc := code) lawTb6_ok (i := 43) rfl
theorem d_law_880 : decode code 880 = .ok (.iconst 1, 1) := law_d (cc := code) lawTb6_ok (i := 44) rfl
theorem d_law_881 : decode code 881 = .ok (.iadd, 1) := law_d (cc := code) lawTb6_ok (i := 45) rfl
theorem d_law_882 : decode code 882 = .ok (.iaload, 1) := law_d (cc := code) lawTb6_ok (i := 46) rfl
theorem d_law_883 : decode code 883 = .ok (.aload_n 0, 1) := law_d (cc := code) lawTb6_ok (i := 47) rfl
theorem d_law_884 : decode code 884 = .ok (.iload_n 3, 1) := law_d (cc := code) lawTb6_ok (i := 48) rfl
theorem d_law_885 : decode code 885 = .ok (.iconst 2, 1) := law_d (cc := code) lawTb6_ok (i := 49) rfl
theorem d_law_886 : decode code 886 = .ok (.iadd, 1) := law_d (cc := code) lawTb6_ok (i := 50) rfl
theorem d_law_887 : decode code 887 = .ok (.iaload, 1) := law_d (cc := code) lawTb6_ok (i := 51) rfl
theorem d_law_888 : decode code 888 = .ok (.aload_n 0, 1) := law_d (cc := code) lawTb6_ok (i := 52) rfl
theorem d_law_889 : decode code 889 = .ok (.iload_n 3, 1) := law_d (cc := code) lawTb6_ok (i := 53) rfl
theorem d_law_890 : decode code 890 = .ok (.iconst 3, 1) := law_d (cc := code) lawTb6_ok (i := 54) rfl
theorem d_law_891 : decode code 891 = .ok (.iadd, 1) := law_d (cc := code) lawTb6_ok (i := 55) rfl
theorem d_law_892 : decode code 892 = .ok (.iaload, 1) := law_d (cc := code) lawTb6_ok (i := 56) rfl
theorem d_law_893 : decode code 893 = .ok (.invokevirtual 125, 3) := law_d (cc := code) lawTb6_ok (i := 57) rfl
theorem d_law_896 : decode code 896 = .ok (.aload_n 2, 1) := law_d (cc := code) lawTb6_ok (i := 58) rfl
theorem d_law_897 : decode code 897 = .ok (.aload_n 0, 1) := law_d (cc := code) lawTb6_ok (i := 59) rfl
theorem d_law_898 : decode code 898 = .ok (.iload_n 3, 1) := law_d (cc := code) lawTb6_ok (i := 60) rfl
theorem d_law_899 : decode code 899 = .ok (.iconst 1, 1) := law_d (cc := code) lawTb6_ok (i := 61) rfl
theorem d_law_900 : decode code 900 = .ok (.iadd, 1) := law_d (cc := code) lawTb6_ok (i := 62) rfl
theorem d_law_901 : decode code 901 = .ok (.iaload, 1) := law_d (cc := code) lawTb6_ok (i := 63) rfl
theorem d_law_902 : decode code 902 = .ok (.aload_n 0, 1) := law_d (cc := code) lawTb6_ok (i := 64) rfl
theorem d_law_903 : decode code 903 = .ok (.iload_n 3, 1) := law_d (cc := code) lawTb6_ok (i := 65) rfl
theorem d_law_904 : decode code 904 = .ok (.iconst 2, 1) := law_d (cc := code) lawTb6_ok (i := 66) rfl
theorem d_law_905 : decode code 905 = .ok (.iadd, 1) := law_d (cc := code) lawTb6_ok (i := 67) rfl
theorem d_law_906 : decode code 906 = .ok (.iaload, 1) := law_d (cc := code) lawTb6_ok (i := 68) rfl
theorem d_law_907 : decode code 907 = .ok (.aload_n 0, 1) := law_d (cc := code) lawTb6_ok (i := 69) rfl
theorem d_law_908 : decode code 908 = .ok (.iload_n 3, 1) := law_d (cc := code) lawTb6_ok (i := 70) rfl
theorem d_law_909 : decode code 909 = .ok (.iconst 3, 1) := law_d (cc := code) lawTb6_ok (i := 71) rfl
theorem d_law_910 : decode code 910 = .ok (.iadd, 1) := law_d (cc := code) lawTb6_ok (i := 72) rfl
theorem d_law_911 : decode code 911 = .ok (.iaload, 1) := law_d (cc := code) lawTb6_ok (i := 73) rfl
theorem d_law_912 : decode code 912 = .ok (.invokevirtual 128, 3) := law_d (cc := code) lawTb6_ok (i := 74) rfl
theorem d_law_915 : decode code 915 = .ok (.if_icmp .eq 329, 3) := law_d (cc := code) lawTb6_ok (i := 75) rfl
theorem d_law_918 : decode code 918 = .ok (.iconst 0, 1) := law_d (cc := code) lawTb6_ok (i := 76) rfl
theorem d_law_919 : decode code 919 = .ok (.ireturn, 1) := law_d (cc := code) lawTb6_ok (i := 77) rfl
theorem d_law_920 : decode code 920 = .ok (.aload_n 1, 1) := law_d (cc := code) lawTb6_ok (i := 78) rfl
theorem d_law_921 : decode code 921 = .ok (.invokevirtual 129, 3) := law_d (cc := code) lawTb6_ok (i := 79) rfl
theorem d_law_924 : decode code 924 = .ok (.aload_n 2, 1) := law_d (cc := code) lawTb7_ok (i := 0) rfl
theorem d_law_925 : decode code 925 = .ok (.invokevirtual 132, 3) := law_d (cc := code) lawTb7_ok (i := 1) rfl
theorem d_law_928 : decode code 928 = .ok (.if_icmp .eq 316, 3) := law_d (cc := code) lawTb7_ok (i := 2) rfl
theorem d_law_931 : decode code 931 = .ok (.iconst 0, 1) := law_d (cc := code) lawTb7_ok (i := 3) rfl
theorem d_law_932 : decode code 932 = .ok (.ireturn, 1) := law_d (cc := code) lawTb7_ok (i := 4) rfl
theorem d_law_933 : decode code 933 = .ok (.aload_n 1, 1) := law_d (cc := code) lawTb7_ok (i := 5) rfl
theorem d_law_934 : decode code 934 = .ok (.aload_n 0, 1) := law_d (cc := code) lawTb7_ok (i := 6) rfl
theorem d_law_935 : decode code 935 = .ok (.iload_n 3, 1) := law_d (cc := code) lawTb7_ok (i := 7) rfl
theorem d_law_936 : decode code 936 = .ok (.iconst 1, 1) := law_d (cc := code) lawTb7_ok (i := 8) rfl
theorem d_law_937 : decode code 937 = .ok (.iadd, 1) := law_d (cc := code) lawTb7_ok (i := 9) rfl
theorem d_law_938 : decode code 938 = .ok (.iaload, 1) := law_d (cc := code) lawTb7_ok (i := 10) rfl
theorem d_law_939 : decode code 939 = .ok (.invokevirtual 133, 3) := law_d (cc := code) lawTb7_ok (i := 11) rfl
theorem d_law_942 : decode code 942 = .ok (.aload_n 2, 1) := law_d (cc := code) lawTb7_ok (i := 12) rfl
theorem d_law_943 : decode code 943 = .ok (.aload_n 0, 1) := law_d (cc := code) lawTb7_ok (i := 13) rfl
theorem d_law_944 : decode code 944 = .ok (.iload_n 3, 1) := law_d (cc := code) lawTb7_ok (i := 14) rfl
theorem d_law_945 : decode code 945 = .ok (.iconst 1, 1) := law_d (cc := code) lawTb7_ok (i := 15) rfl
theorem d_law_946 : decode code 946 = .ok (.iadd, 1) := law_d (cc := code) lawTb7_ok (i := 16) rfl
theorem d_law_947 : decode code 947 = .ok (.iaload, 1) := law_d (cc := code) lawTb7_ok (i := 17) rfl
theorem d_law_948 : decode code 948 = .ok (.invokevirtual 136, 3) := law_d (cc := code) lawTb7_ok (i := 18) rfl
theorem d_law_951 : decode code 951 = .ok (.if_icmp .eq 293, 3) := law_d (cc := code) lawTb7_ok (i := 19) rfl
theorem d_law_954 : decode code 954 = .ok (.iconst 0, 1) := law_d (cc := code) lawTb7_ok (i := 20) rfl
theorem d_law_955 : decode code 955 = .ok (.ireturn, 1) := law_d (cc := code) lawTb7_ok (i := 21) rfl
theorem d_law_956 : decode code 956 = .ok (.aload_n 1, 1) := law_d (cc := code) lawTb7_ok (i := 22) rfl
theorem d_law_957 : decode code 957 = .ok (.aload_n 0, 1) := law_d (cc := code) lawTb7_ok (i := 23) rfl
theorem d_law_958 : decode code 958 = .ok (.iload_n 3, 1) := law_d (cc := code) lawTb7_ok (i := 24) rfl
theorem d_law_959 : decode code 959 = .ok (.iconst 1, 1) := law_d (cc := code) lawTb7_ok (i := 25) rfl
theorem d_law_960 : decode code 960 = .ok (.iadd, 1) := law_d (cc := code) lawTb7_ok (i := 26) rfl
theorem d_law_961 : decode code 961 = .ok (.iaload, 1) := law_d (cc := code) lawTb7_ok (i := 27) rfl
theorem d_law_962 : decode code 962 = .ok (.invokevirtual 137, 3) := law_d (cc := code) lawTb7_ok (i := 28) rfl
theorem d_law_965 : decode code 965 = .ok (.aload_n 2, 1) := law_d (cc := code) lawTb7_ok (i := 29) rfl
theorem d_law_966 : decode code 966 = .ok (.aload_n 0, 1) := law_d (cc := code) lawTb7_ok (i := 30) rfl
theorem d_law_967 : decode code 967 = .ok (.iload_n 3, 1) := law_d (cc := code) lawTb7_ok (i := 31) rfl
theorem d_law_968 : decode code 968 = .ok (.iconst 1, 1) := law_d (cc := code) lawTb7_ok (i := 32) rfl
theorem d_law_969 : decode code 969 = .ok (.iadd, 1) := law_d (cc := code) lawTb7_ok (i := 33) rfl
theorem d_law_970 : decode code 970 = .ok (.iaload, 1) := law_d (cc := code) lawTb7_ok (i := 34) rfl
theorem d_law_971 : decode code 971 = .ok (.invokevirtual 140, 3) := law_d (cc := code) lawTb7_ok (i := 35) rfl
theorem d_law_974 : decode code 974 = .ok (.if_icmp .eq 270, 3) := law_d (cc := code) lawTb7_ok (i := 36) rfl
theorem d_law_977 : decode code 977 = .ok (.iconst 0, 1) := law_d (cc := code) lawTb7_ok (i := 37) rfl
theorem d_law_978 : decode code 978 = .ok (.ireturn, 1) := law_d (cc := code) lawTb7_ok (i := 38) rfl
theorem d_law_979 : decode code 979 = .ok (.aload_n 1, 1) := law_d (cc := code) lawTb7_ok (i := 39) rfl
theorem d_law_980 : decode code 980 = .ok (.aload_n 0, 1) := law_d (cc := code) lawTb7_ok (i := 40) rfl
theorem d_law_981 : decode code 981 = .ok (.iload_n 3, 1) := law_d (cc := code) lawTb7_ok (i := 41) rfl
theorem d_law_982 : decode code 982 = .ok (.iconst 1, 1) := law_d (cc := code) lawTb7_ok (i := 42) rfl
theorem d_law_983 : decode code 983 = .ok (.iadd, 1) := law_d (cc := code) lawTb7_ok (i := 43) rfl
theorem d_law_984 : decode code 984 = .ok (.iaload, 1) := law_d (cc := code) lawTb7_ok (i := 44) rfl
theorem d_law_985 : decode code 985 = .ok (.aload_n 0, 1) := law_d (cc := code) lawTb7_ok (i := 45) rfl
theorem d_law_986 : decode code 986 = .ok (.iload_n 3, 1) := law_d (cc := code) lawTb7_ok (i := 46) rfl
theorem d_law_987 : decode code 987 = .ok (.iconst 2, 1) := law_d (cc := code) lawTb7_ok (i := 47) rfl
theorem d_law_988 : decode code 988 = .ok (.iadd, 1) := law_d (cc := code) lawTb7_ok (i := 48) rfl
theorem d_law_989 : decode code 989 = .ok (.iaload, 1) := law_d (cc := code) lawTb7_ok (i := 49) rfl
theorem d_law_990 : decode code 990 = .ok (.aload_n 0, 1) := law_d (cc := code) lawTb7_ok (i := 50) rfl
theorem d_law_991 : decode code 991 = .ok (.iload_n 3, 1) := law_d (cc := code) lawTb7_ok (i := 51) rfl
theorem d_law_992 : decode code 992 = .ok (.iconst 3, 1) := law_d (cc := code) lawTb7_ok (i := 52) rfl
theorem d_law_993 : decode code 993 = .ok (.iadd, 1) := law_d (cc := code) lawTb7_ok (i := 53) rfl
theorem d_law_994 : decode code 994 = .ok (.iaload, 1) := law_d (cc := code) lawTb7_ok (i := 54) rfl
theorem d_law_995 : decode code 995 = .ok (.invokevirtual 141, 3) := law_d (cc := code) lawTb7_ok (i := 55) rfl
theorem d_law_998 : decode code 998 = .ok (.aload_n 2, 1) := law_d (cc := code) lawTb7_ok (i := 56) rfl
theorem d_law_999 : decode code 999 = .ok (.aload_n 0, 1) := law_d (cc := code) lawTb7_ok (i := 57) rfl
theorem d_law_1000 : decode code 1000 = .ok (.iload_n 3, 1) := law_d (cc := code) lawTb7_ok (i := 58) rfl
theorem d_law_1001 : decode code 1001 = .ok (.iconst 1, 1) := law_d (cc := code) lawTb7_ok (i := 59) rfl
theorem d_law_1002 : decode code 1002 = .ok (.iadd, 1) := law_d (cc := code) lawTb7_ok (i := 60) rfl
theorem d_law_1003 : decode code 1003 = .ok (.iaload, 1) := law_d (cc := code) lawTb7_ok (i := 61) rfl
theorem d_law_1004 : decode code 1004 = .ok (.aload_n 0, 1) := law_d (cc := code) lawTb7_ok (i := 62) rfl
theorem d_law_1005 : decode code 1005 = .ok (.iload_n 3, 1) := law_d (cc := code) lawTb7_ok (i := 63) rfl
theorem d_law_1006 : decode code 1006 = .ok (.iconst 2, 1) := law_d (cc := code) lawTb7_ok (i := 64) rfl
theorem d_law_1007 : decode code 1007 = .ok (.iadd, 1) := law_d (cc := code) lawTb7_ok (i := 65) rfl
theorem d_law_1008 : decode code 1008 = .ok (.iaload, 1) := law_d (cc := code) lawTb7_ok (i := 66) rfl
theorem d_law_1009 : decode code 1009 = .ok (.aload_n 0, 1) := law_d (cc := code) lawTb7_ok (i := 67) rfl
theorem d_law_1010 : decode code 1010 = .ok (.iload_n 3, 1) := law_d (cc := code) lawTb7_ok (i := 68) rfl
theorem d_law_1011 : decode code 1011 = .ok (.iconst 3, 1) := law_d (cc := code) lawTb7_ok (i := 69) rfl
theorem d_law_1012 : decode code 1012 = .ok (.iadd, 1) := law_d (cc := code) lawTb7_ok (i := 70) rfl
theorem d_law_1013 : decode code 1013 = .ok (.iaload, 1) := law_d (cc := code) lawTb7_ok (i := 71) rfl
theorem d_law_1014 : decode code 1014 = .ok (.invokevirtual 145, 3) := law_d (cc := code) lawTb7_ok (i := 72) rfl
theorem d_law_1017 : decode code 1017 = .ok (.lcmp, 1) := law_d (cc := code) lawTb7_ok (i := 73) rfl
theorem d_law_1018 : decode code 1018 = .ok (.ifCond .eq 226, 3) := law_d (cc := code) lawTb7_ok (i := 74) rfl
theorem d_law_1021 : decode code 1021 = .ok (.iconst 0, 1) := law_d (cc := code) lawTb7_ok (i := 75) rfl
theorem d_law_1022 : decode code 1022 = .ok (.ireturn, 1) := law_d (cc := code) lawTb7_ok (i := 76) rfl
theorem d_law_1023 : decode code 1023 = .ok (.aload_n 1, 1) := law_d (cc := code) lawTb7_ok (i := 77) rfl
theorem d_law_1024 : decode code 1024 = .ok (.aload_n 0, 1) := law_d (cc := code) lawTb7_ok (i := 78) rfl
theorem d_law_1025 : decode code 1025 = .ok (.iload_n 3, 1) := law_d (cc := code) lawTb7_ok (i := 79) rfl
theorem d_law_1026 : decode code 1026 = .ok (.iconst 1, 1) := law_d (cc := code) lawTb8_ok (i := 0) rfl
theorem d_law_1027 : decode code 1027 = .ok (.iadd, 1) := law_d (cc := code) lawTb8_ok (i := 1) rfl
theorem d_law_1028 : decode code 1028 = .ok (.iaload, 1) := law_d (cc := code) lawTb8_ok (i := 2) rfl
theorem d_law_1029 : decode code 1029 = .ok (.invokevirtual 146, 3) := law_d (cc := code) lawTb8_ok (i := 3) rfl
theorem d_law_1032 : decode code 1032 = .ok (.aload_n 2, 1) := law_d (cc := code) lawTb8_ok (i := 4) rfl
theorem d_law_1033 : decode code 1033 = .ok (.aload_n 0, 1) := law_d (cc := code) lawTb8_ok (i := 5) rfl
theorem d_law_1034 : decode code 1034 = .ok (.iload_n 3, 1) := law_d (cc := code) lawTb8_ok (i := 6) rfl
theorem d_law_1035 : decode code 1035 = .ok (.iconst 1, 1) := law_d (cc := code) lawTb8_ok (i := 7) rfl
theorem d_law_1036 : decode code 1036 = .ok (.iadd, 1) := law_d (cc := code) lawTb8_ok (i := 8) rfl
theorem d_law_1037 : decode code 1037 = .ok (.iaload, 1) := law_d (cc := code) lawTb8_ok (i := 9) rfl
theorem d_law_1038 : decode code 1038 = .ok (.invokevirtual 150, 3) := law_d (cc := code) lawTb8_ok (i := 10) rfl
theorem d_law_1041 : decode code 1041 = .ok (.lcmp, 1) := law_d (cc := code) lawTb8_ok (i := 11) rfl
theorem d_law_1042 : decode code 1042 = .ok (.ifCond .eq 202, 3) := law_d (cc := code) lawTb8_ok (i := 12) rfl
theorem d_law_1045 : decode code 1045 = .ok (.iconst 0, 1) := law_d (cc := code) lawTb8_ok (i := 13) rfl
theorem d_law_1046 : decode code 1046 = .ok (.ireturn, 1) := law_d (cc := code) lawTb8_ok (i := 14) rfl
theorem d_law_1047 : decode code 1047 = .ok (.aload_n 1, 1) := law_d (cc := code) lawTb8_ok (i := 15) rfl
theorem d_law_1048 : decode code 1048 = .ok (.aload_n 0, 1) := law_d (cc := code) lawTb8_ok (i := 16) rfl
theorem d_law_1049 : decode code 1049 = .ok (.iload_n 3, 1) := law_d (cc := code) lawTb8_ok (i := 17) rfl
theorem d_law_1050 : decode code 1050 = .ok (.iconst 1, 1) := law_d (cc := code) lawTb8_ok (i := 18) rfl
theorem d_law_1051 : decode code 1051 = .ok (.iadd, 1) := law_d (cc := code) lawTb8_ok (i := 19) rfl
theorem d_law_1052 : decode code 1052 = .ok (.iaload, 1) := law_d (cc := code) lawTb8_ok (i := 20) rfl
theorem d_law_1053 : decode code 1053 = .ok (.invokevirtual 151, 3) := law_d (cc := code) lawTb8_ok (i := 21) rfl
theorem d_law_1056 : decode code 1056 = .ok (.aload_n 2, 1) := law_d (cc := code) lawTb8_ok (i := 22) rfl
theorem d_law_1057 : decode code 1057 = .ok (.aload_n 0, 1) := law_d (cc := code) lawTb8_ok (i := 23) rfl
theorem d_law_1058 : decode code 1058 = .ok (.iload_n 3, 1) := law_d (cc := code) lawTb8_ok (i := 24) rfl
theorem d_law_1059 : decode code 1059 = .ok (.iconst 1, 1) := law_d (cc := code) lawTb8_ok (i := 25) rfl
theorem d_law_1060 : decode code 1060 = .ok (.iadd, 1) := law_d (cc := code) lawTb8_ok (i := 26) rfl
theorem d_law_1061 : decode code 1061 = .ok (.iaload, 1) := law_d (cc := code) lawTb8_ok (i := 27) rfl
theorem d_law_1062 : decode code 1062 = .ok (.invokevirtual 154, 3) := law_d (cc := code) lawTb8_ok (i := 28) rfl
theorem d_law_1065 : decode code 1065 = .ok (.if_icmp .eq 179, 3) := law_d (cc := code) lawTb8_ok (i := 29) rfl
theorem d_law_1068 : decode code 1068 = .ok (.iconst 0, 1) := law_d (cc := code) lawTb8_ok (i := 30) rfl
theorem d_law_1069 : decode code 1069 = .ok (.ireturn, 1) := law_d (cc := code) lawTb8_ok (i := 31) rfl
theorem d_law_1070 : decode code 1070 = .ok (.aload_n 1, 1) := law_d (cc := code) lawTb8_ok (i := 32) rfl
theorem d_law_1071 : decode code 1071 = .ok (.aload_n 0, 1) := law_d (cc := code) lawTb8_ok (i := 33) rfl
theorem d_law_1072 : decode code 1072 = .ok (.iload_n 3, 1) := law_d (cc := code) lawTb8_ok (i := 34) rfl
theorem d_law_1073 : decode code 1073 = .ok (.iconst 1, 1) := law_d (cc := code) lawTb8_ok (i := 35) rfl
theorem d_law_1074 : decode code 1074 = .ok (.iadd, 1) := law_d (cc := code) lawTb8_ok (i := 36) rfl
theorem d_law_1075 : decode code 1075 = .ok (.iaload, 1) := law_d (cc := code) lawTb8_ok (i := 37) rfl
theorem d_law_1076 : decode code 1076 = .ok (.aload_n 0, 1) := law_d (cc := code) lawTb8_ok (i := 38) rfl
theorem d_law_1077 : decode code 1077 = .ok (.iload_n 3, 1) := law_d (cc := code) lawTb8_ok (i := 39) rfl
theorem d_law_1078 : decode code 1078 = .ok (.iconst 2, 1) := law_d (cc := code) lawTb8_ok (i := 40) rfl
theorem d_law_1079 : decode code 1079 = .ok (.iadd, 1) := law_d (cc := code) lawTb8_ok (i := 41) rfl
theorem d_law_1080 : decode code 1080 = .ok (.iaload, 1) := law_d (cc := code) lawTb8_ok (i := 42) rfl
theorem d_law_1081 : decode code 1081 = .ok (.invokevirtual 155, 3) := law_d (cc := code) lawTb8_ok (i := 43) rfl
theorem d_law_1084 : decode code 1084 = .ok (.aload_n 2, 1) := law_d (cc := code) lawTb8_ok (i := 44) rfl
theorem d_law_1085 : decode code 1085 = .ok (.aload_n 0, 1) := law_d (cc := code) lawTb8_ok (i := 45) rfl
theorem d_law_1086 : decode code 1086 = .ok (.iload_n 3, 1) := law_d (cc := code) lawTb8_ok (i := 46) rfl
theorem d_law_1087 : decode code 1087 = .ok (.iconst 1, 1) := law_d (cc := code) lawTb8_ok (i := 47) rfl
theorem d_law_1088 : decode code 1088 = .ok (.iadd, 1) := law_d (cc := code) lawTb8_ok (i := 48) rfl
theorem d_law_1089 : decode code 1089 = .ok (.iaload, 1) := law_d (cc := code) lawTb8_ok (i := 49) rfl
theorem d_law_1090 : decode code 1090 = .ok (.aload_n 0, 1) := law_d (cc := code) lawTb8_ok (i := 50) rfl
theorem d_law_1091 : decode code 1091 = .ok (.iload_n 3, 1) := law_d (cc := code) lawTb8_ok (i := 51) rfl
theorem d_law_1092 : decode code 1092 = .ok (.iconst 2, 1) := law_d (cc := code) lawTb8_ok (i := 52) rfl
theorem d_law_1093 : decode code 1093 = .ok (.iadd, 1) := law_d (cc := code) lawTb8_ok (i := 53) rfl
theorem d_law_1094 : decode code 1094 = .ok (.iaload, 1) := law_d (cc := code) lawTb8_ok (i := 54) rfl
theorem d_law_1095 : decode code 1095 = .ok (.invokevirtual 158, 3) := law_d (cc := code) lawTb8_ok (i := 55) rfl
theorem d_law_1098 : decode code 1098 = .ok (.if_icmp .eq 146, 3) := law_d (cc := code) lawTb8_ok (i := 56) rfl
theorem d_law_1101 : decode code 1101 = .ok (.iconst 0, 1) := law_d (cc := code) lawTb8_ok (i := 57) rfl
theorem d_law_1102 : decode code 1102 = .ok (.ireturn, 1) := law_d (cc := code) lawTb8_ok (i := 58) rfl
theorem d_law_1103 : decode code 1103 = .ok (.aload_n 1, 1) := law_d (cc := code) lawTb8_ok (i := 59) rfl
theorem d_law_1104 : decode code 1104 = .ok (.aload_n 0, 1) := law_d (cc := code) lawTb8_ok (i := 60) rfl
theorem d_law_1105 : decode code 1105 = .ok (.iload_n 3, 1) := law_d (cc := code) lawTb8_ok (i := 61) rfl
theorem d_law_1106 : decode code 1106 = .ok (.iconst 1, 1) := law_d (cc := code) lawTb8_ok (i := 62) rfl
theorem d_law_1107 : decode code 1107 = .ok (.iadd, 1) := law_d (cc := code) lawTb8_ok (i := 63) rfl
theorem d_law_1108 : decode code 1108 = .ok (.iaload, 1) := law_d (cc := code) lawTb8_ok (i := 64) rfl
theorem d_law_1109 : decode code 1109 = .ok (.invokevirtual 159, 3) := law_d (cc := code) lawTb8_ok (i := 65) rfl
theorem d_law_1112 : decode code 1112 = .ok (.aload_n 2, 1) := law_d (cc := code) lawTb8_ok (i := 66) rfl
theorem d_law_1113 : decode code 1113 = .ok (.aload_n 0, 1) := law_d (cc := code) lawTb8_ok (i := 67) rfl
theorem d_law_1114 : decode code 1114 = .ok (.iload_n 3, 1) := law_d (cc := code) lawTb8_ok (i := 68) rfl
theorem d_law_1115 : decode code 1115 = .ok (.iconst 1, 1) := law_d (cc := code) lawTb8_ok (i := 69) rfl
theorem d_law_1116 : decode code 1116 = .ok (.iadd, 1) := law_d (cc := code) lawTb8_ok (i := 70) rfl
theorem d_law_1117 : decode code 1117 = .ok (.iaload, 1) := law_d (cc := code) lawTb8_ok (i := 71) rfl
theorem d_law_1118 : decode code 1118 = .ok (.invokevirtual 162, 3) := law_d (cc := code) lawTb8_ok (i := 72) rfl
theorem d_law_1121 : decode code 1121 = .ok (.if_icmp .eq 123, 3) := law_d (cc := code) lawTb8_ok (i := 73) rfl
theorem d_law_1124 : decode code 1124 = .ok (.iconst 0, 1) := law_d (cc := code) lawTb8_ok (i := 74) rfl
theorem d_law_1125 : decode code 1125 = .ok (.ireturn, 1) := law_d (cc := code) lawTb8_ok (i := 75) rfl
theorem d_law_1126 : decode code 1126 = .ok (.aload_n 1, 1) := law_d (cc := code) lawTb8_ok (i := 76) rfl
theorem d_law_1127 : decode code 1127 = .ok (.invokevirtual 163, 3) := law_d (cc := code) lawTb8_ok (i := 77) rfl
theorem d_law_1130 : decode code 1130 = .ok (.aload_n 2, 1) := law_d (cc := code) lawTb8_ok (i := 78) rfl
theorem d_law_1131 : decode code 1131 = .ok (.invokevirtual 166, 3) := law_d (cc := code) lawTb8_ok (i := 79) rfl
theorem d_law_1134 : decode code 1134 = .ok (.if_icmp .eq 110, 3) := law_d (cc := code) lawTb9_ok (i := 0) rfl
theorem d_law_1137 : decode code 1137 = .ok (.iconst 0, 1) := law_d (cc := code) lawTb9_ok (i := 1) rfl
theorem d_law_1138 : decode code 1138 = .ok (.ireturn, 1) := law_d (cc := code) lawTb9_ok (i := 2) rfl
theorem d_law_1139 : decode code 1139 = .ok (.aload_n 1, 1) := law_d (cc := code) lawTb9_ok (i := 3) rfl
theorem d_law_1140 : decode code 1140 = .ok (.invokevirtual 167, 3) := law_d (cc := code) lawTb9_ok (i := 4) rfl
theorem d_law_1143 : decode code 1143 = .ok (.aload_n 2, 1) := law_d (cc := code) lawTb9_ok (i := 5) rfl
theorem d_law_1144 : decode code 1144 = .ok (.invokevirtual 170, 3) := law_d (cc := code) lawTb9_ok (i := 6) rfl
theorem d_law_1147 : decode code 1147 = .ok (.if_icmp .eq 97, 3) := law_d (cc := code) lawTb9_ok (i := 7) rfl
theorem d_law_1150 : decode code 1150 = .ok (.iconst 0, 1) := law_d (cc := code) lawTb9_ok (i := 8) rfl
theorem d_law_1151 : decode code 1151 = .ok (.ireturn, 1) := law_d (cc := code) lawTb9_ok (i := 9) rfl
theorem d_law_1152 : decode code 1152 = .ok (.aload_n 1, 1) := law_d (cc := code) lawTb9_ok (i := 10) rfl
theorem d_law_1153 : decode code 1153 = .ok (.aload_n 0, 1) := law_d (cc := code) lawTb9_ok (i := 11) rfl
theorem d_law_1154 : decode code 1154 = .ok (.iload_n 3, 1) := law_d (cc := code) lawTb9_ok (i := 12) rfl
theorem d_law_1155 : decode code 1155 = .ok (.iconst 1, 1) := law_d (cc := code) lawTb9_ok (i := 13) rfl
theorem d_law_1156 : decode code 1156 = .ok (.iadd, 1) := law_d (cc := code) lawTb9_ok (i := 14) rfl
theorem d_law_1157 : decode code 1157 = .ok (.iaload, 1) := law_d (cc := code) lawTb9_ok (i := 15) rfl
theorem d_law_1158 : decode code 1158 = .ok (.aload_n 0, 1) := law_d (cc := code) lawTb9_ok (i := 16) rfl
theorem d_law_1159 : decode code 1159 = .ok (.iload_n 3, 1) := law_d (cc := code) lawTb9_ok (i := 17) rfl
theorem d_law_1160 : decode code 1160 = .ok (.iconst 2, 1) := law_d (cc := code) lawTb9_ok (i := 18) rfl
theorem d_law_1161 : decode code 1161 = .ok (.iadd, 1) := law_d (cc := code) lawTb9_ok (i := 19) rfl
theorem d_law_1162 : decode code 1162 = .ok (.iaload, 1) := law_d (cc := code) lawTb9_ok (i := 20) rfl
theorem d_law_1163 : decode code 1163 = .ok (.aload_n 0, 1) := law_d (cc := code) lawTb9_ok (i := 21) rfl
theorem d_law_1164 : decode code 1164 = .ok (.iload_n 3, 1) := law_d (cc := code) lawTb9_ok (i := 22) rfl
theorem d_law_1165 : decode code 1165 = .ok (.iconst 3, 1) := law_d (cc := code) lawTb9_ok (i := 23) rfl
theorem d_law_1166 : decode code 1166 = .ok (.iadd, 1) := law_d (cc := code) lawTb9_ok (i := 24) rfl
theorem d_law_1167 : decode code 1167 = .ok (.iaload, 1) := law_d (cc := code) lawTb9_ok (i := 25) rfl
theorem d_law_1168 : decode code 1168 = .ok (.invokevirtual 171, 3) := law_d (cc := code) lawTb9_ok (i := 26) rfl
theorem d_law_1171 : decode code 1171 = .ok (.aload_n 2, 1) := law_d (cc := code) lawTb9_ok (i := 27) rfl
theorem d_law_1172 : decode code 1172 = .ok (.aload_n 0, 1) := law_d (cc := code) lawTb9_ok (i := 28) rfl
theorem d_law_1173 : decode code 1173 = .ok (.iload_n 3, 1) := law_d (cc := code) lawTb9_ok (i := 29) rfl
theorem d_law_1174 : decode code 1174 = .ok (.iconst 1, 1) := law_d (cc := code) lawTb9_ok (i := 30) rfl
theorem d_law_1175 : decode code 1175 = .ok (.iadd, 1) := law_d (cc := code) lawTb9_ok (i := 31) rfl
theorem d_law_1176 : decode code 1176 = .ok (.iaload, 1) := law_d (cc := code) lawTb9_ok (i := 32) rfl
theorem d_law_1177 : decode code 1177 = .ok (.aload_n 0, 1) := law_d (cc := code) lawTb9_ok (i := 33) rfl
theorem d_law_1178 : decode code 1178 = .ok (.iload_n 3, 1) := law_d (cc := code) lawTb9_ok (i := 34) rfl
theorem d_law_1179 : decode code 1179 = .ok (.iconst 2, 1) := law_d (cc := code) lawTb9_ok (i := 35) rfl
theorem d_law_1180 : decode code 1180 = .ok (.iadd, 1) := law_d (cc := code) lawTb9_ok (i := 36) rfl
theorem d_law_1181 : decode code 1181 = .ok (.iaload, 1) := law_d (cc := code) lawTb9_ok (i := 37) rfl
theorem d_law_1182 : decode code 1182 = .ok (.aload_n 0, 1) := law_d (cc := code) lawTb9_ok (i := 38) rfl
theorem d_law_1183 : decode code 1183 = .ok (.iload_n 3, 1) := law_d (cc := code) lawTb9_ok (i := 39) rfl
theorem d_law_1184 : decode code 1184 = .ok (.iconst 3, 1) := law_d (cc := code) lawTb9_ok (i := 40) rfl
theorem d_law_1185 : decode code 1185 = .ok (.iadd, 1) := law_d (cc := code) lawTb9_ok (i := 41) rfl
theorem d_law_1186 : decode code 1186 = .ok (.iaload, 1) := law_d (cc := code) lawTb9_ok (i := 42) rfl
theorem d_law_1187 : decode code 1187 = .ok (.invokevirtual 174, 3) := law_d (cc := code) lawTb9_ok (i := 43) rfl
theorem d_law_1190 : decode code 1190 = .ok (.if_icmp .eq 54, 3) := law_d (cc := code) lawTb9_ok (i := 44) rfl
theorem d_law_1193 : decode code 1193 = .ok (.iconst 0, 1) := law_d (cc := code) lawTb9_ok (i := 45) rfl
theorem d_law_1194 : decode code 1194 = .ok (.ireturn, 1) := law_d (cc := code) lawTb9_ok (i := 46) rfl
theorem d_law_1195 : decode code 1195 = .ok (.aload_n 1, 1) := law_d (cc := code) lawTb9_ok (i := 47) rfl
theorem d_law_1196 : decode code 1196 = .ok (.invokevirtual 175, 3) := law_d (cc := code) lawTb9_ok (i := 48) rfl
theorem d_law_1199 : decode code 1199 = .ok (.aload_n 2, 1) := law_d (cc := code) lawTb9_ok (i := 49) rfl
theorem d_law_1200 : decode code 1200 = .ok (.invokevirtual 178, 3) := law_d (cc := code) lawTb9_ok (i := 50) rfl
theorem d_law_1203 : decode code 1203 = .ok (.if_icmp .eq 41, 3) := law_d (cc := code) lawTb9_ok (i := 51) rfl
theorem d_law_1206 : decode code 1206 = .ok (.iconst 0, 1) := law_d (cc := code) lawTb9_ok (i := 52) rfl
theorem d_law_1207 : decode code 1207 = .ok (.ireturn, 1) := law_d (cc := code) lawTb9_ok (i := 53) rfl
theorem d_law_1208 : decode code 1208 = .ok (.aload_n 1, 1) := law_d (cc := code) lawTb9_ok (i := 54) rfl
theorem d_law_1209 : decode code 1209 = .ok (.invokevirtual 179, 3) := law_d (cc := code) lawTb9_ok (i := 55) rfl
theorem d_law_1212 : decode code 1212 = .ok (.aload_n 2, 1) := law_d (cc := code) lawTb9_ok (i := 56) rfl
theorem d_law_1213 : decode code 1213 = .ok (.invokevirtual 182, 3) := law_d (cc := code) lawTb9_ok (i := 57) rfl
theorem d_law_1216 : decode code 1216 = .ok (.if_icmp .eq 28, 3) := law_d (cc := code) lawTb9_ok (i := 58) rfl
theorem d_law_1219 : decode code 1219 = .ok (.iconst 0, 1) := law_d (cc := code) lawTb9_ok (i := 59) rfl
theorem d_law_1220 : decode code 1220 = .ok (.ireturn, 1) := law_d (cc := code) lawTb9_ok (i := 60) rfl
theorem d_law_1221 : decode code 1221 = .ok (.aload_n 1, 1) := law_d (cc := code) lawTb9_ok (i := 61) rfl
theorem d_law_1222 : decode code 1222 = .ok (.aload_n 0, 1) := law_d (cc := code) lawTb9_ok (i := 62) rfl
theorem d_law_1223 : decode code 1223 = .ok (.iload_n 3, 1) := law_d (cc := code) lawTb9_ok (i := 63) rfl
theorem d_law_1224 : decode code 1224 = .ok (.iconst 1, 1) := law_d (cc := code) lawTb9_ok (i := 64) rfl
theorem d_law_1225 : decode code 1225 = .ok (.iadd, 1) := law_d (cc := code) lawTb9_ok (i := 65) rfl
theorem d_law_1226 : decode code 1226 = .ok (.iaload, 1) := law_d (cc := code) lawTb9_ok (i := 66) rfl
theorem d_law_1227 : decode code 1227 = .ok (.invokevirtual 183, 3) := law_d (cc := code) lawTb9_ok (i := 67) rfl
theorem d_law_1230 : decode code 1230 = .ok (.aload_n 2, 1) := law_d (cc := code) lawTb9_ok (i := 68) rfl
theorem d_law_1231 : decode code 1231 = .ok (.aload_n 0, 1) := law_d (cc := code) lawTb9_ok (i := 69) rfl
theorem d_law_1232 : decode code 1232 = .ok (.iload_n 3, 1) := law_d (cc := code) lawTb9_ok (i := 70) rfl
theorem d_law_1233 : decode code 1233 = .ok (.iconst 1, 1) := law_d (cc := code) lawTb9_ok (i := 71) rfl
theorem d_law_1234 : decode code 1234 = .ok (.iadd, 1) := law_d (cc := code) lawTb9_ok (i := 72) rfl
theorem d_law_1235 : decode code 1235 = .ok (.iaload, 1) := law_d (cc := code) lawTb9_ok (i := 73) rfl
theorem d_law_1236 : decode code 1236 = .ok (.invokevirtual 186, 3) := law_d (cc := code) lawTb9_ok (i := 74) rfl
theorem d_law_1239 : decode code 1239 = .ok (.if_icmp .eq 5, 3) := law_d (cc := code) lawTb9_ok (i := 75) rfl
theorem d_law_1242 : decode code 1242 = .ok (.iconst 0, 1) := law_d (cc := code) lawTb9_ok (i := 76) rfl
theorem d_law_1243 : decode code 1243 = .ok (.ireturn, 1) := law_d (cc := code) lawTb9_ok (i := 77) rfl
theorem d_law_1244 : decode code 1244 = .ok (.iinc 3 4, 3) := law_d (cc := code) lawTb9_ok (i := 78) rfl
theorem d_law_1247 : decode code 1247 = .ok (.goto (-1229), 3) := law_d (cc := code) lawTb9_ok (i := 79) rfl
theorem d_law_1250 : decode code 1250 = .ok (.iconst 1, 1) := law_d (cc := code) lawTb10_ok (i := 0) rfl
theorem d_law_1251 : decode code 1251 = .ok (.ireturn, 1) := law_d (cc := code) lawTb10_ok (i := 1) rfl
