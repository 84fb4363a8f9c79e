/-! ===== the law: its instructions, its links ===== -/
abbrev cL_law : ByteArray := code
theorem dL_law_0 : decode cL_law 0 = .ok (.new 7, 3) := by decide +kernel
theorem dL_law_3 : decode cL_law 3 = .ok (.dup, 1) := by decide +kernel
theorem dL_law_4 : decode cL_law 4 = .ok (.invokespecial 9, 3) := by decide +kernel
theorem dL_law_7 : decode cL_law 7 = .ok (.astore_n 1, 1) := by decide +kernel
theorem dL_law_8 : decode cL_law 8 = .ok (.new 10, 3) := by decide +kernel
theorem dL_law_11 : decode cL_law 11 = .ok (.dup, 1) := by decide +kernel
theorem dL_law_12 : decode cL_law 12 = .ok (.invokespecial 12, 3) := by decide +kernel
theorem dL_law_15 : decode cL_law 15 = .ok (.astore_n 2, 1) := by decide +kernel
theorem dL_law_16 : decode cL_law 16 = .ok (.iconst 0, 1) := by decide +kernel
theorem dL_law_17 : decode cL_law 17 = .ok (.istore_n 3, 1) := by decide +kernel
theorem dL_law_18 : decode cL_law 18 = .ok (.iload_n 3, 1) := by decide +kernel
theorem dL_law_19 : decode cL_law 19 = .ok (.aload_n 0, 1) := by decide +kernel
theorem dL_law_20 : decode cL_law 20 = .ok (.arraylength, 1) := by decide +kernel
theorem dL_law_21 : decode cL_law 21 = .ok (.bipush 6, 2) := by decide +kernel
theorem dL_law_23 : decode cL_law 23 = .ok (.isub, 1) := by decide +kernel
theorem dL_law_24 : decode cL_law 24 = .ok (.if_icmp .gt 1293, 3) := by decide +kernel
theorem dL_law_27 : decode cL_law 27 = .ok (.aload_n 0, 1) := by decide +kernel
theorem dL_law_28 : decode cL_law 28 = .ok (.iload_n 3, 1) := by decide +kernel
theorem dL_law_29 : decode cL_law 29 = .ok (.iaload, 1) := by decide +kernel
theorem dL_law_30 : decode cL_law 30 = .ok (.bipush 63, 2) := by decide +kernel
theorem dL_law_32 : decode cL_law 32 = .ok (.iand, 1) := by decide +kernel
theorem dL_law_33 : decode cL_law 33 = .ok (.tableswitch 1278 0 38 #[171, 214, 277, 290, 303, 316, 349, 372, 405, 418, 441, 464, 487, 510, 543, 576, 599, 642, 675, 688, 711, 734, 757, 780, 793, 826, 849, 862, 875, 898, 911, 954, 987, 1010, 1043, 1096, 1159, 1202, 1225], 171) := by decide +kernel
theorem dL_law_204 : decode cL_law 204 = .ok (.aload_n 1, 1) := by decide +kernel
theorem dL_law_205 : decode cL_law 205 = .ok (.aload_n 0, 1) := by decide +kernel
theorem dL_law_206 : decode cL_law 206 = .ok (.iload_n 3, 1) := by decide +kernel
theorem dL_law_207 : decode cL_law 207 = .ok (.iconst 1, 1) := by decide +kernel
theorem dL_law_208 : decode cL_law 208 = .ok (.iadd, 1) := by decide +kernel
theorem dL_law_209 : decode cL_law 209 = .ok (.iaload, 1) := by decide +kernel
theorem dL_law_210 : decode cL_law 210 = .ok (.aload_n 0, 1) := by decide +kernel
theorem dL_law_211 : decode cL_law 211 = .ok (.iload_n 3, 1) := by decide +kernel
theorem dL_law_212 : decode cL_law 212 = .ok (.iconst 2, 1) := by decide +kernel
theorem dL_law_213 : decode cL_law 213 = .ok (.iadd, 1) := by decide +kernel
theorem dL_law_214 : decode cL_law 214 = .ok (.iaload, 1) := by decide +kernel
theorem dL_law_215 : decode cL_law 215 = .ok (.aload_n 0, 1) := by decide +kernel
theorem dL_law_216 : decode cL_law 216 = .ok (.iload_n 3, 1) := by decide +kernel
theorem dL_law_217 : decode cL_law 217 = .ok (.iconst 3, 1) := by decide +kernel
theorem dL_law_218 : decode cL_law 218 = .ok (.iadd, 1) := by decide +kernel
theorem dL_law_219 : decode cL_law 219 = .ok (.iaload, 1) := by decide +kernel
theorem dL_law_220 : decode cL_law 220 = .ok (.invokevirtual 13, 3) := by decide +kernel
theorem dL_law_223 : decode cL_law 223 = .ok (.pop, 1) := by decide +kernel
theorem dL_law_224 : decode cL_law 224 = .ok (.aload_n 2, 1) := by decide +kernel
theorem dL_law_225 : decode cL_law 225 = .ok (.aload_n 0, 1) := by decide +kernel
theorem dL_law_226 : decode cL_law 226 = .ok (.iload_n 3, 1) := by decide +kernel
theorem dL_law_227 : decode cL_law 227 = .ok (.iconst 1, 1) := by decide +kernel
theorem dL_law_228 : decode cL_law 228 = .ok (.iadd, 1) := by decide +kernel
theorem dL_law_229 : decode cL_law 229 = .ok (.iaload, 1) := by decide +kernel
theorem dL_law_230 : decode cL_law 230 = .ok (.aload_n 0, 1) := by decide +kernel
theorem dL_law_231 : decode cL_law 231 = .ok (.iload_n 3, 1) := by decide +kernel
theorem dL_law_232 : decode cL_law 232 = .ok (.iconst 2, 1) := by decide +kernel
theorem dL_law_233 : decode cL_law 233 = .ok (.iadd, 1) := by decide +kernel
theorem dL_law_234 : decode cL_law 234 = .ok (.iaload, 1) := by decide +kernel
theorem dL_law_235 : decode cL_law 235 = .ok (.aload_n 0, 1) := by decide +kernel
theorem dL_law_236 : decode cL_law 236 = .ok (.iload_n 3, 1) := by decide +kernel
theorem dL_law_237 : decode cL_law 237 = .ok (.iconst 3, 1) := by decide +kernel
theorem dL_law_238 : decode cL_law 238 = .ok (.iadd, 1) := by decide +kernel
theorem dL_law_239 : decode cL_law 239 = .ok (.iaload, 1) := by decide +kernel
theorem dL_law_240 : decode cL_law 240 = .ok (.invokevirtual 17, 3) := by decide +kernel
theorem dL_law_243 : decode cL_law 243 = .ok (.pop, 1) := by decide +kernel
theorem dL_law_244 : decode cL_law 244 = .ok (.goto 1067, 3) := by decide +kernel
theorem dL_law_247 : decode cL_law 247 = .ok (.aload_n 1, 1) := by decide +kernel
theorem dL_law_248 : decode cL_law 248 = .ok (.aload_n 0, 1) := by decide +kernel
theorem dL_law_249 : decode cL_law 249 = .ok (.iload_n 3, 1) := by decide +kernel
theorem dL_law_250 : decode cL_law 250 = .ok (.iconst 1, 1) := by decide +kernel
theorem dL_law_251 : decode cL_law 251 = .ok (.iadd, 1) := by decide +kernel
theorem dL_law_252 : decode cL_law 252 = .ok (.iaload, 1) := by decide +kernel
theorem dL_law_253 : decode cL_law 253 = .ok (.i2l, 1) := by decide +kernel
theorem dL_law_254 : decode cL_law 254 = .ok (.bipush 32, 2) := by decide +kernel
theorem dL_law_256 : decode cL_law 256 = .ok (.lshl, 1) := by decide +kernel
theorem dL_law_257 : decode cL_law 257 = .ok (.aload_n 0, 1) := by decide +kernel
theorem dL_law_258 : decode cL_law 258 = .ok (.iload_n 3, 1) := by decide +kernel
theorem dL_law_259 : decode cL_law 259 = .ok (.iconst 2, 1) := by decide +kernel
theorem dL_law_260 : decode cL_law 260 = .ok (.iadd, 1) := by decide +kernel
theorem dL_law_261 : decode cL_law 261 = .ok (.iaload, 1) := by decide +kernel
theorem dL_law_262 : decode cL_law 262 = .ok (.i2l, 1) := by decide +kernel
theorem dL_law_263 : decode cL_law 263 = .ok (.ldc2_w 18, 3) := by decide +kernel
theorem dL_law_266 : decode cL_law 266 = .ok (.land, 1) := by decide +kernel
theorem dL_law_267 : decode cL_law 267 = .ok (.lor, 1) := by decide +kernel
theorem dL_law_268 : decode cL_law 268 = .ok (.aload_n 0, 1) := by decide +kernel
theorem dL_law_269 : decode cL_law 269 = .ok (.iload_n 3, 1) := by decide +kernel
theorem dL_law_270 : decode cL_law 270 = .ok (.iconst 3, 1) := by decide +kernel
theorem dL_law_271 : decode cL_law 271 = .ok (.iadd, 1) := by decide +kernel
theorem dL_law_272 : decode cL_law 272 = .ok (.iaload, 1) := by decide +kernel
theorem dL_law_273 : decode cL_law 273 = .ok (.invokevirtual 20, 3) := by decide +kernel
theorem dL_law_276 : decode cL_law 276 = .ok (.aload_n 2, 1) := by decide +kernel
theorem dL_law_277 : decode cL_law 277 = .ok (.aload_n 0, 1) := by decide +kernel
theorem dL_law_278 : decode cL_law 278 = .ok (.iload_n 3, 1) := by decide +kernel
theorem dL_law_279 : decode cL_law 279 = .ok (.iconst 1, 1) := by decide +kernel
theorem dL_law_280 : decode cL_law 280 = .ok (.iadd, 1) := by decide +kernel
theorem dL_law_281 : decode cL_law 281 = .ok (.iaload, 1) := by decide +kernel
theorem dL_law_282 : decode cL_law 282 = .ok (.i2l, 1) := by decide +kernel
theorem dL_law_283 : decode cL_law 283 = .ok (.bipush 32, 2) := by decide +kernel
theorem dL_law_285 : decode cL_law 285 = .ok (.lshl, 1) := by decide +kernel
theorem dL_law_286 : decode cL_law 286 = .ok (.aload_n 0, 1) := by decide +kernel
theorem dL_law_287 : decode cL_law 287 = .ok (.iload_n 3, 1) := by decide +kernel
theorem dL_law_288 : decode cL_law 288 = .ok (.iconst 2, 1) := by decide +kernel
theorem dL_law_289 : decode cL_law 289 = .ok (.iadd, 1) := by decide +kernel
theorem dL_law_290 : decode cL_law 290 = .ok (.iaload, 1) := by decide +kernel
theorem dL_law_291 : decode cL_law 291 = .ok (.i2l, 1) := by decide +kernel
theorem dL_law_292 : decode cL_law 292 = .ok (.ldc2_w 18, 3) := by decide +kernel
theorem dL_law_295 : decode cL_law 295 = .ok (.land, 1) := by decide +kernel
theorem dL_law_296 : decode cL_law 296 = .ok (.lor, 1) := by decide +kernel
theorem dL_law_297 : decode cL_law 297 = .ok (.aload_n 0, 1) := by decide +kernel
theorem dL_law_298 : decode cL_law 298 = .ok (.iload_n 3, 1) := by decide +kernel
theorem dL_law_299 : decode cL_law 299 = .ok (.iconst 3, 1) := by decide +kernel
theorem dL_law_300 : decode cL_law 300 = .ok (.iadd, 1) := by decide +kernel
theorem dL_law_301 : decode cL_law 301 = .ok (.iaload, 1) := by decide +kernel
theorem dL_law_302 : decode cL_law 302 = .ok (.invokevirtual 24, 3) := by decide +kernel
theorem dL_law_305 : decode cL_law 305 = .ok (.if_icmp .eq 1006, 3) := by decide +kernel
theorem dL_law_308 : decode cL_law 308 = .ok (.iconst 0, 1) := by decide +kernel
theorem dL_law_309 : decode cL_law 309 = .ok (.ireturn, 1) := by decide +kernel
theorem dL_law_310 : decode cL_law 310 = .ok (.aload_n 1, 1) := by decide +kernel
theorem dL_law_311 : decode cL_law 311 = .ok (.invokevirtual 25, 3) := by decide +kernel
theorem dL_law_314 : decode cL_law 314 = .ok (.pop, 1) := by decide +kernel
theorem dL_law_315 : decode cL_law 315 = .ok (.aload_n 2, 1) := by decide +kernel
theorem dL_law_316 : decode cL_law 316 = .ok (.invokevirtual 29, 3) := by decide +kernel
theorem dL_law_319 : decode cL_law 319 = .ok (.pop, 1) := by decide +kernel
theorem dL_law_320 : decode cL_law 320 = .ok (.goto 991, 3) := by decide +kernel
theorem dL_law_323 : decode cL_law 323 = .ok (.aload_n 1, 1) := by decide +kernel
theorem dL_law_324 : decode cL_law 324 = .ok (.invokevirtual 30, 3) := by decide +kernel
theorem dL_law_327 : decode cL_law 327 = .ok (.pop, 1) := by decide +kernel
theorem dL_law_328 : decode cL_law 328 = .ok (.aload_n 2, 1) := by decide +kernel
theorem dL_law_329 : decode cL_law 329 = .ok (.invokevirtual 33, 3) := by decide +kernel
theorem dL_law_332 : decode cL_law 332 = .ok (.pop, 1) := by decide +kernel
theorem dL_law_333 : decode cL_law 333 = .ok (.goto 978, 3) := by decide +kernel
theorem dL_law_336 : decode cL_law 336 = .ok (.aload_n 1, 1) := by decide +kernel
theorem dL_law_337 : decode cL_law 337 = .ok (.invokevirtual 34, 3) := by decide +kernel
theorem dL_law_340 : decode cL_law 340 = .ok (.pop, 1) := by decide +kernel
theorem dL_law_341 : decode cL_law 341 = .ok (.aload_n 2, 1) := by decide +kernel
theorem dL_law_342 : decode cL_law 342 = .ok (.invokevirtual 37, 3) := by decide +kernel
theorem dL_law_345 : decode cL_law 345 = .ok (.pop, 1) := by decide +kernel
theorem dL_law_346 : decode cL_law 346 = .ok (.goto 965, 3) := by decide +kernel
theorem dL_law_349 : decode cL_law 349 = .ok (.aload_n 1, 1) := by decide +kernel
theorem dL_law_350 : decode cL_law 350 = .ok (.aload_n 0, 1) := by decide +kernel
theorem dL_law_351 : decode cL_law 351 = .ok (.iload_n 3, 1) := by decide +kernel
theorem dL_law_352 : decode cL_law 352 = .ok (.iconst 1, 1) := by decide +kernel
theorem dL_law_353 : decode cL_law 353 = .ok (.iadd, 1) := by decide +kernel
theorem dL_law_354 : decode cL_law 354 = .ok (.iaload, 1) := by decide +kernel
theorem dL_law_355 : decode cL_law 355 = .ok (.aload_n 0, 1) := by decide +kernel
theorem dL_law_356 : decode cL_law 356 = .ok (.iload_n 3, 1) := by decide +kernel
theorem dL_law_357 : decode cL_law 357 = .ok (.iconst 2, 1) := by decide +kernel
theorem dL_law_358 : decode cL_law 358 = .ok (.iadd, 1) := by decide +kernel
theorem dL_law_359 : decode cL_law 359 = .ok (.iaload, 1) := by decide +kernel
theorem dL_law_360 : decode cL_law 360 = .ok (.invokevirtual 38, 3) := by decide +kernel
theorem dL_law_363 : decode cL_law 363 = .ok (.pop, 1) := by decide +kernel
theorem dL_law_364 : decode cL_law 364 = .ok (.aload_n 2, 1) := by decide +kernel
theorem dL_law_365 : decode cL_law 365 = .ok (.aload_n 0, 1) := by decide +kernel
theorem dL_law_366 : decode cL_law 366 = .ok (.iload_n 3, 1) := by decide +kernel
theorem dL_law_367 : decode cL_law 367 = .ok (.iconst 1, 1) := by decide +kernel
theorem dL_law_368 : decode cL_law 368 = .ok (.iadd, 1) := by decide +kernel
theorem dL_law_369 : decode cL_law 369 = .ok (.iaload, 1) := by decide +kernel
theorem dL_law_370 : decode cL_law 370 = .ok (.aload_n 0, 1) := by decide +kernel
theorem dL_law_371 : decode cL_law 371 = .ok (.iload_n 3, 1) := by decide +kernel
theorem dL_law_372 : decode cL_law 372 = .ok (.iconst 2, 1) := by decide +kernel
theorem dL_law_373 : decode cL_law 373 = .ok (.iadd, 1) := by decide +kernel
theorem dL_law_374 : decode cL_law 374 = .ok (.iaload, 1) := by decide +kernel
theorem dL_law_375 : decode cL_law 375 = .ok (.invokevirtual 42, 3) := by decide +kernel
theorem dL_law_378 : decode cL_law 378 = .ok (.pop, 1) := by decide +kernel
theorem dL_law_379 : decode cL_law 379 = .ok (.goto 932, 3) := by decide +kernel
theorem dL_law_382 : decode cL_law 382 = .ok (.aload_n 1, 1) := by decide +kernel
theorem dL_law_383 : decode cL_law 383 = .ok (.aload_n 0, 1) := by decide +kernel
theorem dL_law_384 : decode cL_law 384 = .ok (.iload_n 3, 1) := by decide +kernel
theorem dL_law_385 : decode cL_law 385 = .ok (.iconst 1, 1) := by decide +kernel
theorem dL_law_386 : decode cL_law 386 = .ok (.iadd, 1) := by decide +kernel
theorem dL_law_387 : decode cL_law 387 = .ok (.iaload, 1) := by decide +kernel
theorem dL_law_388 : decode cL_law 388 = .ok (.invokevirtual 43, 3) := by decide +kernel
theorem dL_law_391 : decode cL_law 391 = .ok (.pop, 1) := by decide +kernel
theorem dL_law_392 : decode cL_law 392 = .ok (.aload_n 2, 1) := by decide +kernel
theorem dL_law_393 : decode cL_law 393 = .ok (.aload_n 0, 1) := by decide +kernel
theorem dL_law_394 : decode cL_law 394 = .ok (.iload_n 3, 1) := by decide +kernel
theorem dL_law_395 : decode cL_law 395 = .ok (.iconst 1, 1) := by decide +kernel
theorem dL_law_396 : decode cL_law 396 = .ok (.iadd, 1) := by decide +kernel
theorem dL_law_397 : decode cL_law 397 = .ok (.iaload, 1) := by decide +kernel
theorem dL_law_398 : decode cL_law 398 = .ok (.invokevirtual 47, 3) := by decide +kernel
theorem dL_law_401 : decode cL_law 401 = .ok (.pop, 1) := by decide +kernel
theorem dL_law_402 : decode cL_law 402 = .ok (.goto 909, 3) := by decide +kernel
theorem dL_law_405 : decode cL_law 405 = .ok (.aload_n 1, 1) := by decide +kernel
theorem dL_law_406 : decode cL_law 406 = .ok (.aload_n 0, 1) := by decide +kernel
theorem dL_law_407 : decode cL_law 407 = .ok (.iload_n 3, 1) := by decide +kernel
theorem dL_law_408 : decode cL_law 408 = .ok (.iconst 1, 1) := by decide +kernel
theorem dL_law_409 : decode cL_law 409 = .ok (.iadd, 1) := by decide +kernel
theorem dL_law_410 : decode cL_law 410 = .ok (.iaload, 1) := by decide +kernel
theorem dL_law_411 : decode cL_law 411 = .ok (.aload_n 0, 1) := by decide +kernel
theorem dL_law_412 : decode cL_law 412 = .ok (.iload_n 3, 1) := by decide +kernel
theorem dL_law_413 : decode cL_law 413 = .ok (.iconst 2, 1) := by decide +kernel
theorem dL_law_414 : decode cL_law 414 = .ok (.iadd, 1) := by decide +kernel
theorem dL_law_415 : decode cL_law 415 = .ok (.iaload, 1) := by decide +kernel
theorem dL_law_416 : decode cL_law 416 = .ok (.invokevirtual 48, 3) := by decide +kernel
theorem dL_law_419 : decode cL_law 419 = .ok (.pop, 1) := by decide +kernel
theorem dL_law_420 : decode cL_law 420 = .ok (.aload_n 2, 1) := by decide +kernel
theorem dL_law_421 : decode cL_law 421 = .ok (.aload_n 0, 1) := by decide +kernel
theorem dL_law_422 : decode cL_law 422 = .ok (.iload_n 3, 1) := by decide +kernel
theorem dL_law_423 : decode cL_law 423 = .ok (.iconst 1, 1) := by decide +kernel
theorem dL_law_424 : decode cL_law 424 = .ok (.iadd, 1) := by decide +kernel
theorem dL_law_425 : decode cL_law 425 = .ok (.iaload, 1) := by decide +kernel
theorem dL_law_426 : decode cL_law 426 = .ok (.aload_n 0, 1) := by decide +kernel
theorem dL_law_427 : decode cL_law 427 = .ok (.iload_n 3, 1) := by decide +kernel
theorem dL_law_428 : decode cL_law 428 = .ok (.iconst 2, 1) := by decide +kernel
theorem dL_law_429 : decode cL_law 429 = .ok (.iadd, 1) := by decide +kernel
theorem dL_law_430 : decode cL_law 430 = .ok (.iaload, 1) := by decide +kernel
theorem dL_law_431 : decode cL_law 431 = .ok (.invokevirtual 51, 3) := by decide +kernel
theorem dL_law_434 : decode cL_law 434 = .ok (.pop, 1) := by decide +kernel
theorem dL_law_435 : decode cL_law 435 = .ok (.goto 876, 3) := by decide +kernel
theorem dL_law_438 : decode cL_law 438 = .ok (.aload_n 1, 1) := by decide +kernel
theorem dL_law_439 : decode cL_law 439 = .ok (.invokevirtual 52, 3) := by decide +kernel
theorem dL_law_442 : decode cL_law 442 = .ok (.pop, 1) := by decide +kernel
theorem dL_law_443 : decode cL_law 443 = .ok (.aload_n 2, 1) := by decide +kernel
theorem dL_law_444 : decode cL_law 444 = .ok (.invokevirtual 55, 3) := by decide +kernel
theorem dL_law_447 : decode cL_law 447 = .ok (.pop, 1) := by decide +kernel
theorem dL_law_448 : decode cL_law 448 = .ok (.goto 863, 3) := by decide +kernel
theorem dL_law_451 : decode cL_law 451 = .ok (.aload_n 1, 1) := by decide +kernel
theorem dL_law_452 : decode cL_law 452 = .ok (.aload_n 0, 1) := by decide +kernel
theorem dL_law_453 : decode cL_law 453 = .ok (.iload_n 3, 1) := by decide +kernel
theorem dL_law_454 : decode cL_law 454 = .ok (.iconst 1, 1) := by decide +kernel
theorem dL_law_455 : decode cL_law 455 = .ok (.iadd, 1) := by decide +kernel
theorem dL_law_456 : decode cL_law 456 = .ok (.iaload, 1) := by decide +kernel
theorem dL_law_457 : decode cL_law 457 = .ok (.invokevirtual 56, 3) := by decide +kernel
theorem dL_law_460 : decode cL_law 460 = .ok (.pop, 1) := by decide +kernel
theorem dL_law_461 : decode cL_law 461 = .ok (.aload_n 2, 1) := by decide +kernel
theorem dL_law_462 : decode cL_law 462 = .ok (.aload_n 0, 1) := by decide +kernel
theorem dL_law_463 : decode cL_law 463 = .ok (.iload_n 3, 1) := by decide +kernel
theorem dL_law_464 : decode cL_law 464 = .ok (.iconst 1, 1) := by decide +kernel
theorem dL_law_465 : decode cL_law 465 = .ok (.iadd, 1) := by decide +kernel
theorem dL_law_466 : decode cL_law 466 = .ok (.iaload, 1) := by decide +kernel
theorem dL_law_467 : decode cL_law 467 = .ok (.invokevirtual 59, 3) := by decide +kernel
theorem dL_law_470 : decode cL_law 470 = .ok (.pop, 1) := by decide +kernel
theorem dL_law_471 : decode cL_law 471 = .ok (.goto 840, 3) := by decide +kernel
theorem dL_law_474 : decode cL_law 474 = .ok (.aload_n 1, 1) := by decide +kernel
theorem dL_law_475 : decode cL_law 475 = .ok (.aload_n 0, 1) := by decide +kernel
theorem dL_law_476 : decode cL_law 476 = .ok (.iload_n 3, 1) := by decide +kernel
theorem dL_law_477 : decode cL_law 477 = .ok (.iconst 1, 1) := by decide +kernel
theorem dL_law_478 : decode cL_law 478 = .ok (.iadd, 1) := by decide +kernel
theorem dL_law_479 : decode cL_law 479 = .ok (.iaload, 1) := by decide +kernel
theorem dL_law_480 : decode cL_law 480 = .ok (.invokevirtual 60, 3) := by decide +kernel
theorem dL_law_483 : decode cL_law 483 = .ok (.pop, 1) := by decide +kernel
theorem dL_law_484 : decode cL_law 484 = .ok (.aload_n 2, 1) := by decide +kernel
theorem dL_law_485 : decode cL_law 485 = .ok (.aload_n 0, 1) := by decide +kernel
theorem dL_law_486 : decode cL_law 486 = .ok (.iload_n 3, 1) := by decide +kernel
theorem dL_law_487 : decode cL_law 487 = .ok (.iconst 1, 1) := by decide +kernel
theorem dL_law_488 : decode cL_law 488 = .ok (.iadd, 1) := by decide +kernel
theorem dL_law_489 : decode cL_law 489 = .ok (.iaload, 1) := by decide +kernel
theorem dL_law_490 : decode cL_law 490 = .ok (.invokevirtual 63, 3) := by decide +kernel
theorem dL_law_493 : decode cL_law 493 = .ok (.pop, 1) := by decide +kernel
theorem dL_law_494 : decode cL_law 494 = .ok (.goto 817, 3) := by decide +kernel
theorem dL_law_497 : decode cL_law 497 = .ok (.aload_n 1, 1) := by decide +kernel
theorem dL_law_498 : decode cL_law 498 = .ok (.aload_n 0, 1) := by decide +kernel
theorem dL_law_499 : decode cL_law 499 = .ok (.iload_n 3, 1) := by decide +kernel
theorem dL_law_500 : decode cL_law 500 = .ok (.iconst 1, 1) := by decide +kernel
theorem dL_law_501 : decode cL_law 501 = .ok (.iadd, 1) := by decide +kernel
theorem dL_law_502 : decode cL_law 502 = .ok (.iaload, 1) := by decide +kernel
theorem dL_law_503 : decode cL_law 503 = .ok (.invokevirtual 64, 3) := by decide +kernel
theorem dL_law_506 : decode cL_law 506 = .ok (.pop, 1) := by decide +kernel
theorem dL_law_507 : decode cL_law 507 = .ok (.aload_n 2, 1) := by decide +kernel
theorem dL_law_508 : decode cL_law 508 = .ok (.aload_n 0, 1) := by decide +kernel
theorem dL_law_509 : decode cL_law 509 = .ok (.iload_n 3, 1) := by decide +kernel
theorem dL_law_510 : decode cL_law 510 = .ok (.iconst 1, 1) := by decide +kernel
theorem dL_law_511 : decode cL_law 511 = .ok (.iadd, 1) := by decide +kernel
theorem dL_law_512 : decode cL_law 512 = .ok (.iaload, 1) := by decide +kernel
theorem dL_law_513 : decode cL_law 513 = .ok (.invokevirtual 67, 3) := by decide +kernel
theorem dL_law_516 : decode cL_law 516 = .ok (.pop, 1) := by decide +kernel
theorem dL_law_517 : decode cL_law 517 = .ok (.goto 794, 3) := by decide +kernel
theorem dL_law_520 : decode cL_law 520 = .ok (.aload_n 1, 1) := by decide +kernel
theorem dL_law_521 : decode cL_law 521 = .ok (.aload_n 0, 1) := by decide +kernel
theorem dL_law_522 : decode cL_law 522 = .ok (.iload_n 3, 1) := by decide +kernel
theorem dL_law_523 : decode cL_law 523 = .ok (.iconst 1, 1) := by decide +kernel
theorem dL_law_524 : decode cL_law 524 = .ok (.iadd, 1) := by decide +kernel
theorem dL_law_525 : decode cL_law 525 = .ok (.iaload, 1) := by decide +kernel
theorem dL_law_526 : decode cL_law 526 = .ok (.invokevirtual 68, 3) := by decide +kernel
theorem dL_law_529 : decode cL_law 529 = .ok (.pop, 1) := by decide +kernel
theorem dL_law_530 : decode cL_law 530 = .ok (.aload_n 2, 1) := by decide +kernel
theorem dL_law_531 : decode cL_law 531 = .ok (.aload_n 0, 1) := by decide +kernel
theorem dL_law_532 : decode cL_law 532 = .ok (.iload_n 3, 1) := by decide +kernel
theorem dL_law_533 : decode cL_law 533 = .ok (.iconst 1, 1) := by decide +kernel
theorem dL_law_534 : decode cL_law 534 = .ok (.iadd, 1) := by decide +kernel
theorem dL_law_535 : decode cL_law 535 = .ok (.iaload, 1) := by decide +kernel
theorem dL_law_536 : decode cL_law 536 = .ok (.invokevirtual 71, 3) := by decide +kernel
theorem dL_law_539 : decode cL_law 539 = .ok (.pop, 1) := by decide +kernel
theorem dL_law_540 : decode cL_law 540 = .ok (.goto 771, 3) := by decide +kernel
theorem dL_law_543 : decode cL_law 543 = .ok (.aload_n 1, 1) := by decide +kernel
theorem dL_law_544 : decode cL_law 544 = .ok (.aload_n 0, 1) := by decide +kernel
theorem dL_law_545 : decode cL_law 545 = .ok (.iload_n 3, 1) := by decide +kernel
theorem dL_law_546 : decode cL_law 546 = .ok (.iconst 1, 1) := by decide +kernel
theorem dL_law_547 : decode cL_law 547 = .ok (.iadd, 1) := by decide +kernel
theorem dL_law_548 : decode cL_law 548 = .ok (.iaload, 1) := by decide +kernel
theorem dL_law_549 : decode cL_law 549 = .ok (.aload_n 0, 1) := by decide +kernel
theorem dL_law_550 : decode cL_law 550 = .ok (.iload_n 3, 1) := by decide +kernel
theorem dL_law_551 : decode cL_law 551 = .ok (.iconst 2, 1) := by decide +kernel
theorem dL_law_552 : decode cL_law 552 = .ok (.iadd, 1) := by decide +kernel
theorem dL_law_553 : decode cL_law 553 = .ok (.iaload, 1) := by decide +kernel
theorem dL_law_554 : decode cL_law 554 = .ok (.invokevirtual 72, 3) := by decide +kernel
theorem dL_law_557 : decode cL_law 557 = .ok (.pop, 1) := by decide +kernel
theorem dL_law_558 : decode cL_law 558 = .ok (.aload_n 2, 1) := by decide +kernel
theorem dL_law_559 : decode cL_law 559 = .ok (.aload_n 0, 1) := by decide +kernel
theorem dL_law_560 : decode cL_law 560 = .ok (.iload_n 3, 1) := by decide +kernel
theorem dL_law_561 : decode cL_law 561 = .ok (.iconst 1, 1) := by decide +kernel
theorem dL_law_562 : decode cL_law 562 = .ok (.iadd, 1) := by decide +kernel
theorem dL_law_563 : decode cL_law 563 = .ok (.iaload, 1) := by decide +kernel
theorem dL_law_564 : decode cL_law 564 = .ok (.aload_n 0, 1) := by decide +kernel
theorem dL_law_565 : decode cL_law 565 = .ok (.iload_n 3, 1) := by decide +kernel
theorem dL_law_566 : decode cL_law 566 = .ok (.iconst 2, 1) := by decide +kernel
theorem dL_law_567 : decode cL_law 567 = .ok (.iadd, 1) := by decide +kernel
theorem dL_law_568 : decode cL_law 568 = .ok (.iaload, 1) := by decide +kernel
theorem dL_law_569 : decode cL_law 569 = .ok (.invokevirtual 75, 3) := by decide +kernel
theorem dL_law_572 : decode cL_law 572 = .ok (.pop, 1) := by decide +kernel
theorem dL_law_573 : decode cL_law 573 = .ok (.goto 738, 3) := by decide +kernel
theorem dL_law_576 : decode cL_law 576 = .ok (.aload_n 1, 1) := by decide +kernel
theorem dL_law_577 : decode cL_law 577 = .ok (.aload_n 0, 1) := by decide +kernel
theorem dL_law_578 : decode cL_law 578 = .ok (.iload_n 3, 1) := by decide +kernel
theorem dL_law_579 : decode cL_law 579 = .ok (.iconst 1, 1) := by decide +kernel
theorem dL_law_580 : decode cL_law 580 = .ok (.iadd, 1) := by decide +kernel
theorem dL_law_581 : decode cL_law 581 = .ok (.iaload, 1) := by decide +kernel
theorem dL_law_582 : decode cL_law 582 = .ok (.aload_n 0, 1) := by decide +kernel
theorem dL_law_583 : decode cL_law 583 = .ok (.iload_n 3, 1) := by decide +kernel
theorem dL_law_584 : decode cL_law 584 = .ok (.iconst 2, 1) := by decide +kernel
theorem dL_law_585 : decode cL_law 585 = .ok (.iadd, 1) := by decide +kernel
theorem dL_law_586 : decode cL_law 586 = .ok (.iaload, 1) := by decide +kernel
theorem dL_law_587 : decode cL_law 587 = .ok (.invokevirtual 76, 3) := by decide +kernel
theorem dL_law_590 : decode cL_law 590 = .ok (.pop, 1) := by decide +kernel
theorem dL_law_591 : decode cL_law 591 = .ok (.aload_n 2, 1) := by decide +kernel
theorem dL_law_592 : decode cL_law 592 = .ok (.aload_n 0, 1) := by decide +kernel
theorem dL_law_593 : decode cL_law 593 = .ok (.iload_n 3, 1) := by decide +kernel
theorem dL_law_594 : decode cL_law 594 = .ok (.iconst 1, 1) := by decide +kernel
theorem dL_law_595 : decode cL_law 595 = .ok (.iadd, 1) := by decide +kernel
theorem dL_law_596 : decode cL_law 596 = .ok (.iaload, 1) := by decide +kernel
theorem dL_law_597 : decode cL_law 597 = .ok (.aload_n 0, 1) := by decide +kernel
theorem dL_law_598 : decode cL_law 598 = .ok (.iload_n 3, 1) := by decide +kernel
theorem dL_law_599 : decode cL_law 599 = .ok (.iconst 2, 1) := by decide +kernel
theorem dL_law_600 : decode cL_law 600 = .ok (.iadd, 1) := by decide +kernel
theorem dL_law_601 : decode cL_law 601 = .ok (.iaload, 1) := by decide +kernel
theorem dL_law_602 : decode cL_law 602 = .ok (.invokevirtual 79, 3) := by decide +kernel
theorem dL_law_605 : decode cL_law 605 = .ok (.pop, 1) := by decide +kernel
theorem dL_law_606 : decode cL_law 606 = .ok (.goto 705, 3) := by decide +kernel
theorem dL_law_609 : decode cL_law 609 = .ok (.aload_n 1, 1) := by decide +kernel
theorem dL_law_610 : decode cL_law 610 = .ok (.aload_n 0, 1) := by decide +kernel
theorem dL_law_611 : decode cL_law 611 = .ok (.iload_n 3, 1) := by decide +kernel
theorem dL_law_612 : decode cL_law 612 = .ok (.iconst 1, 1) := by decide +kernel
theorem dL_law_613 : decode cL_law 613 = .ok (.iadd, 1) := by decide +kernel
theorem dL_law_614 : decode cL_law 614 = .ok (.iaload, 1) := by decide +kernel
theorem dL_law_615 : decode cL_law 615 = .ok (.invokevirtual 80, 3) := by decide +kernel
theorem dL_law_618 : decode cL_law 618 = .ok (.pop, 1) := by decide +kernel
theorem dL_law_619 : decode cL_law 619 = .ok (.aload_n 2, 1) := by decide +kernel
theorem dL_law_620 : decode cL_law 620 = .ok (.aload_n 0, 1) := by decide +kernel
theorem dL_law_621 : decode cL_law 621 = .ok (.iload_n 3, 1) := by decide +kernel
theorem dL_law_622 : decode cL_law 622 = .ok (.iconst 1, 1) := by decide +kernel
theorem dL_law_623 : decode cL_law 623 = .ok (.iadd, 1) := by decide +kernel
theorem dL_law_624 : decode cL_law 624 = .ok (.iaload, 1) := by decide +kernel
theorem dL_law_625 : decode cL_law 625 = .ok (.invokevirtual 83, 3) := by decide +kernel
theorem dL_law_628 : decode cL_law 628 = .ok (.pop, 1) := by decide +kernel
theorem dL_law_629 : decode cL_law 629 = .ok (.goto 682, 3) := by decide +kernel
theorem dL_law_632 : decode cL_law 632 = .ok (.aload_n 1, 1) := by decide +kernel
theorem dL_law_633 : decode cL_law 633 = .ok (.aload_n 0, 1) := by decide +kernel
theorem dL_law_634 : decode cL_law 634 = .ok (.iload_n 3, 1) := by decide +kernel
theorem dL_law_635 : decode cL_law 635 = .ok (.iconst 1, 1) := by decide +kernel
theorem dL_law_636 : decode cL_law 636 = .ok (.iadd, 1) := by decide +kernel
theorem dL_law_637 : decode cL_law 637 = .ok (.iaload, 1) := by decide +kernel
theorem dL_law_638 : decode cL_law 638 = .ok (.aload_n 0, 1) := by decide +kernel
theorem dL_law_639 : decode cL_law 639 = .ok (.iload_n 3, 1) := by decide +kernel
theorem dL_law_640 : decode cL_law 640 = .ok (.iconst 2, 1) := by decide +kernel
theorem dL_law_641 : decode cL_law 641 = .ok (.iadd, 1) := by decide +kernel
theorem dL_law_642 : decode cL_law 642 = .ok (.iaload, 1) := by decide +kernel
theorem dL_law_643 : decode cL_law 643 = .ok (.aload_n 0, 1) := by decide +kernel
theorem dL_law_644 : decode cL_law 644 = .ok (.iload_n 3, 1) := by decide +kernel
theorem dL_law_645 : decode cL_law 645 = .ok (.iconst 3, 1) := by decide +kernel
theorem dL_law_646 : decode cL_law 646 = .ok (.iadd, 1) := by decide +kernel
theorem dL_law_647 : decode cL_law 647 = .ok (.iaload, 1) := by decide +kernel
theorem dL_law_648 : decode cL_law 648 = .ok (.invokevirtual 84, 3) := by decide +kernel
theorem dL_law_651 : decode cL_law 651 = .ok (.pop, 1) := by decide +kernel
theorem dL_law_652 : decode cL_law 652 = .ok (.aload_n 2, 1) := by decide +kernel
theorem dL_law_653 : decode cL_law 653 = .ok (.aload_n 0, 1) := by decide +kernel
theorem dL_law_654 : decode cL_law 654 = .ok (.iload_n 3, 1) := by decide +kernel
theorem dL_law_655 : decode cL_law 655 = .ok (.iconst 1, 1) := by decide +kernel
theorem dL_law_656 : decode cL_law 656 = .ok (.iadd, 1) := by decide +kernel
theorem dL_law_657 : decode cL_law 657 = .ok (.iaload, 1) := by decide +kernel
theorem dL_law_658 : decode cL_law 658 = .ok (.aload_n 0, 1) := by decide +kernel
theorem dL_law_659 : decode cL_law 659 = .ok (.iload_n 3, 1) := by decide +kernel
theorem dL_law_660 : decode cL_law 660 = .ok (.iconst 2, 1) := by decide +kernel
theorem dL_law_661 : decode cL_law 661 = .ok (.iadd, 1) := by decide +kernel
theorem dL_law_662 : decode cL_law 662 = .ok (.iaload, 1) := by decide +kernel
theorem dL_law_663 : decode cL_law 663 = .ok (.aload_n 0, 1) := by decide +kernel
theorem dL_law_664 : decode cL_law 664 = .ok (.iload_n 3, 1) := by decide +kernel
theorem dL_law_665 : decode cL_law 665 = .ok (.iconst 3, 1) := by decide +kernel
theorem dL_law_666 : decode cL_law 666 = .ok (.iadd, 1) := by decide +kernel
theorem dL_law_667 : decode cL_law 667 = .ok (.iaload, 1) := by decide +kernel
theorem dL_law_668 : decode cL_law 668 = .ok (.invokevirtual 87, 3) := by decide +kernel
theorem dL_law_671 : decode cL_law 671 = .ok (.pop, 1) := by decide +kernel
theorem dL_law_672 : decode cL_law 672 = .ok (.goto 639, 3) := by decide +kernel
theorem dL_law_675 : decode cL_law 675 = .ok (.aload_n 1, 1) := by decide +kernel
theorem dL_law_676 : decode cL_law 676 = .ok (.aload_n 0, 1) := by decide +kernel
theorem dL_law_677 : decode cL_law 677 = .ok (.iload_n 3, 1) := by decide +kernel
theorem dL_law_678 : decode cL_law 678 = .ok (.iconst 1, 1) := by decide +kernel
theorem dL_law_679 : decode cL_law 679 = .ok (.iadd, 1) := by decide +kernel
theorem dL_law_680 : decode cL_law 680 = .ok (.iaload, 1) := by decide +kernel
theorem dL_law_681 : decode cL_law 681 = .ok (.aload_n 0, 1) := by decide +kernel
theorem dL_law_682 : decode cL_law 682 = .ok (.iload_n 3, 1) := by decide +kernel
theorem dL_law_683 : decode cL_law 683 = .ok (.iconst 2, 1) := by decide +kernel
theorem dL_law_684 : decode cL_law 684 = .ok (.iadd, 1) := by decide +kernel
theorem dL_law_685 : decode cL_law 685 = .ok (.iaload, 1) := by decide +kernel
theorem dL_law_686 : decode cL_law 686 = .ok (.invokevirtual 88, 3) := by decide +kernel
theorem dL_law_689 : decode cL_law 689 = .ok (.pop, 1) := by decide +kernel
theorem dL_law_690 : decode cL_law 690 = .ok (.aload_n 2, 1) := by decide +kernel
theorem dL_law_691 : decode cL_law 691 = .ok (.aload_n 0, 1) := by decide +kernel
theorem dL_law_692 : decode cL_law 692 = .ok (.iload_n 3, 1) := by decide +kernel
theorem dL_law_693 : decode cL_law 693 = .ok (.iconst 1, 1) := by decide +kernel
theorem dL_law_694 : decode cL_law 694 = .ok (.iadd, 1) := by decide +kernel
theorem dL_law_695 : decode cL_law 695 = .ok (.iaload, 1) := by decide +kernel
theorem dL_law_696 : decode cL_law 696 = .ok (.aload_n 0, 1) := by decide +kernel
theorem dL_law_697 : decode cL_law 697 = .ok (.iload_n 3, 1) := by decide +kernel
theorem dL_law_698 : decode cL_law 698 = .ok (.iconst 2, 1) := by decide +kernel
theorem dL_law_699 : decode cL_law 699 = .ok (.iadd, 1) := by decide +kernel
theorem dL_law_700 : decode cL_law 700 = .ok (.iaload, 1) := by decide +kernel
theorem dL_law_701 : decode cL_law 701 = .ok (.invokevirtual 91, 3) := by decide +kernel
theorem dL_law_704 : decode cL_law 704 = .ok (.pop, 1) := by decide +kernel
theorem dL_law_705 : decode cL_law 705 = .ok (.goto 606, 3) := by decide +kernel
theorem dL_law_708 : decode cL_law 708 = .ok (.aload_n 1, 1) := by decide +kernel
theorem dL_law_709 : decode cL_law 709 = .ok (.invokevirtual 92, 3) := by decide +kernel
theorem dL_law_712 : decode cL_law 712 = .ok (.pop, 1) := by decide +kernel
theorem dL_law_713 : decode cL_law 713 = .ok (.aload_n 2, 1) := by decide +kernel
theorem dL_law_714 : decode cL_law 714 = .ok (.invokevirtual 95, 3) := by decide +kernel
theorem dL_law_717 : decode cL_law 717 = .ok (.pop, 1) := by decide +kernel
theorem dL_law_718 : decode cL_law 718 = .ok (.goto 593, 3) := by decide +kernel
theorem dL_law_721 : decode cL_law 721 = .ok (.aload_n 1, 1) := by decide +kernel
theorem dL_law_722 : decode cL_law 722 = .ok (.aload_n 0, 1) := by decide +kernel
theorem dL_law_723 : decode cL_law 723 = .ok (.iload_n 3, 1) := by decide +kernel
theorem dL_law_724 : decode cL_law 724 = .ok (.iconst 1, 1) := by decide +kernel
theorem dL_law_725 : decode cL_law 725 = .ok (.iadd, 1) := by decide +kernel
theorem dL_law_726 : decode cL_law 726 = .ok (.iaload, 1) := by decide +kernel
theorem dL_law_727 : decode cL_law 727 = .ok (.invokevirtual 96, 3) := by decide +kernel
theorem dL_law_730 : decode cL_law 730 = .ok (.pop, 1) := by decide +kernel
theorem dL_law_731 : decode cL_law 731 = .ok (.aload_n 2, 1) := by decide +kernel
theorem dL_law_732 : decode cL_law 732 = .ok (.aload_n 0, 1) := by decide +kernel
theorem dL_law_733 : decode cL_law 733 = .ok (.iload_n 3, 1) := by decide +kernel
theorem dL_law_734 : decode cL_law 734 = .ok (.iconst 1, 1) := by decide +kernel
theorem dL_law_735 : decode cL_law 735 = .ok (.iadd, 1) := by decide +kernel
theorem dL_law_736 : decode cL_law 736 = .ok (.iaload, 1) := by decide +kernel
theorem dL_law_737 : decode cL_law 737 = .ok (.invokevirtual 99, 3) := by decide +kernel
theorem dL_law_740 : decode cL_law 740 = .ok (.pop, 1) := by decide +kernel
theorem dL_law_741 : decode cL_law 741 = .ok (.goto 570, 3) := by decide +kernel
theorem dL_law_744 : decode cL_law 744 = .ok (.aload_n 1, 1) := by decide +kernel
theorem dL_law_745 : decode cL_law 745 = .ok (.aload_n 0, 1) := by decide +kernel
theorem dL_law_746 : decode cL_law 746 = .ok (.iload_n 3, 1) := by decide +kernel
theorem dL_law_747 : decode cL_law 747 = .ok (.iconst 1, 1) := by decide +kernel
theorem dL_law_748 : decode cL_law 748 = .ok (.iadd, 1) := by decide +kernel
theorem dL_law_749 : decode cL_law 749 = .ok (.iaload, 1) := by decide +kernel
theorem dL_law_750 : decode cL_law 750 = .ok (.invokevirtual 100, 3) := by decide +kernel
theorem dL_law_753 : decode cL_law 753 = .ok (.pop, 1) := by decide +kernel
theorem dL_law_754 : decode cL_law 754 = .ok (.aload_n 2, 1) := by decide +kernel
theorem dL_law_755 : decode cL_law 755 = .ok (.aload_n 0, 1) := by decide +kernel
theorem dL_law_756 : decode cL_law 756 = .ok (.iload_n 3, 1) := by decide +kernel
theorem dL_law_757 : decode cL_law 757 = .ok (.iconst 1, 1) := by decide +kernel
theorem dL_law_758 : decode cL_law 758 = .ok (.iadd, 1) := by decide +kernel
theorem dL_law_759 : decode cL_law 759 = .ok (.iaload, 1) := by decide +kernel
theorem dL_law_760 : decode cL_law 760 = .ok (.invokevirtual 103, 3) := by decide +kernel
theorem dL_law_763 : decode cL_law 763 = .ok (.pop, 1) := by decide +kernel
theorem dL_law_764 : decode cL_law 764 = .ok (.goto 547, 3) := by decide +kernel
theorem dL_law_767 : decode cL_law 767 = .ok (.aload_n 1, 1) := by decide +kernel
theorem dL_law_768 : decode cL_law 768 = .ok (.aload_n 0, 1) := by decide +kernel
theorem dL_law_769 : decode cL_law 769 = .ok (.iload_n 3, 1) := by decide +kernel
theorem dL_law_770 : decode cL_law 770 = .ok (.iconst 1, 1) := by decide +kernel
theorem dL_law_771 : decode cL_law 771 = .ok (.iadd, 1) := by decide +kernel
theorem dL_law_772 : decode cL_law 772 = .ok (.iaload, 1) := by decide +kernel
theorem dL_law_773 : decode cL_law 773 = .ok (.invokevirtual 104, 3) := by decide +kernel
theorem dL_law_776 : decode cL_law 776 = .ok (.pop, 1) := by decide +kernel
theorem dL_law_777 : decode cL_law 777 = .ok (.aload_n 2, 1) := by decide +kernel
theorem dL_law_778 : decode cL_law 778 = .ok (.aload_n 0, 1) := by decide +kernel
theorem dL_law_779 : decode cL_law 779 = .ok (.iload_n 3, 1) := by decide +kernel
theorem dL_law_780 : decode cL_law 780 = .ok (.iconst 1, 1) := by decide +kernel
theorem dL_law_781 : decode cL_law 781 = .ok (.iadd, 1) := by decide +kernel
theorem dL_law_782 : decode cL_law 782 = .ok (.iaload, 1) := by decide +kernel
theorem dL_law_783 : decode cL_law 783 = .ok (.invokevirtual 107, 3) := by decide +kernel
theorem dL_law_786 : decode cL_law 786 = .ok (.pop, 1) := by decide +kernel
theorem dL_law_787 : decode cL_law 787 = .ok (.goto 524, 3) := by decide +kernel
theorem dL_law_790 : decode cL_law 790 = .ok (.aload_n 1, 1) := by decide +kernel
theorem dL_law_791 : decode cL_law 791 = .ok (.aload_n 0, 1) := by decide +kernel
theorem dL_law_792 : decode cL_law 792 = .ok (.iload_n 3, 1) := by decide +kernel
theorem dL_law_793 : decode cL_law 793 = .ok (.iconst 1, 1) := by decide +kernel
theorem dL_law_794 : decode cL_law 794 = .ok (.iadd, 1) := by decide +kernel
theorem dL_law_795 : decode cL_law 795 = .ok (.iaload, 1) := by decide +kernel
theorem dL_law_796 : decode cL_law 796 = .ok (.invokevirtual 108, 3) := by decide +kernel
theorem dL_law_799 : decode cL_law 799 = .ok (.pop, 1) := by decide +kernel
theorem dL_law_800 : decode cL_law 800 = .ok (.aload_n 2, 1) := by decide +kernel
theorem dL_law_801 : decode cL_law 801 = .ok (.aload_n 0, 1) := by decide +kernel
theorem dL_law_802 : decode cL_law 802 = .ok (.iload_n 3, 1) := by decide +kernel
theorem dL_law_803 : decode cL_law 803 = .ok (.iconst 1, 1) := by decide +kernel
theorem dL_law_804 : decode cL_law 804 = .ok (.iadd, 1) := by decide +kernel
theorem dL_law_805 : decode cL_law 805 = .ok (.iaload, 1) := by decide +kernel
theorem dL_law_806 : decode cL_law 806 = .ok (.invokevirtual 111, 3) := by decide +kernel
theorem dL_law_809 : decode cL_law 809 = .ok (.pop, 1) := by decide +kernel
theorem dL_law_810 : decode cL_law 810 = .ok (.goto 501, 3) := by decide +kernel
theorem dL_law_813 : decode cL_law 813 = .ok (.aload_n 1, 1) := by decide +kernel
theorem dL_law_814 : decode cL_law 814 = .ok (.invokevirtual 112, 3) := by decide +kernel
theorem dL_law_817 : decode cL_law 817 = .ok (.pop, 1) := by decide +kernel
theorem dL_law_818 : decode cL_law 818 = .ok (.aload_n 2, 1) := by decide +kernel
theorem dL_law_819 : decode cL_law 819 = .ok (.invokevirtual 115, 3) := by decide +kernel
theorem dL_law_822 : decode cL_law 822 = .ok (.pop, 1) := by decide +kernel
theorem dL_law_823 : decode cL_law 823 = .ok (.goto 488, 3) := by decide +kernel
theorem dL_law_826 : decode cL_law 826 = .ok (.aload_n 1, 1) := by decide +kernel
theorem dL_law_827 : decode cL_law 827 = .ok (.aload_n 0, 1) := by decide +kernel
theorem dL_law_828 : decode cL_law 828 = .ok (.iload_n 3, 1) := by decide +kernel
theorem dL_law_829 : decode cL_law 829 = .ok (.iconst 1, 1) := by decide +kernel
theorem dL_law_830 : decode cL_law 830 = .ok (.iadd, 1) := by decide +kernel
theorem dL_law_831 : decode cL_law 831 = .ok (.iaload, 1) := by decide +kernel
theorem dL_law_832 : decode cL_law 832 = .ok (.aload_n 0, 1) := by decide +kernel
theorem dL_law_833 : decode cL_law 833 = .ok (.iload_n 3, 1) := by decide +kernel
theorem dL_law_834 : decode cL_law 834 = .ok (.iconst 2, 1) := by decide +kernel
theorem dL_law_835 : decode cL_law 835 = .ok (.iadd, 1) := by decide +kernel
theorem dL_law_836 : decode cL_law 836 = .ok (.iaload, 1) := by decide +kernel
theorem dL_law_837 : decode cL_law 837 = .ok (.invokevirtual 116, 3) := by decide +kernel
theorem dL_law_840 : decode cL_law 840 = .ok (.pop, 1) := by decide +kernel
theorem dL_law_841 : decode cL_law 841 = .ok (.aload_n 2, 1) := by decide +kernel
theorem dL_law_842 : decode cL_law 842 = .ok (.aload_n 0, 1) := by decide +kernel
theorem dL_law_843 : decode cL_law 843 = .ok (.iload_n 3, 1) := by decide +kernel
theorem dL_law_844 : decode cL_law 844 = .ok (.iconst 1, 1) := by decide +kernel
theorem dL_law_845 : decode cL_law 845 = .ok (.iadd, 1) := by decide +kernel
theorem dL_law_846 : decode cL_law 846 = .ok (.iaload, 1) := by decide +kernel
theorem dL_law_847 : decode cL_law 847 = .ok (.aload_n 0, 1) := by decide +kernel
theorem dL_law_848 : decode cL_law 848 = .ok (.iload_n 3, 1) := by decide +kernel
theorem dL_law_849 : decode cL_law 849 = .ok (.iconst 2, 1) := by decide +kernel
theorem dL_law_850 : decode cL_law 850 = .ok (.iadd, 1) := by decide +kernel
theorem dL_law_851 : decode cL_law 851 = .ok (.iaload, 1) := by decide +kernel
theorem dL_law_852 : decode cL_law 852 = .ok (.invokevirtual 119, 3) := by decide +kernel
theorem dL_law_855 : decode cL_law 855 = .ok (.pop, 1) := by decide +kernel
theorem dL_law_856 : decode cL_law 856 = .ok (.goto 455, 3) := by decide +kernel
theorem dL_law_859 : decode cL_law 859 = .ok (.aload_n 1, 1) := by decide +kernel
theorem dL_law_860 : decode cL_law 860 = .ok (.aload_n 0, 1) := by decide +kernel
theorem dL_law_861 : decode cL_law 861 = .ok (.iload_n 3, 1) := by decide +kernel
theorem dL_law_862 : decode cL_law 862 = .ok (.iconst 1, 1) := by decide +kernel
theorem dL_law_863 : decode cL_law 863 = .ok (.iadd, 1) := by decide +kernel
theorem dL_law_864 : decode cL_law 864 = .ok (.iaload, 1) := by decide +kernel
theorem dL_law_865 : decode cL_law 865 = .ok (.invokevirtual 120, 3) := by decide +kernel
theorem dL_law_868 : decode cL_law 868 = .ok (.pop, 1) := by decide +kernel
theorem dL_law_869 : decode cL_law 869 = .ok (.aload_n 2, 1) := by decide +kernel
theorem dL_law_870 : decode cL_law 870 = .ok (.aload_n 0, 1) := by decide +kernel
theorem dL_law_871 : decode cL_law 871 = .ok (.iload_n 3, 1) := by decide +kernel
theorem dL_law_872 : decode cL_law 872 = .ok (.iconst 1, 1) := by decide +kernel
theorem dL_law_873 : decode cL_law 873 = .ok (.iadd, 1) := by decide +kernel
theorem dL_law_874 : decode cL_law 874 = .ok (.iaload, 1) := by decide +kernel
theorem dL_law_875 : decode cL_law 875 = .ok (.invokevirtual 123, 3) := by decide +kernel
theorem dL_law_878 : decode cL_law 878 = .ok (.pop, 1) := by decide +kernel
theorem dL_law_879 : decode cL_law 879 = .ok (.goto 432, 3) := by decide +kernel
theorem dL_law_882 : decode cL_law 882 = .ok (.aload_n 1, 1) := by decide +kernel
theorem dL_law_883 : decode cL_law 883 = .ok (.invokevirtual 124, 3) := by decide +kernel
theorem dL_law_886 : decode cL_law 886 = .ok (.pop, 1) := by decide +kernel
theorem dL_law_887 : decode cL_law 887 = .ok (.aload_n 2, 1) := by decide +kernel
theorem dL_law_888 : decode cL_law 888 = .ok (.invokevirtual 127, 3) := by decide +kernel
theorem dL_law_891 : decode cL_law 891 = .ok (.pop, 1) := by decide +kernel
theorem dL_law_892 : decode cL_law 892 = .ok (.goto 419, 3) := by decide +kernel
theorem dL_law_895 : decode cL_law 895 = .ok (.aload_n 1, 1) := by decide +kernel
theorem dL_law_896 : decode cL_law 896 = .ok (.invokevirtual 128, 3) := by decide +kernel
theorem dL_law_899 : decode cL_law 899 = .ok (.pop, 1) := by decide +kernel
theorem dL_law_900 : decode cL_law 900 = .ok (.aload_n 2, 1) := by decide +kernel
theorem dL_law_901 : decode cL_law 901 = .ok (.invokevirtual 131, 3) := by decide +kernel
theorem dL_law_904 : decode cL_law 904 = .ok (.pop, 1) := by decide +kernel
theorem dL_law_905 : decode cL_law 905 = .ok (.goto 406, 3) := by decide +kernel
theorem dL_law_908 : decode cL_law 908 = .ok (.aload_n 1, 1) := by decide +kernel
theorem dL_law_909 : decode cL_law 909 = .ok (.aload_n 0, 1) := by decide +kernel
theorem dL_law_910 : decode cL_law 910 = .ok (.iload_n 3, 1) := by decide +kernel
theorem dL_law_911 : decode cL_law 911 = .ok (.iconst 1, 1) := by decide +kernel
theorem dL_law_912 : decode cL_law 912 = .ok (.iadd, 1) := by decide +kernel
theorem dL_law_913 : decode cL_law 913 = .ok (.iaload, 1) := by decide +kernel
theorem dL_law_914 : decode cL_law 914 = .ok (.invokevirtual 132, 3) := by decide +kernel
theorem dL_law_917 : decode cL_law 917 = .ok (.pop, 1) := by decide +kernel
theorem dL_law_918 : decode cL_law 918 = .ok (.aload_n 2, 1) := by decide +kernel
theorem dL_law_919 : decode cL_law 919 = .ok (.aload_n 0, 1) := by decide +kernel
theorem dL_law_920 : decode cL_law 920 = .ok (.iload_n 3, 1) := by decide +kernel
theorem dL_law_921 : decode cL_law 921 = .ok (.iconst 1, 1) := by decide +kernel
theorem dL_law_922 : decode cL_law 922 = .ok (.iadd, 1) := by decide +kernel
theorem dL_law_923 : decode cL_law 923 = .ok (.iaload, 1) := by decide +kernel
theorem dL_law_924 : decode cL_law 924 = .ok (.invokevirtual 135, 3) := by decide +kernel
theorem dL_law_927 : decode cL_law 927 = .ok (.pop, 1) := by decide +kernel
theorem dL_law_928 : decode cL_law 928 = .ok (.goto 383, 3) := by decide +kernel
theorem dL_law_931 : decode cL_law 931 = .ok (.aload_n 1, 1) := by decide +kernel
theorem dL_law_932 : decode cL_law 932 = .ok (.invokevirtual 136, 3) := by decide +kernel
theorem dL_law_935 : decode cL_law 935 = .ok (.pop, 1) := by decide +kernel
theorem dL_law_936 : decode cL_law 936 = .ok (.aload_n 2, 1) := by decide +kernel
theorem dL_law_937 : decode cL_law 937 = .ok (.invokevirtual 139, 3) := by decide +kernel
theorem dL_law_940 : decode cL_law 940 = .ok (.pop, 1) := by decide +kernel
theorem dL_law_941 : decode cL_law 941 = .ok (.goto 370, 3) := by decide +kernel
theorem dL_law_944 : decode cL_law 944 = .ok (.aload_n 1, 1) := by decide +kernel
theorem dL_law_945 : decode cL_law 945 = .ok (.aload_n 0, 1) := by decide +kernel
theorem dL_law_946 : decode cL_law 946 = .ok (.iload_n 3, 1) := by decide +kernel
theorem dL_law_947 : decode cL_law 947 = .ok (.iconst 1, 1) := by decide +kernel
theorem dL_law_948 : decode cL_law 948 = .ok (.iadd, 1) := by decide +kernel
theorem dL_law_949 : decode cL_law 949 = .ok (.iaload, 1) := by decide +kernel
theorem dL_law_950 : decode cL_law 950 = .ok (.aload_n 0, 1) := by decide +kernel
theorem dL_law_951 : decode cL_law 951 = .ok (.iload_n 3, 1) := by decide +kernel
theorem dL_law_952 : decode cL_law 952 = .ok (.iconst 2, 1) := by decide +kernel
theorem dL_law_953 : decode cL_law 953 = .ok (.iadd, 1) := by decide +kernel
theorem dL_law_954 : decode cL_law 954 = .ok (.iaload, 1) := by decide +kernel
theorem dL_law_955 : decode cL_law 955 = .ok (.aload_n 0, 1) := by decide +kernel
theorem dL_law_956 : decode cL_law 956 = .ok (.iload_n 3, 1) := by decide +kernel
theorem dL_law_957 : decode cL_law 957 = .ok (.iconst 3, 1) := by decide +kernel
theorem dL_law_958 : decode cL_law 958 = .ok (.iadd, 1) := by decide +kernel
theorem dL_law_959 : decode cL_law 959 = .ok (.iaload, 1) := by decide +kernel
theorem dL_law_960 : decode cL_law 960 = .ok (.invokevirtual 140, 3) := by decide +kernel
theorem dL_law_963 : decode cL_law 963 = .ok (.pop, 1) := by decide +kernel
theorem dL_law_964 : decode cL_law 964 = .ok (.aload_n 2, 1) := by decide +kernel
theorem dL_law_965 : decode cL_law 965 = .ok (.aload_n 0, 1) := by decide +kernel
theorem dL_law_966 : decode cL_law 966 = .ok (.iload_n 3, 1) := by decide +kernel
theorem dL_law_967 : decode cL_law 967 = .ok (.iconst 1, 1) := by decide +kernel
theorem dL_law_968 : decode cL_law 968 = .ok (.iadd, 1) := by decide +kernel
theorem dL_law_969 : decode cL_law 969 = .ok (.iaload, 1) := by decide +kernel
theorem dL_law_970 : decode cL_law 970 = .ok (.aload_n 0, 1) := by decide +kernel
theorem dL_law_971 : decode cL_law 971 = .ok (.iload_n 3, 1) := by decide +kernel
theorem dL_law_972 : decode cL_law 972 = .ok (.iconst 2, 1) := by decide +kernel
theorem dL_law_973 : decode cL_law 973 = .ok (.iadd, 1) := by decide +kernel
theorem dL_law_974 : decode cL_law 974 = .ok (.iaload, 1) := by decide +kernel
theorem dL_law_975 : decode cL_law 975 = .ok (.aload_n 0, 1) := by decide +kernel
theorem dL_law_976 : decode cL_law 976 = .ok (.iload_n 3, 1) := by decide +kernel
theorem dL_law_977 : decode cL_law 977 = .ok (.iconst 3, 1) := by decide +kernel
theorem dL_law_978 : decode cL_law 978 = .ok (.iadd, 1) := by decide +kernel
theorem dL_law_979 : decode cL_law 979 = .ok (.iaload, 1) := by decide +kernel
theorem dL_law_980 : decode cL_law 980 = .ok (.invokevirtual 143, 3) := by decide +kernel
theorem dL_law_983 : decode cL_law 983 = .ok (.pop, 1) := by decide +kernel
theorem dL_law_984 : decode cL_law 984 = .ok (.goto 327, 3) := by decide +kernel
theorem dL_law_987 : decode cL_law 987 = .ok (.aload_n 1, 1) := by decide +kernel
theorem dL_law_988 : decode cL_law 988 = .ok (.aload_n 0, 1) := by decide +kernel
theorem dL_law_989 : decode cL_law 989 = .ok (.iload_n 3, 1) := by decide +kernel
theorem dL_law_990 : decode cL_law 990 = .ok (.iconst 1, 1) := by decide +kernel
theorem dL_law_991 : decode cL_law 991 = .ok (.iadd, 1) := by decide +kernel
theorem dL_law_992 : decode cL_law 992 = .ok (.iaload, 1) := by decide +kernel
theorem dL_law_993 : decode cL_law 993 = .ok (.aload_n 0, 1) := by decide +kernel
theorem dL_law_994 : decode cL_law 994 = .ok (.iload_n 3, 1) := by decide +kernel
theorem dL_law_995 : decode cL_law 995 = .ok (.iconst 2, 1) := by decide +kernel
theorem dL_law_996 : decode cL_law 996 = .ok (.iadd, 1) := by decide +kernel
theorem dL_law_997 : decode cL_law 997 = .ok (.iaload, 1) := by decide +kernel
theorem dL_law_998 : decode cL_law 998 = .ok (.invokevirtual 144, 3) := by decide +kernel
theorem dL_law_1001 : decode cL_law 1001 = .ok (.pop, 1) := by decide +kernel
theorem dL_law_1002 : decode cL_law 1002 = .ok (.aload_n 2, 1) := by decide +kernel
theorem dL_law_1003 : decode cL_law 1003 = .ok (.aload_n 0, 1) := by decide +kernel
theorem dL_law_1004 : decode cL_law 1004 = .ok (.iload_n 3, 1) := by decide +kernel
theorem dL_law_1005 : decode cL_law 1005 = .ok (.iconst 1, 1) := by decide +kernel
theorem dL_law_1006 : decode cL_law 1006 = .ok (.iadd, 1) := by decide +kernel
theorem dL_law_1007 : decode cL_law 1007 = .ok (.iaload, 1) := by decide +kernel
theorem dL_law_1008 : decode cL_law 1008 = .ok (.aload_n 0, 1) := by decide +kernel
theorem dL_law_1009 : decode cL_law 1009 = .ok (.iload_n 3, 1) := by decide +kernel
theorem dL_law_1010 : decode cL_law 1010 = .ok (.iconst 2, 1) := by decide +kernel
theorem dL_law_1011 : decode cL_law 1011 = .ok (.iadd, 1) := by decide +kernel
theorem dL_law_1012 : decode cL_law 1012 = .ok (.iaload, 1) := by decide +kernel
theorem dL_law_1013 : decode cL_law 1013 = .ok (.invokevirtual 147, 3) := by decide +kernel
theorem dL_law_1016 : decode cL_law 1016 = .ok (.pop, 1) := by decide +kernel
theorem dL_law_1017 : decode cL_law 1017 = .ok (.goto 294, 3) := by decide +kernel
theorem dL_law_1020 : decode cL_law 1020 = .ok (.aload_n 1, 1) := by decide +kernel
theorem dL_law_1021 : decode cL_law 1021 = .ok (.aload_n 0, 1) := by decide +kernel
theorem dL_law_1022 : decode cL_law 1022 = .ok (.iload_n 3, 1) := by decide +kernel
theorem dL_law_1023 : decode cL_law 1023 = .ok (.iconst 1, 1) := by decide +kernel
theorem dL_law_1024 : decode cL_law 1024 = .ok (.iadd, 1) := by decide +kernel
theorem dL_law_1025 : decode cL_law 1025 = .ok (.iaload, 1) := by decide +kernel
theorem dL_law_1026 : decode cL_law 1026 = .ok (.invokevirtual 148, 3) := by decide +kernel
theorem dL_law_1029 : decode cL_law 1029 = .ok (.pop, 1) := by decide +kernel
theorem dL_law_1030 : decode cL_law 1030 = .ok (.aload_n 2, 1) := by decide +kernel
theorem dL_law_1031 : decode cL_law 1031 = .ok (.aload_n 0, 1) := by decide +kernel
theorem dL_law_1032 : decode cL_law 1032 = .ok (.iload_n 3, 1) := by decide +kernel
theorem dL_law_1033 : decode cL_law 1033 = .ok (.iconst 1, 1) := by decide +kernel
theorem dL_law_1034 : decode cL_law 1034 = .ok (.iadd, 1) := by decide +kernel
theorem dL_law_1035 : decode cL_law 1035 = .ok (.iaload, 1) := by decide +kernel
theorem dL_law_1036 : decode cL_law 1036 = .ok (.invokevirtual 151, 3) := by decide +kernel
theorem dL_law_1039 : decode cL_law 1039 = .ok (.pop, 1) := by decide +kernel
theorem dL_law_1040 : decode cL_law 1040 = .ok (.goto 271, 3) := by decide +kernel
theorem dL_law_1043 : decode cL_law 1043 = .ok (.aload_n 1, 1) := by decide +kernel
theorem dL_law_1044 : decode cL_law 1044 = .ok (.aload_n 0, 1) := by decide +kernel
theorem dL_law_1045 : decode cL_law 1045 = .ok (.iload_n 3, 1) := by decide +kernel
theorem dL_law_1046 : decode cL_law 1046 = .ok (.iconst 1, 1) := by decide +kernel
theorem dL_law_1047 : decode cL_law 1047 = .ok (.iadd, 1) := by decide +kernel
theorem dL_law_1048 : decode cL_law 1048 = .ok (.iaload, 1) := by decide +kernel
theorem dL_law_1049 : decode cL_law 1049 = .ok (.aload_n 0, 1) := by decide +kernel
theorem dL_law_1050 : decode cL_law 1050 = .ok (.iload_n 3, 1) := by decide +kernel
theorem dL_law_1051 : decode cL_law 1051 = .ok (.iconst 2, 1) := by decide +kernel
theorem dL_law_1052 : decode cL_law 1052 = .ok (.iadd, 1) := by decide +kernel
theorem dL_law_1053 : decode cL_law 1053 = .ok (.iaload, 1) := by decide +kernel
theorem dL_law_1054 : decode cL_law 1054 = .ok (.invokevirtual 152, 3) := by decide +kernel
theorem dL_law_1057 : decode cL_law 1057 = .ok (.pop, 1) := by decide +kernel
theorem dL_law_1058 : decode cL_law 1058 = .ok (.aload_n 2, 1) := by decide +kernel
theorem dL_law_1059 : decode cL_law 1059 = .ok (.aload_n 0, 1) := by decide +kernel
theorem dL_law_1060 : decode cL_law 1060 = .ok (.iload_n 3, 1) := by decide +kernel
theorem dL_law_1061 : decode cL_law 1061 = .ok (.iconst 1, 1) := by decide +kernel
theorem dL_law_1062 : decode cL_law 1062 = .ok (.iadd, 1) := by decide +kernel
theorem dL_law_1063 : decode cL_law 1063 = .ok (.iaload, 1) := by decide +kernel
theorem dL_law_1064 : decode cL_law 1064 = .ok (.aload_n 0, 1) := by decide +kernel
theorem dL_law_1065 : decode cL_law 1065 = .ok (.iload_n 3, 1) := by decide +kernel
theorem dL_law_1066 : decode cL_law 1066 = .ok (.iconst 2, 1) := by decide +kernel
theorem dL_law_1067 : decode cL_law 1067 = .ok (.iadd, 1) := by decide +kernel
theorem dL_law_1068 : decode cL_law 1068 = .ok (.iaload, 1) := by decide +kernel
theorem dL_law_1069 : decode cL_law 1069 = .ok (.invokevirtual 155, 3) := by decide +kernel
theorem dL_law_1072 : decode cL_law 1072 = .ok (.pop, 1) := by decide +kernel
theorem dL_law_1073 : decode cL_law 1073 = .ok (.goto 238, 3) := by decide +kernel
theorem dL_law_1076 : decode cL_law 1076 = .ok (.aload_n 1, 1) := by decide +kernel
theorem dL_law_1077 : decode cL_law 1077 = .ok (.aload_n 0, 1) := by decide +kernel
theorem dL_law_1078 : decode cL_law 1078 = .ok (.iload_n 3, 1) := by decide +kernel
theorem dL_law_1079 : decode cL_law 1079 = .ok (.iconst 1, 1) := by decide +kernel
theorem dL_law_1080 : decode cL_law 1080 = .ok (.iadd, 1) := by decide +kernel
theorem dL_law_1081 : decode cL_law 1081 = .ok (.iaload, 1) := by decide +kernel
theorem dL_law_1082 : decode cL_law 1082 = .ok (.aload_n 0, 1) := by decide +kernel
theorem dL_law_1083 : decode cL_law 1083 = .ok (.iload_n 3, 1) := by decide +kernel
theorem dL_law_1084 : decode cL_law 1084 = .ok (.iconst 2, 1) := by decide +kernel
theorem dL_law_1085 : decode cL_law 1085 = .ok (.iadd, 1) := by decide +kernel
theorem dL_law_1086 : decode cL_law 1086 = .ok (.iaload, 1) := by decide +kernel
theorem dL_law_1087 : decode cL_law 1087 = .ok (.aload_n 0, 1) := by decide +kernel
theorem dL_law_1088 : decode cL_law 1088 = .ok (.iload_n 3, 1) := by decide +kernel
theorem dL_law_1089 : decode cL_law 1089 = .ok (.iconst 3, 1) := by decide +kernel
theorem dL_law_1090 : decode cL_law 1090 = .ok (.iadd, 1) := by decide +kernel
theorem dL_law_1091 : decode cL_law 1091 = .ok (.iaload, 1) := by decide +kernel
theorem dL_law_1092 : decode cL_law 1092 = .ok (.aload_n 0, 1) := by decide +kernel
theorem dL_law_1093 : decode cL_law 1093 = .ok (.iload_n 3, 1) := by decide +kernel
theorem dL_law_1094 : decode cL_law 1094 = .ok (.iconst 4, 1) := by decide +kernel
theorem dL_law_1095 : decode cL_law 1095 = .ok (.iadd, 1) := by decide +kernel
theorem dL_law_1096 : decode cL_law 1096 = .ok (.iaload, 1) := by decide +kernel
theorem dL_law_1097 : decode cL_law 1097 = .ok (.invokevirtual 156, 3) := by decide +kernel
theorem dL_law_1100 : decode cL_law 1100 = .ok (.pop, 1) := by decide +kernel
theorem dL_law_1101 : decode cL_law 1101 = .ok (.aload_n 2, 1) := by decide +kernel
theorem dL_law_1102 : decode cL_law 1102 = .ok (.aload_n 0, 1) := by decide +kernel
theorem dL_law_1103 : decode cL_law 1103 = .ok (.iload_n 3, 1) := by decide +kernel
theorem dL_law_1104 : decode cL_law 1104 = .ok (.iconst 1, 1) := by decide +kernel
theorem dL_law_1105 : decode cL_law 1105 = .ok (.iadd, 1) := by decide +kernel
theorem dL_law_1106 : decode cL_law 1106 = .ok (.iaload, 1) := by decide +kernel
theorem dL_law_1107 : decode cL_law 1107 = .ok (.aload_n 0, 1) := by decide +kernel
theorem dL_law_1108 : decode cL_law 1108 = .ok (.iload_n 3, 1) := by decide +kernel
theorem dL_law_1109 : decode cL_law 1109 = .ok (.iconst 2, 1) := by decide +kernel
theorem dL_law_1110 : decode cL_law 1110 = .ok (.iadd, 1) := by decide +kernel
theorem dL_law_1111 : decode cL_law 1111 = .ok (.iaload, 1) := by decide +kernel
theorem dL_law_1112 : decode cL_law 1112 = .ok (.aload_n 0, 1) := by decide +kernel
theorem dL_law_1113 : decode cL_law 1113 = .ok (.iload_n 3, 1) := by decide +kernel
theorem dL_law_1114 : decode cL_law 1114 = .ok (.iconst 3, 1) := by decide +kernel
theorem dL_law_1115 : decode cL_law 1115 = .ok (.iadd, 1) := by decide +kernel
theorem dL_law_1116 : decode cL_law 1116 = .ok (.iaload, 1) := by decide +kernel
theorem dL_law_1117 : decode cL_law 1117 = .ok (.aload_n 0, 1) := by decide +kernel
theorem dL_law_1118 : decode cL_law 1118 = .ok (.iload_n 3, 1) := by decide +kernel
theorem dL_law_1119 : decode cL_law 1119 = .ok (.iconst 4, 1) := by decide +kernel
theorem dL_law_1120 : decode cL_law 1120 = .ok (.iadd, 1) := by decide +kernel
theorem dL_law_1121 : decode cL_law 1121 = .ok (.iaload, 1) := by decide +kernel
theorem dL_law_1122 : decode cL_law 1122 = .ok (.invokevirtual 160, 3) := by decide +kernel
theorem dL_law_1125 : decode cL_law 1125 = .ok (.pop, 1) := by decide +kernel
theorem dL_law_1126 : decode cL_law 1126 = .ok (.goto 185, 3) := by decide +kernel
theorem dL_law_1129 : decode cL_law 1129 = .ok (.aload_n 1, 1) := by decide +kernel
theorem dL_law_1130 : decode cL_law 1130 = .ok (.aload_n 0, 1) := by decide +kernel
theorem dL_law_1131 : decode cL_law 1131 = .ok (.iload_n 3, 1) := by decide +kernel
theorem dL_law_1132 : decode cL_law 1132 = .ok (.iconst 1, 1) := by decide +kernel
theorem dL_law_1133 : decode cL_law 1133 = .ok (.iadd, 1) := by decide +kernel
theorem dL_law_1134 : decode cL_law 1134 = .ok (.iaload, 1) := by decide +kernel
theorem dL_law_1135 : decode cL_law 1135 = .ok (.aload_n 0, 1) := by decide +kernel
theorem dL_law_1136 : decode cL_law 1136 = .ok (.iload_n 3, 1) := by decide +kernel
theorem dL_law_1137 : decode cL_law 1137 = .ok (.iconst 2, 1) := by decide +kernel
theorem dL_law_1138 : decode cL_law 1138 = .ok (.iadd, 1) := by decide +kernel
theorem dL_law_1139 : decode cL_law 1139 = .ok (.iaload, 1) := by decide +kernel
theorem dL_law_1140 : decode cL_law 1140 = .ok (.aload_n 0, 1) := by decide +kernel
theorem dL_law_1141 : decode cL_law 1141 = .ok (.iload_n 3, 1) := by decide +kernel
theorem dL_law_1142 : decode cL_law 1142 = .ok (.iconst 3, 1) := by decide +kernel
theorem dL_law_1143 : decode cL_law 1143 = .ok (.iadd, 1) := by decide +kernel
theorem dL_law_1144 : decode cL_law 1144 = .ok (.iaload, 1) := by decide +kernel
theorem dL_law_1145 : decode cL_law 1145 = .ok (.aload_n 0, 1) := by decide +kernel
theorem dL_law_1146 : decode cL_law 1146 = .ok (.iload_n 3, 1) := by decide +kernel
theorem dL_law_1147 : decode cL_law 1147 = .ok (.iconst 4, 1) := by decide +kernel
theorem dL_law_1148 : decode cL_law 1148 = .ok (.iadd, 1) := by decide +kernel
theorem dL_law_1149 : decode cL_law 1149 = .ok (.iaload, 1) := by decide +kernel
theorem dL_law_1150 : decode cL_law 1150 = .ok (.aload_n 0, 1) := by decide +kernel
theorem dL_law_1151 : decode cL_law 1151 = .ok (.iload_n 3, 1) := by decide +kernel
theorem dL_law_1152 : decode cL_law 1152 = .ok (.iconst 5, 1) := by decide +kernel
theorem dL_law_1153 : decode cL_law 1153 = .ok (.iadd, 1) := by decide +kernel
theorem dL_law_1154 : decode cL_law 1154 = .ok (.iaload, 1) := by decide +kernel
theorem dL_law_1155 : decode cL_law 1155 = .ok (.invokevirtual 161, 3) := by decide +kernel
theorem dL_law_1158 : decode cL_law 1158 = .ok (.pop, 1) := by decide +kernel
theorem dL_law_1159 : decode cL_law 1159 = .ok (.aload_n 2, 1) := by decide +kernel
theorem dL_law_1160 : decode cL_law 1160 = .ok (.aload_n 0, 1) := by decide +kernel
theorem dL_law_1161 : decode cL_law 1161 = .ok (.iload_n 3, 1) := by decide +kernel
theorem dL_law_1162 : decode cL_law 1162 = .ok (.iconst 1, 1) := by decide +kernel
theorem dL_law_1163 : decode cL_law 1163 = .ok (.iadd, 1) := by decide +kernel
theorem dL_law_1164 : decode cL_law 1164 = .ok (.iaload, 1) := by decide +kernel
theorem dL_law_1165 : decode cL_law 1165 = .ok (.aload_n 0, 1) := by decide +kernel
theorem dL_law_1166 : decode cL_law 1166 = .ok (.iload_n 3, 1) := by decide +kernel
theorem dL_law_1167 : decode cL_law 1167 = .ok (.iconst 2, 1) := by decide +kernel
theorem dL_law_1168 : decode cL_law 1168 = .ok (.iadd, 1) := by decide +kernel
theorem dL_law_1169 : decode cL_law 1169 = .ok (.iaload, 1) := by decide +kernel
theorem dL_law_1170 : decode cL_law 1170 = .ok (.aload_n 0, 1) := by decide +kernel
theorem dL_law_1171 : decode cL_law 1171 = .ok (.iload_n 3, 1) := by decide +kernel
theorem dL_law_1172 : decode cL_law 1172 = .ok (.iconst 3, 1) := by decide +kernel
theorem dL_law_1173 : decode cL_law 1173 = .ok (.iadd, 1) := by decide +kernel
theorem dL_law_1174 : decode cL_law 1174 = .ok (.iaload, 1) := by decide +kernel
theorem dL_law_1175 : decode cL_law 1175 = .ok (.aload_n 0, 1) := by decide +kernel
theorem dL_law_1176 : decode cL_law 1176 = .ok (.iload_n 3, 1) := by decide +kernel
theorem dL_law_1177 : decode cL_law 1177 = .ok (.iconst 4, 1) := by decide +kernel
theorem dL_law_1178 : decode cL_law 1178 = .ok (.iadd, 1) := by decide +kernel
theorem dL_law_1179 : decode cL_law 1179 = .ok (.iaload, 1) := by decide +kernel
theorem dL_law_1180 : decode cL_law 1180 = .ok (.aload_n 0, 1) := by decide +kernel
theorem dL_law_1181 : decode cL_law 1181 = .ok (.iload_n 3, 1) := by decide +kernel
theorem dL_law_1182 : decode cL_law 1182 = .ok (.iconst 5, 1) := by decide +kernel
theorem dL_law_1183 : decode cL_law 1183 = .ok (.iadd, 1) := by decide +kernel
theorem dL_law_1184 : decode cL_law 1184 = .ok (.iaload, 1) := by decide +kernel
theorem dL_law_1185 : decode cL_law 1185 = .ok (.invokevirtual 165, 3) := by decide +kernel
theorem dL_law_1188 : decode cL_law 1188 = .ok (.pop, 1) := by decide +kernel
theorem dL_law_1189 : decode cL_law 1189 = .ok (.goto 122, 3) := by decide +kernel
theorem dL_law_1192 : decode cL_law 1192 = .ok (.aload_n 1, 1) := by decide +kernel
theorem dL_law_1193 : decode cL_law 1193 = .ok (.aload_n 0, 1) := by decide +kernel
theorem dL_law_1194 : decode cL_law 1194 = .ok (.iload_n 3, 1) := by decide +kernel
theorem dL_law_1195 : decode cL_law 1195 = .ok (.iconst 1, 1) := by decide +kernel
theorem dL_law_1196 : decode cL_law 1196 = .ok (.iadd, 1) := by decide +kernel
theorem dL_law_1197 : decode cL_law 1197 = .ok (.iaload, 1) := by decide +kernel
theorem dL_law_1198 : decode cL_law 1198 = .ok (.aload_n 0, 1) := by decide +kernel
theorem dL_law_1199 : decode cL_law 1199 = .ok (.iload_n 3, 1) := by decide +kernel
theorem dL_law_1200 : decode cL_law 1200 = .ok (.iconst 2, 1) := by decide +kernel
theorem dL_law_1201 : decode cL_law 1201 = .ok (.iadd, 1) := by decide +kernel
theorem dL_law_1202 : decode cL_law 1202 = .ok (.iaload, 1) := by decide +kernel
theorem dL_law_1203 : decode cL_law 1203 = .ok (.aload_n 0, 1) := by decide +kernel
theorem dL_law_1204 : decode cL_law 1204 = .ok (.iload_n 3, 1) := by decide +kernel
theorem dL_law_1205 : decode cL_law 1205 = .ok (.iconst 3, 1) := by decide +kernel
theorem dL_law_1206 : decode cL_law 1206 = .ok (.iadd, 1) := by decide +kernel
theorem dL_law_1207 : decode cL_law 1207 = .ok (.iaload, 1) := by decide +kernel
theorem dL_law_1208 : decode cL_law 1208 = .ok (.invokevirtual 166, 3) := by decide +kernel
theorem dL_law_1211 : decode cL_law 1211 = .ok (.pop, 1) := by decide +kernel
theorem dL_law_1212 : decode cL_law 1212 = .ok (.aload_n 2, 1) := by decide +kernel
theorem dL_law_1213 : decode cL_law 1213 = .ok (.aload_n 0, 1) := by decide +kernel
theorem dL_law_1214 : decode cL_law 1214 = .ok (.iload_n 3, 1) := by decide +kernel
theorem dL_law_1215 : decode cL_law 1215 = .ok (.iconst 1, 1) := by decide +kernel
theorem dL_law_1216 : decode cL_law 1216 = .ok (.iadd, 1) := by decide +kernel
theorem dL_law_1217 : decode cL_law 1217 = .ok (.iaload, 1) := by decide +kernel
theorem dL_law_1218 : decode cL_law 1218 = .ok (.aload_n 0, 1) := by decide +kernel
theorem dL_law_1219 : decode cL_law 1219 = .ok (.iload_n 3, 1) := by decide +kernel
theorem dL_law_1220 : decode cL_law 1220 = .ok (.iconst 2, 1) := by decide +kernel
theorem dL_law_1221 : decode cL_law 1221 = .ok (.iadd, 1) := by decide +kernel
theorem dL_law_1222 : decode cL_law 1222 = .ok (.iaload, 1) := by decide +kernel
theorem dL_law_1223 : decode cL_law 1223 = .ok (.aload_n 0, 1) := by decide +kernel
theorem dL_law_1224 : decode cL_law 1224 = .ok (.iload_n 3, 1) := by decide +kernel
theorem dL_law_1225 : decode cL_law 1225 = .ok (.iconst 3, 1) := by decide +kernel
theorem dL_law_1226 : decode cL_law 1226 = .ok (.iadd, 1) := by decide +kernel
theorem dL_law_1227 : decode cL_law 1227 = .ok (.iaload, 1) := by decide +kernel
theorem dL_law_1228 : decode cL_law 1228 = .ok (.invokevirtual 169, 3) := by decide +kernel
theorem dL_law_1231 : decode cL_law 1231 = .ok (.pop, 1) := by decide +kernel
theorem dL_law_1232 : decode cL_law 1232 = .ok (.goto 79, 3) := by decide +kernel
theorem dL_law_1235 : decode cL_law 1235 = .ok (.aload_n 1, 1) := by decide +kernel
theorem dL_law_1236 : decode cL_law 1236 = .ok (.aload_n 0, 1) := by decide +kernel
theorem dL_law_1237 : decode cL_law 1237 = .ok (.iload_n 3, 1) := by decide +kernel
theorem dL_law_1238 : decode cL_law 1238 = .ok (.iconst 1, 1) := by decide +kernel
theorem dL_law_1239 : decode cL_law 1239 = .ok (.iadd, 1) := by decide +kernel
theorem dL_law_1240 : decode cL_law 1240 = .ok (.iaload, 1) := by decide +kernel
theorem dL_law_1241 : decode cL_law 1241 = .ok (.invokevirtual 170, 3) := by decide +kernel
theorem dL_law_1244 : decode cL_law 1244 = .ok (.pop, 1) := by decide +kernel
theorem dL_law_1245 : decode cL_law 1245 = .ok (.aload_n 2, 1) := by decide +kernel
theorem dL_law_1246 : decode cL_law 1246 = .ok (.aload_n 0, 1) := by decide +kernel
theorem dL_law_1247 : decode cL_law 1247 = .ok (.iload_n 3, 1) := by decide +kernel
theorem dL_law_1248 : decode cL_law 1248 = .ok (.iconst 1, 1) := by decide +kernel
theorem dL_law_1249 : decode cL_law 1249 = .ok (.iadd, 1) := by decide +kernel
theorem dL_law_1250 : decode cL_law 1250 = .ok (.iaload, 1) := by decide +kernel
theorem dL_law_1251 : decode cL_law 1251 = .ok (.invokevirtual 173, 3) := by decide +kernel
theorem dL_law_1254 : decode cL_law 1254 = .ok (.pop, 1) := by decide +kernel
theorem dL_law_1255 : decode cL_law 1255 = .ok (.goto 56, 3) := by decide +kernel
theorem dL_law_1258 : decode cL_law 1258 = .ok (.aload_n 1, 1) := by decide +kernel
theorem dL_law_1259 : decode cL_law 1259 = .ok (.aload_n 0, 1) := by decide +kernel
theorem dL_law_1260 : decode cL_law 1260 = .ok (.iload_n 3, 1) := by decide +kernel
theorem dL_law_1261 : decode cL_law 1261 = .ok (.iconst 1, 1) := by decide +kernel
theorem dL_law_1262 : decode cL_law 1262 = .ok (.iadd, 1) := by decide +kernel
theorem dL_law_1263 : decode cL_law 1263 = .ok (.iaload, 1) := by decide +kernel
theorem dL_law_1264 : decode cL_law 1264 = .ok (.aload_n 0, 1) := by decide +kernel
theorem dL_law_1265 : decode cL_law 1265 = .ok (.iload_n 3, 1) := by decide +kernel
theorem dL_law_1266 : decode cL_law 1266 = .ok (.iconst 2, 1) := by decide +kernel
theorem dL_law_1267 : decode cL_law 1267 = .ok (.iadd, 1) := by decide +kernel
theorem dL_law_1268 : decode cL_law 1268 = .ok (.iaload, 1) := by decide +kernel
theorem dL_law_1269 : decode cL_law 1269 = .ok (.aload_n 0, 1) := by decide +kernel
theorem dL_law_1270 : decode cL_law 1270 = .ok (.iload_n 3, 1) := by decide +kernel
theorem dL_law_1271 : decode cL_law 1271 = .ok (.iconst 3, 1) := by decide +kernel
theorem dL_law_1272 : decode cL_law 1272 = .ok (.iadd, 1) := by decide +kernel
theorem dL_law_1273 : decode cL_law 1273 = .ok (.iaload, 1) := by decide +kernel
theorem dL_law_1274 : decode cL_law 1274 = .ok (.aload_n 0, 1) := by decide +kernel
theorem dL_law_1275 : decode cL_law 1275 = .ok (.iload_n 3, 1) := by decide +kernel
theorem dL_law_1276 : decode cL_law 1276 = .ok (.iconst 4, 1) := by decide +kernel
theorem dL_law_1277 : decode cL_law 1277 = .ok (.iadd, 1) := by decide +kernel
theorem dL_law_1278 : decode cL_law 1278 = .ok (.iaload, 1) := by decide +kernel
theorem dL_law_1279 : decode cL_law 1279 = .ok (.invokevirtual 174, 3) := by decide +kernel
theorem dL_law_1282 : decode cL_law 1282 = .ok (.pop, 1) := by decide +kernel
theorem dL_law_1283 : decode cL_law 1283 = .ok (.aload_n 2, 1) := by decide +kernel
theorem dL_law_1284 : decode cL_law 1284 = .ok (.aload_n 0, 1) := by decide +kernel
theorem dL_law_1285 : decode cL_law 1285 = .ok (.iload_n 3, 1) := by decide +kernel
theorem dL_law_1286 : decode cL_law 1286 = .ok (.iconst 1, 1) := by decide +kernel
theorem dL_law_1287 : decode cL_law 1287 = .ok (.iadd, 1) := by decide +kernel
theorem dL_law_1288 : decode cL_law 1288 = .ok (.iaload, 1) := by decide +kernel
theorem dL_law_1289 : decode cL_law 1289 = .ok (.aload_n 0, 1) := by decide +kernel
theorem dL_law_1290 : decode cL_law 1290 = .ok (.iload_n 3, 1) := by decide +kernel
theorem dL_law_1291 : decode cL_law 1291 = .ok (.iconst 2, 1) := by decide +kernel
theorem dL_law_1292 : decode cL_law 1292 = .ok (.iadd, 1) := by decide +kernel
theorem dL_law_1293 : decode cL_law 1293 = .ok (.iaload, 1) := by decide +kernel
theorem dL_law_1294 : decode cL_law 1294 = .ok (.aload_n 0, 1) := by decide +kernel
theorem dL_law_1295 : decode cL_law 1295 = .ok (.iload_n 3, 1) := by decide +kernel
theorem dL_law_1296 : decode cL_law 1296 = .ok (.iconst 3, 1) := by decide +kernel
theorem dL_law_1297 : decode cL_law 1297 = .ok (.iadd, 1) := by decide +kernel
theorem dL_law_1298 : decode cL_law 1298 = .ok (.iaload, 1) := by decide +kernel
theorem dL_law_1299 : decode cL_law 1299 = .ok (.aload_n 0, 1) := by decide +kernel
theorem dL_law_1300 : decode cL_law 1300 = .ok (.iload_n 3, 1) := by decide +kernel
theorem dL_law_1301 : decode cL_law 1301 = .ok (.iconst 4, 1) := by decide +kernel
theorem dL_law_1302 : decode cL_law 1302 = .ok (.iadd, 1) := by decide +kernel
theorem dL_law_1303 : decode cL_law 1303 = .ok (.iaload, 1) := by decide +kernel
theorem dL_law_1304 : decode cL_law 1304 = .ok (.invokevirtual 177, 3) := by decide +kernel
theorem dL_law_1307 : decode cL_law 1307 = .ok (.pop, 1) := by decide +kernel
theorem dL_law_1308 : decode cL_law 1308 = .ok (.goto 3, 3) := by decide +kernel
theorem dL_law_1311 : decode cL_law 1311 = .ok (.iinc 3 6, 3) := by decide +kernel
theorem dL_law_1314 : decode cL_law 1314 = .ok (.goto (-1296), 3) := by decide +kernel
theorem dL_law_1317 : decode cL_law 1317 = .ok (.iconst 1, 1) := by decide +kernel
theorem dL_law_1318 : decode cL_law 1318 = .ok (.ireturn, 1) := by decide +kernel
theorem iL_9 : zq_MI "OrdersToldLaw" 9 yX11_init cX11_init 1 0 := ⟨(zq_tbI (zq_tk1 (List.mem_of_getElem? (i := 22) rfl)) rfl), (zq_tbI (zq_tk1 (List.mem_of_getElem? (i := 1) rfl)) rfl), (zq_tbI (zq_tk1 (List.mem_of_getElem? (i := 20) rfl)) rfl), (zq_tbI (zq_tk1 (List.mem_of_getElem? (i := 21) rfl)) rfl), rfl, ⟨by decide, by decide, by decide +kernel⟩⟩
theorem mL_13 : zq_MV "OrdersToldLaw" 13 11 yX11_begin cX11_begin 4 (some .int) 3 := zq_MV_of TX11 8 (zq_tbI (zq_tk3 (List.mem_of_getElem? (i := 8) rfl)) rfl) (zq_tbI (zq_tk3 (List.mem_of_getElem? (i := 9) rfl)) rfl) (zq_tbI (zq_tk3 (List.mem_of_getElem? (i := 10) rfl)) rfl) (zq_tbI (zq_tk1 (List.mem_of_getElem? (i := 1) rfl)) rfl) (zq_tbI (zq_tk3 (List.mem_of_getElem? (i := 11) rfl)) rfl) rfl ⟨by decide, by decide, by decide +kernel⟩
theorem mL_20 : zq_MV "OrdersToldLaw" 20 11 yX11_type cX11_type 4 (some .int) 2 := zq_MV_of TX11 8 (zq_tbI (zq_tk3 (List.mem_of_getElem? (i := 15) rfl)) rfl) (zq_tbI (zq_tk3 (List.mem_of_getElem? (i := 16) rfl)) rfl) (zq_tbI (zq_tk3 (List.mem_of_getElem? (i := 17) rfl)) rfl) (zq_tbI (zq_tk1 (List.mem_of_getElem? (i := 1) rfl)) rfl) (zq_tbI (zq_tk3 (List.mem_of_getElem? (i := 18) rfl)) rfl) rfl ⟨by decide, by decide, by decide +kernel⟩
theorem mL_25 : zq_MV "OrdersToldLaw" 25 11 yX11_order cX11_order 3 (some .int) 0 := zq_MV_of TX11 8 (zq_tbI (zq_tk3 (List.mem_of_getElem? (i := 23) rfl)) rfl) (zq_tbI (zq_tk3 (List.mem_of_getElem? (i := 24) rfl)) rfl) (zq_tbI (zq_tk3 (List.mem_of_getElem? (i := 25) rfl)) rfl) (zq_tbI (zq_tk1 (List.mem_of_getElem? (i := 1) rfl)) rfl) (zq_tbI (zq_tk3 (List.mem_of_getElem? (i := 26) rfl)) rfl) rfl ⟨by decide, by decide, by decide +kernel⟩
theorem mL_30 : zq_MV "OrdersToldLaw" 30 11 yX11_shared cX11_shared 1 (some .int) 0 := zq_MV_of TX11 8 (zq_tbI (zq_tk3 (List.mem_of_getElem? (i := 207) rfl)) rfl) (zq_tbI (zq_tk3 (List.mem_of_getElem? (i := 208) rfl)) rfl) (zq_tbI (zq_tk3 (List.mem_of_getElem? (i := 209) rfl)) rfl) (zq_tbI (zq_tk1 (List.mem_of_getElem? (i := 1) rfl)) rfl) (zq_tbI (zq_tk3 (List.mem_of_getElem? (i := 210) rfl)) rfl) rfl ⟨by decide, by decide, by decide +kernel⟩
theorem mL_34 : zq_MV "OrdersToldLaw" 34 11 yX11_unorder cX11_unorder 1 (some .int) 0 := zq_MV_of TX11 8 (zq_tbI (zq_tk3 (List.mem_of_getElem? (i := 211) rfl)) rfl) (zq_tbI (zq_tk3 (List.mem_of_getElem? (i := 212) rfl)) rfl) (zq_tbI (zq_tk3 (List.mem_of_getElem? (i := 213) rfl)) rfl) (zq_tbI (zq_tk1 (List.mem_of_getElem? (i := 1) rfl)) rfl) (zq_tbI (zq_tk3 (List.mem_of_getElem? (i := 214) rfl)) rfl) rfl ⟨by decide, by decide, by decide +kernel⟩
theorem mL_38 : zq_MV "OrdersToldLaw" 38 11 yX11_about cX11_about 4 (some .int) 2 := zq_MV_of TX11 8 (zq_tbI (zq_tk3 (List.mem_of_getElem? (i := 219) rfl)) rfl) (zq_tbI (zq_tk3 (List.mem_of_getElem? (i := 220) rfl)) rfl) (zq_tbI (zq_tk3 (List.mem_of_getElem? (i := 221) rfl)) rfl) (zq_tbI (zq_tk1 (List.mem_of_getElem? (i := 1) rfl)) rfl) (zq_tbI (zq_tk3 (List.mem_of_getElem? (i := 222) rfl)) rfl) rfl ⟨by decide, by decide, by decide +kernel⟩
theorem mL_43 : zq_MV "OrdersToldLaw" 43 11 yX11_look cX11_look 3 (some .int) 1 := zq_MV_of TX11 8 (zq_tbI (zq_tk3 (List.mem_of_getElem? (i := 232) rfl)) rfl) (zq_tbI (zq_tk3 (List.mem_of_getElem? (i := 233) rfl)) rfl) (zq_tbI (zq_tk3 (List.mem_of_getElem? (i := 234) rfl)) rfl) (zq_tbI (zq_tk1 (List.mem_of_getElem? (i := 1) rfl)) rfl) (zq_tbI (zq_tk3 (List.mem_of_getElem? (i := 235) rfl)) rfl) rfl ⟨by decide, by decide, by decide +kernel⟩
theorem mL_48 : zq_MV "OrdersToldLaw" 48 11 yX11_field cX11_field 4 (some .int) 2 := zq_MV_of TX11 8 (zq_tbI (zq_tk4 (List.mem_of_getElem? (i := 4) rfl)) rfl) (zq_tbI (zq_tk4 (List.mem_of_getElem? (i := 5) rfl)) rfl) (zq_tbI (zq_tk4 (List.mem_of_getElem? (i := 6) rfl)) rfl) (zq_tbI (zq_tk1 (List.mem_of_getElem? (i := 1) rfl)) rfl) (zq_tbI (zq_tk4 (List.mem_of_getElem? (i := 7) rfl)) rfl) rfl ⟨by decide, by decide, by decide +kernel⟩
theorem mL_52 : zq_MV "OrdersToldLaw" 52 11 yX11_holes cX11_holes 1 (some .int) 0 := zq_MV_of TX11 8 (zq_tbI (zq_tk4 (List.mem_of_getElem? (i := 19) rfl)) rfl) (zq_tbI (zq_tk4 (List.mem_of_getElem? (i := 20) rfl)) rfl) (zq_tbI (zq_tk4 (List.mem_of_getElem? (i := 21) rfl)) rfl) (zq_tbI (zq_tk1 (List.mem_of_getElem? (i := 1) rfl)) rfl) (zq_tbI (zq_tk4 (List.mem_of_getElem? (i := 22) rfl)) rfl) rfl ⟨by decide, by decide, by decide +kernel⟩
theorem mL_56 : zq_MV "OrdersToldLaw" 56 11 yX11_hole cX11_hole 2 (some .int) 1 := zq_MV_of TX11 8 (zq_tbI (zq_tk4 (List.mem_of_getElem? (i := 28) rfl)) rfl) (zq_tbI (zq_tk4 (List.mem_of_getElem? (i := 29) rfl)) rfl) (zq_tbI (zq_tk4 (List.mem_of_getElem? (i := 30) rfl)) rfl) (zq_tbI (zq_tk1 (List.mem_of_getElem? (i := 1) rfl)) rfl) (zq_tbI (zq_tk4 (List.mem_of_getElem? (i := 31) rfl)) rfl) rfl ⟨by decide, by decide, by decide +kernel⟩
theorem mL_60 : zq_MV "OrdersToldLaw" 60 11 yX11_count cX11_count 2 (some .int) 1 := zq_MV_of TX11 8 (zq_tbI (zq_tk4 (List.mem_of_getElem? (i := 36) rfl)) rfl) (zq_tbI (zq_tk4 (List.mem_of_getElem? (i := 37) rfl)) rfl) (zq_tbI (zq_tk4 (List.mem_of_getElem? (i := 38) rfl)) rfl) (zq_tbI (zq_tk1 (List.mem_of_getElem? (i := 1) rfl)) rfl) (zq_tbI (zq_tk4 (List.mem_of_getElem? (i := 39) rfl)) rfl) rfl ⟨by decide, by decide, by decide +kernel⟩
theorem mL_64 : zq_MV "OrdersToldLaw" 64 11 yX11_reads cX11_reads 3 (some .int) 1 := zq_MV_of TX11 8 (zq_tbI (zq_tk4 (List.mem_of_getElem? (i := 44) rfl)) rfl) (zq_tbI (zq_tk4 (List.mem_of_getElem? (i := 45) rfl)) rfl) (zq_tbI (zq_tk4 (List.mem_of_getElem? (i := 46) rfl)) rfl) (zq_tbI (zq_tk1 (List.mem_of_getElem? (i := 1) rfl)) rfl) (zq_tbI (zq_tk4 (List.mem_of_getElem? (i := 47) rfl)) rfl) rfl ⟨by decide, by decide, by decide +kernel⟩
theorem mL_68 : zq_MV "OrdersToldLaw" 68 11 yX11_writes cX11_writes 3 (some .int) 1 := zq_MV_of TX11 8 (zq_tbI (zq_tk4 (List.mem_of_getElem? (i := 127) rfl)) rfl) (zq_tbI (zq_tk4 (List.mem_of_getElem? (i := 128) rfl)) rfl) (zq_tbI (zq_tk4 (List.mem_of_getElem? (i := 129) rfl)) rfl) (zq_tbI (zq_tk1 (List.mem_of_getElem? (i := 1) rfl)) rfl) (zq_tbI (zq_tk4 (List.mem_of_getElem? (i := 130) rfl)) rfl) rfl ⟨by decide, by decide, by decide +kernel⟩
theorem mL_72 : zq_MV "OrdersToldLaw" 72 11 yX11_like cX11_like 5 (some .int) 2 := zq_MV_of TX11 8 (zq_tbI (zq_tk4 (List.mem_of_getElem? (i := 143) rfl)) rfl) (zq_tbI (zq_tk4 (List.mem_of_getElem? (i := 144) rfl)) rfl) (zq_tbI (zq_tk4 (List.mem_of_getElem? (i := 145) rfl)) rfl) (zq_tbI (zq_tk1 (List.mem_of_getElem? (i := 1) rfl)) rfl) (zq_tbI (zq_tk4 (List.mem_of_getElem? (i := 146) rfl)) rfl) rfl ⟨by decide, by decide, by decide +kernel⟩
theorem mL_76 : zq_MV "OrdersToldLaw" 76 11 yX11_put cX11_put 4 (some .int) 2 := zq_MV_of TX11 8 (zq_tbI (zq_tk4 (List.mem_of_getElem? (i := 151) rfl)) rfl) (zq_tbI (zq_tk4 (List.mem_of_getElem? (i := 152) rfl)) rfl) (zq_tbI (zq_tk4 (List.mem_of_getElem? (i := 153) rfl)) rfl) (zq_tbI (zq_tk1 (List.mem_of_getElem? (i := 1) rfl)) rfl) (zq_tbI (zq_tk4 (List.mem_of_getElem? (i := 154) rfl)) rfl) rfl ⟨by decide, by decide, by decide +kernel⟩
theorem mL_80 : zq_MV "OrdersToldLaw" 80 11 yX11_code cX11_code 2 (some .int) 1 := zq_MV_of TX11 8 (zq_tbI (zq_tk4 (List.mem_of_getElem? (i := 158) rfl)) rfl) (zq_tbI (zq_tk4 (List.mem_of_getElem? (i := 159) rfl)) rfl) (zq_tbI (zq_tk4 (List.mem_of_getElem? (i := 160) rfl)) rfl) (zq_tbI (zq_tk1 (List.mem_of_getElem? (i := 1) rfl)) rfl) (zq_tbI (zq_tk4 (List.mem_of_getElem? (i := 161) rfl)) rfl) rfl ⟨by decide, by decide, by decide +kernel⟩
theorem mL_84 : zq_MV "OrdersToldLaw" 84 11 yX11_set cX11_set 5 (some .int) 3 := zq_MV_of TX11 8 (zq_tbI (zq_tk4 (List.mem_of_getElem? (i := 162) rfl)) rfl) (zq_tbI (zq_tk4 (List.mem_of_getElem? (i := 163) rfl)) rfl) (zq_tbI (zq_tk4 (List.mem_of_getElem? (i := 164) rfl)) rfl) (zq_tbI (zq_tk1 (List.mem_of_getElem? (i := 1) rfl)) rfl) (zq_tbI (zq_tk4 (List.mem_of_getElem? (i := 165) rfl)) rfl) rfl ⟨by decide, by decide, by decide +kernel⟩
theorem mL_88 : zq_MV "OrdersToldLaw" 88 11 yX11_get cX11_get 3 (some .int) 2 := zq_MV_of TX11 8 (zq_tbI (zq_tk4 (List.mem_of_getElem? (i := 186) rfl)) rfl) (zq_tbI (zq_tk4 (List.mem_of_getElem? (i := 167) rfl)) rfl) (zq_tbI (zq_tk4 (List.mem_of_getElem? (i := 168) rfl)) rfl) (zq_tbI (zq_tk1 (List.mem_of_getElem? (i := 1) rfl)) rfl) (zq_tbI (zq_tk4 (List.mem_of_getElem? (i := 169) rfl)) rfl) rfl ⟨by decide, by decide, by decide +kernel⟩
theorem mL_92 : zq_MV "OrdersToldLaw" 92 11 yX11_reset cX11_reset 1 (some .int) 0 := zq_MV_of TX11 8 (zq_tbI (zq_tk4 (List.mem_of_getElem? (i := 187) rfl)) rfl) (zq_tbI (zq_tk4 (List.mem_of_getElem? (i := 188) rfl)) rfl) (zq_tbI (zq_tk4 (List.mem_of_getElem? (i := 189) rfl)) rfl) (zq_tbI (zq_tk1 (List.mem_of_getElem? (i := 1) rfl)) rfl) (zq_tbI (zq_tk4 (List.mem_of_getElem? (i := 190) rfl)) rfl) rfl ⟨by decide, by decide, by decide +kernel⟩
theorem mL_96 : zq_MV "OrdersToldLaw" 96 11 yX11_run cX11_run 3 (some .int) 1 := zq_MV_of TX11 8 (zq_tbI (zq_tk4 (List.mem_of_getElem? (i := 192) rfl)) rfl) (zq_tbI (zq_tk4 (List.mem_of_getElem? (i := 193) rfl)) rfl) (zq_tbI (zq_tk4 (List.mem_of_getElem? (i := 194) rfl)) rfl) (zq_tbI (zq_tk1 (List.mem_of_getElem? (i := 1) rfl)) rfl) (zq_tbI (zq_tk4 (List.mem_of_getElem? (i := 195) rfl)) rfl) rfl ⟨by decide, by decide, by decide +kernel⟩
theorem mL_100 : zq_MV "OrdersToldLaw" 100 11 yX11_back cX11_back 2 (some .int) 1 := zq_MV_of TX11 8 (zq_tbI (zq_tk4 (List.mem_of_getElem? (i := 228) rfl)) rfl) (zq_tbI (zq_tk4 (List.mem_of_getElem? (i := 229) rfl)) rfl) (zq_tbI (zq_tk4 (List.mem_of_getElem? (i := 230) rfl)) rfl) (zq_tbI (zq_tk1 (List.mem_of_getElem? (i := 1) rfl)) rfl) (zq_tbI (zq_tk4 (List.mem_of_getElem? (i := 231) rfl)) rfl) rfl ⟨by decide, by decide, by decide +kernel⟩
theorem mL_104 : zq_MV "OrdersToldLaw" 104 11 yX11_so cX11_so 2 (some .int) 1 := zq_MV_of TX11 8 (zq_tbI (zq_tk5 (List.mem_of_getElem? (i := 4) rfl)) rfl) (zq_tbI (zq_tk5 (List.mem_of_getElem? (i := 5) rfl)) rfl) (zq_tbI (zq_tk5 (List.mem_of_getElem? (i := 6) rfl)) rfl) (zq_tbI (zq_tk1 (List.mem_of_getElem? (i := 1) rfl)) rfl) (zq_tbI (zq_tk5 (List.mem_of_getElem? (i := 7) rfl)) rfl) rfl ⟨by decide, by decide, by decide +kernel⟩
theorem mL_108 : zq_MV "OrdersToldLaw" 108 11 yX11_flush cX11_flush 3 (some .int) 1 := zq_MV_of TX11 8 (zq_tbI (zq_tk5 (List.mem_of_getElem? (i := 8) rfl)) rfl) (zq_tbI (zq_tk5 (List.mem_of_getElem? (i := 9) rfl)) rfl) (zq_tbI (zq_tk5 (List.mem_of_getElem? (i := 10) rfl)) rfl) (zq_tbI (zq_tk1 (List.mem_of_getElem? (i := 1) rfl)) rfl) (zq_tbI (zq_tk5 (List.mem_of_getElem? (i := 11) rfl)) rfl) rfl ⟨by decide, by decide, by decide +kernel⟩
theorem mL_112 : zq_MV "OrdersToldLaw" 112 11 yX11_line cX11_line 3 (some .int) 0 := zq_MV_of TX11 8 (zq_tbI (zq_tk5 (List.mem_of_getElem? (i := 12) rfl)) rfl) (zq_tbI (zq_tk5 (List.mem_of_getElem? (i := 13) rfl)) rfl) (zq_tbI (zq_tk5 (List.mem_of_getElem? (i := 14) rfl)) rfl) (zq_tbI (zq_tk1 (List.mem_of_getElem? (i := 1) rfl)) rfl) (zq_tbI (zq_tk5 (List.mem_of_getElem? (i := 15) rfl)) rfl) rfl ⟨by decide, by decide, by decide +kernel⟩
theorem mL_116 : zq_MV "OrdersToldLaw" 116 11 yX11_text cX11_text 4 (some .int) 2 := zq_MV_of TX11 8 (zq_tbI (zq_tk5 (List.mem_of_getElem? (i := 25) rfl)) rfl) (zq_tbI (zq_tk5 (List.mem_of_getElem? (i := 26) rfl)) rfl) (zq_tbI (zq_tk5 (List.mem_of_getElem? (i := 27) rfl)) rfl) (zq_tbI (zq_tk1 (List.mem_of_getElem? (i := 1) rfl)) rfl) (zq_tbI (zq_tk5 (List.mem_of_getElem? (i := 28) rfl)) rfl) rfl ⟨by decide, by decide, by decide +kernel⟩
theorem mL_120 : zq_MV "OrdersToldLaw" 120 11 yX11_variables cX11_variables 3 (some .int) 1 := zq_MV_of TX11 8 (zq_tbI (zq_tk5 (List.mem_of_getElem? (i := 46) rfl)) rfl) (zq_tbI (zq_tk5 (List.mem_of_getElem? (i := 47) rfl)) rfl) (zq_tbI (zq_tk5 (List.mem_of_getElem? (i := 48) rfl)) rfl) (zq_tbI (zq_tk1 (List.mem_of_getElem? (i := 1) rfl)) rfl) (zq_tbI (zq_tk5 (List.mem_of_getElem? (i := 49) rfl)) rfl) rfl ⟨by decide, by decide, by decide +kernel⟩
theorem mL_124 : zq_MV "OrdersToldLaw" 124 11 yX11_sum cX11_sum 3 (some .int) 0 := zq_MV_of TX11 8 (zq_tbI (zq_tk5 (List.mem_of_getElem? (i := 50) rfl)) rfl) (zq_tbI (zq_tk5 (List.mem_of_getElem? (i := 51) rfl)) rfl) (zq_tbI (zq_tk5 (List.mem_of_getElem? (i := 52) rfl)) rfl) (zq_tbI (zq_tk1 (List.mem_of_getElem? (i := 1) rfl)) rfl) (zq_tbI (zq_tk5 (List.mem_of_getElem? (i := 53) rfl)) rfl) rfl ⟨by decide, by decide, by decide +kernel⟩
theorem mL_128 : zq_MV "OrdersToldLaw" 128 11 yX11_price cX11_price 1 (some .int) 0 := zq_MV_of TX11 8 (zq_tbI (zq_tk5 (List.mem_of_getElem? (i := 89) rfl)) rfl) (zq_tbI (zq_tk5 (List.mem_of_getElem? (i := 90) rfl)) rfl) (zq_tbI (zq_tk5 (List.mem_of_getElem? (i := 91) rfl)) rfl) (zq_tbI (zq_tk1 (List.mem_of_getElem? (i := 1) rfl)) rfl) (zq_tbI (zq_tk5 (List.mem_of_getElem? (i := 92) rfl)) rfl) rfl ⟨by decide, by decide, by decide +kernel⟩
theorem mL_132 : zq_MV "OrdersToldLaw" 132 11 yX11_make cX11_make 2 (some .int) 1 := zq_MV_of TX11 8 (zq_tbI (zq_tk5 (List.mem_of_getElem? (i := 142) rfl)) rfl) (zq_tbI (zq_tk5 (List.mem_of_getElem? (i := 143) rfl)) rfl) (zq_tbI (zq_tk5 (List.mem_of_getElem? (i := 144) rfl)) rfl) (zq_tbI (zq_tk1 (List.mem_of_getElem? (i := 1) rfl)) rfl) (zq_tbI (zq_tk5 (List.mem_of_getElem? (i := 145) rfl)) rfl) rfl ⟨by decide, by decide, by decide +kernel⟩
theorem mL_136 : zq_MV "OrdersToldLaw" 136 11 yX11_value cX11_value 1 (some .int) 0 := zq_MV_of TX11 8 (zq_tbI (zq_tk5 (List.mem_of_getElem? (i := 171) rfl)) rfl) (zq_tbI (zq_tk5 (List.mem_of_getElem? (i := 172) rfl)) rfl) (zq_tbI (zq_tk5 (List.mem_of_getElem? (i := 173) rfl)) rfl) (zq_tbI (zq_tk1 (List.mem_of_getElem? (i := 1) rfl)) rfl) (zq_tbI (zq_tk5 (List.mem_of_getElem? (i := 174) rfl)) rfl) rfl ⟨by decide, by decide, by decide +kernel⟩
theorem mL_140 : zq_MV "OrdersToldLaw" 140 11 yX11_pairs cX11_pairs 4 (some .int) 3 := zq_MV_of TX11 8 (zq_tbI (zq_tk5 (List.mem_of_getElem? (i := 183) rfl)) rfl) (zq_tbI (zq_tk5 (List.mem_of_getElem? (i := 184) rfl)) rfl) (zq_tbI (zq_tk5 (List.mem_of_getElem? (i := 185) rfl)) rfl) (zq_tbI (zq_tk1 (List.mem_of_getElem? (i := 1) rfl)) rfl) (zq_tbI (zq_tk5 (List.mem_of_getElem? (i := 186) rfl)) rfl) rfl ⟨by decide, by decide, by decide +kernel⟩
theorem mL_144 : zq_MV "OrdersToldLaw" 144 11 yX11_room cX11_room 5 (some .int) 2 := zq_MV_of TX11 8 (zq_tbI (zq_tk5 (List.mem_of_getElem? (i := 198) rfl)) rfl) (zq_tbI (zq_tk5 (List.mem_of_getElem? (i := 199) rfl)) rfl) (zq_tbI (zq_tk5 (List.mem_of_getElem? (i := 200) rfl)) rfl) (zq_tbI (zq_tk1 (List.mem_of_getElem? (i := 1) rfl)) rfl) (zq_tbI (zq_tk5 (List.mem_of_getElem? (i := 201) rfl)) rfl) rfl ⟨by decide, by decide, by decide +kernel⟩
theorem mL_148 : zq_MV "OrdersToldLaw" 148 11 yX11_best cX11_best 2 (some .int) 1 := zq_MV_of TX11 8 (zq_tbI (zq_tk5 (List.mem_of_getElem? (i := 223) rfl)) rfl) (zq_tbI (zq_tk5 (List.mem_of_getElem? (i := 224) rfl)) rfl) (zq_tbI (zq_tk5 (List.mem_of_getElem? (i := 225) rfl)) rfl) (zq_tbI (zq_tk1 (List.mem_of_getElem? (i := 1) rfl)) rfl) (zq_tbI (zq_tk5 (List.mem_of_getElem? (i := 226) rfl)) rfl) rfl ⟨by decide, by decide, by decide +kernel⟩
theorem mL_152 : zq_MV "OrdersToldLaw" 152 11 yX11_join cX11_join 7 (some .int) 2 := zq_MV_of TX11 8 (zq_tbI (zq_tk5 (List.mem_of_getElem? (i := 233) rfl)) rfl) (zq_tbI (zq_tk5 (List.mem_of_getElem? (i := 234) rfl)) rfl) (zq_tbI (zq_tk5 (List.mem_of_getElem? (i := 235) rfl)) rfl) (zq_tbI (zq_tk1 (List.mem_of_getElem? (i := 1) rfl)) rfl) (zq_tbI (zq_tk5 (List.mem_of_getElem? (i := 236) rfl)) rfl) rfl ⟨by decide, by decide, by decide +kernel⟩
theorem mL_156 : zq_MV "OrdersToldLaw" 156 11 yX11_log cX11_log 6 (some .int) 4 := zq_MV_of TX11 8 (zq_tbI (zq_tk6 (List.mem_of_getElem? (i := 10) rfl)) rfl) (zq_tbI (zq_tk6 (List.mem_of_getElem? (i := 11) rfl)) rfl) (zq_tbI (zq_tk6 (List.mem_of_getElem? (i := 12) rfl)) rfl) (zq_tbI (zq_tk1 (List.mem_of_getElem? (i := 1) rfl)) rfl) (zq_tbI (zq_tk6 (List.mem_of_getElem? (i := 13) rfl)) rfl) rfl ⟨by decide, by decide, by decide +kernel⟩
theorem mL_161 : zq_MV "OrdersToldLaw" 161 11 yX11_load cX11_load 7 (some .int) 5 := zq_MV_of TX11 8 (zq_tbI (zq_tk6 (List.mem_of_getElem? (i := 42) rfl)) rfl) (zq_tbI (zq_tk6 (List.mem_of_getElem? (i := 43) rfl)) rfl) (zq_tbI (zq_tk6 (List.mem_of_getElem? (i := 44) rfl)) rfl) (zq_tbI (zq_tk1 (List.mem_of_getElem? (i := 1) rfl)) rfl) (zq_tbI (zq_tk6 (List.mem_of_getElem? (i := 45) rfl)) rfl) rfl ⟨by decide, by decide, by decide +kernel⟩
theorem mL_166 : zq_MV "OrdersToldLaw" 166 11 yX11_sheet cX11_sheet 4 (some .int) 3 := zq_MV_of TX11 8 (zq_tbI (zq_tk6 (List.mem_of_getElem? (i := 51) rfl)) rfl) (zq_tbI (zq_tk6 (List.mem_of_getElem? (i := 52) rfl)) rfl) (zq_tbI (zq_tk6 (List.mem_of_getElem? (i := 53) rfl)) rfl) (zq_tbI (zq_tk1 (List.mem_of_getElem? (i := 1) rfl)) rfl) (zq_tbI (zq_tk6 (List.mem_of_getElem? (i := 54) rfl)) rfl) rfl ⟨by decide, by decide, by decide +kernel⟩
theorem mL_170 : zq_MV "OrdersToldLaw" 170 11 yX11_drop cX11_drop 2 (some .int) 1 := zq_MV_of TX11 8 (zq_tbI (zq_tk6 (List.mem_of_getElem? (i := 59) rfl)) rfl) (zq_tbI (zq_tk6 (List.mem_of_getElem? (i := 60) rfl)) rfl) (zq_tbI (zq_tk6 (List.mem_of_getElem? (i := 61) rfl)) rfl) (zq_tbI (zq_tk1 (List.mem_of_getElem? (i := 1) rfl)) rfl) (zq_tbI (zq_tk6 (List.mem_of_getElem? (i := 62) rfl)) rfl) rfl ⟨by decide, by decide, by decide +kernel⟩
theorem mL_174 : zq_MV "OrdersToldLaw" 174 11 yX11_item cX11_item 6 (some .int) 4 := zq_MV_of TX11 8 (zq_tbI (zq_tk6 (List.mem_of_getElem? (i := 67) rfl)) rfl) (zq_tbI (zq_tk6 (List.mem_of_getElem? (i := 68) rfl)) rfl) (zq_tbI (zq_tk6 (List.mem_of_getElem? (i := 69) rfl)) rfl) (zq_tbI (zq_tk1 (List.mem_of_getElem? (i := 1) rfl)) rfl) (zq_tbI (zq_tk6 (List.mem_of_getElem? (i := 70) rfl)) rfl) rfl ⟨by decide, by decide, by decide +kernel⟩
theorem iL_12 : zq_MI "OrdersToldLaw" 12 yX12_init cX12_init 2 0 := ⟨(zq_tbI (zq_tk6 (List.mem_of_getElem? (i := 79) rfl)) rfl), (zq_tbI (zq_tk1 (List.mem_of_getElem? (i := 14) rfl)) rfl), (zq_tbI (zq_tk6 (List.mem_of_getElem? (i := 77) rfl)) rfl), (zq_tbI (zq_tk6 (List.mem_of_getElem? (i := 78) rfl)) rfl), rfl, ⟨by decide, by decide, by decide +kernel⟩⟩
theorem mL_17 : zq_MV "OrdersToldLaw" 17 12 yX12_begin cX12_begin 4 (some .int) 3 := zq_MV_of TX12 65 (zq_tbI (zq_tk7 (List.mem_of_getElem? (i := 46) rfl)) rfl) (zq_tbI (zq_tk7 (List.mem_of_getElem? (i := 47) rfl)) rfl) (zq_tbI (zq_tk7 (List.mem_of_getElem? (i := 48) rfl)) rfl) (zq_tbI (zq_tk1 (List.mem_of_getElem? (i := 14) rfl)) rfl) (zq_tbI (zq_tk7 (List.mem_of_getElem? (i := 49) rfl)) rfl) rfl ⟨by decide, by decide, by decide +kernel⟩
theorem mL_24 : zq_MV "OrdersToldLaw" 24 12 yX12_type cX12_type 5 (some .int) 2 := zq_MV_of TX12 65 (zq_tbI (zq_tk7 (List.mem_of_getElem? (i := 58) rfl)) rfl) (zq_tbI (zq_tk7 (List.mem_of_getElem? (i := 59) rfl)) rfl) (zq_tbI (zq_tk7 (List.mem_of_getElem? (i := 60) rfl)) rfl) (zq_tbI (zq_tk1 (List.mem_of_getElem? (i := 14) rfl)) rfl) (zq_tbI (zq_tk7 (List.mem_of_getElem? (i := 61) rfl)) rfl) rfl ⟨by decide, by decide, by decide +kernel⟩
theorem mL_29 : zq_MV "OrdersToldLaw" 29 12 yX12_order cX12_order 3 (some .int) 0 := zq_MV_of TX12 65 (zq_tbI (zq_tk7 (List.mem_of_getElem? (i := 65) rfl)) rfl) (zq_tbI (zq_tk7 (List.mem_of_getElem? (i := 66) rfl)) rfl) (zq_tbI (zq_tk7 (List.mem_of_getElem? (i := 67) rfl)) rfl) (zq_tbI (zq_tk1 (List.mem_of_getElem? (i := 14) rfl)) rfl) (zq_tbI (zq_tk7 (List.mem_of_getElem? (i := 68) rfl)) rfl) rfl ⟨by decide, by decide, by decide +kernel⟩
theorem mL_33 : zq_MV "OrdersToldLaw" 33 12 yX12_shared cX12_shared 1 (some .int) 0 := zq_MV_of TX12 65 (zq_tbI (zq_tk7 (List.mem_of_getElem? (i := 144) rfl)) rfl) (zq_tbI (zq_tk7 (List.mem_of_getElem? (i := 145) rfl)) rfl) (zq_tbI (zq_tk7 (List.mem_of_getElem? (i := 146) rfl)) rfl) (zq_tbI (zq_tk1 (List.mem_of_getElem? (i := 14) rfl)) rfl) (zq_tbI (zq_tk7 (List.mem_of_getElem? (i := 147) rfl)) rfl) rfl ⟨by decide, by decide, by decide +kernel⟩
theorem mL_37 : zq_MV "OrdersToldLaw" 37 12 yX12_unorder cX12_unorder 1 (some .int) 0 := zq_MV_of TX12 65 (zq_tbI (zq_tk7 (List.mem_of_getElem? (i := 148) rfl)) rfl) (zq_tbI (zq_tk7 (List.mem_of_getElem? (i := 149) rfl)) rfl) (zq_tbI (zq_tk7 (List.mem_of_getElem? (i := 150) rfl)) rfl) (zq_tbI (zq_tk1 (List.mem_of_getElem? (i := 14) rfl)) rfl) (zq_tbI (zq_tk7 (List.mem_of_getElem? (i := 151) rfl)) rfl) rfl ⟨by decide, by decide, by decide +kernel⟩
theorem mL_42 : zq_MV "OrdersToldLaw" 42 12 yX12_about cX12_about 3 (some .int) 2 := zq_MV_of TX12 65 (zq_tbI (zq_tk7 (List.mem_of_getElem? (i := 152) rfl)) rfl) (zq_tbI (zq_tk7 (List.mem_of_getElem? (i := 153) rfl)) rfl) (zq_tbI (zq_tk7 (List.mem_of_getElem? (i := 154) rfl)) rfl) (zq_tbI (zq_tk1 (List.mem_of_getElem? (i := 14) rfl)) rfl) (zq_tbI (zq_tk7 (List.mem_of_getElem? (i := 155) rfl)) rfl) rfl ⟨by decide, by decide, by decide +kernel⟩
theorem mL_47 : zq_MV "OrdersToldLaw" 47 12 yX12_look cX12_look 2 (some .int) 1 := zq_MV_of TX12 65 (zq_tbI (zq_tk7 (List.mem_of_getElem? (i := 168) rfl)) rfl) (zq_tbI (zq_tk7 (List.mem_of_getElem? (i := 169) rfl)) rfl) (zq_tbI (zq_tk7 (List.mem_of_getElem? (i := 170) rfl)) rfl) (zq_tbI (zq_tk1 (List.mem_of_getElem? (i := 14) rfl)) rfl) (zq_tbI (zq_tk7 (List.mem_of_getElem? (i := 171) rfl)) rfl) rfl ⟨by decide, by decide, by decide +kernel⟩
theorem mL_51 : zq_MV "OrdersToldLaw" 51 12 yX12_field cX12_field 4 (some .int) 2 := zq_MV_of TX12 65 (zq_tbI (zq_tk7 (List.mem_of_getElem? (i := 188) rfl)) rfl) (zq_tbI (zq_tk7 (List.mem_of_getElem? (i := 189) rfl)) rfl) (zq_tbI (zq_tk7 (List.mem_of_getElem? (i := 190) rfl)) rfl) (zq_tbI (zq_tk1 (List.mem_of_getElem? (i := 14) rfl)) rfl) (zq_tbI (zq_tk7 (List.mem_of_getElem? (i := 191) rfl)) rfl) rfl ⟨by decide, by decide, by decide +kernel⟩
theorem mL_55 : zq_MV "OrdersToldLaw" 55 12 yX12_holes cX12_holes 3 (some .int) 0 := zq_MV_of TX12 65 (zq_tbI (zq_tk7 (List.mem_of_getElem? (i := 196) rfl)) rfl) (zq_tbI (zq_tk7 (List.mem_of_getElem? (i := 197) rfl)) rfl) (zq_tbI (zq_tk7 (List.mem_of_getElem? (i := 198) rfl)) rfl) (zq_tbI (zq_tk1 (List.mem_of_getElem? (i := 14) rfl)) rfl) (zq_tbI (zq_tk7 (List.mem_of_getElem? (i := 199) rfl)) rfl) rfl ⟨by decide, by decide, by decide +kernel⟩
theorem mL_59 : zq_MV "OrdersToldLaw" 59 12 yX12_hole cX12_hole 3 (some .int) 1 := zq_MV_of TX12 65 (zq_tbI (zq_tk7 (List.mem_of_getElem? (i := 200) rfl)) rfl) (zq_tbI (zq_tk7 (List.mem_of_getElem? (i := 201) rfl)) rfl) (zq_tbI (zq_tk7 (List.mem_of_getElem? (i := 202) rfl)) rfl) (zq_tbI (zq_tk1 (List.mem_of_getElem? (i := 14) rfl)) rfl) (zq_tbI (zq_tk7 (List.mem_of_getElem? (i := 203) rfl)) rfl) rfl ⟨by decide, by decide, by decide +kernel⟩
theorem mL_63 : zq_MV "OrdersToldLaw" 63 12 yX12_count cX12_count 2 (some .int) 1 := zq_MV_of TX12 65 (zq_tbI (zq_tk7 (List.mem_of_getElem? (i := 204) rfl)) rfl) (zq_tbI (zq_tk7 (List.mem_of_getElem? (i := 205) rfl)) rfl) (zq_tbI (zq_tk7 (List.mem_of_getElem? (i := 206) rfl)) rfl) (zq_tbI (zq_tk1 (List.mem_of_getElem? (i := 14) rfl)) rfl) (zq_tbI (zq_tk7 (List.mem_of_getElem? (i := 207) rfl)) rfl) rfl ⟨by decide, by decide, by decide +kernel⟩
theorem mL_67 : zq_MV "OrdersToldLaw" 67 12 yX12_reads cX12_reads 6 (some .int) 1 := zq_MV_of TX12 65 (zq_tbI (zq_tk7 (List.mem_of_getElem? (i := 208) rfl)) rfl) (zq_tbI (zq_tk7 (List.mem_of_getElem? (i := 209) rfl)) rfl) (zq_tbI (zq_tk7 (List.mem_of_getElem? (i := 210) rfl)) rfl) (zq_tbI (zq_tk1 (List.mem_of_getElem? (i := 14) rfl)) rfl) (zq_tbI (zq_tk7 (List.mem_of_getElem? (i := 211) rfl)) rfl) rfl ⟨by decide, by decide, by decide +kernel⟩
theorem mL_71 : zq_MV "OrdersToldLaw" 71 12 yX12_writes cX12_writes 7 (some .int) 1 := zq_MV_of TX12 65 (zq_tbI (zq_tk8 (List.mem_of_getElem? (i := 19) rfl)) rfl) (zq_tbI (zq_tk8 (List.mem_of_getElem? (i := 20) rfl)) rfl) (zq_tbI (zq_tk8 (List.mem_of_getElem? (i := 21) rfl)) rfl) (zq_tbI (zq_tk1 (List.mem_of_getElem? (i := 14) rfl)) rfl) (zq_tbI (zq_tk8 (List.mem_of_getElem? (i := 22) rfl)) rfl) rfl ⟨by decide, by decide, by decide +kernel⟩
theorem mL_75 : zq_MV "OrdersToldLaw" 75 12 yX12_like cX12_like 7 (some .int) 2 := zq_MV_of TX12 65 (zq_tbI (zq_tk8 (List.mem_of_getElem? (i := 23) rfl)) rfl) (zq_tbI (zq_tk8 (List.mem_of_getElem? (i := 24) rfl)) rfl) (zq_tbI (zq_tk8 (List.mem_of_getElem? (i := 25) rfl)) rfl) (zq_tbI (zq_tk1 (List.mem_of_getElem? (i := 14) rfl)) rfl) (zq_tbI (zq_tk8 (List.mem_of_getElem? (i := 26) rfl)) rfl) rfl ⟨by decide, by decide, by decide +kernel⟩
theorem mL_79 : zq_MV "OrdersToldLaw" 79 12 yX12_put cX12_put 4 (some .int) 2 := zq_MV_of TX12 65 (zq_tbI (zq_tk8 (List.mem_of_getElem? (i := 27) rfl)) rfl) (zq_tbI (zq_tk8 (List.mem_of_getElem? (i := 28) rfl)) rfl) (zq_tbI (zq_tk8 (List.mem_of_getElem? (i := 29) rfl)) rfl) (zq_tbI (zq_tk1 (List.mem_of_getElem? (i := 14) rfl)) rfl) (zq_tbI (zq_tk8 (List.mem_of_getElem? (i := 30) rfl)) rfl) rfl ⟨by decide, by decide, by decide +kernel⟩
theorem mL_83 : zq_MV "OrdersToldLaw" 83 12 yX12_code cX12_code 2 (some .int) 1 := zq_MV_of TX12 65 (zq_tbI (zq_tk8 (List.mem_of_getElem? (i := 32) rfl)) rfl) (zq_tbI (zq_tk8 (List.mem_of_getElem? (i := 33) rfl)) rfl) (zq_tbI (zq_tk8 (List.mem_of_getElem? (i := 34) rfl)) rfl) (zq_tbI (zq_tk1 (List.mem_of_getElem? (i := 14) rfl)) rfl) (zq_tbI (zq_tk8 (List.mem_of_getElem? (i := 35) rfl)) rfl) rfl ⟨by decide, by decide, by decide +kernel⟩
theorem mL_87 : zq_MV "OrdersToldLaw" 87 12 yX12_set cX12_set 7 (some .int) 3 := zq_MV_of TX12 65 (zq_tbI (zq_tk8 (List.mem_of_getElem? (i := 36) rfl)) rfl) (zq_tbI (zq_tk8 (List.mem_of_getElem? (i := 37) rfl)) rfl) (zq_tbI (zq_tk8 (List.mem_of_getElem? (i := 38) rfl)) rfl) (zq_tbI (zq_tk1 (List.mem_of_getElem? (i := 14) rfl)) rfl) (zq_tbI (zq_tk8 (List.mem_of_getElem? (i := 39) rfl)) rfl) rfl ⟨by decide, by decide, by decide +kernel⟩
theorem mL_91 : zq_MV "OrdersToldLaw" 91 12 yX12_get cX12_get 4 (some .int) 2 := zq_MV_of TX12 65 (zq_tbI (zq_tk8 (List.mem_of_getElem? (i := 48) rfl)) rfl) (zq_tbI (zq_tk8 (List.mem_of_getElem? (i := 49) rfl)) rfl) (zq_tbI (zq_tk8 (List.mem_of_getElem? (i := 50) rfl)) rfl) (zq_tbI (zq_tk1 (List.mem_of_getElem? (i := 14) rfl)) rfl) (zq_tbI (zq_tk8 (List.mem_of_getElem? (i := 51) rfl)) rfl) rfl ⟨by decide, by decide, by decide +kernel⟩
theorem mL_95 : zq_MV "OrdersToldLaw" 95 12 yX12_reset cX12_reset 1 (some .int) 0 := zq_MV_of TX12 65 (zq_tbI (zq_tk8 (List.mem_of_getElem? (i := 52) rfl)) rfl) (zq_tbI (zq_tk8 (List.mem_of_getElem? (i := 53) rfl)) rfl) (zq_tbI (zq_tk8 (List.mem_of_getElem? (i := 54) rfl)) rfl) (zq_tbI (zq_tk1 (List.mem_of_getElem? (i := 14) rfl)) rfl) (zq_tbI (zq_tk8 (List.mem_of_getElem? (i := 55) rfl)) rfl) rfl ⟨by decide, by decide, by decide +kernel⟩
theorem mL_99 : zq_MV "OrdersToldLaw" 99 12 yX12_run cX12_run 3 (some .int) 1 := zq_MV_of TX12 65 (zq_tbI (zq_tk8 (List.mem_of_getElem? (i := 56) rfl)) rfl) (zq_tbI (zq_tk8 (List.mem_of_getElem? (i := 57) rfl)) rfl) (zq_tbI (zq_tk8 (List.mem_of_getElem? (i := 58) rfl)) rfl) (zq_tbI (zq_tk1 (List.mem_of_getElem? (i := 14) rfl)) rfl) (zq_tbI (zq_tk8 (List.mem_of_getElem? (i := 59) rfl)) rfl) rfl ⟨by decide, by decide, by decide +kernel⟩
theorem mL_103 : zq_MV "OrdersToldLaw" 103 12 yX12_back cX12_back 3 (some .int) 1 := zq_MV_of TX12 65 (zq_tbI (zq_tk8 (List.mem_of_getElem? (i := 97) rfl)) rfl) (zq_tbI (zq_tk8 (List.mem_of_getElem? (i := 98) rfl)) rfl) (zq_tbI (zq_tk8 (List.mem_of_getElem? (i := 99) rfl)) rfl) (zq_tbI (zq_tk1 (List.mem_of_getElem? (i := 14) rfl)) rfl) (zq_tbI (zq_tk8 (List.mem_of_getElem? (i := 100) rfl)) rfl) rfl ⟨by decide, by decide, by decide +kernel⟩
theorem mL_107 : zq_MV "OrdersToldLaw" 107 12 yX12_so cX12_so 2 (some .int) 1 := zq_MV_of TX12 65 (zq_tbI (zq_tk8 (List.mem_of_getElem? (i := 102) rfl)) rfl) (zq_tbI (zq_tk8 (List.mem_of_getElem? (i := 103) rfl)) rfl) (zq_tbI (zq_tk8 (List.mem_of_getElem? (i := 104) rfl)) rfl) (zq_tbI (zq_tk1 (List.mem_of_getElem? (i := 14) rfl)) rfl) (zq_tbI (zq_tk8 (List.mem_of_getElem? (i := 105) rfl)) rfl) rfl ⟨by decide, by decide, by decide +kernel⟩
theorem mL_111 : zq_MV "OrdersToldLaw" 111 12 yX12_flush cX12_flush 3 (some .int) 1 := zq_MV_of TX12 65 (zq_tbI (zq_tk8 (List.mem_of_getElem? (i := 106) rfl)) rfl) (zq_tbI (zq_tk8 (List.mem_of_getElem? (i := 107) rfl)) rfl) (zq_tbI (zq_tk8 (List.mem_of_getElem? (i := 108) rfl)) rfl) (zq_tbI (zq_tk1 (List.mem_of_getElem? (i := 14) rfl)) rfl) (zq_tbI (zq_tk8 (List.mem_of_getElem? (i := 109) rfl)) rfl) rfl ⟨by decide, by decide, by decide +kernel⟩
theorem mL_115 : zq_MV "OrdersToldLaw" 115 12 yX12_line cX12_line 2 (some .int) 0 := zq_MV_of TX12 65 (zq_tbI (zq_tk8 (List.mem_of_getElem? (i := 111) rfl)) rfl) (zq_tbI (zq_tk8 (List.mem_of_getElem? (i := 112) rfl)) rfl) (zq_tbI (zq_tk8 (List.mem_of_getElem? (i := 113) rfl)) rfl) (zq_tbI (zq_tk1 (List.mem_of_getElem? (i := 14) rfl)) rfl) (zq_tbI (zq_tk8 (List.mem_of_getElem? (i := 114) rfl)) rfl) rfl ⟨by decide, by decide, by decide +kernel⟩
theorem mL_119 : zq_MV "OrdersToldLaw" 119 12 yX12_text cX12_text 4 (some .int) 2 := zq_MV_of TX12 65 (zq_tbI (zq_tk8 (List.mem_of_getElem? (i := 123) rfl)) rfl) (zq_tbI (zq_tk8 (List.mem_of_getElem? (i := 124) rfl)) rfl) (zq_tbI (zq_tk8 (List.mem_of_getElem? (i := 125) rfl)) rfl) (zq_tbI (zq_tk1 (List.mem_of_getElem? (i := 14) rfl)) rfl) (zq_tbI (zq_tk8 (List.mem_of_getElem? (i := 126) rfl)) rfl) rfl ⟨by decide, by decide, by decide +kernel⟩
theorem mL_123 : zq_MV "OrdersToldLaw" 123 12 yX12_variables cX12_variables 3 (some .int) 1 := zq_MV_of TX12 65 (zq_tbI (zq_tk8 (List.mem_of_getElem? (i := 135) rfl)) rfl) (zq_tbI (zq_tk8 (List.mem_of_getElem? (i := 136) rfl)) rfl) (zq_tbI (zq_tk8 (List.mem_of_getElem? (i := 137) rfl)) rfl) (zq_tbI (zq_tk1 (List.mem_of_getElem? (i := 14) rfl)) rfl) (zq_tbI (zq_tk8 (List.mem_of_getElem? (i := 138) rfl)) rfl) rfl ⟨by decide, by decide, by decide +kernel⟩
theorem mL_127 : zq_MV "OrdersToldLaw" 127 12 yX12_sum cX12_sum 3 (some .int) 0 := zq_MV_of TX12 65 (zq_tbI (zq_tk8 (List.mem_of_getElem? (i := 139) rfl)) rfl) (zq_tbI (zq_tk8 (List.mem_of_getElem? (i := 140) rfl)) rfl) (zq_tbI (zq_tk8 (List.mem_of_getElem? (i := 141) rfl)) rfl) (zq_tbI (zq_tk1 (List.mem_of_getElem? (i := 14) rfl)) rfl) (zq_tbI (zq_tk8 (List.mem_of_getElem? (i := 142) rfl)) rfl) rfl ⟨by decide, by decide, by decide +kernel⟩
theorem mL_131 : zq_MV "OrdersToldLaw" 131 12 yX12_price cX12_price 2 (some .int) 0 := zq_MV_of TX12 65 (zq_tbI (zq_tk8 (List.mem_of_getElem? (i := 155) rfl)) rfl) (zq_tbI (zq_tk8 (List.mem_of_getElem? (i := 156) rfl)) rfl) (zq_tbI (zq_tk8 (List.mem_of_getElem? (i := 157) rfl)) rfl) (zq_tbI (zq_tk1 (List.mem_of_getElem? (i := 14) rfl)) rfl) (zq_tbI (zq_tk8 (List.mem_of_getElem? (i := 158) rfl)) rfl) rfl ⟨by decide, by decide, by decide +kernel⟩
theorem mL_135 : zq_MV "OrdersToldLaw" 135 12 yX12_make cX12_make 4 (some .int) 1 := zq_MV_of TX12 65 (zq_tbI (zq_tk8 (List.mem_of_getElem? (i := 179) rfl)) rfl) (zq_tbI (zq_tk8 (List.mem_of_getElem? (i := 180) rfl)) rfl) (zq_tbI (zq_tk8 (List.mem_of_getElem? (i := 181) rfl)) rfl) (zq_tbI (zq_tk1 (List.mem_of_getElem? (i := 14) rfl)) rfl) (zq_tbI (zq_tk8 (List.mem_of_getElem? (i := 182) rfl)) rfl) rfl ⟨by decide, by decide, by decide +kernel⟩
theorem mL_139 : zq_MV "OrdersToldLaw" 139 12 yX12_value cX12_value 2 (some .int) 0 := zq_MV_of TX12 65 (zq_tbI (zq_tk8 (List.mem_of_getElem? (i := 195) rfl)) rfl) (zq_tbI (zq_tk8 (List.mem_of_getElem? (i := 196) rfl)) rfl) (zq_tbI (zq_tk8 (List.mem_of_getElem? (i := 197) rfl)) rfl) (zq_tbI (zq_tk1 (List.mem_of_getElem? (i := 14) rfl)) rfl) (zq_tbI (zq_tk8 (List.mem_of_getElem? (i := 198) rfl)) rfl) rfl ⟨by decide, by decide, by decide +kernel⟩
theorem mL_143 : zq_MV "OrdersToldLaw" 143 12 yX12_pairs cX12_pairs 4 (some .int) 3 := zq_MV_of TX12 65 (zq_tbI (zq_tk8 (List.mem_of_getElem? (i := 199) rfl)) rfl) (zq_tbI (zq_tk8 (List.mem_of_getElem? (i := 200) rfl)) rfl) (zq_tbI (zq_tk8 (List.mem_of_getElem? (i := 201) rfl)) rfl) (zq_tbI (zq_tk1 (List.mem_of_getElem? (i := 14) rfl)) rfl) (zq_tbI (zq_tk8 (List.mem_of_getElem? (i := 202) rfl)) rfl) rfl ⟨by decide, by decide, by decide +kernel⟩
theorem mL_147 : zq_MV "OrdersToldLaw" 147 12 yX12_room cX12_room 3 (some .int) 2 := zq_MV_of TX12 65 (zq_tbI (zq_tk8 (List.mem_of_getElem? (i := 212) rfl)) rfl) (zq_tbI (zq_tk8 (List.mem_of_getElem? (i := 213) rfl)) rfl) (zq_tbI (zq_tk8 (List.mem_of_getElem? (i := 214) rfl)) rfl) (zq_tbI (zq_tk1 (List.mem_of_getElem? (i := 14) rfl)) rfl) (zq_tbI (zq_tk8 (List.mem_of_getElem? (i := 215) rfl)) rfl) rfl ⟨by decide, by decide, by decide +kernel⟩
theorem mL_151 : zq_MV "OrdersToldLaw" 151 12 yX12_best cX12_best 7 (some .int) 1 := zq_MV_of TX12 65 (zq_tbI (zq_tk8 (List.mem_of_getElem? (i := 220) rfl)) rfl) (zq_tbI (zq_tk8 (List.mem_of_getElem? (i := 221) rfl)) rfl) (zq_tbI (zq_tk8 (List.mem_of_getElem? (i := 222) rfl)) rfl) (zq_tbI (zq_tk1 (List.mem_of_getElem? (i := 14) rfl)) rfl) (zq_tbI (zq_tk8 (List.mem_of_getElem? (i := 223) rfl)) rfl) rfl ⟨by decide, by decide, by decide +kernel⟩
theorem mL_155 : zq_MV "OrdersToldLaw" 155 12 yX12_join cX12_join 6 (some .int) 2 := zq_MV_of TX12 65 (zq_tbI (zq_tk8 (List.mem_of_getElem? (i := 224) rfl)) rfl) (zq_tbI (zq_tk8 (List.mem_of_getElem? (i := 225) rfl)) rfl) (zq_tbI (zq_tk8 (List.mem_of_getElem? (i := 226) rfl)) rfl) (zq_tbI (zq_tk1 (List.mem_of_getElem? (i := 14) rfl)) rfl) (zq_tbI (zq_tk8 (List.mem_of_getElem? (i := 227) rfl)) rfl) rfl ⟨by decide, by decide, by decide +kernel⟩
theorem mL_160 : zq_MV "OrdersToldLaw" 160 12 yX12_log cX12_log 9 (some .int) 4 := zq_MV_of TX12 65 (zq_tbI (zq_tk8 (List.mem_of_getElem? (i := 232) rfl)) rfl) (zq_tbI (zq_tk8 (List.mem_of_getElem? (i := 233) rfl)) rfl) (zq_tbI (zq_tk8 (List.mem_of_getElem? (i := 234) rfl)) rfl) (zq_tbI (zq_tk1 (List.mem_of_getElem? (i := 14) rfl)) rfl) (zq_tbI (zq_tk8 (List.mem_of_getElem? (i := 235) rfl)) rfl) rfl ⟨by decide, by decide, by decide +kernel⟩
theorem mL_165 : zq_MV "OrdersToldLaw" 165 12 yX12_load cX12_load 9 (some .int) 5 := zq_MV_of TX12 65 (zq_tbI (zq_tk9 (List.mem_of_getElem? (i := 8) rfl)) rfl) (zq_tbI (zq_tk9 (List.mem_of_getElem? (i := 9) rfl)) rfl) (zq_tbI (zq_tk9 (List.mem_of_getElem? (i := 10) rfl)) rfl) (zq_tbI (zq_tk1 (List.mem_of_getElem? (i := 14) rfl)) rfl) (zq_tbI (zq_tk9 (List.mem_of_getElem? (i := 11) rfl)) rfl) rfl ⟨by decide, by decide, by decide +kernel⟩
theorem mL_169 : zq_MV "OrdersToldLaw" 169 12 yX12_sheet cX12_sheet 5 (some .int) 3 := zq_MV_of TX12 65 (zq_tbI (zq_tk9 (List.mem_of_getElem? (i := 13) rfl)) rfl) (zq_tbI (zq_tk9 (List.mem_of_getElem? (i := 14) rfl)) rfl) (zq_tbI (zq_tk9 (List.mem_of_getElem? (i := 15) rfl)) rfl) (zq_tbI (zq_tk1 (List.mem_of_getElem? (i := 14) rfl)) rfl) (zq_tbI (zq_tk9 (List.mem_of_getElem? (i := 16) rfl)) rfl) rfl ⟨by decide, by decide, by decide +kernel⟩
theorem mL_173 : zq_MV "OrdersToldLaw" 173 12 yX12_drop cX12_drop 2 (some .int) 1 := zq_MV_of TX12 65 (zq_tbI (zq_tk9 (List.mem_of_getElem? (i := 17) rfl)) rfl) (zq_tbI (zq_tk9 (List.mem_of_getElem? (i := 18) rfl)) rfl) (zq_tbI (zq_tk9 (List.mem_of_getElem? (i := 19) rfl)) rfl) (zq_tbI (zq_tk1 (List.mem_of_getElem? (i := 14) rfl)) rfl) (zq_tbI (zq_tk9 (List.mem_of_getElem? (i := 20) rfl)) rfl) rfl ⟨by decide, by decide, by decide +kernel⟩
theorem mL_177 : zq_MV "OrdersToldLaw" 177 12 yX12_item cX12_item 6 (some .int) 4 := zq_MV_of TX12 65 (zq_tbI (zq_tk9 (List.mem_of_getElem? (i := 21) rfl)) rfl) (zq_tbI (zq_tk9 (List.mem_of_getElem? (i := 22) rfl)) rfl) (zq_tbI (zq_tk9 (List.mem_of_getElem? (i := 23) rfl)) rfl) (zq_tbI (zq_tk1 (List.mem_of_getElem? (i := 14) rfl)) rfl) (zq_tbI (zq_tk9 (List.mem_of_getElem? (i := 24) rfl)) rfl) rfl ⟨by decide, by decide, by decide +kernel⟩
theorem cL_7 : Cond.classLink "OrdersToldLaw" 7 RX11 ∈ zq_tb := (zq_tbI (zq_tk1 (List.mem_of_getElem? (i := 18) rfl)) rfl)
theorem cL_10 : Cond.classLink "OrdersToldLaw" 10 RX12 ∈ zq_tb := (zq_tbI (zq_tk6 (List.mem_of_getElem? (i := 75) rfl)) rfl)
theorem kL_18 : Cond.constantLong "OrdersToldLaw" 18 4294967295 ∈ zq_tb := (zq_tbI (zq_tk9 (List.mem_of_getElem? (i := 25) rfl)) rfl)
