/-! ===== the law, case by case ===== -/
theorem dL_law_0 : decode code 0 = .ok (.new 7, 3) := by decide +kernel
theorem dL_law_3 : decode code 3 = .ok (.dup, 1) := by decide +kernel
theorem dL_law_4 : decode code 4 = .ok (.invokespecial 9, 3) := by decide +kernel
theorem dL_law_7 : decode code 7 = .ok (.astore_n 1, 1) := by decide +kernel
theorem dL_law_8 : decode code 8 = .ok (.new 10, 3) := by decide +kernel
theorem dL_law_11 : decode code 11 = .ok (.dup, 1) := by decide +kernel
theorem dL_law_12 : decode code 12 = .ok (.invokespecial 12, 3) := by decide +kernel
theorem dL_law_15 : decode code 15 = .ok (.astore_n 2, 1) := by decide +kernel
theorem dL_law_16 : decode code 16 = .ok (.iconst 0, 1) := by decide +kernel
theorem dL_law_17 : decode code 17 = .ok (.istore_n 3, 1) := by decide +kernel
theorem dL_law_18 : decode code 18 = .ok (.iload_n 3, 1) := by decide +kernel
theorem dL_law_19 : decode code 19 = .ok (.aload_n 0, 1) := by decide +kernel
theorem dL_law_20 : decode code 20 = .ok (.arraylength, 1) := by decide +kernel
theorem dL_law_21 : decode code 21 = .ok (.iconst 5, 1) := by decide +kernel
theorem dL_law_22 : decode code 22 = .ok (.isub, 1) := by decide +kernel
theorem dL_law_23 : decode code 23 = .ok (.if_icmp .gt 1313, 3) := by decide +kernel
theorem dL_law_26 : decode code 26 = .ok (.aload_n 0, 1) := by decide +kernel
theorem dL_law_27 : decode code 27 = .ok (.iload_n 3, 1) := by decide +kernel
theorem dL_law_28 : decode code 28 = .ok (.iaload, 1) := by decide +kernel
theorem dL_law_29 : decode code 29 = .ok (.bipush 63, 2) := by decide +kernel
theorem dL_law_31 : decode code 31 = .ok (.iand, 1) := by decide +kernel
theorem dL_law_32 : decode code 32 = .ok (.tableswitch 1298 0 39 #[176, 209, 252, 265, 278, 327, 360, 393, 406, 419, 432, 445, 458, 471, 484, 517, 586, 599, 612, 665, 698, 747, 780, 793, 806, 866, 889, 902, 925, 938, 1014, 1027, 1040, 1053, 1066, 1089, 1129, 1162, 1232, 1275], 176) := by decide +kernel
theorem dL_law_208 : decode code 208 = .ok (.aload_n 1, 1) := by decide +kernel
theorem dL_law_209 : decode code 209 = .ok (.aload_n 0, 1) := by decide +kernel
theorem dL_law_210 : decode code 210 = .ok (.iload_n 3, 1) := by decide +kernel
theorem dL_law_211 : decode code 211 = .ok (.iconst 1, 1) := by decide +kernel
theorem dL_law_212 : decode code 212 = .ok (.iadd, 1) := by decide +kernel
theorem dL_law_213 : decode code 213 = .ok (.iaload, 1) := by decide +kernel
theorem dL_law_214 : decode code 214 = .ok (.aload_n 0, 1) := by decide +kernel
theorem dL_law_215 : decode code 215 = .ok (.iload_n 3, 1) := by decide +kernel
theorem dL_law_216 : decode code 216 = .ok (.iconst 2, 1) := by decide +kernel
theorem dL_law_217 : decode code 217 = .ok (.iadd, 1) := by decide +kernel
theorem dL_law_218 : decode code 218 = .ok (.iaload, 1) := by decide +kernel
theorem dL_law_219 : decode code 219 = .ok (.invokevirtual 13, 3) := by decide +kernel
theorem dL_law_222 : decode code 222 = .ok (.aload_n 2, 1) := by decide +kernel
theorem dL_law_223 : decode code 223 = .ok (.aload_n 0, 1) := by decide +kernel
theorem dL_law_224 : decode code 224 = .ok (.iload_n 3, 1) := by decide +kernel
theorem dL_law_225 : decode code 225 = .ok (.iconst 1, 1) := by decide +kernel
theorem dL_law_226 : decode code 226 = .ok (.iadd, 1) := by decide +kernel
theorem dL_law_227 : decode code 227 = .ok (.iaload, 1) := by decide +kernel
theorem dL_law_228 : decode code 228 = .ok (.aload_n 0, 1) := by decide +kernel
theorem dL_law_229 : decode code 229 = .ok (.iload_n 3, 1) := by decide +kernel
theorem dL_law_230 : decode code 230 = .ok (.iconst 2, 1) := by decide +kernel
theorem dL_law_231 : decode code 231 = .ok (.iadd, 1) := by decide +kernel
theorem dL_law_232 : decode code 232 = .ok (.iaload, 1) := by decide +kernel
theorem dL_law_233 : decode code 233 = .ok (.invokevirtual 17, 3) := by decide +kernel
theorem dL_law_236 : decode code 236 = .ok (.if_icmp .eq 1094, 3) := by decide +kernel
theorem dL_law_239 : decode code 239 = .ok (.iconst 0, 1) := by decide +kernel
theorem dL_law_240 : decode code 240 = .ok (.ireturn, 1) := by decide +kernel
theorem dL_law_241 : decode code 241 = .ok (.aload_n 1, 1) := by decide +kernel
theorem dL_law_242 : decode code 242 = .ok (.aload_n 0, 1) := by decide +kernel
theorem dL_law_243 : decode code 243 = .ok (.iload_n 3, 1) := by decide +kernel
theorem dL_law_244 : decode code 244 = .ok (.iconst 1, 1) := by decide +kernel
theorem dL_law_245 : decode code 245 = .ok (.iadd, 1) := by decide +kernel
theorem dL_law_246 : decode code 246 = .ok (.iaload, 1) := by decide +kernel
theorem dL_law_247 : decode code 247 = .ok (.aload_n 0, 1) := by decide +kernel
theorem dL_law_248 : decode code 248 = .ok (.iload_n 3, 1) := by decide +kernel
theorem dL_law_249 : decode code 249 = .ok (.iconst 2, 1) := by decide +kernel
theorem dL_law_250 : decode code 250 = .ok (.iadd, 1) := by decide +kernel
theorem dL_law_251 : decode code 251 = .ok (.iaload, 1) := by decide +kernel
theorem dL_law_252 : decode code 252 = .ok (.aload_n 0, 1) := by decide +kernel
theorem dL_law_253 : decode code 253 = .ok (.iload_n 3, 1) := by decide +kernel
theorem dL_law_254 : decode code 254 = .ok (.iconst 3, 1) := by decide +kernel
theorem dL_law_255 : decode code 255 = .ok (.iadd, 1) := by decide +kernel
theorem dL_law_256 : decode code 256 = .ok (.iaload, 1) := by decide +kernel
theorem dL_law_257 : decode code 257 = .ok (.invokevirtual 18, 3) := by decide +kernel
theorem dL_law_260 : decode code 260 = .ok (.aload_n 2, 1) := by decide +kernel
theorem dL_law_261 : decode code 261 = .ok (.aload_n 0, 1) := by decide +kernel
theorem dL_law_262 : decode code 262 = .ok (.iload_n 3, 1) := by decide +kernel
theorem dL_law_263 : decode code 263 = .ok (.iconst 1, 1) := by decide +kernel
theorem dL_law_264 : decode code 264 = .ok (.iadd, 1) := by decide +kernel
theorem dL_law_265 : decode code 265 = .ok (.iaload, 1) := by decide +kernel
theorem dL_law_266 : decode code 266 = .ok (.aload_n 0, 1) := by decide +kernel
theorem dL_law_267 : decode code 267 = .ok (.iload_n 3, 1) := by decide +kernel
theorem dL_law_268 : decode code 268 = .ok (.iconst 2, 1) := by decide +kernel
theorem dL_law_269 : decode code 269 = .ok (.iadd, 1) := by decide +kernel
theorem dL_law_270 : decode code 270 = .ok (.iaload, 1) := by decide +kernel
theorem dL_law_271 : decode code 271 = .ok (.aload_n 0, 1) := by decide +kernel
theorem dL_law_272 : decode code 272 = .ok (.iload_n 3, 1) := by decide +kernel
theorem dL_law_273 : decode code 273 = .ok (.iconst 3, 1) := by decide +kernel
theorem dL_law_274 : decode code 274 = .ok (.iadd, 1) := by decide +kernel
theorem dL_law_275 : decode code 275 = .ok (.iaload, 1) := by decide +kernel
theorem dL_law_276 : decode code 276 = .ok (.invokevirtual 22, 3) := by decide +kernel
theorem dL_law_279 : decode code 279 = .ok (.if_icmp .eq 1051, 3) := by decide +kernel
theorem dL_law_282 : decode code 282 = .ok (.iconst 0, 1) := by decide +kernel
theorem dL_law_283 : decode code 283 = .ok (.ireturn, 1) := by decide +kernel
theorem dL_law_284 : decode code 284 = .ok (.aload_n 1, 1) := by decide +kernel
theorem dL_law_285 : decode code 285 = .ok (.invokevirtual 23, 3) := by decide +kernel
theorem dL_law_288 : decode code 288 = .ok (.aload_n 2, 1) := by decide +kernel
theorem dL_law_289 : decode code 289 = .ok (.invokevirtual 27, 3) := by decide +kernel
theorem dL_law_292 : decode code 292 = .ok (.if_icmp .eq 1038, 3) := by decide +kernel
theorem dL_law_295 : decode code 295 = .ok (.iconst 0, 1) := by decide +kernel
theorem dL_law_296 : decode code 296 = .ok (.ireturn, 1) := by decide +kernel
theorem dL_law_297 : decode code 297 = .ok (.aload_n 1, 1) := by decide +kernel
theorem dL_law_298 : decode code 298 = .ok (.invokevirtual 28, 3) := by decide +kernel
theorem dL_law_301 : decode code 301 = .ok (.aload_n 2, 1) := by decide +kernel
theorem dL_law_302 : decode code 302 = .ok (.invokevirtual 31, 3) := by decide +kernel
theorem dL_law_305 : decode code 305 = .ok (.if_icmp .eq 1025, 3) := by decide +kernel
theorem dL_law_308 : decode code 308 = .ok (.iconst 0, 1) := by decide +kernel
theorem dL_law_309 : decode code 309 = .ok (.ireturn, 1) := by decide +kernel
theorem dL_law_310 : decode code 310 = .ok (.aload_n 1, 1) := by decide +kernel
theorem dL_law_311 : decode code 311 = .ok (.aload_n 0, 1) := by decide +kernel
theorem dL_law_312 : decode code 312 = .ok (.iload_n 3, 1) := by decide +kernel
theorem dL_law_313 : decode code 313 = .ok (.iconst 1, 1) := by decide +kernel
theorem dL_law_314 : decode code 314 = .ok (.iadd, 1) := by decide +kernel
theorem dL_law_315 : decode code 315 = .ok (.iaload, 1) := by decide +kernel
theorem dL_law_316 : decode code 316 = .ok (.aload_n 0, 1) := by decide +kernel
theorem dL_law_317 : decode code 317 = .ok (.iload_n 3, 1) := by decide +kernel
theorem dL_law_318 : decode code 318 = .ok (.iconst 2, 1) := by decide +kernel
theorem dL_law_319 : decode code 319 = .ok (.iadd, 1) := by decide +kernel
theorem dL_law_320 : decode code 320 = .ok (.iaload, 1) := by decide +kernel
theorem dL_law_321 : decode code 321 = .ok (.ifCond .eq 7, 3) := by decide +kernel
theorem dL_law_324 : decode code 324 = .ok (.iconst 1, 1) := by decide +kernel
theorem dL_law_325 : decode code 325 = .ok (.goto 4, 3) := by decide +kernel
theorem dL_law_328 : decode code 328 = .ok (.iconst 0, 1) := by decide +kernel
theorem dL_law_329 : decode code 329 = .ok (.invokevirtual 32, 3) := by decide +kernel
theorem dL_law_332 : decode code 332 = .ok (.aload_n 2, 1) := by decide +kernel
theorem dL_law_333 : decode code 333 = .ok (.aload_n 0, 1) := by decide +kernel
theorem dL_law_334 : decode code 334 = .ok (.iload_n 3, 1) := by decide +kernel
theorem dL_law_335 : decode code 335 = .ok (.iconst 1, 1) := by decide +kernel
theorem dL_law_336 : decode code 336 = .ok (.iadd, 1) := by decide +kernel
theorem dL_law_337 : decode code 337 = .ok (.iaload, 1) := by decide +kernel
theorem dL_law_338 : decode code 338 = .ok (.aload_n 0, 1) := by decide +kernel
theorem dL_law_339 : decode code 339 = .ok (.iload_n 3, 1) := by decide +kernel
theorem dL_law_340 : decode code 340 = .ok (.iconst 2, 1) := by decide +kernel
theorem dL_law_341 : decode code 341 = .ok (.iadd, 1) := by decide +kernel
theorem dL_law_342 : decode code 342 = .ok (.iaload, 1) := by decide +kernel
theorem dL_law_343 : decode code 343 = .ok (.ifCond .eq 7, 3) := by decide +kernel
theorem dL_law_346 : decode code 346 = .ok (.iconst 1, 1) := by decide +kernel
theorem dL_law_347 : decode code 347 = .ok (.goto 4, 3) := by decide +kernel
theorem dL_law_350 : decode code 350 = .ok (.iconst 0, 1) := by decide +kernel
theorem dL_law_351 : decode code 351 = .ok (.invokevirtual 36, 3) := by decide +kernel
theorem dL_law_354 : decode code 354 = .ok (.if_icmp .eq 976, 3) := by decide +kernel
theorem dL_law_357 : decode code 357 = .ok (.iconst 0, 1) := by decide +kernel
theorem dL_law_358 : decode code 358 = .ok (.ireturn, 1) := by decide +kernel
theorem dL_law_359 : decode code 359 = .ok (.aload_n 1, 1) := by decide +kernel
theorem dL_law_360 : decode code 360 = .ok (.aload_n 0, 1) := by decide +kernel
theorem dL_law_361 : decode code 361 = .ok (.iload_n 3, 1) := by decide +kernel
theorem dL_law_362 : decode code 362 = .ok (.iconst 1, 1) := by decide +kernel
theorem dL_law_363 : decode code 363 = .ok (.iadd, 1) := by decide +kernel
theorem dL_law_364 : decode code 364 = .ok (.iaload, 1) := by decide +kernel
theorem dL_law_365 : decode code 365 = .ok (.aload_n 0, 1) := by decide +kernel
theorem dL_law_366 : decode code 366 = .ok (.iload_n 3, 1) := by decide +kernel
theorem dL_law_367 : decode code 367 = .ok (.iconst 2, 1) := by decide +kernel
theorem dL_law_368 : decode code 368 = .ok (.iadd, 1) := by decide +kernel
theorem dL_law_369 : decode code 369 = .ok (.iaload, 1) := by decide +kernel
theorem dL_law_370 : decode code 370 = .ok (.invokevirtual 37, 3) := by decide +kernel
theorem dL_law_373 : decode code 373 = .ok (.aload_n 2, 1) := by decide +kernel
theorem dL_law_374 : decode code 374 = .ok (.aload_n 0, 1) := by decide +kernel
theorem dL_law_375 : decode code 375 = .ok (.iload_n 3, 1) := by decide +kernel
theorem dL_law_376 : decode code 376 = .ok (.iconst 1, 1) := by decide +kernel
theorem dL_law_377 : decode code 377 = .ok (.iadd, 1) := by decide +kernel
theorem dL_law_378 : decode code 378 = .ok (.iaload, 1) := by decide +kernel
theorem dL_law_379 : decode code 379 = .ok (.aload_n 0, 1) := by decide +kernel
theorem dL_law_380 : decode code 380 = .ok (.iload_n 3, 1) := by decide +kernel
theorem dL_law_381 : decode code 381 = .ok (.iconst 2, 1) := by decide +kernel
theorem dL_law_382 : decode code 382 = .ok (.iadd, 1) := by decide +kernel
theorem dL_law_383 : decode code 383 = .ok (.iaload, 1) := by decide +kernel
theorem dL_law_384 : decode code 384 = .ok (.invokevirtual 40, 3) := by decide +kernel
theorem dL_law_387 : decode code 387 = .ok (.if_icmp .eq 943, 3) := by decide +kernel
theorem dL_law_390 : decode code 390 = .ok (.iconst 0, 1) := by decide +kernel
theorem dL_law_391 : decode code 391 = .ok (.ireturn, 1) := by decide +kernel
theorem dL_law_392 : decode code 392 = .ok (.aload_n 1, 1) := by decide +kernel
theorem dL_law_393 : decode code 393 = .ok (.aload_n 0, 1) := by decide +kernel
theorem dL_law_394 : decode code 394 = .ok (.iload_n 3, 1) := by decide +kernel
theorem dL_law_395 : decode code 395 = .ok (.iconst 1, 1) := by decide +kernel
theorem dL_law_396 : decode code 396 = .ok (.iadd, 1) := by decide +kernel
theorem dL_law_397 : decode code 397 = .ok (.iaload, 1) := by decide +kernel
theorem dL_law_398 : decode code 398 = .ok (.aload_n 0, 1) := by decide +kernel
theorem dL_law_399 : decode code 399 = .ok (.iload_n 3, 1) := by decide +kernel
theorem dL_law_400 : decode code 400 = .ok (.iconst 2, 1) := by decide +kernel
theorem dL_law_401 : decode code 401 = .ok (.iadd, 1) := by decide +kernel
theorem dL_law_402 : decode code 402 = .ok (.iaload, 1) := by decide +kernel
theorem dL_law_403 : decode code 403 = .ok (.invokevirtual 41, 3) := by decide +kernel
theorem dL_law_406 : decode code 406 = .ok (.aload_n 2, 1) := by decide +kernel
theorem dL_law_407 : decode code 407 = .ok (.aload_n 0, 1) := by decide +kernel
theorem dL_law_408 : decode code 408 = .ok (.iload_n 3, 1) := by decide +kernel
theorem dL_law_409 : decode code 409 = .ok (.iconst 1, 1) := by decide +kernel
theorem dL_law_410 : decode code 410 = .ok (.iadd, 1) := by decide +kernel
theorem dL_law_411 : decode code 411 = .ok (.iaload, 1) := by decide +kernel
theorem dL_law_412 : decode code 412 = .ok (.aload_n 0, 1) := by decide +kernel
theorem dL_law_413 : decode code 413 = .ok (.iload_n 3, 1) := by decide +kernel
theorem dL_law_414 : decode code 414 = .ok (.iconst 2, 1) := by decide +kernel
theorem dL_law_415 : decode code 415 = .ok (.iadd, 1) := by decide +kernel
theorem dL_law_416 : decode code 416 = .ok (.iaload, 1) := by decide +kernel
theorem dL_law_417 : decode code 417 = .ok (.invokevirtual 44, 3) := by decide +kernel
theorem dL_law_420 : decode code 420 = .ok (.if_icmp .eq 910, 3) := by decide +kernel
theorem dL_law_423 : decode code 423 = .ok (.iconst 0, 1) := by decide +kernel
theorem dL_law_424 : decode code 424 = .ok (.ireturn, 1) := by decide +kernel
theorem dL_law_425 : decode code 425 = .ok (.aload_n 1, 1) := by decide +kernel
theorem dL_law_426 : decode code 426 = .ok (.invokevirtual 45, 3) := by decide +kernel
theorem dL_law_429 : decode code 429 = .ok (.aload_n 2, 1) := by decide +kernel
theorem dL_law_430 : decode code 430 = .ok (.invokevirtual 48, 3) := by decide +kernel
theorem dL_law_433 : decode code 433 = .ok (.if_icmp .eq 897, 3) := by decide +kernel
theorem dL_law_436 : decode code 436 = .ok (.iconst 0, 1) := by decide +kernel
theorem dL_law_437 : decode code 437 = .ok (.ireturn, 1) := by decide +kernel
theorem dL_law_438 : decode code 438 = .ok (.aload_n 1, 1) := by decide +kernel
theorem dL_law_439 : decode code 439 = .ok (.invokevirtual 49, 3) := by decide +kernel
theorem dL_law_442 : decode code 442 = .ok (.aload_n 2, 1) := by decide +kernel
theorem dL_law_443 : decode code 443 = .ok (.invokevirtual 52, 3) := by decide +kernel
theorem dL_law_446 : decode code 446 = .ok (.if_icmp .eq 884, 3) := by decide +kernel
theorem dL_law_449 : decode code 449 = .ok (.iconst 0, 1) := by decide +kernel
theorem dL_law_450 : decode code 450 = .ok (.ireturn, 1) := by decide +kernel
theorem dL_law_451 : decode code 451 = .ok (.aload_n 1, 1) := by decide +kernel
theorem dL_law_452 : decode code 452 = .ok (.invokevirtual 53, 3) := by decide +kernel
theorem dL_law_455 : decode code 455 = .ok (.aload_n 2, 1) := by decide +kernel
theorem dL_law_456 : decode code 456 = .ok (.invokevirtual 56, 3) := by decide +kernel
theorem dL_law_459 : decode code 459 = .ok (.if_icmp .eq 871, 3) := by decide +kernel
theorem dL_law_462 : decode code 462 = .ok (.iconst 0, 1) := by decide +kernel
theorem dL_law_463 : decode code 463 = .ok (.ireturn, 1) := by decide +kernel
theorem dL_law_464 : decode code 464 = .ok (.aload_n 1, 1) := by decide +kernel
theorem dL_law_465 : decode code 465 = .ok (.invokevirtual 57, 3) := by decide +kernel
theorem dL_law_468 : decode code 468 = .ok (.aload_n 2, 1) := by decide +kernel
theorem dL_law_469 : decode code 469 = .ok (.invokevirtual 60, 3) := by decide +kernel
theorem dL_law_472 : decode code 472 = .ok (.if_icmp .eq 858, 3) := by decide +kernel
theorem dL_law_475 : decode code 475 = .ok (.iconst 0, 1) := by decide +kernel
theorem dL_law_476 : decode code 476 = .ok (.ireturn, 1) := by decide +kernel
theorem dL_law_477 : decode code 477 = .ok (.aload_n 1, 1) := by decide +kernel
theorem dL_law_478 : decode code 478 = .ok (.invokevirtual 61, 3) := by decide +kernel
theorem dL_law_481 : decode code 481 = .ok (.aload_n 2, 1) := by decide +kernel
theorem dL_law_482 : decode code 482 = .ok (.invokevirtual 64, 3) := by decide +kernel
theorem dL_law_485 : decode code 485 = .ok (.if_icmp .eq 845, 3) := by decide +kernel
theorem dL_law_488 : decode code 488 = .ok (.iconst 0, 1) := by decide +kernel
theorem dL_law_489 : decode code 489 = .ok (.ireturn, 1) := by decide +kernel
theorem dL_law_490 : decode code 490 = .ok (.aload_n 1, 1) := by decide +kernel
theorem dL_law_491 : decode code 491 = .ok (.invokevirtual 65, 3) := by decide +kernel
theorem dL_law_494 : decode code 494 = .ok (.aload_n 2, 1) := by decide +kernel
theorem dL_law_495 : decode code 495 = .ok (.invokevirtual 68, 3) := by decide +kernel
theorem dL_law_498 : decode code 498 = .ok (.if_icmp .eq 832, 3) := by decide +kernel
theorem dL_law_501 : decode code 501 = .ok (.iconst 0, 1) := by decide +kernel
theorem dL_law_502 : decode code 502 = .ok (.ireturn, 1) := by decide +kernel
theorem dL_law_503 : decode code 503 = .ok (.aload_n 1, 1) := by decide +kernel
theorem dL_law_504 : decode code 504 = .ok (.invokevirtual 69, 3) := by decide +kernel
theorem dL_law_507 : decode code 507 = .ok (.aload_n 2, 1) := by decide +kernel
theorem dL_law_508 : decode code 508 = .ok (.invokevirtual 72, 3) := by decide +kernel
theorem dL_law_511 : decode code 511 = .ok (.if_icmp .eq 819, 3) := by decide +kernel
theorem dL_law_514 : decode code 514 = .ok (.iconst 0, 1) := by decide +kernel
theorem dL_law_515 : decode code 515 = .ok (.ireturn, 1) := by decide +kernel
theorem dL_law_516 : decode code 516 = .ok (.aload_n 1, 1) := by decide +kernel
theorem dL_law_517 : decode code 517 = .ok (.aload_n 0, 1) := by decide +kernel
theorem dL_law_518 : decode code 518 = .ok (.iload_n 3, 1) := by decide +kernel
theorem dL_law_519 : decode code 519 = .ok (.iconst 1, 1) := by decide +kernel
theorem dL_law_520 : decode code 520 = .ok (.iadd, 1) := by decide +kernel
theorem dL_law_521 : decode code 521 = .ok (.iaload, 1) := by decide +kernel
theorem dL_law_522 : decode code 522 = .ok (.aload_n 0, 1) := by decide +kernel
theorem dL_law_523 : decode code 523 = .ok (.iload_n 3, 1) := by decide +kernel
theorem dL_law_524 : decode code 524 = .ok (.iconst 2, 1) := by decide +kernel
theorem dL_law_525 : decode code 525 = .ok (.iadd, 1) := by decide +kernel
theorem dL_law_526 : decode code 526 = .ok (.iaload, 1) := by decide +kernel
theorem dL_law_527 : decode code 527 = .ok (.invokevirtual 73, 3) := by decide +kernel
theorem dL_law_530 : decode code 530 = .ok (.aload_n 2, 1) := by decide +kernel
theorem dL_law_531 : decode code 531 = .ok (.aload_n 0, 1) := by decide +kernel
theorem dL_law_532 : decode code 532 = .ok (.iload_n 3, 1) := by decide +kernel
theorem dL_law_533 : decode code 533 = .ok (.iconst 1, 1) := by decide +kernel
theorem dL_law_534 : decode code 534 = .ok (.iadd, 1) := by decide +kernel
theorem dL_law_535 : decode code 535 = .ok (.iaload, 1) := by decide +kernel
theorem dL_law_536 : decode code 536 = .ok (.aload_n 0, 1) := by decide +kernel
theorem dL_law_537 : decode code 537 = .ok (.iload_n 3, 1) := by decide +kernel
theorem dL_law_538 : decode code 538 = .ok (.iconst 2, 1) := by decide +kernel
theorem dL_law_539 : decode code 539 = .ok (.iadd, 1) := by decide +kernel
theorem dL_law_540 : decode code 540 = .ok (.iaload, 1) := by decide +kernel
theorem dL_law_541 : decode code 541 = .ok (.invokevirtual 76, 3) := by decide +kernel
theorem dL_law_544 : decode code 544 = .ok (.if_icmp .eq 786, 3) := by decide +kernel
theorem dL_law_547 : decode code 547 = .ok (.iconst 0, 1) := by decide +kernel
theorem dL_law_548 : decode code 548 = .ok (.ireturn, 1) := by decide +kernel
theorem dL_law_549 : decode code 549 = .ok (.aload_n 1, 1) := by decide +kernel
theorem dL_law_550 : decode code 550 = .ok (.aload_n 0, 1) := by decide +kernel
theorem dL_law_551 : decode code 551 = .ok (.iload_n 3, 1) := by decide +kernel
theorem dL_law_552 : decode code 552 = .ok (.iconst 1, 1) := by decide +kernel
theorem dL_law_553 : decode code 553 = .ok (.iadd, 1) := by decide +kernel
theorem dL_law_554 : decode code 554 = .ok (.iaload, 1) := by decide +kernel
theorem dL_law_555 : decode code 555 = .ok (.ifCond .eq 7, 3) := by decide +kernel
theorem dL_law_558 : decode code 558 = .ok (.iconst 1, 1) := by decide +kernel
theorem dL_law_559 : decode code 559 = .ok (.goto 4, 3) := by decide +kernel
theorem dL_law_562 : decode code 562 = .ok (.iconst 0, 1) := by decide +kernel
theorem dL_law_563 : decode code 563 = .ok (.aload_n 0, 1) := by decide +kernel
theorem dL_law_564 : decode code 564 = .ok (.iload_n 3, 1) := by decide +kernel
theorem dL_law_565 : decode code 565 = .ok (.iconst 2, 1) := by decide +kernel
theorem dL_law_566 : decode code 566 = .ok (.iadd, 1) := by decide +kernel
theorem dL_law_567 : decode code 567 = .ok (.iaload, 1) := by decide +kernel
theorem dL_law_568 : decode code 568 = .ok (.aload_n 0, 1) := by decide +kernel
theorem dL_law_569 : decode code 569 = .ok (.iload_n 3, 1) := by decide +kernel
theorem dL_law_570 : decode code 570 = .ok (.iconst 3, 1) := by decide +kernel
theorem dL_law_571 : decode code 571 = .ok (.iadd, 1) := by decide +kernel
theorem dL_law_572 : decode code 572 = .ok (.iaload, 1) := by decide +kernel
theorem dL_law_573 : decode code 573 = .ok (.aload_n 0, 1) := by decide +kernel
theorem dL_law_574 : decode code 574 = .ok (.iload_n 3, 1) := by decide +kernel
theorem dL_law_575 : decode code 575 = .ok (.iconst 4, 1) := by decide +kernel
theorem dL_law_576 : decode code 576 = .ok (.iadd, 1) := by decide +kernel
theorem dL_law_577 : decode code 577 = .ok (.iaload, 1) := by decide +kernel
theorem dL_law_578 : decode code 578 = .ok (.invokevirtual 77, 3) := by decide +kernel
theorem dL_law_581 : decode code 581 = .ok (.aload_n 2, 1) := by decide +kernel
theorem dL_law_582 : decode code 582 = .ok (.aload_n 0, 1) := by decide +kernel
theorem dL_law_583 : decode code 583 = .ok (.iload_n 3, 1) := by decide +kernel
theorem dL_law_584 : decode code 584 = .ok (.iconst 1, 1) := by decide +kernel
theorem dL_law_585 : decode code 585 = .ok (.iadd, 1) := by decide +kernel
theorem dL_law_586 : decode code 586 = .ok (.iaload, 1) := by decide +kernel
theorem dL_law_587 : decode code 587 = .ok (.ifCond .eq 7, 3) := by decide +kernel
theorem dL_law_590 : decode code 590 = .ok (.iconst 1, 1) := by decide +kernel
theorem dL_law_591 : decode code 591 = .ok (.goto 4, 3) := by decide +kernel
theorem dL_law_594 : decode code 594 = .ok (.iconst 0, 1) := by decide +kernel
theorem dL_law_595 : decode code 595 = .ok (.aload_n 0, 1) := by decide +kernel
theorem dL_law_596 : decode code 596 = .ok (.iload_n 3, 1) := by decide +kernel
theorem dL_law_597 : decode code 597 = .ok (.iconst 2, 1) := by decide +kernel
theorem dL_law_598 : decode code 598 = .ok (.iadd, 1) := by decide +kernel
theorem dL_law_599 : decode code 599 = .ok (.iaload, 1) := by decide +kernel
theorem dL_law_600 : decode code 600 = .ok (.aload_n 0, 1) := by decide +kernel
theorem dL_law_601 : decode code 601 = .ok (.iload_n 3, 1) := by decide +kernel
theorem dL_law_602 : decode code 602 = .ok (.iconst 3, 1) := by decide +kernel
theorem dL_law_603 : decode code 603 = .ok (.iadd, 1) := by decide +kernel
theorem dL_law_604 : decode code 604 = .ok (.iaload, 1) := by decide +kernel
theorem dL_law_605 : decode code 605 = .ok (.aload_n 0, 1) := by decide +kernel
theorem dL_law_606 : decode code 606 = .ok (.iload_n 3, 1) := by decide +kernel
theorem dL_law_607 : decode code 607 = .ok (.iconst 4, 1) := by decide +kernel
theorem dL_law_608 : decode code 608 = .ok (.iadd, 1) := by decide +kernel
theorem dL_law_609 : decode code 609 = .ok (.iaload, 1) := by decide +kernel
theorem dL_law_610 : decode code 610 = .ok (.invokevirtual 81, 3) := by decide +kernel
theorem dL_law_613 : decode code 613 = .ok (.if_icmp .eq 717, 3) := by decide +kernel
theorem dL_law_616 : decode code 616 = .ok (.iconst 0, 1) := by decide +kernel
theorem dL_law_617 : decode code 617 = .ok (.ireturn, 1) := by decide +kernel
theorem dL_law_618 : decode code 618 = .ok (.aload_n 1, 1) := by decide +kernel
theorem dL_law_619 : decode code 619 = .ok (.invokevirtual 82, 3) := by decide +kernel
theorem dL_law_622 : decode code 622 = .ok (.aload_n 2, 1) := by decide +kernel
theorem dL_law_623 : decode code 623 = .ok (.invokevirtual 85, 3) := by decide +kernel
theorem dL_law_626 : decode code 626 = .ok (.if_icmp .eq 704, 3) := by decide +kernel
theorem dL_law_629 : decode code 629 = .ok (.iconst 0, 1) := by decide +kernel
theorem dL_law_630 : decode code 630 = .ok (.ireturn, 1) := by decide +kernel
theorem dL_law_631 : decode code 631 = .ok (.aload_n 1, 1) := by decide +kernel
theorem dL_law_632 : decode code 632 = .ok (.invokevirtual 86, 3) := by decide +kernel
theorem dL_law_635 : decode code 635 = .ok (.aload_n 2, 1) := by decide +kernel
theorem dL_law_636 : decode code 636 = .ok (.invokevirtual 89, 3) := by decide +kernel
theorem dL_law_639 : decode code 639 = .ok (.if_icmp .eq 691, 3) := by decide +kernel
theorem dL_law_642 : decode code 642 = .ok (.iconst 0, 1) := by decide +kernel
theorem dL_law_643 : decode code 643 = .ok (.ireturn, 1) := by decide +kernel
theorem dL_law_644 : decode code 644 = .ok (.aload_n 1, 1) := by decide +kernel
theorem dL_law_645 : decode code 645 = .ok (.aload_n 0, 1) := by decide +kernel
theorem dL_law_646 : decode code 646 = .ok (.iload_n 3, 1) := by decide +kernel
theorem dL_law_647 : decode code 647 = .ok (.iconst 1, 1) := by decide +kernel
theorem dL_law_648 : decode code 648 = .ok (.iadd, 1) := by decide +kernel
theorem dL_law_649 : decode code 649 = .ok (.iaload, 1) := by decide +kernel
theorem dL_law_650 : decode code 650 = .ok (.aload_n 0, 1) := by decide +kernel
theorem dL_law_651 : decode code 651 = .ok (.iload_n 3, 1) := by decide +kernel
theorem dL_law_652 : decode code 652 = .ok (.iconst 2, 1) := by decide +kernel
theorem dL_law_653 : decode code 653 = .ok (.iadd, 1) := by decide +kernel
theorem dL_law_654 : decode code 654 = .ok (.iaload, 1) := by decide +kernel
theorem dL_law_655 : decode code 655 = .ok (.aload_n 0, 1) := by decide +kernel
theorem dL_law_656 : decode code 656 = .ok (.iload_n 3, 1) := by decide +kernel
theorem dL_law_657 : decode code 657 = .ok (.iconst 3, 1) := by decide +kernel
theorem dL_law_658 : decode code 658 = .ok (.iadd, 1) := by decide +kernel
theorem dL_law_659 : decode code 659 = .ok (.iaload, 1) := by decide +kernel
theorem dL_law_660 : decode code 660 = .ok (.aload_n 0, 1) := by decide +kernel
theorem dL_law_661 : decode code 661 = .ok (.iload_n 3, 1) := by decide +kernel
theorem dL_law_662 : decode code 662 = .ok (.iconst 4, 1) := by decide +kernel
theorem dL_law_663 : decode code 663 = .ok (.iadd, 1) := by decide +kernel
theorem dL_law_664 : decode code 664 = .ok (.iaload, 1) := by decide +kernel
theorem dL_law_665 : decode code 665 = .ok (.invokevirtual 90, 3) := by decide +kernel
theorem dL_law_668 : decode code 668 = .ok (.aload_n 2, 1) := by decide +kernel
theorem dL_law_669 : decode code 669 = .ok (.aload_n 0, 1) := by decide +kernel
theorem dL_law_670 : decode code 670 = .ok (.iload_n 3, 1) := by decide +kernel
theorem dL_law_671 : decode code 671 = .ok (.iconst 1, 1) := by decide +kernel
theorem dL_law_672 : decode code 672 = .ok (.iadd, 1) := by decide +kernel
theorem dL_law_673 : decode code 673 = .ok (.iaload, 1) := by decide +kernel
theorem dL_law_674 : decode code 674 = .ok (.aload_n 0, 1) := by decide +kernel
theorem dL_law_675 : decode code 675 = .ok (.iload_n 3, 1) := by decide +kernel
theorem dL_law_676 : decode code 676 = .ok (.iconst 2, 1) := by decide +kernel
theorem dL_law_677 : decode code 677 = .ok (.iadd, 1) := by decide +kernel
theorem dL_law_678 : decode code 678 = .ok (.iaload, 1) := by decide +kernel
theorem dL_law_679 : decode code 679 = .ok (.aload_n 0, 1) := by decide +kernel
theorem dL_law_680 : decode code 680 = .ok (.iload_n 3, 1) := by decide +kernel
theorem dL_law_681 : decode code 681 = .ok (.iconst 3, 1) := by decide +kernel
theorem dL_law_682 : decode code 682 = .ok (.iadd, 1) := by decide +kernel
theorem dL_law_683 : decode code 683 = .ok (.iaload, 1) := by decide +kernel
theorem dL_law_684 : decode code 684 = .ok (.aload_n 0, 1) := by decide +kernel
theorem dL_law_685 : decode code 685 = .ok (.iload_n 3, 1) := by decide +kernel
theorem dL_law_686 : decode code 686 = .ok (.iconst 4, 1) := by decide +kernel
theorem dL_law_687 : decode code 687 = .ok (.iadd, 1) := by decide +kernel
theorem dL_law_688 : decode code 688 = .ok (.iaload, 1) := by decide +kernel
theorem dL_law_689 : decode code 689 = .ok (.invokevirtual 94, 3) := by decide +kernel
theorem dL_law_692 : decode code 692 = .ok (.if_icmp .eq 638, 3) := by decide +kernel
theorem dL_law_695 : decode code 695 = .ok (.iconst 0, 1) := by decide +kernel
theorem dL_law_696 : decode code 696 = .ok (.ireturn, 1) := by decide +kernel
theorem dL_law_697 : decode code 697 = .ok (.aload_n 1, 1) := by decide +kernel
theorem dL_law_698 : decode code 698 = .ok (.aload_n 0, 1) := by decide +kernel
theorem dL_law_699 : decode code 699 = .ok (.iload_n 3, 1) := by decide +kernel
theorem dL_law_700 : decode code 700 = .ok (.iconst 1, 1) := by decide +kernel
theorem dL_law_701 : decode code 701 = .ok (.iadd, 1) := by decide +kernel
theorem dL_law_702 : decode code 702 = .ok (.iaload, 1) := by decide +kernel
theorem dL_law_703 : decode code 703 = .ok (.aload_n 0, 1) := by decide +kernel
theorem dL_law_704 : decode code 704 = .ok (.iload_n 3, 1) := by decide +kernel
theorem dL_law_705 : decode code 705 = .ok (.iconst 2, 1) := by decide +kernel
theorem dL_law_706 : decode code 706 = .ok (.iadd, 1) := by decide +kernel
theorem dL_law_707 : decode code 707 = .ok (.iaload, 1) := by decide +kernel
theorem dL_law_708 : decode code 708 = .ok (.invokevirtual 95, 3) := by decide +kernel
theorem dL_law_711 : decode code 711 = .ok (.aload_n 2, 1) := by decide +kernel
theorem dL_law_712 : decode code 712 = .ok (.aload_n 0, 1) := by decide +kernel
theorem dL_law_713 : decode code 713 = .ok (.iload_n 3, 1) := by decide +kernel
theorem dL_law_714 : decode code 714 = .ok (.iconst 1, 1) := by decide +kernel
theorem dL_law_715 : decode code 715 = .ok (.iadd, 1) := by decide +kernel
theorem dL_law_716 : decode code 716 = .ok (.iaload, 1) := by decide +kernel
theorem dL_law_717 : decode code 717 = .ok (.aload_n 0, 1) := by decide +kernel
theorem dL_law_718 : decode code 718 = .ok (.iload_n 3, 1) := by decide +kernel
theorem dL_law_719 : decode code 719 = .ok (.iconst 2, 1) := by decide +kernel
theorem dL_law_720 : decode code 720 = .ok (.iadd, 1) := by decide +kernel
theorem dL_law_721 : decode code 721 = .ok (.iaload, 1) := by decide +kernel
theorem dL_law_722 : decode code 722 = .ok (.invokevirtual 98, 3) := by decide +kernel
theorem dL_law_725 : decode code 725 = .ok (.if_icmp .eq 605, 3) := by decide +kernel
theorem dL_law_728 : decode code 728 = .ok (.iconst 0, 1) := by decide +kernel
theorem dL_law_729 : decode code 729 = .ok (.ireturn, 1) := by decide +kernel
theorem dL_law_730 : decode code 730 = .ok (.aload_n 1, 1) := by decide +kernel
theorem dL_law_731 : decode code 731 = .ok (.aload_n 0, 1) := by decide +kernel
theorem dL_law_732 : decode code 732 = .ok (.iload_n 3, 1) := by decide +kernel
theorem dL_law_733 : decode code 733 = .ok (.iconst 1, 1) := by decide +kernel
theorem dL_law_734 : decode code 734 = .ok (.iadd, 1) := by decide +kernel
theorem dL_law_735 : decode code 735 = .ok (.iaload, 1) := by decide +kernel
theorem dL_law_736 : decode code 736 = .ok (.aload_n 0, 1) := by decide +kernel
theorem dL_law_737 : decode code 737 = .ok (.iload_n 3, 1) := by decide +kernel
theorem dL_law_738 : decode code 738 = .ok (.iconst 2, 1) := by decide +kernel
theorem dL_law_739 : decode code 739 = .ok (.iadd, 1) := by decide +kernel
theorem dL_law_740 : decode code 740 = .ok (.iaload, 1) := by decide +kernel
theorem dL_law_741 : decode code 741 = .ok (.ifCond .eq 7, 3) := by decide +kernel
theorem dL_law_744 : decode code 744 = .ok (.iconst 1, 1) := by decide +kernel
theorem dL_law_745 : decode code 745 = .ok (.goto 4, 3) := by decide +kernel
theorem dL_law_748 : decode code 748 = .ok (.iconst 0, 1) := by decide +kernel
theorem dL_law_749 : decode code 749 = .ok (.invokevirtual 99, 3) := by decide +kernel
theorem dL_law_752 : decode code 752 = .ok (.aload_n 2, 1) := by decide +kernel
theorem dL_law_753 : decode code 753 = .ok (.aload_n 0, 1) := by decide +kernel
theorem dL_law_754 : decode code 754 = .ok (.iload_n 3, 1) := by decide +kernel
theorem dL_law_755 : decode code 755 = .ok (.iconst 1, 1) := by decide +kernel
theorem dL_law_756 : decode code 756 = .ok (.iadd, 1) := by decide +kernel
theorem dL_law_757 : decode code 757 = .ok (.iaload, 1) := by decide +kernel
theorem dL_law_758 : decode code 758 = .ok (.aload_n 0, 1) := by decide +kernel
theorem dL_law_759 : decode code 759 = .ok (.iload_n 3, 1) := by decide +kernel
theorem dL_law_760 : decode code 760 = .ok (.iconst 2, 1) := by decide +kernel
theorem dL_law_761 : decode code 761 = .ok (.iadd, 1) := by decide +kernel
theorem dL_law_762 : decode code 762 = .ok (.iaload, 1) := by decide +kernel
theorem dL_law_763 : decode code 763 = .ok (.ifCond .eq 7, 3) := by decide +kernel
theorem dL_law_766 : decode code 766 = .ok (.iconst 1, 1) := by decide +kernel
theorem dL_law_767 : decode code 767 = .ok (.goto 4, 3) := by decide +kernel
theorem dL_law_770 : decode code 770 = .ok (.iconst 0, 1) := by decide +kernel
theorem dL_law_771 : decode code 771 = .ok (.invokevirtual 102, 3) := by decide +kernel
theorem dL_law_774 : decode code 774 = .ok (.if_icmp .eq 556, 3) := by decide +kernel
theorem dL_law_777 : decode code 777 = .ok (.iconst 0, 1) := by decide +kernel
theorem dL_law_778 : decode code 778 = .ok (.ireturn, 1) := by decide +kernel
theorem dL_law_779 : decode code 779 = .ok (.aload_n 1, 1) := by decide +kernel
theorem dL_law_780 : decode code 780 = .ok (.aload_n 0, 1) := by decide +kernel
theorem dL_law_781 : decode code 781 = .ok (.iload_n 3, 1) := by decide +kernel
theorem dL_law_782 : decode code 782 = .ok (.iconst 1, 1) := by decide +kernel
theorem dL_law_783 : decode code 783 = .ok (.iadd, 1) := by decide +kernel
theorem dL_law_784 : decode code 784 = .ok (.iaload, 1) := by decide +kernel
theorem dL_law_785 : decode code 785 = .ok (.aload_n 0, 1) := by decide +kernel
theorem dL_law_786 : decode code 786 = .ok (.iload_n 3, 1) := by decide +kernel
theorem dL_law_787 : decode code 787 = .ok (.iconst 2, 1) := by decide +kernel
theorem dL_law_788 : decode code 788 = .ok (.iadd, 1) := by decide +kernel
theorem dL_law_789 : decode code 789 = .ok (.iaload, 1) := by decide +kernel
theorem dL_law_790 : decode code 790 = .ok (.invokevirtual 103, 3) := by decide +kernel
theorem dL_law_793 : decode code 793 = .ok (.aload_n 2, 1) := by decide +kernel
theorem dL_law_794 : decode code 794 = .ok (.aload_n 0, 1) := by decide +kernel
theorem dL_law_795 : decode code 795 = .ok (.iload_n 3, 1) := by decide +kernel
theorem dL_law_796 : decode code 796 = .ok (.iconst 1, 1) := by decide +kernel
theorem dL_law_797 : decode code 797 = .ok (.iadd, 1) := by decide +kernel
theorem dL_law_798 : decode code 798 = .ok (.iaload, 1) := by decide +kernel
theorem dL_law_799 : decode code 799 = .ok (.aload_n 0, 1) := by decide +kernel
theorem dL_law_800 : decode code 800 = .ok (.iload_n 3, 1) := by decide +kernel
theorem dL_law_801 : decode code 801 = .ok (.iconst 2, 1) := by decide +kernel
theorem dL_law_802 : decode code 802 = .ok (.iadd, 1) := by decide +kernel
theorem dL_law_803 : decode code 803 = .ok (.iaload, 1) := by decide +kernel
theorem dL_law_804 : decode code 804 = .ok (.invokevirtual 106, 3) := by decide +kernel
theorem dL_law_807 : decode code 807 = .ok (.if_icmp .eq 523, 3) := by decide +kernel
theorem dL_law_810 : decode code 810 = .ok (.iconst 0, 1) := by decide +kernel
theorem dL_law_811 : decode code 811 = .ok (.ireturn, 1) := by decide +kernel
theorem dL_law_812 : decode code 812 = .ok (.aload_n 1, 1) := by decide +kernel
theorem dL_law_813 : decode code 813 = .ok (.invokevirtual 107, 3) := by decide +kernel
theorem dL_law_816 : decode code 816 = .ok (.aload_n 2, 1) := by decide +kernel
theorem dL_law_817 : decode code 817 = .ok (.invokevirtual 110, 3) := by decide +kernel
theorem dL_law_820 : decode code 820 = .ok (.if_icmp .eq 510, 3) := by decide +kernel
theorem dL_law_823 : decode code 823 = .ok (.iconst 0, 1) := by decide +kernel
theorem dL_law_824 : decode code 824 = .ok (.ireturn, 1) := by decide +kernel
theorem dL_law_825 : decode code 825 = .ok (.aload_n 1, 1) := by decide +kernel
theorem dL_law_826 : decode code 826 = .ok (.invokevirtual 111, 3) := by decide +kernel
theorem dL_law_829 : decode code 829 = .ok (.aload_n 2, 1) := by decide +kernel
theorem dL_law_830 : decode code 830 = .ok (.invokevirtual 114, 3) := by decide +kernel
theorem dL_law_833 : decode code 833 = .ok (.if_icmp .eq 497, 3) := by decide +kernel
theorem dL_law_836 : decode code 836 = .ok (.iconst 0, 1) := by decide +kernel
theorem dL_law_837 : decode code 837 = .ok (.ireturn, 1) := by decide +kernel
theorem dL_law_838 : decode code 838 = .ok (.aload_n 1, 1) := by decide +kernel
theorem dL_law_839 : decode code 839 = .ok (.aload_n 0, 1) := by decide +kernel
theorem dL_law_840 : decode code 840 = .ok (.iload_n 3, 1) := by decide +kernel
theorem dL_law_841 : decode code 841 = .ok (.iconst 1, 1) := by decide +kernel
theorem dL_law_842 : decode code 842 = .ok (.iadd, 1) := by decide +kernel
theorem dL_law_843 : decode code 843 = .ok (.iaload, 1) := by decide +kernel
theorem dL_law_844 : decode code 844 = .ok (.aload_n 0, 1) := by decide +kernel
theorem dL_law_845 : decode code 845 = .ok (.iload_n 3, 1) := by decide +kernel
theorem dL_law_846 : decode code 846 = .ok (.iconst 2, 1) := by decide +kernel
theorem dL_law_847 : decode code 847 = .ok (.iadd, 1) := by decide +kernel
theorem dL_law_848 : decode code 848 = .ok (.iaload, 1) := by decide +kernel
theorem dL_law_849 : decode code 849 = .ok (.aload_n 0, 1) := by decide +kernel
theorem dL_law_850 : decode code 850 = .ok (.iload_n 3, 1) := by decide +kernel
theorem dL_law_851 : decode code 851 = .ok (.iconst 3, 1) := by decide +kernel
theorem dL_law_852 : decode code 852 = .ok (.iadd, 1) := by decide +kernel
theorem dL_law_853 : decode code 853 = .ok (.iaload, 1) := by decide +kernel
theorem dL_law_854 : decode code 854 = .ok (.ifCond .eq 7, 3) := by decide +kernel
theorem dL_law_857 : decode code 857 = .ok (.iconst 1, 1) := by decide +kernel
theorem dL_law_858 : decode code 858 = .ok (.goto 4, 3) := by decide +kernel
theorem dL_law_861 : decode code 861 = .ok (.iconst 0, 1) := by decide +kernel
theorem dL_law_862 : decode code 862 = .ok (.invokevirtual 115, 3) := by decide +kernel
theorem dL_law_865 : decode code 865 = .ok (.aload_n 2, 1) := by decide +kernel
theorem dL_law_866 : decode code 866 = .ok (.aload_n 0, 1) := by decide +kernel
theorem dL_law_867 : decode code 867 = .ok (.iload_n 3, 1) := by decide +kernel
theorem dL_law_868 : decode code 868 = .ok (.iconst 1, 1) := by decide +kernel
theorem dL_law_869 : decode code 869 = .ok (.iadd, 1) := by decide +kernel
theorem dL_law_870 : decode code 870 = .ok (.iaload, 1) := by decide +kernel
theorem dL_law_871 : decode code 871 = .ok (.aload_n 0, 1) := by decide +kernel
theorem dL_law_872 : decode code 872 = .ok (.iload_n 3, 1) := by decide +kernel
theorem dL_law_873 : decode code 873 = .ok (.iconst 2, 1) := by decide +kernel
theorem dL_law_874 : decode code 874 = .ok (.iadd, 1) := by decide +kernel
theorem dL_law_875 : decode code 875 = .ok (.iaload, 1) := by decide +kernel
theorem dL_law_876 : decode code 876 = .ok (.aload_n 0, 1) := by decide +kernel
theorem dL_law_877 : decode code 877 = .ok (.iload_n 3, 1) := by decide +kernel
theorem dL_law_878 : decode code 878 = .ok (.iconst 3, 1) := by decide +kernel
theorem dL_law_879 : decode code 879 = .ok (.iadd, 1) := by decide +kernel
theorem dL_law_880 : decode code 880 = .ok (.iaload, 1) := by decide +kernel
theorem dL_law_881 : decode code 881 = .ok (.ifCond .eq 7, 3) := by decide +kernel
theorem dL_law_884 : decode code 884 = .ok (.iconst 1, 1) := by decide +kernel
theorem dL_law_885 : decode code 885 = .ok (.goto 4, 3) := by decide +kernel
theorem dL_law_888 : decode code 888 = .ok (.iconst 0, 1) := by decide +kernel
theorem dL_law_889 : decode code 889 = .ok (.invokevirtual 119, 3) := by decide +kernel
theorem dL_law_892 : decode code 892 = .ok (.lcmp, 1) := by decide +kernel
theorem dL_law_893 : decode code 893 = .ok (.ifCond .eq 437, 3) := by decide +kernel
theorem dL_law_896 : decode code 896 = .ok (.iconst 0, 1) := by decide +kernel
theorem dL_law_897 : decode code 897 = .ok (.ireturn, 1) := by decide +kernel
theorem dL_law_898 : decode code 898 = .ok (.aload_n 1, 1) := by decide +kernel
theorem dL_law_899 : decode code 899 = .ok (.aload_n 0, 1) := by decide +kernel
theorem dL_law_900 : decode code 900 = .ok (.iload_n 3, 1) := by decide +kernel
theorem dL_law_901 : decode code 901 = .ok (.iconst 1, 1) := by decide +kernel
theorem dL_law_902 : decode code 902 = .ok (.iadd, 1) := by decide +kernel
theorem dL_law_903 : decode code 903 = .ok (.iaload, 1) := by decide +kernel
theorem dL_law_904 : decode code 904 = .ok (.invokevirtual 120, 3) := by decide +kernel
theorem dL_law_907 : decode code 907 = .ok (.aload_n 2, 1) := by decide +kernel
theorem dL_law_908 : decode code 908 = .ok (.aload_n 0, 1) := by decide +kernel
theorem dL_law_909 : decode code 909 = .ok (.iload_n 3, 1) := by decide +kernel
theorem dL_law_910 : decode code 910 = .ok (.iconst 1, 1) := by decide +kernel
theorem dL_law_911 : decode code 911 = .ok (.iadd, 1) := by decide +kernel
theorem dL_law_912 : decode code 912 = .ok (.iaload, 1) := by decide +kernel
theorem dL_law_913 : decode code 913 = .ok (.invokevirtual 124, 3) := by decide +kernel
theorem dL_law_916 : decode code 916 = .ok (.if_icmp .eq 414, 3) := by decide +kernel
theorem dL_law_919 : decode code 919 = .ok (.iconst 0, 1) := by decide +kernel
theorem dL_law_920 : decode code 920 = .ok (.ireturn, 1) := by decide +kernel
theorem dL_law_921 : decode code 921 = .ok (.aload_n 1, 1) := by decide +kernel
theorem dL_law_922 : decode code 922 = .ok (.invokevirtual 125, 3) := by decide +kernel
theorem dL_law_925 : decode code 925 = .ok (.aload_n 2, 1) := by decide +kernel
theorem dL_law_926 : decode code 926 = .ok (.invokevirtual 128, 3) := by decide +kernel
theorem dL_law_929 : decode code 929 = .ok (.if_icmp .eq 401, 3) := by decide +kernel
theorem dL_law_932 : decode code 932 = .ok (.iconst 0, 1) := by decide +kernel
theorem dL_law_933 : decode code 933 = .ok (.ireturn, 1) := by decide +kernel
theorem dL_law_934 : decode code 934 = .ok (.aload_n 1, 1) := by decide +kernel
theorem dL_law_935 : decode code 935 = .ok (.aload_n 0, 1) := by decide +kernel
theorem dL_law_936 : decode code 936 = .ok (.iload_n 3, 1) := by decide +kernel
theorem dL_law_937 : decode code 937 = .ok (.iconst 1, 1) := by decide +kernel
theorem dL_law_938 : decode code 938 = .ok (.iadd, 1) := by decide +kernel
theorem dL_law_939 : decode code 939 = .ok (.iaload, 1) := by decide +kernel
theorem dL_law_940 : decode code 940 = .ok (.invokevirtual 129, 3) := by decide +kernel
theorem dL_law_943 : decode code 943 = .ok (.aload_n 2, 1) := by decide +kernel
theorem dL_law_944 : decode code 944 = .ok (.aload_n 0, 1) := by decide +kernel
theorem dL_law_945 : decode code 945 = .ok (.iload_n 3, 1) := by decide +kernel
theorem dL_law_946 : decode code 946 = .ok (.iconst 1, 1) := by decide +kernel
theorem dL_law_947 : decode code 947 = .ok (.iadd, 1) := by decide +kernel
theorem dL_law_948 : decode code 948 = .ok (.iaload, 1) := by decide +kernel
theorem dL_law_949 : decode code 949 = .ok (.invokevirtual 132, 3) := by decide +kernel
theorem dL_law_952 : decode code 952 = .ok (.if_icmp .eq 378, 3) := by decide +kernel
theorem dL_law_955 : decode code 955 = .ok (.iconst 0, 1) := by decide +kernel
theorem dL_law_956 : decode code 956 = .ok (.ireturn, 1) := by decide +kernel
theorem dL_law_957 : decode code 957 = .ok (.aload_n 1, 1) := by decide +kernel
theorem dL_law_958 : decode code 958 = .ok (.invokevirtual 133, 3) := by decide +kernel
theorem dL_law_961 : decode code 961 = .ok (.aload_n 2, 1) := by decide +kernel
theorem dL_law_962 : decode code 962 = .ok (.invokevirtual 136, 3) := by decide +kernel
theorem dL_law_965 : decode code 965 = .ok (.if_icmp .eq 365, 3) := by decide +kernel
theorem dL_law_968 : decode code 968 = .ok (.iconst 0, 1) := by decide +kernel
theorem dL_law_969 : decode code 969 = .ok (.ireturn, 1) := by decide +kernel
theorem dL_law_970 : decode code 970 = .ok (.aload_n 1, 1) := by decide +kernel
theorem dL_law_971 : decode code 971 = .ok (.aload_n 0, 1) := by decide +kernel
theorem dL_law_972 : decode code 972 = .ok (.iload_n 3, 1) := by decide +kernel
theorem dL_law_973 : decode code 973 = .ok (.iconst 1, 1) := by decide +kernel
theorem dL_law_974 : decode code 974 = .ok (.iadd, 1) := by decide +kernel
theorem dL_law_975 : decode code 975 = .ok (.iaload, 1) := by decide +kernel
theorem dL_law_976 : decode code 976 = .ok (.aload_n 0, 1) := by decide +kernel
theorem dL_law_977 : decode code 977 = .ok (.iload_n 3, 1) := by decide +kernel
theorem dL_law_978 : decode code 978 = .ok (.iconst 2, 1) := by decide +kernel
theorem dL_law_979 : decode code 979 = .ok (.iadd, 1) := by decide +kernel
theorem dL_law_980 : decode code 980 = .ok (.iaload, 1) := by decide +kernel
theorem dL_law_981 : decode code 981 = .ok (.ifCond .eq 7, 3) := by decide +kernel
theorem dL_law_984 : decode code 984 = .ok (.iconst 1, 1) := by decide +kernel
theorem dL_law_985 : decode code 985 = .ok (.goto 4, 3) := by decide +kernel
theorem dL_law_988 : decode code 988 = .ok (.iconst 0, 1) := by decide +kernel
theorem dL_law_989 : decode code 989 = .ok (.aload_n 0, 1) := by decide +kernel
theorem dL_law_990 : decode code 990 = .ok (.iload_n 3, 1) := by decide +kernel
theorem dL_law_991 : decode code 991 = .ok (.iconst 3, 1) := by decide +kernel
theorem dL_law_992 : decode code 992 = .ok (.iadd, 1) := by decide +kernel
theorem dL_law_993 : decode code 993 = .ok (.iaload, 1) := by decide +kernel
theorem dL_law_994 : decode code 994 = .ok (.ifCond .eq 7, 3) := by decide +kernel
theorem dL_law_997 : decode code 997 = .ok (.iconst 1, 1) := by decide +kernel
theorem dL_law_998 : decode code 998 = .ok (.goto 4, 3) := by decide +kernel
theorem dL_law_1001 : decode code 1001 = .ok (.iconst 0, 1) := by decide +kernel
theorem dL_law_1002 : decode code 1002 = .ok (.invokevirtual 137, 3) := by decide +kernel
theorem dL_law_1005 : decode code 1005 = .ok (.aload_n 2, 1) := by decide +kernel
theorem dL_law_1006 : decode code 1006 = .ok (.aload_n 0, 1) := by decide +kernel
theorem dL_law_1007 : decode code 1007 = .ok (.iload_n 3, 1) := by decide +kernel
theorem dL_law_1008 : decode code 1008 = .ok (.iconst 1, 1) := by decide +kernel
theorem dL_law_1009 : decode code 1009 = .ok (.iadd, 1) := by decide +kernel
theorem dL_law_1010 : decode code 1010 = .ok (.iaload, 1) := by decide +kernel
theorem dL_law_1011 : decode code 1011 = .ok (.aload_n 0, 1) := by decide +kernel
theorem dL_law_1012 : decode code 1012 = .ok (.iload_n 3, 1) := by decide +kernel
theorem dL_law_1013 : decode code 1013 = .ok (.iconst 2, 1) := by decide +kernel
theorem dL_law_1014 : decode code 1014 = .ok (.iadd, 1) := by decide +kernel
theorem dL_law_1015 : decode code 1015 = .ok (.iaload, 1) := by decide +kernel
theorem dL_law_1016 : decode code 1016 = .ok (.ifCond .eq 7, 3) := by decide +kernel
theorem dL_law_1019 : decode code 1019 = .ok (.iconst 1, 1) := by decide +kernel
theorem dL_law_1020 : decode code 1020 = .ok (.goto 4, 3) := by decide +kernel
theorem dL_law_1023 : decode code 1023 = .ok (.iconst 0, 1) := by decide +kernel
theorem dL_law_1024 : decode code 1024 = .ok (.aload_n 0, 1) := by decide +kernel
theorem dL_law_1025 : decode code 1025 = .ok (.iload_n 3, 1) := by decide +kernel
theorem dL_law_1026 : decode code 1026 = .ok (.iconst 3, 1) := by decide +kernel
theorem dL_law_1027 : decode code 1027 = .ok (.iadd, 1) := by decide +kernel
theorem dL_law_1028 : decode code 1028 = .ok (.iaload, 1) := by decide +kernel
theorem dL_law_1029 : decode code 1029 = .ok (.ifCond .eq 7, 3) := by decide +kernel
theorem dL_law_1032 : decode code 1032 = .ok (.iconst 1, 1) := by decide +kernel
theorem dL_law_1033 : decode code 1033 = .ok (.goto 4, 3) := by decide +kernel
theorem dL_law_1036 : decode code 1036 = .ok (.iconst 0, 1) := by decide +kernel
theorem dL_law_1037 : decode code 1037 = .ok (.invokevirtual 141, 3) := by decide +kernel
theorem dL_law_1040 : decode code 1040 = .ok (.lcmp, 1) := by decide +kernel
theorem dL_law_1041 : decode code 1041 = .ok (.ifCond .eq 289, 3) := by decide +kernel
theorem dL_law_1044 : decode code 1044 = .ok (.iconst 0, 1) := by decide +kernel
theorem dL_law_1045 : decode code 1045 = .ok (.ireturn, 1) := by decide +kernel
theorem dL_law_1046 : decode code 1046 = .ok (.aload_n 1, 1) := by decide +kernel
theorem dL_law_1047 : decode code 1047 = .ok (.invokevirtual 142, 3) := by decide +kernel
theorem dL_law_1050 : decode code 1050 = .ok (.aload_n 2, 1) := by decide +kernel
theorem dL_law_1051 : decode code 1051 = .ok (.invokevirtual 145, 3) := by decide +kernel
theorem dL_law_1054 : decode code 1054 = .ok (.if_icmp .eq 276, 3) := by decide +kernel
theorem dL_law_1057 : decode code 1057 = .ok (.iconst 0, 1) := by decide +kernel
theorem dL_law_1058 : decode code 1058 = .ok (.ireturn, 1) := by decide +kernel
theorem dL_law_1059 : decode code 1059 = .ok (.aload_n 1, 1) := by decide +kernel
theorem dL_law_1060 : decode code 1060 = .ok (.invokevirtual 146, 3) := by decide +kernel
theorem dL_law_1063 : decode code 1063 = .ok (.aload_n 2, 1) := by decide +kernel
theorem dL_law_1064 : decode code 1064 = .ok (.invokevirtual 149, 3) := by decide +kernel
theorem dL_law_1067 : decode code 1067 = .ok (.if_icmp .eq 263, 3) := by decide +kernel
theorem dL_law_1070 : decode code 1070 = .ok (.iconst 0, 1) := by decide +kernel
theorem dL_law_1071 : decode code 1071 = .ok (.ireturn, 1) := by decide +kernel
theorem dL_law_1072 : decode code 1072 = .ok (.aload_n 1, 1) := by decide +kernel
theorem dL_law_1073 : decode code 1073 = .ok (.invokevirtual 150, 3) := by decide +kernel
theorem dL_law_1076 : decode code 1076 = .ok (.aload_n 2, 1) := by decide +kernel
theorem dL_law_1077 : decode code 1077 = .ok (.invokevirtual 153, 3) := by decide +kernel
theorem dL_law_1080 : decode code 1080 = .ok (.if_icmp .eq 250, 3) := by decide +kernel
theorem dL_law_1083 : decode code 1083 = .ok (.iconst 0, 1) := by decide +kernel
theorem dL_law_1084 : decode code 1084 = .ok (.ireturn, 1) := by decide +kernel
theorem dL_law_1085 : decode code 1085 = .ok (.aload_n 1, 1) := by decide +kernel
theorem dL_law_1086 : decode code 1086 = .ok (.invokevirtual 154, 3) := by decide +kernel
theorem dL_law_1089 : decode code 1089 = .ok (.aload_n 2, 1) := by decide +kernel
theorem dL_law_1090 : decode code 1090 = .ok (.invokevirtual 157, 3) := by decide +kernel
theorem dL_law_1093 : decode code 1093 = .ok (.if_icmp .eq 237, 3) := by decide +kernel
theorem dL_law_1096 : decode code 1096 = .ok (.iconst 0, 1) := by decide +kernel
theorem dL_law_1097 : decode code 1097 = .ok (.ireturn, 1) := by decide +kernel
theorem dL_law_1098 : decode code 1098 = .ok (.aload_n 1, 1) := by decide +kernel
theorem dL_law_1099 : decode code 1099 = .ok (.aload_n 0, 1) := by decide +kernel
theorem dL_law_1100 : decode code 1100 = .ok (.iload_n 3, 1) := by decide +kernel
theorem dL_law_1101 : decode code 1101 = .ok (.iconst 1, 1) := by decide +kernel
theorem dL_law_1102 : decode code 1102 = .ok (.iadd, 1) := by decide +kernel
theorem dL_law_1103 : decode code 1103 = .ok (.iaload, 1) := by decide +kernel
theorem dL_law_1104 : decode code 1104 = .ok (.invokevirtual 158, 3) := by decide +kernel
theorem dL_law_1107 : decode code 1107 = .ok (.aload_n 2, 1) := by decide +kernel
theorem dL_law_1108 : decode code 1108 = .ok (.aload_n 0, 1) := by decide +kernel
theorem dL_law_1109 : decode code 1109 = .ok (.iload_n 3, 1) := by decide +kernel
theorem dL_law_1110 : decode code 1110 = .ok (.iconst 1, 1) := by decide +kernel
theorem dL_law_1111 : decode code 1111 = .ok (.iadd, 1) := by decide +kernel
theorem dL_law_1112 : decode code 1112 = .ok (.iaload, 1) := by decide +kernel
theorem dL_law_1113 : decode code 1113 = .ok (.invokevirtual 161, 3) := by decide +kernel
theorem dL_law_1116 : decode code 1116 = .ok (.if_icmp .eq 214, 3) := by decide +kernel
theorem dL_law_1119 : decode code 1119 = .ok (.iconst 0, 1) := by decide +kernel
theorem dL_law_1120 : decode code 1120 = .ok (.ireturn, 1) := by decide +kernel
theorem dL_law_1121 : decode code 1121 = .ok (.aload_n 1, 1) := by decide +kernel
theorem dL_law_1122 : decode code 1122 = .ok (.aload_n 0, 1) := by decide +kernel
theorem dL_law_1123 : decode code 1123 = .ok (.iload_n 3, 1) := by decide +kernel
theorem dL_law_1124 : decode code 1124 = .ok (.iconst 1, 1) := by decide +kernel
theorem dL_law_1125 : decode code 1125 = .ok (.iadd, 1) := by decide +kernel
theorem dL_law_1126 : decode code 1126 = .ok (.iaload, 1) := by decide +kernel
theorem dL_law_1127 : decode code 1127 = .ok (.ifCond .eq 7, 3) := by decide +kernel
theorem dL_law_1130 : decode code 1130 = .ok (.iconst 1, 1) := by decide +kernel
theorem dL_law_1131 : decode code 1131 = .ok (.goto 4, 3) := by decide +kernel
theorem dL_law_1134 : decode code 1134 = .ok (.iconst 0, 1) := by decide +kernel
theorem dL_law_1135 : decode code 1135 = .ok (.invokevirtual 162, 3) := by decide +kernel
theorem dL_law_1138 : decode code 1138 = .ok (.aload_n 2, 1) := by decide +kernel
theorem dL_law_1139 : decode code 1139 = .ok (.aload_n 0, 1) := by decide +kernel
theorem dL_law_1140 : decode code 1140 = .ok (.iload_n 3, 1) := by decide +kernel
theorem dL_law_1141 : decode code 1141 = .ok (.iconst 1, 1) := by decide +kernel
theorem dL_law_1142 : decode code 1142 = .ok (.iadd, 1) := by decide +kernel
theorem dL_law_1143 : decode code 1143 = .ok (.iaload, 1) := by decide +kernel
theorem dL_law_1144 : decode code 1144 = .ok (.ifCond .eq 7, 3) := by decide +kernel
theorem dL_law_1147 : decode code 1147 = .ok (.iconst 1, 1) := by decide +kernel
theorem dL_law_1148 : decode code 1148 = .ok (.goto 4, 3) := by decide +kernel
theorem dL_law_1151 : decode code 1151 = .ok (.iconst 0, 1) := by decide +kernel
theorem dL_law_1152 : decode code 1152 = .ok (.invokevirtual 166, 3) := by decide +kernel
theorem dL_law_1155 : decode code 1155 = .ok (.lcmp, 1) := by decide +kernel
theorem dL_law_1156 : decode code 1156 = .ok (.ifCond .eq 174, 3) := by decide +kernel
theorem dL_law_1159 : decode code 1159 = .ok (.iconst 0, 1) := by decide +kernel
theorem dL_law_1160 : decode code 1160 = .ok (.ireturn, 1) := by decide +kernel
theorem dL_law_1161 : decode code 1161 = .ok (.aload_n 1, 1) := by decide +kernel
theorem dL_law_1162 : decode code 1162 = .ok (.aload_n 0, 1) := by decide +kernel
theorem dL_law_1163 : decode code 1163 = .ok (.iload_n 3, 1) := by decide +kernel
theorem dL_law_1164 : decode code 1164 = .ok (.iconst 1, 1) := by decide +kernel
theorem dL_law_1165 : decode code 1165 = .ok (.iadd, 1) := by decide +kernel
theorem dL_law_1166 : decode code 1166 = .ok (.iaload, 1) := by decide +kernel
theorem dL_law_1167 : decode code 1167 = .ok (.aload_n 0, 1) := by decide +kernel
theorem dL_law_1168 : decode code 1168 = .ok (.iload_n 3, 1) := by decide +kernel
theorem dL_law_1169 : decode code 1169 = .ok (.iconst 2, 1) := by decide +kernel
theorem dL_law_1170 : decode code 1170 = .ok (.iadd, 1) := by decide +kernel
theorem dL_law_1171 : decode code 1171 = .ok (.iaload, 1) := by decide +kernel
theorem dL_law_1172 : decode code 1172 = .ok (.invokevirtual 167, 3) := by decide +kernel
theorem dL_law_1175 : decode code 1175 = .ok (.aload_n 2, 1) := by decide +kernel
theorem dL_law_1176 : decode code 1176 = .ok (.aload_n 0, 1) := by decide +kernel
theorem dL_law_1177 : decode code 1177 = .ok (.iload_n 3, 1) := by decide +kernel
theorem dL_law_1178 : decode code 1178 = .ok (.iconst 1, 1) := by decide +kernel
theorem dL_law_1179 : decode code 1179 = .ok (.iadd, 1) := by decide +kernel
theorem dL_law_1180 : decode code 1180 = .ok (.iaload, 1) := by decide +kernel
theorem dL_law_1181 : decode code 1181 = .ok (.aload_n 0, 1) := by decide +kernel
theorem dL_law_1182 : decode code 1182 = .ok (.iload_n 3, 1) := by decide +kernel
theorem dL_law_1183 : decode code 1183 = .ok (.iconst 2, 1) := by decide +kernel
theorem dL_law_1184 : decode code 1184 = .ok (.iadd, 1) := by decide +kernel
theorem dL_law_1185 : decode code 1185 = .ok (.iaload, 1) := by decide +kernel
theorem dL_law_1186 : decode code 1186 = .ok (.invokevirtual 170, 3) := by decide +kernel
theorem dL_law_1189 : decode code 1189 = .ok (.if_icmp .eq 141, 3) := by decide +kernel
theorem dL_law_1192 : decode code 1192 = .ok (.iconst 0, 1) := by decide +kernel
theorem dL_law_1193 : decode code 1193 = .ok (.ireturn, 1) := by decide +kernel
theorem dL_law_1194 : decode code 1194 = .ok (.aload_n 1, 1) := by decide +kernel
theorem dL_law_1195 : decode code 1195 = .ok (.aload_n 0, 1) := by decide +kernel
theorem dL_law_1196 : decode code 1196 = .ok (.iload_n 3, 1) := by decide +kernel
theorem dL_law_1197 : decode code 1197 = .ok (.iconst 1, 1) := by decide +kernel
theorem dL_law_1198 : decode code 1198 = .ok (.iadd, 1) := by decide +kernel
theorem dL_law_1199 : decode code 1199 = .ok (.iaload, 1) := by decide +kernel
theorem dL_law_1200 : decode code 1200 = .ok (.aload_n 0, 1) := by decide +kernel
theorem dL_law_1201 : decode code 1201 = .ok (.iload_n 3, 1) := by decide +kernel
theorem dL_law_1202 : decode code 1202 = .ok (.iconst 2, 1) := by decide +kernel
theorem dL_law_1203 : decode code 1203 = .ok (.iadd, 1) := by decide +kernel
theorem dL_law_1204 : decode code 1204 = .ok (.iaload, 1) := by decide +kernel
theorem dL_law_1205 : decode code 1205 = .ok (.aload_n 0, 1) := by decide +kernel
theorem dL_law_1206 : decode code 1206 = .ok (.iload_n 3, 1) := by decide +kernel
theorem dL_law_1207 : decode code 1207 = .ok (.iconst 3, 1) := by decide +kernel
theorem dL_law_1208 : decode code 1208 = .ok (.iadd, 1) := by decide +kernel
theorem dL_law_1209 : decode code 1209 = .ok (.iaload, 1) := by decide +kernel
theorem dL_law_1210 : decode code 1210 = .ok (.aload_n 0, 1) := by decide +kernel
theorem dL_law_1211 : decode code 1211 = .ok (.iload_n 3, 1) := by decide +kernel
theorem dL_law_1212 : decode code 1212 = .ok (.iconst 4, 1) := by decide +kernel
theorem dL_law_1213 : decode code 1213 = .ok (.iadd, 1) := by decide +kernel
theorem dL_law_1214 : decode code 1214 = .ok (.iaload, 1) := by decide +kernel
theorem dL_law_1215 : decode code 1215 = .ok (.ifCond .eq 7, 3) := by decide +kernel
theorem dL_law_1218 : decode code 1218 = .ok (.iconst 1, 1) := by decide +kernel
theorem dL_law_1219 : decode code 1219 = .ok (.goto 4, 3) := by decide +kernel
theorem dL_law_1222 : decode code 1222 = .ok (.iconst 0, 1) := by decide +kernel
theorem dL_law_1223 : decode code 1223 = .ok (.invokevirtual 171, 3) := by decide +kernel
theorem dL_law_1226 : decode code 1226 = .ok (.aload_n 2, 1) := by decide +kernel
theorem dL_law_1227 : decode code 1227 = .ok (.aload_n 0, 1) := by decide +kernel
theorem dL_law_1228 : decode code 1228 = .ok (.iload_n 3, 1) := by decide +kernel
theorem dL_law_1229 : decode code 1229 = .ok (.iconst 1, 1) := by decide +kernel
theorem dL_law_1230 : decode code 1230 = .ok (.iadd, 1) := by decide +kernel
theorem dL_law_1231 : decode code 1231 = .ok (.iaload, 1) := by decide +kernel
theorem dL_law_1232 : decode code 1232 = .ok (.aload_n 0, 1) := by decide +kernel
theorem dL_law_1233 : decode code 1233 = .ok (.iload_n 3, 1) := by decide +kernel
theorem dL_law_1234 : decode code 1234 = .ok (.iconst 2, 1) := by decide +kernel
theorem dL_law_1235 : decode code 1235 = .ok (.iadd, 1) := by decide +kernel
theorem dL_law_1236 : decode code 1236 = .ok (.iaload, 1) := by decide +kernel
theorem dL_law_1237 : decode code 1237 = .ok (.aload_n 0, 1) := by decide +kernel
theorem dL_law_1238 : decode code 1238 = .ok (.iload_n 3, 1) := by decide +kernel
theorem dL_law_1239 : decode code 1239 = .ok (.iconst 3, 1) := by decide +kernel
theorem dL_law_1240 : decode code 1240 = .ok (.iadd, 1) := by decide +kernel
theorem dL_law_1241 : decode code 1241 = .ok (.iaload, 1) := by decide +kernel
theorem dL_law_1242 : decode code 1242 = .ok (.aload_n 0, 1) := by decide +kernel
theorem dL_law_1243 : decode code 1243 = .ok (.iload_n 3, 1) := by decide +kernel
theorem dL_law_1244 : decode code 1244 = .ok (.iconst 4, 1) := by decide +kernel
theorem dL_law_1245 : decode code 1245 = .ok (.iadd, 1) := by decide +kernel
theorem dL_law_1246 : decode code 1246 = .ok (.iaload, 1) := by decide +kernel
theorem dL_law_1247 : decode code 1247 = .ok (.ifCond .eq 7, 3) := by decide +kernel
theorem dL_law_1250 : decode code 1250 = .ok (.iconst 1, 1) := by decide +kernel
theorem dL_law_1251 : decode code 1251 = .ok (.goto 4, 3) := by decide +kernel
theorem dL_law_1254 : decode code 1254 = .ok (.iconst 0, 1) := by decide +kernel
theorem dL_law_1255 : decode code 1255 = .ok (.invokevirtual 175, 3) := by decide +kernel
theorem dL_law_1258 : decode code 1258 = .ok (.lcmp, 1) := by decide +kernel
theorem dL_law_1259 : decode code 1259 = .ok (.ifCond .eq 71, 3) := by decide +kernel
theorem dL_law_1262 : decode code 1262 = .ok (.iconst 0, 1) := by decide +kernel
theorem dL_law_1263 : decode code 1263 = .ok (.ireturn, 1) := by decide +kernel
theorem dL_law_1264 : decode code 1264 = .ok (.aload_n 1, 1) := by decide +kernel
theorem dL_law_1265 : decode code 1265 = .ok (.aload_n 0, 1) := by decide +kernel
theorem dL_law_1266 : decode code 1266 = .ok (.iload_n 3, 1) := by decide +kernel
theorem dL_law_1267 : decode code 1267 = .ok (.iconst 1, 1) := by decide +kernel
theorem dL_law_1268 : decode code 1268 = .ok (.iadd, 1) := by decide +kernel
theorem dL_law_1269 : decode code 1269 = .ok (.iaload, 1) := by decide +kernel
theorem dL_law_1270 : decode code 1270 = .ok (.aload_n 0, 1) := by decide +kernel
theorem dL_law_1271 : decode code 1271 = .ok (.iload_n 3, 1) := by decide +kernel
theorem dL_law_1272 : decode code 1272 = .ok (.iconst 2, 1) := by decide +kernel
theorem dL_law_1273 : decode code 1273 = .ok (.iadd, 1) := by decide +kernel
theorem dL_law_1274 : decode code 1274 = .ok (.iaload, 1) := by decide +kernel
theorem dL_law_1275 : decode code 1275 = .ok (.aload_n 0, 1) := by decide +kernel
theorem dL_law_1276 : decode code 1276 = .ok (.iload_n 3, 1) := by decide +kernel
theorem dL_law_1277 : decode code 1277 = .ok (.iconst 3, 1) := by decide +kernel
theorem dL_law_1278 : decode code 1278 = .ok (.iadd, 1) := by decide +kernel
theorem dL_law_1279 : decode code 1279 = .ok (.iaload, 1) := by decide +kernel
theorem dL_law_1280 : decode code 1280 = .ok (.invokevirtual 176, 3) := by decide +kernel
theorem dL_law_1283 : decode code 1283 = .ok (.aload_n 2, 1) := by decide +kernel
theorem dL_law_1284 : decode code 1284 = .ok (.aload_n 0, 1) := by decide +kernel
theorem dL_law_1285 : decode code 1285 = .ok (.iload_n 3, 1) := by decide +kernel
theorem dL_law_1286 : decode code 1286 = .ok (.iconst 1, 1) := by decide +kernel
theorem dL_law_1287 : decode code 1287 = .ok (.iadd, 1) := by decide +kernel
theorem dL_law_1288 : decode code 1288 = .ok (.iaload, 1) := by decide +kernel
theorem dL_law_1289 : decode code 1289 = .ok (.aload_n 0, 1) := by decide +kernel
theorem dL_law_1290 : decode code 1290 = .ok (.iload_n 3, 1) := by decide +kernel
theorem dL_law_1291 : decode code 1291 = .ok (.iconst 2, 1) := by decide +kernel
theorem dL_law_1292 : decode code 1292 = .ok (.iadd, 1) := by decide +kernel
theorem dL_law_1293 : decode code 1293 = .ok (.iaload, 1) := by decide +kernel
theorem dL_law_1294 : decode code 1294 = .ok (.aload_n 0, 1) := by decide +kernel
theorem dL_law_1295 : decode code 1295 = .ok (.iload_n 3, 1) := by decide +kernel
theorem dL_law_1296 : decode code 1296 = .ok (.iconst 3, 1) := by decide +kernel
theorem dL_law_1297 : decode code 1297 = .ok (.iadd, 1) := by decide +kernel
theorem dL_law_1298 : decode code 1298 = .ok (.iaload, 1) := by decide +kernel
theorem dL_law_1299 : decode code 1299 = .ok (.invokevirtual 179, 3) := by decide +kernel
theorem dL_law_1302 : decode code 1302 = .ok (.if_icmp .eq 28, 3) := by decide +kernel
theorem dL_law_1305 : decode code 1305 = .ok (.iconst 0, 1) := by decide +kernel
theorem dL_law_1306 : decode code 1306 = .ok (.ireturn, 1) := by decide +kernel
theorem dL_law_1307 : decode code 1307 = .ok (.aload_n 1, 1) := by decide +kernel
theorem dL_law_1308 : decode code 1308 = .ok (.aload_n 0, 1) := by decide +kernel
theorem dL_law_1309 : decode code 1309 = .ok (.iload_n 3, 1) := by decide +kernel
theorem dL_law_1310 : decode code 1310 = .ok (.iconst 1, 1) := by decide +kernel
theorem dL_law_1311 : decode code 1311 = .ok (.iadd, 1) := by decide +kernel
theorem dL_law_1312 : decode code 1312 = .ok (.iaload, 1) := by decide +kernel
theorem dL_law_1313 : decode code 1313 = .ok (.invokevirtual 180, 3) := by decide +kernel
theorem dL_law_1316 : decode code 1316 = .ok (.aload_n 2, 1) := by decide +kernel
theorem dL_law_1317 : decode code 1317 = .ok (.aload_n 0, 1) := by decide +kernel
theorem dL_law_1318 : decode code 1318 = .ok (.iload_n 3, 1) := by decide +kernel
theorem dL_law_1319 : decode code 1319 = .ok (.iconst 1, 1) := by decide +kernel
theorem dL_law_1320 : decode code 1320 = .ok (.iadd, 1) := by decide +kernel
theorem dL_law_1321 : decode code 1321 = .ok (.iaload, 1) := by decide +kernel
theorem dL_law_1322 : decode code 1322 = .ok (.invokevirtual 183, 3) := by decide +kernel
theorem dL_law_1325 : decode code 1325 = .ok (.if_icmp .eq 5, 3) := by decide +kernel
theorem dL_law_1328 : decode code 1328 = .ok (.iconst 0, 1) := by decide +kernel
theorem dL_law_1329 : decode code 1329 = .ok (.ireturn, 1) := by decide +kernel
theorem dL_law_1330 : decode code 1330 = .ok (.iinc 3 5, 3) := by decide +kernel
theorem dL_law_1333 : decode code 1333 = .ok (.goto (-1315), 3) := by decide +kernel
theorem dL_law_1336 : decode code 1336 = .ok (.iconst 1, 1) := by decide +kernel
theorem dL_law_1337 : decode code 1337 = .ok (.ireturn, 1) := by decide +kernel
theorem lc_0 {E : av_E} {p : Program} {e : Env} {s : State} {m : MethodId} {below : List Frame} {meth : Method} {c : Code} {b L : Nat} {xs : Nat → Int32} {M : av_M} {i : Int} (C : lCx E p s m meth c b L xs) (hJ : JR M) (hi : 0 ≤ i ∧ i + 5 ≤ L) (k : ∀ M1, JR M1 → lwS E p e s m below meth c b 1330 (lwL i) [] M1) : lwS E p e s m below meth c b 208 (lwL i) [] M := by
  have hp : PRq E mX7_point mX8_point [vI (sx xs (i + 1)), vI (sx xs (i + 2))] M isI := p_point hJ (sx xs (i + 1)) (sx xs (i + 2)) (sx_r _ _) (sx_r _ _)
  obtain ⟨Q7, h7, hQ⟩ := hp
  refine lx_al1 C dL_law_208 ?_
  refine lx_arg C hi (n := 1) (by decide) dL_law_209 dL_law_210 dL_law_211 dL_law_212 dL_law_213 ?_
  refine lx_arg C hi (n := 2) (by decide) dL_law_214 dL_law_215 dL_law_216 dL_law_217 dL_law_218 ?_
  refine lx_call (E := E) (as := [vI (sx xs (i + 1)), vI (sx xs (i + 2))]) (rest := []) C vL_13 hX7_point (by decide) dL_law_219 rfl rfl rfl (by decide) h7 (fun r M1 q1 => ?_)
  obtain ⟨Q8, h8, hR⟩ := hQ r M1 q1
  refine lx_al2 C dL_law_222 ?_
  refine lx_arg C hi (n := 1) (by decide) dL_law_223 dL_law_224 dL_law_225 dL_law_226 dL_law_227 ?_
  refine lx_arg C hi (n := 2) (by decide) dL_law_228 dL_law_229 dL_law_230 dL_law_231 dL_law_232 ?_
  refine lx_call (E := E) (as := [vI (sx xs (i + 1)), vI (sx xs (i + 2))]) (rest := r.toList ++ []) C vL_17 hX8_point (by decide) dL_law_233 rfl rfl rfl (wd_r r) h8 (fun r2 M2 q2 => ?_)
  obtain ⟨rfl, ⟨v, rfl, z, rfl⟩, hJ2⟩ := hR r2 M2 q2
  exact lx_eqI C dL_law_236 (by decide) (k M2 hJ2)
theorem lc_1 {E : av_E} {p : Program} {e : Env} {s : State} {m : MethodId} {below : List Frame} {meth : Method} {c : Code} {b L : Nat} {xs : Nat → Int32} {M : av_M} {i : Int} (C : lCx E p s m meth c b L xs) (hJ : JR M) (hi : 0 ≤ i ∧ i + 5 ≤ L) (k : ∀ M1, JR M1 → lwS E p e s m below meth c b 1330 (lwL i) [] M1) : lwS E p e s m below meth c b 241 (lwL i) [] M := by
  have hp : PRq E mX7_move mX8_move [vI (sx xs (i + 1)), vI (sx xs (i + 2)), vI (sx xs (i + 3))] M isI := p_move hJ (sx xs (i + 1)) (sx xs (i + 2)) (sx xs (i + 3)) (sx_r _ _) (sx_r _ _) (sx_r _ _)
  obtain ⟨Q7, h7, hQ⟩ := hp
  refine lx_al1 C dL_law_241 ?_
  refine lx_arg C hi (n := 1) (by decide) dL_law_242 dL_law_243 dL_law_244 dL_law_245 dL_law_246 ?_
  refine lx_arg C hi (n := 2) (by decide) dL_law_247 dL_law_248 dL_law_249 dL_law_250 dL_law_251 ?_
  refine lx_arg C hi (n := 3) (by decide) dL_law_252 dL_law_253 dL_law_254 dL_law_255 dL_law_256 ?_
  refine lx_call (E := E) (as := [vI (sx xs (i + 1)), vI (sx xs (i + 2)), vI (sx xs (i + 3))]) (rest := []) C vL_18 hX7_move (by decide) dL_law_257 rfl rfl rfl (by decide) h7 (fun r M1 q1 => ?_)
  obtain ⟨Q8, h8, hR⟩ := hQ r M1 q1
  refine lx_al2 C dL_law_260 ?_
  refine lx_arg C hi (n := 1) (by decide) dL_law_261 dL_law_262 dL_law_263 dL_law_264 dL_law_265 ?_
  refine lx_arg C hi (n := 2) (by decide) dL_law_266 dL_law_267 dL_law_268 dL_law_269 dL_law_270 ?_
  refine lx_arg C hi (n := 3) (by decide) dL_law_271 dL_law_272 dL_law_273 dL_law_274 dL_law_275 ?_
  refine lx_call (E := E) (as := [vI (sx xs (i + 1)), vI (sx xs (i + 2)), vI (sx xs (i + 3))]) (rest := r.toList ++ []) C vL_22 hX8_move (by decide) dL_law_276 rfl rfl rfl (wd_r r) h8 (fun r2 M2 q2 => ?_)
  obtain ⟨rfl, ⟨v, rfl, z, rfl⟩, hJ2⟩ := hR r2 M2 q2
  exact lx_eqI C dL_law_279 (by decide) (k M2 hJ2)
theorem lc_2 {E : av_E} {p : Program} {e : Env} {s : State} {m : MethodId} {below : List Frame} {meth : Method} {c : Code} {b L : Nat} {xs : Nat → Int32} {M : av_M} {i : Int} (C : lCx E p s m meth c b L xs) (hJ : JR M) (hi : 0 ≤ i ∧ i + 5 ≤ L) (k : ∀ M1, JR M1 → lwS E p e s m below meth c b 1330 (lwL i) [] M1) : lwS E p e s m below meth c b 284 (lwL i) [] M := by
  have hp : PRq E mX7_clear mX8_clear [] M isI := p_clear hJ  
  obtain ⟨Q7, h7, hQ⟩ := hp
  refine lx_al1 C dL_law_284 ?_
  refine lx_call (E := E) (as := []) (rest := []) C vL_23 hX7_clear (by decide) dL_law_285 rfl rfl rfl (by decide) h7 (fun r M1 q1 => ?_)
  obtain ⟨Q8, h8, hR⟩ := hQ r M1 q1
  refine lx_al2 C dL_law_288 ?_
  refine lx_call (E := E) (as := []) (rest := r.toList ++ []) C vL_27 hX8_clear (by decide) dL_law_289 rfl rfl rfl (wd_r r) h8 (fun r2 M2 q2 => ?_)
  obtain ⟨rfl, ⟨v, rfl, z, rfl⟩, hJ2⟩ := hR r2 M2 q2
  exact lx_eqI C dL_law_292 (by decide) (k M2 hJ2)
theorem lc_3 {E : av_E} {p : Program} {e : Env} {s : State} {m : MethodId} {below : List Frame} {meth : Method} {c : Code} {b L : Nat} {xs : Nat → Int32} {M : av_M} {i : Int} (C : lCx E p s m meth c b L xs) (hJ : JR M) (hi : 0 ≤ i ∧ i + 5 ≤ L) (k : ∀ M1, JR M1 → lwS E p e s m below meth c b 1330 (lwL i) [] M1) : lwS E p e s m below meth c b 297 (lwL i) [] M := by
  have hp : PRq E mX7_corners mX8_corners [] M isI := p_corners hJ  
  obtain ⟨Q7, h7, hQ⟩ := hp
  refine lx_al1 C dL_law_297 ?_
  refine lx_call (E := E) (as := []) (rest := []) C vL_28 hX7_corners (by decide) dL_law_298 rfl rfl rfl (by decide) h7 (fun r M1 q1 => ?_)
  obtain ⟨Q8, h8, hR⟩ := hQ r M1 q1
  refine lx_al2 C dL_law_301 ?_
  refine lx_call (E := E) (as := []) (rest := r.toList ++ []) C vL_31 hX8_corners (by decide) dL_law_302 rfl rfl rfl (wd_r r) h8 (fun r2 M2 q2 => ?_)
  obtain ⟨rfl, ⟨v, rfl, z, rfl⟩, hJ2⟩ := hR r2 M2 q2
  exact lx_eqI C dL_law_305 (by decide) (k M2 hJ2)
theorem lc_4 {E : av_E} {p : Program} {e : Env} {s : State} {m : MethodId} {below : List Frame} {meth : Method} {c : Code} {b L : Nat} {xs : Nat → Int32} {M : av_M} {i : Int} (C : lCx E p s m meth c b L xs) (hJ : JR M) (hi : 0 ≤ i ∧ i + 5 ≤ L) (k : ∀ M1, JR M1 → lwS E p e s m below meth c b 1330 (lwL i) [] M1) : lwS E p e s m below meth c b 310 (lwL i) [] M := by
  have hp : PRq E mX7_corner mX8_corner [vI (sx xs (i + 1)), vI (bz (sx xs (i + 2)))] M isI := p_corner hJ (sx xs (i + 1)) (bz (sx xs (i + 2))) (sx_r _ _) (bz_r _)
  obtain ⟨Q7, h7, hQ⟩ := hp
  refine lx_al1 C dL_law_310 ?_
  refine lx_arg C hi (n := 1) (by decide) dL_law_311 dL_law_312 dL_law_313 dL_law_314 dL_law_315 ?_
  refine lx_arg C hi (n := 2) (by decide) dL_law_316 dL_law_317 dL_law_318 dL_law_319 dL_law_320 ?_
  refine lx_bool C (sx_r _ _) dL_law_321 dL_law_324 dL_law_325 dL_law_328 ?_
  refine lx_call (E := E) (as := [vI (sx xs (i + 1)), vI (bz (sx xs (i + 2)))]) (rest := []) C vL_32 hX7_corner (by decide) dL_law_329 rfl rfl rfl (by decide) h7 (fun r M1 q1 => ?_)
  obtain ⟨Q8, h8, hR⟩ := hQ r M1 q1
  refine lx_al2 C dL_law_332 ?_
  refine lx_arg C hi (n := 1) (by decide) dL_law_333 dL_law_334 dL_law_335 dL_law_336 dL_law_337 ?_
  refine lx_arg C hi (n := 2) (by decide) dL_law_338 dL_law_339 dL_law_340 dL_law_341 dL_law_342 ?_
  refine lx_bool C (sx_r _ _) dL_law_343 dL_law_346 dL_law_347 dL_law_350 ?_
  refine lx_call (E := E) (as := [vI (sx xs (i + 1)), vI (bz (sx xs (i + 2)))]) (rest := r.toList ++ []) C vL_36 hX8_corner (by decide) dL_law_351 rfl rfl rfl (wd_r r) h8 (fun r2 M2 q2 => ?_)
  obtain ⟨rfl, ⟨v, rfl, z, rfl⟩, hJ2⟩ := hR r2 M2 q2
  exact lx_eqI C dL_law_354 (by decide) (k M2 hJ2)
theorem lc_5 {E : av_E} {p : Program} {e : Env} {s : State} {m : MethodId} {below : List Frame} {meth : Method} {c : Code} {b L : Nat} {xs : Nat → Int32} {M : av_M} {i : Int} (C : lCx E p s m meth c b L xs) (hJ : JR M) (hi : 0 ≤ i ∧ i + 5 ≤ L) (k : ∀ M1, JR M1 → lwS E p e s m below meth c b 1330 (lwL i) [] M1) : lwS E p e s m below meth c b 359 (lwL i) [] M := by
  have hp : PRq E mX7_wallOf mX8_wallOf [vI (sx xs (i + 1)), vI (sx xs (i + 2))] M isI := p_wallOf hJ (sx xs (i + 1)) (sx xs (i + 2)) (sx_r _ _) (sx_r _ _)
  obtain ⟨Q7, h7, hQ⟩ := hp
  refine lx_al1 C dL_law_359 ?_
  refine lx_arg C hi (n := 1) (by decide) dL_law_360 dL_law_361 dL_law_362 dL_law_363 dL_law_364 ?_
  refine lx_arg C hi (n := 2) (by decide) dL_law_365 dL_law_366 dL_law_367 dL_law_368 dL_law_369 ?_
  refine lx_call (E := E) (as := [vI (sx xs (i + 1)), vI (sx xs (i + 2))]) (rest := []) C vL_37 hX7_wallOf (by decide) dL_law_370 rfl rfl rfl (by decide) h7 (fun r M1 q1 => ?_)
  obtain ⟨Q8, h8, hR⟩ := hQ r M1 q1
  refine lx_al2 C dL_law_373 ?_
  refine lx_arg C hi (n := 1) (by decide) dL_law_374 dL_law_375 dL_law_376 dL_law_377 dL_law_378 ?_
  refine lx_arg C hi (n := 2) (by decide) dL_law_379 dL_law_380 dL_law_381 dL_law_382 dL_law_383 ?_
  refine lx_call (E := E) (as := [vI (sx xs (i + 1)), vI (sx xs (i + 2))]) (rest := r.toList ++ []) C vL_40 hX8_wallOf (by decide) dL_law_384 rfl rfl rfl (wd_r r) h8 (fun r2 M2 q2 => ?_)
  obtain ⟨rfl, ⟨v, rfl, z, rfl⟩, hJ2⟩ := hR r2 M2 q2
  exact lx_eqI C dL_law_387 (by decide) (k M2 hJ2)
theorem lc_6 {E : av_E} {p : Program} {e : Env} {s : State} {m : MethodId} {below : List Frame} {meth : Method} {c : Code} {b L : Nat} {xs : Nat → Int32} {M : av_M} {i : Int} (C : lCx E p s m meth c b L xs) (hJ : JR M) (hi : 0 ≤ i ∧ i + 5 ≤ L) (k : ∀ M1, JR M1 → lwS E p e s m below meth c b 1330 (lwL i) [] M1) : lwS E p e s m below meth c b 392 (lwL i) [] M := by
  have hp : PRq E mX7_slack mX8_slack [vI (sx xs (i + 1)), vI (sx xs (i + 2))] M isI := p_slack hJ (sx xs (i + 1)) (sx xs (i + 2)) (sx_r _ _) (sx_r _ _)
  obtain ⟨Q7, h7, hQ⟩ := hp
  refine lx_al1 C dL_law_392 ?_
  refine lx_arg C hi (n := 1) (by decide) dL_law_393 dL_law_394 dL_law_395 dL_law_396 dL_law_397 ?_
  refine lx_arg C hi (n := 2) (by decide) dL_law_398 dL_law_399 dL_law_400 dL_law_401 dL_law_402 ?_
  refine lx_call (E := E) (as := [vI (sx xs (i + 1)), vI (sx xs (i + 2))]) (rest := []) C vL_41 hX7_slack (by decide) dL_law_403 rfl rfl rfl (by decide) h7 (fun r M1 q1 => ?_)
  obtain ⟨Q8, h8, hR⟩ := hQ r M1 q1
  refine lx_al2 C dL_law_406 ?_
  refine lx_arg C hi (n := 1) (by decide) dL_law_407 dL_law_408 dL_law_409 dL_law_410 dL_law_411 ?_
  refine lx_arg C hi (n := 2) (by decide) dL_law_412 dL_law_413 dL_law_414 dL_law_415 dL_law_416 ?_
  refine lx_call (E := E) (as := [vI (sx xs (i + 1)), vI (sx xs (i + 2))]) (rest := r.toList ++ []) C vL_44 hX8_slack (by decide) dL_law_417 rfl rfl rfl (wd_r r) h8 (fun r2 M2 q2 => ?_)
  obtain ⟨rfl, ⟨v, rfl, z, rfl⟩, hJ2⟩ := hR r2 M2 q2
  exact lx_eqI C dL_law_420 (by decide) (k M2 hJ2)
theorem lc_7 {E : av_E} {p : Program} {e : Env} {s : State} {m : MethodId} {below : List Frame} {meth : Method} {c : Code} {b L : Nat} {xs : Nat → Int32} {M : av_M} {i : Int} (C : lCx E p s m meth c b L xs) (hJ : JR M) (hi : 0 ≤ i ∧ i + 5 ≤ L) (k : ∀ M1, JR M1 → lwS E p e s m below meth c b 1330 (lwL i) [] M1) : lwS E p e s m below meth c b 425 (lwL i) [] M := by
  have hp : PRq E mX7_area mX8_area [] M isI := p_area hJ  
  obtain ⟨Q7, h7, hQ⟩ := hp
  refine lx_al1 C dL_law_425 ?_
  refine lx_call (E := E) (as := []) (rest := []) C vL_45 hX7_area (by decide) dL_law_426 rfl rfl rfl (by decide) h7 (fun r M1 q1 => ?_)
  obtain ⟨Q8, h8, hR⟩ := hQ r M1 q1
  refine lx_al2 C dL_law_429 ?_
  refine lx_call (E := E) (as := []) (rest := r.toList ++ []) C vL_48 hX8_area (by decide) dL_law_430 rfl rfl rfl (wd_r r) h8 (fun r2 M2 q2 => ?_)
  obtain ⟨rfl, ⟨v, rfl, z, rfl⟩, hJ2⟩ := hR r2 M2 q2
  exact lx_eqI C dL_law_433 (by decide) (k M2 hJ2)
theorem lc_8 {E : av_E} {p : Program} {e : Env} {s : State} {m : MethodId} {below : List Frame} {meth : Method} {c : Code} {b L : Nat} {xs : Nat → Int32} {M : av_M} {i : Int} (C : lCx E p s m meth c b L xs) (hJ : JR M) (hi : 0 ≤ i ∧ i + 5 ≤ L) (k : ∀ M1, JR M1 → lwS E p e s m below meth c b 1330 (lwL i) [] M1) : lwS E p e s m below meth c b 438 (lwL i) [] M := by
  have hp : PRq E mX7_open mX8_open [] M isI := p_open hJ  
  obtain ⟨Q7, h7, hQ⟩ := hp
  refine lx_al1 C dL_law_438 ?_
  refine lx_call (E := E) (as := []) (rest := []) C vL_49 hX7_open (by decide) dL_law_439 rfl rfl rfl (by decide) h7 (fun r M1 q1 => ?_)
  obtain ⟨Q8, h8, hR⟩ := hQ r M1 q1
  refine lx_al2 C dL_law_442 ?_
  refine lx_call (E := E) (as := []) (rest := r.toList ++ []) C vL_52 hX8_open (by decide) dL_law_443 rfl rfl rfl (wd_r r) h8 (fun r2 M2 q2 => ?_)
  obtain ⟨rfl, ⟨v, rfl, z, rfl⟩, hJ2⟩ := hR r2 M2 q2
  exact lx_eqI C dL_law_446 (by decide) (k M2 hJ2)
theorem lc_9 {E : av_E} {p : Program} {e : Env} {s : State} {m : MethodId} {below : List Frame} {meth : Method} {c : Code} {b L : Nat} {xs : Nat → Int32} {M : av_M} {i : Int} (C : lCx E p s m meth c b L xs) (hJ : JR M) (hi : 0 ≤ i ∧ i + 5 ≤ L) (k : ∀ M1, JR M1 → lwS E p e s m below meth c b 1330 (lwL i) [] M1) : lwS E p e s m below meth c b 451 (lwL i) [] M := by
  have hp : PRq E mX7_cover mX8_cover [] M isI := p_cover hJ  
  obtain ⟨Q7, h7, hQ⟩ := hp
  refine lx_al1 C dL_law_451 ?_
  refine lx_call (E := E) (as := []) (rest := []) C vL_53 hX7_cover (by decide) dL_law_452 rfl rfl rfl (by decide) h7 (fun r M1 q1 => ?_)
  obtain ⟨Q8, h8, hR⟩ := hQ r M1 q1
  refine lx_al2 C dL_law_455 ?_
  refine lx_call (E := E) (as := []) (rest := r.toList ++ []) C vL_56 hX8_cover (by decide) dL_law_456 rfl rfl rfl (wd_r r) h8 (fun r2 M2 q2 => ?_)
  obtain ⟨rfl, ⟨v, rfl, z, rfl⟩, hJ2⟩ := hR r2 M2 q2
  exact lx_eqI C dL_law_459 (by decide) (k M2 hJ2)
theorem lc_10 {E : av_E} {p : Program} {e : Env} {s : State} {m : MethodId} {below : List Frame} {meth : Method} {c : Code} {b L : Nat} {xs : Nat → Int32} {M : av_M} {i : Int} (C : lCx E p s m meth c b L xs) (hJ : JR M) (hi : 0 ≤ i ∧ i + 5 ≤ L) (k : ∀ M1, JR M1 → lwS E p e s m below meth c b 1330 (lwL i) [] M1) : lwS E p e s m below meth c b 464 (lwL i) [] M := by
  have hp : PRq E mX7_fools mX8_fools [] M isI := p_fools hJ  
  obtain ⟨Q7, h7, hQ⟩ := hp
  refine lx_al1 C dL_law_464 ?_
  refine lx_call (E := E) (as := []) (rest := []) C vL_57 hX7_fools (by decide) dL_law_465 rfl rfl rfl (by decide) h7 (fun r M1 q1 => ?_)
  obtain ⟨Q8, h8, hR⟩ := hQ r M1 q1
  refine lx_al2 C dL_law_468 ?_
  refine lx_call (E := E) (as := []) (rest := r.toList ++ []) C vL_60 hX8_fools (by decide) dL_law_469 rfl rfl rfl (wd_r r) h8 (fun r2 M2 q2 => ?_)
  obtain ⟨rfl, ⟨v, rfl, z, rfl⟩, hJ2⟩ := hR r2 M2 q2
  exact lx_eqI C dL_law_472 (by decide) (k M2 hJ2)
theorem lc_11 {E : av_E} {p : Program} {e : Env} {s : State} {m : MethodId} {below : List Frame} {meth : Method} {c : Code} {b L : Nat} {xs : Nat → Int32} {M : av_M} {i : Int} (C : lCx E p s m meth c b L xs) (hJ : JR M) (hi : 0 ≤ i ∧ i + 5 ≤ L) (k : ∀ M1, JR M1 → lwS E p e s m below meth c b 1330 (lwL i) [] M1) : lwS E p e s m below meth c b 477 (lwL i) [] M := by
  have hp : PRq E mX7_log mX8_log [] M isI := p_log hJ  
  obtain ⟨Q7, h7, hQ⟩ := hp
  refine lx_al1 C dL_law_477 ?_
  refine lx_call (E := E) (as := []) (rest := []) C vL_61 hX7_log (by decide) dL_law_478 rfl rfl rfl (by decide) h7 (fun r M1 q1 => ?_)
  obtain ⟨Q8, h8, hR⟩ := hQ r M1 q1
  refine lx_al2 C dL_law_481 ?_
  refine lx_call (E := E) (as := []) (rest := r.toList ++ []) C vL_64 hX8_log (by decide) dL_law_482 rfl rfl rfl (wd_r r) h8 (fun r2 M2 q2 => ?_)
  obtain ⟨rfl, ⟨v, rfl, z, rfl⟩, hJ2⟩ := hR r2 M2 q2
  exact lx_eqI C dL_law_485 (by decide) (k M2 hJ2)
theorem lc_12 {E : av_E} {p : Program} {e : Env} {s : State} {m : MethodId} {below : List Frame} {meth : Method} {c : Code} {b L : Nat} {xs : Nat → Int32} {M : av_M} {i : Int} (C : lCx E p s m meth c b L xs) (hJ : JR M) (hi : 0 ≤ i ∧ i + 5 ≤ L) (k : ∀ M1, JR M1 → lwS E p e s m below meth c b 1330 (lwL i) [] M1) : lwS E p e s m below meth c b 490 (lwL i) [] M := by
  have hp : PRq E mX7_low mX8_low [] M isI := p_low hJ  
  obtain ⟨Q7, h7, hQ⟩ := hp
  refine lx_al1 C dL_law_490 ?_
  refine lx_call (E := E) (as := []) (rest := []) C vL_65 hX7_low (by decide) dL_law_491 rfl rfl rfl (by decide) h7 (fun r M1 q1 => ?_)
  obtain ⟨Q8, h8, hR⟩ := hQ r M1 q1
  refine lx_al2 C dL_law_494 ?_
  refine lx_call (E := E) (as := []) (rest := r.toList ++ []) C vL_68 hX8_low (by decide) dL_law_495 rfl rfl rfl (wd_r r) h8 (fun r2 M2 q2 => ?_)
  obtain ⟨rfl, ⟨v, rfl, z, rfl⟩, hJ2⟩ := hR r2 M2 q2
  exact lx_eqI C dL_law_498 (by decide) (k M2 hJ2)
theorem lc_13 {E : av_E} {p : Program} {e : Env} {s : State} {m : MethodId} {below : List Frame} {meth : Method} {c : Code} {b L : Nat} {xs : Nat → Int32} {M : av_M} {i : Int} (C : lCx E p s m meth c b L xs) (hJ : JR M) (hi : 0 ≤ i ∧ i + 5 ≤ L) (k : ∀ M1, JR M1 → lwS E p e s m below meth c b 1330 (lwL i) [] M1) : lwS E p e s m below meth c b 503 (lwL i) [] M := by
  have hp : PRq E mX7_high mX8_high [] M isI := p_high hJ  
  obtain ⟨Q7, h7, hQ⟩ := hp
  refine lx_al1 C dL_law_503 ?_
  refine lx_call (E := E) (as := []) (rest := []) C vL_69 hX7_high (by decide) dL_law_504 rfl rfl rfl (by decide) h7 (fun r M1 q1 => ?_)
  obtain ⟨Q8, h8, hR⟩ := hQ r M1 q1
  refine lx_al2 C dL_law_507 ?_
  refine lx_call (E := E) (as := []) (rest := r.toList ++ []) C vL_72 hX8_high (by decide) dL_law_508 rfl rfl rfl (wd_r r) h8 (fun r2 M2 q2 => ?_)
  obtain ⟨rfl, ⟨v, rfl, z, rfl⟩, hJ2⟩ := hR r2 M2 q2
  exact lx_eqI C dL_law_511 (by decide) (k M2 hJ2)
theorem lc_14 {E : av_E} {p : Program} {e : Env} {s : State} {m : MethodId} {below : List Frame} {meth : Method} {c : Code} {b L : Nat} {xs : Nat → Int32} {M : av_M} {i : Int} (C : lCx E p s m meth c b L xs) (hJ : JR M) (hi : 0 ≤ i ∧ i + 5 ≤ L) (k : ∀ M1, JR M1 → lwS E p e s m below meth c b 1330 (lwL i) [] M1) : lwS E p e s m below meth c b 516 (lwL i) [] M := by
  have hp : PRq E mX7_factors mX8_factors [vI (sx xs (i + 1)), vI (sx xs (i + 2))] M isI := p_factors hJ (sx xs (i + 1)) (sx xs (i + 2)) (sx_r _ _) (sx_r _ _)
  obtain ⟨Q7, h7, hQ⟩ := hp
  refine lx_al1 C dL_law_516 ?_
  refine lx_arg C hi (n := 1) (by decide) dL_law_517 dL_law_518 dL_law_519 dL_law_520 dL_law_521 ?_
  refine lx_arg C hi (n := 2) (by decide) dL_law_522 dL_law_523 dL_law_524 dL_law_525 dL_law_526 ?_
  refine lx_call (E := E) (as := [vI (sx xs (i + 1)), vI (sx xs (i + 2))]) (rest := []) C vL_73 hX7_factors (by decide) dL_law_527 rfl rfl rfl (by decide) h7 (fun r M1 q1 => ?_)
  obtain ⟨Q8, h8, hR⟩ := hQ r M1 q1
  refine lx_al2 C dL_law_530 ?_
  refine lx_arg C hi (n := 1) (by decide) dL_law_531 dL_law_532 dL_law_533 dL_law_534 dL_law_535 ?_
  refine lx_arg C hi (n := 2) (by decide) dL_law_536 dL_law_537 dL_law_538 dL_law_539 dL_law_540 ?_
  refine lx_call (E := E) (as := [vI (sx xs (i + 1)), vI (sx xs (i + 2))]) (rest := r.toList ++ []) C vL_76 hX8_factors (by decide) dL_law_541 rfl rfl rfl (wd_r r) h8 (fun r2 M2 q2 => ?_)
  obtain ⟨rfl, ⟨v, rfl, z, rfl⟩, hJ2⟩ := hR r2 M2 q2
  exact lx_eqI C dL_law_544 (by decide) (k M2 hJ2)
theorem lc_15 {E : av_E} {p : Program} {e : Env} {s : State} {m : MethodId} {below : List Frame} {meth : Method} {c : Code} {b L : Nat} {xs : Nat → Int32} {M : av_M} {i : Int} (C : lCx E p s m meth c b L xs) (hJ : JR M) (hi : 0 ≤ i ∧ i + 5 ≤ L) (k : ∀ M1, JR M1 → lwS E p e s m below meth c b 1330 (lwL i) [] M1) : lwS E p e s m below meth c b 549 (lwL i) [] M := by
  have hp : PRq E mX7_entry mX8_entry [vI (bz (sx xs (i + 1))), vI (sx xs (i + 2)), vI (sx xs (i + 3)), vI (sx xs (i + 4))] M isI := by
    rcases bz01 (sx xs (i + 1)) with h | h
    · rw [h]; exact p_entry_0 hJ (sx xs (i + 2)) (sx xs (i + 3)) (sx xs (i + 4)) (sx_r _ _) (sx_r _ _) (sx_r _ _)
    · rw [h]; exact p_entry_1 hJ (sx xs (i + 2)) (sx xs (i + 3)) (sx xs (i + 4)) (sx_r _ _) (sx_r _ _) (sx_r _ _)
  obtain ⟨Q7, h7, hQ⟩ := hp
  refine lx_al1 C dL_law_549 ?_
  refine lx_arg C hi (n := 1) (by decide) dL_law_550 dL_law_551 dL_law_552 dL_law_553 dL_law_554 ?_
  refine lx_bool C (sx_r _ _) dL_law_555 dL_law_558 dL_law_559 dL_law_562 ?_
  refine lx_arg C hi (n := 2) (by decide) dL_law_563 dL_law_564 dL_law_565 dL_law_566 dL_law_567 ?_
  refine lx_arg C hi (n := 3) (by decide) dL_law_568 dL_law_569 dL_law_570 dL_law_571 dL_law_572 ?_
  refine lx_arg C hi (n := 4) (by decide) dL_law_573 dL_law_574 dL_law_575 dL_law_576 dL_law_577 ?_
  refine lx_call (E := E) (as := [vI (bz (sx xs (i + 1))), vI (sx xs (i + 2)), vI (sx xs (i + 3)), vI (sx xs (i + 4))]) (rest := []) C vL_77 hX7_entry (by decide) dL_law_578 rfl rfl rfl (by decide) h7 (fun r M1 q1 => ?_)
  obtain ⟨Q8, h8, hR⟩ := hQ r M1 q1
  refine lx_al2 C dL_law_581 ?_
  refine lx_arg C hi (n := 1) (by decide) dL_law_582 dL_law_583 dL_law_584 dL_law_585 dL_law_586 ?_
  refine lx_bool C (sx_r _ _) dL_law_587 dL_law_590 dL_law_591 dL_law_594 ?_
  refine lx_arg C hi (n := 2) (by decide) dL_law_595 dL_law_596 dL_law_597 dL_law_598 dL_law_599 ?_
  refine lx_arg C hi (n := 3) (by decide) dL_law_600 dL_law_601 dL_law_602 dL_law_603 dL_law_604 ?_
  refine lx_arg C hi (n := 4) (by decide) dL_law_605 dL_law_606 dL_law_607 dL_law_608 dL_law_609 ?_
  refine lx_call (E := E) (as := [vI (bz (sx xs (i + 1))), vI (sx xs (i + 2)), vI (sx xs (i + 3)), vI (sx xs (i + 4))]) (rest := r.toList ++ []) C vL_81 hX8_entry (by decide) dL_law_610 rfl rfl rfl (wd_r r) h8 (fun r2 M2 q2 => ?_)
  obtain ⟨rfl, ⟨v, rfl, z, rfl⟩, hJ2⟩ := hR r2 M2 q2
  exact lx_eqI C dL_law_613 (by decide) (k M2 hJ2)
theorem lc_16 {E : av_E} {p : Program} {e : Env} {s : State} {m : MethodId} {below : List Frame} {meth : Method} {c : Code} {b L : Nat} {xs : Nat → Int32} {M : av_M} {i : Int} (C : lCx E p s m meth c b L xs) (hJ : JR M) (hi : 0 ≤ i ∧ i + 5 ≤ L) (k : ∀ M1, JR M1 → lwS E p e s m below meth c b 1330 (lwL i) [] M1) : lwS E p e s m below meth c b 618 (lwL i) [] M := by
  have hp : PRq E mX7_hold mX8_hold [] M isI := p_hold hJ  
  obtain ⟨Q7, h7, hQ⟩ := hp
  refine lx_al1 C dL_law_618 ?_
  refine lx_call (E := E) (as := []) (rest := []) C vL_82 hX7_hold (by decide) dL_law_619 rfl rfl rfl (by decide) h7 (fun r M1 q1 => ?_)
  obtain ⟨Q8, h8, hR⟩ := hQ r M1 q1
  refine lx_al2 C dL_law_622 ?_
  refine lx_call (E := E) (as := []) (rest := r.toList ++ []) C vL_85 hX8_hold (by decide) dL_law_623 rfl rfl rfl (wd_r r) h8 (fun r2 M2 q2 => ?_)
  obtain ⟨rfl, ⟨v, rfl, z, rfl⟩, hJ2⟩ := hR r2 M2 q2
  exact lx_eqI C dL_law_626 (by decide) (k M2 hJ2)
theorem lc_17 {E : av_E} {p : Program} {e : Env} {s : State} {m : MethodId} {below : List Frame} {meth : Method} {c : Code} {b L : Nat} {xs : Nat → Int32} {M : av_M} {i : Int} (C : lCx E p s m meth c b L xs) (hJ : JR M) (hi : 0 ≤ i ∧ i + 5 ≤ L) (k : ∀ M1, JR M1 → lwS E p e s m below meth c b 1330 (lwL i) [] M1) : lwS E p e s m below meth c b 631 (lwL i) [] M := by
  have hp : PRq E mX7_wrong mX8_wrong [] M isI := p_wrong hJ  
  obtain ⟨Q7, h7, hQ⟩ := hp
  refine lx_al1 C dL_law_631 ?_
  refine lx_call (E := E) (as := []) (rest := []) C vL_86 hX7_wrong (by decide) dL_law_632 rfl rfl rfl (by decide) h7 (fun r M1 q1 => ?_)
  obtain ⟨Q8, h8, hR⟩ := hQ r M1 q1
  refine lx_al2 C dL_law_635 ?_
  refine lx_call (E := E) (as := []) (rest := r.toList ++ []) C vL_89 hX8_wrong (by decide) dL_law_636 rfl rfl rfl (wd_r r) h8 (fun r2 M2 q2 => ?_)
  obtain ⟨rfl, ⟨v, rfl, z, rfl⟩, hJ2⟩ := hR r2 M2 q2
  exact lx_eqI C dL_law_639 (by decide) (k M2 hJ2)
theorem lc_18 {E : av_E} {p : Program} {e : Env} {s : State} {m : MethodId} {below : List Frame} {meth : Method} {c : Code} {b L : Nat} {xs : Nat → Int32} {M : av_M} {i : Int} (C : lCx E p s m meth c b L xs) (hJ : JR M) (hi : 0 ≤ i ∧ i + 5 ≤ L) (k : ∀ M1, JR M1 → lwS E p e s m below meth c b 1330 (lwL i) [] M1) : lwS E p e s m below meth c b 644 (lwL i) [] M := by
  have hp : PRq E mX7_wall mX8_wall [vI (sx xs (i + 1)), vI (sx xs (i + 2)), vI (sx xs (i + 3)), vI (sx xs (i + 4))] M isI := p_wall hJ (sx xs (i + 1)) (sx xs (i + 2)) (sx xs (i + 3)) (sx xs (i + 4)) (sx_r _ _) (sx_r _ _) (sx_r _ _) (sx_r _ _)
  obtain ⟨Q7, h7, hQ⟩ := hp
  refine lx_al1 C dL_law_644 ?_
  refine lx_arg C hi (n := 1) (by decide) dL_law_645 dL_law_646 dL_law_647 dL_law_648 dL_law_649 ?_
  refine lx_arg C hi (n := 2) (by decide) dL_law_650 dL_law_651 dL_law_652 dL_law_653 dL_law_654 ?_
  refine lx_arg C hi (n := 3) (by decide) dL_law_655 dL_law_656 dL_law_657 dL_law_658 dL_law_659 ?_
  refine lx_arg C hi (n := 4) (by decide) dL_law_660 dL_law_661 dL_law_662 dL_law_663 dL_law_664 ?_
  refine lx_call (E := E) (as := [vI (sx xs (i + 1)), vI (sx xs (i + 2)), vI (sx xs (i + 3)), vI (sx xs (i + 4))]) (rest := []) C vL_90 hX7_wall (by decide) dL_law_665 rfl rfl rfl (by decide) h7 (fun r M1 q1 => ?_)
  obtain ⟨Q8, h8, hR⟩ := hQ r M1 q1
  refine lx_al2 C dL_law_668 ?_
  refine lx_arg C hi (n := 1) (by decide) dL_law_669 dL_law_670 dL_law_671 dL_law_672 dL_law_673 ?_
  refine lx_arg C hi (n := 2) (by decide) dL_law_674 dL_law_675 dL_law_676 dL_law_677 dL_law_678 ?_
  refine lx_arg C hi (n := 3) (by decide) dL_law_679 dL_law_680 dL_law_681 dL_law_682 dL_law_683 ?_
  refine lx_arg C hi (n := 4) (by decide) dL_law_684 dL_law_685 dL_law_686 dL_law_687 dL_law_688 ?_
  refine lx_call (E := E) (as := [vI (sx xs (i + 1)), vI (sx xs (i + 2)), vI (sx xs (i + 3)), vI (sx xs (i + 4))]) (rest := r.toList ++ []) C vL_94 hX8_wall (by decide) dL_law_689 rfl rfl rfl (wd_r r) h8 (fun r2 M2 q2 => ?_)
  obtain ⟨rfl, ⟨v, rfl, z, rfl⟩, hJ2⟩ := hR r2 M2 q2
  exact lx_eqI C dL_law_692 (by decide) (k M2 hJ2)
theorem lc_19 {E : av_E} {p : Program} {e : Env} {s : State} {m : MethodId} {below : List Frame} {meth : Method} {c : Code} {b L : Nat} {xs : Nat → Int32} {M : av_M} {i : Int} (C : lCx E p s m meth c b L xs) (hJ : JR M) (hi : 0 ≤ i ∧ i + 5 ≤ L) (k : ∀ M1, JR M1 → lwS E p e s m below meth c b 1330 (lwL i) [] M1) : lwS E p e s m below meth c b 697 (lwL i) [] M := by
  have hp : PRq E mX7_shift mX8_shift [vI (sx xs (i + 1)), vI (sx xs (i + 2))] M isI := p_shift hJ (sx xs (i + 1)) (sx xs (i + 2)) (sx_r _ _) (sx_r _ _)
  obtain ⟨Q7, h7, hQ⟩ := hp
  refine lx_al1 C dL_law_697 ?_
  refine lx_arg C hi (n := 1) (by decide) dL_law_698 dL_law_699 dL_law_700 dL_law_701 dL_law_702 ?_
  refine lx_arg C hi (n := 2) (by decide) dL_law_703 dL_law_704 dL_law_705 dL_law_706 dL_law_707 ?_
  refine lx_call (E := E) (as := [vI (sx xs (i + 1)), vI (sx xs (i + 2))]) (rest := []) C vL_95 hX7_shift (by decide) dL_law_708 rfl rfl rfl (by decide) h7 (fun r M1 q1 => ?_)
  obtain ⟨Q8, h8, hR⟩ := hQ r M1 q1
  refine lx_al2 C dL_law_711 ?_
  refine lx_arg C hi (n := 1) (by decide) dL_law_712 dL_law_713 dL_law_714 dL_law_715 dL_law_716 ?_
  refine lx_arg C hi (n := 2) (by decide) dL_law_717 dL_law_718 dL_law_719 dL_law_720 dL_law_721 ?_
  refine lx_call (E := E) (as := [vI (sx xs (i + 1)), vI (sx xs (i + 2))]) (rest := r.toList ++ []) C vL_98 hX8_shift (by decide) dL_law_722 rfl rfl rfl (wd_r r) h8 (fun r2 M2 q2 => ?_)
  obtain ⟨rfl, ⟨v, rfl, z, rfl⟩, hJ2⟩ := hR r2 M2 q2
  exact lx_eqI C dL_law_725 (by decide) (k M2 hJ2)
theorem lc_20 {E : av_E} {p : Program} {e : Env} {s : State} {m : MethodId} {below : List Frame} {meth : Method} {c : Code} {b L : Nat} {xs : Nat → Int32} {M : av_M} {i : Int} (C : lCx E p s m meth c b L xs) (hJ : JR M) (hi : 0 ≤ i ∧ i + 5 ≤ L) (k : ∀ M1, JR M1 → lwS E p e s m below meth c b 1330 (lwL i) [] M1) : lwS E p e s m below meth c b 730 (lwL i) [] M := by
  have hp : PRq E mX7_on mX8_on [vI (sx xs (i + 1)), vI (bz (sx xs (i + 2)))] M isI := p_on hJ (sx xs (i + 1)) (bz (sx xs (i + 2))) (sx_r _ _) (bz01 _)
  obtain ⟨Q7, h7, hQ⟩ := hp
  refine lx_al1 C dL_law_730 ?_
  refine lx_arg C hi (n := 1) (by decide) dL_law_731 dL_law_732 dL_law_733 dL_law_734 dL_law_735 ?_
  refine lx_arg C hi (n := 2) (by decide) dL_law_736 dL_law_737 dL_law_738 dL_law_739 dL_law_740 ?_
  refine lx_bool C (sx_r _ _) dL_law_741 dL_law_744 dL_law_745 dL_law_748 ?_
  refine lx_call (E := E) (as := [vI (sx xs (i + 1)), vI (bz (sx xs (i + 2)))]) (rest := []) C vL_99 hX7_on (by decide) dL_law_749 rfl rfl rfl (by decide) h7 (fun r M1 q1 => ?_)
  obtain ⟨Q8, h8, hR⟩ := hQ r M1 q1
  refine lx_al2 C dL_law_752 ?_
  refine lx_arg C hi (n := 1) (by decide) dL_law_753 dL_law_754 dL_law_755 dL_law_756 dL_law_757 ?_
  refine lx_arg C hi (n := 2) (by decide) dL_law_758 dL_law_759 dL_law_760 dL_law_761 dL_law_762 ?_
  refine lx_bool C (sx_r _ _) dL_law_763 dL_law_766 dL_law_767 dL_law_770 ?_
  refine lx_call (E := E) (as := [vI (sx xs (i + 1)), vI (bz (sx xs (i + 2)))]) (rest := r.toList ++ []) C vL_102 hX8_on (by decide) dL_law_771 rfl rfl rfl (wd_r r) h8 (fun r2 M2 q2 => ?_)
  obtain ⟨rfl, ⟨v, rfl, z, rfl⟩, hJ2⟩ := hR r2 M2 q2
  exact lx_eqI C dL_law_774 (by decide) (k M2 hJ2)
theorem lc_21 {E : av_E} {p : Program} {e : Env} {s : State} {m : MethodId} {below : List Frame} {meth : Method} {c : Code} {b L : Nat} {xs : Nat → Int32} {M : av_M} {i : Int} (C : lCx E p s m meth c b L xs) (hJ : JR M) (hi : 0 ≤ i ∧ i + 5 ≤ L) (k : ∀ M1, JR M1 → lwS E p e s m below meth c b 1330 (lwL i) [] M1) : lwS E p e s m below meth c b 779 (lwL i) [] M := by
  have hp : PRq E mX7_about mX8_about [vI (sx xs (i + 1)), vI (sx xs (i + 2))] M isI := p_about hJ (sx xs (i + 1)) (sx xs (i + 2)) (sx_r _ _) (sx_r _ _)
  obtain ⟨Q7, h7, hQ⟩ := hp
  refine lx_al1 C dL_law_779 ?_
  refine lx_arg C hi (n := 1) (by decide) dL_law_780 dL_law_781 dL_law_782 dL_law_783 dL_law_784 ?_
  refine lx_arg C hi (n := 2) (by decide) dL_law_785 dL_law_786 dL_law_787 dL_law_788 dL_law_789 ?_
  refine lx_call (E := E) (as := [vI (sx xs (i + 1)), vI (sx xs (i + 2))]) (rest := []) C vL_103 hX7_about (by decide) dL_law_790 rfl rfl rfl (by decide) h7 (fun r M1 q1 => ?_)
  obtain ⟨Q8, h8, hR⟩ := hQ r M1 q1
  refine lx_al2 C dL_law_793 ?_
  refine lx_arg C hi (n := 1) (by decide) dL_law_794 dL_law_795 dL_law_796 dL_law_797 dL_law_798 ?_
  refine lx_arg C hi (n := 2) (by decide) dL_law_799 dL_law_800 dL_law_801 dL_law_802 dL_law_803 ?_
  refine lx_call (E := E) (as := [vI (sx xs (i + 1)), vI (sx xs (i + 2))]) (rest := r.toList ++ []) C vL_106 hX8_about (by decide) dL_law_804 rfl rfl rfl (wd_r r) h8 (fun r2 M2 q2 => ?_)
  obtain ⟨rfl, ⟨v, rfl, z, rfl⟩, hJ2⟩ := hR r2 M2 q2
  exact lx_eqI C dL_law_807 (by decide) (k M2 hJ2)
theorem lc_22 {E : av_E} {p : Program} {e : Env} {s : State} {m : MethodId} {below : List Frame} {meth : Method} {c : Code} {b L : Nat} {xs : Nat → Int32} {M : av_M} {i : Int} (C : lCx E p s m meth c b L xs) (hJ : JR M) (hi : 0 ≤ i ∧ i + 5 ≤ L) (k : ∀ M1, JR M1 → lwS E p e s m below meth c b 1330 (lwL i) [] M1) : lwS E p e s m below meth c b 812 (lwL i) [] M := by
  have hp : PRq E mX7_sound mX8_sound [] M isI := p_sound hJ  
  obtain ⟨Q7, h7, hQ⟩ := hp
  refine lx_al1 C dL_law_812 ?_
  refine lx_call (E := E) (as := []) (rest := []) C vL_107 hX7_sound (by decide) dL_law_813 rfl rfl rfl (by decide) h7 (fun r M1 q1 => ?_)
  obtain ⟨Q8, h8, hR⟩ := hQ r M1 q1
  refine lx_al2 C dL_law_816 ?_
  refine lx_call (E := E) (as := []) (rest := r.toList ++ []) C vL_110 hX8_sound (by decide) dL_law_817 rfl rfl rfl (wd_r r) h8 (fun r2 M2 q2 => ?_)
  obtain ⟨rfl, ⟨v, rfl, z, rfl⟩, hJ2⟩ := hR r2 M2 q2
  exact lx_eqI C dL_law_820 (by decide) (k M2 hJ2)
theorem lc_23 {E : av_E} {p : Program} {e : Env} {s : State} {m : MethodId} {below : List Frame} {meth : Method} {c : Code} {b L : Nat} {xs : Nat → Int32} {M : av_M} {i : Int} (C : lCx E p s m meth c b L xs) (hJ : JR M) (hi : 0 ≤ i ∧ i + 5 ≤ L) (k : ∀ M1, JR M1 → lwS E p e s m below meth c b 1330 (lwL i) [] M1) : lwS E p e s m below meth c b 825 (lwL i) [] M := by
  have hp : PRq E mX7_vertices mX8_vertices [] M isI := p_vertices hJ  
  obtain ⟨Q7, h7, hQ⟩ := hp
  refine lx_al1 C dL_law_825 ?_
  refine lx_call (E := E) (as := []) (rest := []) C vL_111 hX7_vertices (by decide) dL_law_826 rfl rfl rfl (by decide) h7 (fun r M1 q1 => ?_)
  obtain ⟨Q8, h8, hR⟩ := hQ r M1 q1
  refine lx_al2 C dL_law_829 ?_
  refine lx_call (E := E) (as := []) (rest := r.toList ++ []) C vL_114 hX8_vertices (by decide) dL_law_830 rfl rfl rfl (wd_r r) h8 (fun r2 M2 q2 => ?_)
  obtain ⟨rfl, ⟨v, rfl, z, rfl⟩, hJ2⟩ := hR r2 M2 q2
  exact lx_eqI C dL_law_833 (by decide) (k M2 hJ2)
theorem lc_24 {E : av_E} {p : Program} {e : Env} {s : State} {m : MethodId} {below : List Frame} {meth : Method} {c : Code} {b L : Nat} {xs : Nat → Int32} {M : av_M} {i : Int} (C : lCx E p s m meth c b L xs) (hJ : JR M) (hi : 0 ≤ i ∧ i + 5 ≤ L) (k : ∀ M1, JR M1 → lwS E p e s m below meth c b 1330 (lwL i) [] M1) : lwS E p e s m below meth c b 838 (lwL i) [] M := by
  have hp : PRq E mX7_vertex mX8_vertex [vI (sx xs (i + 1)), vI (sx xs (i + 2)), vI (bz (sx xs (i + 3)))] M isL := p_vertex hJ (sx xs (i + 1)) (sx xs (i + 2)) (bz (sx xs (i + 3))) (sx_r _ _) (sx_r _ _) (bz_r _)
  obtain ⟨Q7, h7, hQ⟩ := hp
  refine lx_al1 C dL_law_838 ?_
  refine lx_arg C hi (n := 1) (by decide) dL_law_839 dL_law_840 dL_law_841 dL_law_842 dL_law_843 ?_
  refine lx_arg C hi (n := 2) (by decide) dL_law_844 dL_law_845 dL_law_846 dL_law_847 dL_law_848 ?_
  refine lx_arg C hi (n := 3) (by decide) dL_law_849 dL_law_850 dL_law_851 dL_law_852 dL_law_853 ?_
  refine lx_bool C (sx_r _ _) dL_law_854 dL_law_857 dL_law_858 dL_law_861 ?_
  refine lx_call (E := E) (as := [vI (sx xs (i + 1)), vI (sx xs (i + 2)), vI (bz (sx xs (i + 3)))]) (rest := []) C vL_115 hX7_vertex (by decide) dL_law_862 rfl rfl rfl (by decide) h7 (fun r M1 q1 => ?_)
  obtain ⟨Q8, h8, hR⟩ := hQ r M1 q1
  refine lx_al2 C dL_law_865 ?_
  refine lx_arg C hi (n := 1) (by decide) dL_law_866 dL_law_867 dL_law_868 dL_law_869 dL_law_870 ?_
  refine lx_arg C hi (n := 2) (by decide) dL_law_871 dL_law_872 dL_law_873 dL_law_874 dL_law_875 ?_
  refine lx_arg C hi (n := 3) (by decide) dL_law_876 dL_law_877 dL_law_878 dL_law_879 dL_law_880 ?_
  refine lx_bool C (sx_r _ _) dL_law_881 dL_law_884 dL_law_885 dL_law_888 ?_
  refine lx_call (E := E) (as := [vI (sx xs (i + 1)), vI (sx xs (i + 2)), vI (bz (sx xs (i + 3)))]) (rest := r.toList ++ []) C vL_119 hX8_vertex (by decide) dL_law_889 rfl rfl rfl (wd_r r) h8 (fun r2 M2 q2 => ?_)
  obtain ⟨rfl, ⟨v, rfl, z, rfl⟩, hJ2⟩ := hR r2 M2 q2
  exact lx_eqL C dL_law_892 dL_law_893 (by decide) (k M2 hJ2)
theorem lc_25 {E : av_E} {p : Program} {e : Env} {s : State} {m : MethodId} {below : List Frame} {meth : Method} {c : Code} {b L : Nat} {xs : Nat → Int32} {M : av_M} {i : Int} (C : lCx E p s m meth c b L xs) (hJ : JR M) (hi : 0 ≤ i ∧ i + 5 ≤ L) (k : ∀ M1, JR M1 → lwS E p e s m below meth c b 1330 (lwL i) [] M1) : lwS E p e s m below meth c b 898 (lwL i) [] M := by
  have hp : PRq E mX7_tight mX8_tight [vI (sx xs (i + 1))] M isI := p_tight hJ (sx xs (i + 1)) (sx_r _ _)
  obtain ⟨Q7, h7, hQ⟩ := hp
  refine lx_al1 C dL_law_898 ?_
  refine lx_arg C hi (n := 1) (by decide) dL_law_899 dL_law_900 dL_law_901 dL_law_902 dL_law_903 ?_
  refine lx_call (E := E) (as := [vI (sx xs (i + 1))]) (rest := []) C vL_120 hX7_tight (by decide) dL_law_904 rfl rfl rfl (by decide) h7 (fun r M1 q1 => ?_)
  obtain ⟨Q8, h8, hR⟩ := hQ r M1 q1
  refine lx_al2 C dL_law_907 ?_
  refine lx_arg C hi (n := 1) (by decide) dL_law_908 dL_law_909 dL_law_910 dL_law_911 dL_law_912 ?_
  refine lx_call (E := E) (as := [vI (sx xs (i + 1))]) (rest := r.toList ++ []) C vL_124 hX8_tight (by decide) dL_law_913 rfl rfl rfl (wd_r r) h8 (fun r2 M2 q2 => ?_)
  obtain ⟨rfl, ⟨v, rfl, z, rfl⟩, hJ2⟩ := hR r2 M2 q2
  exact lx_eqI C dL_law_916 (by decide) (k M2 hJ2)
theorem lc_26 {E : av_E} {p : Program} {e : Env} {s : State} {m : MethodId} {below : List Frame} {meth : Method} {c : Code} {b L : Nat} {xs : Nat → Int32} {M : av_M} {i : Int} (C : lCx E p s m meth c b L xs) (hJ : JR M) (hi : 0 ≤ i ∧ i + 5 ≤ L) (k : ∀ M1, JR M1 → lwS E p e s m below meth c b 1330 (lwL i) [] M1) : lwS E p e s m below meth c b 921 (lwL i) [] M := by
  have hp : PRq E mX7_rims mX8_rims [] M isI := p_rims hJ  
  obtain ⟨Q7, h7, hQ⟩ := hp
  refine lx_al1 C dL_law_921 ?_
  refine lx_call (E := E) (as := []) (rest := []) C vL_125 hX7_rims (by decide) dL_law_922 rfl rfl rfl (by decide) h7 (fun r M1 q1 => ?_)
  obtain ⟨Q8, h8, hR⟩ := hQ r M1 q1
  refine lx_al2 C dL_law_925 ?_
  refine lx_call (E := E) (as := []) (rest := r.toList ++ []) C vL_128 hX8_rims (by decide) dL_law_926 rfl rfl rfl (wd_r r) h8 (fun r2 M2 q2 => ?_)
  obtain ⟨rfl, ⟨v, rfl, z, rfl⟩, hJ2⟩ := hR r2 M2 q2
  exact lx_eqI C dL_law_929 (by decide) (k M2 hJ2)
theorem lc_27 {E : av_E} {p : Program} {e : Env} {s : State} {m : MethodId} {below : List Frame} {meth : Method} {c : Code} {b L : Nat} {xs : Nat → Int32} {M : av_M} {i : Int} (C : lCx E p s m meth c b L xs) (hJ : JR M) (hi : 0 ≤ i ∧ i + 5 ≤ L) (k : ∀ M1, JR M1 → lwS E p e s m below meth c b 1330 (lwL i) [] M1) : lwS E p e s m below meth c b 934 (lwL i) [] M := by
  have hp : PRq E mX7_idle mX8_idle [vI (sx xs (i + 1))] M isI := p_idle hJ (sx xs (i + 1)) (sx_r _ _)
  obtain ⟨Q7, h7, hQ⟩ := hp
  refine lx_al1 C dL_law_934 ?_
  refine lx_arg C hi (n := 1) (by decide) dL_law_935 dL_law_936 dL_law_937 dL_law_938 dL_law_939 ?_
  refine lx_call (E := E) (as := [vI (sx xs (i + 1))]) (rest := []) C vL_129 hX7_idle (by decide) dL_law_940 rfl rfl rfl (by decide) h7 (fun r M1 q1 => ?_)
  obtain ⟨Q8, h8, hR⟩ := hQ r M1 q1
  refine lx_al2 C dL_law_943 ?_
  refine lx_arg C hi (n := 1) (by decide) dL_law_944 dL_law_945 dL_law_946 dL_law_947 dL_law_948 ?_
  refine lx_call (E := E) (as := [vI (sx xs (i + 1))]) (rest := r.toList ++ []) C vL_132 hX8_idle (by decide) dL_law_949 rfl rfl rfl (wd_r r) h8 (fun r2 M2 q2 => ?_)
  obtain ⟨rfl, ⟨v, rfl, z, rfl⟩, hJ2⟩ := hR r2 M2 q2
  exact lx_eqI C dL_law_952 (by decide) (k M2 hJ2)
theorem lc_28 {E : av_E} {p : Program} {e : Env} {s : State} {m : MethodId} {below : List Frame} {meth : Method} {c : Code} {b L : Nat} {xs : Nat → Int32} {M : av_M} {i : Int} (C : lCx E p s m meth c b L xs) (hJ : JR M) (hi : 0 ≤ i ∧ i + 5 ≤ L) (k : ∀ M1, JR M1 → lwS E p e s m below meth c b 1330 (lwL i) [] M1) : lwS E p e s m below meth c b 957 (lwL i) [] M := by
  have hp : PRq E mX7_shadow mX8_shadow [] M isI := p_shadow hJ  
  obtain ⟨Q7, h7, hQ⟩ := hp
  refine lx_al1 C dL_law_957 ?_
  refine lx_call (E := E) (as := []) (rest := []) C vL_133 hX7_shadow (by decide) dL_law_958 rfl rfl rfl (by decide) h7 (fun r M1 q1 => ?_)
  obtain ⟨Q8, h8, hR⟩ := hQ r M1 q1
  refine lx_al2 C dL_law_961 ?_
  refine lx_call (E := E) (as := []) (rest := r.toList ++ []) C vL_136 hX8_shadow (by decide) dL_law_962 rfl rfl rfl (wd_r r) h8 (fun r2 M2 q2 => ?_)
  obtain ⟨rfl, ⟨v, rfl, z, rfl⟩, hJ2⟩ := hR r2 M2 q2
  exact lx_eqI C dL_law_965 (by decide) (k M2 hJ2)
theorem lc_29 {E : av_E} {p : Program} {e : Env} {s : State} {m : MethodId} {below : List Frame} {meth : Method} {c : Code} {b L : Nat} {xs : Nat → Int32} {M : av_M} {i : Int} (C : lCx E p s m meth c b L xs) (hJ : JR M) (hi : 0 ≤ i ∧ i + 5 ≤ L) (k : ∀ M1, JR M1 → lwS E p e s m below meth c b 1330 (lwL i) [] M1) : lwS E p e s m below meth c b 970 (lwL i) [] M := by
  have hp : PRq E mX7_shadowAt mX8_shadowAt [vI (sx xs (i + 1)), vI (bz (sx xs (i + 2))), vI (bz (sx xs (i + 3)))] M isL := p_shadowAt hJ (sx xs (i + 1)) (bz (sx xs (i + 2))) (bz (sx xs (i + 3))) (sx_r _ _) (bz_r _) (bz_r _)
  obtain ⟨Q7, h7, hQ⟩ := hp
  refine lx_al1 C dL_law_970 ?_
  refine lx_arg C hi (n := 1) (by decide) dL_law_971 dL_law_972 dL_law_973 dL_law_974 dL_law_975 ?_
  refine lx_arg C hi (n := 2) (by decide) dL_law_976 dL_law_977 dL_law_978 dL_law_979 dL_law_980 ?_
  refine lx_bool C (sx_r _ _) dL_law_981 dL_law_984 dL_law_985 dL_law_988 ?_
  refine lx_arg C hi (n := 3) (by decide) dL_law_989 dL_law_990 dL_law_991 dL_law_992 dL_law_993 ?_
  refine lx_bool C (sx_r _ _) dL_law_994 dL_law_997 dL_law_998 dL_law_1001 ?_
  refine lx_call (E := E) (as := [vI (sx xs (i + 1)), vI (bz (sx xs (i + 2))), vI (bz (sx xs (i + 3)))]) (rest := []) C vL_137 hX7_shadowAt (by decide) dL_law_1002 rfl rfl rfl (by decide) h7 (fun r M1 q1 => ?_)
  obtain ⟨Q8, h8, hR⟩ := hQ r M1 q1
  refine lx_al2 C dL_law_1005 ?_
  refine lx_arg C hi (n := 1) (by decide) dL_law_1006 dL_law_1007 dL_law_1008 dL_law_1009 dL_law_1010 ?_
  refine lx_arg C hi (n := 2) (by decide) dL_law_1011 dL_law_1012 dL_law_1013 dL_law_1014 dL_law_1015 ?_
  refine lx_bool C (sx_r _ _) dL_law_1016 dL_law_1019 dL_law_1020 dL_law_1023 ?_
  refine lx_arg C hi (n := 3) (by decide) dL_law_1024 dL_law_1025 dL_law_1026 dL_law_1027 dL_law_1028 ?_
  refine lx_bool C (sx_r _ _) dL_law_1029 dL_law_1032 dL_law_1033 dL_law_1036 ?_
  refine lx_call (E := E) (as := [vI (sx xs (i + 1)), vI (bz (sx xs (i + 2))), vI (bz (sx xs (i + 3)))]) (rest := r.toList ++ []) C vL_141 hX8_shadowAt (by decide) dL_law_1037 rfl rfl rfl (wd_r r) h8 (fun r2 M2 q2 => ?_)
  obtain ⟨rfl, ⟨v, rfl, z, rfl⟩, hJ2⟩ := hR r2 M2 q2
  exact lx_eqL C dL_law_1040 dL_law_1041 (by decide) (k M2 hJ2)
theorem lc_30 {E : av_E} {p : Program} {e : Env} {s : State} {m : MethodId} {below : List Frame} {meth : Method} {c : Code} {b L : Nat} {xs : Nat → Int32} {M : av_M} {i : Int} (C : lCx E p s m meth c b L xs) (hJ : JR M) (hi : 0 ≤ i ∧ i + 5 ≤ L) (k : ∀ M1, JR M1 → lwS E p e s m below meth c b 1330 (lwL i) [] M1) : lwS E p e s m below meth c b 1046 (lwL i) [] M := by
  have hp : PRq E mX7_seen mX8_seen [] M isI := p_seen hJ  
  obtain ⟨Q7, h7, hQ⟩ := hp
  refine lx_al1 C dL_law_1046 ?_
  refine lx_call (E := E) (as := []) (rest := []) C vL_142 hX7_seen (by decide) dL_law_1047 rfl rfl rfl (by decide) h7 (fun r M1 q1 => ?_)
  obtain ⟨Q8, h8, hR⟩ := hQ r M1 q1
  refine lx_al2 C dL_law_1050 ?_
  refine lx_call (E := E) (as := []) (rest := r.toList ++ []) C vL_145 hX8_seen (by decide) dL_law_1051 rfl rfl rfl (wd_r r) h8 (fun r2 M2 q2 => ?_)
  obtain ⟨rfl, ⟨v, rfl, z, rfl⟩, hJ2⟩ := hR r2 M2 q2
  exact lx_eqI C dL_law_1054 (by decide) (k M2 hJ2)
theorem lc_31 {E : av_E} {p : Program} {e : Env} {s : State} {m : MethodId} {below : List Frame} {meth : Method} {c : Code} {b L : Nat} {xs : Nat → Int32} {M : av_M} {i : Int} (C : lCx E p s m meth c b L xs) (hJ : JR M) (hi : 0 ≤ i ∧ i + 5 ≤ L) (k : ∀ M1, JR M1 → lwS E p e s m below meth c b 1330 (lwL i) [] M1) : lwS E p e s m below meth c b 1059 (lwL i) [] M := by
  have hp : PRq E mX7_missed mX8_missed [] M isI := p_missed hJ  
  obtain ⟨Q7, h7, hQ⟩ := hp
  refine lx_al1 C dL_law_1059 ?_
  refine lx_call (E := E) (as := []) (rest := []) C vL_146 hX7_missed (by decide) dL_law_1060 rfl rfl rfl (by decide) h7 (fun r M1 q1 => ?_)
  obtain ⟨Q8, h8, hR⟩ := hQ r M1 q1
  refine lx_al2 C dL_law_1063 ?_
  refine lx_call (E := E) (as := []) (rest := r.toList ++ []) C vL_149 hX8_missed (by decide) dL_law_1064 rfl rfl rfl (wd_r r) h8 (fun r2 M2 q2 => ?_)
  obtain ⟨rfl, ⟨v, rfl, z, rfl⟩, hJ2⟩ := hR r2 M2 q2
  exact lx_eqI C dL_law_1067 (by decide) (k M2 hJ2)
theorem lc_32 {E : av_E} {p : Program} {e : Env} {s : State} {m : MethodId} {below : List Frame} {meth : Method} {c : Code} {b L : Nat} {xs : Nat → Int32} {M : av_M} {i : Int} (C : lCx E p s m meth c b L xs) (hJ : JR M) (hi : 0 ≤ i ∧ i + 5 ≤ L) (k : ∀ M1, JR M1 → lwS E p e s m below meth c b 1330 (lwL i) [] M1) : lwS E p e s m below meth c b 1072 (lwL i) [] M := by
  have hp : PRq E mX7_beyond mX8_beyond [] M isI := p_beyond hJ  
  obtain ⟨Q7, h7, hQ⟩ := hp
  refine lx_al1 C dL_law_1072 ?_
  refine lx_call (E := E) (as := []) (rest := []) C vL_150 hX7_beyond (by decide) dL_law_1073 rfl rfl rfl (by decide) h7 (fun r M1 q1 => ?_)
  obtain ⟨Q8, h8, hR⟩ := hQ r M1 q1
  refine lx_al2 C dL_law_1076 ?_
  refine lx_call (E := E) (as := []) (rest := r.toList ++ []) C vL_153 hX8_beyond (by decide) dL_law_1077 rfl rfl rfl (wd_r r) h8 (fun r2 M2 q2 => ?_)
  obtain ⟨rfl, ⟨v, rfl, z, rfl⟩, hJ2⟩ := hR r2 M2 q2
  exact lx_eqI C dL_law_1080 (by decide) (k M2 hJ2)
theorem lc_33 {E : av_E} {p : Program} {e : Env} {s : State} {m : MethodId} {below : List Frame} {meth : Method} {c : Code} {b L : Nat} {xs : Nat → Int32} {M : av_M} {i : Int} (C : lCx E p s m meth c b L xs) (hJ : JR M) (hi : 0 ≤ i ∧ i + 5 ≤ L) (k : ∀ M1, JR M1 → lwS E p e s m below meth c b 1330 (lwL i) [] M1) : lwS E p e s m below meth c b 1085 (lwL i) [] M := by
  have hp : PRq E mX7_fewest mX8_fewest [] M isI := p_fewest hJ  
  obtain ⟨Q7, h7, hQ⟩ := hp
  refine lx_al1 C dL_law_1085 ?_
  refine lx_call (E := E) (as := []) (rest := []) C vL_154 hX7_fewest (by decide) dL_law_1086 rfl rfl rfl (by decide) h7 (fun r M1 q1 => ?_)
  obtain ⟨Q8, h8, hR⟩ := hQ r M1 q1
  refine lx_al2 C dL_law_1089 ?_
  refine lx_call (E := E) (as := []) (rest := r.toList ++ []) C vL_157 hX8_fewest (by decide) dL_law_1090 rfl rfl rfl (wd_r r) h8 (fun r2 M2 q2 => ?_)
  obtain ⟨rfl, ⟨v, rfl, z, rfl⟩, hJ2⟩ := hR r2 M2 q2
  exact lx_eqI C dL_law_1093 (by decide) (k M2 hJ2)
theorem lc_34 {E : av_E} {p : Program} {e : Env} {s : State} {m : MethodId} {below : List Frame} {meth : Method} {c : Code} {b L : Nat} {xs : Nat → Int32} {M : av_M} {i : Int} (C : lCx E p s m meth c b L xs) (hJ : JR M) (hi : 0 ≤ i ∧ i + 5 ≤ L) (k : ∀ M1, JR M1 → lwS E p e s m below meth c b 1330 (lwL i) [] M1) : lwS E p e s m below meth c b 1098 (lwL i) [] M := by
  have hp : PRq E mX7_needed mX8_needed [vI (sx xs (i + 1))] M isI := p_needed hJ (sx xs (i + 1)) (sx_r _ _)
  obtain ⟨Q7, h7, hQ⟩ := hp
  refine lx_al1 C dL_law_1098 ?_
  refine lx_arg C hi (n := 1) (by decide) dL_law_1099 dL_law_1100 dL_law_1101 dL_law_1102 dL_law_1103 ?_
  refine lx_call (E := E) (as := [vI (sx xs (i + 1))]) (rest := []) C vL_158 hX7_needed (by decide) dL_law_1104 rfl rfl rfl (by decide) h7 (fun r M1 q1 => ?_)
  obtain ⟨Q8, h8, hR⟩ := hQ r M1 q1
  refine lx_al2 C dL_law_1107 ?_
  refine lx_arg C hi (n := 1) (by decide) dL_law_1108 dL_law_1109 dL_law_1110 dL_law_1111 dL_law_1112 ?_
  refine lx_call (E := E) (as := [vI (sx xs (i + 1))]) (rest := r.toList ++ []) C vL_161 hX8_needed (by decide) dL_law_1113 rfl rfl rfl (wd_r r) h8 (fun r2 M2 q2 => ?_)
  obtain ⟨rfl, ⟨v, rfl, z, rfl⟩, hJ2⟩ := hR r2 M2 q2
  exact lx_eqI C dL_law_1116 (by decide) (k M2 hJ2)
theorem lc_35 {E : av_E} {p : Program} {e : Env} {s : State} {m : MethodId} {below : List Frame} {meth : Method} {c : Code} {b L : Nat} {xs : Nat → Int32} {M : av_M} {i : Int} (C : lCx E p s m meth c b L xs) (hJ : JR M) (hi : 0 ≤ i ∧ i + 5 ≤ L) (k : ∀ M1, JR M1 → lwS E p e s m below meth c b 1330 (lwL i) [] M1) : lwS E p e s m below meth c b 1121 (lwL i) [] M := by
  have hp : PRq E mX7_blow mX8_blow [vI (bz (sx xs (i + 1)))] M isL := p_blow hJ (bz (sx xs (i + 1))) (bz_r _)
  obtain ⟨Q7, h7, hQ⟩ := hp
  refine lx_al1 C dL_law_1121 ?_
  refine lx_arg C hi (n := 1) (by decide) dL_law_1122 dL_law_1123 dL_law_1124 dL_law_1125 dL_law_1126 ?_
  refine lx_bool C (sx_r _ _) dL_law_1127 dL_law_1130 dL_law_1131 dL_law_1134 ?_
  refine lx_call (E := E) (as := [vI (bz (sx xs (i + 1)))]) (rest := []) C vL_162 hX7_blow (by decide) dL_law_1135 rfl rfl rfl (by decide) h7 (fun r M1 q1 => ?_)
  obtain ⟨Q8, h8, hR⟩ := hQ r M1 q1
  refine lx_al2 C dL_law_1138 ?_
  refine lx_arg C hi (n := 1) (by decide) dL_law_1139 dL_law_1140 dL_law_1141 dL_law_1142 dL_law_1143 ?_
  refine lx_bool C (sx_r _ _) dL_law_1144 dL_law_1147 dL_law_1148 dL_law_1151 ?_
  refine lx_call (E := E) (as := [vI (bz (sx xs (i + 1)))]) (rest := r.toList ++ []) C vL_166 hX8_blow (by decide) dL_law_1152 rfl rfl rfl (wd_r r) h8 (fun r2 M2 q2 => ?_)
  obtain ⟨rfl, ⟨v, rfl, z, rfl⟩, hJ2⟩ := hR r2 M2 q2
  exact lx_eqL C dL_law_1155 dL_law_1156 (by decide) (k M2 hJ2)
theorem lc_36 {E : av_E} {p : Program} {e : Env} {s : State} {m : MethodId} {below : List Frame} {meth : Method} {c : Code} {b L : Nat} {xs : Nat → Int32} {M : av_M} {i : Int} (C : lCx E p s m meth c b L xs) (hJ : JR M) (hi : 0 ≤ i ∧ i + 5 ≤ L) (k : ∀ M1, JR M1 → lwS E p e s m below meth c b 1330 (lwL i) [] M1) : lwS E p e s m below meth c b 1161 (lwL i) [] M := by
  have hp : PRq E mX7_most mX8_most [vI (sx xs (i + 1)), vI (sx xs (i + 2))] M isI := p_most hJ (sx xs (i + 1)) (sx xs (i + 2)) (sx_r _ _) (sx_r _ _)
  obtain ⟨Q7, h7, hQ⟩ := hp
  refine lx_al1 C dL_law_1161 ?_
  refine lx_arg C hi (n := 1) (by decide) dL_law_1162 dL_law_1163 dL_law_1164 dL_law_1165 dL_law_1166 ?_
  refine lx_arg C hi (n := 2) (by decide) dL_law_1167 dL_law_1168 dL_law_1169 dL_law_1170 dL_law_1171 ?_
  refine lx_call (E := E) (as := [vI (sx xs (i + 1)), vI (sx xs (i + 2))]) (rest := []) C vL_167 hX7_most (by decide) dL_law_1172 rfl rfl rfl (by decide) h7 (fun r M1 q1 => ?_)
  obtain ⟨Q8, h8, hR⟩ := hQ r M1 q1
  refine lx_al2 C dL_law_1175 ?_
  refine lx_arg C hi (n := 1) (by decide) dL_law_1176 dL_law_1177 dL_law_1178 dL_law_1179 dL_law_1180 ?_
  refine lx_arg C hi (n := 2) (by decide) dL_law_1181 dL_law_1182 dL_law_1183 dL_law_1184 dL_law_1185 ?_
  refine lx_call (E := E) (as := [vI (sx xs (i + 1)), vI (sx xs (i + 2))]) (rest := r.toList ++ []) C vL_170 hX8_most (by decide) dL_law_1186 rfl rfl rfl (wd_r r) h8 (fun r2 M2 q2 => ?_)
  obtain ⟨rfl, ⟨v, rfl, z, rfl⟩, hJ2⟩ := hR r2 M2 q2
  exact lx_eqI C dL_law_1189 (by decide) (k M2 hJ2)
theorem lc_37 {E : av_E} {p : Program} {e : Env} {s : State} {m : MethodId} {below : List Frame} {meth : Method} {c : Code} {b L : Nat} {xs : Nat → Int32} {M : av_M} {i : Int} (C : lCx E p s m meth c b L xs) (hJ : JR M) (hi : 0 ≤ i ∧ i + 5 ≤ L) (k : ∀ M1, JR M1 → lwS E p e s m below meth c b 1330 (lwL i) [] M1) : lwS E p e s m below meth c b 1194 (lwL i) [] M := by
  have hp : PRq E mX7_mostOf mX8_mostOf [vI (sx xs (i + 1)), vI (sx xs (i + 2)), vI (sx xs (i + 3)), vI (bz (sx xs (i + 4)))] M isL := p_mostOf hJ (sx xs (i + 1)) (sx xs (i + 2)) (sx xs (i + 3)) (bz (sx xs (i + 4))) (sx_r _ _) (sx_r _ _) (sx_r _ _) (bz_r _)
  obtain ⟨Q7, h7, hQ⟩ := hp
  refine lx_al1 C dL_law_1194 ?_
  refine lx_arg C hi (n := 1) (by decide) dL_law_1195 dL_law_1196 dL_law_1197 dL_law_1198 dL_law_1199 ?_
  refine lx_arg C hi (n := 2) (by decide) dL_law_1200 dL_law_1201 dL_law_1202 dL_law_1203 dL_law_1204 ?_
  refine lx_arg C hi (n := 3) (by decide) dL_law_1205 dL_law_1206 dL_law_1207 dL_law_1208 dL_law_1209 ?_
  refine lx_arg C hi (n := 4) (by decide) dL_law_1210 dL_law_1211 dL_law_1212 dL_law_1213 dL_law_1214 ?_
  refine lx_bool C (sx_r _ _) dL_law_1215 dL_law_1218 dL_law_1219 dL_law_1222 ?_
  refine lx_call (E := E) (as := [vI (sx xs (i + 1)), vI (sx xs (i + 2)), vI (sx xs (i + 3)), vI (bz (sx xs (i + 4)))]) (rest := []) C vL_171 hX7_mostOf (by decide) dL_law_1223 rfl rfl rfl (by decide) h7 (fun r M1 q1 => ?_)
  obtain ⟨Q8, h8, hR⟩ := hQ r M1 q1
  refine lx_al2 C dL_law_1226 ?_
  refine lx_arg C hi (n := 1) (by decide) dL_law_1227 dL_law_1228 dL_law_1229 dL_law_1230 dL_law_1231 ?_
  refine lx_arg C hi (n := 2) (by decide) dL_law_1232 dL_law_1233 dL_law_1234 dL_law_1235 dL_law_1236 ?_
  refine lx_arg C hi (n := 3) (by decide) dL_law_1237 dL_law_1238 dL_law_1239 dL_law_1240 dL_law_1241 ?_
  refine lx_arg C hi (n := 4) (by decide) dL_law_1242 dL_law_1243 dL_law_1244 dL_law_1245 dL_law_1246 ?_
  refine lx_bool C (sx_r _ _) dL_law_1247 dL_law_1250 dL_law_1251 dL_law_1254 ?_
  refine lx_call (E := E) (as := [vI (sx xs (i + 1)), vI (sx xs (i + 2)), vI (sx xs (i + 3)), vI (bz (sx xs (i + 4)))]) (rest := r.toList ++ []) C vL_175 hX8_mostOf (by decide) dL_law_1255 rfl rfl rfl (wd_r r) h8 (fun r2 M2 q2 => ?_)
  obtain ⟨rfl, ⟨v, rfl, z, rfl⟩, hJ2⟩ := hR r2 M2 q2
  exact lx_eqL C dL_law_1258 dL_law_1259 (by decide) (k M2 hJ2)
theorem lc_38 {E : av_E} {p : Program} {e : Env} {s : State} {m : MethodId} {below : List Frame} {meth : Method} {c : Code} {b L : Nat} {xs : Nat → Int32} {M : av_M} {i : Int} (C : lCx E p s m meth c b L xs) (hJ : JR M) (hi : 0 ≤ i ∧ i + 5 ≤ L) (k : ∀ M1, JR M1 → lwS E p e s m below meth c b 1330 (lwL i) [] M1) : lwS E p e s m below meth c b 1264 (lwL i) [] M := by
  have hp : PRq E mX7_at mX8_at [vI (sx xs (i + 1)), vI (sx xs (i + 2)), vI (sx xs (i + 3))] M isI := p_at hJ (sx xs (i + 1)) (sx xs (i + 2)) (sx xs (i + 3)) (sx_r _ _) (sx_r _ _) (sx_r _ _)
  obtain ⟨Q7, h7, hQ⟩ := hp
  refine lx_al1 C dL_law_1264 ?_
  refine lx_arg C hi (n := 1) (by decide) dL_law_1265 dL_law_1266 dL_law_1267 dL_law_1268 dL_law_1269 ?_
  refine lx_arg C hi (n := 2) (by decide) dL_law_1270 dL_law_1271 dL_law_1272 dL_law_1273 dL_law_1274 ?_
  refine lx_arg C hi (n := 3) (by decide) dL_law_1275 dL_law_1276 dL_law_1277 dL_law_1278 dL_law_1279 ?_
  refine lx_call (E := E) (as := [vI (sx xs (i + 1)), vI (sx xs (i + 2)), vI (sx xs (i + 3))]) (rest := []) C vL_176 hX7_at (by decide) dL_law_1280 rfl rfl rfl (by decide) h7 (fun r M1 q1 => ?_)
  obtain ⟨Q8, h8, hR⟩ := hQ r M1 q1
  refine lx_al2 C dL_law_1283 ?_
  refine lx_arg C hi (n := 1) (by decide) dL_law_1284 dL_law_1285 dL_law_1286 dL_law_1287 dL_law_1288 ?_
  refine lx_arg C hi (n := 2) (by decide) dL_law_1289 dL_law_1290 dL_law_1291 dL_law_1292 dL_law_1293 ?_
  refine lx_arg C hi (n := 3) (by decide) dL_law_1294 dL_law_1295 dL_law_1296 dL_law_1297 dL_law_1298 ?_
  refine lx_call (E := E) (as := [vI (sx xs (i + 1)), vI (sx xs (i + 2)), vI (sx xs (i + 3))]) (rest := r.toList ++ []) C vL_179 hX8_at (by decide) dL_law_1299 rfl rfl rfl (wd_r r) h8 (fun r2 M2 q2 => ?_)
  obtain ⟨rfl, ⟨v, rfl, z, rfl⟩, hJ2⟩ := hR r2 M2 q2
  exact lx_eqI C dL_law_1302 (by decide) (k M2 hJ2)
theorem lc_39 {E : av_E} {p : Program} {e : Env} {s : State} {m : MethodId} {below : List Frame} {meth : Method} {c : Code} {b L : Nat} {xs : Nat → Int32} {M : av_M} {i : Int} (C : lCx E p s m meth c b L xs) (hJ : JR M) (hi : 0 ≤ i ∧ i + 5 ≤ L) (k : ∀ M1, JR M1 → lwS E p e s m below meth c b 1330 (lwL i) [] M1) : lwS E p e s m below meth c b 1307 (lwL i) [] M := by
  have hp : PRq E mX7_count mX8_count [vI (sx xs (i + 1))] M isI := p_count hJ (sx xs (i + 1)) (sx_r _ _)
  obtain ⟨Q7, h7, hQ⟩ := hp
  refine lx_al1 C dL_law_1307 ?_
  refine lx_arg C hi (n := 1) (by decide) dL_law_1308 dL_law_1309 dL_law_1310 dL_law_1311 dL_law_1312 ?_
  refine lx_call (E := E) (as := [vI (sx xs (i + 1))]) (rest := []) C vL_180 hX7_count (by decide) dL_law_1313 rfl rfl rfl (by decide) h7 (fun r M1 q1 => ?_)
  obtain ⟨Q8, h8, hR⟩ := hQ r M1 q1
  refine lx_al2 C dL_law_1316 ?_
  refine lx_arg C hi (n := 1) (by decide) dL_law_1317 dL_law_1318 dL_law_1319 dL_law_1320 dL_law_1321 ?_
  refine lx_call (E := E) (as := [vI (sx xs (i + 1))]) (rest := r.toList ++ []) C vL_183 hX8_count (by decide) dL_law_1322 rfl rfl rfl (wd_r r) h8 (fun r2 M2 q2 => ?_)
  obtain ⟨rfl, ⟨v, rfl, z, rfl⟩, hJ2⟩ := hR r2 M2 q2
  exact lx_eqI C dL_law_1325 (by decide) (k M2 hJ2)
