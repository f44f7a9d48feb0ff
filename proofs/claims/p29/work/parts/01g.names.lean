theorem dL_tick_152 : decode cL_tick 152 = .ok (.iload 8, 2) := by decide +kernel
theorem dL_tick_154 : decode cL_tick 154 = .ok (.ifCond .eq 28, 3) := by decide +kernel
theorem dL_tick_157 : decode cL_tick 157 = .ok (.iload 9, 2) := by decide +kernel
theorem dL_tick_159 : decode cL_tick 159 = .ok (.ifCond .ne 23, 3) := by decide +kernel
theorem dL_tick_162 : decode cL_tick 162 = .ok (.aload_n 0, 1) := by decide +kernel
theorem dL_tick_163 : decode cL_tick 163 = .ok (.aload_n 0, 1) := by decide +kernel
theorem dL_tick_164 : decode cL_tick 164 = .ok (.aload_n 0, 1) := by decide +kernel
theorem dL_tick_165 : decode cL_tick 165 = .ok (.iload 7, 2) := by decide +kernel
theorem dL_tick_167 : decode cL_tick 167 = .ok (.iconst 1, 1) := by decide +kernel
theorem dL_tick_168 : decode cL_tick 168 = .ok (.invokevirtual 15, 3) := by decide +kernel
theorem dL_tick_171 : decode cL_tick 171 = .ok (.iconst 0, 1) := by decide +kernel
theorem dL_tick_172 : decode cL_tick 172 = .ok (.invokevirtual 29, 3) := by decide +kernel
theorem dL_tick_175 : decode cL_tick 175 = .ok (.iconst 0, 1) := by decide +kernel
theorem dL_tick_176 : decode cL_tick 176 = .ok (.invokevirtual 26, 3) := by decide +kernel
theorem dL_tick_179 : decode cL_tick 179 = .ok (.goto 4, 3) := by decide +kernel
theorem dL_tick_182 : decode cL_tick 182 = .ok (.iconst 0, 1) := by decide +kernel
theorem dL_tick_183 : decode cL_tick 183 = .ok (.istore 10, 2) := by decide +kernel
theorem dL_tick_185 : decode cL_tick 185 = .ok (.aload_n 0, 1) := by decide +kernel
theorem dL_tick_186 : decode cL_tick 186 = .ok (.iconst 0, 1) := by decide +kernel
theorem dL_tick_187 : decode cL_tick 187 = .ok (.invokevirtual 9, 3) := by decide +kernel
theorem dL_tick_190 : decode cL_tick 190 = .ok (.istore 11, 2) := by decide +kernel
theorem dL_tick_192 : decode cL_tick 192 = .ok (.aload_n 0, 1) := by decide +kernel
theorem dL_tick_193 : decode cL_tick 193 = .ok (.iload_n 1, 1) := by decide +kernel
theorem dL_tick_194 : decode cL_tick 194 = .ok (.bipush 10, 2) := by decide +kernel
theorem dL_tick_196 : decode cL_tick 196 = .ok (.invokevirtual 19, 3) := by decide +kernel
theorem dL_tick_199 : decode cL_tick 199 = .ok (.istore 12, 2) := by decide +kernel
theorem dL_tick_201 : decode cL_tick 201 = .ok (.aload_n 0, 1) := by decide +kernel
theorem dL_tick_202 : decode cL_tick 202 = .ok (.iload_n 1, 1) := by decide +kernel
theorem dL_tick_203 : decode cL_tick 203 = .ok (.bipush 6, 2) := by decide +kernel
theorem dL_tick_205 : decode cL_tick 205 = .ok (.invokevirtual 19, 3) := by decide +kernel
theorem dL_tick_208 : decode cL_tick 208 = .ok (.aload_n 0, 1) := by decide +kernel
theorem dL_tick_209 : decode cL_tick 209 = .ok (.iload_n 1, 1) := by decide +kernel
theorem dL_tick_210 : decode cL_tick 210 = .ok (.bipush 7, 2) := by decide +kernel
theorem dL_tick_212 : decode cL_tick 212 = .ok (.invokevirtual 19, 3) := by decide +kernel
theorem dL_tick_215 : decode cL_tick 215 = .ok (.iadd, 1) := by decide +kernel
theorem dL_tick_216 : decode cL_tick 216 = .ok (.istore 13, 2) := by decide +kernel
theorem dL_tick_218 : decode cL_tick 218 = .ok (.aload_n 0, 1) := by decide +kernel
theorem dL_tick_219 : decode cL_tick 219 = .ok (.iload_n 1, 1) := by decide +kernel
theorem dL_tick_220 : decode cL_tick 220 = .ok (.bipush 9, 2) := by decide +kernel
theorem dL_tick_222 : decode cL_tick 222 = .ok (.invokevirtual 19, 3) := by decide +kernel
theorem dL_tick_225 : decode cL_tick 225 = .ok (.istore 14, 2) := by decide +kernel
theorem dL_tick_227 : decode cL_tick 227 = .ok (.aload_n 0, 1) := by decide +kernel
theorem dL_tick_228 : decode cL_tick 228 = .ok (.iload_n 1, 1) := by decide +kernel
theorem dL_tick_229 : decode cL_tick 229 = .ok (.bipush 8, 2) := by decide +kernel
theorem dL_tick_231 : decode cL_tick 231 = .ok (.invokevirtual 19, 3) := by decide +kernel
theorem dL_tick_234 : decode cL_tick 234 = .ok (.istore 15, 2) := by decide +kernel
theorem dL_tick_236 : decode cL_tick 236 = .ok (.aload_n 0, 1) := by decide +kernel
theorem dL_tick_237 : decode cL_tick 237 = .ok (.iconst 1, 1) := by decide +kernel
theorem dL_tick_238 : decode cL_tick 238 = .ok (.invokevirtual 38, 3) := by decide +kernel
theorem dL_tick_241 : decode cL_tick 241 = .ok (.istore 16, 2) := by decide +kernel
theorem dL_tick_243 : decode cL_tick 243 = .ok (.aload_n 0, 1) := by decide +kernel
theorem dL_tick_244 : decode cL_tick 244 = .ok (.iload_n 1, 1) := by decide +kernel
theorem dL_tick_245 : decode cL_tick 245 = .ok (.iconst 1, 1) := by decide +kernel
theorem dL_tick_246 : decode cL_tick 246 = .ok (.invokevirtual 19, 3) := by decide +kernel
theorem dL_tick_249 : decode cL_tick 249 = .ok (.istore 17, 2) := by decide +kernel
theorem dL_tick_251 : decode cL_tick 251 = .ok (.aload_n 0, 1) := by decide +kernel
theorem dL_tick_252 : decode cL_tick 252 = .ok (.iconst 0, 1) := by decide +kernel
theorem dL_tick_253 : decode cL_tick 253 = .ok (.invokevirtual 9, 3) := by decide +kernel
theorem dL_tick_256 : decode cL_tick 256 = .ok (.iload 11, 2) := by decide +kernel
theorem dL_tick_258 : decode cL_tick 258 = .ok (.iconst 1, 1) := by decide +kernel
theorem dL_tick_259 : decode cL_tick 259 = .ok (.iadd, 1) := by decide +kernel
theorem dL_tick_260 : decode cL_tick 260 = .ok (.if_icmp .eq 5, 3) := by decide +kernel
theorem dL_tick_263 : decode cL_tick 263 = .ok (.iconst 0, 1) := by decide +kernel
theorem dL_tick_264 : decode cL_tick 264 = .ok (.ireturn, 1) := by decide +kernel
theorem dL_tick_265 : decode cL_tick 265 = .ok (.iload_n 2, 1) := by decide +kernel
theorem dL_tick_266 : decode cL_tick 266 = .ok (.iconst 5, 1) := by decide +kernel
theorem dL_tick_267 : decode cL_tick 267 = .ok (.if_icmp .ne 20, 3) := by decide +kernel
theorem dL_tick_270 : decode cL_tick 270 = .ok (.iload 17, 2) := by decide +kernel
theorem dL_tick_272 : decode cL_tick 272 = .ok (.iconst 5, 1) := by decide +kernel
theorem dL_tick_273 : decode cL_tick 273 = .ok (.if_icmp .ne 12, 3) := by decide +kernel
theorem dL_tick_276 : decode cL_tick 276 = .ok (.iload 16, 2) := by decide +kernel
theorem dL_tick_278 : decode cL_tick 278 = .ok (.ifCond .ne 7, 3) := by decide +kernel
theorem dL_tick_281 : decode cL_tick 281 = .ok (.iconst 1, 1) := by decide +kernel
theorem dL_tick_282 : decode cL_tick 282 = .ok (.goto 4, 3) := by decide +kernel
theorem dL_tick_285 : decode cL_tick 285 = .ok (.iconst 0, 1) := by decide +kernel
theorem dL_tick_286 : decode cL_tick 286 = .ok (.ireturn, 1) := by decide +kernel
theorem dL_tick_287 : decode cL_tick 287 = .ok (.iload_n 2, 1) := by decide +kernel
theorem dL_tick_288 : decode cL_tick 288 = .ok (.ifCond .ne 229, 3) := by decide +kernel
theorem dL_tick_291 : decode cL_tick 291 = .ok (.iload 7, 2) := by decide +kernel
theorem dL_tick_293 : decode cL_tick 293 = .ok (.ifCond .ge 19, 3) := by decide +kernel
theorem dL_tick_296 : decode cL_tick 296 = .ok (.iload 17, 2) := by decide +kernel
theorem dL_tick_298 : decode cL_tick 298 = .ok (.ifCond .ne 12, 3) := by decide +kernel
theorem dL_tick_301 : decode cL_tick 301 = .ok (.iload 16, 2) := by decide +kernel
theorem dL_tick_303 : decode cL_tick 303 = .ok (.ifCond .ne 7, 3) := by decide +kernel
theorem dL_tick_306 : decode cL_tick 306 = .ok (.iconst 1, 1) := by decide +kernel
theorem dL_tick_307 : decode cL_tick 307 = .ok (.goto 4, 3) := by decide +kernel
theorem dL_tick_310 : decode cL_tick 310 = .ok (.iconst 0, 1) := by decide +kernel
theorem dL_tick_311 : decode cL_tick 311 = .ok (.ireturn, 1) := by decide +kernel
theorem dL_tick_312 : decode cL_tick 312 = .ok (.iload 9, 2) := by decide +kernel
theorem dL_tick_314 : decode cL_tick 314 = .ok (.ifCond .le 82, 3) := by decide +kernel
theorem dL_tick_317 : decode cL_tick 317 = .ok (.iload 17, 2) := by decide +kernel
theorem dL_tick_319 : decode cL_tick 319 = .ok (.ifCond .ne 75, 3) := by decide +kernel
theorem dL_tick_322 : decode cL_tick 322 = .ok (.aload_n 0, 1) := by decide +kernel
theorem dL_tick_323 : decode cL_tick 323 = .ok (.iload 7, 2) := by decide +kernel
theorem dL_tick_325 : decode cL_tick 325 = .ok (.iconst 0, 1) := by decide +kernel
theorem dL_tick_326 : decode cL_tick 326 = .ok (.invokevirtual 15, 3) := by decide +kernel
theorem dL_tick_329 : decode cL_tick 329 = .ok (.ifCond .ne 65, 3) := by decide +kernel
theorem dL_tick_332 : decode cL_tick 332 = .ok (.aload_n 0, 1) := by decide +kernel
theorem dL_tick_333 : decode cL_tick 333 = .ok (.iload 7, 2) := by decide +kernel
theorem dL_tick_335 : decode cL_tick 335 = .ok (.iconst 4, 1) := by decide +kernel
theorem dL_tick_336 : decode cL_tick 336 = .ok (.invokevirtual 15, 3) := by decide +kernel
theorem dL_tick_339 : decode cL_tick 339 = .ok (.iload 9, 2) := by decide +kernel
theorem dL_tick_341 : decode cL_tick 341 = .ok (.if_icmp .ne 53, 3) := by decide +kernel
theorem dL_tick_344 : decode cL_tick 344 = .ok (.aload_n 0, 1) := by decide +kernel
theorem dL_tick_345 : decode cL_tick 345 = .ok (.iload_n 1, 1) := by decide +kernel
theorem dL_tick_346 : decode cL_tick 346 = .ok (.bipush 8, 2) := by decide +kernel
theorem dL_tick_348 : decode cL_tick 348 = .ok (.invokevirtual 19, 3) := by decide +kernel
theorem dL_tick_351 : decode cL_tick 351 = .ok (.iload 15, 2) := by decide +kernel
theorem dL_tick_353 : decode cL_tick 353 = .ok (.iconst 1, 1) := by decide +kernel
theorem dL_tick_354 : decode cL_tick 354 = .ok (.iadd, 1) := by decide +kernel
theorem dL_tick_355 : decode cL_tick 355 = .ok (.if_icmp .ne 39, 3) := by decide +kernel
theorem dL_tick_358 : decode cL_tick 358 = .ok (.aload_n 0, 1) := by decide +kernel
theorem dL_tick_359 : decode cL_tick 359 = .ok (.iconst 0, 1) := by decide +kernel
theorem dL_tick_360 : decode cL_tick 360 = .ok (.iconst 3, 1) := by decide +kernel
theorem dL_tick_361 : decode cL_tick 361 = .ok (.invokevirtual 41, 3) := by decide +kernel
theorem dL_tick_364 : decode cL_tick 364 = .ok (.iconst 1, 1) := by decide +kernel
theorem dL_tick_365 : decode cL_tick 365 = .ok (.if_icmp .ne 29, 3) := by decide +kernel
theorem dL_tick_368 : decode cL_tick 368 = .ok (.aload_n 0, 1) := by decide +kernel
theorem dL_tick_369 : decode cL_tick 369 = .ok (.iconst 0, 1) := by decide +kernel
theorem dL_tick_370 : decode cL_tick 370 = .ok (.iconst 2, 1) := by decide +kernel
theorem dL_tick_371 : decode cL_tick 371 = .ok (.invokevirtual 41, 3) := by decide +kernel
theorem dL_tick_374 : decode cL_tick 374 = .ok (.iload 7, 2) := by decide +kernel
theorem dL_tick_376 : decode cL_tick 376 = .ok (.if_icmp .ne 18, 3) := by decide +kernel
theorem dL_tick_379 : decode cL_tick 379 = .ok (.aload_n 0, 1) := by decide +kernel
theorem dL_tick_380 : decode cL_tick 380 = .ok (.iconst 0, 1) := by decide +kernel
theorem dL_tick_381 : decode cL_tick 381 = .ok (.iconst 0, 1) := by decide +kernel
theorem dL_tick_382 : decode cL_tick 382 = .ok (.invokevirtual 41, 3) := by decide +kernel
theorem dL_tick_385 : decode cL_tick 385 = .ok (.iload 11, 2) := by decide +kernel
theorem dL_tick_387 : decode cL_tick 387 = .ok (.if_icmp .ne 7, 3) := by decide +kernel
theorem dL_tick_390 : decode cL_tick 390 = .ok (.iconst 1, 1) := by decide +kernel
theorem dL_tick_391 : decode cL_tick 391 = .ok (.goto 4, 3) := by decide +kernel
theorem dL_tick_394 : decode cL_tick 394 = .ok (.iconst 0, 1) := by decide +kernel
theorem dL_tick_395 : decode cL_tick 395 = .ok (.ireturn, 1) := by decide +kernel
theorem dL_tick_396 : decode cL_tick 396 = .ok (.iload 8, 2) := by decide +kernel
theorem dL_tick_398 : decode cL_tick 398 = .ok (.ifCond .eq 52, 3) := by decide +kernel
theorem dL_tick_401 : decode cL_tick 401 = .ok (.aload_n 0, 1) := by decide +kernel
theorem dL_tick_402 : decode cL_tick 402 = .ok (.aload_n 0, 1) := by decide +kernel
theorem dL_tick_403 : decode cL_tick 403 = .ok (.aload_n 0, 1) := by decide +kernel
theorem dL_tick_404 : decode cL_tick 404 = .ok (.iload 7, 2) := by decide +kernel
theorem dL_tick_406 : decode cL_tick 406 = .ok (.iconst 1, 1) := by decide +kernel
theorem dL_tick_407 : decode cL_tick 407 = .ok (.invokevirtual 15, 3) := by decide +kernel
theorem dL_tick_410 : decode cL_tick 410 = .ok (.iconst 0, 1) := by decide +kernel
theorem dL_tick_411 : decode cL_tick 411 = .ok (.invokevirtual 29, 3) := by decide +kernel
theorem dL_tick_414 : decode cL_tick 414 = .ok (.iconst 0, 1) := by decide +kernel
theorem dL_tick_415 : decode cL_tick 415 = .ok (.invokevirtual 26, 3) := by decide +kernel
theorem dL_tick_418 : decode cL_tick 418 = .ok (.iload 10, 2) := by decide +kernel
theorem dL_tick_420 : decode cL_tick 420 = .ok (.aload_n 0, 1) := by decide +kernel
theorem dL_tick_421 : decode cL_tick 421 = .ok (.bipush 9, 2) := by decide +kernel
theorem dL_tick_423 : decode cL_tick 423 = .ok (.invokevirtual 9, 3) := by decide +kernel
theorem dL_tick_426 : decode cL_tick 426 = .ok (.isub, 1) := by decide +kernel
theorem dL_tick_427 : decode cL_tick 427 = .ok (.if_icmp .ne 27, 3) := by decide +kernel
theorem dL_tick_430 : decode cL_tick 430 = .ok (.aload_n 0, 1) := by decide +kernel
theorem dL_tick_431 : decode cL_tick 431 = .ok (.iconst 0, 1) := by decide +kernel
theorem dL_tick_432 : decode cL_tick 432 = .ok (.iconst 3, 1) := by decide +kernel
theorem dL_tick_433 : decode cL_tick 433 = .ok (.invokevirtual 41, 3) := by decide +kernel
theorem dL_tick_436 : decode cL_tick 436 = .ok (.ifCond .ne 18, 3) := by decide +kernel
theorem dL_tick_439 : decode cL_tick 439 = .ok (.aload_n 0, 1) := by decide +kernel
theorem dL_tick_440 : decode cL_tick 440 = .ok (.iconst 0, 1) := by decide +kernel
theorem dL_tick_441 : decode cL_tick 441 = .ok (.iconst 2, 1) := by decide +kernel
theorem dL_tick_442 : decode cL_tick 442 = .ok (.invokevirtual 41, 3) := by decide +kernel
theorem dL_tick_445 : decode cL_tick 445 = .ok (.iload 7, 2) := by decide +kernel
theorem dL_tick_447 : decode cL_tick 447 = .ok (.if_icmp .ne 7, 3) := by decide +kernel
theorem dL_tick_450 : decode cL_tick 450 = .ok (.iconst 1, 1) := by decide +kernel
theorem dL_tick_451 : decode cL_tick 451 = .ok (.goto 4, 3) := by decide +kernel
theorem dL_tick_454 : decode cL_tick 454 = .ok (.iconst 0, 1) := by decide +kernel
theorem dL_tick_455 : decode cL_tick 455 = .ok (.istore 18, 2) := by decide +kernel
theorem dL_tick_457 : decode cL_tick 457 = .ok (.iload 17, 2) := by decide +kernel
theorem dL_tick_459 : decode cL_tick 459 = .ok (.iconst 1, 1) := by decide +kernel
theorem dL_tick_460 : decode cL_tick 460 = .ok (.if_icmp .ne 55, 3) := by decide +kernel
theorem dL_tick_463 : decode cL_tick 463 = .ok (.iload 18, 2) := by decide +kernel
theorem dL_tick_465 : decode cL_tick 465 = .ok (.ifCond .eq 50, 3) := by decide +kernel
theorem dL_tick_468 : decode cL_tick 468 = .ok (.aload_n 0, 1) := by decide +kernel
theorem dL_tick_469 : decode cL_tick 469 = .ok (.iload_n 1, 1) := by decide +kernel
theorem dL_tick_470 : decode cL_tick 470 = .ok (.iconst 3, 1) := by decide +kernel
theorem dL_tick_471 : decode cL_tick 471 = .ok (.invokevirtual 19, 3) := by decide +kernel
theorem dL_tick_474 : decode cL_tick 474 = .ok (.iload 7, 2) := by decide +kernel
theorem dL_tick_476 : decode cL_tick 476 = .ok (.if_icmp .ne 39, 3) := by decide +kernel
theorem dL_tick_479 : decode cL_tick 479 = .ok (.aload_n 0, 1) := by decide +kernel
theorem dL_tick_480 : decode cL_tick 480 = .ok (.iload 7, 2) := by decide +kernel
theorem dL_tick_482 : decode cL_tick 482 = .ok (.iconst 0, 1) := by decide +kernel
theorem dL_tick_483 : decode cL_tick 483 = .ok (.invokevirtual 15, 3) := by decide +kernel
theorem dL_tick_486 : decode cL_tick 486 = .ok (.iconst 2, 1) := by decide +kernel
theorem dL_tick_487 : decode cL_tick 487 = .ok (.if_icmp .ne 28, 3) := by decide +kernel
theorem dL_tick_490 : decode cL_tick 490 = .ok (.aload_n 0, 1) := by decide +kernel
theorem dL_tick_491 : decode cL_tick 491 = .ok (.iload_n 1, 1) := by decide +kernel
theorem dL_tick_492 : decode cL_tick 492 = .ok (.iconst 2, 1) := by decide +kernel
theorem dL_tick_493 : decode cL_tick 493 = .ok (.invokevirtual 19, 3) := by decide +kernel
theorem dL_tick_496 : decode cL_tick 496 = .ok (.iconst 1, 1) := by decide +kernel
theorem dL_tick_497 : decode cL_tick 497 = .ok (.if_icmp .lt 18, 3) := by decide +kernel
theorem dL_tick_500 : decode cL_tick 500 = .ok (.aload_n 0, 1) := by decide +kernel
theorem dL_tick_501 : decode cL_tick 501 = .ok (.iload_n 1, 1) := by decide +kernel
theorem dL_tick_502 : decode cL_tick 502 = .ok (.iconst 2, 1) := by decide +kernel
theorem dL_tick_503 : decode cL_tick 503 = .ok (.invokevirtual 19, 3) := by decide +kernel
theorem dL_tick_506 : decode cL_tick 506 = .ok (.bipush 10, 2) := by decide +kernel
theorem dL_tick_508 : decode cL_tick 508 = .ok (.if_icmp .gt 7, 3) := by decide +kernel
theorem dL_tick_511 : decode cL_tick 511 = .ok (.iconst 1, 1) := by decide +kernel
theorem dL_tick_512 : decode cL_tick 512 = .ok (.goto 4, 3) := by decide +kernel
theorem dL_tick_515 : decode cL_tick 515 = .ok (.iconst 0, 1) := by decide +kernel
theorem dL_tick_516 : decode cL_tick 516 = .ok (.ireturn, 1) := by decide +kernel
theorem dL_tick_517 : decode cL_tick 517 = .ok (.iconst 2, 1) := by decide +kernel
theorem dL_tick_518 : decode cL_tick 518 = .ok (.aload_n 0, 1) := by decide +kernel
theorem dL_tick_519 : decode cL_tick 519 = .ok (.iload 4, 2) := by decide +kernel
theorem dL_tick_521 : decode cL_tick 521 = .ok (.iconst 2, 1) := by decide +kernel
theorem dL_tick_522 : decode cL_tick 522 = .ok (.invokevirtual 15, 3) := by decide +kernel
theorem dL_tick_525 : decode cL_tick 525 = .ok (.imul, 1) := by decide +kernel
theorem dL_tick_526 : decode cL_tick 526 = .ok (.istore 18, 2) := by decide +kernel
theorem dL_tick_528 : decode cL_tick 528 = .ok (.iload_n 2, 1) := by decide +kernel
theorem dL_tick_529 : decode cL_tick 529 = .ok (.iconst 3, 1) := by decide +kernel
theorem dL_tick_530 : decode cL_tick 530 = .ok (.if_icmp .ne 120, 3) := by decide +kernel
theorem dL_tick_533 : decode cL_tick 533 = .ok (.iload 12, 2) := by decide +kernel
theorem dL_tick_535 : decode cL_tick 535 = .ok (.iconst 1, 1) := by decide +kernel
theorem dL_tick_536 : decode cL_tick 536 = .ok (.if_icmp .ne 114, 3) := by decide +kernel
theorem dL_tick_539 : decode cL_tick 539 = .ok (.iload 17, 2) := by decide +kernel
theorem dL_tick_541 : decode cL_tick 541 = .ok (.iconst 5, 1) := by decide +kernel
theorem dL_tick_542 : decode cL_tick 542 = .ok (.if_icmp .ne 7, 3) := by decide +kernel
theorem dL_tick_545 : decode cL_tick 545 = .ok (.iconst 1, 1) := by decide +kernel
theorem dL_tick_546 : decode cL_tick 546 = .ok (.goto 4, 3) := by decide +kernel
theorem dL_tick_549 : decode cL_tick 549 = .ok (.iconst 0, 1) := by decide +kernel
theorem dL_tick_550 : decode cL_tick 550 = .ok (.istore 19, 2) := by decide +kernel
theorem dL_tick_552 : decode cL_tick 552 = .ok (.iload 16, 2) := by decide +kernel
theorem dL_tick_554 : decode cL_tick 554 = .ok (.iload 19, 2) := by decide +kernel
theorem dL_tick_556 : decode cL_tick 556 = .ok (.ifCond .eq 7, 3) := by decide +kernel
theorem dL_tick_559 : decode cL_tick 559 = .ok (.iconst 1, 1) := by decide +kernel
theorem dL_tick_560 : decode cL_tick 560 = .ok (.goto 4, 3) := by decide +kernel
theorem dL_tick_563 : decode cL_tick 563 = .ok (.iconst 0, 1) := by decide +kernel
theorem dL_tick_564 : decode cL_tick 564 = .ok (.if_icmp .ne 84, 3) := by decide +kernel
theorem dL_tick_567 : decode cL_tick 567 = .ok (.aload_n 0, 1) := by decide +kernel
theorem dL_tick_568 : decode cL_tick 568 = .ok (.iload_n 1, 1) := by decide +kernel
theorem dL_tick_569 : decode cL_tick 569 = .ok (.bipush 9, 2) := by decide +kernel
theorem dL_tick_571 : decode cL_tick 571 = .ok (.invokevirtual 19, 3) := by decide +kernel
theorem dL_tick_574 : decode cL_tick 574 = .ok (.iload 14, 2) := by decide +kernel
theorem dL_tick_576 : decode cL_tick 576 = .ok (.iconst 1, 1) := by decide +kernel
theorem dL_tick_577 : decode cL_tick 577 = .ok (.iadd, 1) := by decide +kernel
theorem dL_tick_578 : decode cL_tick 578 = .ok (.if_icmp .ne 70, 3) := by decide +kernel
theorem dL_tick_581 : decode cL_tick 581 = .ok (.aload_n 0, 1) := by decide +kernel
theorem dL_tick_582 : decode cL_tick 582 = .ok (.iload_n 1, 1) := by decide +kernel
theorem dL_tick_583 : decode cL_tick 583 = .ok (.bipush 10, 2) := by decide +kernel
theorem dL_tick_585 : decode cL_tick 585 = .ok (.invokevirtual 19, 3) := by decide +kernel
theorem dL_tick_588 : decode cL_tick 588 = .ok (.ifCond .ne 60, 3) := by decide +kernel
theorem dL_tick_591 : decode cL_tick 591 = .ok (.iload 19, 2) := by decide +kernel
theorem dL_tick_593 : decode cL_tick 593 = .ok (.ifCond .ne 51, 3) := by decide +kernel
theorem dL_tick_596 : decode cL_tick 596 = .ok (.iload 17, 2) := by decide +kernel
theorem dL_tick_598 : decode cL_tick 598 = .ok (.iconst 4, 1) := by decide +kernel
theorem dL_tick_599 : decode cL_tick 599 = .ok (.if_icmp .ne 49, 3) := by decide +kernel
theorem dL_tick_602 : decode cL_tick 602 = .ok (.aload_n 0, 1) := by decide +kernel
theorem dL_tick_603 : decode cL_tick 603 = .ok (.iload_n 1, 1) := by decide +kernel
theorem dL_tick_604 : decode cL_tick 604 = .ok (.iconst 3, 1) := by decide +kernel
theorem dL_tick_605 : decode cL_tick 605 = .ok (.invokevirtual 19, 3) := by decide +kernel
theorem dL_tick_608 : decode cL_tick 608 = .ok (.iload 4, 2) := by decide +kernel
theorem dL_tick_610 : decode cL_tick 610 = .ok (.if_icmp .ne 38, 3) := by decide +kernel
theorem dL_tick_613 : decode cL_tick 613 = .ok (.aload_n 0, 1) := by decide +kernel
theorem dL_tick_614 : decode cL_tick 614 = .ok (.iload_n 1, 1) := by decide +kernel
theorem dL_tick_615 : decode cL_tick 615 = .ok (.iconst 2, 1) := by decide +kernel
theorem dL_tick_616 : decode cL_tick 616 = .ok (.invokevirtual 19, 3) := by decide +kernel
theorem dL_tick_619 : decode cL_tick 619 = .ok (.iconst 1, 1) := by decide +kernel
theorem dL_tick_620 : decode cL_tick 620 = .ok (.if_icmp .lt 28, 3) := by decide +kernel
theorem dL_tick_623 : decode cL_tick 623 = .ok (.aload_n 0, 1) := by decide +kernel
theorem dL_tick_624 : decode cL_tick 624 = .ok (.iconst 0, 1) := by decide +kernel
theorem dL_tick_625 : decode cL_tick 625 = .ok (.iconst 3, 1) := by decide +kernel
theorem dL_tick_626 : decode cL_tick 626 = .ok (.invokevirtual 41, 3) := by decide +kernel
theorem dL_tick_629 : decode cL_tick 629 = .ok (.iconst 4, 1) := by decide +kernel
theorem dL_tick_630 : decode cL_tick 630 = .ok (.if_icmp .ne 18, 3) := by decide +kernel
theorem dL_tick_633 : decode cL_tick 633 = .ok (.aload_n 0, 1) := by decide +kernel
theorem dL_tick_634 : decode cL_tick 634 = .ok (.iconst 0, 1) := by decide +kernel
theorem dL_tick_635 : decode cL_tick 635 = .ok (.iconst 2, 1) := by decide +kernel
theorem dL_tick_636 : decode cL_tick 636 = .ok (.invokevirtual 41, 3) := by decide +kernel
theorem dL_tick_639 : decode cL_tick 639 = .ok (.iload 4, 2) := by decide +kernel
theorem dL_tick_641 : decode cL_tick 641 = .ok (.if_icmp .ne 7, 3) := by decide +kernel
theorem dL_tick_644 : decode cL_tick 644 = .ok (.iconst 1, 1) := by decide +kernel
theorem dL_tick_645 : decode cL_tick 645 = .ok (.goto 4, 3) := by decide +kernel
theorem dL_tick_648 : decode cL_tick 648 = .ok (.iconst 0, 1) := by decide +kernel
theorem dL_tick_649 : decode cL_tick 649 = .ok (.ireturn, 1) := by decide +kernel
theorem dL_tick_650 : decode cL_tick 650 = .ok (.iload_n 3, 1) := by decide +kernel
theorem dL_tick_651 : decode cL_tick 651 = .ok (.iconst 1, 1) := by decide +kernel
theorem dL_tick_652 : decode cL_tick 652 = .ok (.if_icmp .le 43, 3) := by decide +kernel
theorem dL_tick_655 : decode cL_tick 655 = .ok (.iload 17, 2) := by decide +kernel
theorem dL_tick_657 : decode cL_tick 657 = .ok (.iload_n 2, 1) := by decide +kernel
theorem dL_tick_658 : decode cL_tick 658 = .ok (.if_icmp .ne 35, 3) := by decide +kernel
theorem dL_tick_661 : decode cL_tick 661 = .ok (.aload_n 0, 1) := by decide +kernel
theorem dL_tick_662 : decode cL_tick 662 = .ok (.iload_n 1, 1) := by decide +kernel
theorem dL_tick_663 : decode cL_tick 663 = .ok (.iconst 2, 1) := by decide +kernel
theorem dL_tick_664 : decode cL_tick 664 = .ok (.invokevirtual 19, 3) := by decide +kernel
theorem dL_tick_667 : decode cL_tick 667 = .ok (.iload_n 3, 1) := by decide +kernel
theorem dL_tick_668 : decode cL_tick 668 = .ok (.iconst 1, 1) := by decide +kernel
theorem dL_tick_669 : decode cL_tick 669 = .ok (.isub, 1) := by decide +kernel
theorem dL_tick_670 : decode cL_tick 670 = .ok (.if_icmp .ne 23, 3) := by decide +kernel
theorem dL_tick_673 : decode cL_tick 673 = .ok (.iload 16, 2) := by decide +kernel
theorem dL_tick_675 : decode cL_tick 675 = .ok (.ifCond .ne 18, 3) := by decide +kernel
theorem dL_tick_678 : decode cL_tick 678 = .ok (.aload_n 0, 1) := by decide +kernel
theorem dL_tick_679 : decode cL_tick 679 = .ok (.iload_n 1, 1) := by decide +kernel
theorem dL_tick_680 : decode cL_tick 680 = .ok (.iconst 3, 1) := by decide +kernel
theorem dL_tick_681 : decode cL_tick 681 = .ok (.invokevirtual 19, 3) := by decide +kernel
theorem dL_tick_684 : decode cL_tick 684 = .ok (.iload 4, 2) := by decide +kernel
theorem dL_tick_686 : decode cL_tick 686 = .ok (.if_icmp .ne 7, 3) := by decide +kernel
theorem dL_tick_689 : decode cL_tick 689 = .ok (.iconst 1, 1) := by decide +kernel
theorem dL_tick_690 : decode cL_tick 690 = .ok (.goto 4, 3) := by decide +kernel
theorem dL_tick_693 : decode cL_tick 693 = .ok (.iconst 0, 1) := by decide +kernel
theorem dL_tick_694 : decode cL_tick 694 = .ok (.ireturn, 1) := by decide +kernel
theorem dL_tick_695 : decode cL_tick 695 = .ok (.iload_n 2, 1) := by decide +kernel
theorem dL_tick_696 : decode cL_tick 696 = .ok (.iconst 1, 1) := by decide +kernel
theorem dL_tick_697 : decode cL_tick 697 = .ok (.if_icmp .eq 8, 3) := by decide +kernel
theorem dL_tick_700 : decode cL_tick 700 = .ok (.iload_n 2, 1) := by decide +kernel
theorem dL_tick_701 : decode cL_tick 701 = .ok (.iconst 4, 1) := by decide +kernel
theorem dL_tick_702 : decode cL_tick 702 = .ok (.if_icmp .ne 45, 3) := by decide +kernel
theorem dL_tick_705 : decode cL_tick 705 = .ok (.iload 17, 2) := by decide +kernel
theorem dL_tick_707 : decode cL_tick 707 = .ok (.iconst 2, 1) := by decide +kernel
theorem dL_tick_708 : decode cL_tick 708 = .ok (.if_icmp .ne 37, 3) := by decide +kernel
theorem dL_tick_711 : decode cL_tick 711 = .ok (.aload_n 0, 1) := by decide +kernel
theorem dL_tick_712 : decode cL_tick 712 = .ok (.iload_n 1, 1) := by decide +kernel
theorem dL_tick_713 : decode cL_tick 713 = .ok (.iconst 2, 1) := by decide +kernel
theorem dL_tick_714 : decode cL_tick 714 = .ok (.invokevirtual 19, 3) := by decide +kernel
theorem dL_tick_717 : decode cL_tick 717 = .ok (.iload 18, 2) := by decide +kernel
theorem dL_tick_719 : decode cL_tick 719 = .ok (.if_icmp .le 26, 3) := by decide +kernel
theorem dL_tick_722 : decode cL_tick 722 = .ok (.aload_n 0, 1) := by decide +kernel
theorem dL_tick_723 : decode cL_tick 723 = .ok (.iload_n 1, 1) := by decide +kernel
theorem dL_tick_724 : decode cL_tick 724 = .ok (.iconst 2, 1) := by decide +kernel
theorem dL_tick_725 : decode cL_tick 725 = .ok (.invokevirtual 19, 3) := by decide +kernel
theorem dL_tick_728 : decode cL_tick 728 = .ok (.bipush 20, 2) := by decide +kernel
theorem dL_tick_730 : decode cL_tick 730 = .ok (.iload 18, 2) := by decide +kernel
theorem dL_tick_732 : decode cL_tick 732 = .ok (.iadd, 1) := by decide +kernel
theorem dL_tick_733 : decode cL_tick 733 = .ok (.if_icmp .gt 12, 3) := by decide +kernel
theorem dL_tick_736 : decode cL_tick 736 = .ok (.iload 16, 2) := by decide +kernel
theorem dL_tick_738 : decode cL_tick 738 = .ok (.ifCond .ne 7, 3) := by decide +kernel
theorem dL_tick_741 : decode cL_tick 741 = .ok (.iconst 1, 1) := by decide +kernel
theorem dL_tick_742 : decode cL_tick 742 = .ok (.goto 4, 3) := by decide +kernel
theorem dL_tick_745 : decode cL_tick 745 = .ok (.iconst 0, 1) := by decide +kernel
theorem dL_tick_746 : decode cL_tick 746 = .ok (.ireturn, 1) := by decide +kernel
theorem dL_tick_747 : decode cL_tick 747 = .ok (.iload_n 2, 1) := by decide +kernel
theorem dL_tick_748 : decode cL_tick 748 = .ok (.iconst 2, 1) := by decide +kernel
theorem dL_tick_749 : decode cL_tick 749 = .ok (.if_icmp .ne 31, 3) := by decide +kernel
theorem dL_tick_752 : decode cL_tick 752 = .ok (.iload 17, 2) := by decide +kernel
theorem dL_tick_754 : decode cL_tick 754 = .ok (.iconst 3, 1) := by decide +kernel
theorem dL_tick_755 : decode cL_tick 755 = .ok (.if_icmp .ne 23, 3) := by decide +kernel
theorem dL_tick_758 : decode cL_tick 758 = .ok (.aload_n 0, 1) := by decide +kernel
theorem dL_tick_759 : decode cL_tick 759 = .ok (.iload_n 1, 1) := by decide +kernel
theorem dL_tick_760 : decode cL_tick 760 = .ok (.iconst 2, 1) := by decide +kernel
theorem dL_tick_761 : decode cL_tick 761 = .ok (.invokevirtual 19, 3) := by decide +kernel
theorem dL_tick_764 : decode cL_tick 764 = .ok (.bipush 10, 2) := by decide +kernel
theorem dL_tick_766 : decode cL_tick 766 = .ok (.if_icmp .gt 12, 3) := by decide +kernel
theorem dL_tick_769 : decode cL_tick 769 = .ok (.iload 16, 2) := by decide +kernel
theorem dL_tick_771 : decode cL_tick 771 = .ok (.ifCond .ne 7, 3) := by decide +kernel
theorem dL_tick_774 : decode cL_tick 774 = .ok (.iconst 1, 1) := by decide +kernel
theorem dL_tick_775 : decode cL_tick 775 = .ok (.goto 4, 3) := by decide +kernel
theorem dL_tick_778 : decode cL_tick 778 = .ok (.iconst 0, 1) := by decide +kernel
theorem dL_tick_779 : decode cL_tick 779 = .ok (.ireturn, 1) := by decide +kernel
theorem dL_tick_780 : decode cL_tick 780 = .ok (.aload_n 0, 1) := by decide +kernel
theorem dL_tick_781 : decode cL_tick 781 = .ok (.iload 4, 2) := by decide +kernel
theorem dL_tick_783 : decode cL_tick 783 = .ok (.iconst 0, 1) := by decide +kernel
theorem dL_tick_784 : decode cL_tick 784 = .ok (.invokevirtual 15, 3) := by decide +kernel
theorem dL_tick_787 : decode cL_tick 787 = .ok (.istore 19, 2) := by decide +kernel
theorem dL_tick_789 : decode cL_tick 789 = .ok (.iload 17, 2) := by decide +kernel
theorem dL_tick_791 : decode cL_tick 791 = .ok (.ifCond .ne 99, 3) := by decide +kernel
theorem dL_tick_794 : decode cL_tick 794 = .ok (.iload 16, 2) := by decide +kernel
theorem dL_tick_796 : decode cL_tick 796 = .ok (.iconst 1, 1) := by decide +kernel
theorem dL_tick_797 : decode cL_tick 797 = .ok (.if_icmp .ne 93, 3) := by decide +kernel
theorem dL_tick_800 : decode cL_tick 800 = .ok (.aload_n 0, 1) := by decide +kernel
theorem dL_tick_801 : decode cL_tick 801 = .ok (.iload_n 1, 1) := by decide +kernel
theorem dL_tick_802 : decode cL_tick 802 = .ok (.iconst 3, 1) := by decide +kernel
theorem dL_tick_803 : decode cL_tick 803 = .ok (.invokevirtual 19, 3) := by decide +kernel
theorem dL_tick_806 : decode cL_tick 806 = .ok (.bipush (-5), 2) := by decide +kernel
theorem dL_tick_808 : decode cL_tick 808 = .ok (.if_icmp .ne 82, 3) := by decide +kernel
theorem dL_tick_811 : decode cL_tick 811 = .ok (.iload 19, 2) := by decide +kernel
theorem dL_tick_813 : decode cL_tick 813 = .ok (.iconst 3, 1) := by decide +kernel
theorem dL_tick_814 : decode cL_tick 814 = .ok (.if_icmp .eq 9, 3) := by decide +kernel
theorem dL_tick_817 : decode cL_tick 817 = .ok (.iload 19, 2) := by decide +kernel
theorem dL_tick_819 : decode cL_tick 819 = .ok (.iconst 5, 1) := by decide +kernel
theorem dL_tick_820 : decode cL_tick 820 = .ok (.if_icmp .ne 70, 3) := by decide +kernel
theorem dL_tick_823 : decode cL_tick 823 = .ok (.aload_n 0, 1) := by decide +kernel
theorem dL_tick_824 : decode cL_tick 824 = .ok (.iload_n 1, 1) := by decide +kernel
theorem dL_tick_825 : decode cL_tick 825 = .ok (.bipush 6, 2) := by decide +kernel
theorem dL_tick_827 : decode cL_tick 827 = .ok (.invokevirtual 19, 3) := by decide +kernel
theorem dL_tick_830 : decode cL_tick 830 = .ok (.aload_n 0, 1) := by decide +kernel
theorem dL_tick_831 : decode cL_tick 831 = .ok (.iload_n 1, 1) := by decide +kernel
theorem dL_tick_832 : decode cL_tick 832 = .ok (.bipush 7, 2) := by decide +kernel
theorem dL_tick_834 : decode cL_tick 834 = .ok (.invokevirtual 19, 3) := by decide +kernel
theorem dL_tick_837 : decode cL_tick 837 = .ok (.iadd, 1) := by decide +kernel
theorem dL_tick_838 : decode cL_tick 838 = .ok (.iload 13, 2) := by decide +kernel
theorem dL_tick_840 : decode cL_tick 840 = .ok (.iconst 1, 1) := by decide +kernel
theorem dL_tick_841 : decode cL_tick 841 = .ok (.iadd, 1) := by decide +kernel
theorem dL_tick_842 : decode cL_tick 842 = .ok (.if_icmp .ne 48, 3) := by decide +kernel
theorem dL_tick_845 : decode cL_tick 845 = .ok (.aload_n 0, 1) := by decide +kernel
theorem dL_tick_846 : decode cL_tick 846 = .ok (.iconst 0, 1) := by decide +kernel
theorem dL_tick_847 : decode cL_tick 847 = .ok (.iconst 3, 1) := by decide +kernel
theorem dL_tick_848 : decode cL_tick 848 = .ok (.invokevirtual 41, 3) := by decide +kernel
theorem dL_tick_851 : decode cL_tick 851 = .ok (.iload 19, 2) := by decide +kernel
theorem dL_tick_853 : decode cL_tick 853 = .ok (.iconst 3, 1) := by decide +kernel
theorem dL_tick_854 : decode cL_tick 854 = .ok (.if_icmp .ne 7, 3) := by decide +kernel
theorem dL_tick_857 : decode cL_tick 857 = .ok (.iconst 2, 1) := by decide +kernel
theorem dL_tick_858 : decode cL_tick 858 = .ok (.goto 4, 3) := by decide +kernel
theorem dL_tick_861 : decode cL_tick 861 = .ok (.iconst 3, 1) := by decide +kernel
theorem dL_tick_862 : decode cL_tick 862 = .ok (.if_icmp .ne 28, 3) := by decide +kernel
theorem dL_tick_865 : decode cL_tick 865 = .ok (.aload_n 0, 1) := by decide +kernel
theorem dL_tick_866 : decode cL_tick 866 = .ok (.iconst 0, 1) := by decide +kernel
theorem dL_tick_867 : decode cL_tick 867 = .ok (.iconst 2, 1) := by decide +kernel
theorem dL_tick_868 : decode cL_tick 868 = .ok (.invokevirtual 41, 3) := by decide +kernel
theorem dL_tick_871 : decode cL_tick 871 = .ok (.iload 4, 2) := by decide +kernel
theorem dL_tick_873 : decode cL_tick 873 = .ok (.if_icmp .ne 17, 3) := by decide +kernel
theorem dL_tick_876 : decode cL_tick 876 = .ok (.aload_n 0, 1) := by decide +kernel
theorem dL_tick_877 : decode cL_tick 877 = .ok (.iconst 0, 1) := by decide +kernel
theorem dL_tick_878 : decode cL_tick 878 = .ok (.iconst 1, 1) := by decide +kernel
theorem dL_tick_879 : decode cL_tick 879 = .ok (.invokevirtual 41, 3) := by decide +kernel
theorem dL_tick_882 : decode cL_tick 882 = .ok (.iload_n 1, 1) := by decide +kernel
theorem dL_tick_883 : decode cL_tick 883 = .ok (.if_icmp .ne 7, 3) := by decide +kernel
theorem dL_tick_886 : decode cL_tick 886 = .ok (.iconst 1, 1) := by decide +kernel
theorem dL_tick_887 : decode cL_tick 887 = .ok (.goto 4, 3) := by decide +kernel
theorem dL_tick_890 : decode cL_tick 890 = .ok (.iconst 0, 1) := by decide +kernel
theorem dL_tick_891 : decode cL_tick 891 = .ok (.ireturn, 1) := by decide +kernel
theorem dL_ahead_0 : decode cL_ahead 0 = .ok (.aload_n 0, 1) := by decide +kernel
theorem dL_ahead_1 : decode cL_ahead 1 = .ok (.iload_n 1, 1) := by decide +kernel
theorem dL_ahead_2 : decode cL_ahead 2 = .ok (.iconst 0, 1) := by decide +kernel
theorem dL_ahead_3 : decode cL_ahead 3 = .ok (.invokevirtual 15, 3) := by decide +kernel
theorem dL_ahead_6 : decode cL_ahead 6 = .ok (.istore_n 2, 1) := by decide +kernel
theorem dL_ahead_7 : decode cL_ahead 7 = .ok (.aload_n 0, 1) := by decide +kernel
theorem dL_ahead_8 : decode cL_ahead 8 = .ok (.iload_n 1, 1) := by decide +kernel
theorem dL_ahead_9 : decode cL_ahead 9 = .ok (.invokevirtual 44, 3) := by decide +kernel
theorem dL_ahead_12 : decode cL_ahead 12 = .ok (.istore_n 3, 1) := by decide +kernel
theorem dL_ahead_13 : decode cL_ahead 13 = .ok (.iload_n 2, 1) := by decide +kernel
theorem dL_ahead_14 : decode cL_ahead 14 = .ok (.ifCond .eq 13, 3) := by decide +kernel
theorem dL_ahead_17 : decode cL_ahead 17 = .ok (.iload_n 2, 1) := by decide +kernel
theorem dL_ahead_18 : decode cL_ahead 18 = .ok (.iconst 3, 1) := by decide +kernel
theorem dL_ahead_19 : decode cL_ahead 19 = .ok (.if_icmp .eq 8, 3) := by decide +kernel
theorem dL_ahead_22 : decode cL_ahead 22 = .ok (.iload_n 2, 1) := by decide +kernel
theorem dL_ahead_23 : decode cL_ahead 23 = .ok (.iconst 5, 1) := by decide +kernel
theorem dL_ahead_24 : decode cL_ahead 24 = .ok (.if_icmp .ne 15, 3) := by decide +kernel
theorem dL_ahead_27 : decode cL_ahead 27 = .ok (.iload_n 3, 1) := by decide +kernel
theorem dL_ahead_28 : decode cL_ahead 28 = .ok (.bipush (-4), 2) := by decide +kernel
theorem dL_ahead_30 : decode cL_ahead 30 = .ok (.if_icmp .ne 7, 3) := by decide +kernel
theorem dL_ahead_33 : decode cL_ahead 33 = .ok (.iconst 1, 1) := by decide +kernel
theorem dL_ahead_34 : decode cL_ahead 34 = .ok (.goto 4, 3) := by decide +kernel
theorem dL_ahead_37 : decode cL_ahead 37 = .ok (.iconst 0, 1) := by decide +kernel
theorem dL_ahead_38 : decode cL_ahead 38 = .ok (.ireturn, 1) := by decide +kernel
theorem dL_ahead_39 : decode cL_ahead 39 = .ok (.iload_n 3, 1) := by decide +kernel
theorem dL_ahead_40 : decode cL_ahead 40 = .ok (.bipush (-5), 2) := by decide +kernel
theorem dL_ahead_42 : decode cL_ahead 42 = .ok (.if_icmp .eq 10, 3) := by decide +kernel
theorem dL_ahead_45 : decode cL_ahead 45 = .ok (.iload_n 3, 1) := by decide +kernel
theorem dL_ahead_46 : decode cL_ahead 46 = .ok (.sipush 200, 3) := by decide +kernel
theorem dL_ahead_49 : decode cL_ahead 49 = .ok (.if_icmp .le 22, 3) := by decide +kernel
theorem dL_ahead_52 : decode cL_ahead 52 = .ok (.iload_n 3, 1) := by decide +kernel
theorem dL_ahead_53 : decode cL_ahead 53 = .ok (.bipush (-5), 2) := by decide +kernel
theorem dL_ahead_55 : decode cL_ahead 55 = .ok (.if_icmp .eq 10, 3) := by decide +kernel
theorem dL_ahead_58 : decode cL_ahead 58 = .ok (.iload_n 3, 1) := by decide +kernel
theorem dL_ahead_59 : decode cL_ahead 59 = .ok (.sipush 500, 3) := by decide +kernel
theorem dL_ahead_62 : decode cL_ahead 62 = .ok (.if_icmp .gt 7, 3) := by decide +kernel
theorem dL_ahead_65 : decode cL_ahead 65 = .ok (.iconst 1, 1) := by decide +kernel
theorem dL_ahead_66 : decode cL_ahead 66 = .ok (.goto 4, 3) := by decide +kernel
theorem dL_ahead_69 : decode cL_ahead 69 = .ok (.iconst 0, 1) := by decide +kernel
theorem dL_ahead_70 : decode cL_ahead 70 = .ok (.ireturn, 1) := by decide +kernel
theorem dL_ahead_71 : decode cL_ahead 71 = .ok (.iload_n 3, 1) := by decide +kernel
theorem dL_ahead_72 : decode cL_ahead 72 = .ok (.iconst 1, 1) := by decide +kernel
theorem dL_ahead_73 : decode cL_ahead 73 = .ok (.if_icmp .le 52, 3) := by decide +kernel
theorem dL_ahead_76 : decode cL_ahead 76 = .ok (.aload_n 0, 1) := by decide +kernel
theorem dL_ahead_77 : decode cL_ahead 77 = .ok (.iload_n 3, 1) := by decide +kernel
theorem dL_ahead_78 : decode cL_ahead 78 = .ok (.iconst 1, 1) := by decide +kernel
theorem dL_ahead_79 : decode cL_ahead 79 = .ok (.isub, 1) := by decide +kernel
theorem dL_ahead_80 : decode cL_ahead 80 = .ok (.invokevirtual 38, 3) := by decide +kernel
theorem dL_ahead_83 : decode cL_ahead 83 = .ok (.ifCond .lt 40, 3) := by decide +kernel
theorem dL_ahead_86 : decode cL_ahead 86 = .ok (.aload_n 0, 1) := by decide +kernel
theorem dL_ahead_87 : decode cL_ahead 87 = .ok (.iload_n 1, 1) := by decide +kernel
theorem dL_ahead_88 : decode cL_ahead 88 = .ok (.iconst 0, 1) := by decide +kernel
theorem dL_ahead_89 : decode cL_ahead 89 = .ok (.invokevirtual 15, 3) := by decide +kernel
theorem dL_ahead_92 : decode cL_ahead 92 = .ok (.iconst 1, 1) := by decide +kernel
theorem dL_ahead_93 : decode cL_ahead 93 = .ok (.if_icmp .eq 23, 3) := by decide +kernel
theorem dL_ahead_96 : decode cL_ahead 96 = .ok (.aload_n 0, 1) := by decide +kernel
theorem dL_ahead_97 : decode cL_ahead 97 = .ok (.iload_n 1, 1) := by decide +kernel
theorem dL_ahead_98 : decode cL_ahead 98 = .ok (.iconst 0, 1) := by decide +kernel
theorem dL_ahead_99 : decode cL_ahead 99 = .ok (.invokevirtual 15, 3) := by decide +kernel
theorem dL_ahead_102 : decode cL_ahead 102 = .ok (.iconst 2, 1) := by decide +kernel
theorem dL_ahead_103 : decode cL_ahead 103 = .ok (.if_icmp .eq 13, 3) := by decide +kernel
theorem dL_ahead_106 : decode cL_ahead 106 = .ok (.aload_n 0, 1) := by decide +kernel
theorem dL_ahead_107 : decode cL_ahead 107 = .ok (.iload_n 1, 1) := by decide +kernel
theorem dL_ahead_108 : decode cL_ahead 108 = .ok (.iconst 0, 1) := by decide +kernel
theorem dL_ahead_109 : decode cL_ahead 109 = .ok (.invokevirtual 15, 3) := by decide +kernel
theorem dL_ahead_112 : decode cL_ahead 112 = .ok (.iconst 4, 1) := by decide +kernel
theorem dL_ahead_113 : decode cL_ahead 113 = .ok (.if_icmp .ne 10, 3) := by decide +kernel
theorem dL_ahead_116 : decode cL_ahead 116 = .ok (.aload_n 0, 1) := by decide +kernel
theorem dL_ahead_117 : decode cL_ahead 117 = .ok (.invokevirtual 47, 3) := by decide +kernel
theorem dL_ahead_120 : decode cL_ahead 120 = .ok (.ifCond .ge 5, 3) := by decide +kernel
theorem dL_ahead_123 : decode cL_ahead 123 = .ok (.iconst 0, 1) := by decide +kernel
theorem dL_ahead_124 : decode cL_ahead 124 = .ok (.ireturn, 1) := by decide +kernel
theorem dL_ahead_125 : decode cL_ahead 125 = .ok (.aload_n 0, 1) := by decide +kernel
theorem dL_ahead_126 : decode cL_ahead 126 = .ok (.iload_n 3, 1) := by decide +kernel
theorem dL_ahead_127 : decode cL_ahead 127 = .ok (.invokevirtual 38, 3) := by decide +kernel
theorem dL_ahead_130 : decode cL_ahead 130 = .ok (.istore 4, 2) := by decide +kernel
theorem dL_ahead_132 : decode cL_ahead 132 = .ok (.iload_n 3, 1) := by decide +kernel
theorem dL_ahead_133 : decode cL_ahead 133 = .ok (.ifCond .le 49, 3) := by decide +kernel
theorem dL_ahead_136 : decode cL_ahead 136 = .ok (.iload 4, 2) := by decide +kernel
theorem dL_ahead_138 : decode cL_ahead 138 = .ok (.ifCond .le 44, 3) := by decide +kernel
theorem dL_ahead_141 : decode cL_ahead 141 = .ok (.aload_n 0, 1) := by decide +kernel
theorem dL_ahead_142 : decode cL_ahead 142 = .ok (.iload_n 1, 1) := by decide +kernel
theorem dL_ahead_143 : decode cL_ahead 143 = .ok (.iconst 0, 1) := by decide +kernel
theorem dL_ahead_144 : decode cL_ahead 144 = .ok (.invokevirtual 15, 3) := by decide +kernel
theorem dL_ahead_147 : decode cL_ahead 147 = .ok (.iconst 3, 1) := by decide +kernel
theorem dL_ahead_148 : decode cL_ahead 148 = .ok (.if_icmp .eq 13, 3) := by decide +kernel
theorem dL_ahead_151 : decode cL_ahead 151 = .ok (.aload_n 0, 1) := by decide +kernel
theorem dL_ahead_152 : decode cL_ahead 152 = .ok (.iload_n 1, 1) := by decide +kernel
theorem dL_ahead_153 : decode cL_ahead 153 = .ok (.iconst 0, 1) := by decide +kernel
theorem dL_ahead_154 : decode cL_ahead 154 = .ok (.invokevirtual 15, 3) := by decide +kernel
theorem dL_ahead_157 : decode cL_ahead 157 = .ok (.iconst 5, 1) := by decide +kernel
theorem dL_ahead_158 : decode cL_ahead 158 = .ok (.if_icmp .ne 24, 3) := by decide +kernel
theorem dL_ahead_161 : decode cL_ahead 161 = .ok (.aload_n 0, 1) := by decide +kernel
theorem dL_ahead_162 : decode cL_ahead 162 = .ok (.invokevirtual 47, 3) := by decide +kernel
theorem dL_ahead_165 : decode cL_ahead 165 = .ok (.ifCond .lt 17, 3) := by decide +kernel
theorem dL_ahead_168 : decode cL_ahead 168 = .ok (.aload_n 0, 1) := by decide +kernel
theorem dL_ahead_169 : decode cL_ahead 169 = .ok (.iload_n 1, 1) := by decide +kernel
theorem dL_ahead_170 : decode cL_ahead 170 = .ok (.iconst 0, 1) := by decide +kernel
theorem dL_ahead_171 : decode cL_ahead 171 = .ok (.invokevirtual 15, 3) := by decide +kernel
theorem dL_ahead_174 : decode cL_ahead 174 = .ok (.iload_n 2, 1) := by decide +kernel
theorem dL_ahead_175 : decode cL_ahead 175 = .ok (.if_icmp .ne 7, 3) := by decide +kernel
theorem dL_ahead_178 : decode cL_ahead 178 = .ok (.iconst 1, 1) := by decide +kernel
theorem dL_ahead_179 : decode cL_ahead 179 = .ok (.goto 4, 3) := by decide +kernel
theorem dL_ahead_182 : decode cL_ahead 182 = .ok (.iconst 0, 1) := by decide +kernel
theorem dL_ahead_183 : decode cL_ahead 183 = .ok (.ireturn, 1) := by decide +kernel
theorem dL_fails_0 : decode cL_fails 0 = .ok (.aload_n 0, 1) := by decide +kernel
theorem dL_fails_1 : decode cL_fails 1 = .ok (.iload_n 1, 1) := by decide +kernel
theorem dL_fails_2 : decode cL_fails 2 = .ok (.iconst 1, 1) := by decide +kernel
theorem dL_fails_3 : decode cL_fails 3 = .ok (.invokevirtual 19, 3) := by decide +kernel
theorem dL_fails_6 : decode cL_fails 6 = .ok (.istore_n 2, 1) := by decide +kernel
theorem dL_fails_7 : decode cL_fails 7 = .ok (.aload_n 0, 1) := by decide +kernel
theorem dL_fails_8 : decode cL_fails 8 = .ok (.iload_n 1, 1) := by decide +kernel
theorem dL_fails_9 : decode cL_fails 9 = .ok (.iconst 3, 1) := by decide +kernel
theorem dL_fails_10 : decode cL_fails 10 = .ok (.invokevirtual 19, 3) := by decide +kernel
theorem dL_fails_13 : decode cL_fails 13 = .ok (.istore_n 3, 1) := by decide +kernel
theorem dL_fails_14 : decode cL_fails 14 = .ok (.aload_n 0, 1) := by decide +kernel
theorem dL_fails_15 : decode cL_fails 15 = .ok (.iload_n 1, 1) := by decide +kernel
theorem dL_fails_16 : decode cL_fails 16 = .ok (.iconst 4, 1) := by decide +kernel
theorem dL_fails_17 : decode cL_fails 17 = .ok (.invokevirtual 19, 3) := by decide +kernel
theorem dL_fails_20 : decode cL_fails 20 = .ok (.aload_n 0, 1) := by decide +kernel
theorem dL_fails_21 : decode cL_fails 21 = .ok (.iload_n 1, 1) := by decide +kernel
theorem dL_fails_22 : decode cL_fails 22 = .ok (.iconst 5, 1) := by decide +kernel
theorem dL_fails_23 : decode cL_fails 23 = .ok (.invokevirtual 19, 3) := by decide +kernel
theorem dL_fails_26 : decode cL_fails 26 = .ok (.iadd, 1) := by decide +kernel
theorem dL_fails_27 : decode cL_fails 27 = .ok (.istore 4, 2) := by decide +kernel
theorem dL_fails_29 : decode cL_fails 29 = .ok (.aload_n 0, 1) := by decide +kernel
theorem dL_fails_30 : decode cL_fails 30 = .ok (.bipush 6, 2) := by decide +kernel
theorem dL_fails_32 : decode cL_fails 32 = .ok (.invokevirtual 9, 3) := by decide +kernel
theorem dL_fails_35 : decode cL_fails 35 = .ok (.aload_n 0, 1) := by decide +kernel
theorem dL_fails_36 : decode cL_fails 36 = .ok (.iconst 3, 1) := by decide +kernel
theorem dL_fails_37 : decode cL_fails 37 = .ok (.invokevirtual 9, 3) := by decide +kernel
theorem dL_fails_40 : decode cL_fails 40 = .ok (.iadd, 1) := by decide +kernel
theorem dL_fails_41 : decode cL_fails 41 = .ok (.istore 5, 2) := by decide +kernel
theorem dL_fails_43 : decode cL_fails 43 = .ok (.iload_n 2, 1) := by decide +kernel
theorem dL_fails_44 : decode cL_fails 44 = .ok (.iconst 5, 1) := by decide +kernel
theorem dL_fails_45 : decode cL_fails 45 = .ok (.if_icmp .ne 70, 3) := by decide +kernel
theorem dL_fails_48 : decode cL_fails 48 = .ok (.aload_n 0, 1) := by decide +kernel
theorem dL_fails_49 : decode cL_fails 49 = .ok (.iload_n 1, 1) := by decide +kernel
theorem dL_fails_50 : decode cL_fails 50 = .ok (.invokevirtual 51, 3) := by decide +kernel
theorem dL_fails_53 : decode cL_fails 53 = .ok (.bipush (-4), 2) := by decide +kernel
theorem dL_fails_55 : decode cL_fails 55 = .ok (.if_icmp .ne 58, 3) := by decide +kernel
theorem dL_fails_58 : decode cL_fails 58 = .ok (.aload_n 0, 1) := by decide +kernel
theorem dL_fails_59 : decode cL_fails 59 = .ok (.iload_n 1, 1) := by decide +kernel
theorem dL_fails_60 : decode cL_fails 60 = .ok (.invokevirtual 54, 3) := by decide +kernel
theorem dL_fails_63 : decode cL_fails 63 = .ok (.bipush (-4), 2) := by decide +kernel
theorem dL_fails_65 : decode cL_fails 65 = .ok (.if_icmp .ne 48, 3) := by decide +kernel
theorem dL_fails_68 : decode cL_fails 68 = .ok (.aload_n 0, 1) := by decide +kernel
theorem dL_fails_69 : decode cL_fails 69 = .ok (.iload_n 1, 1) := by decide +kernel
theorem dL_fails_70 : decode cL_fails 70 = .ok (.invokevirtual 57, 3) := by decide +kernel
theorem dL_fails_73 : decode cL_fails 73 = .ok (.iload 4, 2) := by decide +kernel
theorem dL_fails_75 : decode cL_fails 75 = .ok (.if_icmp .ne 38, 3) := by decide +kernel
theorem dL_fails_78 : decode cL_fails 78 = .ok (.aload_n 0, 1) := by decide +kernel
theorem dL_fails_79 : decode cL_fails 79 = .ok (.iload_n 1, 1) := by decide +kernel
theorem dL_fails_80 : decode cL_fails 80 = .ok (.iconst 1, 1) := by decide +kernel
theorem dL_fails_81 : decode cL_fails 81 = .ok (.invokevirtual 19, 3) := by decide +kernel
theorem dL_fails_84 : decode cL_fails 84 = .ok (.ifCond .ne 29, 3) := by decide +kernel
theorem dL_fails_87 : decode cL_fails 87 = .ok (.aload_n 0, 1) := by decide +kernel
theorem dL_fails_88 : decode cL_fails 88 = .ok (.iconst 0, 1) := by decide +kernel
theorem dL_fails_89 : decode cL_fails 89 = .ok (.iconst 3, 1) := by decide +kernel
theorem dL_fails_90 : decode cL_fails 90 = .ok (.invokevirtual 41, 3) := by decide +kernel
theorem dL_fails_93 : decode cL_fails 93 = .ok (.bipush 6, 2) := by decide +kernel
theorem dL_fails_95 : decode cL_fails 95 = .ok (.if_icmp .ne 18, 3) := by decide +kernel
theorem dL_fails_98 : decode cL_fails 98 = .ok (.aload_n 0, 1) := by decide +kernel
theorem dL_fails_99 : decode cL_fails 99 = .ok (.iconst 0, 1) := by decide +kernel
theorem dL_fails_100 : decode cL_fails 100 = .ok (.iconst 2, 1) := by decide +kernel
theorem dL_fails_101 : decode cL_fails 101 = .ok (.invokevirtual 41, 3) := by decide +kernel
theorem dL_fails_104 : decode cL_fails 104 = .ok (.bipush (-5), 2) := by decide +kernel
theorem dL_fails_106 : decode cL_fails 106 = .ok (.if_icmp .ne 7, 3) := by decide +kernel
theorem dL_fails_109 : decode cL_fails 109 = .ok (.iconst 1, 1) := by decide +kernel
theorem dL_fails_110 : decode cL_fails 110 = .ok (.goto 4, 3) := by decide +kernel
theorem dL_fails_113 : decode cL_fails 113 = .ok (.iconst 0, 1) := by decide +kernel
theorem dL_fails_114 : decode cL_fails 114 = .ok (.ireturn, 1) := by decide +kernel
theorem dL_fails_115 : decode cL_fails 115 = .ok (.aload_n 0, 1) := by decide +kernel
theorem dL_fails_116 : decode cL_fails 116 = .ok (.iload_n 1, 1) := by decide +kernel
theorem dL_fails_117 : decode cL_fails 117 = .ok (.invokevirtual 57, 3) := by decide +kernel
theorem dL_fails_120 : decode cL_fails 120 = .ok (.bipush (-4), 2) := by decide +kernel
theorem dL_fails_122 : decode cL_fails 122 = .ok (.if_icmp .ne 90, 3) := by decide +kernel
theorem dL_fails_125 : decode cL_fails 125 = .ok (.aload_n 0, 1) := by decide +kernel
theorem dL_fails_126 : decode cL_fails 126 = .ok (.iload_n 1, 1) := by decide +kernel
theorem dL_fails_127 : decode cL_fails 127 = .ok (.invokevirtual 51, 3) := by decide +kernel
theorem dL_fails_130 : decode cL_fails 130 = .ok (.iload_n 3, 1) := by decide +kernel
theorem dL_fails_131 : decode cL_fails 131 = .ok (.if_icmp .ne 81, 3) := by decide +kernel
theorem dL_fails_134 : decode cL_fails 134 = .ok (.aload_n 0, 1) := by decide +kernel
theorem dL_fails_135 : decode cL_fails 135 = .ok (.iload_n 1, 1) := by decide +kernel
theorem dL_fails_136 : decode cL_fails 136 = .ok (.iconst 1, 1) := by decide +kernel
theorem dL_fails_137 : decode cL_fails 137 = .ok (.invokevirtual 19, 3) := by decide +kernel
theorem dL_fails_140 : decode cL_fails 140 = .ok (.iconst 5, 1) := by decide +kernel
theorem dL_fails_141 : decode cL_fails 141 = .ok (.if_icmp .ne 71, 3) := by decide +kernel
theorem dL_fails_144 : decode cL_fails 144 = .ok (.aload_n 0, 1) := by decide +kernel
theorem dL_fails_145 : decode cL_fails 145 = .ok (.iload_n 1, 1) := by decide +kernel
theorem dL_fails_146 : decode cL_fails 146 = .ok (.iconst 2, 1) := by decide +kernel
theorem dL_fails_147 : decode cL_fails 147 = .ok (.invokevirtual 19, 3) := by decide +kernel
theorem dL_fails_150 : decode cL_fails 150 = .ok (.ifCond .ne 62, 3) := by decide +kernel
theorem dL_fails_153 : decode cL_fails 153 = .ok (.aload_n 0, 1) := by decide +kernel
theorem dL_fails_154 : decode cL_fails 154 = .ok (.iload_n 1, 1) := by decide +kernel
theorem dL_fails_155 : decode cL_fails 155 = .ok (.iconst 4, 1) := by decide +kernel
theorem dL_fails_156 : decode cL_fails 156 = .ok (.invokevirtual 19, 3) := by decide +kernel
theorem dL_fails_159 : decode cL_fails 159 = .ok (.aload_n 0, 1) := by decide +kernel
theorem dL_fails_160 : decode cL_fails 160 = .ok (.iload_n 1, 1) := by decide +kernel
theorem dL_fails_161 : decode cL_fails 161 = .ok (.iconst 5, 1) := by decide +kernel
theorem dL_fails_162 : decode cL_fails 162 = .ok (.invokevirtual 19, 3) := by decide +kernel
theorem dL_fails_165 : decode cL_fails 165 = .ok (.iadd, 1) := by decide +kernel
theorem dL_fails_166 : decode cL_fails 166 = .ok (.iload 4, 2) := by decide +kernel
theorem dL_fails_168 : decode cL_fails 168 = .ok (.if_icmp .ne 44, 3) := by decide +kernel
theorem dL_fails_171 : decode cL_fails 171 = .ok (.aload_n 0, 1) := by decide +kernel
theorem dL_fails_172 : decode cL_fails 172 = .ok (.iload_n 3, 1) := by decide +kernel
theorem dL_fails_173 : decode cL_fails 173 = .ok (.ifCond .ge 7, 3) := by decide +kernel
theorem dL_fails_176 : decode cL_fails 176 = .ok (.iconst 0, 1) := by decide +kernel
theorem dL_fails_177 : decode cL_fails 177 = .ok (.goto 4, 3) := by decide +kernel
theorem dL_fails_180 : decode cL_fails 180 = .ok (.iconst 1, 1) := by decide +kernel
theorem dL_fails_181 : decode cL_fails 181 = .ok (.iconst 3, 1) := by decide +kernel
theorem dL_fails_182 : decode cL_fails 182 = .ok (.invokevirtual 41, 3) := by decide +kernel
theorem dL_fails_185 : decode cL_fails 185 = .ok (.iconst 5, 1) := by decide +kernel
theorem dL_fails_186 : decode cL_fails 186 = .ok (.if_icmp .ne 26, 3) := by decide +kernel
theorem dL_fails_189 : decode cL_fails 189 = .ok (.aload_n 0, 1) := by decide +kernel
theorem dL_fails_190 : decode cL_fails 190 = .ok (.iload_n 3, 1) := by decide +kernel
theorem dL_fails_191 : decode cL_fails 191 = .ok (.ifCond .ge 7, 3) := by decide +kernel
theorem dL_fails_194 : decode cL_fails 194 = .ok (.iconst 0, 1) := by decide +kernel
theorem dL_fails_195 : decode cL_fails 195 = .ok (.goto 4, 3) := by decide +kernel
theorem dL_fails_198 : decode cL_fails 198 = .ok (.iconst 1, 1) := by decide +kernel
theorem dL_fails_199 : decode cL_fails 199 = .ok (.iconst 2, 1) := by decide +kernel
theorem dL_fails_200 : decode cL_fails 200 = .ok (.invokevirtual 41, 3) := by decide +kernel
theorem dL_fails_203 : decode cL_fails 203 = .ok (.bipush (-5), 2) := by decide +kernel
theorem dL_fails_205 : decode cL_fails 205 = .ok (.if_icmp .ne 7, 3) := by decide +kernel
theorem dL_fails_208 : decode cL_fails 208 = .ok (.iconst 1, 1) := by decide +kernel
theorem dL_fails_209 : decode cL_fails 209 = .ok (.goto 4, 3) := by decide +kernel
theorem dL_fails_212 : decode cL_fails 212 = .ok (.iconst 0, 1) := by decide +kernel
theorem dL_fails_213 : decode cL_fails 213 = .ok (.istore 6, 2) := by decide +kernel
theorem dL_fails_215 : decode cL_fails 215 = .ok (.iload 6, 2) := by decide +kernel
theorem dL_fails_217 : decode cL_fails 217 = .ok (.ifCond .eq 84, 3) := by decide +kernel
theorem dL_fails_220 : decode cL_fails 220 = .ok (.iload_n 3, 1) := by decide +kernel
theorem dL_fails_221 : decode cL_fails 221 = .ok (.ifCond .lt 76, 3) := by decide +kernel
theorem dL_fails_224 : decode cL_fails 224 = .ok (.aload_n 0, 1) := by decide +kernel
theorem dL_fails_225 : decode cL_fails 225 = .ok (.iload_n 3, 1) := by decide +kernel
theorem dL_fails_226 : decode cL_fails 226 = .ok (.iconst 0, 1) := by decide +kernel
theorem dL_fails_227 : decode cL_fails 227 = .ok (.invokevirtual 15, 3) := by decide +kernel
theorem dL_fails_230 : decode cL_fails 230 = .ok (.iconst 3, 1) := by decide +kernel
theorem dL_fails_231 : decode cL_fails 231 = .ok (.if_icmp .eq 13, 3) := by decide +kernel
theorem dL_fails_234 : decode cL_fails 234 = .ok (.aload_n 0, 1) := by decide +kernel
theorem dL_fails_235 : decode cL_fails 235 = .ok (.iload_n 3, 1) := by decide +kernel
theorem dL_fails_236 : decode cL_fails 236 = .ok (.iconst 0, 1) := by decide +kernel
theorem dL_fails_237 : decode cL_fails 237 = .ok (.invokevirtual 15, 3) := by decide +kernel
theorem dL_fails_240 : decode cL_fails 240 = .ok (.iconst 5, 1) := by decide +kernel
theorem dL_fails_241 : decode cL_fails 241 = .ok (.if_icmp .ne 60, 3) := by decide +kernel
theorem dL_fails_244 : decode cL_fails 244 = .ok (.aload_n 0, 1) := by decide +kernel
theorem dL_fails_245 : decode cL_fails 245 = .ok (.iconst 0, 1) := by decide +kernel
theorem dL_fails_246 : decode cL_fails 246 = .ok (.iconst 2, 1) := by decide +kernel
theorem dL_fails_247 : decode cL_fails 247 = .ok (.invokevirtual 41, 3) := by decide +kernel
theorem dL_fails_250 : decode cL_fails 250 = .ok (.iload_n 3, 1) := by decide +kernel
theorem dL_fails_251 : decode cL_fails 251 = .ok (.if_icmp .ne 50, 3) := by decide +kernel
theorem dL_fails_254 : decode cL_fails 254 = .ok (.aload_n 0, 1) := by decide +kernel
theorem dL_fails_255 : decode cL_fails 255 = .ok (.bipush 6, 2) := by decide +kernel
theorem dL_fails_257 : decode cL_fails 257 = .ok (.invokevirtual 9, 3) := by decide +kernel
theorem dL_fails_260 : decode cL_fails 260 = .ok (.aload_n 0, 1) := by decide +kernel
theorem dL_fails_261 : decode cL_fails 261 = .ok (.iconst 3, 1) := by decide +kernel
theorem dL_fails_262 : decode cL_fails 262 = .ok (.invokevirtual 9, 3) := by decide +kernel
theorem dL_fails_265 : decode cL_fails 265 = .ok (.iadd, 1) := by decide +kernel
theorem dL_fails_266 : decode cL_fails 266 = .ok (.iload 5, 2) := by decide +kernel
theorem dL_fails_268 : decode cL_fails 268 = .ok (.aload_n 0, 1) := by decide +kernel
theorem dL_fails_269 : decode cL_fails 269 = .ok (.iload_n 3, 1) := by decide +kernel
theorem dL_fails_270 : decode cL_fails 270 = .ok (.iconst 0, 1) := by decide +kernel
theorem dL_fails_271 : decode cL_fails 271 = .ok (.invokevirtual 15, 3) := by decide +kernel
theorem dL_fails_274 : decode cL_fails 274 = .ok (.iconst 3, 1) := by decide +kernel
theorem dL_fails_275 : decode cL_fails 275 = .ok (.if_icmp .eq 13, 3) := by decide +kernel
theorem dL_fails_278 : decode cL_fails 278 = .ok (.aload_n 0, 1) := by decide +kernel
theorem dL_fails_279 : decode cL_fails 279 = .ok (.iload_n 3, 1) := by decide +kernel
theorem dL_fails_280 : decode cL_fails 280 = .ok (.iconst 0, 1) := by decide +kernel
theorem dL_fails_281 : decode cL_fails 281 = .ok (.invokevirtual 15, 3) := by decide +kernel
theorem dL_fails_284 : decode cL_fails 284 = .ok (.iconst 5, 1) := by decide +kernel
theorem dL_fails_285 : decode cL_fails 285 = .ok (.if_icmp .ne 7, 3) := by decide +kernel
theorem dL_fails_288 : decode cL_fails 288 = .ok (.iconst 1, 1) := by decide +kernel
theorem dL_fails_289 : decode cL_fails 289 = .ok (.goto 4, 3) := by decide +kernel
theorem dL_fails_292 : decode cL_fails 292 = .ok (.iconst 0, 1) := by decide +kernel
theorem dL_fails_293 : decode cL_fails 293 = .ok (.iadd, 1) := by decide +kernel
theorem dL_fails_294 : decode cL_fails 294 = .ok (.if_icmp .ne 7, 3) := by decide +kernel
theorem dL_fails_297 : decode cL_fails 297 = .ok (.iconst 1, 1) := by decide +kernel
theorem dL_fails_298 : decode cL_fails 298 = .ok (.goto 4, 3) := by decide +kernel
theorem dL_fails_301 : decode cL_fails 301 = .ok (.iconst 0, 1) := by decide +kernel
theorem dL_fails_302 : decode cL_fails 302 = .ok (.ireturn, 1) := by decide +kernel
theorem dL_diverts_0 : decode cL_diverts 0 = .ok (.aload_n 0, 1) := by decide +kernel
theorem dL_diverts_1 : decode cL_diverts 1 = .ok (.iload_n 1, 1) := by decide +kernel
theorem dL_diverts_2 : decode cL_diverts 2 = .ok (.iconst 4, 1) := by decide +kernel
theorem dL_diverts_3 : decode cL_diverts 3 = .ok (.invokevirtual 19, 3) := by decide +kernel
theorem dL_diverts_6 : decode cL_diverts 6 = .ok (.aload_n 0, 1) := by decide +kernel
theorem dL_diverts_7 : decode cL_diverts 7 = .ok (.iload_n 1, 1) := by decide +kernel
theorem dL_diverts_8 : decode cL_diverts 8 = .ok (.iconst 5, 1) := by decide +kernel
theorem dL_diverts_9 : decode cL_diverts 9 = .ok (.invokevirtual 19, 3) := by decide +kernel
theorem dL_diverts_12 : decode cL_diverts 12 = .ok (.iadd, 1) := by decide +kernel
theorem dL_diverts_13 : decode cL_diverts 13 = .ok (.istore_n 3, 1) := by decide +kernel
theorem dL_diverts_14 : decode cL_diverts 14 = .ok (.aload_n 0, 1) := by decide +kernel
theorem dL_diverts_15 : decode cL_diverts 15 = .ok (.iload_n 2, 1) := by decide +kernel
theorem dL_diverts_16 : decode cL_diverts 16 = .ok (.iconst 4, 1) := by decide +kernel
theorem dL_diverts_17 : decode cL_diverts 17 = .ok (.invokevirtual 19, 3) := by decide +kernel
theorem dL_diverts_20 : decode cL_diverts 20 = .ok (.aload_n 0, 1) := by decide +kernel
theorem dL_diverts_21 : decode cL_diverts 21 = .ok (.iload_n 2, 1) := by decide +kernel
theorem dL_diverts_22 : decode cL_diverts 22 = .ok (.iconst 5, 1) := by decide +kernel
theorem dL_diverts_23 : decode cL_diverts 23 = .ok (.invokevirtual 19, 3) := by decide +kernel
theorem dL_diverts_26 : decode cL_diverts 26 = .ok (.iadd, 1) := by decide +kernel
theorem dL_diverts_27 : decode cL_diverts 27 = .ok (.istore 4, 2) := by decide +kernel
theorem dL_diverts_29 : decode cL_diverts 29 = .ok (.aload_n 0, 1) := by decide +kernel
theorem dL_diverts_30 : decode cL_diverts 30 = .ok (.iload_n 1, 1) := by decide +kernel
theorem dL_diverts_31 : decode cL_diverts 31 = .ok (.iconst 0, 1) := by decide +kernel
theorem dL_diverts_32 : decode cL_diverts 32 = .ok (.iconst 0, 1) := by decide +kernel
theorem dL_diverts_33 : decode cL_diverts 33 = .ok (.invokevirtual 22, 3) := by decide +kernel
theorem dL_diverts_36 : decode cL_diverts 36 = .ok (.istore 5, 2) := by decide +kernel
theorem dL_diverts_38 : decode cL_diverts 38 = .ok (.iload 5, 2) := by decide +kernel
theorem dL_diverts_40 : decode cL_diverts 40 = .ok (.ifCond .ge 7, 3) := by decide +kernel
theorem dL_diverts_43 : decode cL_diverts 43 = .ok (.iconst 0, 1) := by decide +kernel
theorem dL_diverts_44 : decode cL_diverts 44 = .ok (.goto 10, 3) := by decide +kernel
theorem dL_diverts_47 : decode cL_diverts 47 = .ok (.aload_n 0, 1) := by decide +kernel
theorem dL_diverts_48 : decode cL_diverts 48 = .ok (.iload 5, 2) := by decide +kernel
theorem dL_diverts_50 : decode cL_diverts 50 = .ok (.iconst 5, 1) := by decide +kernel
theorem dL_diverts_51 : decode cL_diverts 51 = .ok (.invokevirtual 15, 3) := by decide +kernel
theorem dL_diverts_54 : decode cL_diverts 54 = .ok (.istore 6, 2) := by decide +kernel
theorem dL_diverts_56 : decode cL_diverts 56 = .ok (.aload_n 0, 1) := by decide +kernel
theorem dL_diverts_57 : decode cL_diverts 57 = .ok (.iload_n 2, 1) := by decide +kernel
theorem dL_diverts_58 : decode cL_diverts 58 = .ok (.iconst 4, 1) := by decide +kernel
theorem dL_diverts_59 : decode cL_diverts 59 = .ok (.invokevirtual 19, 3) := by decide +kernel
theorem dL_diverts_62 : decode cL_diverts 62 = .ok (.istore 7, 2) := by decide +kernel
theorem dL_diverts_64 : decode cL_diverts 64 = .ok (.aload_n 0, 1) := by decide +kernel
theorem dL_diverts_65 : decode cL_diverts 65 = .ok (.iload_n 1, 1) := by decide +kernel
theorem dL_diverts_66 : decode cL_diverts 66 = .ok (.iload_n 2, 1) := by decide +kernel
theorem dL_diverts_67 : decode cL_diverts 67 = .ok (.invokevirtual 60, 3) := by decide +kernel
theorem dL_diverts_70 : decode cL_diverts 70 = .ok (.istore 8, 2) := by decide +kernel
theorem dL_diverts_72 : decode cL_diverts 72 = .ok (.iload_n 1, 1) := by decide +kernel
theorem dL_diverts_73 : decode cL_diverts 73 = .ok (.iload_n 2, 1) := by decide +kernel
theorem dL_diverts_74 : decode cL_diverts 74 = .ok (.if_icmp .ne 16, 3) := by decide +kernel
theorem dL_diverts_77 : decode cL_diverts 77 = .ok (.iload 8, 2) := by decide +kernel
theorem dL_diverts_79 : decode cL_diverts 79 = .ok (.bipush (-2), 2) := by decide +kernel
theorem dL_diverts_81 : decode cL_diverts 81 = .ok (.if_icmp .ne 7, 3) := by decide +kernel
theorem dL_diverts_84 : decode cL_diverts 84 = .ok (.iconst 1, 1) := by decide +kernel
theorem dL_diverts_85 : decode cL_diverts 85 = .ok (.goto 4, 3) := by decide +kernel
theorem dL_diverts_88 : decode cL_diverts 88 = .ok (.iconst 0, 1) := by decide +kernel
theorem dL_diverts_89 : decode cL_diverts 89 = .ok (.ireturn, 1) := by decide +kernel
theorem dL_diverts_90 : decode cL_diverts 90 = .ok (.iload_n 3, 1) := by decide +kernel
theorem dL_diverts_91 : decode cL_diverts 91 = .ok (.ifCond .ne 16, 3) := by decide +kernel
theorem dL_diverts_94 : decode cL_diverts 94 = .ok (.iload 8, 2) := by decide +kernel
theorem dL_diverts_96 : decode cL_diverts 96 = .ok (.bipush (-5), 2) := by decide +kernel
theorem dL_diverts_98 : decode cL_diverts 98 = .ok (.if_icmp .ne 7, 3) := by decide +kernel
theorem dL_diverts_101 : decode cL_diverts 101 = .ok (.iconst 1, 1) := by decide +kernel
theorem dL_diverts_102 : decode cL_diverts 102 = .ok (.goto 4, 3) := by decide +kernel
theorem dL_diverts_105 : decode cL_diverts 105 = .ok (.iconst 0, 1) := by decide +kernel
theorem dL_diverts_106 : decode cL_diverts 106 = .ok (.ireturn, 1) := by decide +kernel
theorem dL_diverts_107 : decode cL_diverts 107 = .ok (.iload 8, 2) := by decide +kernel
theorem dL_diverts_109 : decode cL_diverts 109 = .ok (.iload_n 3, 1) := by decide +kernel
theorem dL_diverts_110 : decode cL_diverts 110 = .ok (.if_icmp .ne 73, 3) := by decide +kernel
theorem dL_diverts_113 : decode cL_diverts 113 = .ok (.aload_n 0, 1) := by decide +kernel
theorem dL_diverts_114 : decode cL_diverts 114 = .ok (.iload_n 1, 1) := by decide +kernel
theorem dL_diverts_115 : decode cL_diverts 115 = .ok (.iconst 4, 1) := by decide +kernel
theorem dL_diverts_116 : decode cL_diverts 116 = .ok (.invokevirtual 19, 3) := by decide +kernel
theorem dL_diverts_119 : decode cL_diverts 119 = .ok (.aload_n 0, 1) := by decide +kernel
theorem dL_diverts_120 : decode cL_diverts 120 = .ok (.iload_n 1, 1) := by decide +kernel
theorem dL_diverts_121 : decode cL_diverts 121 = .ok (.iconst 5, 1) := by decide +kernel
theorem dL_diverts_122 : decode cL_diverts 122 = .ok (.invokevirtual 19, 3) := by decide +kernel
theorem dL_diverts_125 : decode cL_diverts 125 = .ok (.iadd, 1) := by decide +kernel
theorem dL_diverts_126 : decode cL_diverts 126 = .ok (.ifCond .ne 57, 3) := by decide +kernel
theorem dL_diverts_129 : decode cL_diverts 129 = .ok (.aload_n 0, 1) := by decide +kernel
theorem dL_diverts_130 : decode cL_diverts 130 = .ok (.iload_n 2, 1) := by decide +kernel
theorem dL_diverts_131 : decode cL_diverts 131 = .ok (.iconst 4, 1) := by decide +kernel
theorem dL_diverts_132 : decode cL_diverts 132 = .ok (.invokevirtual 19, 3) := by decide +kernel
theorem dL_diverts_135 : decode cL_diverts 135 = .ok (.aload_n 0, 1) := by decide +kernel
theorem dL_diverts_136 : decode cL_diverts 136 = .ok (.iload_n 2, 1) := by decide +kernel
theorem dL_diverts_137 : decode cL_diverts 137 = .ok (.iconst 5, 1) := by decide +kernel
theorem dL_diverts_138 : decode cL_diverts 138 = .ok (.invokevirtual 19, 3) := by decide +kernel
theorem dL_diverts_141 : decode cL_diverts 141 = .ok (.iadd, 1) := by decide +kernel
theorem dL_diverts_142 : decode cL_diverts 142 = .ok (.iload 4, 2) := by decide +kernel
theorem dL_diverts_144 : decode cL_diverts 144 = .ok (.iload_n 3, 1) := by decide +kernel
theorem dL_diverts_145 : decode cL_diverts 145 = .ok (.iadd, 1) := by decide +kernel
theorem dL_diverts_146 : decode cL_diverts 146 = .ok (.if_icmp .ne 37, 3) := by decide +kernel
theorem dL_diverts_149 : decode cL_diverts 149 = .ok (.iload 5, 2) := by decide +kernel
theorem dL_diverts_151 : decode cL_diverts 151 = .ok (.ifCond .lt 28, 3) := by decide +kernel
theorem dL_diverts_154 : decode cL_diverts 154 = .ok (.aload_n 0, 1) := by decide +kernel
theorem dL_diverts_155 : decode cL_diverts 155 = .ok (.iload_n 2, 1) := by decide +kernel
theorem dL_diverts_156 : decode cL_diverts 156 = .ok (.iconst 0, 1) := by decide +kernel
theorem dL_diverts_157 : decode cL_diverts 157 = .ok (.iload 7, 2) := by decide +kernel
theorem dL_diverts_159 : decode cL_diverts 159 = .ok (.invokevirtual 22, 3) := by decide +kernel
theorem dL_diverts_162 : decode cL_diverts 162 = .ok (.iload 5, 2) := by decide +kernel
theorem dL_diverts_164 : decode cL_diverts 164 = .ok (.if_icmp .ne 19, 3) := by decide +kernel
theorem dL_diverts_167 : decode cL_diverts 167 = .ok (.aload_n 0, 1) := by decide +kernel
theorem dL_diverts_168 : decode cL_diverts 168 = .ok (.iload 5, 2) := by decide +kernel
theorem dL_diverts_170 : decode cL_diverts 170 = .ok (.iconst 5, 1) := by decide +kernel
theorem dL_diverts_171 : decode cL_diverts 171 = .ok (.invokevirtual 15, 3) := by decide +kernel
theorem dL_diverts_174 : decode cL_diverts 174 = .ok (.iload 6, 2) := by decide +kernel
theorem dL_diverts_176 : decode cL_diverts 176 = .ok (.if_icmp .ne 7, 3) := by decide +kernel
theorem dL_diverts_179 : decode cL_diverts 179 = .ok (.iconst 1, 1) := by decide +kernel
theorem dL_diverts_180 : decode cL_diverts 180 = .ok (.goto 4, 3) := by decide +kernel
theorem dL_diverts_183 : decode cL_diverts 183 = .ok (.iconst 0, 1) := by decide +kernel
theorem dL_diverts_184 : decode cL_diverts 184 = .ok (.ireturn, 1) := by decide +kernel
theorem dL_digits_0 : decode cL_digits 0 = .ok (.iconst 0, 1) := by decide +kernel
theorem dL_digits_1 : decode cL_digits 1 = .ok (.istore_n 2, 1) := by decide +kernel
theorem dL_digits_2 : decode cL_digits 2 = .ok (.iload_n 1, 1) := by decide +kernel
theorem dL_digits_3 : decode cL_digits 3 = .ok (.bipush 9, 2) := by decide +kernel
theorem dL_digits_5 : decode cL_digits 5 = .ok (.if_icmp .le 16, 3) := by decide +kernel
theorem dL_digits_8 : decode cL_digits 8 = .ok (.aload_n 0, 1) := by decide +kernel
theorem dL_digits_9 : decode cL_digits 9 = .ok (.bipush 48, 2) := by decide +kernel
theorem dL_digits_11 : decode cL_digits 11 = .ok (.iload_n 1, 1) := by decide +kernel
theorem dL_digits_12 : decode cL_digits 12 = .ok (.bipush 10, 2) := by decide +kernel
theorem dL_digits_14 : decode cL_digits 14 = .ok (.idiv, 1) := by decide +kernel
theorem dL_digits_15 : decode cL_digits 15 = .ok (.iadd, 1) := by decide +kernel
theorem dL_digits_16 : decode cL_digits 16 = .ok (.i2c, 1) := by decide +kernel
theorem dL_digits_17 : decode cL_digits 17 = .ok (.invokevirtual 63, 3) := by decide +kernel
theorem dL_digits_20 : decode cL_digits 20 = .ok (.istore_n 2, 1) := by decide +kernel
theorem dL_digits_21 : decode cL_digits 21 = .ok (.aload_n 0, 1) := by decide +kernel
theorem dL_digits_22 : decode cL_digits 22 = .ok (.bipush 48, 2) := by decide +kernel
theorem dL_digits_24 : decode cL_digits 24 = .ok (.iload_n 1, 1) := by decide +kernel
theorem dL_digits_25 : decode cL_digits 25 = .ok (.bipush 10, 2) := by decide +kernel
theorem dL_digits_27 : decode cL_digits 27 = .ok (.irem, 1) := by decide +kernel
theorem dL_digits_28 : decode cL_digits 28 = .ok (.iadd, 1) := by decide +kernel
theorem dL_digits_29 : decode cL_digits 29 = .ok (.i2c, 1) := by decide +kernel
theorem dL_digits_30 : decode cL_digits 30 = .ok (.invokevirtual 63, 3) := by decide +kernel
theorem dL_digits_33 : decode cL_digits 33 = .ok (.istore_n 2, 1) := by decide +kernel
theorem dL_digits_34 : decode cL_digits 34 = .ok (.iload_n 2, 1) := by decide +kernel
theorem dL_digits_35 : decode cL_digits 35 = .ok (.ireturn, 1) := by decide +kernel
theorem dL_orders_0 : decode cL_orders 0 = .ok (.aload_n 0, 1) := by decide +kernel
theorem dL_orders_1 : decode cL_orders 1 = .ok (.iconst 2, 1) := by decide +kernel
theorem dL_orders_2 : decode cL_orders 2 = .ok (.invokevirtual 9, 3) := by decide +kernel
theorem dL_orders_5 : decode cL_orders 5 = .ok (.istore 5, 2) := by decide +kernel
theorem dL_orders_7 : decode cL_orders 7 = .ok (.aload_n 0, 1) := by decide +kernel
theorem dL_orders_8 : decode cL_orders 8 = .ok (.iconst 0, 1) := by decide +kernel
theorem dL_orders_9 : decode cL_orders 9 = .ok (.invokevirtual 9, 3) := by decide +kernel
theorem dL_orders_12 : decode cL_orders 12 = .ok (.istore 6, 2) := by decide +kernel
theorem dL_orders_14 : decode cL_orders 14 = .ok (.aload_n 0, 1) := by decide +kernel
theorem dL_orders_15 : decode cL_orders 15 = .ok (.invokevirtual 67, 3) := by decide +kernel
theorem dL_orders_18 : decode cL_orders 18 = .ok (.pop, 1) := by decide +kernel
theorem dL_orders_19 : decode cL_orders 19 = .ok (.aload_n 0, 1) := by decide +kernel
theorem dL_orders_20 : decode cL_orders 20 = .ok (.invokevirtual 70, 3) := by decide +kernel
theorem dL_orders_23 : decode cL_orders 23 = .ok (.bipush (-100), 2) := by decide +kernel
theorem dL_orders_25 : decode cL_orders 25 = .ok (.if_icmp .eq 5, 3) := by decide +kernel
theorem dL_orders_28 : decode cL_orders 28 = .ok (.iconst 0, 1) := by decide +kernel
theorem dL_orders_29 : decode cL_orders 29 = .ok (.ireturn, 1) := by decide +kernel
theorem dL_orders_30 : decode cL_orders 30 = .ok (.aload_n 0, 1) := by decide +kernel
theorem dL_orders_31 : decode cL_orders 31 = .ok (.bipush 105, 2) := by decide +kernel
theorem dL_orders_33 : decode cL_orders 33 = .ok (.invokevirtual 63, 3) := by decide +kernel
theorem dL_orders_36 : decode cL_orders 36 = .ok (.pop, 1) := by decide +kernel
theorem dL_orders_37 : decode cL_orders 37 = .ok (.aload_n 0, 1) := by decide +kernel
theorem dL_orders_38 : decode cL_orders 38 = .ok (.invokevirtual 70, 3) := by decide +kernel
theorem dL_orders_41 : decode cL_orders 41 = .ok (.bipush (-101), 2) := by decide +kernel
theorem dL_orders_43 : decode cL_orders 43 = .ok (.if_icmp .ne 7, 3) := by decide +kernel
theorem dL_orders_46 : decode cL_orders 46 = .ok (.iconst 1, 1) := by decide +kernel
theorem dL_orders_47 : decode cL_orders 47 = .ok (.goto 4, 3) := by decide +kernel
theorem dL_orders_50 : decode cL_orders 50 = .ok (.iconst 0, 1) := by decide +kernel
theorem dL_orders_51 : decode cL_orders 51 = .ok (.istore 7, 2) := by decide +kernel
theorem dL_orders_53 : decode cL_orders 53 = .ok (.aload_n 0, 1) := by decide +kernel
theorem dL_orders_54 : decode cL_orders 54 = .ok (.bipush 48, 2) := by decide +kernel
theorem dL_orders_56 : decode cL_orders 56 = .ok (.iload_n 1, 1) := by decide +kernel
theorem dL_orders_57 : decode cL_orders 57 = .ok (.iadd, 1) := by decide +kernel
theorem dL_orders_58 : decode cL_orders 58 = .ok (.i2c, 1) := by decide +kernel
theorem dL_orders_59 : decode cL_orders 59 = .ok (.invokevirtual 63, 3) := by decide +kernel
theorem dL_orders_62 : decode cL_orders 62 = .ok (.pop, 1) := by decide +kernel
theorem dL_orders_63 : decode cL_orders 63 = .ok (.aload_n 0, 1) := by decide +kernel
theorem dL_orders_64 : decode cL_orders 64 = .ok (.bipush 112, 2) := by decide +kernel
theorem dL_orders_66 : decode cL_orders 66 = .ok (.invokevirtual 63, 3) := by decide +kernel
theorem dL_orders_69 : decode cL_orders 69 = .ok (.istore 8, 2) := by decide +kernel
theorem dL_orders_71 : decode cL_orders 71 = .ok (.iload 7, 2) := by decide +kernel
theorem dL_orders_73 : decode cL_orders 73 = .ok (.ifCond .eq 19, 3) := by decide +kernel
theorem dL_orders_76 : decode cL_orders 76 = .ok (.aload_n 0, 1) := by decide +kernel
theorem dL_orders_77 : decode cL_orders 77 = .ok (.invokevirtual 70, 3) := by decide +kernel
theorem dL_orders_80 : decode cL_orders 80 = .ok (.bipush (-100), 2) := by decide +kernel
theorem dL_orders_82 : decode cL_orders 82 = .ok (.iload 8, 2) := by decide +kernel
theorem dL_orders_84 : decode cL_orders 84 = .ok (.isub, 1) := by decide +kernel
theorem dL_orders_85 : decode cL_orders 85 = .ok (.if_icmp .ne 7, 3) := by decide +kernel
theorem dL_orders_88 : decode cL_orders 88 = .ok (.iconst 1, 1) := by decide +kernel
theorem dL_orders_89 : decode cL_orders 89 = .ok (.goto 4, 3) := by decide +kernel
theorem dL_orders_92 : decode cL_orders 92 = .ok (.iconst 0, 1) := by decide +kernel
theorem dL_orders_93 : decode cL_orders 93 = .ok (.istore 7, 2) := by decide +kernel
theorem dL_orders_95 : decode cL_orders 95 = .ok (.aload_n 0, 1) := by decide +kernel
theorem dL_orders_96 : decode cL_orders 96 = .ok (.iload_n 2, 1) := by decide +kernel
