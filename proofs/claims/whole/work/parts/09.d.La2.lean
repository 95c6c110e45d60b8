theorem d_La_law_256 : decode code 256 = .ok (.if_icmp .eq 5, 3) := by decide +kernel
theorem d_La_law_259 : decode code 259 = .ok (.iconst 0, 1) := by decide +kernel
theorem d_La_law_260 : decode code 260 = .ok (.ireturn, 1) := by decide +kernel
theorem d_La_law_261 : decode code 261 = .ok (.iload 5, 2) := by decide +kernel
theorem d_La_law_263 : decode code 263 = .ok (.ifCond .ne 14, 3) := by decide +kernel
theorem d_La_law_266 : decode code 266 = .ok (.aload_n 3, 1) := by decide +kernel
theorem d_La_law_267 : decode code 267 = .ok (.iconst 0, 1) := by decide +kernel
theorem d_La_law_268 : decode code 268 = .ok (.laload, 1) := by decide +kernel
theorem d_La_law_269 : decode code 269 = .ok (.lload 6, 2) := by decide +kernel
theorem d_La_law_271 : decode code 271 = .ok (.lcmp, 1) := by decide +kernel
theorem d_La_law_272 : decode code 272 = .ok (.ifCond .eq 5, 3) := by decide +kernel
theorem d_La_law_275 : decode code 275 = .ok (.iconst 0, 1) := by decide +kernel
theorem d_La_law_276 : decode code 276 = .ok (.ireturn, 1) := by decide +kernel
theorem d_La_law_277 : decode code 277 = .ok (.goto 531, 3) := by decide +kernel
theorem d_La_law_280 : decode code 280 = .ok (.aload_n 1, 1) := by decide +kernel
theorem d_La_law_281 : decode code 281 = .ok (.aload_n 0, 1) := by decide +kernel
theorem d_La_law_282 : decode code 282 = .ok (.iload 4, 2) := by decide +kernel
theorem d_La_law_284 : decode code 284 = .ok (.iconst 1, 1) := by decide +kernel
theorem d_La_law_285 : decode code 285 = .ok (.iadd, 1) := by decide +kernel
theorem d_La_law_286 : decode code 286 = .ok (.iaload, 1) := by decide +kernel
theorem d_La_law_287 : decode code 287 = .ok (.aload_n 0, 1) := by decide +kernel
theorem d_La_law_288 : decode code 288 = .ok (.iload 4, 2) := by decide +kernel
theorem d_La_law_290 : decode code 290 = .ok (.iconst 2, 1) := by decide +kernel
theorem d_La_law_291 : decode code 291 = .ok (.iadd, 1) := by decide +kernel
theorem d_La_law_292 : decode code 292 = .ok (.iaload, 1) := by decide +kernel
theorem d_La_law_293 : decode code 293 = .ok (.invokevirtual 42, 3) := by decide +kernel
theorem d_La_law_296 : decode code 296 = .ok (.aload_n 2, 1) := by decide +kernel
theorem d_La_law_297 : decode code 297 = .ok (.aload_n 0, 1) := by decide +kernel
theorem d_La_law_298 : decode code 298 = .ok (.iload 4, 2) := by decide +kernel
theorem d_La_law_300 : decode code 300 = .ok (.iconst 1, 1) := by decide +kernel
theorem d_La_law_301 : decode code 301 = .ok (.iadd, 1) := by decide +kernel
theorem d_La_law_302 : decode code 302 = .ok (.iaload, 1) := by decide +kernel
theorem d_La_law_303 : decode code 303 = .ok (.aload_n 0, 1) := by decide +kernel
theorem d_La_law_304 : decode code 304 = .ok (.iload 4, 2) := by decide +kernel
theorem d_La_law_306 : decode code 306 = .ok (.iconst 2, 1) := by decide +kernel
theorem d_La_law_307 : decode code 307 = .ok (.iadd, 1) := by decide +kernel
theorem d_La_law_308 : decode code 308 = .ok (.iaload, 1) := by decide +kernel
theorem d_La_law_309 : decode code 309 = .ok (.invokevirtual 46, 3) := by decide +kernel
theorem d_La_law_312 : decode code 312 = .ok (.if_icmp .eq 496, 3) := by decide +kernel
theorem d_La_law_315 : decode code 315 = .ok (.iconst 0, 1) := by decide +kernel
theorem d_La_law_316 : decode code 316 = .ok (.ireturn, 1) := by decide +kernel
theorem d_La_law_317 : decode code 317 = .ok (.aload_n 1, 1) := by decide +kernel
theorem d_La_law_318 : decode code 318 = .ok (.aload_n 0, 1) := by decide +kernel
theorem d_La_law_319 : decode code 319 = .ok (.iload 4, 2) := by decide +kernel
theorem d_La_law_321 : decode code 321 = .ok (.iconst 1, 1) := by decide +kernel
theorem d_La_law_322 : decode code 322 = .ok (.iadd, 1) := by decide +kernel
theorem d_La_law_323 : decode code 323 = .ok (.iaload, 1) := by decide +kernel
theorem d_La_law_324 : decode code 324 = .ok (.invokevirtual 47, 3) := by decide +kernel
theorem d_La_law_327 : decode code 327 = .ok (.aload_n 2, 1) := by decide +kernel
theorem d_La_law_328 : decode code 328 = .ok (.aload_n 0, 1) := by decide +kernel
theorem d_La_law_329 : decode code 329 = .ok (.iload 4, 2) := by decide +kernel
theorem d_La_law_331 : decode code 331 = .ok (.iconst 1, 1) := by decide +kernel
theorem d_La_law_332 : decode code 332 = .ok (.iadd, 1) := by decide +kernel
theorem d_La_law_333 : decode code 333 = .ok (.iaload, 1) := by decide +kernel
theorem d_La_law_334 : decode code 334 = .ok (.invokevirtual 51, 3) := by decide +kernel
theorem d_La_law_337 : decode code 337 = .ok (.if_icmp .eq 471, 3) := by decide +kernel
theorem d_La_law_340 : decode code 340 = .ok (.iconst 0, 1) := by decide +kernel
theorem d_La_law_341 : decode code 341 = .ok (.ireturn, 1) := by decide +kernel
theorem d_La_law_342 : decode code 342 = .ok (.aload_n 1, 1) := by decide +kernel
theorem d_La_law_343 : decode code 343 = .ok (.aload_n 0, 1) := by decide +kernel
theorem d_La_law_344 : decode code 344 = .ok (.iload 4, 2) := by decide +kernel
theorem d_La_law_346 : decode code 346 = .ok (.iconst 1, 1) := by decide +kernel
theorem d_La_law_347 : decode code 347 = .ok (.iadd, 1) := by decide +kernel
theorem d_La_law_348 : decode code 348 = .ok (.iaload, 1) := by decide +kernel
theorem d_La_law_349 : decode code 349 = .ok (.aload_n 0, 1) := by decide +kernel
theorem d_La_law_350 : decode code 350 = .ok (.iload 4, 2) := by decide +kernel
theorem d_La_law_352 : decode code 352 = .ok (.iconst 2, 1) := by decide +kernel
theorem d_La_law_353 : decode code 353 = .ok (.iadd, 1) := by decide +kernel
theorem d_La_law_354 : decode code 354 = .ok (.iaload, 1) := by decide +kernel
theorem d_La_law_355 : decode code 355 = .ok (.aload_n 0, 1) := by decide +kernel
theorem d_La_law_356 : decode code 356 = .ok (.iload 4, 2) := by decide +kernel
theorem d_La_law_358 : decode code 358 = .ok (.iconst 3, 1) := by decide +kernel
theorem d_La_law_359 : decode code 359 = .ok (.iadd, 1) := by decide +kernel
theorem d_La_law_360 : decode code 360 = .ok (.iaload, 1) := by decide +kernel
theorem d_La_law_361 : decode code 361 = .ok (.invokevirtual 52, 3) := by decide +kernel
theorem d_La_law_364 : decode code 364 = .ok (.aload_n 2, 1) := by decide +kernel
theorem d_La_law_365 : decode code 365 = .ok (.aload_n 0, 1) := by decide +kernel
theorem d_La_law_366 : decode code 366 = .ok (.iload 4, 2) := by decide +kernel
theorem d_La_law_368 : decode code 368 = .ok (.iconst 1, 1) := by decide +kernel
theorem d_La_law_369 : decode code 369 = .ok (.iadd, 1) := by decide +kernel
theorem d_La_law_370 : decode code 370 = .ok (.iaload, 1) := by decide +kernel
theorem d_La_law_371 : decode code 371 = .ok (.aload_n 0, 1) := by decide +kernel
theorem d_La_law_372 : decode code 372 = .ok (.iload 4, 2) := by decide +kernel
theorem d_La_law_374 : decode code 374 = .ok (.iconst 2, 1) := by decide +kernel
theorem d_La_law_375 : decode code 375 = .ok (.iadd, 1) := by decide +kernel
theorem d_La_law_376 : decode code 376 = .ok (.iaload, 1) := by decide +kernel
theorem d_La_law_377 : decode code 377 = .ok (.aload_n 0, 1) := by decide +kernel
theorem d_La_law_378 : decode code 378 = .ok (.iload 4, 2) := by decide +kernel
theorem d_La_law_380 : decode code 380 = .ok (.iconst 3, 1) := by decide +kernel
theorem d_La_law_381 : decode code 381 = .ok (.iadd, 1) := by decide +kernel
theorem d_La_law_382 : decode code 382 = .ok (.iaload, 1) := by decide +kernel
theorem d_La_law_383 : decode code 383 = .ok (.invokevirtual 56, 3) := by decide +kernel
theorem d_La_law_386 : decode code 386 = .ok (.if_icmp .eq 422, 3) := by decide +kernel
theorem d_La_law_389 : decode code 389 = .ok (.iconst 0, 1) := by decide +kernel
theorem d_La_law_390 : decode code 390 = .ok (.ireturn, 1) := by decide +kernel
theorem d_La_law_391 : decode code 391 = .ok (.aload_n 1, 1) := by decide +kernel
theorem d_La_law_392 : decode code 392 = .ok (.aload_n 0, 1) := by decide +kernel
theorem d_La_law_393 : decode code 393 = .ok (.iload 4, 2) := by decide +kernel
theorem d_La_law_395 : decode code 395 = .ok (.iconst 1, 1) := by decide +kernel
theorem d_La_law_396 : decode code 396 = .ok (.iadd, 1) := by decide +kernel
theorem d_La_law_397 : decode code 397 = .ok (.iaload, 1) := by decide +kernel
theorem d_La_law_398 : decode code 398 = .ok (.invokevirtual 57, 3) := by decide +kernel
theorem d_La_law_401 : decode code 401 = .ok (.aload_n 2, 1) := by decide +kernel
theorem d_La_law_402 : decode code 402 = .ok (.aload_n 0, 1) := by decide +kernel
theorem d_La_law_403 : decode code 403 = .ok (.iload 4, 2) := by decide +kernel
theorem d_La_law_405 : decode code 405 = .ok (.iconst 1, 1) := by decide +kernel
theorem d_La_law_406 : decode code 406 = .ok (.iadd, 1) := by decide +kernel
theorem d_La_law_407 : decode code 407 = .ok (.iaload, 1) := by decide +kernel
theorem d_La_law_408 : decode code 408 = .ok (.invokevirtual 60, 3) := by decide +kernel
theorem d_La_law_411 : decode code 411 = .ok (.if_icmp .eq 397, 3) := by decide +kernel
theorem d_La_law_414 : decode code 414 = .ok (.iconst 0, 1) := by decide +kernel
theorem d_La_law_415 : decode code 415 = .ok (.ireturn, 1) := by decide +kernel
theorem d_La_law_416 : decode code 416 = .ok (.aload_n 1, 1) := by decide +kernel
theorem d_La_law_417 : decode code 417 = .ok (.aload_n 0, 1) := by decide +kernel
theorem d_La_law_418 : decode code 418 = .ok (.iload 4, 2) := by decide +kernel
theorem d_La_law_420 : decode code 420 = .ok (.iconst 1, 1) := by decide +kernel
theorem d_La_law_421 : decode code 421 = .ok (.iadd, 1) := by decide +kernel
theorem d_La_law_422 : decode code 422 = .ok (.iaload, 1) := by decide +kernel
theorem d_La_law_423 : decode code 423 = .ok (.invokevirtual 61, 3) := by decide +kernel
theorem d_La_law_426 : decode code 426 = .ok (.aload_n 2, 1) := by decide +kernel
theorem d_La_law_427 : decode code 427 = .ok (.aload_n 0, 1) := by decide +kernel
theorem d_La_law_428 : decode code 428 = .ok (.iload 4, 2) := by decide +kernel
theorem d_La_law_430 : decode code 430 = .ok (.iconst 1, 1) := by decide +kernel
theorem d_La_law_431 : decode code 431 = .ok (.iadd, 1) := by decide +kernel
theorem d_La_law_432 : decode code 432 = .ok (.iaload, 1) := by decide +kernel
theorem d_La_law_433 : decode code 433 = .ok (.invokevirtual 64, 3) := by decide +kernel
theorem d_La_law_436 : decode code 436 = .ok (.if_icmp .eq 372, 3) := by decide +kernel
theorem d_La_law_439 : decode code 439 = .ok (.iconst 0, 1) := by decide +kernel
theorem d_La_law_440 : decode code 440 = .ok (.ireturn, 1) := by decide +kernel
theorem d_La_law_441 : decode code 441 = .ok (.aload_n 1, 1) := by decide +kernel
theorem d_La_law_442 : decode code 442 = .ok (.aload_n 0, 1) := by decide +kernel
theorem d_La_law_443 : decode code 443 = .ok (.iload 4, 2) := by decide +kernel
