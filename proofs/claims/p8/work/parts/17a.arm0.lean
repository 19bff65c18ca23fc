theorem lg_cmp_rf (x : Int64) : lg_cmp x x = 0 := by
  unfold lg_cmp
  rw [if_neg (show ¬ x > x from Int64.lt_irrefl), if_pos rfl]
theorem gl_in {ws : List Cond} (as : List (Nat × Nat)) (h : t_chk ws as = true) (g : ws.all goodWord = true) : ∀ w ∈ ws, w ∈ lw_tbl ∧ goodWord w = true := fun w hw => ⟨t_of ws as h w hw, List.all_eq_true.mp g w hw⟩
def vnz (x : Int32) : Int32 := if x = 0 then 0 else 1
theorem vnz_r (x : Int32) : 0 ≤ (vnz x).toInt ∧ (vnz x).toInt ≤ 1 := by
  unfold vnz
  split <;> decide
theorem dL_law_316 : decode cL_law 316 = .ok (.aload_n 1, 1) := de_43 (lb_19 (j := 12) (b := 43) rfl)
theorem dL_law_317 : decode cL_law 317 = .ok (.aload_n 0, 1) := de_42 (lb_19 (j := 13) (b := 42) rfl)
theorem dL_law_318 : decode cL_law 318 = .ok (.iload 5, 2) := de_21 (lb_19 (j := 14) (b := 21) rfl) (lb_19 (j := 15) (b := 5) rfl) rfl
theorem dL_law_320 : decode cL_law 320 = .ok (.iconst 1, 1) := de_4 (lb_20 (j := 0) (b := 4) rfl)
theorem dL_law_321 : decode cL_law 321 = .ok (.iadd, 1) := de_96 (lb_20 (j := 1) (b := 96) rfl)
theorem dL_law_322 : decode cL_law 322 = .ok (.iaload, 1) := de_46 (lb_20 (j := 2) (b := 46) rfl)
theorem dL_law_323 : decode cL_law 323 = .ok (.aload_n 0, 1) := de_42 (lb_20 (j := 3) (b := 42) rfl)
theorem dL_law_324 : decode cL_law 324 = .ok (.iload 5, 2) := de_21 (lb_20 (j := 4) (b := 21) rfl) (lb_20 (j := 5) (b := 5) rfl) rfl
theorem dL_law_326 : decode cL_law 326 = .ok (.iconst 2, 1) := de_5 (lb_20 (j := 6) (b := 5) rfl)
theorem dL_law_327 : decode cL_law 327 = .ok (.iadd, 1) := de_96 (lb_20 (j := 7) (b := 96) rfl)
theorem dL_law_328 : decode cL_law 328 = .ok (.iaload, 1) := de_46 (lb_20 (j := 8) (b := 46) rfl)
theorem dL_law_329 : decode cL_law 329 = .ok (.aload_n 0, 1) := de_42 (lb_20 (j := 9) (b := 42) rfl)
theorem dL_law_330 : decode cL_law 330 = .ok (.iload 5, 2) := de_21 (lb_20 (j := 10) (b := 21) rfl) (lb_20 (j := 11) (b := 5) rfl) rfl
theorem dL_law_332 : decode cL_law 332 = .ok (.iconst 3, 1) := de_6 (lb_20 (j := 12) (b := 6) rfl)
theorem dL_law_333 : decode cL_law 333 = .ok (.iadd, 1) := de_96 (lb_20 (j := 13) (b := 96) rfl)
theorem dL_law_334 : decode cL_law 334 = .ok (.iaload, 1) := de_46 (lb_20 (j := 14) (b := 46) rfl)
theorem dL_law_335 : decode cL_law 335 = .ok (.aload_n 0, 1) := de_42 (lb_20 (j := 15) (b := 42) rfl)
theorem dL_law_336 : decode cL_law 336 = .ok (.iload 5, 2) := de_21 (lb_21 (j := 0) (b := 21) rfl) (lb_21 (j := 1) (b := 5) rfl) rfl
theorem dL_law_338 : decode cL_law 338 = .ok (.iconst 4, 1) := de_7 (lb_21 (j := 2) (b := 7) rfl)
theorem dL_law_339 : decode cL_law 339 = .ok (.iadd, 1) := de_96 (lb_21 (j := 3) (b := 96) rfl)
theorem dL_law_340 : decode cL_law 340 = .ok (.iaload, 1) := de_46 (lb_21 (j := 4) (b := 46) rfl)
theorem dL_law_341 : decode cL_law 341 = .ok (.aload_n 0, 1) := de_42 (lb_21 (j := 5) (b := 42) rfl)
theorem dL_law_342 : decode cL_law 342 = .ok (.iload 5, 2) := de_21 (lb_21 (j := 6) (b := 21) rfl) (lb_21 (j := 7) (b := 5) rfl) rfl
theorem dL_law_344 : decode cL_law 344 = .ok (.iconst 5, 1) := de_8 (lb_21 (j := 8) (b := 8) rfl)
theorem dL_law_345 : decode cL_law 345 = .ok (.iadd, 1) := de_96 (lb_21 (j := 9) (b := 96) rfl)
theorem dL_law_346 : decode cL_law 346 = .ok (.iaload, 1) := de_46 (lb_21 (j := 10) (b := 46) rfl)
theorem dL_law_347 : decode cL_law 347 = .ok (.invokevirtual 193, 3) := de_182 (lb_21 (j := 11) (b := 182) rfl) (lb_21 (j := 12) (b := 0) rfl) (lb_21 (j := 13) (b := 193) rfl) rfl
theorem dL_law_350 : decode cL_law 350 = .ok (.pop, 1) := de_87 (lb_21 (j := 14) (b := 87) rfl)
theorem dL_law_351 : decode cL_law 351 = .ok (.aload_n 2, 1) := de_44 (lb_21 (j := 15) (b := 44) rfl)
theorem dL_law_352 : decode cL_law 352 = .ok (.aload_n 0, 1) := de_42 (lb_22 (j := 0) (b := 42) rfl)
theorem dL_law_353 : decode cL_law 353 = .ok (.iload 5, 2) := de_21 (lb_22 (j := 1) (b := 21) rfl) (lb_22 (j := 2) (b := 5) rfl) rfl
theorem dL_law_355 : decode cL_law 355 = .ok (.iconst 1, 1) := de_4 (lb_22 (j := 3) (b := 4) rfl)
theorem dL_law_356 : decode cL_law 356 = .ok (.iadd, 1) := de_96 (lb_22 (j := 4) (b := 96) rfl)
theorem dL_law_357 : decode cL_law 357 = .ok (.iaload, 1) := de_46 (lb_22 (j := 5) (b := 46) rfl)
theorem dL_law_358 : decode cL_law 358 = .ok (.aload_n 0, 1) := de_42 (lb_22 (j := 6) (b := 42) rfl)
theorem dL_law_359 : decode cL_law 359 = .ok (.iload 5, 2) := de_21 (lb_22 (j := 7) (b := 21) rfl) (lb_22 (j := 8) (b := 5) rfl) rfl
theorem dL_law_361 : decode cL_law 361 = .ok (.iconst 2, 1) := de_5 (lb_22 (j := 9) (b := 5) rfl)
theorem dL_law_362 : decode cL_law 362 = .ok (.iadd, 1) := de_96 (lb_22 (j := 10) (b := 96) rfl)
theorem dL_law_363 : decode cL_law 363 = .ok (.iaload, 1) := de_46 (lb_22 (j := 11) (b := 46) rfl)
theorem dL_law_364 : decode cL_law 364 = .ok (.aload_n 0, 1) := de_42 (lb_22 (j := 12) (b := 42) rfl)
theorem dL_law_365 : decode cL_law 365 = .ok (.iload 5, 2) := de_21 (lb_22 (j := 13) (b := 21) rfl) (lb_22 (j := 14) (b := 5) rfl) rfl
theorem dL_law_367 : decode cL_law 367 = .ok (.iconst 3, 1) := de_6 (lb_22 (j := 15) (b := 6) rfl)
theorem dL_law_368 : decode cL_law 368 = .ok (.iadd, 1) := de_96 (lb_23 (j := 0) (b := 96) rfl)
theorem dL_law_369 : decode cL_law 369 = .ok (.iaload, 1) := de_46 (lb_23 (j := 1) (b := 46) rfl)
theorem dL_law_370 : decode cL_law 370 = .ok (.aload_n 0, 1) := de_42 (lb_23 (j := 2) (b := 42) rfl)
theorem dL_law_371 : decode cL_law 371 = .ok (.iload 5, 2) := de_21 (lb_23 (j := 3) (b := 21) rfl) (lb_23 (j := 4) (b := 5) rfl) rfl
theorem dL_law_373 : decode cL_law 373 = .ok (.iconst 4, 1) := de_7 (lb_23 (j := 5) (b := 7) rfl)
theorem dL_law_374 : decode cL_law 374 = .ok (.iadd, 1) := de_96 (lb_23 (j := 6) (b := 96) rfl)
theorem dL_law_375 : decode cL_law 375 = .ok (.iaload, 1) := de_46 (lb_23 (j := 7) (b := 46) rfl)
theorem dL_law_376 : decode cL_law 376 = .ok (.aload_n 0, 1) := de_42 (lb_23 (j := 8) (b := 42) rfl)
theorem dL_law_377 : decode cL_law 377 = .ok (.iload 5, 2) := de_21 (lb_23 (j := 9) (b := 21) rfl) (lb_23 (j := 10) (b := 5) rfl) rfl
theorem dL_law_379 : decode cL_law 379 = .ok (.iconst 5, 1) := de_8 (lb_23 (j := 11) (b := 8) rfl)
theorem dL_law_380 : decode cL_law 380 = .ok (.iadd, 1) := de_96 (lb_23 (j := 12) (b := 96) rfl)
theorem dL_law_381 : decode cL_law 381 = .ok (.iaload, 1) := de_46 (lb_23 (j := 13) (b := 46) rfl)
theorem dL_law_382 : decode cL_law 382 = .ok (.invokevirtual 197, 3) := de_182 (lb_23 (j := 14) (b := 182) rfl) (lb_23 (j := 15) (b := 0) rfl) (lb_24 (j := 0) (b := 197) rfl) rfl
theorem dL_law_385 : decode cL_law 385 = .ok (.pop, 1) := de_87 (lb_24 (j := 1) (b := 87) rfl)
theorem dL_law_386 : decode cL_law 386 = .ok (.goto 2053, 3) := de_167 (lb_24 (j := 2) (b := 167) rfl) (lb_24 (j := 3) (b := 8) rfl) (lb_24 (j := 4) (b := 5) rfl) (by decide +kernel)
theorem dL_law_389 : decode cL_law 389 = .ok (.aload_n 1, 1) := de_43 (lb_24 (j := 5) (b := 43) rfl)
theorem dL_law_390 : decode cL_law 390 = .ok (.aload_n 0, 1) := de_42 (lb_24 (j := 6) (b := 42) rfl)
theorem dL_law_391 : decode cL_law 391 = .ok (.iload 5, 2) := de_21 (lb_24 (j := 7) (b := 21) rfl) (lb_24 (j := 8) (b := 5) rfl) rfl
theorem dL_law_393 : decode cL_law 393 = .ok (.iconst 1, 1) := de_4 (lb_24 (j := 9) (b := 4) rfl)
theorem dL_law_394 : decode cL_law 394 = .ok (.iadd, 1) := de_96 (lb_24 (j := 10) (b := 96) rfl)
theorem dL_law_395 : decode cL_law 395 = .ok (.iaload, 1) := de_46 (lb_24 (j := 11) (b := 46) rfl)
theorem dL_law_396 : decode cL_law 396 = .ok (.aload_n 3, 1) := de_45 (lb_24 (j := 12) (b := 45) rfl)
theorem dL_law_397 : decode cL_law 397 = .ok (.invokestatic 198, 3) := de_184 (lb_24 (j := 13) (b := 184) rfl) (lb_24 (j := 14) (b := 0) rfl) (lb_24 (j := 15) (b := 198) rfl) rfl
theorem dL_law_400 : decode cL_law 400 = .ok (.istore 6, 2) := de_54 (lb_25 (j := 0) (b := 54) rfl) (lb_25 (j := 1) (b := 6) rfl) rfl
theorem dL_law_402 : decode cL_law 402 = .ok (.aload_n 2, 1) := de_44 (lb_25 (j := 2) (b := 44) rfl)
theorem dL_law_403 : decode cL_law 403 = .ok (.aload_n 0, 1) := de_42 (lb_25 (j := 3) (b := 42) rfl)
theorem dL_law_404 : decode cL_law 404 = .ok (.iload 5, 2) := de_21 (lb_25 (j := 4) (b := 21) rfl) (lb_25 (j := 5) (b := 5) rfl) rfl
theorem dL_law_406 : decode cL_law 406 = .ok (.iconst 1, 1) := de_4 (lb_25 (j := 6) (b := 4) rfl)
theorem dL_law_407 : decode cL_law 407 = .ok (.iadd, 1) := de_96 (lb_25 (j := 7) (b := 96) rfl)
theorem dL_law_408 : decode cL_law 408 = .ok (.iaload, 1) := de_46 (lb_25 (j := 8) (b := 46) rfl)
theorem dL_law_409 : decode cL_law 409 = .ok (.invokevirtual 203, 3) := de_182 (lb_25 (j := 9) (b := 182) rfl) (lb_25 (j := 10) (b := 0) rfl) (lb_25 (j := 11) (b := 203) rfl) rfl
theorem dL_law_412 : decode cL_law 412 = .ok (.istore 7, 2) := de_54 (lb_25 (j := 12) (b := 54) rfl) (lb_25 (j := 13) (b := 7) rfl) rfl
theorem dL_law_414 : decode cL_law 414 = .ok (.goto 2025, 3) := de_167 (lb_25 (j := 14) (b := 167) rfl) (lb_25 (j := 15) (b := 7) rfl) (lb_26 (j := 0) (b := 233) rfl) (by decide +kernel)
theorem dL_law_417 : decode cL_law 417 = .ok (.aload_n 1, 1) := de_43 (lb_26 (j := 1) (b := 43) rfl)
theorem dL_law_418 : decode cL_law 418 = .ok (.invokevirtual 204, 3) := de_182 (lb_26 (j := 2) (b := 182) rfl) (lb_26 (j := 3) (b := 0) rfl) (lb_26 (j := 4) (b := 204) rfl) rfl
theorem dL_law_421 : decode cL_law 421 = .ok (.pop, 1) := de_87 (lb_26 (j := 5) (b := 87) rfl)
theorem dL_law_422 : decode cL_law 422 = .ok (.aload_n 2, 1) := de_44 (lb_26 (j := 6) (b := 44) rfl)
theorem dL_law_423 : decode cL_law 423 = .ok (.invokevirtual 207, 3) := de_182 (lb_26 (j := 7) (b := 182) rfl) (lb_26 (j := 8) (b := 0) rfl) (lb_26 (j := 9) (b := 207) rfl) rfl
theorem dL_law_426 : decode cL_law 426 = .ok (.pop, 1) := de_87 (lb_26 (j := 10) (b := 87) rfl)
theorem dL_law_427 : decode cL_law 427 = .ok (.goto 2012, 3) := de_167 (lb_26 (j := 11) (b := 167) rfl) (lb_26 (j := 12) (b := 7) rfl) (lb_26 (j := 13) (b := 220) rfl) (by decide +kernel)
theorem dL_law_430 : decode cL_law 430 = .ok (.aload_n 1, 1) := de_43 (lb_26 (j := 14) (b := 43) rfl)
theorem dL_law_431 : decode cL_law 431 = .ok (.invokevirtual 208, 3) := de_182 (lb_26 (j := 15) (b := 182) rfl) (lb_27 (j := 0) (b := 0) rfl) (lb_27 (j := 1) (b := 208) rfl) rfl
theorem dL_law_434 : decode cL_law 434 = .ok (.pop, 1) := de_87 (lb_27 (j := 2) (b := 87) rfl)
theorem dL_law_435 : decode cL_law 435 = .ok (.aload_n 2, 1) := de_44 (lb_27 (j := 3) (b := 44) rfl)
theorem dL_law_436 : decode cL_law 436 = .ok (.invokevirtual 211, 3) := de_182 (lb_27 (j := 4) (b := 182) rfl) (lb_27 (j := 5) (b := 0) rfl) (lb_27 (j := 6) (b := 211) rfl) rfl
theorem dL_law_439 : decode cL_law 439 = .ok (.pop, 1) := de_87 (lb_27 (j := 7) (b := 87) rfl)
theorem dL_law_440 : decode cL_law 440 = .ok (.goto 1999, 3) := de_167 (lb_27 (j := 8) (b := 167) rfl) (lb_27 (j := 9) (b := 7) rfl) (lb_27 (j := 10) (b := 207) rfl) (by decide +kernel)
theorem dL_law_443 : decode cL_law 443 = .ok (.aload_n 1, 1) := de_43 (lb_27 (j := 11) (b := 43) rfl)
theorem dL_law_444 : decode cL_law 444 = .ok (.invokevirtual 212, 3) := de_182 (lb_27 (j := 12) (b := 182) rfl) (lb_27 (j := 13) (b := 0) rfl) (lb_27 (j := 14) (b := 212) rfl) rfl
theorem dL_law_447 : decode cL_law 447 = .ok (.pop, 1) := de_87 (lb_27 (j := 15) (b := 87) rfl)
theorem dL_law_448 : decode cL_law 448 = .ok (.aload_n 2, 1) := de_44 (lb_28 (j := 0) (b := 44) rfl)
theorem dL_law_449 : decode cL_law 449 = .ok (.invokevirtual 215, 3) := de_182 (lb_28 (j := 1) (b := 182) rfl) (lb_28 (j := 2) (b := 0) rfl) (lb_28 (j := 3) (b := 215) rfl) rfl
theorem dL_law_452 : decode cL_law 452 = .ok (.pop, 1) := de_87 (lb_28 (j := 4) (b := 87) rfl)
theorem dL_law_453 : decode cL_law 453 = .ok (.goto 1986, 3) := de_167 (lb_28 (j := 5) (b := 167) rfl) (lb_28 (j := 6) (b := 7) rfl) (lb_28 (j := 7) (b := 194) rfl) (by decide +kernel)
theorem dL_law_456 : decode cL_law 456 = .ok (.aload_n 1, 1) := de_43 (lb_28 (j := 8) (b := 43) rfl)
theorem dL_law_457 : decode cL_law 457 = .ok (.invokevirtual 216, 3) := de_182 (lb_28 (j := 9) (b := 182) rfl) (lb_28 (j := 10) (b := 0) rfl) (lb_28 (j := 11) (b := 216) rfl) rfl
theorem dL_law_460 : decode cL_law 460 = .ok (.pop, 1) := de_87 (lb_28 (j := 12) (b := 87) rfl)
theorem dL_law_461 : decode cL_law 461 = .ok (.aload_n 2, 1) := de_44 (lb_28 (j := 13) (b := 44) rfl)
theorem dL_law_462 : decode cL_law 462 = .ok (.invokevirtual 219, 3) := de_182 (lb_28 (j := 14) (b := 182) rfl) (lb_28 (j := 15) (b := 0) rfl) (lb_29 (j := 0) (b := 219) rfl) rfl
theorem dL_law_465 : decode cL_law 465 = .ok (.pop, 1) := de_87 (lb_29 (j := 1) (b := 87) rfl)
theorem dL_law_466 : decode cL_law 466 = .ok (.goto 1973, 3) := de_167 (lb_29 (j := 2) (b := 167) rfl) (lb_29 (j := 3) (b := 7) rfl) (lb_29 (j := 4) (b := 181) rfl) (by decide +kernel)
theorem dL_law_469 : decode cL_law 469 = .ok (.aload_n 1, 1) := de_43 (lb_29 (j := 5) (b := 43) rfl)
theorem dL_law_470 : decode cL_law 470 = .ok (.aload_n 0, 1) := de_42 (lb_29 (j := 6) (b := 42) rfl)
theorem dL_law_471 : decode cL_law 471 = .ok (.iload 5, 2) := de_21 (lb_29 (j := 7) (b := 21) rfl) (lb_29 (j := 8) (b := 5) rfl) rfl
theorem dL_law_473 : decode cL_law 473 = .ok (.iconst 1, 1) := de_4 (lb_29 (j := 9) (b := 4) rfl)
theorem dL_law_474 : decode cL_law 474 = .ok (.iadd, 1) := de_96 (lb_29 (j := 10) (b := 96) rfl)
theorem dL_law_475 : decode cL_law 475 = .ok (.iaload, 1) := de_46 (lb_29 (j := 11) (b := 46) rfl)
theorem dL_law_476 : decode cL_law 476 = .ok (.aload_n 0, 1) := de_42 (lb_29 (j := 12) (b := 42) rfl)
theorem dL_law_477 : decode cL_law 477 = .ok (.iload 5, 2) := de_21 (lb_29 (j := 13) (b := 21) rfl) (lb_29 (j := 14) (b := 5) rfl) rfl
theorem dL_law_479 : decode cL_law 479 = .ok (.iconst 2, 1) := de_5 (lb_29 (j := 15) (b := 5) rfl)
theorem dL_law_480 : decode cL_law 480 = .ok (.iadd, 1) := de_96 (lb_30 (j := 0) (b := 96) rfl)
theorem dL_law_481 : decode cL_law 481 = .ok (.iaload, 1) := de_46 (lb_30 (j := 1) (b := 46) rfl)
theorem dL_law_482 : decode cL_law 482 = .ok (.aload_n 3, 1) := de_45 (lb_30 (j := 2) (b := 45) rfl)
theorem dL_law_483 : decode cL_law 483 = .ok (.invokestatic 220, 3) := de_184 (lb_30 (j := 3) (b := 184) rfl) (lb_30 (j := 4) (b := 0) rfl) (lb_30 (j := 5) (b := 220) rfl) rfl
theorem dL_law_486 : decode cL_law 486 = .ok (.istore 6, 2) := de_54 (lb_30 (j := 6) (b := 54) rfl) (lb_30 (j := 7) (b := 6) rfl) rfl
theorem dL_law_488 : decode cL_law 488 = .ok (.aload_n 2, 1) := de_44 (lb_30 (j := 8) (b := 44) rfl)
theorem dL_law_489 : decode cL_law 489 = .ok (.aload_n 0, 1) := de_42 (lb_30 (j := 9) (b := 42) rfl)
theorem dL_law_490 : decode cL_law 490 = .ok (.iload 5, 2) := de_21 (lb_30 (j := 10) (b := 21) rfl) (lb_30 (j := 11) (b := 5) rfl) rfl
theorem dL_law_492 : decode cL_law 492 = .ok (.iconst 1, 1) := de_4 (lb_30 (j := 12) (b := 4) rfl)
theorem dL_law_493 : decode cL_law 493 = .ok (.iadd, 1) := de_96 (lb_30 (j := 13) (b := 96) rfl)
theorem dL_law_494 : decode cL_law 494 = .ok (.iaload, 1) := de_46 (lb_30 (j := 14) (b := 46) rfl)
theorem dL_law_495 : decode cL_law 495 = .ok (.aload_n 0, 1) := de_42 (lb_30 (j := 15) (b := 42) rfl)
theorem dL_law_496 : decode cL_law 496 = .ok (.iload 5, 2) := de_21 (lb_31 (j := 0) (b := 21) rfl) (lb_31 (j := 1) (b := 5) rfl) rfl
theorem dL_law_498 : decode cL_law 498 = .ok (.iconst 2, 1) := de_5 (lb_31 (j := 2) (b := 5) rfl)
theorem dL_law_499 : decode cL_law 499 = .ok (.iadd, 1) := de_96 (lb_31 (j := 3) (b := 96) rfl)
theorem dL_law_500 : decode cL_law 500 = .ok (.iaload, 1) := de_46 (lb_31 (j := 4) (b := 46) rfl)
theorem dL_law_501 : decode cL_law 501 = .ok (.invokevirtual 223, 3) := de_182 (lb_31 (j := 5) (b := 182) rfl) (lb_31 (j := 6) (b := 0) rfl) (lb_31 (j := 7) (b := 223) rfl) rfl
theorem dL_law_504 : decode cL_law 504 = .ok (.istore 7, 2) := de_54 (lb_31 (j := 8) (b := 54) rfl) (lb_31 (j := 9) (b := 7) rfl) rfl
theorem dL_law_506 : decode cL_law 506 = .ok (.aload_n 2, 1) := de_44 (lb_31 (j := 10) (b := 44) rfl)
theorem dL_law_507 : decode cL_law 507 = .ok (.invokevirtual 224, 3) := de_182 (lb_31 (j := 11) (b := 182) rfl) (lb_31 (j := 12) (b := 0) rfl) (lb_31 (j := 13) (b := 224) rfl) rfl
theorem dL_law_510 : decode cL_law 510 = .ok (.iload 6, 2) := de_21 (lb_31 (j := 14) (b := 21) rfl) (lb_31 (j := 15) (b := 6) rfl) rfl
theorem dL_law_512 : decode cL_law 512 = .ok (.if_icmp .eq 5, 3) := de_159 (lb_32 (j := 0) (b := 159) rfl) (lb_32 (j := 1) (b := 0) rfl) (lb_32 (j := 2) (b := 5) rfl) (by decide +kernel)
theorem dL_law_517 : decode cL_law 517 = .ok (.iload 6, 2) := de_21 (lb_32 (j := 5) (b := 21) rfl) (lb_32 (j := 6) (b := 6) rfl) rfl
theorem dL_law_519 : decode cL_law 519 = .ok (.ifCond .ne 15, 3) := de_154 (lb_32 (j := 7) (b := 154) rfl) (lb_32 (j := 8) (b := 0) rfl) (lb_32 (j := 9) (b := 15) rfl) (by decide +kernel)
theorem dL_law_522 : decode cL_law 522 = .ok (.aload_n 3, 1) := de_45 (lb_32 (j := 10) (b := 45) rfl)
theorem dL_law_523 : decode cL_law 523 = .ok (.iconst 0, 1) := de_3 (lb_32 (j := 11) (b := 3) rfl)
theorem dL_law_524 : decode cL_law 524 = .ok (.laload, 1) := de_47 (lb_32 (j := 12) (b := 47) rfl)
theorem dL_law_525 : decode cL_law 525 = .ok (.iload 7, 2) := de_21 (lb_32 (j := 13) (b := 21) rfl) (lb_32 (j := 14) (b := 7) rfl) rfl
theorem dL_law_527 : decode cL_law 527 = .ok (.i2l, 1) := de_133 (lb_32 (j := 15) (b := 133) rfl)
theorem dL_law_528 : decode cL_law 528 = .ok (.lcmp, 1) := de_148 (lb_33 (j := 0) (b := 148) rfl)
theorem dL_law_529 : decode cL_law 529 = .ok (.ifCond .eq 5, 3) := de_153 (lb_33 (j := 1) (b := 153) rfl) (lb_33 (j := 2) (b := 0) rfl) (lb_33 (j := 3) (b := 5) rfl) (by decide +kernel)
theorem dL_law_534 : decode cL_law 534 = .ok (.goto 1905, 3) := de_167 (lb_33 (j := 6) (b := 167) rfl) (lb_33 (j := 7) (b := 7) rfl) (lb_33 (j := 8) (b := 113) rfl) (by decide +kernel)
theorem dL_law_537 : decode cL_law 537 = .ok (.aload_n 1, 1) := de_43 (lb_33 (j := 9) (b := 43) rfl)
theorem dL_law_538 : decode cL_law 538 = .ok (.aload_n 0, 1) := de_42 (lb_33 (j := 10) (b := 42) rfl)
theorem dL_law_539 : decode cL_law 539 = .ok (.iload 5, 2) := de_21 (lb_33 (j := 11) (b := 21) rfl) (lb_33 (j := 12) (b := 5) rfl) rfl
theorem dL_law_541 : decode cL_law 541 = .ok (.iconst 1, 1) := de_4 (lb_33 (j := 13) (b := 4) rfl)
theorem dL_law_542 : decode cL_law 542 = .ok (.iadd, 1) := de_96 (lb_33 (j := 14) (b := 96) rfl)
theorem dL_law_543 : decode cL_law 543 = .ok (.iaload, 1) := de_46 (lb_33 (j := 15) (b := 46) rfl)
theorem dL_law_544 : decode cL_law 544 = .ok (.aload_n 3, 1) := de_45 (lb_34 (j := 0) (b := 45) rfl)
theorem dL_law_545 : decode cL_law 545 = .ok (.invokestatic 227, 3) := de_184 (lb_34 (j := 1) (b := 184) rfl) (lb_34 (j := 2) (b := 0) rfl) (lb_34 (j := 3) (b := 227) rfl) rfl
theorem dL_law_548 : decode cL_law 548 = .ok (.istore 6, 2) := de_54 (lb_34 (j := 4) (b := 54) rfl) (lb_34 (j := 5) (b := 6) rfl) rfl
theorem dL_law_550 : decode cL_law 550 = .ok (.aload_n 2, 1) := de_44 (lb_34 (j := 6) (b := 44) rfl)
theorem dL_law_551 : decode cL_law 551 = .ok (.aload_n 0, 1) := de_42 (lb_34 (j := 7) (b := 42) rfl)
theorem dL_law_552 : decode cL_law 552 = .ok (.iload 5, 2) := de_21 (lb_34 (j := 8) (b := 21) rfl) (lb_34 (j := 9) (b := 5) rfl) rfl
theorem dL_law_554 : decode cL_law 554 = .ok (.iconst 1, 1) := de_4 (lb_34 (j := 10) (b := 4) rfl)
theorem dL_law_555 : decode cL_law 555 = .ok (.iadd, 1) := de_96 (lb_34 (j := 11) (b := 96) rfl)
theorem dL_law_556 : decode cL_law 556 = .ok (.iaload, 1) := de_46 (lb_34 (j := 12) (b := 46) rfl)
theorem dL_law_557 : decode cL_law 557 = .ok (.invokevirtual 229, 3) := de_182 (lb_34 (j := 13) (b := 182) rfl) (lb_34 (j := 14) (b := 0) rfl) (lb_34 (j := 15) (b := 229) rfl) rfl
theorem dL_law_560 : decode cL_law 560 = .ok (.istore 7, 2) := de_54 (lb_35 (j := 0) (b := 54) rfl) (lb_35 (j := 1) (b := 7) rfl) rfl
theorem dL_law_562 : decode cL_law 562 = .ok (.goto 1877, 3) := de_167 (lb_35 (j := 2) (b := 167) rfl) (lb_35 (j := 3) (b := 7) rfl) (lb_35 (j := 4) (b := 85) rfl) (by decide +kernel)
set_option maxHeartbeats 4000000 in
set_option maxRecDepth 100000 in
theorem y_a0 {p : Program} {e : Env} {s : State} {m : MethodId} {below : List Frame} {meth : Method} {c : Code} (l : Launch) (hst : l.stackTraces = false) {b L : Nat} {xs : Nat → Int32} (hx : p.tables.exec = Jvm.exec) (hb : c.code = code) (hml : c.maxLocals = 9) (hown : s.vm.findClass RL = some m.cls) (hts : ∀ w ∈ lw_tbl, w.before #[Value.ref b] s = true) (hX0 : va_X b L xs s s.heap) (hbl : b < s.heap.size) (hX : xT (fun q => s.heap.size ≤ q) s) (hN : nC s) (hTS : sAll s.heap.size s) {D : va_G} {cI cJ cZ cMic cSrc cSt cAI cAJ cD : ClassId} (hK : va_K D vwCl (CT cI cJ cZ cMic cSrc cSt cAI cAJ ++ [(cD, .double)]) s) {Q : State → Prop} {i j : Nat} (hi : i + 6 ≤ L) (hL : L ≤ 3072) (hj : j < 512) {aj ae : Nat} {ad am : Nat → Nat} {T : AT} {Sm : MS} {f : Nat → Int64} {g : Nat → UInt64} {ls : Array Slot} {H : Heap} {locs : List Loc} (hV : IV aR0 1586 aK1 aK2 T) (hrc : RC T) (hJ : JJ Sm) (G : gL cI cJ cZ cMic cSrc cSt cAI cAJ D ad (fun q => s.heap.size ≤ q) s.heap H locs T (oJ aj cJ f :: oD ae cD g :: MW cI cJ cZ am Sm)) (hl : lv_has ls 9 [(5, .int (nI i)), (4, .ref ae), (3, .ref aj), (2, .ref (am 0)), (1, .ref (ad 0)), (0, .ref b)]) (kk : ∀ {r1 : Int32} {T1 : AT} {r2 : Int32} {S1 : MS} (ad2 : Nat → Nat) (f1 : Nat → Int64) (g1 : Nat → UInt64) (H1 : Heap) (locs1 : List Loc) (ls1 : Array Slot), g_X11_append T 0 (xs (i + 1)) (xs (i + 2)) (xs (i + 3)) (xs (i + 4)) (xs (i + 5)) = some (r1, T1) → fr_append Sm (xs (i + 1)) (xs (i + 2)) (xs (i + 3)) (xs (i + 4)) (xs (i + 5)) = some (r2, S1) → ad2 0 = ad 0 → IV aR0 1586 aK1 aK2 T1 → RC T1 → JJ S1 → gL cI cJ cZ cMic cSrc cSt cAI cAJ D ad2 (fun q => s.heap.size ≤ q) s.heap H1 locs1 T1 (oJ aj cJ f1 :: oD ae cD g1 :: MW cI cJ cZ am S1) → lv_has ls1 9 [(5, .int (nI i)), (4, .ref ae), (3, .ref aj), (2, .ref (am 0)), (1, .ref (ad2 0)), (0, .ref b)] → W p l e room_1 s m #[Value.ref b] below meth c H1 locs1 (19 + T1.1 + (j + 1)) (38467 + sg T1 + 6 * (j + 1)) Q (F0 m 2439 ls1 [])) : W p l e room_1 s m #[Value.ref b] below meth c H locs (19 + T.1 + j) (38467 + sg T + 6 * j) Q (F0 m 316 ls []) := by
  have E : cE p c cL_law s m #[Value.ref b] lw_tbl D RL (CT cI cJ cZ cMic cSrc cSt cAI cAJ ++ [(cD, .double)]) := ⟨hx, hb, hts, hown, hK⟩
  have hA : ∀ q : Nat, s.heap.size ≤ q → s.heap.size ≤ q := fun _ h => h
  have h0T : 0 < T.1 := Nat.lt_of_lt_of_le (by decide) hV.1.2.2
  have h0s : T.2.1 0 = (11, 0) := hV.2.1 0 ⟨by decide, by decide +kernel, by decide +kernel⟩
  refine lv_aload_n hx hb dL_law_316 rfl (lv_at hl 4 rfl) ?_
  refine lv_aload_n hx hb dL_law_317 rfl (lv_at hl 5 rfl) ?_
  refine lv_iload hx hb dL_law_318 (lv_at hl 0 rfl) ?_
  refine lv_iconst (v := 1) hx hb dL_law_320 (by decide) ?_
  refine lv_iadd hx hb dL_law_321 ?_
  refine lv_to (y := nI (i + 1)) (nI_add i 1) ?_
  refine va_sld hx hb hX0 hbl (Nat.not_le.mpr hbl) G.2.2 (i := nI (i + 1)) (vp_in_nI (n := i + 1) (N := L) (by omega) (by omega)) dL_law_322 ?_
  refine lv_to (y := xs (i + 1)) (congrArg xs (nI_clamp (by omega))) ?_
  refine lv_aload_n hx hb dL_law_323 rfl (lv_at hl 5 rfl) ?_
  refine lv_iload hx hb dL_law_324 (lv_at hl 0 rfl) ?_
  refine lv_iconst (v := 2) hx hb dL_law_326 (by decide) ?_
  refine lv_iadd hx hb dL_law_327 ?_
  refine lv_to (y := nI (i + 2)) (nI_add i 2) ?_
  refine va_sld hx hb hX0 hbl (Nat.not_le.mpr hbl) G.2.2 (i := nI (i + 2)) (vp_in_nI (n := i + 2) (N := L) (by omega) (by omega)) dL_law_328 ?_
  refine lv_to (y := xs (i + 2)) (congrArg xs (nI_clamp (by omega))) ?_
  refine lv_aload_n hx hb dL_law_329 rfl (lv_at hl 5 rfl) ?_
  refine lv_iload hx hb dL_law_330 (lv_at hl 0 rfl) ?_
  refine lv_iconst (v := 3) hx hb dL_law_332 (by decide) ?_
  refine lv_iadd hx hb dL_law_333 ?_
  refine lv_to (y := nI (i + 3)) (nI_add i 3) ?_
  refine va_sld hx hb hX0 hbl (Nat.not_le.mpr hbl) G.2.2 (i := nI (i + 3)) (vp_in_nI (n := i + 3) (N := L) (by omega) (by omega)) dL_law_334 ?_
  refine lv_to (y := xs (i + 3)) (congrArg xs (nI_clamp (by omega))) ?_
  refine lv_aload_n hx hb dL_law_335 rfl (lv_at hl 5 rfl) ?_
  refine lv_iload hx hb dL_law_336 (lv_at hl 0 rfl) ?_
  refine lv_iconst (v := 4) hx hb dL_law_338 (by decide) ?_
  refine lv_iadd hx hb dL_law_339 ?_
  refine lv_to (y := nI (i + 4)) (nI_add i 4) ?_
  refine va_sld hx hb hX0 hbl (Nat.not_le.mpr hbl) G.2.2 (i := nI (i + 4)) (vp_in_nI (n := i + 4) (N := L) (by omega) (by omega)) dL_law_340 ?_
  refine lv_to (y := xs (i + 4)) (congrArg xs (nI_clamp (by omega))) ?_
  refine lv_aload_n hx hb dL_law_341 rfl (lv_at hl 5 rfl) ?_
  refine lv_iload hx hb dL_law_342 (lv_at hl 0 rfl) ?_
  refine lv_iconst (v := 5) hx hb dL_law_344 (by decide) ?_
  refine lv_iadd hx hb dL_law_345 ?_
  refine lv_to (y := nI (i + 5)) (nI_add i 5) ?_
  refine va_sld hx hb hX0 hbl (Nat.not_le.mpr hbl) G.2.2 (i := nI (i + 5)) (vp_in_nI (n := i + 5) (N := L) (by omega) (by omega)) dL_law_346 ?_
  refine lv_to (y := xs (i + 5)) (congrArg xs (nI_clamp (by omega))) ?_
  obtain ⟨⟨r1, T1⟩, hg, hc⟩ := cs_X11_append T 0 (xs (i + 1)) (xs (i + 2)) (xs (i + 3)) (xs (i + 4)) (xs (i + 5)) hV (by decide +kernel)
  have hV1 : IV aR0 1586 aK1 aK2 T1 := hc.1.1
  have hg1 := (gl_sp (s_X11_append hg))
  have hg2 := sg_le hg1
  have hg3 := hg1.1
  have hk := hV1.2.2.2.2.2.2
  have hrc1 := hg1.2.2 hrc
  have hr0 := a_room
  refine t_cvi (As := [.int (xs (i + 1)), .int (xs (i + 2)), .int (xs (i + 3)), .int (xs (i + 4)), .int (xs (i + 5))]) (rest := []) E G hA hX hX.2.2.2.1 hml (u_X11_append l hst D cI cJ cZ cMic cSrc cSt cAI cAJ ad T 0 (xs (i + 1)) (xs (i + 2)) (xs (i + 3)) (xs (i + 4)) (xs (i + 5)) hg) (cwV 5 hts (glA (L := [Cond.methodLink RL 193 yX11_append, Cond.instanceMethod yX11_append, Cond.selects RX11 yX11_append yX11_append, Cond.initialized RX11]) (gl_in [(3, 48), (3, 49), (3, 50), (1, 1)] (by decide +kernel) (by decide +kernel)) ⟨(t_of [Cond.code yX11_append cX11_append 6 (some .int)] [(3, 51)] (by decide +kernel) _ List.mem_cons_self), List.all_eq_true.mp (by decide +kernel : [Cond.code yX11_append cX11_append 6 (some .int)].all goodWord = true) _ List.mem_cons_self⟩) rfl rfl rfl (by decide +kernel) ⟨Nat.le_of_ble_eq_true rfl, Nat.le_of_ble_eq_true rfl⟩) h0T (cc_o11 h0s) rfl rfl hl.1 rfl (lv_room (Nat.le_of_ble_eq_true rfl)) dL_law_347 ⟨by show _ ≤ 601024; omega, by show _ ≤ 7293034; omega⟩ ?_
  intro r9 T9 H locs hp G
  obtain ⟨hr9, hS1⟩ := hp
  rw [hS1] at G
  refine lv_to (y := r1) hr9 ?_
  refine lv_pop hx hb dL_law_350 rfl ?_
  refine lv_aload_n hx hb dL_law_351 rfl (lv_at hl 3 rfl) ?_
  refine lv_aload_n hx hb dL_law_352 rfl (lv_at hl 5 rfl) ?_
  refine lv_iload hx hb dL_law_353 (lv_at hl 0 rfl) ?_
  refine lv_iconst (v := 1) hx hb dL_law_355 (by decide) ?_
  refine lv_iadd hx hb dL_law_356 ?_
  refine lv_to (y := nI (i + 1)) (nI_add i 1) ?_
  refine va_sld hx hb hX0 hbl (Nat.not_le.mpr hbl) G.2.2 (i := nI (i + 1)) (vp_in_nI (n := i + 1) (N := L) (by omega) (by omega)) dL_law_357 ?_
  refine lv_to (y := xs (i + 1)) (congrArg xs (nI_clamp (by omega))) ?_
  refine lv_aload_n hx hb dL_law_358 rfl (lv_at hl 5 rfl) ?_
  refine lv_iload hx hb dL_law_359 (lv_at hl 0 rfl) ?_
  refine lv_iconst (v := 2) hx hb dL_law_361 (by decide) ?_
  refine lv_iadd hx hb dL_law_362 ?_
  refine lv_to (y := nI (i + 2)) (nI_add i 2) ?_
  refine va_sld hx hb hX0 hbl (Nat.not_le.mpr hbl) G.2.2 (i := nI (i + 2)) (vp_in_nI (n := i + 2) (N := L) (by omega) (by omega)) dL_law_363 ?_
  refine lv_to (y := xs (i + 2)) (congrArg xs (nI_clamp (by omega))) ?_
  refine lv_aload_n hx hb dL_law_364 rfl (lv_at hl 5 rfl) ?_
  refine lv_iload hx hb dL_law_365 (lv_at hl 0 rfl) ?_
  refine lv_iconst (v := 3) hx hb dL_law_367 (by decide) ?_
  refine lv_iadd hx hb dL_law_368 ?_
  refine lv_to (y := nI (i + 3)) (nI_add i 3) ?_
  refine va_sld hx hb hX0 hbl (Nat.not_le.mpr hbl) G.2.2 (i := nI (i + 3)) (vp_in_nI (n := i + 3) (N := L) (by omega) (by omega)) dL_law_369 ?_
  refine lv_to (y := xs (i + 3)) (congrArg xs (nI_clamp (by omega))) ?_
  refine lv_aload_n hx hb dL_law_370 rfl (lv_at hl 5 rfl) ?_
  refine lv_iload hx hb dL_law_371 (lv_at hl 0 rfl) ?_
  refine lv_iconst (v := 4) hx hb dL_law_373 (by decide) ?_
  refine lv_iadd hx hb dL_law_374 ?_
  refine lv_to (y := nI (i + 4)) (nI_add i 4) ?_
  refine va_sld hx hb hX0 hbl (Nat.not_le.mpr hbl) G.2.2 (i := nI (i + 4)) (vp_in_nI (n := i + 4) (N := L) (by omega) (by omega)) dL_law_375 ?_
  refine lv_to (y := xs (i + 4)) (congrArg xs (nI_clamp (by omega))) ?_
  refine lv_aload_n hx hb dL_law_376 rfl (lv_at hl 5 rfl) ?_
  refine lv_iload hx hb dL_law_377 (lv_at hl 0 rfl) ?_
  refine lv_iconst (v := 5) hx hb dL_law_379 (by decide) ?_
  refine lv_iadd hx hb dL_law_380 ?_
  refine lv_to (y := nI (i + 5)) (nI_add i 5) ?_
  refine va_sld hx hb hX0 hbl (Nat.not_le.mpr hbl) G.2.2 (i := nI (i + 5)) (vp_in_nI (n := i + 5) (N := L) (by omega) (by omega)) dL_law_381 ?_
  refine lv_to (y := xs (i + 5)) (congrArg xs (nI_clamp (by omega))) ?_
  obtain ⟨⟨r2, S1⟩, hf, hj⟩ := sj_append Sm (xs (i + 1)) (xs (i + 2)) (xs (i + 3)) (xs (i + 4)) (xs (i + 5)) hJ
  have hJ1 : JJ S1 := hj.1
  refine y_mi (As := [.int (xs (i + 1)), .int (xs (i + 2)), .int (xs (i + 3)), .int (xs (i + 4)), .int (xs (i + 5))]) (rest := []) E G hA hX.2.2.2.2 hml (tr_append l D cI cJ cZ am Sm (xs (i + 1)) (xs (i + 2)) (xs (i + 3)) (xs (i + 4)) (xs (i + 5)) hf) (cwV 5 hts (glM (L := [Cond.methodLink RL 197 yX12_append, Cond.instanceMethod yX12_append, Cond.selects RX12 yX12_append yX12_append, Cond.initialized RX12]) (gl_in [(8, 69), (8, 70), (8, 71), (1, 14)] (by decide +kernel) (by decide +kernel)) ⟨(t_of [Cond.code yX12_append cX12_append 6 (some .int)] [(8, 72)] (by decide +kernel) _ List.mem_cons_self), List.all_eq_true.mp (by decide +kernel : [Cond.code yX12_append cX12_append 6 (some .int)].all goodWord = true) _ List.mem_cons_self⟩) rfl rfl rfl (by decide +kernel) ⟨Nat.le_of_ble_eq_true rfl, Nat.le_of_ble_eq_true rfl⟩) rfl hl.1 rfl (lv_room (Nat.le_of_ble_eq_true rfl)) dL_law_382 ⟨by show _ ≤ 601024; omega, by show _ ≤ 7293034; omega⟩ (fun H locs G => ?_)
  refine lv_pop hx hb dL_law_385 rfl ?_
  refine lv_goto (tgt := 2439) hx hb dL_law_386 (by decide) ?_
  refine W.widen (k := 19 + T1.1 + (j + 1)) (n := 38467 + sg T1 + 6 * (j + 1)) (by omega) (by omega) ?_
  exact kk ad f g H locs ls hg hf rfl hV1 hrc1 hJ1 G hl
set_option maxHeartbeats 4000000 in
set_option maxRecDepth 100000 in
theorem y_a1 {p : Program} {e : Env} {s : State} {m : MethodId} {below : List Frame} {meth : Method} {c : Code} (l : Launch) (hst : l.stackTraces = false) {b L : Nat} {xs : Nat → Int32} (hx : p.tables.exec = Jvm.exec) (hb : c.code = code) (hml : c.maxLocals = 9) (hown : s.vm.findClass RL = some m.cls) (hts : ∀ w ∈ lw_tbl, w.before #[Value.ref b] s = true) (hX0 : va_X b L xs s s.heap) (hbl : b < s.heap.size) (hX : xT (fun q => s.heap.size ≤ q) s) (hN : nC s) (hTS : sAll s.heap.size s) {D : va_G} {cI cJ cZ cMic cSrc cSt cAI cAJ cD : ClassId} (hK : va_K D vwCl (CT cI cJ cZ cMic cSrc cSt cAI cAJ ++ [(cD, .double)]) s) {Q : State → Prop} {i j : Nat} (hi : i + 6 ≤ L) (hL : L ≤ 3072) (hj : j < 512) {aj ae : Nat} {ad am : Nat → Nat} {T : AT} {Sm : MS} {f : Nat → Int64} {g : Nat → UInt64} {ls : Array Slot} {H : Heap} {locs : List Loc} (hV : IV aR0 1586 aK1 aK2 T) (hrc : RC T) (hJ : JJ Sm) (G : gL cI cJ cZ cMic cSrc cSt cAI cAJ D ad (fun q => s.heap.size ≤ q) s.heap H locs T (oJ aj cJ f :: oD ae cD g :: MW cI cJ cZ am Sm)) (hl : lv_has ls 9 [(5, .int (nI i)), (4, .ref ae), (3, .ref aj), (2, .ref (am 0)), (1, .ref (ad 0)), (0, .ref b)]) (kk : ∀ {k1 : Nat} {r1 : Int32} {T1 : AT} {r2 : Int32} {S1 : MS} (ad2 : Nat → Nat) (f1 : Nat → Int64) (g1 : Nat → UInt64) (H1 : Heap) (locs1 : List Loc) (ls1 : Array Slot), g_X11_load T 0 (xs (i + 1)) = some (k1, r1, T1) → fr_load Sm (xs (i + 1)) = some (r2, S1) → ad2 0 = ad 0 → IV aR0 1586 aK1 aK2 T1 → RC T1 → JJ S1 → gL cI cJ cZ cMic cSrc cSt cAI cAJ D ad2 (fun q => s.heap.size ≤ q) s.heap H1 locs1 T1 (oJ aj cJ f1 :: oD ae cD g1 :: MW cI cJ cZ am S1) → lv_has ls1 9 [(5, .int (nI i)), (4, .ref ae), (3, .ref aj), (2, .ref (am 0)), (1, .ref (ad2 0)), (0, .ref b)] → W p l e room_1 s m #[Value.ref b] below meth c H1 locs1 (19 + T1.1 + (j + 1)) (38467 + sg T1 + 6 * (j + 1)) Q (F0 m 2439 ls1 [])) : W p l e room_1 s m #[Value.ref b] below meth c H locs (19 + T.1 + j) (38467 + sg T + 6 * j) Q (F0 m 389 ls []) := by
  have E : cE p c cL_law s m #[Value.ref b] lw_tbl D RL (CT cI cJ cZ cMic cSrc cSt cAI cAJ ++ [(cD, .double)]) := ⟨hx, hb, hts, hown, hK⟩
  have hA : ∀ q : Nat, s.heap.size ≤ q → s.heap.size ≤ q := fun _ h => h
  have h0T : 0 < T.1 := Nat.lt_of_lt_of_le (by decide) hV.1.2.2
  have h0s : T.2.1 0 = (11, 0) := hV.2.1 0 ⟨by decide, by decide +kernel, by decide +kernel⟩
  refine lv_aload_n hx hb dL_law_389 rfl (lv_at hl 4 rfl) ?_
  refine lv_aload_n hx hb dL_law_390 rfl (lv_at hl 5 rfl) ?_
  refine lv_iload hx hb dL_law_391 (lv_at hl 0 rfl) ?_
  refine lv_iconst (v := 1) hx hb dL_law_393 (by decide) ?_
  refine lv_iadd hx hb dL_law_394 ?_
  refine lv_to (y := nI (i + 1)) (nI_add i 1) ?_
  refine va_sld hx hb hX0 hbl (Nat.not_le.mpr hbl) G.2.2 (i := nI (i + 1)) (vp_in_nI (n := i + 1) (N := L) (by omega) (by omega)) dL_law_395 ?_
  refine lv_to (y := xs (i + 1)) (congrArg xs (nI_clamp (by omega))) ?_
  refine lv_aload_n hx hb dL_law_396 rfl (lv_at hl 2 rfl) ?_
  obtain ⟨⟨k1, r1, T1⟩, hg, hc⟩ := cs_X11_load T 0 (xs (i + 1)) hV (by decide +kernel)
  have hV1 : IV aR0 1586 aK1 aK2 T1 := hc.1.1
  have hg1 := s_X11_load hg
  have hg2 := sg_le hg1
  have hg3 := hg1.1
  have hk := hV1.2.2.2.2.2.2
  have hrc1 := hg1.2.2 hrc
  have hr0 := a_room
  refine l_v (h0 := s.heap.size) (As := [.ref (ad 0), .int (xs (i + 1)), .ref aj]) (rest := []) E G hA hX hN (fun _ h => h) hTS hml (v_load l hst D s.heap.size ad T 0 (xs (i + 1)) aj f hg hrc h0T h0s) (vx_cwSW 3 hts (glA (L := [Cond.methodLink RL 198 yL_load, Cond.static yL_load, Cond.initialized RL]) (gl_in [(3, 92), (3, 93), (1, 0)] (by decide +kernel) (by decide +kernel)) ⟨(t_of [Cond.codeWith yL_load cL_load 4 (some .int) [(0, 9, 12, 13), (0, 9, 15, 15)]] [(3, 94)] (by decide +kernel) _ List.mem_cons_self), List.all_eq_true.mp (by decide +kernel : [Cond.codeWith yL_load cL_load 4 (some .int) [(0, 9, 12, 13), (0, 9, 15, 15)]].all goodWord = true) _ List.mem_cons_self⟩) rfl rfl rfl (by decide +kernel) ⟨Nat.le_of_ble_eq_true rfl, Nat.le_of_ble_eq_true rfl⟩) rfl hl.1 rfl (lv_room (Nat.le_of_ble_eq_true rfl)) dL_law_397 ⟨by show _ ≤ 601024; omega, by show _ ≤ 7293034; omega⟩ ?_
  intro ad2 H locs had G
  rw [← had 0 h0T] at hl
  refine lv_istore (lv' := [(6, .int (vck 0 1 2 k1)), (5, .int (nI i)), (4, .ref ae), (3, .ref aj), (2, .ref (am 0)), (1, .ref (ad2 0)), (0, .ref b)]) hx hb dL_law_400 hl (by decide) rfl (fun ls hl => ?_)
  refine lv_aload_n hx hb dL_law_402 rfl (lv_at hl 4 rfl) ?_
  refine lv_aload_n hx hb dL_law_403 rfl (lv_at hl 6 rfl) ?_
  refine lv_iload hx hb dL_law_404 (lv_at hl 1 rfl) ?_
  refine lv_iconst (v := 1) hx hb dL_law_406 (by decide) ?_
  refine lv_iadd hx hb dL_law_407 ?_
  refine lv_to (y := nI (i + 1)) (nI_add i 1) ?_
  refine va_sld hx hb hX0 hbl (Nat.not_le.mpr hbl) G.2.2 (i := nI (i + 1)) (vp_in_nI (n := i + 1) (N := L) (by omega) (by omega)) dL_law_408 ?_
  refine lv_to (y := xs (i + 1)) (congrArg xs (nI_clamp (by omega))) ?_
  obtain ⟨⟨r2, S1⟩, hf, hj⟩ := sj_load Sm (xs (i + 1)) hJ
  have hJ1 : JJ S1 := hj
  refine y_miX (h0 := s.heap.size) (As := [.int (xs (i + 1))]) (rest := []) E G hA (fun _ h => h) hTS hX.2.2.2.2 hml (tr_load l D cI cJ cZ am Sm s.heap.size (xs (i + 1)) hf) (cwV 1 hts (glM (L := [Cond.methodLink RL 203 yX12_load, Cond.instanceMethod yX12_load, Cond.selects RX12 yX12_load yX12_load, Cond.initialized RX12]) (gl_in [(8, 89), (8, 90), (8, 91), (1, 14)] (by decide +kernel) (by decide +kernel)) ⟨(t_of [Cond.code yX12_load cX12_load 4 (some .int)] [(8, 92)] (by decide +kernel) _ List.mem_cons_self), List.all_eq_true.mp (by decide +kernel : [Cond.code yX12_load cX12_load 4 (some .int)].all goodWord = true) _ List.mem_cons_self⟩) rfl rfl rfl (by decide +kernel) ⟨Nat.le_of_ble_eq_true rfl, Nat.le_of_ble_eq_true rfl⟩) rfl hl.1 rfl (lv_room (Nat.le_of_ble_eq_true rfl)) dL_law_409 ⟨by show _ ≤ 601024; omega, by show _ ≤ 7293034; omega⟩ (fun H locs G => ?_)
  refine lv_istore (lv' := [(7, .int r2), (6, .int (vck 0 1 2 k1)), (5, .int (nI i)), (4, .ref ae), (3, .ref aj), (2, .ref (am 0)), (1, .ref (ad2 0)), (0, .ref b)]) hx hb dL_law_412 hl (by decide) rfl (fun ls hl => ?_)
  refine lv_goto (tgt := 2439) hx hb dL_law_414 (by decide) ?_
  have hl := lv_sub hl [2, 3, 4, 5, 6, 7] rfl
  refine W.widen (k := 19 + T1.1 + (j + 1)) (n := 38467 + sg T1 + 6 * (j + 1)) (by omega) (by omega) ?_
  exact kk ad2 (vfJ k1 f r1.toInt64) g H locs ls hg hf (had 0 h0T) hV1 hrc1 hJ1 G hl
set_option maxHeartbeats 4000000 in
set_option maxRecDepth 100000 in
theorem y_a2 {p : Program} {e : Env} {s : State} {m : MethodId} {below : List Frame} {meth : Method} {c : Code} (l : Launch) (hst : l.stackTraces = false) {b L : Nat} {xs : Nat → Int32} (hx : p.tables.exec = Jvm.exec) (hb : c.code = code) (hml : c.maxLocals = 9) (hown : s.vm.findClass RL = some m.cls) (hts : ∀ w ∈ lw_tbl, w.before #[Value.ref b] s = true) (hX0 : va_X b L xs s s.heap) (hbl : b < s.heap.size) (hX : xT (fun q => s.heap.size ≤ q) s) (hN : nC s) (hTS : sAll s.heap.size s) {D : va_G} {cI cJ cZ cMic cSrc cSt cAI cAJ cD : ClassId} (hK : va_K D vwCl (CT cI cJ cZ cMic cSrc cSt cAI cAJ ++ [(cD, .double)]) s) {Q : State → Prop} {i j : Nat} (hi : i + 6 ≤ L) (hL : L ≤ 3072) (hj : j < 512) {aj ae : Nat} {ad am : Nat → Nat} {T : AT} {Sm : MS} {f : Nat → Int64} {g : Nat → UInt64} {ls : Array Slot} {H : Heap} {locs : List Loc} (hV : IV aR0 1586 aK1 aK2 T) (hrc : RC T) (hJ : JJ Sm) (G : gL cI cJ cZ cMic cSrc cSt cAI cAJ D ad (fun q => s.heap.size ≤ q) s.heap H locs T (oJ aj cJ f :: oD ae cD g :: MW cI cJ cZ am Sm)) (hl : lv_has ls 9 [(5, .int (nI i)), (4, .ref ae), (3, .ref aj), (2, .ref (am 0)), (1, .ref (ad 0)), (0, .ref b)]) (kk : ∀ {r1 : Int32} {T1 : AT} {r2 : Int32} {S1 : MS} (ad2 : Nat → Nat) (f1 : Nat → Int64) (g1 : Nat → UInt64) (H1 : Heap) (locs1 : List Loc) (ls1 : Array Slot), g_X11_parseError T 0 = some (r1, T1) → fr_parseError Sm = some (r2, S1) → ad2 0 = ad 0 → IV aR0 1586 aK1 aK2 T1 → RC T1 → JJ S1 → gL cI cJ cZ cMic cSrc cSt cAI cAJ D ad2 (fun q => s.heap.size ≤ q) s.heap H1 locs1 T1 (oJ aj cJ f1 :: oD ae cD g1 :: MW cI cJ cZ am S1) → lv_has ls1 9 [(5, .int (nI i)), (4, .ref ae), (3, .ref aj), (2, .ref (am 0)), (1, .ref (ad2 0)), (0, .ref b)] → W p l e room_1 s m #[Value.ref b] below meth c H1 locs1 (19 + T1.1 + (j + 1)) (38467 + sg T1 + 6 * (j + 1)) Q (F0 m 2439 ls1 [])) : W p l e room_1 s m #[Value.ref b] below meth c H locs (19 + T.1 + j) (38467 + sg T + 6 * j) Q (F0 m 417 ls []) := by
  have E : cE p c cL_law s m #[Value.ref b] lw_tbl D RL (CT cI cJ cZ cMic cSrc cSt cAI cAJ ++ [(cD, .double)]) := ⟨hx, hb, hts, hown, hK⟩
  have hA : ∀ q : Nat, s.heap.size ≤ q → s.heap.size ≤ q := fun _ h => h
  have h0T : 0 < T.1 := Nat.lt_of_lt_of_le (by decide) hV.1.2.2
  have h0s : T.2.1 0 = (11, 0) := hV.2.1 0 ⟨by decide, by decide +kernel, by decide +kernel⟩
  refine lv_aload_n hx hb dL_law_417 rfl (lv_at hl 4 rfl) ?_
  obtain ⟨⟨r1, T1⟩, hg, hc⟩ := cs_X11_parseError T 0 hV (by decide +kernel)
  have hV1 : IV aR0 1586 aK1 aK2 T1 := by rw [show T1 = T from hc.1]; exact hV
  have hg1 := (gl_sp (s_X11_parseError hg))
  have hg2 := sg_le hg1
  have hg3 := hg1.1
  have hk := hV1.2.2.2.2.2.2
  have hrc1 := hg1.2.2 hrc
  have hr0 := a_room
  refine t_cvi (As := []) (rest := []) E G hA hX hX.2.2.2.1 hml (u_X11_parseError l hst D cI cJ cZ cMic cSrc cSt cAI cAJ ad T 0  hg) (cwV 0 hts (glA (L := [Cond.methodLink RL 204 yX11_parseError, Cond.instanceMethod yX11_parseError, Cond.selects RX11 yX11_parseError yX11_parseError, Cond.initialized RX11]) (gl_in [(3, 56), (3, 57), (3, 58), (1, 1)] (by decide +kernel) (by decide +kernel)) ⟨(t_of [Cond.code yX11_parseError cX11_parseError 1 (some .int)] [(3, 59)] (by decide +kernel) _ List.mem_cons_self), List.all_eq_true.mp (by decide +kernel : [Cond.code yX11_parseError cX11_parseError 1 (some .int)].all goodWord = true) _ List.mem_cons_self⟩) rfl rfl rfl (by decide +kernel) ⟨Nat.le_of_ble_eq_true rfl, Nat.le_of_ble_eq_true rfl⟩) h0T (cc_o11 h0s) rfl rfl hl.1 rfl (lv_room (Nat.le_of_ble_eq_true rfl)) dL_law_418 ⟨by show _ ≤ 601024; omega, by show _ ≤ 7293034; omega⟩ ?_
  intro r9 T9 H locs hp G
  obtain ⟨hr9, hS1⟩ := hp
  rw [hS1] at G
  refine lv_to (y := r1) hr9 ?_
  refine lv_pop hx hb dL_law_421 rfl ?_
  refine lv_aload_n hx hb dL_law_422 rfl (lv_at hl 3 rfl) ?_
  obtain ⟨⟨r2, S1⟩, hf, hj⟩ := sj_parseError Sm hJ
  have hJ1 : JJ S1 := hj
  refine y_mi (As := []) (rest := []) E G hA hX.2.2.2.2 hml (tr_parseError l D cI cJ cZ am Sm  hf) (cwV 0 hts (glM (L := [Cond.methodLink RL 207 yX12_parseError, Cond.instanceMethod yX12_parseError, Cond.selects RX12 yX12_parseError yX12_parseError, Cond.initialized RX12]) (gl_in [(8, 81), (8, 82), (8, 83), (1, 14)] (by decide +kernel) (by decide +kernel)) ⟨(t_of [Cond.code yX12_parseError cX12_parseError 1 (some .int)] [(8, 84)] (by decide +kernel) _ List.mem_cons_self), List.all_eq_true.mp (by decide +kernel : [Cond.code yX12_parseError cX12_parseError 1 (some .int)].all goodWord = true) _ List.mem_cons_self⟩) rfl rfl rfl (by decide +kernel) ⟨Nat.le_of_ble_eq_true rfl, Nat.le_of_ble_eq_true rfl⟩) rfl hl.1 rfl (lv_room (Nat.le_of_ble_eq_true rfl)) dL_law_423 ⟨by show _ ≤ 601024; omega, by show _ ≤ 7293034; omega⟩ (fun H locs G => ?_)
  refine lv_pop hx hb dL_law_426 rfl ?_
  refine lv_goto (tgt := 2439) hx hb dL_law_427 (by decide) ?_
  refine W.widen (k := 19 + T1.1 + (j + 1)) (n := 38467 + sg T1 + 6 * (j + 1)) (by omega) (by omega) ?_
  exact kk ad f g H locs ls hg hf rfl hV1 hrc1 hJ1 G hl
set_option maxHeartbeats 4000000 in
set_option maxRecDepth 100000 in
theorem y_a3 {p : Program} {e : Env} {s : State} {m : MethodId} {below : List Frame} {meth : Method} {c : Code} (l : Launch) (hst : l.stackTraces = false) {b L : Nat} {xs : Nat → Int32} (hx : p.tables.exec = Jvm.exec) (hb : c.code = code) (hml : c.maxLocals = 9) (hown : s.vm.findClass RL = some m.cls) (hts : ∀ w ∈ lw_tbl, w.before #[Value.ref b] s = true) (hX0 : va_X b L xs s s.heap) (hbl : b < s.heap.size) (hX : xT (fun q => s.heap.size ≤ q) s) (hN : nC s) (hTS : sAll s.heap.size s) {D : va_G} {cI cJ cZ cMic cSrc cSt cAI cAJ cD : ClassId} (hK : va_K D vwCl (CT cI cJ cZ cMic cSrc cSt cAI cAJ ++ [(cD, .double)]) s) {Q : State → Prop} {i j : Nat} (hi : i + 6 ≤ L) (hL : L ≤ 3072) (hj : j < 512) {aj ae : Nat} {ad am : Nat → Nat} {T : AT} {Sm : MS} {f : Nat → Int64} {g : Nat → UInt64} {ls : Array Slot} {H : Heap} {locs : List Loc} (hV : IV aR0 1586 aK1 aK2 T) (hrc : RC T) (hJ : JJ Sm) (G : gL cI cJ cZ cMic cSrc cSt cAI cAJ D ad (fun q => s.heap.size ≤ q) s.heap H locs T (oJ aj cJ f :: oD ae cD g :: MW cI cJ cZ am Sm)) (hl : lv_has ls 9 [(5, .int (nI i)), (4, .ref ae), (3, .ref aj), (2, .ref (am 0)), (1, .ref (ad 0)), (0, .ref b)]) (kk : ∀ {r1 : Int32} {T1 : AT} {r2 : Int32} {S1 : MS} (ad2 : Nat → Nat) (f1 : Nat → Int64) (g1 : Nat → UInt64) (H1 : Heap) (locs1 : List Loc) (ls1 : Array Slot), g_X11_errorPosition T 0 = some (r1, T1) → fr_errorPosition Sm = some (r2, S1) → ad2 0 = ad 0 → IV aR0 1586 aK1 aK2 T1 → RC T1 → JJ S1 → gL cI cJ cZ cMic cSrc cSt cAI cAJ D ad2 (fun q => s.heap.size ≤ q) s.heap H1 locs1 T1 (oJ aj cJ f1 :: oD ae cD g1 :: MW cI cJ cZ am S1) → lv_has ls1 9 [(5, .int (nI i)), (4, .ref ae), (3, .ref aj), (2, .ref (am 0)), (1, .ref (ad2 0)), (0, .ref b)] → W p l e room_1 s m #[Value.ref b] below meth c H1 locs1 (19 + T1.1 + (j + 1)) (38467 + sg T1 + 6 * (j + 1)) Q (F0 m 2439 ls1 [])) : W p l e room_1 s m #[Value.ref b] below meth c H locs (19 + T.1 + j) (38467 + sg T + 6 * j) Q (F0 m 430 ls []) := by
  have E : cE p c cL_law s m #[Value.ref b] lw_tbl D RL (CT cI cJ cZ cMic cSrc cSt cAI cAJ ++ [(cD, .double)]) := ⟨hx, hb, hts, hown, hK⟩
  have hA : ∀ q : Nat, s.heap.size ≤ q → s.heap.size ≤ q := fun _ h => h
  have h0T : 0 < T.1 := Nat.lt_of_lt_of_le (by decide) hV.1.2.2
  have h0s : T.2.1 0 = (11, 0) := hV.2.1 0 ⟨by decide, by decide +kernel, by decide +kernel⟩
  refine lv_aload_n hx hb dL_law_430 rfl (lv_at hl 4 rfl) ?_
  obtain ⟨⟨r1, T1⟩, hg, hc⟩ := cs_X11_errorPosition T 0 hV (by decide +kernel)
  have hV1 : IV aR0 1586 aK1 aK2 T1 := by rw [show T1 = T from hc.1]; exact hV
  have hg1 := (gl_sp (s_X11_errorPosition hg))
  have hg2 := sg_le hg1
  have hg3 := hg1.1
  have hk := hV1.2.2.2.2.2.2
  have hrc1 := hg1.2.2 hrc
  have hr0 := a_room
  refine t_cvi (As := []) (rest := []) E G hA hX hX.2.2.2.1 hml (u_X11_errorPosition l hst D cI cJ cZ cMic cSrc cSt cAI cAJ ad T 0  hg) (cwV 0 hts (glA (L := [Cond.methodLink RL 208 yX11_errorPosition, Cond.instanceMethod yX11_errorPosition, Cond.selects RX11 yX11_errorPosition yX11_errorPosition, Cond.initialized RX11]) (gl_in [(3, 60), (3, 61), (3, 62), (1, 1)] (by decide +kernel) (by decide +kernel)) ⟨(t_of [Cond.code yX11_errorPosition cX11_errorPosition 1 (some .int)] [(3, 63)] (by decide +kernel) _ List.mem_cons_self), List.all_eq_true.mp (by decide +kernel : [Cond.code yX11_errorPosition cX11_errorPosition 1 (some .int)].all goodWord = true) _ List.mem_cons_self⟩) rfl rfl rfl (by decide +kernel) ⟨Nat.le_of_ble_eq_true rfl, Nat.le_of_ble_eq_true rfl⟩) h0T (cc_o11 h0s) rfl rfl hl.1 rfl (lv_room (Nat.le_of_ble_eq_true rfl)) dL_law_431 ⟨by show _ ≤ 601024; omega, by show _ ≤ 7293034; omega⟩ ?_
  intro r9 T9 H locs hp G
  obtain ⟨hr9, hS1⟩ := hp
  rw [hS1] at G
  refine lv_to (y := r1) hr9 ?_
  refine lv_pop hx hb dL_law_434 rfl ?_
  refine lv_aload_n hx hb dL_law_435 rfl (lv_at hl 3 rfl) ?_
  obtain ⟨⟨r2, S1⟩, hf, hj⟩ := sj_errorPosition Sm hJ
  have hJ1 : JJ S1 := hj
  refine y_mi (As := []) (rest := []) E G hA hX.2.2.2.2 hml (tr_errorPosition l D cI cJ cZ am Sm  hf) (cwV 0 hts (glM (L := [Cond.methodLink RL 211 yX12_errorPosition, Cond.instanceMethod yX12_errorPosition, Cond.selects RX12 yX12_errorPosition yX12_errorPosition, Cond.initialized RX12]) (gl_in [(8, 85), (8, 86), (8, 87), (1, 14)] (by decide +kernel) (by decide +kernel)) ⟨(t_of [Cond.code yX12_errorPosition cX12_errorPosition 1 (some .int)] [(8, 88)] (by decide +kernel) _ List.mem_cons_self), List.all_eq_true.mp (by decide +kernel : [Cond.code yX12_errorPosition cX12_errorPosition 1 (some .int)].all goodWord = true) _ List.mem_cons_self⟩) rfl rfl rfl (by decide +kernel) ⟨Nat.le_of_ble_eq_true rfl, Nat.le_of_ble_eq_true rfl⟩) rfl hl.1 rfl (lv_room (Nat.le_of_ble_eq_true rfl)) dL_law_436 ⟨by show _ ≤ 601024; omega, by show _ ≤ 7293034; omega⟩ (fun H locs G => ?_)
  refine lv_pop hx hb dL_law_439 rfl ?_
  refine lv_goto (tgt := 2439) hx hb dL_law_440 (by decide) ?_
  refine W.widen (k := 19 + T1.1 + (j + 1)) (n := 38467 + sg T1 + 6 * (j + 1)) (by omega) (by omega) ?_
  exact kk ad f g H locs ls hg hf rfl hV1 hrc1 hJ1 G hl
set_option maxHeartbeats 4000000 in
set_option maxRecDepth 100000 in
theorem y_a4 {p : Program} {e : Env} {s : State} {m : MethodId} {below : List Frame} {meth : Method} {c : Code} (l : Launch) (hst : l.stackTraces = false) {b L : Nat} {xs : Nat → Int32} (hx : p.tables.exec = Jvm.exec) (hb : c.code = code) (hml : c.maxLocals = 9) (hown : s.vm.findClass RL = some m.cls) (hts : ∀ w ∈ lw_tbl, w.before #[Value.ref b] s = true) (hX0 : va_X b L xs s s.heap) (hbl : b < s.heap.size) (hX : xT (fun q => s.heap.size ≤ q) s) (hN : nC s) (hTS : sAll s.heap.size s) {D : va_G} {cI cJ cZ cMic cSrc cSt cAI cAJ cD : ClassId} (hK : va_K D vwCl (CT cI cJ cZ cMic cSrc cSt cAI cAJ ++ [(cD, .double)]) s) {Q : State → Prop} {i j : Nat} (hi : i + 6 ≤ L) (hL : L ≤ 3072) (hj : j < 512) {aj ae : Nat} {ad am : Nat → Nat} {T : AT} {Sm : MS} {f : Nat → Int64} {g : Nat → UInt64} {ls : Array Slot} {H : Heap} {locs : List Loc} (hV : IV aR0 1586 aK1 aK2 T) (hrc : RC T) (hJ : JJ Sm) (G : gL cI cJ cZ cMic cSrc cSt cAI cAJ D ad (fun q => s.heap.size ≤ q) s.heap H locs T (oJ aj cJ f :: oD ae cD g :: MW cI cJ cZ am Sm)) (hl : lv_has ls 9 [(5, .int (nI i)), (4, .ref ae), (3, .ref aj), (2, .ref (am 0)), (1, .ref (ad 0)), (0, .ref b)]) (kk : ∀ {r1 : Int32} {T1 : AT} {r2 : Int32} {S1 : MS} (ad2 : Nat → Nat) (f1 : Nat → Int64) (g1 : Nat → UInt64) (H1 : Heap) (locs1 : List Loc) (ls1 : Array Slot), g_X11_buffered T 0 = some (r1, T1) → fr_buffered Sm = some (r2, S1) → ad2 0 = ad 0 → IV aR0 1586 aK1 aK2 T1 → RC T1 → JJ S1 → gL cI cJ cZ cMic cSrc cSt cAI cAJ D ad2 (fun q => s.heap.size ≤ q) s.heap H1 locs1 T1 (oJ aj cJ f1 :: oD ae cD g1 :: MW cI cJ cZ am S1) → lv_has ls1 9 [(5, .int (nI i)), (4, .ref ae), (3, .ref aj), (2, .ref (am 0)), (1, .ref (ad2 0)), (0, .ref b)] → W p l e room_1 s m #[Value.ref b] below meth c H1 locs1 (19 + T1.1 + (j + 1)) (38467 + sg T1 + 6 * (j + 1)) Q (F0 m 2439 ls1 [])) : W p l e room_1 s m #[Value.ref b] below meth c H locs (19 + T.1 + j) (38467 + sg T + 6 * j) Q (F0 m 443 ls []) := by
  have E : cE p c cL_law s m #[Value.ref b] lw_tbl D RL (CT cI cJ cZ cMic cSrc cSt cAI cAJ ++ [(cD, .double)]) := ⟨hx, hb, hts, hown, hK⟩
  have hA : ∀ q : Nat, s.heap.size ≤ q → s.heap.size ≤ q := fun _ h => h
  have h0T : 0 < T.1 := Nat.lt_of_lt_of_le (by decide) hV.1.2.2
  have h0s : T.2.1 0 = (11, 0) := hV.2.1 0 ⟨by decide, by decide +kernel, by decide +kernel⟩
  refine lv_aload_n hx hb dL_law_443 rfl (lv_at hl 4 rfl) ?_
  obtain ⟨⟨r1, T1⟩, hg, hc⟩ := cs_X11_buffered T 0 hV (by decide +kernel)
  have hV1 : IV aR0 1586 aK1 aK2 T1 := by rw [show T1 = T from hc.1]; exact hV
  have hg1 := (gl_sp (s_X11_buffered hg))
  have hg2 := sg_le hg1
  have hg3 := hg1.1
  have hk := hV1.2.2.2.2.2.2
  have hrc1 := hg1.2.2 hrc
  have hr0 := a_room
  refine t_cvi (As := []) (rest := []) E G hA hX hX.2.2.2.1 hml (u_X11_buffered l hst D cI cJ cZ cMic cSrc cSt cAI cAJ ad T 0  hg) (cwV 0 hts (glA (L := [Cond.methodLink RL 212 yX11_buffered, Cond.instanceMethod yX11_buffered, Cond.selects RX11 yX11_buffered yX11_buffered, Cond.initialized RX11]) (gl_in [(3, 64), (3, 65), (3, 66), (1, 1)] (by decide +kernel) (by decide +kernel)) ⟨(t_of [Cond.code yX11_buffered cX11_buffered 1 (some .int)] [(3, 67)] (by decide +kernel) _ List.mem_cons_self), List.all_eq_true.mp (by decide +kernel : [Cond.code yX11_buffered cX11_buffered 1 (some .int)].all goodWord = true) _ List.mem_cons_self⟩) rfl rfl rfl (by decide +kernel) ⟨Nat.le_of_ble_eq_true rfl, Nat.le_of_ble_eq_true rfl⟩) h0T (cc_o11 h0s) rfl rfl hl.1 rfl (lv_room (Nat.le_of_ble_eq_true rfl)) dL_law_444 ⟨by show _ ≤ 601024; omega, by show _ ≤ 7293034; omega⟩ ?_
  intro r9 T9 H locs hp G
  obtain ⟨hr9, hS1⟩ := hp
  rw [hS1] at G
  refine lv_to (y := r1) hr9 ?_
  refine lv_pop hx hb dL_law_447 rfl ?_
  refine lv_aload_n hx hb dL_law_448 rfl (lv_at hl 3 rfl) ?_
  obtain ⟨⟨r2, S1⟩, hf, hj⟩ := sj_buffered Sm hJ
  have hJ1 : JJ S1 := hj
  refine y_mi (As := []) (rest := []) E G hA hX.2.2.2.2 hml (tr_buffered l D cI cJ cZ am Sm  hf) (cwV 0 hts (glM (L := [Cond.methodLink RL 215 yX12_buffered, Cond.instanceMethod yX12_buffered, Cond.selects RX12 yX12_buffered yX12_buffered, Cond.initialized RX12]) (gl_in [(8, 77), (8, 78), (8, 79), (1, 14)] (by decide +kernel) (by decide +kernel)) ⟨(t_of [Cond.code yX12_buffered cX12_buffered 1 (some .int)] [(8, 80)] (by decide +kernel) _ List.mem_cons_self), List.all_eq_true.mp (by decide +kernel : [Cond.code yX12_buffered cX12_buffered 1 (some .int)].all goodWord = true) _ List.mem_cons_self⟩) rfl rfl rfl (by decide +kernel) ⟨Nat.le_of_ble_eq_true rfl, Nat.le_of_ble_eq_true rfl⟩) rfl hl.1 rfl (lv_room (Nat.le_of_ble_eq_true rfl)) dL_law_449 ⟨by show _ ≤ 601024; omega, by show _ ≤ 7293034; omega⟩ (fun H locs G => ?_)
  refine lv_pop hx hb dL_law_452 rfl ?_
  refine lv_goto (tgt := 2439) hx hb dL_law_453 (by decide) ?_
  refine W.widen (k := 19 + T1.1 + (j + 1)) (n := 38467 + sg T1 + 6 * (j + 1)) (by omega) (by omega) ?_
  exact kk ad f g H locs ls hg hf rfl hV1 hrc1 hJ1 G hl
set_option maxHeartbeats 4000000 in
set_option maxRecDepth 100000 in
theorem y_a5 {p : Program} {e : Env} {s : State} {m : MethodId} {below : List Frame} {meth : Method} {c : Code} (l : Launch) (hst : l.stackTraces = false) {b L : Nat} {xs : Nat → Int32} (hx : p.tables.exec = Jvm.exec) (hb : c.code = code) (hml : c.maxLocals = 9) (hown : s.vm.findClass RL = some m.cls) (hts : ∀ w ∈ lw_tbl, w.before #[Value.ref b] s = true) (hX0 : va_X b L xs s s.heap) (hbl : b < s.heap.size) (hX : xT (fun q => s.heap.size ≤ q) s) (hN : nC s) (hTS : sAll s.heap.size s) {D : va_G} {cI cJ cZ cMic cSrc cSt cAI cAJ cD : ClassId} (hK : va_K D vwCl (CT cI cJ cZ cMic cSrc cSt cAI cAJ ++ [(cD, .double)]) s) {Q : State → Prop} {i j : Nat} (hi : i + 6 ≤ L) (hL : L ≤ 3072) (hj : j < 512) {aj ae : Nat} {ad am : Nat → Nat} {T : AT} {Sm : MS} {f : Nat → Int64} {g : Nat → UInt64} {ls : Array Slot} {H : Heap} {locs : List Loc} (hV : IV aR0 1586 aK1 aK2 T) (hrc : RC T) (hJ : JJ Sm) (G : gL cI cJ cZ cMic cSrc cSt cAI cAJ D ad (fun q => s.heap.size ≤ q) s.heap H locs T (oJ aj cJ f :: oD ae cD g :: MW cI cJ cZ am Sm)) (hl : lv_has ls 9 [(5, .int (nI i)), (4, .ref ae), (3, .ref aj), (2, .ref (am 0)), (1, .ref (ad 0)), (0, .ref b)]) (kk : ∀ {r1 : Int32} {T1 : AT} {r2 : Int32} {S1 : MS} (ad2 : Nat → Nat) (f1 : Nat → Int64) (g1 : Nat → UInt64) (H1 : Heap) (locs1 : List Loc) (ls1 : Array Slot), g_X11_mics T 0 = some (r1, T1) → fr_mics Sm = some (r2, S1) → ad2 0 = ad 0 → IV aR0 1586 aK1 aK2 T1 → RC T1 → JJ S1 → gL cI cJ cZ cMic cSrc cSt cAI cAJ D ad2 (fun q => s.heap.size ≤ q) s.heap H1 locs1 T1 (oJ aj cJ f1 :: oD ae cD g1 :: MW cI cJ cZ am S1) → lv_has ls1 9 [(5, .int (nI i)), (4, .ref ae), (3, .ref aj), (2, .ref (am 0)), (1, .ref (ad2 0)), (0, .ref b)] → W p l e room_1 s m #[Value.ref b] below meth c H1 locs1 (19 + T1.1 + (j + 1)) (38467 + sg T1 + 6 * (j + 1)) Q (F0 m 2439 ls1 [])) : W p l e room_1 s m #[Value.ref b] below meth c H locs (19 + T.1 + j) (38467 + sg T + 6 * j) Q (F0 m 456 ls []) := by
  have E : cE p c cL_law s m #[Value.ref b] lw_tbl D RL (CT cI cJ cZ cMic cSrc cSt cAI cAJ ++ [(cD, .double)]) := ⟨hx, hb, hts, hown, hK⟩
  have hA : ∀ q : Nat, s.heap.size ≤ q → s.heap.size ≤ q := fun _ h => h
  have h0T : 0 < T.1 := Nat.lt_of_lt_of_le (by decide) hV.1.2.2
  have h0s : T.2.1 0 = (11, 0) := hV.2.1 0 ⟨by decide, by decide +kernel, by decide +kernel⟩
  refine lv_aload_n hx hb dL_law_456 rfl (lv_at hl 4 rfl) ?_
  obtain ⟨⟨r1, T1⟩, hg, hc⟩ := cs_X11_mics T 0 hV (by decide +kernel)
  have hV1 : IV aR0 1586 aK1 aK2 T1 := by rw [show T1 = T from hc.1]; exact hV
  have hg1 := (gl_sp (s_X11_mics hg))
  have hg2 := sg_le hg1
  have hg3 := hg1.1
  have hk := hV1.2.2.2.2.2.2
  have hrc1 := hg1.2.2 hrc
  have hr0 := a_room
  refine t_cvi (As := []) (rest := []) E G hA hX hX.2.2.2.1 hml (u_X11_mics l hst D cI cJ cZ cMic cSrc cSt cAI cAJ ad T 0  hg) (cwV 0 hts (glA (L := [Cond.methodLink RL 216 yX11_mics, Cond.instanceMethod yX11_mics, Cond.selects RX11 yX11_mics yX11_mics, Cond.initialized RX11]) (gl_in [(3, 68), (3, 69), (3, 70), (1, 1)] (by decide +kernel) (by decide +kernel)) ⟨(t_of [Cond.code yX11_mics cX11_mics 1 (some .int)] [(3, 71)] (by decide +kernel) _ List.mem_cons_self), List.all_eq_true.mp (by decide +kernel : [Cond.code yX11_mics cX11_mics 1 (some .int)].all goodWord = true) _ List.mem_cons_self⟩) rfl rfl rfl (by decide +kernel) ⟨Nat.le_of_ble_eq_true rfl, Nat.le_of_ble_eq_true rfl⟩) h0T (cc_o11 h0s) rfl rfl hl.1 rfl (lv_room (Nat.le_of_ble_eq_true rfl)) dL_law_457 ⟨by show _ ≤ 601024; omega, by show _ ≤ 7293034; omega⟩ ?_
  intro r9 T9 H locs hp G
  obtain ⟨hr9, hS1⟩ := hp
  rw [hS1] at G
  refine lv_to (y := r1) hr9 ?_
  refine lv_pop hx hb dL_law_460 rfl ?_
  refine lv_aload_n hx hb dL_law_461 rfl (lv_at hl 3 rfl) ?_
  obtain ⟨⟨r2, S1⟩, hf, hj⟩ := sj_mics Sm hJ
  have hJ1 : JJ S1 := hj
  refine y_mi (As := []) (rest := []) E G hA hX.2.2.2.2 hml (tr_mics l D cI cJ cZ am Sm  hf) (cwV 0 hts (glM (L := [Cond.methodLink RL 219 yX12_mics, Cond.instanceMethod yX12_mics, Cond.selects RX12 yX12_mics yX12_mics, Cond.initialized RX12]) (gl_in [(9, 40), (9, 41), (9, 42), (1, 14)] (by decide +kernel) (by decide +kernel)) ⟨(t_of [Cond.code yX12_mics cX12_mics 1 (some .int)] [(9, 43)] (by decide +kernel) _ List.mem_cons_self), List.all_eq_true.mp (by decide +kernel : [Cond.code yX12_mics cX12_mics 1 (some .int)].all goodWord = true) _ List.mem_cons_self⟩) rfl rfl rfl (by decide +kernel) ⟨Nat.le_of_ble_eq_true rfl, Nat.le_of_ble_eq_true rfl⟩) rfl hl.1 rfl (lv_room (Nat.le_of_ble_eq_true rfl)) dL_law_462 ⟨by show _ ≤ 601024; omega, by show _ ≤ 7293034; omega⟩ (fun H locs G => ?_)
  refine lv_pop hx hb dL_law_465 rfl ?_
  refine lv_goto (tgt := 2439) hx hb dL_law_466 (by decide) ?_
  refine W.widen (k := 19 + T1.1 + (j + 1)) (n := 38467 + sg T1 + 6 * (j + 1)) (by omega) (by omega) ?_
  exact kk ad f g H locs ls hg hf rfl hV1 hrc1 hJ1 G hl
set_option maxHeartbeats 4000000 in
set_option maxRecDepth 100000 in
theorem y_a6 {p : Program} {e : Env} {s : State} {m : MethodId} {below : List Frame} {meth : Method} {c : Code} (l : Launch) (hst : l.stackTraces = false) {b L : Nat} {xs : Nat → Int32} (hx : p.tables.exec = Jvm.exec) (hb : c.code = code) (hml : c.maxLocals = 9) (hown : s.vm.findClass RL = some m.cls) (hts : ∀ w ∈ lw_tbl, w.before #[Value.ref b] s = true) (hX0 : va_X b L xs s s.heap) (hbl : b < s.heap.size) (hX : xT (fun q => s.heap.size ≤ q) s) (hN : nC s) (hTS : sAll s.heap.size s) {D : va_G} {cI cJ cZ cMic cSrc cSt cAI cAJ cD : ClassId} (hK : va_K D vwCl (CT cI cJ cZ cMic cSrc cSt cAI cAJ ++ [(cD, .double)]) s) {Q : State → Prop} {i j : Nat} (hi : i + 6 ≤ L) (hL : L ≤ 3072) (hj : j < 512) {aj ae : Nat} {ad am : Nat → Nat} {T : AT} {Sm : MS} {f : Nat → Int64} {g : Nat → UInt64} {ls : Array Slot} {H : Heap} {locs : List Loc} (hV : IV aR0 1586 aK1 aK2 T) (hrc : RC T) (hJ : JJ Sm) (G : gL cI cJ cZ cMic cSrc cSt cAI cAJ D ad (fun q => s.heap.size ≤ q) s.heap H locs T (oJ aj cJ f :: oD ae cD g :: MW cI cJ cZ am Sm)) (hl : lv_has ls 9 [(5, .int (nI i)), (4, .ref ae), (3, .ref aj), (2, .ref (am 0)), (1, .ref (ad 0)), (0, .ref b)]) (hq : ∀ {k1 : Nat} {r1 : Int32} {T1 : AT} {r2 : Int32} {S1 : MS}, g_X11_micAt T 0 (xs (i + 1)) (xs (i + 2)) = some (k1, r1, T1) → fr_micAt Sm (xs (i + 1)) (xs (i + 2)) = some (r2, S1) → (S1.1 0) = (vck 1 2 3 k1) ∧ ((vck 1 2 3 k1) = 0 → k1 = 0 ∧ r1 = r2)) (kk : ∀ {k1 : Nat} {r1 : Int32} {T1 : AT} {r2 : Int32} {S1 : MS} (ad2 : Nat → Nat) (f1 : Nat → Int64) (g1 : Nat → UInt64) (H1 : Heap) (locs1 : List Loc) (ls1 : Array Slot), g_X11_micAt T 0 (xs (i + 1)) (xs (i + 2)) = some (k1, r1, T1) → fr_micAt Sm (xs (i + 1)) (xs (i + 2)) = some (r2, S1) → ad2 0 = ad 0 → IV aR0 1586 aK1 aK2 T1 → RC T1 → JJ S1 → gL cI cJ cZ cMic cSrc cSt cAI cAJ D ad2 (fun q => s.heap.size ≤ q) s.heap H1 locs1 T1 (oJ aj cJ f1 :: oD ae cD g1 :: MW cI cJ cZ am S1) → lv_has ls1 9 [(5, .int (nI i)), (4, .ref ae), (3, .ref aj), (2, .ref (am 0)), (1, .ref (ad2 0)), (0, .ref b)] → W p l e room_1 s m #[Value.ref b] below meth c H1 locs1 (19 + T1.1 + (j + 1)) (38467 + sg T1 + 6 * (j + 1)) Q (F0 m 2439 ls1 [])) : W p l e room_1 s m #[Value.ref b] below meth c H locs (19 + T.1 + j) (38467 + sg T + 6 * j) Q (F0 m 469 ls []) := by
  have E : cE p c cL_law s m #[Value.ref b] lw_tbl D RL (CT cI cJ cZ cMic cSrc cSt cAI cAJ ++ [(cD, .double)]) := ⟨hx, hb, hts, hown, hK⟩
  have hA : ∀ q : Nat, s.heap.size ≤ q → s.heap.size ≤ q := fun _ h => h
  have h0T : 0 < T.1 := Nat.lt_of_lt_of_le (by decide) hV.1.2.2
  have h0s : T.2.1 0 = (11, 0) := hV.2.1 0 ⟨by decide, by decide +kernel, by decide +kernel⟩
  refine lv_aload_n hx hb dL_law_469 rfl (lv_at hl 4 rfl) ?_
  refine lv_aload_n hx hb dL_law_470 rfl (lv_at hl 5 rfl) ?_
  refine lv_iload hx hb dL_law_471 (lv_at hl 0 rfl) ?_
  refine lv_iconst (v := 1) hx hb dL_law_473 (by decide) ?_
  refine lv_iadd hx hb dL_law_474 ?_
  refine lv_to (y := nI (i + 1)) (nI_add i 1) ?_
  refine va_sld hx hb hX0 hbl (Nat.not_le.mpr hbl) G.2.2 (i := nI (i + 1)) (vp_in_nI (n := i + 1) (N := L) (by omega) (by omega)) dL_law_475 ?_
  refine lv_to (y := xs (i + 1)) (congrArg xs (nI_clamp (by omega))) ?_
  refine lv_aload_n hx hb dL_law_476 rfl (lv_at hl 5 rfl) ?_
  refine lv_iload hx hb dL_law_477 (lv_at hl 0 rfl) ?_
  refine lv_iconst (v := 2) hx hb dL_law_479 (by decide) ?_
  refine lv_iadd hx hb dL_law_480 ?_
  refine lv_to (y := nI (i + 2)) (nI_add i 2) ?_
  refine va_sld hx hb hX0 hbl (Nat.not_le.mpr hbl) G.2.2 (i := nI (i + 2)) (vp_in_nI (n := i + 2) (N := L) (by omega) (by omega)) dL_law_481 ?_
  refine lv_to (y := xs (i + 2)) (congrArg xs (nI_clamp (by omega))) ?_
  refine lv_aload_n hx hb dL_law_482 rfl (lv_at hl 2 rfl) ?_
  obtain ⟨⟨k1, r1, T1⟩, hg, hc⟩ := cs_X11_micAt T 0 (xs (i + 1)) (xs (i + 2)) hV (by decide +kernel)
  have hV1 : IV aR0 1586 aK1 aK2 T1 := by rw [show T1 = T from hc.1]; exact hV
  have hg1 := (gl_sp (s_X11_micAt hg))
  have hg2 := sg_le hg1
  have hg3 := hg1.1
  have hk := hV1.2.2.2.2.2.2
  have hrc1 := hg1.2.2 hrc
  have hr0 := a_room
  refine l_v (h0 := s.heap.size) (As := [.ref (ad 0), .int (xs (i + 1)), .int (xs (i + 2)), .ref aj]) (rest := []) E G hA hX hN (fun _ h => h) hTS hml (v_micAt l hst D s.heap.size ad T 0 (xs (i + 1)) (xs (i + 2)) aj f hg hrc h0T h0s) (vx_cwSW 4 hts (glA (L := [Cond.methodLink RL 220 yL_micAt, Cond.static yL_micAt, Cond.initialized RL]) (gl_in [(5, 20), (5, 21), (1, 0)] (by decide +kernel) (by decide +kernel)) ⟨(t_of [Cond.codeWith yL_micAt cL_micAt 5 (some .int) [(0, 10, 13, 21), (0, 10, 17, 13), (0, 10, 21, 15)]] [(5, 22)] (by decide +kernel) _ List.mem_cons_self), List.all_eq_true.mp (by decide +kernel : [Cond.codeWith yL_micAt cL_micAt 5 (some .int) [(0, 10, 13, 21), (0, 10, 17, 13), (0, 10, 21, 15)]].all goodWord = true) _ List.mem_cons_self⟩) rfl rfl rfl (by decide +kernel) ⟨Nat.le_of_ble_eq_true rfl, Nat.le_of_ble_eq_true rfl⟩) rfl hl.1 rfl (lv_room (Nat.le_of_ble_eq_true rfl)) dL_law_483 ⟨by show _ ≤ 601024; omega, by show _ ≤ 7293034; omega⟩ ?_
  intro ad2 H locs had G
  rw [← had 0 h0T] at hl
  refine lv_istore (lv' := [(6, .int (vck 1 2 3 k1)), (5, .int (nI i)), (4, .ref ae), (3, .ref aj), (2, .ref (am 0)), (1, .ref (ad2 0)), (0, .ref b)]) hx hb dL_law_486 hl (by decide) rfl (fun ls hl => ?_)
  refine lv_aload_n hx hb dL_law_488 rfl (lv_at hl 4 rfl) ?_
  refine lv_aload_n hx hb dL_law_489 rfl (lv_at hl 6 rfl) ?_
  refine lv_iload hx hb dL_law_490 (lv_at hl 1 rfl) ?_
  refine lv_iconst (v := 1) hx hb dL_law_492 (by decide) ?_
  refine lv_iadd hx hb dL_law_493 ?_
  refine lv_to (y := nI (i + 1)) (nI_add i 1) ?_
  refine va_sld hx hb hX0 hbl (Nat.not_le.mpr hbl) G.2.2 (i := nI (i + 1)) (vp_in_nI (n := i + 1) (N := L) (by omega) (by omega)) dL_law_494 ?_
  refine lv_to (y := xs (i + 1)) (congrArg xs (nI_clamp (by omega))) ?_
  refine lv_aload_n hx hb dL_law_495 rfl (lv_at hl 6 rfl) ?_
  refine lv_iload hx hb dL_law_496 (lv_at hl 1 rfl) ?_
  refine lv_iconst (v := 2) hx hb dL_law_498 (by decide) ?_
  refine lv_iadd hx hb dL_law_499 ?_
  refine lv_to (y := nI (i + 2)) (nI_add i 2) ?_
  refine va_sld hx hb hX0 hbl (Nat.not_le.mpr hbl) G.2.2 (i := nI (i + 2)) (vp_in_nI (n := i + 2) (N := L) (by omega) (by omega)) dL_law_500 ?_
  refine lv_to (y := xs (i + 2)) (congrArg xs (nI_clamp (by omega))) ?_
  obtain ⟨⟨r2, S1⟩, hf, hj⟩ := sj_micAt Sm (xs (i + 1)) (xs (i + 2)) hJ
  have hJ1 : JJ S1 := hj
  refine y_mi (As := [.int (xs (i + 1)), .int (xs (i + 2))]) (rest := []) E G hA hX.2.2.2.2 hml (tr_micAt l D cI cJ cZ am Sm (xs (i + 1)) (xs (i + 2)) hf) (cwV 2 hts (glM (L := [Cond.methodLink RL 223 yX12_micAt, Cond.instanceMethod yX12_micAt, Cond.selects RX12 yX12_micAt yX12_micAt, Cond.initialized RX12]) (gl_in [(9, 48), (9, 49), (9, 50), (1, 14)] (by decide +kernel) (by decide +kernel)) ⟨(t_of [Cond.code yX12_micAt cX12_micAt 3 (some .int)] [(9, 51)] (by decide +kernel) _ List.mem_cons_self), List.all_eq_true.mp (by decide +kernel : [Cond.code yX12_micAt cX12_micAt 3 (some .int)].all goodWord = true) _ List.mem_cons_self⟩) rfl rfl rfl (by decide +kernel) ⟨Nat.le_of_ble_eq_true rfl, Nat.le_of_ble_eq_true rfl⟩) rfl hl.1 rfl (lv_room (Nat.le_of_ble_eq_true rfl)) dL_law_501 ⟨by show _ ≤ 601024; omega, by show _ ≤ 7293034; omega⟩ (fun H locs G => ?_)
  refine lv_istore (lv' := [(7, .int r2), (6, .int (vck 1 2 3 k1)), (5, .int (nI i)), (4, .ref ae), (3, .ref aj), (2, .ref (am 0)), (1, .ref (ad2 0)), (0, .ref b)]) hx hb dL_law_504 hl (by decide) rfl (fun ls hl => ?_)
  refine lv_aload_n hx hb dL_law_506 rfl (lv_at hl 5 rfl) ?_
  refine y_mi (As := []) (rest := []) E G hA hX.2.2.2.2 hml (tr_thrown l D cI cJ cZ am S1 (r1 := S1.1 0) (S1 := S1) rfl) (cwV 0 hts (glM (L := [Cond.methodLink RL 224 yX12_thrown, Cond.instanceMethod yX12_thrown, Cond.selects RX12 yX12_thrown yX12_thrown, Cond.initialized RX12]) (gl_in [(8, 65), (8, 66), (8, 67), (1, 14)] (by decide +kernel) (by decide +kernel)) ⟨(t_of [Cond.code yX12_thrown cX12_thrown 1 (some .int)] [(8, 68)] (by decide +kernel) _ List.mem_cons_self), List.all_eq_true.mp (by decide +kernel : [Cond.code yX12_thrown cX12_thrown 1 (some .int)].all goodWord = true) _ List.mem_cons_self⟩) rfl rfl rfl (by decide +kernel) ⟨Nat.le_of_ble_eq_true rfl, Nat.le_of_ble_eq_true rfl⟩) rfl hl.1 rfl (lv_room (Nat.le_of_ble_eq_true rfl)) dL_law_507 ⟨by show _ ≤ 601024; omega, by show _ ≤ 7293034; omega⟩ (fun H locs G => ?_)
  refine lv_iload hx hb dL_law_510 (lv_at hl 1 rfl) ?_
  refine lv_icmp_eq (tgt := 517) hx hb dL_law_512 (by decide) (fun c1 => ?_) (fun c1 => absurd (hq hg hf).1 c1)
  refine lv_iload hx hb dL_law_517 (lv_at hl 1 rfl) ?_
  refine lv_if_ne (tgt := 534) hx hb dL_law_519 (by decide) (fun c1 => ?_) (fun c1 => ?_)
  · refine lv_goto (tgt := 2439) hx hb dL_law_534 (by decide) ?_
    have hl := lv_sub hl [2, 3, 4, 5, 6, 7] rfl
    refine W.widen (k := 19 + T1.1 + (j + 1)) (n := 38467 + sg T1 + 6 * (j + 1)) (by omega) (by omega) ?_
    exact kk ad2 (vfJ k1 f r1.toInt64) g H locs ls hg hf (had 0 h0T) hV1 hrc1 hJ1 G hl
  obtain ⟨hk0, hq2⟩ := (hq hg hf).2 c1
  subst hk0
  refine lv_aload_n hx hb dL_law_522 rfl (lv_at hl 4 rfl) ?_
  refine lv_iconst (v := 0) hx hb dL_law_523 (by decide) ?_
  refine va_lald hx hb hK G.1 T1.1 1 (tW_at _ _ _ _ _) rfl (vp_in_nI (n := 0) (N := 1) (by decide) (by decide)) dL_law_524 ?_
  rw [show (vfJ 0 f r1.toInt64) (0 : Int32).toNatClampNeg = r1.toInt64 from rfl]
  refine lv_iload hx hb dL_law_525 (lv_at hl 0 rfl) ?_
  refine lv_i2l (v := r2.toInt64) hx hb dL_law_527 rfl ?_
  refine W.lcmp hx hb dL_law_528 ?_
  refine lv_if_eq (tgt := 534) hx hb dL_law_529 (by decide) (fun c1 => ?_) (fun c1 => absurd (by rw [hq2]; exact lg_cmp_rf _) c1)
  refine lv_goto (tgt := 2439) hx hb dL_law_534 (by decide) ?_
  have hl := lv_sub hl [2, 3, 4, 5, 6, 7] rfl
  refine W.widen (k := 19 + T1.1 + (j + 1)) (n := 38467 + sg T1 + 6 * (j + 1)) (by omega) (by omega) ?_
  exact kk ad2 (vfJ 0 f r1.toInt64) g H locs ls hg hf (had 0 h0T) hV1 hrc1 hJ1 G hl
set_option maxHeartbeats 4000000 in
set_option maxRecDepth 100000 in
theorem y_a7 {p : Program} {e : Env} {s : State} {m : MethodId} {below : List Frame} {meth : Method} {c : Code} (l : Launch) (hst : l.stackTraces = false) {b L : Nat} {xs : Nat → Int32} (hx : p.tables.exec = Jvm.exec) (hb : c.code = code) (hml : c.maxLocals = 9) (hown : s.vm.findClass RL = some m.cls) (hts : ∀ w ∈ lw_tbl, w.before #[Value.ref b] s = true) (hX0 : va_X b L xs s s.heap) (hbl : b < s.heap.size) (hX : xT (fun q => s.heap.size ≤ q) s) (hN : nC s) (hTS : sAll s.heap.size s) {D : va_G} {cI cJ cZ cMic cSrc cSt cAI cAJ cD : ClassId} (hK : va_K D vwCl (CT cI cJ cZ cMic cSrc cSt cAI cAJ ++ [(cD, .double)]) s) {Q : State → Prop} {i j : Nat} (hi : i + 6 ≤ L) (hL : L ≤ 3072) (hj : j < 512) {aj ae : Nat} {ad am : Nat → Nat} {T : AT} {Sm : MS} {f : Nat → Int64} {g : Nat → UInt64} {ls : Array Slot} {H : Heap} {locs : List Loc} (hV : IV aR0 1586 aK1 aK2 T) (hrc : RC T) (hJ : JJ Sm) (G : gL cI cJ cZ cMic cSrc cSt cAI cAJ D ad (fun q => s.heap.size ≤ q) s.heap H locs T (oJ aj cJ f :: oD ae cD g :: MW cI cJ cZ am Sm)) (hl : lv_has ls 9 [(5, .int (nI i)), (4, .ref ae), (3, .ref aj), (2, .ref (am 0)), (1, .ref (ad 0)), (0, .ref b)]) (kk : ∀ {k1 : Nat} {r1 : Int32} {T1 : AT} {r2 : Int32} {S1 : MS} (ad2 : Nat → Nat) (f1 : Nat → Int64) (g1 : Nat → UInt64) (H1 : Heap) (locs1 : List Loc) (ls1 : Array Slot), g_X11_isMuted T 0 (xs (i + 1)) = some (k1, r1, T1) → fr_isMuted Sm (xs (i + 1)) = some (r2, S1) → ad2 0 = ad 0 → IV aR0 1586 aK1 aK2 T1 → RC T1 → JJ S1 → gL cI cJ cZ cMic cSrc cSt cAI cAJ D ad2 (fun q => s.heap.size ≤ q) s.heap H1 locs1 T1 (oJ aj cJ f1 :: oD ae cD g1 :: MW cI cJ cZ am S1) → lv_has ls1 9 [(5, .int (nI i)), (4, .ref ae), (3, .ref aj), (2, .ref (am 0)), (1, .ref (ad2 0)), (0, .ref b)] → W p l e room_1 s m #[Value.ref b] below meth c H1 locs1 (19 + T1.1 + (j + 1)) (38467 + sg T1 + 6 * (j + 1)) Q (F0 m 2439 ls1 [])) : W p l e room_1 s m #[Value.ref b] below meth c H locs (19 + T.1 + j) (38467 + sg T + 6 * j) Q (F0 m 537 ls []) := by
  have E : cE p c cL_law s m #[Value.ref b] lw_tbl D RL (CT cI cJ cZ cMic cSrc cSt cAI cAJ ++ [(cD, .double)]) := ⟨hx, hb, hts, hown, hK⟩
  have hA : ∀ q : Nat, s.heap.size ≤ q → s.heap.size ≤ q := fun _ h => h
  have h0T : 0 < T.1 := Nat.lt_of_lt_of_le (by decide) hV.1.2.2
  have h0s : T.2.1 0 = (11, 0) := hV.2.1 0 ⟨by decide, by decide +kernel, by decide +kernel⟩
  refine lv_aload_n hx hb dL_law_537 rfl (lv_at hl 4 rfl) ?_
  refine lv_aload_n hx hb dL_law_538 rfl (lv_at hl 5 rfl) ?_
  refine lv_iload hx hb dL_law_539 (lv_at hl 0 rfl) ?_
  refine lv_iconst (v := 1) hx hb dL_law_541 (by decide) ?_
  refine lv_iadd hx hb dL_law_542 ?_
  refine lv_to (y := nI (i + 1)) (nI_add i 1) ?_
  refine va_sld hx hb hX0 hbl (Nat.not_le.mpr hbl) G.2.2 (i := nI (i + 1)) (vp_in_nI (n := i + 1) (N := L) (by omega) (by omega)) dL_law_543 ?_
  refine lv_to (y := xs (i + 1)) (congrArg xs (nI_clamp (by omega))) ?_
  refine lv_aload_n hx hb dL_law_544 rfl (lv_at hl 2 rfl) ?_
  obtain ⟨⟨k1, r1, T1⟩, hg, hc⟩ := cs_X11_isMuted T 0 (xs (i + 1)) hV (by decide +kernel)
  have hV1 : IV aR0 1586 aK1 aK2 T1 := by rw [show T1 = T from hc.1]; exact hV
  have hg1 := (gl_sp (s_X11_isMuted hg))
  have hg2 := sg_le hg1
  have hg3 := hg1.1
  have hk := hV1.2.2.2.2.2.2
  have hrc1 := hg1.2.2 hrc
  have hr0 := a_room
  refine l_v (h0 := s.heap.size) (As := [.ref (ad 0), .int (xs (i + 1)), .ref aj]) (rest := []) E G hA hX hN (fun _ h => h) hTS hml (v_isMuted l hst D s.heap.size ad T 0 (xs (i + 1)) aj f hg hrc h0T h0s) (vx_cwSW 3 hts (glA (L := [Cond.methodLink RL 227 yL_isMuted, Cond.static yL_isMuted, Cond.initialized RL]) (gl_in [(5, 59), (5, 60), (1, 0)] (by decide +kernel) (by decide +kernel)) ⟨(t_of [Cond.codeWith yL_isMuted cL_isMuted 4 (some .int) [(0, 16, 19, 21), (0, 16, 22, 13)]] [(5, 61)] (by decide +kernel) _ List.mem_cons_self), List.all_eq_true.mp (by decide +kernel : [Cond.codeWith yL_isMuted cL_isMuted 4 (some .int) [(0, 16, 19, 21), (0, 16, 22, 13)]].all goodWord = true) _ List.mem_cons_self⟩) rfl rfl rfl (by decide +kernel) ⟨Nat.le_of_ble_eq_true rfl, Nat.le_of_ble_eq_true rfl⟩) rfl hl.1 rfl (lv_room (Nat.le_of_ble_eq_true rfl)) dL_law_545 ⟨by show _ ≤ 601024; omega, by show _ ≤ 7293034; omega⟩ ?_
  intro ad2 H locs had G
  rw [← had 0 h0T] at hl
  refine lv_istore (lv' := [(6, .int (vck 1 2 0 k1)), (5, .int (nI i)), (4, .ref ae), (3, .ref aj), (2, .ref (am 0)), (1, .ref (ad2 0)), (0, .ref b)]) hx hb dL_law_548 hl (by decide) rfl (fun ls hl => ?_)
  refine lv_aload_n hx hb dL_law_550 rfl (lv_at hl 4 rfl) ?_
  refine lv_aload_n hx hb dL_law_551 rfl (lv_at hl 6 rfl) ?_
  refine lv_iload hx hb dL_law_552 (lv_at hl 1 rfl) ?_
  refine lv_iconst (v := 1) hx hb dL_law_554 (by decide) ?_
  refine lv_iadd hx hb dL_law_555 ?_
  refine lv_to (y := nI (i + 1)) (nI_add i 1) ?_
  refine va_sld hx hb hX0 hbl (Nat.not_le.mpr hbl) G.2.2 (i := nI (i + 1)) (vp_in_nI (n := i + 1) (N := L) (by omega) (by omega)) dL_law_556 ?_
  refine lv_to (y := xs (i + 1)) (congrArg xs (nI_clamp (by omega))) ?_
  obtain ⟨⟨r2, S1⟩, hf, hj⟩ := sj_isMuted Sm (xs (i + 1)) hJ
  have hJ1 : JJ S1 := hj
  refine y_mi (As := [.int (xs (i + 1))]) (rest := []) E G hA hX.2.2.2.2 hml (tr_isMuted l D cI cJ cZ am Sm (xs (i + 1)) hf) (cwV 1 hts (glM (L := [Cond.methodLink RL 229 yX12_isMuted, Cond.instanceMethod yX12_isMuted, Cond.selects RX12 yX12_isMuted yX12_isMuted, Cond.initialized RX12]) (gl_in [(9, 60), (9, 61), (9, 62), (1, 14)] (by decide +kernel) (by decide +kernel)) ⟨(t_of [Cond.code yX12_isMuted cX12_isMuted 2 (some .boolean)] [(9, 63)] (by decide +kernel) _ List.mem_cons_self), List.all_eq_true.mp (by decide +kernel : [Cond.code yX12_isMuted cX12_isMuted 2 (some .boolean)].all goodWord = true) _ List.mem_cons_self⟩) rfl rfl rfl (by decide +kernel) ⟨Nat.le_of_ble_eq_true rfl, Nat.le_of_ble_eq_true rfl⟩) rfl hl.1 rfl (lv_room (Nat.le_of_ble_eq_true rfl)) dL_law_557 ⟨by show _ ≤ 601024; omega, by show _ ≤ 7293034; omega⟩ (fun H locs G => ?_)
  refine lv_istore (lv' := [(7, .int r2), (6, .int (vck 1 2 0 k1)), (5, .int (nI i)), (4, .ref ae), (3, .ref aj), (2, .ref (am 0)), (1, .ref (ad2 0)), (0, .ref b)]) hx hb dL_law_560 hl (by decide) rfl (fun ls hl => ?_)
  refine lv_goto (tgt := 2439) hx hb dL_law_562 (by decide) ?_
  have hl := lv_sub hl [2, 3, 4, 5, 6, 7] rfl
  refine W.widen (k := 19 + T1.1 + (j + 1)) (n := 38467 + sg T1 + 6 * (j + 1)) (by omega) (by omega) ?_
  exact kk ad2 (vfJ k1 f (vzb r1)) g H locs ls hg hf (had 0 h0T) hV1 hrc1 hJ1 G hl
