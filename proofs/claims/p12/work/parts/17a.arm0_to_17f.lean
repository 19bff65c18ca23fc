section
/-! 17a.arm0.lean.txt -/
theorem lg_cmp_rf (x : Int64) : lg_cmp x x = 0 := by
  unfold lg_cmp
  rw [if_neg (show ¬ x > x from Int64.lt_irrefl), if_pos rfl]
theorem gl_in {ws : List Cond} (as : List (Nat × Nat)) (h : t_chk ws as = true) (g : ws.all goodWord = true) : ∀ w ∈ ws, w ∈ lw_tbl ∧ goodWord w = true := fun w hw => ⟨t_of ws as h w hw, List.all_eq_true.mp g w hw⟩
def vnz (x : Int32) : Int32 := if x = 0 then 0 else 1
theorem vnz_r (x : Int32) : 0 ≤ (vnz x).toInt ∧ (vnz x).toInt ≤ 1 := by
  unfold vnz
  split <;> decide
theorem dL_law_316 : decode cL_law 316 = .ok (.aload_n 1, 1) := de_43 (lb_19 (j := 12) (b := 43) rfl)
theorem dL_law_317 : decode cL_law 317 = .ok (.aload_n 0, 1) := de_42 (lb_19 (j := 13) (b := 42) rfl)
theorem dL_law_318 : decode cL_law 318 = .ok (.iload 5, 2) := de_21 (lb_19 (j := 14) (b := 21) rfl) (lb_19 (j := 15) (b := 5) rfl) rfl
theorem dL_law_320 : decode cL_law 320 = .ok (.iconst 1, 1) := de_4 (lb_20 (j := 0) (b := 4) rfl)
theorem dL_law_321 : decode cL_law 321 = .ok (.iadd, 1) := de_96 (lb_20 (j := 1) (b := 96) rfl)
theorem dL_law_322 : decode cL_law 322 = .ok (.iaload, 1) := de_46 (lb_20 (j := 2) (b := 46) rfl)
theorem dL_law_323 : decode cL_law 323 = .ok (.aload_n 0, 1) := de_42 (lb_20 (j := 3) (b := 42) rfl)
theorem dL_law_324 : decode cL_law 324 = .ok (.iload 5, 2) := de_21 (lb_20 (j := 4) (b := 21) rfl) (lb_20 (j := 5) (b := 5) rfl) rfl
theorem dL_law_326 : decode cL_law 326 = .ok (.iconst 2, 1) := de_5 (lb_20 (j := 6) (b := 5) rfl)
theorem dL_law_327 : decode cL_law 327 = .ok (.iadd, 1) := de_96 (lb_20 (j := 7) (b := 96) rfl)
theorem dL_law_328 : decode cL_law 328 = .ok (.iaload, 1) := de_46 (lb_20 (j := 8) (b := 46) rfl)
theorem dL_law_329 : decode cL_law 329 = .ok (.aload_n 0, 1) := de_42 (lb_20 (j := 9) (b := 42) rfl)
theorem dL_law_330 : decode cL_law 330 = .ok (.iload 5, 2) := de_21 (lb_20 (j := 10) (b := 21) rfl) (lb_20 (j := 11) (b := 5) rfl) rfl
theorem dL_law_332 : decode cL_law 332 = .ok (.iconst 3, 1) := de_6 (lb_20 (j := 12) (b := 6) rfl)
theorem dL_law_333 : decode cL_law 333 = .ok (.iadd, 1) := de_96 (lb_20 (j := 13) (b := 96) rfl)
theorem dL_law_334 : decode cL_law 334 = .ok (.iaload, 1) := de_46 (lb_20 (j := 14) (b := 46) rfl)
theorem dL_law_335 : decode cL_law 335 = .ok (.aload_n 0, 1) := de_42 (lb_20 (j := 15) (b := 42) rfl)
theorem dL_law_336 : decode cL_law 336 = .ok (.iload 5, 2) := de_21 (lb_21 (j := 0) (b := 21) rfl) (lb_21 (j := 1) (b := 5) rfl) rfl
theorem dL_law_338 : decode cL_law 338 = .ok (.iconst 4, 1) := de_7 (lb_21 (j := 2) (b := 7) rfl)
theorem dL_law_339 : decode cL_law 339 = .ok (.iadd, 1) := de_96 (lb_21 (j := 3) (b := 96) rfl)
theorem dL_law_340 : decode cL_law 340 = .ok (.iaload, 1) := de_46 (lb_21 (j := 4) (b := 46) rfl)
theorem dL_law_341 : decode cL_law 341 = .ok (.aload_n 0, 1) := de_42 (lb_21 (j := 5) (b := 42) rfl)
theorem dL_law_342 : decode cL_law 342 = .ok (.iload 5, 2) := de_21 (lb_21 (j := 6) (b := 21) rfl) (lb_21 (j := 7) (b := 5) rfl) rfl
theorem dL_law_344 : decode cL_law 344 = .ok (.iconst 5, 1) := de_8 (lb_21 (j := 8) (b := 8) rfl)
theorem dL_law_345 : decode cL_law 345 = .ok (.iadd, 1) := de_96 (lb_21 (j := 9) (b := 96) rfl)
theorem dL_law_346 : decode cL_law 346 = .ok (.iaload, 1) := de_46 (lb_21 (j := 10) (b := 46) rfl)
theorem dL_law_347 : decode cL_law 347 = .ok (.invokevirtual 193, 3) := de_182 (lb_21 (j := 11) (b := 182) rfl) (lb_21 (j := 12) (b := 0) rfl) (lb_21 (j := 13) (b := 193) rfl) rfl
theorem dL_law_350 : decode cL_law 350 = .ok (.pop, 1) := de_87 (lb_21 (j := 14) (b := 87) rfl)
theorem dL_law_351 : decode cL_law 351 = .ok (.aload_n 2, 1) := de_44 (lb_21 (j := 15) (b := 44) rfl)
theorem dL_law_352 : decode cL_law 352 = .ok (.aload_n 0, 1) := de_42 (lb_22 (j := 0) (b := 42) rfl)
theorem dL_law_353 : decode cL_law 353 = .ok (.iload 5, 2) := de_21 (lb_22 (j := 1) (b := 21) rfl) (lb_22 (j := 2) (b := 5) rfl) rfl
theorem dL_law_355 : decode cL_law 355 = .ok (.iconst 1, 1) := de_4 (lb_22 (j := 3) (b := 4) rfl)
theorem dL_law_356 : decode cL_law 356 = .ok (.iadd, 1) := de_96 (lb_22 (j := 4) (b := 96) rfl)
theorem dL_law_357 : decode cL_law 357 = .ok (.iaload, 1) := de_46 (lb_22 (j := 5) (b := 46) rfl)
theorem dL_law_358 : decode cL_law 358 = .ok (.aload_n 0, 1) := de_42 (lb_22 (j := 6) (b := 42) rfl)
theorem dL_law_359 : decode cL_law 359 = .ok (.iload 5, 2) := de_21 (lb_22 (j := 7) (b := 21) rfl) (lb_22 (j := 8) (b := 5) rfl) rfl
theorem dL_law_361 : decode cL_law 361 = .ok (.iconst 2, 1) := de_5 (lb_22 (j := 9) (b := 5) rfl)
theorem dL_law_362 : decode cL_law 362 = .ok (.iadd, 1) := de_96 (lb_22 (j := 10) (b := 96) rfl)
theorem dL_law_363 : decode cL_law 363 = .ok (.iaload, 1) := de_46 (lb_22 (j := 11) (b := 46) rfl)
theorem dL_law_364 : decode cL_law 364 = .ok (.aload_n 0, 1) := de_42 (lb_22 (j := 12) (b := 42) rfl)
theorem dL_law_365 : decode cL_law 365 = .ok (.iload 5, 2) := de_21 (lb_22 (j := 13) (b := 21) rfl) (lb_22 (j := 14) (b := 5) rfl) rfl
theorem dL_law_367 : decode cL_law 367 = .ok (.iconst 3, 1) := de_6 (lb_22 (j := 15) (b := 6) rfl)
theorem dL_law_368 : decode cL_law 368 = .ok (.iadd, 1) := de_96 (lb_23 (j := 0) (b := 96) rfl)
theorem dL_law_369 : decode cL_law 369 = .ok (.iaload, 1) := de_46 (lb_23 (j := 1) (b := 46) rfl)
theorem dL_law_370 : decode cL_law 370 = .ok (.aload_n 0, 1) := de_42 (lb_23 (j := 2) (b := 42) rfl)
theorem dL_law_371 : decode cL_law 371 = .ok (.iload 5, 2) := de_21 (lb_23 (j := 3) (b := 21) rfl) (lb_23 (j := 4) (b := 5) rfl) rfl
theorem dL_law_373 : decode cL_law 373 = .ok (.iconst 4, 1) := de_7 (lb_23 (j := 5) (b := 7) rfl)
theorem dL_law_374 : decode cL_law 374 = .ok (.iadd, 1) := de_96 (lb_23 (j := 6) (b := 96) rfl)
theorem dL_law_375 : decode cL_law 375 = .ok (.iaload, 1) := de_46 (lb_23 (j := 7) (b := 46) rfl)
theorem dL_law_376 : decode cL_law 376 = .ok (.aload_n 0, 1) := de_42 (lb_23 (j := 8) (b := 42) rfl)
theorem dL_law_377 : decode cL_law 377 = .ok (.iload 5, 2) := de_21 (lb_23 (j := 9) (b := 21) rfl) (lb_23 (j := 10) (b := 5) rfl) rfl
theorem dL_law_379 : decode cL_law 379 = .ok (.iconst 5, 1) := de_8 (lb_23 (j := 11) (b := 8) rfl)
theorem dL_law_380 : decode cL_law 380 = .ok (.iadd, 1) := de_96 (lb_23 (j := 12) (b := 96) rfl)
theorem dL_law_381 : decode cL_law 381 = .ok (.iaload, 1) := de_46 (lb_23 (j := 13) (b := 46) rfl)
theorem dL_law_382 : decode cL_law 382 = .ok (.invokevirtual 197, 3) := de_182 (lb_23 (j := 14) (b := 182) rfl) (lb_23 (j := 15) (b := 0) rfl) (lb_24 (j := 0) (b := 197) rfl) rfl
theorem dL_law_385 : decode cL_law 385 = .ok (.pop, 1) := de_87 (lb_24 (j := 1) (b := 87) rfl)
theorem dL_law_386 : decode cL_law 386 = .ok (.goto 2053, 3) := de_167 (lb_24 (j := 2) (b := 167) rfl) (lb_24 (j := 3) (b := 8) rfl) (lb_24 (j := 4) (b := 5) rfl) (by decide +kernel)
theorem dL_law_389 : decode cL_law 389 = .ok (.aload_n 1, 1) := de_43 (lb_24 (j := 5) (b := 43) rfl)
theorem dL_law_390 : decode cL_law 390 = .ok (.aload_n 0, 1) := de_42 (lb_24 (j := 6) (b := 42) rfl)
theorem dL_law_391 : decode cL_law 391 = .ok (.iload 5, 2) := de_21 (lb_24 (j := 7) (b := 21) rfl) (lb_24 (j := 8) (b := 5) rfl) rfl
theorem dL_law_393 : decode cL_law 393 = .ok (.iconst 1, 1) := de_4 (lb_24 (j := 9) (b := 4) rfl)
theorem dL_law_394 : decode cL_law 394 = .ok (.iadd, 1) := de_96 (lb_24 (j := 10) (b := 96) rfl)
theorem dL_law_395 : decode cL_law 395 = .ok (.iaload, 1) := de_46 (lb_24 (j := 11) (b := 46) rfl)
theorem dL_law_396 : decode cL_law 396 = .ok (.aload_n 3, 1) := de_45 (lb_24 (j := 12) (b := 45) rfl)
theorem dL_law_397 : decode cL_law 397 = .ok (.invokestatic 198, 3) := de_184 (lb_24 (j := 13) (b := 184) rfl) (lb_24 (j := 14) (b := 0) rfl) (lb_24 (j := 15) (b := 198) rfl) rfl
theorem dL_law_400 : decode cL_law 400 = .ok (.istore 6, 2) := de_54 (lb_25 (j := 0) (b := 54) rfl) (lb_25 (j := 1) (b := 6) rfl) rfl
theorem dL_law_402 : decode cL_law 402 = .ok (.aload_n 2, 1) := de_44 (lb_25 (j := 2) (b := 44) rfl)
theorem dL_law_403 : decode cL_law 403 = .ok (.aload_n 0, 1) := de_42 (lb_25 (j := 3) (b := 42) rfl)
theorem dL_law_404 : decode cL_law 404 = .ok (.iload 5, 2) := de_21 (lb_25 (j := 4) (b := 21) rfl) (lb_25 (j := 5) (b := 5) rfl) rfl
theorem dL_law_406 : decode cL_law 406 = .ok (.iconst 1, 1) := de_4 (lb_25 (j := 6) (b := 4) rfl)
theorem dL_law_407 : decode cL_law 407 = .ok (.iadd, 1) := de_96 (lb_25 (j := 7) (b := 96) rfl)
theorem dL_law_408 : decode cL_law 408 = .ok (.iaload, 1) := de_46 (lb_25 (j := 8) (b := 46) rfl)
theorem dL_law_409 : decode cL_law 409 = .ok (.invokevirtual 203, 3) := de_182 (lb_25 (j := 9) (b := 182) rfl) (lb_25 (j := 10) (b := 0) rfl) (lb_25 (j := 11) (b := 203) rfl) rfl
theorem dL_law_412 : decode cL_law 412 = .ok (.istore 7, 2) := de_54 (lb_25 (j := 12) (b := 54) rfl) (lb_25 (j := 13) (b := 7) rfl) rfl
theorem dL_law_414 : decode cL_law 414 = .ok (.goto 2025, 3) := de_167 (lb_25 (j := 14) (b := 167) rfl) (lb_25 (j := 15) (b := 7) rfl) (lb_26 (j := 0) (b := 233) rfl) (by decide +kernel)
theorem dL_law_417 : decode cL_law 417 = .ok (.aload_n 1, 1) := de_43 (lb_26 (j := 1) (b := 43) rfl)
theorem dL_law_418 : decode cL_law 418 = .ok (.invokevirtual 204, 3) := de_182 (lb_26 (j := 2) (b := 182) rfl) (lb_26 (j := 3) (b := 0) rfl) (lb_26 (j := 4) (b := 204) rfl) rfl
theorem dL_law_421 : decode cL_law 421 = .ok (.pop, 1) := de_87 (lb_26 (j := 5) (b := 87) rfl)
theorem dL_law_422 : decode cL_law 422 = .ok (.aload_n 2, 1) := de_44 (lb_26 (j := 6) (b := 44) rfl)
theorem dL_law_423 : decode cL_law 423 = .ok (.invokevirtual 207, 3) := de_182 (lb_26 (j := 7) (b := 182) rfl) (lb_26 (j := 8) (b := 0) rfl) (lb_26 (j := 9) (b := 207) rfl) rfl
theorem dL_law_426 : decode cL_law 426 = .ok (.pop, 1) := de_87 (lb_26 (j := 10) (b := 87) rfl)
theorem dL_law_427 : decode cL_law 427 = .ok (.goto 2012, 3) := de_167 (lb_26 (j := 11) (b := 167) rfl) (lb_26 (j := 12) (b := 7) rfl) (lb_26 (j := 13) (b := 220) rfl) (by decide +kernel)
theorem dL_law_430 : decode cL_law 430 = .ok (.aload_n 1, 1) := de_43 (lb_26 (j := 14) (b := 43) rfl)
theorem dL_law_431 : decode cL_law 431 = .ok (.invokevirtual 208, 3) := de_182 (lb_26 (j := 15) (b := 182) rfl) (lb_27 (j := 0) (b := 0) rfl) (lb_27 (j := 1) (b := 208) rfl) rfl
theorem dL_law_434 : decode cL_law 434 = .ok (.pop, 1) := de_87 (lb_27 (j := 2) (b := 87) rfl)
theorem dL_law_435 : decode cL_law 435 = .ok (.aload_n 2, 1) := de_44 (lb_27 (j := 3) (b := 44) rfl)
theorem dL_law_436 : decode cL_law 436 = .ok (.invokevirtual 211, 3) := de_182 (lb_27 (j := 4) (b := 182) rfl) (lb_27 (j := 5) (b := 0) rfl) (lb_27 (j := 6) (b := 211) rfl) rfl
theorem dL_law_439 : decode cL_law 439 = .ok (.pop, 1) := de_87 (lb_27 (j := 7) (b := 87) rfl)
theorem dL_law_440 : decode cL_law 440 = .ok (.goto 1999, 3) := de_167 (lb_27 (j := 8) (b := 167) rfl) (lb_27 (j := 9) (b := 7) rfl) (lb_27 (j := 10) (b := 207) rfl) (by decide +kernel)
theorem dL_law_443 : decode cL_law 443 = .ok (.aload_n 1, 1) := de_43 (lb_27 (j := 11) (b := 43) rfl)
theorem dL_law_444 : decode cL_law 444 = .ok (.invokevirtual 212, 3) := de_182 (lb_27 (j := 12) (b := 182) rfl) (lb_27 (j := 13) (b := 0) rfl) (lb_27 (j := 14) (b := 212) rfl) rfl
theorem dL_law_447 : decode cL_law 447 = .ok (.pop, 1) := de_87 (lb_27 (j := 15) (b := 87) rfl)
theorem dL_law_448 : decode cL_law 448 = .ok (.aload_n 2, 1) := de_44 (lb_28 (j := 0) (b := 44) rfl)
theorem dL_law_449 : decode cL_law 449 = .ok (.invokevirtual 215, 3) := de_182 (lb_28 (j := 1) (b := 182) rfl) (lb_28 (j := 2) (b := 0) rfl) (lb_28 (j := 3) (b := 215) rfl) rfl
theorem dL_law_452 : decode cL_law 452 = .ok (.pop, 1) := de_87 (lb_28 (j := 4) (b := 87) rfl)
theorem dL_law_453 : decode cL_law 453 = .ok (.goto 1986, 3) := de_167 (lb_28 (j := 5) (b := 167) rfl) (lb_28 (j := 6) (b := 7) rfl) (lb_28 (j := 7) (b := 194) rfl) (by decide +kernel)
theorem dL_law_456 : decode cL_law 456 = .ok (.aload_n 1, 1) := de_43 (lb_28 (j := 8) (b := 43) rfl)
theorem dL_law_457 : decode cL_law 457 = .ok (.invokevirtual 216, 3) := de_182 (lb_28 (j := 9) (b := 182) rfl) (lb_28 (j := 10) (b := 0) rfl) (lb_28 (j := 11) (b := 216) rfl) rfl
theorem dL_law_460 : decode cL_law 460 = .ok (.pop, 1) := de_87 (lb_28 (j := 12) (b := 87) rfl)
theorem dL_law_461 : decode cL_law 461 = .ok (.aload_n 2, 1) := de_44 (lb_28 (j := 13) (b := 44) rfl)
theorem dL_law_462 : decode cL_law 462 = .ok (.invokevirtual 219, 3) := de_182 (lb_28 (j := 14) (b := 182) rfl) (lb_28 (j := 15) (b := 0) rfl) (lb_29 (j := 0) (b := 219) rfl) rfl
theorem dL_law_465 : decode cL_law 465 = .ok (.pop, 1) := de_87 (lb_29 (j := 1) (b := 87) rfl)
theorem dL_law_466 : decode cL_law 466 = .ok (.goto 1973, 3) := de_167 (lb_29 (j := 2) (b := 167) rfl) (lb_29 (j := 3) (b := 7) rfl) (lb_29 (j := 4) (b := 181) rfl) (by decide +kernel)
theorem dL_law_469 : decode cL_law 469 = .ok (.aload_n 1, 1) := de_43 (lb_29 (j := 5) (b := 43) rfl)
theorem dL_law_470 : decode cL_law 470 = .ok (.aload_n 0, 1) := de_42 (lb_29 (j := 6) (b := 42) rfl)
theorem dL_law_471 : decode cL_law 471 = .ok (.iload 5, 2) := de_21 (lb_29 (j := 7) (b := 21) rfl) (lb_29 (j := 8) (b := 5) rfl) rfl
theorem dL_law_473 : decode cL_law 473 = .ok (.iconst 1, 1) := de_4 (lb_29 (j := 9) (b := 4) rfl)
theorem dL_law_474 : decode cL_law 474 = .ok (.iadd, 1) := de_96 (lb_29 (j := 10) (b := 96) rfl)
theorem dL_law_475 : decode cL_law 475 = .ok (.iaload, 1) := de_46 (lb_29 (j := 11) (b := 46) rfl)
theorem dL_law_476 : decode cL_law 476 = .ok (.aload_n 0, 1) := de_42 (lb_29 (j := 12) (b := 42) rfl)
theorem dL_law_477 : decode cL_law 477 = .ok (.iload 5, 2) := de_21 (lb_29 (j := 13) (b := 21) rfl) (lb_29 (j := 14) (b := 5) rfl) rfl
theorem dL_law_479 : decode cL_law 479 = .ok (.iconst 2, 1) := de_5 (lb_29 (j := 15) (b := 5) rfl)
theorem dL_law_480 : decode cL_law 480 = .ok (.iadd, 1) := de_96 (lb_30 (j := 0) (b := 96) rfl)
theorem dL_law_481 : decode cL_law 481 = .ok (.iaload, 1) := de_46 (lb_30 (j := 1) (b := 46) rfl)
theorem dL_law_482 : decode cL_law 482 = .ok (.aload_n 3, 1) := de_45 (lb_30 (j := 2) (b := 45) rfl)
theorem dL_law_483 : decode cL_law 483 = .ok (.invokestatic 220, 3) := de_184 (lb_30 (j := 3) (b := 184) rfl) (lb_30 (j := 4) (b := 0) rfl) (lb_30 (j := 5) (b := 220) rfl) rfl
theorem dL_law_486 : decode cL_law 486 = .ok (.istore 6, 2) := de_54 (lb_30 (j := 6) (b := 54) rfl) (lb_30 (j := 7) (b := 6) rfl) rfl
theorem dL_law_488 : decode cL_law 488 = .ok (.aload_n 2, 1) := de_44 (lb_30 (j := 8) (b := 44) rfl)
theorem dL_law_489 : decode cL_law 489 = .ok (.aload_n 0, 1) := de_42 (lb_30 (j := 9) (b := 42) rfl)
theorem dL_law_490 : decode cL_law 490 = .ok (.iload 5, 2) := de_21 (lb_30 (j := 10) (b := 21) rfl) (lb_30 (j := 11) (b := 5) rfl) rfl
theorem dL_law_492 : decode cL_law 492 = .ok (.iconst 1, 1) := de_4 (lb_30 (j := 12) (b := 4) rfl)
theorem dL_law_493 : decode cL_law 493 = .ok (.iadd, 1) := de_96 (lb_30 (j := 13) (b := 96) rfl)
theorem dL_law_494 : decode cL_law 494 = .ok (.iaload, 1) := de_46 (lb_30 (j := 14) (b := 46) rfl)
theorem dL_law_495 : decode cL_law 495 = .ok (.aload_n 0, 1) := de_42 (lb_30 (j := 15) (b := 42) rfl)
theorem dL_law_496 : decode cL_law 496 = .ok (.iload 5, 2) := de_21 (lb_31 (j := 0) (b := 21) rfl) (lb_31 (j := 1) (b := 5) rfl) rfl
theorem dL_law_498 : decode cL_law 498 = .ok (.iconst 2, 1) := de_5 (lb_31 (j := 2) (b := 5) rfl)
theorem dL_law_499 : decode cL_law 499 = .ok (.iadd, 1) := de_96 (lb_31 (j := 3) (b := 96) rfl)
theorem dL_law_500 : decode cL_law 500 = .ok (.iaload, 1) := de_46 (lb_31 (j := 4) (b := 46) rfl)
theorem dL_law_501 : decode cL_law 501 = .ok (.invokevirtual 223, 3) := de_182 (lb_31 (j := 5) (b := 182) rfl) (lb_31 (j := 6) (b := 0) rfl) (lb_31 (j := 7) (b := 223) rfl) rfl
theorem dL_law_504 : decode cL_law 504 = .ok (.istore 7, 2) := de_54 (lb_31 (j := 8) (b := 54) rfl) (lb_31 (j := 9) (b := 7) rfl) rfl
theorem dL_law_506 : decode cL_law 506 = .ok (.goto 1933, 3) := de_167 (lb_31 (j := 10) (b := 167) rfl) (lb_31 (j := 11) (b := 7) rfl) (lb_31 (j := 12) (b := 141) rfl) (by decide +kernel)
theorem dL_law_509 : decode cL_law 509 = .ok (.aload_n 1, 1) := de_43 (lb_31 (j := 13) (b := 43) rfl)
theorem dL_law_510 : decode cL_law 510 = .ok (.aload_n 0, 1) := de_42 (lb_31 (j := 14) (b := 42) rfl)
theorem dL_law_511 : decode cL_law 511 = .ok (.iload 5, 2) := de_21 (lb_31 (j := 15) (b := 21) rfl) (lb_32 (j := 0) (b := 5) rfl) rfl
theorem dL_law_513 : decode cL_law 513 = .ok (.iconst 1, 1) := de_4 (lb_32 (j := 1) (b := 4) rfl)
theorem dL_law_514 : decode cL_law 514 = .ok (.iadd, 1) := de_96 (lb_32 (j := 2) (b := 96) rfl)
theorem dL_law_515 : decode cL_law 515 = .ok (.iaload, 1) := de_46 (lb_32 (j := 3) (b := 46) rfl)
theorem dL_law_516 : decode cL_law 516 = .ok (.aload_n 3, 1) := de_45 (lb_32 (j := 4) (b := 45) rfl)
theorem dL_law_517 : decode cL_law 517 = .ok (.invokestatic 224, 3) := de_184 (lb_32 (j := 5) (b := 184) rfl) (lb_32 (j := 6) (b := 0) rfl) (lb_32 (j := 7) (b := 224) rfl) rfl
theorem dL_law_520 : decode cL_law 520 = .ok (.istore 6, 2) := de_54 (lb_32 (j := 8) (b := 54) rfl) (lb_32 (j := 9) (b := 6) rfl) rfl
theorem dL_law_522 : decode cL_law 522 = .ok (.aload_n 2, 1) := de_44 (lb_32 (j := 10) (b := 44) rfl)
theorem dL_law_523 : decode cL_law 523 = .ok (.aload_n 0, 1) := de_42 (lb_32 (j := 11) (b := 42) rfl)
theorem dL_law_524 : decode cL_law 524 = .ok (.iload 5, 2) := de_21 (lb_32 (j := 12) (b := 21) rfl) (lb_32 (j := 13) (b := 5) rfl) rfl
theorem dL_law_526 : decode cL_law 526 = .ok (.iconst 1, 1) := de_4 (lb_32 (j := 14) (b := 4) rfl)
theorem dL_law_527 : decode cL_law 527 = .ok (.iadd, 1) := de_96 (lb_32 (j := 15) (b := 96) rfl)
theorem dL_law_528 : decode cL_law 528 = .ok (.iaload, 1) := de_46 (lb_33 (j := 0) (b := 46) rfl)
theorem dL_law_529 : decode cL_law 529 = .ok (.invokevirtual 226, 3) := de_182 (lb_33 (j := 1) (b := 182) rfl) (lb_33 (j := 2) (b := 0) rfl) (lb_33 (j := 3) (b := 226) rfl) rfl
theorem dL_law_532 : decode cL_law 532 = .ok (.istore 7, 2) := de_54 (lb_33 (j := 4) (b := 54) rfl) (lb_33 (j := 5) (b := 7) rfl) rfl
theorem dL_law_534 : decode cL_law 534 = .ok (.goto 1905, 3) := de_167 (lb_33 (j := 6) (b := 167) rfl) (lb_33 (j := 7) (b := 7) rfl) (lb_33 (j := 8) (b := 113) rfl) (by decide +kernel)
set_option maxHeartbeats 4000000 in
set_option maxRecDepth 100000 in
theorem y_a0 {p : Program} {e : Env} {s : State} {m : MethodId} {below : List Frame} {meth : Method} {c : Code} (l : Launch) (hst : l.stackTraces = false) {b L : Nat} {xs : Nat → Int32} (hx : p.tables.exec = Jvm.exec) (hb : c.code = code) (hml : c.maxLocals = 9) (hown : s.vm.findClass RL = some m.cls) (hts : ∀ w ∈ lw_tbl, w.before #[Value.ref b] s = true) (hX0 : va_X b L xs s s.heap) (hbl : b < s.heap.size) (hX : xT (fun q => s.heap.size ≤ q) s) (hN : nC s) (hTS : sAll s.heap.size s) {D : va_G} {cI cJ cZ cMic cSrc cSt cAI cAJ cD : ClassId} (hK : va_K D vwCl (CT cI cJ cZ cMic cSrc cSt cAI cAJ ++ [(cD, .double)]) s) {Q : State → Prop} {i j : Nat} (hi : i + 6 ≤ L) (hL : L ≤ 3072) (hj : j < 512) {aj ae : Nat} {ad am : Nat → Nat} {T : AT} {Sm : MS} {f : Nat → Int64} {g : Nat → UInt64} {ls : Array Slot} {H : Heap} {locs : List Loc} (hV : IV aR0 1586 aK1 aK2 T) (hrc : RC T) (hJ : JJ Sm) (G : gL cI cJ cZ cMic cSrc cSt cAI cAJ D ad (fun q => s.heap.size ≤ q) s.heap H locs T (oJ aj cJ f :: oD ae cD g :: MW cI cJ cZ am Sm)) (hl : lv_has ls 9 [(5, .int (nI i)), (4, .ref ae), (3, .ref aj), (2, .ref (am 0)), (1, .ref (ad 0)), (0, .ref b)]) (kk : ∀ {r1 : Int32} {T1 : AT} {r2 : Int32} {S1 : MS} (ad2 : Nat → Nat) (f1 : Nat → Int64) (g1 : Nat → UInt64) (H1 : Heap) (locs1 : List Loc) (ls1 : Array Slot), g_X11_append T 0 (xs (i + 1)) (xs (i + 2)) (xs (i + 3)) (xs (i + 4)) (xs (i + 5)) = some (r1, T1) → fr_append Sm (xs (i + 1)) (xs (i + 2)) (xs (i + 3)) (xs (i + 4)) (xs (i + 5)) = some (r2, S1) → ad2 0 = ad 0 → IV aR0 1586 aK1 aK2 T1 → RC T1 → JJ S1 → gL cI cJ cZ cMic cSrc cSt cAI cAJ D ad2 (fun q => s.heap.size ≤ q) s.heap H1 locs1 T1 (oJ aj cJ f1 :: oD ae cD g1 :: MW cI cJ cZ am S1) → lv_has ls1 9 [(5, .int (nI i)), (4, .ref ae), (3, .ref aj), (2, .ref (am 0)), (1, .ref (ad2 0)), (0, .ref b)] → W p l e room_1 s m #[Value.ref b] below meth c H1 locs1 (19 + T1.1 + (j + 1)) (38467 + sg T1 + 6 * (j + 1)) Q (F0 m 2439 ls1 [])) : W p l e room_1 s m #[Value.ref b] below meth c H locs (19 + T.1 + j) (38467 + sg T + 6 * j) Q (F0 m 316 ls []) := by
  have E : cE p c cL_law s m #[Value.ref b] lw_tbl D RL (CT cI cJ cZ cMic cSrc cSt cAI cAJ ++ [(cD, .double)]) := ⟨hx, hb, hts, hown, hK⟩
  have hA : ∀ q : Nat, s.heap.size ≤ q → s.heap.size ≤ q := fun _ h => h
  have h0T : 0 < T.1 := Nat.lt_of_lt_of_le (by decide) hV.1.2.2
  have h0s : T.2.1 0 = (11, 0) := hV.2.1 0 ⟨by decide, by decide +kernel, by decide +kernel⟩
  refine lv_aload_n hx hb dL_law_316 rfl (lv_at hl 4 rfl) ?_
  refine lv_aload_n hx hb dL_law_317 rfl (lv_at hl 5 rfl) ?_
  refine lv_iload hx hb dL_law_318 (lv_at hl 0 rfl) ?_
  refine lv_iconst (v := 1) hx hb dL_law_320 (by decide) ?_
  refine lv_iadd hx hb dL_law_321 ?_
  refine lv_to (y := nI (i + 1)) (nI_add i 1) ?_
  refine va_sld hx hb hX0 hbl (Nat.not_le.mpr hbl) G.2.2 (i := nI (i + 1)) (vp_in_nI (n := i + 1) (N := L) (by omega) (by omega)) dL_law_322 ?_
  refine lv_to (y := xs (i + 1)) (congrArg xs (nI_clamp (by omega))) ?_
  refine lv_aload_n hx hb dL_law_323 rfl (lv_at hl 5 rfl) ?_
  refine lv_iload hx hb dL_law_324 (lv_at hl 0 rfl) ?_
  refine lv_iconst (v := 2) hx hb dL_law_326 (by decide) ?_
  refine lv_iadd hx hb dL_law_327 ?_
  refine lv_to (y := nI (i + 2)) (nI_add i 2) ?_
  refine va_sld hx hb hX0 hbl (Nat.not_le.mpr hbl) G.2.2 (i := nI (i + 2)) (vp_in_nI (n := i + 2) (N := L) (by omega) (by omega)) dL_law_328 ?_
  refine lv_to (y := xs (i + 2)) (congrArg xs (nI_clamp (by omega))) ?_
  refine lv_aload_n hx hb dL_law_329 rfl (lv_at hl 5 rfl) ?_
  refine lv_iload hx hb dL_law_330 (lv_at hl 0 rfl) ?_
  refine lv_iconst (v := 3) hx hb dL_law_332 (by decide) ?_
  refine lv_iadd hx hb dL_law_333 ?_
  refine lv_to (y := nI (i + 3)) (nI_add i 3) ?_
  refine va_sld hx hb hX0 hbl (Nat.not_le.mpr hbl) G.2.2 (i := nI (i + 3)) (vp_in_nI (n := i + 3) (N := L) (by omega) (by omega)) dL_law_334 ?_
  refine lv_to (y := xs (i + 3)) (congrArg xs (nI_clamp (by omega))) ?_
  refine lv_aload_n hx hb dL_law_335 rfl (lv_at hl 5 rfl) ?_
  refine lv_iload hx hb dL_law_336 (lv_at hl 0 rfl) ?_
  refine lv_iconst (v := 4) hx hb dL_law_338 (by decide) ?_
  refine lv_iadd hx hb dL_law_339 ?_
  refine lv_to (y := nI (i + 4)) (nI_add i 4) ?_
  refine va_sld hx hb hX0 hbl (Nat.not_le.mpr hbl) G.2.2 (i := nI (i + 4)) (vp_in_nI (n := i + 4) (N := L) (by omega) (by omega)) dL_law_340 ?_
  refine lv_to (y := xs (i + 4)) (congrArg xs (nI_clamp (by omega))) ?_
  refine lv_aload_n hx hb dL_law_341 rfl (lv_at hl 5 rfl) ?_
  refine lv_iload hx hb dL_law_342 (lv_at hl 0 rfl) ?_
  refine lv_iconst (v := 5) hx hb dL_law_344 (by decide) ?_
  refine lv_iadd hx hb dL_law_345 ?_
  refine lv_to (y := nI (i + 5)) (nI_add i 5) ?_
  refine va_sld hx hb hX0 hbl (Nat.not_le.mpr hbl) G.2.2 (i := nI (i + 5)) (vp_in_nI (n := i + 5) (N := L) (by omega) (by omega)) dL_law_346 ?_
  refine lv_to (y := xs (i + 5)) (congrArg xs (nI_clamp (by omega))) ?_
  obtain ⟨⟨r1, T1⟩, hg, hc⟩ := cs_X11_append T 0 (xs (i + 1)) (xs (i + 2)) (xs (i + 3)) (xs (i + 4)) (xs (i + 5)) hV (by decide +kernel)
  have hV1 : IV aR0 1586 aK1 aK2 T1 := hc.1.1
  have hg1 := (gl_sp (s_X11_append hg))
  have hg2 := sg_le hg1
  have hg3 := hg1.1
  have hk := hV1.2.2.2.2.2.2
  have hrc1 := hg1.2.2 hrc
  have hr0 := a_room
  refine t_cvi (As := [.int (xs (i + 1)), .int (xs (i + 2)), .int (xs (i + 3)), .int (xs (i + 4)), .int (xs (i + 5))]) (rest := []) E G hA hX hX.2.2.2.1 hml (u_X11_append l hst D cI cJ cZ cMic cSrc cSt cAI cAJ ad T 0 (xs (i + 1)) (xs (i + 2)) (xs (i + 3)) (xs (i + 4)) (xs (i + 5)) hg) (cwV 5 hts (glA (L := [Cond.methodLink RL 193 yX11_append, Cond.instanceMethod yX11_append, Cond.selects RX11 yX11_append yX11_append, Cond.initialized RX11]) (gl_in [(3, 48), (3, 49), (3, 50), (1, 1)] (by decide +kernel) (by decide +kernel)) ⟨(t_of [Cond.code yX11_append cX11_append 6 (some .int)] [(3, 51)] (by decide +kernel) _ List.mem_cons_self), List.all_eq_true.mp (by decide +kernel : [Cond.code yX11_append cX11_append 6 (some .int)].all goodWord = true) _ List.mem_cons_self⟩) rfl rfl rfl (by decide +kernel) ⟨Nat.le_of_ble_eq_true rfl, Nat.le_of_ble_eq_true rfl⟩) h0T (cc_o11 h0s) rfl rfl hl.1 rfl (lv_room (Nat.le_of_ble_eq_true rfl)) dL_law_347 ⟨by show _ ≤ 601024; omega, by show _ ≤ 7293034; omega⟩ ?_
  intro r9 T9 H locs hp G
  obtain ⟨hr9, hS1⟩ := hp
  rw [hS1] at G
  refine lv_to (y := r1) hr9 ?_
  refine lv_pop hx hb dL_law_350 rfl ?_
  refine lv_aload_n hx hb dL_law_351 rfl (lv_at hl 3 rfl) ?_
  refine lv_aload_n hx hb dL_law_352 rfl (lv_at hl 5 rfl) ?_
  refine lv_iload hx hb dL_law_353 (lv_at hl 0 rfl) ?_
  refine lv_iconst (v := 1) hx hb dL_law_355 (by decide) ?_
  refine lv_iadd hx hb dL_law_356 ?_
  refine lv_to (y := nI (i + 1)) (nI_add i 1) ?_
  refine va_sld hx hb hX0 hbl (Nat.not_le.mpr hbl) G.2.2 (i := nI (i + 1)) (vp_in_nI (n := i + 1) (N := L) (by omega) (by omega)) dL_law_357 ?_
  refine lv_to (y := xs (i + 1)) (congrArg xs (nI_clamp (by omega))) ?_
  refine lv_aload_n hx hb dL_law_358 rfl (lv_at hl 5 rfl) ?_
  refine lv_iload hx hb dL_law_359 (lv_at hl 0 rfl) ?_
  refine lv_iconst (v := 2) hx hb dL_law_361 (by decide) ?_
  refine lv_iadd hx hb dL_law_362 ?_
  refine lv_to (y := nI (i + 2)) (nI_add i 2) ?_
  refine va_sld hx hb hX0 hbl (Nat.not_le.mpr hbl) G.2.2 (i := nI (i + 2)) (vp_in_nI (n := i + 2) (N := L) (by omega) (by omega)) dL_law_363 ?_
  refine lv_to (y := xs (i + 2)) (congrArg xs (nI_clamp (by omega))) ?_
  refine lv_aload_n hx hb dL_law_364 rfl (lv_at hl 5 rfl) ?_
  refine lv_iload hx hb dL_law_365 (lv_at hl 0 rfl) ?_
  refine lv_iconst (v := 3) hx hb dL_law_367 (by decide) ?_
  refine lv_iadd hx hb dL_law_368 ?_
  refine lv_to (y := nI (i + 3)) (nI_add i 3) ?_
  refine va_sld hx hb hX0 hbl (Nat.not_le.mpr hbl) G.2.2 (i := nI (i + 3)) (vp_in_nI (n := i + 3) (N := L) (by omega) (by omega)) dL_law_369 ?_
  refine lv_to (y := xs (i + 3)) (congrArg xs (nI_clamp (by omega))) ?_
  refine lv_aload_n hx hb dL_law_370 rfl (lv_at hl 5 rfl) ?_
  refine lv_iload hx hb dL_law_371 (lv_at hl 0 rfl) ?_
  refine lv_iconst (v := 4) hx hb dL_law_373 (by decide) ?_
  refine lv_iadd hx hb dL_law_374 ?_
  refine lv_to (y := nI (i + 4)) (nI_add i 4) ?_
  refine va_sld hx hb hX0 hbl (Nat.not_le.mpr hbl) G.2.2 (i := nI (i + 4)) (vp_in_nI (n := i + 4) (N := L) (by omega) (by omega)) dL_law_375 ?_
  refine lv_to (y := xs (i + 4)) (congrArg xs (nI_clamp (by omega))) ?_
  refine lv_aload_n hx hb dL_law_376 rfl (lv_at hl 5 rfl) ?_
  refine lv_iload hx hb dL_law_377 (lv_at hl 0 rfl) ?_
  refine lv_iconst (v := 5) hx hb dL_law_379 (by decide) ?_
  refine lv_iadd hx hb dL_law_380 ?_
  refine lv_to (y := nI (i + 5)) (nI_add i 5) ?_
  refine va_sld hx hb hX0 hbl (Nat.not_le.mpr hbl) G.2.2 (i := nI (i + 5)) (vp_in_nI (n := i + 5) (N := L) (by omega) (by omega)) dL_law_381 ?_
  refine lv_to (y := xs (i + 5)) (congrArg xs (nI_clamp (by omega))) ?_
  obtain ⟨⟨r2, S1⟩, hf, hj⟩ := sj_append Sm (xs (i + 1)) (xs (i + 2)) (xs (i + 3)) (xs (i + 4)) (xs (i + 5)) hJ
  have hJ1 : JJ S1 := hj.1
  refine y_mi (As := [.int (xs (i + 1)), .int (xs (i + 2)), .int (xs (i + 3)), .int (xs (i + 4)), .int (xs (i + 5))]) (rest := []) E G hA hX.2.2.2.2 hml (tr_append l D cI cJ cZ am Sm (xs (i + 1)) (xs (i + 2)) (xs (i + 3)) (xs (i + 4)) (xs (i + 5)) hf) (cwV 5 hts (glM (L := [Cond.methodLink RL 197 yX12_append, Cond.instanceMethod yX12_append, Cond.selects RX12 yX12_append yX12_append, Cond.initialized RX12]) (gl_in [(8, 69), (8, 70), (8, 71), (1, 14)] (by decide +kernel) (by decide +kernel)) ⟨(t_of [Cond.code yX12_append cX12_append 6 (some .int)] [(8, 72)] (by decide +kernel) _ List.mem_cons_self), List.all_eq_true.mp (by decide +kernel : [Cond.code yX12_append cX12_append 6 (some .int)].all goodWord = true) _ List.mem_cons_self⟩) rfl rfl rfl (by decide +kernel) ⟨Nat.le_of_ble_eq_true rfl, Nat.le_of_ble_eq_true rfl⟩) rfl hl.1 rfl (lv_room (Nat.le_of_ble_eq_true rfl)) dL_law_382 ⟨by show _ ≤ 601024; omega, by show _ ≤ 7293034; omega⟩ (fun H locs G => ?_)
  refine lv_pop hx hb dL_law_385 rfl ?_
  refine lv_goto (tgt := 2439) hx hb dL_law_386 (by decide) ?_
  refine W.widen (k := 19 + T1.1 + (j + 1)) (n := 38467 + sg T1 + 6 * (j + 1)) (by omega) (by omega) ?_
  exact kk ad f g H locs ls hg hf rfl hV1 hrc1 hJ1 G hl
set_option maxHeartbeats 4000000 in
set_option maxRecDepth 100000 in
theorem y_a1 {p : Program} {e : Env} {s : State} {m : MethodId} {below : List Frame} {meth : Method} {c : Code} (l : Launch) (hst : l.stackTraces = false) {b L : Nat} {xs : Nat → Int32} (hx : p.tables.exec = Jvm.exec) (hb : c.code = code) (hml : c.maxLocals = 9) (hown : s.vm.findClass RL = some m.cls) (hts : ∀ w ∈ lw_tbl, w.before #[Value.ref b] s = true) (hX0 : va_X b L xs s s.heap) (hbl : b < s.heap.size) (hX : xT (fun q => s.heap.size ≤ q) s) (hN : nC s) (hTS : sAll s.heap.size s) {D : va_G} {cI cJ cZ cMic cSrc cSt cAI cAJ cD : ClassId} (hK : va_K D vwCl (CT cI cJ cZ cMic cSrc cSt cAI cAJ ++ [(cD, .double)]) s) {Q : State → Prop} {i j : Nat} (hi : i + 6 ≤ L) (hL : L ≤ 3072) (hj : j < 512) {aj ae : Nat} {ad am : Nat → Nat} {T : AT} {Sm : MS} {f : Nat → Int64} {g : Nat → UInt64} {ls : Array Slot} {H : Heap} {locs : List Loc} (hV : IV aR0 1586 aK1 aK2 T) (hrc : RC T) (hJ : JJ Sm) (G : gL cI cJ cZ cMic cSrc cSt cAI cAJ D ad (fun q => s.heap.size ≤ q) s.heap H locs T (oJ aj cJ f :: oD ae cD g :: MW cI cJ cZ am Sm)) (hl : lv_has ls 9 [(5, .int (nI i)), (4, .ref ae), (3, .ref aj), (2, .ref (am 0)), (1, .ref (ad 0)), (0, .ref b)]) (kk : ∀ {k1 : Nat} {r1 : Int32} {T1 : AT} {r2 : Int32} {S1 : MS} (ad2 : Nat → Nat) (f1 : Nat → Int64) (g1 : Nat → UInt64) (H1 : Heap) (locs1 : List Loc) (ls1 : Array Slot), g_X11_load T 0 (xs (i + 1)) = some (k1, r1, T1) → fr_load Sm (xs (i + 1)) = some (r2, S1) → ad2 0 = ad 0 → IV aR0 1586 aK1 aK2 T1 → RC T1 → JJ S1 → gL cI cJ cZ cMic cSrc cSt cAI cAJ D ad2 (fun q => s.heap.size ≤ q) s.heap H1 locs1 T1 (oJ aj cJ f1 :: oD ae cD g1 :: MW cI cJ cZ am S1) → lv_has ls1 9 [(5, .int (nI i)), (4, .ref ae), (3, .ref aj), (2, .ref (am 0)), (1, .ref (ad2 0)), (0, .ref b)] → W p l e room_1 s m #[Value.ref b] below meth c H1 locs1 (19 + T1.1 + (j + 1)) (38467 + sg T1 + 6 * (j + 1)) Q (F0 m 2439 ls1 [])) : W p l e room_1 s m #[Value.ref b] below meth c H locs (19 + T.1 + j) (38467 + sg T + 6 * j) Q (F0 m 389 ls []) := by
  have E : cE p c cL_law s m #[Value.ref b] lw_tbl D RL (CT cI cJ cZ cMic cSrc cSt cAI cAJ ++ [(cD, .double)]) := ⟨hx, hb, hts, hown, hK⟩
  have hA : ∀ q : Nat, s.heap.size ≤ q → s.heap.size ≤ q := fun _ h => h
  have h0T : 0 < T.1 := Nat.lt_of_lt_of_le (by decide) hV.1.2.2
  have h0s : T.2.1 0 = (11, 0) := hV.2.1 0 ⟨by decide, by decide +kernel, by decide +kernel⟩
  refine lv_aload_n hx hb dL_law_389 rfl (lv_at hl 4 rfl) ?_
  refine lv_aload_n hx hb dL_law_390 rfl (lv_at hl 5 rfl) ?_
  refine lv_iload hx hb dL_law_391 (lv_at hl 0 rfl) ?_
  refine lv_iconst (v := 1) hx hb dL_law_393 (by decide) ?_
  refine lv_iadd hx hb dL_law_394 ?_
  refine lv_to (y := nI (i + 1)) (nI_add i 1) ?_
  refine va_sld hx hb hX0 hbl (Nat.not_le.mpr hbl) G.2.2 (i := nI (i + 1)) (vp_in_nI (n := i + 1) (N := L) (by omega) (by omega)) dL_law_395 ?_
  refine lv_to (y := xs (i + 1)) (congrArg xs (nI_clamp (by omega))) ?_
  refine lv_aload_n hx hb dL_law_396 rfl (lv_at hl 2 rfl) ?_
  obtain ⟨⟨k1, r1, T1⟩, hg, hc⟩ := cs_X11_load T 0 (xs (i + 1)) hV (by decide +kernel)
  have hV1 : IV aR0 1586 aK1 aK2 T1 := hc.1.1
  have hg1 := s_X11_load hg
  have hg2 := sg_le hg1
  have hg3 := hg1.1
  have hk := hV1.2.2.2.2.2.2
  have hrc1 := hg1.2.2 hrc
  have hr0 := a_room
  refine l_v (h0 := s.heap.size) (As := [.ref (ad 0), .int (xs (i + 1)), .ref aj]) (rest := []) E G hA hX hN (fun _ h => h) hTS hml (v_load l hst D s.heap.size ad T 0 (xs (i + 1)) aj f hg hrc h0T h0s) (vx_cwSW 3 hts (glA (L := [Cond.methodLink RL 198 yL_load, Cond.static yL_load, Cond.initialized RL]) (gl_in [(3, 92), (3, 93), (1, 0)] (by decide +kernel) (by decide +kernel)) ⟨(t_of [Cond.codeWith yL_load cL_load 4 (some .int) [(0, 9, 12, 13), (0, 9, 15, 15)]] [(3, 94)] (by decide +kernel) _ List.mem_cons_self), List.all_eq_true.mp (by decide +kernel : [Cond.codeWith yL_load cL_load 4 (some .int) [(0, 9, 12, 13), (0, 9, 15, 15)]].all goodWord = true) _ List.mem_cons_self⟩) rfl rfl rfl (by decide +kernel) ⟨Nat.le_of_ble_eq_true rfl, Nat.le_of_ble_eq_true rfl⟩) rfl hl.1 rfl (lv_room (Nat.le_of_ble_eq_true rfl)) dL_law_397 ⟨by show _ ≤ 601024; omega, by show _ ≤ 7293034; omega⟩ ?_
  intro ad2 H locs had G
  rw [← had 0 h0T] at hl
  refine lv_istore (lv' := [(6, .int (vck 0 1 2 k1)), (5, .int (nI i)), (4, .ref ae), (3, .ref aj), (2, .ref (am 0)), (1, .ref (ad2 0)), (0, .ref b)]) hx hb dL_law_400 hl (by decide) rfl (fun ls hl => ?_)
  refine lv_aload_n hx hb dL_law_402 rfl (lv_at hl 4 rfl) ?_
  refine lv_aload_n hx hb dL_law_403 rfl (lv_at hl 6 rfl) ?_
  refine lv_iload hx hb dL_law_404 (lv_at hl 1 rfl) ?_
  refine lv_iconst (v := 1) hx hb dL_law_406 (by decide) ?_
  refine lv_iadd hx hb dL_law_407 ?_
  refine lv_to (y := nI (i + 1)) (nI_add i 1) ?_
  refine va_sld hx hb hX0 hbl (Nat.not_le.mpr hbl) G.2.2 (i := nI (i + 1)) (vp_in_nI (n := i + 1) (N := L) (by omega) (by omega)) dL_law_408 ?_
  refine lv_to (y := xs (i + 1)) (congrArg xs (nI_clamp (by omega))) ?_
  obtain ⟨⟨r2, S1⟩, hf, hj⟩ := sj_load Sm (xs (i + 1)) hJ
  have hJ1 : JJ S1 := hj
  refine y_miX (h0 := s.heap.size) (As := [.int (xs (i + 1))]) (rest := []) E G hA (fun _ h => h) hTS hX.2.2.2.2 hml (tr_load l D cI cJ cZ am Sm s.heap.size (xs (i + 1)) hf) (cwV 1 hts (glM (L := [Cond.methodLink RL 203 yX12_load, Cond.instanceMethod yX12_load, Cond.selects RX12 yX12_load yX12_load, Cond.initialized RX12]) (gl_in [(8, 89), (8, 90), (8, 91), (1, 14)] (by decide +kernel) (by decide +kernel)) ⟨(t_of [Cond.code yX12_load cX12_load 4 (some .int)] [(8, 92)] (by decide +kernel) _ List.mem_cons_self), List.all_eq_true.mp (by decide +kernel : [Cond.code yX12_load cX12_load 4 (some .int)].all goodWord = true) _ List.mem_cons_self⟩) rfl rfl rfl (by decide +kernel) ⟨Nat.le_of_ble_eq_true rfl, Nat.le_of_ble_eq_true rfl⟩) rfl hl.1 rfl (lv_room (Nat.le_of_ble_eq_true rfl)) dL_law_409 ⟨by show _ ≤ 601024; omega, by show _ ≤ 7293034; omega⟩ (fun H locs G => ?_)
  refine lv_istore (lv' := [(7, .int r2), (6, .int (vck 0 1 2 k1)), (5, .int (nI i)), (4, .ref ae), (3, .ref aj), (2, .ref (am 0)), (1, .ref (ad2 0)), (0, .ref b)]) hx hb dL_law_412 hl (by decide) rfl (fun ls hl => ?_)
  refine lv_goto (tgt := 2439) hx hb dL_law_414 (by decide) ?_
  have hl := lv_sub hl [2, 3, 4, 5, 6, 7] rfl
  refine W.widen (k := 19 + T1.1 + (j + 1)) (n := 38467 + sg T1 + 6 * (j + 1)) (by omega) (by omega) ?_
  exact kk ad2 (vfJ k1 f r1.toInt64) g H locs ls hg hf (had 0 h0T) hV1 hrc1 hJ1 G hl
set_option maxHeartbeats 4000000 in
set_option maxRecDepth 100000 in
theorem y_a2 {p : Program} {e : Env} {s : State} {m : MethodId} {below : List Frame} {meth : Method} {c : Code} (l : Launch) (hst : l.stackTraces = false) {b L : Nat} {xs : Nat → Int32} (hx : p.tables.exec = Jvm.exec) (hb : c.code = code) (hml : c.maxLocals = 9) (hown : s.vm.findClass RL = some m.cls) (hts : ∀ w ∈ lw_tbl, w.before #[Value.ref b] s = true) (hX0 : va_X b L xs s s.heap) (hbl : b < s.heap.size) (hX : xT (fun q => s.heap.size ≤ q) s) (hN : nC s) (hTS : sAll s.heap.size s) {D : va_G} {cI cJ cZ cMic cSrc cSt cAI cAJ cD : ClassId} (hK : va_K D vwCl (CT cI cJ cZ cMic cSrc cSt cAI cAJ ++ [(cD, .double)]) s) {Q : State → Prop} {i j : Nat} (hi : i + 6 ≤ L) (hL : L ≤ 3072) (hj : j < 512) {aj ae : Nat} {ad am : Nat → Nat} {T : AT} {Sm : MS} {f : Nat → Int64} {g : Nat → UInt64} {ls : Array Slot} {H : Heap} {locs : List Loc} (hV : IV aR0 1586 aK1 aK2 T) (hrc : RC T) (hJ : JJ Sm) (G : gL cI cJ cZ cMic cSrc cSt cAI cAJ D ad (fun q => s.heap.size ≤ q) s.heap H locs T (oJ aj cJ f :: oD ae cD g :: MW cI cJ cZ am Sm)) (hl : lv_has ls 9 [(5, .int (nI i)), (4, .ref ae), (3, .ref aj), (2, .ref (am 0)), (1, .ref (ad 0)), (0, .ref b)]) (kk : ∀ {r1 : Int32} {T1 : AT} {r2 : Int32} {S1 : MS} (ad2 : Nat → Nat) (f1 : Nat → Int64) (g1 : Nat → UInt64) (H1 : Heap) (locs1 : List Loc) (ls1 : Array Slot), g_X11_parseError T 0 = some (r1, T1) → fr_parseError Sm = some (r2, S1) → ad2 0 = ad 0 → IV aR0 1586 aK1 aK2 T1 → RC T1 → JJ S1 → gL cI cJ cZ cMic cSrc cSt cAI cAJ D ad2 (fun q => s.heap.size ≤ q) s.heap H1 locs1 T1 (oJ aj cJ f1 :: oD ae cD g1 :: MW cI cJ cZ am S1) → lv_has ls1 9 [(5, .int (nI i)), (4, .ref ae), (3, .ref aj), (2, .ref (am 0)), (1, .ref (ad2 0)), (0, .ref b)] → W p l e room_1 s m #[Value.ref b] below meth c H1 locs1 (19 + T1.1 + (j + 1)) (38467 + sg T1 + 6 * (j + 1)) Q (F0 m 2439 ls1 [])) : W p l e room_1 s m #[Value.ref b] below meth c H locs (19 + T.1 + j) (38467 + sg T + 6 * j) Q (F0 m 417 ls []) := by
  have E : cE p c cL_law s m #[Value.ref b] lw_tbl D RL (CT cI cJ cZ cMic cSrc cSt cAI cAJ ++ [(cD, .double)]) := ⟨hx, hb, hts, hown, hK⟩
  have hA : ∀ q : Nat, s.heap.size ≤ q → s.heap.size ≤ q := fun _ h => h
  have h0T : 0 < T.1 := Nat.lt_of_lt_of_le (by decide) hV.1.2.2
  have h0s : T.2.1 0 = (11, 0) := hV.2.1 0 ⟨by decide, by decide +kernel, by decide +kernel⟩
  refine lv_aload_n hx hb dL_law_417 rfl (lv_at hl 4 rfl) ?_
  obtain ⟨⟨r1, T1⟩, hg, hc⟩ := cs_X11_parseError T 0 hV (by decide +kernel)
  have hV1 : IV aR0 1586 aK1 aK2 T1 := by rw [show T1 = T from hc.1]; exact hV
  have hg1 := (gl_sp (s_X11_parseError hg))
  have hg2 := sg_le hg1
  have hg3 := hg1.1
  have hk := hV1.2.2.2.2.2.2
  have hrc1 := hg1.2.2 hrc
  have hr0 := a_room
  refine t_cvi (As := []) (rest := []) E G hA hX hX.2.2.2.1 hml (u_X11_parseError l hst D cI cJ cZ cMic cSrc cSt cAI cAJ ad T 0  hg) (cwV 0 hts (glA (L := [Cond.methodLink RL 204 yX11_parseError, Cond.instanceMethod yX11_parseError, Cond.selects RX11 yX11_parseError yX11_parseError, Cond.initialized RX11]) (gl_in [(3, 56), (3, 57), (3, 58), (1, 1)] (by decide +kernel) (by decide +kernel)) ⟨(t_of [Cond.code yX11_parseError cX11_parseError 1 (some .int)] [(3, 59)] (by decide +kernel) _ List.mem_cons_self), List.all_eq_true.mp (by decide +kernel : [Cond.code yX11_parseError cX11_parseError 1 (some .int)].all goodWord = true) _ List.mem_cons_self⟩) rfl rfl rfl (by decide +kernel) ⟨Nat.le_of_ble_eq_true rfl, Nat.le_of_ble_eq_true rfl⟩) h0T (cc_o11 h0s) rfl rfl hl.1 rfl (lv_room (Nat.le_of_ble_eq_true rfl)) dL_law_418 ⟨by show _ ≤ 601024; omega, by show _ ≤ 7293034; omega⟩ ?_
  intro r9 T9 H locs hp G
  obtain ⟨hr9, hS1⟩ := hp
  rw [hS1] at G
  refine lv_to (y := r1) hr9 ?_
  refine lv_pop hx hb dL_law_421 rfl ?_
  refine lv_aload_n hx hb dL_law_422 rfl (lv_at hl 3 rfl) ?_
  obtain ⟨⟨r2, S1⟩, hf, hj⟩ := sj_parseError Sm hJ
  have hJ1 : JJ S1 := hj
  refine y_mi (As := []) (rest := []) E G hA hX.2.2.2.2 hml (tr_parseError l D cI cJ cZ am Sm  hf) (cwV 0 hts (glM (L := [Cond.methodLink RL 207 yX12_parseError, Cond.instanceMethod yX12_parseError, Cond.selects RX12 yX12_parseError yX12_parseError, Cond.initialized RX12]) (gl_in [(8, 81), (8, 82), (8, 83), (1, 14)] (by decide +kernel) (by decide +kernel)) ⟨(t_of [Cond.code yX12_parseError cX12_parseError 1 (some .int)] [(8, 84)] (by decide +kernel) _ List.mem_cons_self), List.all_eq_true.mp (by decide +kernel : [Cond.code yX12_parseError cX12_parseError 1 (some .int)].all goodWord = true) _ List.mem_cons_self⟩) rfl rfl rfl (by decide +kernel) ⟨Nat.le_of_ble_eq_true rfl, Nat.le_of_ble_eq_true rfl⟩) rfl hl.1 rfl (lv_room (Nat.le_of_ble_eq_true rfl)) dL_law_423 ⟨by show _ ≤ 601024; omega, by show _ ≤ 7293034; omega⟩ (fun H locs G => ?_)
  refine lv_pop hx hb dL_law_426 rfl ?_
  refine lv_goto (tgt := 2439) hx hb dL_law_427 (by decide) ?_
  refine W.widen (k := 19 + T1.1 + (j + 1)) (n := 38467 + sg T1 + 6 * (j + 1)) (by omega) (by omega) ?_
  exact kk ad f g H locs ls hg hf rfl hV1 hrc1 hJ1 G hl
set_option maxHeartbeats 4000000 in
set_option maxRecDepth 100000 in
theorem y_a3 {p : Program} {e : Env} {s : State} {m : MethodId} {below : List Frame} {meth : Method} {c : Code} (l : Launch) (hst : l.stackTraces = false) {b L : Nat} {xs : Nat → Int32} (hx : p.tables.exec = Jvm.exec) (hb : c.code = code) (hml : c.maxLocals = 9) (hown : s.vm.findClass RL = some m.cls) (hts : ∀ w ∈ lw_tbl, w.before #[Value.ref b] s = true) (hX0 : va_X b L xs s s.heap) (hbl : b < s.heap.size) (hX : xT (fun q => s.heap.size ≤ q) s) (hN : nC s) (hTS : sAll s.heap.size s) {D : va_G} {cI cJ cZ cMic cSrc cSt cAI cAJ cD : ClassId} (hK : va_K D vwCl (CT cI cJ cZ cMic cSrc cSt cAI cAJ ++ [(cD, .double)]) s) {Q : State → Prop} {i j : Nat} (hi : i + 6 ≤ L) (hL : L ≤ 3072) (hj : j < 512) {aj ae : Nat} {ad am : Nat → Nat} {T : AT} {Sm : MS} {f : Nat → Int64} {g : Nat → UInt64} {ls : Array Slot} {H : Heap} {locs : List Loc} (hV : IV aR0 1586 aK1 aK2 T) (hrc : RC T) (hJ : JJ Sm) (G : gL cI cJ cZ cMic cSrc cSt cAI cAJ D ad (fun q => s.heap.size ≤ q) s.heap H locs T (oJ aj cJ f :: oD ae cD g :: MW cI cJ cZ am Sm)) (hl : lv_has ls 9 [(5, .int (nI i)), (4, .ref ae), (3, .ref aj), (2, .ref (am 0)), (1, .ref (ad 0)), (0, .ref b)]) (kk : ∀ {r1 : Int32} {T1 : AT} {r2 : Int32} {S1 : MS} (ad2 : Nat → Nat) (f1 : Nat → Int64) (g1 : Nat → UInt64) (H1 : Heap) (locs1 : List Loc) (ls1 : Array Slot), g_X11_errorPosition T 0 = some (r1, T1) → fr_errorPosition Sm = some (r2, S1) → ad2 0 = ad 0 → IV aR0 1586 aK1 aK2 T1 → RC T1 → JJ S1 → gL cI cJ cZ cMic cSrc cSt cAI cAJ D ad2 (fun q => s.heap.size ≤ q) s.heap H1 locs1 T1 (oJ aj cJ f1 :: oD ae cD g1 :: MW cI cJ cZ am S1) → lv_has ls1 9 [(5, .int (nI i)), (4, .ref ae), (3, .ref aj), (2, .ref (am 0)), (1, .ref (ad2 0)), (0, .ref b)] → W p l e room_1 s m #[Value.ref b] below meth c H1 locs1 (19 + T1.1 + (j + 1)) (38467 + sg T1 + 6 * (j + 1)) Q (F0 m 2439 ls1 [])) : W p l e room_1 s m #[Value.ref b] below meth c H locs (19 + T.1 + j) (38467 + sg T + 6 * j) Q (F0 m 430 ls []) := by
  have E : cE p c cL_law s m #[Value.ref b] lw_tbl D RL (CT cI cJ cZ cMic cSrc cSt cAI cAJ ++ [(cD, .double)]) := ⟨hx, hb, hts, hown, hK⟩
  have hA : ∀ q : Nat, s.heap.size ≤ q → s.heap.size ≤ q := fun _ h => h
  have h0T : 0 < T.1 := Nat.lt_of_lt_of_le (by decide) hV.1.2.2
  have h0s : T.2.1 0 = (11, 0) := hV.2.1 0 ⟨by decide, by decide +kernel, by decide +kernel⟩
  refine lv_aload_n hx hb dL_law_430 rfl (lv_at hl 4 rfl) ?_
  obtain ⟨⟨r1, T1⟩, hg, hc⟩ := cs_X11_errorPosition T 0 hV (by decide +kernel)
  have hV1 : IV aR0 1586 aK1 aK2 T1 := by rw [show T1 = T from hc.1]; exact hV
  have hg1 := (gl_sp (s_X11_errorPosition hg))
  have hg2 := sg_le hg1
  have hg3 := hg1.1
  have hk := hV1.2.2.2.2.2.2
  have hrc1 := hg1.2.2 hrc
  have hr0 := a_room
  refine t_cvi (As := []) (rest := []) E G hA hX hX.2.2.2.1 hml (u_X11_errorPosition l hst D cI cJ cZ cMic cSrc cSt cAI cAJ ad T 0  hg) (cwV 0 hts (glA (L := [Cond.methodLink RL 208 yX11_errorPosition, Cond.instanceMethod yX11_errorPosition, Cond.selects RX11 yX11_errorPosition yX11_errorPosition, Cond.initialized RX11]) (gl_in [(3, 60), (3, 61), (3, 62), (1, 1)] (by decide +kernel) (by decide +kernel)) ⟨(t_of [Cond.code yX11_errorPosition cX11_errorPosition 1 (some .int)] [(3, 63)] (by decide +kernel) _ List.mem_cons_self), List.all_eq_true.mp (by decide +kernel : [Cond.code yX11_errorPosition cX11_errorPosition 1 (some .int)].all goodWord = true) _ List.mem_cons_self⟩) rfl rfl rfl (by decide +kernel) ⟨Nat.le_of_ble_eq_true rfl, Nat.le_of_ble_eq_true rfl⟩) h0T (cc_o11 h0s) rfl rfl hl.1 rfl (lv_room (Nat.le_of_ble_eq_true rfl)) dL_law_431 ⟨by show _ ≤ 601024; omega, by show _ ≤ 7293034; omega⟩ ?_
  intro r9 T9 H locs hp G
  obtain ⟨hr9, hS1⟩ := hp
  rw [hS1] at G
  refine lv_to (y := r1) hr9 ?_
  refine lv_pop hx hb dL_law_434 rfl ?_
  refine lv_aload_n hx hb dL_law_435 rfl (lv_at hl 3 rfl) ?_
  obtain ⟨⟨r2, S1⟩, hf, hj⟩ := sj_errorPosition Sm hJ
  have hJ1 : JJ S1 := hj
  refine y_mi (As := []) (rest := []) E G hA hX.2.2.2.2 hml (tr_errorPosition l D cI cJ cZ am Sm  hf) (cwV 0 hts (glM (L := [Cond.methodLink RL 211 yX12_errorPosition, Cond.instanceMethod yX12_errorPosition, Cond.selects RX12 yX12_errorPosition yX12_errorPosition, Cond.initialized RX12]) (gl_in [(8, 85), (8, 86), (8, 87), (1, 14)] (by decide +kernel) (by decide +kernel)) ⟨(t_of [Cond.code yX12_errorPosition cX12_errorPosition 1 (some .int)] [(8, 88)] (by decide +kernel) _ List.mem_cons_self), List.all_eq_true.mp (by decide +kernel : [Cond.code yX12_errorPosition cX12_errorPosition 1 (some .int)].all goodWord = true) _ List.mem_cons_self⟩) rfl rfl rfl (by decide +kernel) ⟨Nat.le_of_ble_eq_true rfl, Nat.le_of_ble_eq_true rfl⟩) rfl hl.1 rfl (lv_room (Nat.le_of_ble_eq_true rfl)) dL_law_436 ⟨by show _ ≤ 601024; omega, by show _ ≤ 7293034; omega⟩ (fun H locs G => ?_)
  refine lv_pop hx hb dL_law_439 rfl ?_
  refine lv_goto (tgt := 2439) hx hb dL_law_440 (by decide) ?_
  refine W.widen (k := 19 + T1.1 + (j + 1)) (n := 38467 + sg T1 + 6 * (j + 1)) (by omega) (by omega) ?_
  exact kk ad f g H locs ls hg hf rfl hV1 hrc1 hJ1 G hl
set_option maxHeartbeats 4000000 in
set_option maxRecDepth 100000 in
theorem y_a4 {p : Program} {e : Env} {s : State} {m : MethodId} {below : List Frame} {meth : Method} {c : Code} (l : Launch) (hst : l.stackTraces = false) {b L : Nat} {xs : Nat → Int32} (hx : p.tables.exec = Jvm.exec) (hb : c.code = code) (hml : c.maxLocals = 9) (hown : s.vm.findClass RL = some m.cls) (hts : ∀ w ∈ lw_tbl, w.before #[Value.ref b] s = true) (hX0 : va_X b L xs s s.heap) (hbl : b < s.heap.size) (hX : xT (fun q => s.heap.size ≤ q) s) (hN : nC s) (hTS : sAll s.heap.size s) {D : va_G} {cI cJ cZ cMic cSrc cSt cAI cAJ cD : ClassId} (hK : va_K D vwCl (CT cI cJ cZ cMic cSrc cSt cAI cAJ ++ [(cD, .double)]) s) {Q : State → Prop} {i j : Nat} (hi : i + 6 ≤ L) (hL : L ≤ 3072) (hj : j < 512) {aj ae : Nat} {ad am : Nat → Nat} {T : AT} {Sm : MS} {f : Nat → Int64} {g : Nat → UInt64} {ls : Array Slot} {H : Heap} {locs : List Loc} (hV : IV aR0 1586 aK1 aK2 T) (hrc : RC T) (hJ : JJ Sm) (G : gL cI cJ cZ cMic cSrc cSt cAI cAJ D ad (fun q => s.heap.size ≤ q) s.heap H locs T (oJ aj cJ f :: oD ae cD g :: MW cI cJ cZ am Sm)) (hl : lv_has ls 9 [(5, .int (nI i)), (4, .ref ae), (3, .ref aj), (2, .ref (am 0)), (1, .ref (ad 0)), (0, .ref b)]) (kk : ∀ {r1 : Int32} {T1 : AT} {r2 : Int32} {S1 : MS} (ad2 : Nat → Nat) (f1 : Nat → Int64) (g1 : Nat → UInt64) (H1 : Heap) (locs1 : List Loc) (ls1 : Array Slot), g_X11_buffered T 0 = some (r1, T1) → fr_buffered Sm = some (r2, S1) → ad2 0 = ad 0 → IV aR0 1586 aK1 aK2 T1 → RC T1 → JJ S1 → gL cI cJ cZ cMic cSrc cSt cAI cAJ D ad2 (fun q => s.heap.size ≤ q) s.heap H1 locs1 T1 (oJ aj cJ f1 :: oD ae cD g1 :: MW cI cJ cZ am S1) → lv_has ls1 9 [(5, .int (nI i)), (4, .ref ae), (3, .ref aj), (2, .ref (am 0)), (1, .ref (ad2 0)), (0, .ref b)] → W p l e room_1 s m #[Value.ref b] below meth c H1 locs1 (19 + T1.1 + (j + 1)) (38467 + sg T1 + 6 * (j + 1)) Q (F0 m 2439 ls1 [])) : W p l e room_1 s m #[Value.ref b] below meth c H locs (19 + T.1 + j) (38467 + sg T + 6 * j) Q (F0 m 443 ls []) := by
  have E : cE p c cL_law s m #[Value.ref b] lw_tbl D RL (CT cI cJ cZ cMic cSrc cSt cAI cAJ ++ [(cD, .double)]) := ⟨hx, hb, hts, hown, hK⟩
  have hA : ∀ q : Nat, s.heap.size ≤ q → s.heap.size ≤ q := fun _ h => h
  have h0T : 0 < T.1 := Nat.lt_of_lt_of_le (by decide) hV.1.2.2
  have h0s : T.2.1 0 = (11, 0) := hV.2.1 0 ⟨by decide, by decide +kernel, by decide +kernel⟩
  refine lv_aload_n hx hb dL_law_443 rfl (lv_at hl 4 rfl) ?_
  obtain ⟨⟨r1, T1⟩, hg, hc⟩ := cs_X11_buffered T 0 hV (by decide +kernel)
  have hV1 : IV aR0 1586 aK1 aK2 T1 := by rw [show T1 = T from hc.1]; exact hV
  have hg1 := (gl_sp (s_X11_buffered hg))
  have hg2 := sg_le hg1
  have hg3 := hg1.1
  have hk := hV1.2.2.2.2.2.2
  have hrc1 := hg1.2.2 hrc
  have hr0 := a_room
  refine t_cvi (As := []) (rest := []) E G hA hX hX.2.2.2.1 hml (u_X11_buffered l hst D cI cJ cZ cMic cSrc cSt cAI cAJ ad T 0  hg) (cwV 0 hts (glA (L := [Cond.methodLink RL 212 yX11_buffered, Cond.instanceMethod yX11_buffered, Cond.selects RX11 yX11_buffered yX11_buffered, Cond.initialized RX11]) (gl_in [(3, 64), (3, 65), (3, 66), (1, 1)] (by decide +kernel) (by decide +kernel)) ⟨(t_of [Cond.code yX11_buffered cX11_buffered 1 (some .int)] [(3, 67)] (by decide +kernel) _ List.mem_cons_self), List.all_eq_true.mp (by decide +kernel : [Cond.code yX11_buffered cX11_buffered 1 (some .int)].all goodWord = true) _ List.mem_cons_self⟩) rfl rfl rfl (by decide +kernel) ⟨Nat.le_of_ble_eq_true rfl, Nat.le_of_ble_eq_true rfl⟩) h0T (cc_o11 h0s) rfl rfl hl.1 rfl (lv_room (Nat.le_of_ble_eq_true rfl)) dL_law_444 ⟨by show _ ≤ 601024; omega, by show _ ≤ 7293034; omega⟩ ?_
  intro r9 T9 H locs hp G
  obtain ⟨hr9, hS1⟩ := hp
  rw [hS1] at G
  refine lv_to (y := r1) hr9 ?_
  refine lv_pop hx hb dL_law_447 rfl ?_
  refine lv_aload_n hx hb dL_law_448 rfl (lv_at hl 3 rfl) ?_
  obtain ⟨⟨r2, S1⟩, hf, hj⟩ := sj_buffered Sm hJ
  have hJ1 : JJ S1 := hj
  refine y_mi (As := []) (rest := []) E G hA hX.2.2.2.2 hml (tr_buffered l D cI cJ cZ am Sm  hf) (cwV 0 hts (glM (L := [Cond.methodLink RL 215 yX12_buffered, Cond.instanceMethod yX12_buffered, Cond.selects RX12 yX12_buffered yX12_buffered, Cond.initialized RX12]) (gl_in [(8, 77), (8, 78), (8, 79), (1, 14)] (by decide +kernel) (by decide +kernel)) ⟨(t_of [Cond.code yX12_buffered cX12_buffered 1 (some .int)] [(8, 80)] (by decide +kernel) _ List.mem_cons_self), List.all_eq_true.mp (by decide +kernel : [Cond.code yX12_buffered cX12_buffered 1 (some .int)].all goodWord = true) _ List.mem_cons_self⟩) rfl rfl rfl (by decide +kernel) ⟨Nat.le_of_ble_eq_true rfl, Nat.le_of_ble_eq_true rfl⟩) rfl hl.1 rfl (lv_room (Nat.le_of_ble_eq_true rfl)) dL_law_449 ⟨by show _ ≤ 601024; omega, by show _ ≤ 7293034; omega⟩ (fun H locs G => ?_)
  refine lv_pop hx hb dL_law_452 rfl ?_
  refine lv_goto (tgt := 2439) hx hb dL_law_453 (by decide) ?_
  refine W.widen (k := 19 + T1.1 + (j + 1)) (n := 38467 + sg T1 + 6 * (j + 1)) (by omega) (by omega) ?_
  exact kk ad f g H locs ls hg hf rfl hV1 hrc1 hJ1 G hl
set_option maxHeartbeats 4000000 in
set_option maxRecDepth 100000 in
theorem y_a5 {p : Program} {e : Env} {s : State} {m : MethodId} {below : List Frame} {meth : Method} {c : Code} (l : Launch) (hst : l.stackTraces = false) {b L : Nat} {xs : Nat → Int32} (hx : p.tables.exec = Jvm.exec) (hb : c.code = code) (hml : c.maxLocals = 9) (hown : s.vm.findClass RL = some m.cls) (hts : ∀ w ∈ lw_tbl, w.before #[Value.ref b] s = true) (hX0 : va_X b L xs s s.heap) (hbl : b < s.heap.size) (hX : xT (fun q => s.heap.size ≤ q) s) (hN : nC s) (hTS : sAll s.heap.size s) {D : va_G} {cI cJ cZ cMic cSrc cSt cAI cAJ cD : ClassId} (hK : va_K D vwCl (CT cI cJ cZ cMic cSrc cSt cAI cAJ ++ [(cD, .double)]) s) {Q : State → Prop} {i j : Nat} (hi : i + 6 ≤ L) (hL : L ≤ 3072) (hj : j < 512) {aj ae : Nat} {ad am : Nat → Nat} {T : AT} {Sm : MS} {f : Nat → Int64} {g : Nat → UInt64} {ls : Array Slot} {H : Heap} {locs : List Loc} (hV : IV aR0 1586 aK1 aK2 T) (hrc : RC T) (hJ : JJ Sm) (G : gL cI cJ cZ cMic cSrc cSt cAI cAJ D ad (fun q => s.heap.size ≤ q) s.heap H locs T (oJ aj cJ f :: oD ae cD g :: MW cI cJ cZ am Sm)) (hl : lv_has ls 9 [(5, .int (nI i)), (4, .ref ae), (3, .ref aj), (2, .ref (am 0)), (1, .ref (ad 0)), (0, .ref b)]) (kk : ∀ {r1 : Int32} {T1 : AT} {r2 : Int32} {S1 : MS} (ad2 : Nat → Nat) (f1 : Nat → Int64) (g1 : Nat → UInt64) (H1 : Heap) (locs1 : List Loc) (ls1 : Array Slot), g_X11_mics T 0 = some (r1, T1) → fr_mics Sm = some (r2, S1) → ad2 0 = ad 0 → IV aR0 1586 aK1 aK2 T1 → RC T1 → JJ S1 → gL cI cJ cZ cMic cSrc cSt cAI cAJ D ad2 (fun q => s.heap.size ≤ q) s.heap H1 locs1 T1 (oJ aj cJ f1 :: oD ae cD g1 :: MW cI cJ cZ am S1) → lv_has ls1 9 [(5, .int (nI i)), (4, .ref ae), (3, .ref aj), (2, .ref (am 0)), (1, .ref (ad2 0)), (0, .ref b)] → W p l e room_1 s m #[Value.ref b] below meth c H1 locs1 (19 + T1.1 + (j + 1)) (38467 + sg T1 + 6 * (j + 1)) Q (F0 m 2439 ls1 [])) : W p l e room_1 s m #[Value.ref b] below meth c H locs (19 + T.1 + j) (38467 + sg T + 6 * j) Q (F0 m 456 ls []) := by
  have E : cE p c cL_law s m #[Value.ref b] lw_tbl D RL (CT cI cJ cZ cMic cSrc cSt cAI cAJ ++ [(cD, .double)]) := ⟨hx, hb, hts, hown, hK⟩
  have hA : ∀ q : Nat, s.heap.size ≤ q → s.heap.size ≤ q := fun _ h => h
  have h0T : 0 < T.1 := Nat.lt_of_lt_of_le (by decide) hV.1.2.2
  have h0s : T.2.1 0 = (11, 0) := hV.2.1 0 ⟨by decide, by decide +kernel, by decide +kernel⟩
  refine lv_aload_n hx hb dL_law_456 rfl (lv_at hl 4 rfl) ?_
  obtain ⟨⟨r1, T1⟩, hg, hc⟩ := cs_X11_mics T 0 hV (by decide +kernel)
  have hV1 : IV aR0 1586 aK1 aK2 T1 := by rw [show T1 = T from hc.1]; exact hV
  have hg1 := (gl_sp (s_X11_mics hg))
  have hg2 := sg_le hg1
  have hg3 := hg1.1
  have hk := hV1.2.2.2.2.2.2
  have hrc1 := hg1.2.2 hrc
  have hr0 := a_room
  refine t_cvi (As := []) (rest := []) E G hA hX hX.2.2.2.1 hml (u_X11_mics l hst D cI cJ cZ cMic cSrc cSt cAI cAJ ad T 0  hg) (cwV 0 hts (glA (L := [Cond.methodLink RL 216 yX11_mics, Cond.instanceMethod yX11_mics, Cond.selects RX11 yX11_mics yX11_mics, Cond.initialized RX11]) (gl_in [(3, 68), (3, 69), (3, 70), (1, 1)] (by decide +kernel) (by decide +kernel)) ⟨(t_of [Cond.code yX11_mics cX11_mics 1 (some .int)] [(3, 71)] (by decide +kernel) _ List.mem_cons_self), List.all_eq_true.mp (by decide +kernel : [Cond.code yX11_mics cX11_mics 1 (some .int)].all goodWord = true) _ List.mem_cons_self⟩) rfl rfl rfl (by decide +kernel) ⟨Nat.le_of_ble_eq_true rfl, Nat.le_of_ble_eq_true rfl⟩) h0T (cc_o11 h0s) rfl rfl hl.1 rfl (lv_room (Nat.le_of_ble_eq_true rfl)) dL_law_457 ⟨by show _ ≤ 601024; omega, by show _ ≤ 7293034; omega⟩ ?_
  intro r9 T9 H locs hp G
  obtain ⟨hr9, hS1⟩ := hp
  rw [hS1] at G
  refine lv_to (y := r1) hr9 ?_
  refine lv_pop hx hb dL_law_460 rfl ?_
  refine lv_aload_n hx hb dL_law_461 rfl (lv_at hl 3 rfl) ?_
  obtain ⟨⟨r2, S1⟩, hf, hj⟩ := sj_mics Sm hJ
  have hJ1 : JJ S1 := hj
  refine y_mi (As := []) (rest := []) E G hA hX.2.2.2.2 hml (tr_mics l D cI cJ cZ am Sm  hf) (cwV 0 hts (glM (L := [Cond.methodLink RL 219 yX12_mics, Cond.instanceMethod yX12_mics, Cond.selects RX12 yX12_mics yX12_mics, Cond.initialized RX12]) (gl_in [(9, 40), (9, 41), (9, 42), (1, 14)] (by decide +kernel) (by decide +kernel)) ⟨(t_of [Cond.code yX12_mics cX12_mics 1 (some .int)] [(9, 43)] (by decide +kernel) _ List.mem_cons_self), List.all_eq_true.mp (by decide +kernel : [Cond.code yX12_mics cX12_mics 1 (some .int)].all goodWord = true) _ List.mem_cons_self⟩) rfl rfl rfl (by decide +kernel) ⟨Nat.le_of_ble_eq_true rfl, Nat.le_of_ble_eq_true rfl⟩) rfl hl.1 rfl (lv_room (Nat.le_of_ble_eq_true rfl)) dL_law_462 ⟨by show _ ≤ 601024; omega, by show _ ≤ 7293034; omega⟩ (fun H locs G => ?_)
  refine lv_pop hx hb dL_law_465 rfl ?_
  refine lv_goto (tgt := 2439) hx hb dL_law_466 (by decide) ?_
  refine W.widen (k := 19 + T1.1 + (j + 1)) (n := 38467 + sg T1 + 6 * (j + 1)) (by omega) (by omega) ?_
  exact kk ad f g H locs ls hg hf rfl hV1 hrc1 hJ1 G hl
set_option maxHeartbeats 4000000 in
set_option maxRecDepth 100000 in
theorem y_a6 {p : Program} {e : Env} {s : State} {m : MethodId} {below : List Frame} {meth : Method} {c : Code} (l : Launch) (hst : l.stackTraces = false) {b L : Nat} {xs : Nat → Int32} (hx : p.tables.exec = Jvm.exec) (hb : c.code = code) (hml : c.maxLocals = 9) (hown : s.vm.findClass RL = some m.cls) (hts : ∀ w ∈ lw_tbl, w.before #[Value.ref b] s = true) (hX0 : va_X b L xs s s.heap) (hbl : b < s.heap.size) (hX : xT (fun q => s.heap.size ≤ q) s) (hN : nC s) (hTS : sAll s.heap.size s) {D : va_G} {cI cJ cZ cMic cSrc cSt cAI cAJ cD : ClassId} (hK : va_K D vwCl (CT cI cJ cZ cMic cSrc cSt cAI cAJ ++ [(cD, .double)]) s) {Q : State → Prop} {i j : Nat} (hi : i + 6 ≤ L) (hL : L ≤ 3072) (hj : j < 512) {aj ae : Nat} {ad am : Nat → Nat} {T : AT} {Sm : MS} {f : Nat → Int64} {g : Nat → UInt64} {ls : Array Slot} {H : Heap} {locs : List Loc} (hV : IV aR0 1586 aK1 aK2 T) (hrc : RC T) (hJ : JJ Sm) (G : gL cI cJ cZ cMic cSrc cSt cAI cAJ D ad (fun q => s.heap.size ≤ q) s.heap H locs T (oJ aj cJ f :: oD ae cD g :: MW cI cJ cZ am Sm)) (hl : lv_has ls 9 [(5, .int (nI i)), (4, .ref ae), (3, .ref aj), (2, .ref (am 0)), (1, .ref (ad 0)), (0, .ref b)]) (kk : ∀ {k1 : Nat} {r1 : Int32} {T1 : AT} {r2 : Int32} {S1 : MS} (ad2 : Nat → Nat) (f1 : Nat → Int64) (g1 : Nat → UInt64) (H1 : Heap) (locs1 : List Loc) (ls1 : Array Slot), g_X11_micAt T 0 (xs (i + 1)) (xs (i + 2)) = some (k1, r1, T1) → fr_micAt Sm (xs (i + 1)) (xs (i + 2)) = some (r2, S1) → ad2 0 = ad 0 → IV aR0 1586 aK1 aK2 T1 → RC T1 → JJ S1 → gL cI cJ cZ cMic cSrc cSt cAI cAJ D ad2 (fun q => s.heap.size ≤ q) s.heap H1 locs1 T1 (oJ aj cJ f1 :: oD ae cD g1 :: MW cI cJ cZ am S1) → lv_has ls1 9 [(5, .int (nI i)), (4, .ref ae), (3, .ref aj), (2, .ref (am 0)), (1, .ref (ad2 0)), (0, .ref b)] → W p l e room_1 s m #[Value.ref b] below meth c H1 locs1 (19 + T1.1 + (j + 1)) (38467 + sg T1 + 6 * (j + 1)) Q (F0 m 2439 ls1 [])) : W p l e room_1 s m #[Value.ref b] below meth c H locs (19 + T.1 + j) (38467 + sg T + 6 * j) Q (F0 m 469 ls []) := by
  have E : cE p c cL_law s m #[Value.ref b] lw_tbl D RL (CT cI cJ cZ cMic cSrc cSt cAI cAJ ++ [(cD, .double)]) := ⟨hx, hb, hts, hown, hK⟩
  have hA : ∀ q : Nat, s.heap.size ≤ q → s.heap.size ≤ q := fun _ h => h
  have h0T : 0 < T.1 := Nat.lt_of_lt_of_le (by decide) hV.1.2.2
  have h0s : T.2.1 0 = (11, 0) := hV.2.1 0 ⟨by decide, by decide +kernel, by decide +kernel⟩
  refine lv_aload_n hx hb dL_law_469 rfl (lv_at hl 4 rfl) ?_
  refine lv_aload_n hx hb dL_law_470 rfl (lv_at hl 5 rfl) ?_
  refine lv_iload hx hb dL_law_471 (lv_at hl 0 rfl) ?_
  refine lv_iconst (v := 1) hx hb dL_law_473 (by decide) ?_
  refine lv_iadd hx hb dL_law_474 ?_
  refine lv_to (y := nI (i + 1)) (nI_add i 1) ?_
  refine va_sld hx hb hX0 hbl (Nat.not_le.mpr hbl) G.2.2 (i := nI (i + 1)) (vp_in_nI (n := i + 1) (N := L) (by omega) (by omega)) dL_law_475 ?_
  refine lv_to (y := xs (i + 1)) (congrArg xs (nI_clamp (by omega))) ?_
  refine lv_aload_n hx hb dL_law_476 rfl (lv_at hl 5 rfl) ?_
  refine lv_iload hx hb dL_law_477 (lv_at hl 0 rfl) ?_
  refine lv_iconst (v := 2) hx hb dL_law_479 (by decide) ?_
  refine lv_iadd hx hb dL_law_480 ?_
  refine lv_to (y := nI (i + 2)) (nI_add i 2) ?_
  refine va_sld hx hb hX0 hbl (Nat.not_le.mpr hbl) G.2.2 (i := nI (i + 2)) (vp_in_nI (n := i + 2) (N := L) (by omega) (by omega)) dL_law_481 ?_
  refine lv_to (y := xs (i + 2)) (congrArg xs (nI_clamp (by omega))) ?_
  refine lv_aload_n hx hb dL_law_482 rfl (lv_at hl 2 rfl) ?_
  obtain ⟨⟨k1, r1, T1⟩, hg, hc⟩ := cs_X11_micAt T 0 (xs (i + 1)) (xs (i + 2)) hV (by decide +kernel)
  have hV1 : IV aR0 1586 aK1 aK2 T1 := by rw [show T1 = T from hc.1]; exact hV
  have hg1 := (gl_sp (s_X11_micAt hg))
  have hg2 := sg_le hg1
  have hg3 := hg1.1
  have hk := hV1.2.2.2.2.2.2
  have hrc1 := hg1.2.2 hrc
  have hr0 := a_room
  refine l_v (h0 := s.heap.size) (As := [.ref (ad 0), .int (xs (i + 1)), .int (xs (i + 2)), .ref aj]) (rest := []) E G hA hX hN (fun _ h => h) hTS hml (v_micAt l hst D s.heap.size ad T 0 (xs (i + 1)) (xs (i + 2)) aj f hg hrc h0T h0s) (vx_cwSW 4 hts (glA (L := [Cond.methodLink RL 220 yL_micAt, Cond.static yL_micAt, Cond.initialized RL]) (gl_in [(5, 20), (5, 21), (1, 0)] (by decide +kernel) (by decide +kernel)) ⟨(t_of [Cond.codeWith yL_micAt cL_micAt 5 (some .int) [(0, 10, 13, 21), (0, 10, 17, 13), (0, 10, 21, 15)]] [(5, 22)] (by decide +kernel) _ List.mem_cons_self), List.all_eq_true.mp (by decide +kernel : [Cond.codeWith yL_micAt cL_micAt 5 (some .int) [(0, 10, 13, 21), (0, 10, 17, 13), (0, 10, 21, 15)]].all goodWord = true) _ List.mem_cons_self⟩) rfl rfl rfl (by decide +kernel) ⟨Nat.le_of_ble_eq_true rfl, Nat.le_of_ble_eq_true rfl⟩) rfl hl.1 rfl (lv_room (Nat.le_of_ble_eq_true rfl)) dL_law_483 ⟨by show _ ≤ 601024; omega, by show _ ≤ 7293034; omega⟩ ?_
  intro ad2 H locs had G
  rw [← had 0 h0T] at hl
  refine lv_istore (lv' := [(6, .int (vck 1 2 3 k1)), (5, .int (nI i)), (4, .ref ae), (3, .ref aj), (2, .ref (am 0)), (1, .ref (ad2 0)), (0, .ref b)]) hx hb dL_law_486 hl (by decide) rfl (fun ls hl => ?_)
  refine lv_aload_n hx hb dL_law_488 rfl (lv_at hl 4 rfl) ?_
  refine lv_aload_n hx hb dL_law_489 rfl (lv_at hl 6 rfl) ?_
  refine lv_iload hx hb dL_law_490 (lv_at hl 1 rfl) ?_
  refine lv_iconst (v := 1) hx hb dL_law_492 (by decide) ?_
  refine lv_iadd hx hb dL_law_493 ?_
  refine lv_to (y := nI (i + 1)) (nI_add i 1) ?_
  refine va_sld hx hb hX0 hbl (Nat.not_le.mpr hbl) G.2.2 (i := nI (i + 1)) (vp_in_nI (n := i + 1) (N := L) (by omega) (by omega)) dL_law_494 ?_
  refine lv_to (y := xs (i + 1)) (congrArg xs (nI_clamp (by omega))) ?_
  refine lv_aload_n hx hb dL_law_495 rfl (lv_at hl 6 rfl) ?_
  refine lv_iload hx hb dL_law_496 (lv_at hl 1 rfl) ?_
  refine lv_iconst (v := 2) hx hb dL_law_498 (by decide) ?_
  refine lv_iadd hx hb dL_law_499 ?_
  refine lv_to (y := nI (i + 2)) (nI_add i 2) ?_
  refine va_sld hx hb hX0 hbl (Nat.not_le.mpr hbl) G.2.2 (i := nI (i + 2)) (vp_in_nI (n := i + 2) (N := L) (by omega) (by omega)) dL_law_500 ?_
  refine lv_to (y := xs (i + 2)) (congrArg xs (nI_clamp (by omega))) ?_
  obtain ⟨⟨r2, S1⟩, hf, hj⟩ := sj_micAt Sm (xs (i + 1)) (xs (i + 2)) hJ
  have hJ1 : JJ S1 := hj
  refine y_mi (As := [.int (xs (i + 1)), .int (xs (i + 2))]) (rest := []) E G hA hX.2.2.2.2 hml (tr_micAt l D cI cJ cZ am Sm (xs (i + 1)) (xs (i + 2)) hf) (cwV 2 hts (glM (L := [Cond.methodLink RL 223 yX12_micAt, Cond.instanceMethod yX12_micAt, Cond.selects RX12 yX12_micAt yX12_micAt, Cond.initialized RX12]) (gl_in [(9, 48), (9, 49), (9, 50), (1, 14)] (by decide +kernel) (by decide +kernel)) ⟨(t_of [Cond.code yX12_micAt cX12_micAt 3 (some .int)] [(9, 51)] (by decide +kernel) _ List.mem_cons_self), List.all_eq_true.mp (by decide +kernel : [Cond.code yX12_micAt cX12_micAt 3 (some .int)].all goodWord = true) _ List.mem_cons_self⟩) rfl rfl rfl (by decide +kernel) ⟨Nat.le_of_ble_eq_true rfl, Nat.le_of_ble_eq_true rfl⟩) rfl hl.1 rfl (lv_room (Nat.le_of_ble_eq_true rfl)) dL_law_501 ⟨by show _ ≤ 601024; omega, by show _ ≤ 7293034; omega⟩ (fun H locs G => ?_)
  refine lv_istore (lv' := [(7, .int r2), (6, .int (vck 1 2 3 k1)), (5, .int (nI i)), (4, .ref ae), (3, .ref aj), (2, .ref (am 0)), (1, .ref (ad2 0)), (0, .ref b)]) hx hb dL_law_504 hl (by decide) rfl (fun ls hl => ?_)
  refine lv_goto (tgt := 2439) hx hb dL_law_506 (by decide) ?_
  have hl := lv_sub hl [2, 3, 4, 5, 6, 7] rfl
  refine W.widen (k := 19 + T1.1 + (j + 1)) (n := 38467 + sg T1 + 6 * (j + 1)) (by omega) (by omega) ?_
  exact kk ad2 (vfJ k1 f r1.toInt64) g H locs ls hg hf (had 0 h0T) hV1 hrc1 hJ1 G hl
set_option maxHeartbeats 4000000 in
set_option maxRecDepth 100000 in
theorem y_a7 {p : Program} {e : Env} {s : State} {m : MethodId} {below : List Frame} {meth : Method} {c : Code} (l : Launch) (hst : l.stackTraces = false) {b L : Nat} {xs : Nat → Int32} (hx : p.tables.exec = Jvm.exec) (hb : c.code = code) (hml : c.maxLocals = 9) (hown : s.vm.findClass RL = some m.cls) (hts : ∀ w ∈ lw_tbl, w.before #[Value.ref b] s = true) (hX0 : va_X b L xs s s.heap) (hbl : b < s.heap.size) (hX : xT (fun q => s.heap.size ≤ q) s) (hN : nC s) (hTS : sAll s.heap.size s) {D : va_G} {cI cJ cZ cMic cSrc cSt cAI cAJ cD : ClassId} (hK : va_K D vwCl (CT cI cJ cZ cMic cSrc cSt cAI cAJ ++ [(cD, .double)]) s) {Q : State → Prop} {i j : Nat} (hi : i + 6 ≤ L) (hL : L ≤ 3072) (hj : j < 512) {aj ae : Nat} {ad am : Nat → Nat} {T : AT} {Sm : MS} {f : Nat → Int64} {g : Nat → UInt64} {ls : Array Slot} {H : Heap} {locs : List Loc} (hV : IV aR0 1586 aK1 aK2 T) (hrc : RC T) (hJ : JJ Sm) (G : gL cI cJ cZ cMic cSrc cSt cAI cAJ D ad (fun q => s.heap.size ≤ q) s.heap H locs T (oJ aj cJ f :: oD ae cD g :: MW cI cJ cZ am Sm)) (hl : lv_has ls 9 [(5, .int (nI i)), (4, .ref ae), (3, .ref aj), (2, .ref (am 0)), (1, .ref (ad 0)), (0, .ref b)]) (kk : ∀ {k1 : Nat} {r1 : Int32} {T1 : AT} {r2 : Int32} {S1 : MS} (ad2 : Nat → Nat) (f1 : Nat → Int64) (g1 : Nat → UInt64) (H1 : Heap) (locs1 : List Loc) (ls1 : Array Slot), g_X11_isMuted T 0 (xs (i + 1)) = some (k1, r1, T1) → fr_isMuted Sm (xs (i + 1)) = some (r2, S1) → ad2 0 = ad 0 → IV aR0 1586 aK1 aK2 T1 → RC T1 → JJ S1 → gL cI cJ cZ cMic cSrc cSt cAI cAJ D ad2 (fun q => s.heap.size ≤ q) s.heap H1 locs1 T1 (oJ aj cJ f1 :: oD ae cD g1 :: MW cI cJ cZ am S1) → lv_has ls1 9 [(5, .int (nI i)), (4, .ref ae), (3, .ref aj), (2, .ref (am 0)), (1, .ref (ad2 0)), (0, .ref b)] → W p l e room_1 s m #[Value.ref b] below meth c H1 locs1 (19 + T1.1 + (j + 1)) (38467 + sg T1 + 6 * (j + 1)) Q (F0 m 2439 ls1 [])) : W p l e room_1 s m #[Value.ref b] below meth c H locs (19 + T.1 + j) (38467 + sg T + 6 * j) Q (F0 m 509 ls []) := by
  have E : cE p c cL_law s m #[Value.ref b] lw_tbl D RL (CT cI cJ cZ cMic cSrc cSt cAI cAJ ++ [(cD, .double)]) := ⟨hx, hb, hts, hown, hK⟩
  have hA : ∀ q : Nat, s.heap.size ≤ q → s.heap.size ≤ q := fun _ h => h
  have h0T : 0 < T.1 := Nat.lt_of_lt_of_le (by decide) hV.1.2.2
  have h0s : T.2.1 0 = (11, 0) := hV.2.1 0 ⟨by decide, by decide +kernel, by decide +kernel⟩
  refine lv_aload_n hx hb dL_law_509 rfl (lv_at hl 4 rfl) ?_
  refine lv_aload_n hx hb dL_law_510 rfl (lv_at hl 5 rfl) ?_
  refine lv_iload hx hb dL_law_511 (lv_at hl 0 rfl) ?_
  refine lv_iconst (v := 1) hx hb dL_law_513 (by decide) ?_
  refine lv_iadd hx hb dL_law_514 ?_
  refine lv_to (y := nI (i + 1)) (nI_add i 1) ?_
  refine va_sld hx hb hX0 hbl (Nat.not_le.mpr hbl) G.2.2 (i := nI (i + 1)) (vp_in_nI (n := i + 1) (N := L) (by omega) (by omega)) dL_law_515 ?_
  refine lv_to (y := xs (i + 1)) (congrArg xs (nI_clamp (by omega))) ?_
  refine lv_aload_n hx hb dL_law_516 rfl (lv_at hl 2 rfl) ?_
  obtain ⟨⟨k1, r1, T1⟩, hg, hc⟩ := cs_X11_isMuted T 0 (xs (i + 1)) hV (by decide +kernel)
  have hV1 : IV aR0 1586 aK1 aK2 T1 := by rw [show T1 = T from hc.1]; exact hV
  have hg1 := (gl_sp (s_X11_isMuted hg))
  have hg2 := sg_le hg1
  have hg3 := hg1.1
  have hk := hV1.2.2.2.2.2.2
  have hrc1 := hg1.2.2 hrc
  have hr0 := a_room
  refine l_v (h0 := s.heap.size) (As := [.ref (ad 0), .int (xs (i + 1)), .ref aj]) (rest := []) E G hA hX hN (fun _ h => h) hTS hml (v_isMuted l hst D s.heap.size ad T 0 (xs (i + 1)) aj f hg hrc h0T h0s) (vx_cwSW 3 hts (glA (L := [Cond.methodLink RL 224 yL_isMuted, Cond.static yL_isMuted, Cond.initialized RL]) (gl_in [(5, 59), (5, 60), (1, 0)] (by decide +kernel) (by decide +kernel)) ⟨(t_of [Cond.codeWith yL_isMuted cL_isMuted 4 (some .int) [(0, 16, 19, 21), (0, 16, 22, 13)]] [(5, 61)] (by decide +kernel) _ List.mem_cons_self), List.all_eq_true.mp (by decide +kernel : [Cond.codeWith yL_isMuted cL_isMuted 4 (some .int) [(0, 16, 19, 21), (0, 16, 22, 13)]].all goodWord = true) _ List.mem_cons_self⟩) rfl rfl rfl (by decide +kernel) ⟨Nat.le_of_ble_eq_true rfl, Nat.le_of_ble_eq_true rfl⟩) rfl hl.1 rfl (lv_room (Nat.le_of_ble_eq_true rfl)) dL_law_517 ⟨by show _ ≤ 601024; omega, by show _ ≤ 7293034; omega⟩ ?_
  intro ad2 H locs had G
  rw [← had 0 h0T] at hl
  refine lv_istore (lv' := [(6, .int (vck 1 2 0 k1)), (5, .int (nI i)), (4, .ref ae), (3, .ref aj), (2, .ref (am 0)), (1, .ref (ad2 0)), (0, .ref b)]) hx hb dL_law_520 hl (by decide) rfl (fun ls hl => ?_)
  refine lv_aload_n hx hb dL_law_522 rfl (lv_at hl 4 rfl) ?_
  refine lv_aload_n hx hb dL_law_523 rfl (lv_at hl 6 rfl) ?_
  refine lv_iload hx hb dL_law_524 (lv_at hl 1 rfl) ?_
  refine lv_iconst (v := 1) hx hb dL_law_526 (by decide) ?_
  refine lv_iadd hx hb dL_law_527 ?_
  refine lv_to (y := nI (i + 1)) (nI_add i 1) ?_
  refine va_sld hx hb hX0 hbl (Nat.not_le.mpr hbl) G.2.2 (i := nI (i + 1)) (vp_in_nI (n := i + 1) (N := L) (by omega) (by omega)) dL_law_528 ?_
  refine lv_to (y := xs (i + 1)) (congrArg xs (nI_clamp (by omega))) ?_
  obtain ⟨⟨r2, S1⟩, hf, hj⟩ := sj_isMuted Sm (xs (i + 1)) hJ
  have hJ1 : JJ S1 := hj
  refine y_mi (As := [.int (xs (i + 1))]) (rest := []) E G hA hX.2.2.2.2 hml (tr_isMuted l D cI cJ cZ am Sm (xs (i + 1)) hf) (cwV 1 hts (glM (L := [Cond.methodLink RL 226 yX12_isMuted, Cond.instanceMethod yX12_isMuted, Cond.selects RX12 yX12_isMuted yX12_isMuted, Cond.initialized RX12]) (gl_in [(9, 60), (9, 61), (9, 62), (1, 14)] (by decide +kernel) (by decide +kernel)) ⟨(t_of [Cond.code yX12_isMuted cX12_isMuted 2 (some .boolean)] [(9, 63)] (by decide +kernel) _ List.mem_cons_self), List.all_eq_true.mp (by decide +kernel : [Cond.code yX12_isMuted cX12_isMuted 2 (some .boolean)].all goodWord = true) _ List.mem_cons_self⟩) rfl rfl rfl (by decide +kernel) ⟨Nat.le_of_ble_eq_true rfl, Nat.le_of_ble_eq_true rfl⟩) rfl hl.1 rfl (lv_room (Nat.le_of_ble_eq_true rfl)) dL_law_529 ⟨by show _ ≤ 601024; omega, by show _ ≤ 7293034; omega⟩ (fun H locs G => ?_)
  refine lv_istore (lv' := [(7, .int r2), (6, .int (vck 1 2 0 k1)), (5, .int (nI i)), (4, .ref ae), (3, .ref aj), (2, .ref (am 0)), (1, .ref (ad2 0)), (0, .ref b)]) hx hb dL_law_532 hl (by decide) rfl (fun ls hl => ?_)
  refine lv_goto (tgt := 2439) hx hb dL_law_534 (by decide) ?_
  have hl := lv_sub hl [2, 3, 4, 5, 6, 7] rfl
  refine W.widen (k := 19 + T1.1 + (j + 1)) (n := 38467 + sg T1 + 6 * (j + 1)) (by omega) (by omega) ?_
  exact kk ad2 (vfJ k1 f (vzb r1)) g H locs ls hg hf (had 0 h0T) hV1 hrc1 hJ1 G hl
end
section
/-! 17b.arm1.lean.txt -/
theorem dL_law_537 : decode cL_law 537 = .ok (.aload_n 1, 1) := de_43 (lb_33 (j := 9) (b := 43) rfl)
theorem dL_law_538 : decode cL_law 538 = .ok (.invokevirtual 227, 3) := de_182 (lb_33 (j := 10) (b := 182) rfl) (lb_33 (j := 11) (b := 0) rfl) (lb_33 (j := 12) (b := 227) rfl) rfl
theorem dL_law_541 : decode cL_law 541 = .ok (.pop, 1) := de_87 (lb_33 (j := 13) (b := 87) rfl)
theorem dL_law_542 : decode cL_law 542 = .ok (.aload_n 2, 1) := de_44 (lb_33 (j := 14) (b := 44) rfl)
theorem dL_law_543 : decode cL_law 543 = .ok (.invokevirtual 230, 3) := de_182 (lb_33 (j := 15) (b := 182) rfl) (lb_34 (j := 0) (b := 0) rfl) (lb_34 (j := 1) (b := 230) rfl) rfl
theorem dL_law_546 : decode cL_law 546 = .ok (.pop, 1) := de_87 (lb_34 (j := 2) (b := 87) rfl)
theorem dL_law_547 : decode cL_law 547 = .ok (.goto 1892, 3) := de_167 (lb_34 (j := 3) (b := 167) rfl) (lb_34 (j := 4) (b := 7) rfl) (lb_34 (j := 5) (b := 100) rfl) (by decide +kernel)
theorem dL_law_550 : decode cL_law 550 = .ok (.aload_n 1, 1) := de_43 (lb_34 (j := 6) (b := 43) rfl)
theorem dL_law_551 : decode cL_law 551 = .ok (.invokevirtual 231, 3) := de_182 (lb_34 (j := 7) (b := 182) rfl) (lb_34 (j := 8) (b := 0) rfl) (lb_34 (j := 9) (b := 231) rfl) rfl
theorem dL_law_554 : decode cL_law 554 = .ok (.pop, 1) := de_87 (lb_34 (j := 10) (b := 87) rfl)
theorem dL_law_555 : decode cL_law 555 = .ok (.aload_n 2, 1) := de_44 (lb_34 (j := 11) (b := 44) rfl)
theorem dL_law_556 : decode cL_law 556 = .ok (.invokevirtual 234, 3) := de_182 (lb_34 (j := 12) (b := 182) rfl) (lb_34 (j := 13) (b := 0) rfl) (lb_34 (j := 14) (b := 234) rfl) rfl
theorem dL_law_559 : decode cL_law 559 = .ok (.pop, 1) := de_87 (lb_34 (j := 15) (b := 87) rfl)
theorem dL_law_560 : decode cL_law 560 = .ok (.goto 1879, 3) := de_167 (lb_35 (j := 0) (b := 167) rfl) (lb_35 (j := 1) (b := 7) rfl) (lb_35 (j := 2) (b := 87) rfl) (by decide +kernel)
theorem dL_law_563 : decode cL_law 563 = .ok (.aload_n 1, 1) := de_43 (lb_35 (j := 3) (b := 43) rfl)
theorem dL_law_564 : decode cL_law 564 = .ok (.aload_n 0, 1) := de_42 (lb_35 (j := 4) (b := 42) rfl)
theorem dL_law_565 : decode cL_law 565 = .ok (.iload 5, 2) := de_21 (lb_35 (j := 5) (b := 21) rfl) (lb_35 (j := 6) (b := 5) rfl) rfl
theorem dL_law_567 : decode cL_law 567 = .ok (.iconst 1, 1) := de_4 (lb_35 (j := 7) (b := 4) rfl)
theorem dL_law_568 : decode cL_law 568 = .ok (.iadd, 1) := de_96 (lb_35 (j := 8) (b := 96) rfl)
theorem dL_law_569 : decode cL_law 569 = .ok (.iaload, 1) := de_46 (lb_35 (j := 9) (b := 46) rfl)
theorem dL_law_570 : decode cL_law 570 = .ok (.aload_n 0, 1) := de_42 (lb_35 (j := 10) (b := 42) rfl)
theorem dL_law_571 : decode cL_law 571 = .ok (.iload 5, 2) := de_21 (lb_35 (j := 11) (b := 21) rfl) (lb_35 (j := 12) (b := 5) rfl) rfl
theorem dL_law_573 : decode cL_law 573 = .ok (.iconst 2, 1) := de_5 (lb_35 (j := 13) (b := 5) rfl)
theorem dL_law_574 : decode cL_law 574 = .ok (.iadd, 1) := de_96 (lb_35 (j := 14) (b := 96) rfl)
theorem dL_law_575 : decode cL_law 575 = .ok (.iaload, 1) := de_46 (lb_35 (j := 15) (b := 46) rfl)
theorem dL_law_576 : decode cL_law 576 = .ok (.aload_n 3, 1) := de_45 (lb_36 (j := 0) (b := 45) rfl)
theorem dL_law_577 : decode cL_law 577 = .ok (.invokestatic 235, 3) := de_184 (lb_36 (j := 1) (b := 184) rfl) (lb_36 (j := 2) (b := 0) rfl) (lb_36 (j := 3) (b := 235) rfl) rfl
theorem dL_law_580 : decode cL_law 580 = .ok (.istore 6, 2) := de_54 (lb_36 (j := 4) (b := 54) rfl) (lb_36 (j := 5) (b := 6) rfl) rfl
theorem dL_law_582 : decode cL_law 582 = .ok (.aload_n 2, 1) := de_44 (lb_36 (j := 6) (b := 44) rfl)
theorem dL_law_583 : decode cL_law 583 = .ok (.aload_n 0, 1) := de_42 (lb_36 (j := 7) (b := 42) rfl)
theorem dL_law_584 : decode cL_law 584 = .ok (.iload 5, 2) := de_21 (lb_36 (j := 8) (b := 21) rfl) (lb_36 (j := 9) (b := 5) rfl) rfl
theorem dL_law_586 : decode cL_law 586 = .ok (.iconst 1, 1) := de_4 (lb_36 (j := 10) (b := 4) rfl)
theorem dL_law_587 : decode cL_law 587 = .ok (.iadd, 1) := de_96 (lb_36 (j := 11) (b := 96) rfl)
theorem dL_law_588 : decode cL_law 588 = .ok (.iaload, 1) := de_46 (lb_36 (j := 12) (b := 46) rfl)
theorem dL_law_589 : decode cL_law 589 = .ok (.aload_n 0, 1) := de_42 (lb_36 (j := 13) (b := 42) rfl)
theorem dL_law_590 : decode cL_law 590 = .ok (.iload 5, 2) := de_21 (lb_36 (j := 14) (b := 21) rfl) (lb_36 (j := 15) (b := 5) rfl) rfl
theorem dL_law_592 : decode cL_law 592 = .ok (.iconst 2, 1) := de_5 (lb_37 (j := 0) (b := 5) rfl)
theorem dL_law_593 : decode cL_law 593 = .ok (.iadd, 1) := de_96 (lb_37 (j := 1) (b := 96) rfl)
theorem dL_law_594 : decode cL_law 594 = .ok (.iaload, 1) := de_46 (lb_37 (j := 2) (b := 46) rfl)
theorem dL_law_595 : decode cL_law 595 = .ok (.invokevirtual 237, 3) := de_182 (lb_37 (j := 3) (b := 182) rfl) (lb_37 (j := 4) (b := 0) rfl) (lb_37 (j := 5) (b := 237) rfl) rfl
theorem dL_law_598 : decode cL_law 598 = .ok (.istore 7, 2) := de_54 (lb_37 (j := 6) (b := 54) rfl) (lb_37 (j := 7) (b := 7) rfl) rfl
theorem dL_law_600 : decode cL_law 600 = .ok (.aload_n 2, 1) := de_44 (lb_37 (j := 8) (b := 44) rfl)
theorem dL_law_601 : decode cL_law 601 = .ok (.invokevirtual 238, 3) := de_182 (lb_37 (j := 9) (b := 182) rfl) (lb_37 (j := 10) (b := 0) rfl) (lb_37 (j := 11) (b := 238) rfl) rfl
theorem dL_law_604 : decode cL_law 604 = .ok (.iload 6, 2) := de_21 (lb_37 (j := 12) (b := 21) rfl) (lb_37 (j := 13) (b := 6) rfl) rfl
theorem dL_law_606 : decode cL_law 606 = .ok (.if_icmp .eq 5, 3) := de_159 (lb_37 (j := 14) (b := 159) rfl) (lb_37 (j := 15) (b := 0) rfl) (lb_38 (j := 0) (b := 5) rfl) (by decide +kernel)
theorem dL_law_611 : decode cL_law 611 = .ok (.iload 6, 2) := de_21 (lb_38 (j := 3) (b := 21) rfl) (lb_38 (j := 4) (b := 6) rfl) rfl
theorem dL_law_613 : decode cL_law 613 = .ok (.ifCond .ne 15, 3) := de_154 (lb_38 (j := 5) (b := 154) rfl) (lb_38 (j := 6) (b := 0) rfl) (lb_38 (j := 7) (b := 15) rfl) (by decide +kernel)
theorem dL_law_616 : decode cL_law 616 = .ok (.aload_n 3, 1) := de_45 (lb_38 (j := 8) (b := 45) rfl)
theorem dL_law_617 : decode cL_law 617 = .ok (.iconst 0, 1) := de_3 (lb_38 (j := 9) (b := 3) rfl)
theorem dL_law_618 : decode cL_law 618 = .ok (.laload, 1) := de_47 (lb_38 (j := 10) (b := 47) rfl)
theorem dL_law_619 : decode cL_law 619 = .ok (.iload 7, 2) := de_21 (lb_38 (j := 11) (b := 21) rfl) (lb_38 (j := 12) (b := 7) rfl) rfl
theorem dL_law_621 : decode cL_law 621 = .ok (.i2l, 1) := de_133 (lb_38 (j := 13) (b := 133) rfl)
theorem dL_law_622 : decode cL_law 622 = .ok (.lcmp, 1) := de_148 (lb_38 (j := 14) (b := 148) rfl)
theorem dL_law_623 : decode cL_law 623 = .ok (.ifCond .eq 5, 3) := de_153 (lb_38 (j := 15) (b := 153) rfl) (lb_39 (j := 0) (b := 0) rfl) (lb_39 (j := 1) (b := 5) rfl) (by decide +kernel)
theorem dL_law_628 : decode cL_law 628 = .ok (.goto 1811, 3) := de_167 (lb_39 (j := 4) (b := 167) rfl) (lb_39 (j := 5) (b := 7) rfl) (lb_39 (j := 6) (b := 19) rfl) (by decide +kernel)
theorem dL_law_631 : decode cL_law 631 = .ok (.aload_n 1, 1) := de_43 (lb_39 (j := 7) (b := 43) rfl)
theorem dL_law_632 : decode cL_law 632 = .ok (.invokevirtual 241, 3) := de_182 (lb_39 (j := 8) (b := 182) rfl) (lb_39 (j := 9) (b := 0) rfl) (lb_39 (j := 10) (b := 241) rfl) rfl
theorem dL_law_635 : decode cL_law 635 = .ok (.pop, 1) := de_87 (lb_39 (j := 11) (b := 87) rfl)
theorem dL_law_636 : decode cL_law 636 = .ok (.aload_n 2, 1) := de_44 (lb_39 (j := 12) (b := 44) rfl)
theorem dL_law_637 : decode cL_law 637 = .ok (.invokevirtual 244, 3) := de_182 (lb_39 (j := 13) (b := 182) rfl) (lb_39 (j := 14) (b := 0) rfl) (lb_39 (j := 15) (b := 244) rfl) rfl
theorem dL_law_640 : decode cL_law 640 = .ok (.pop, 1) := de_87 (lb_40 (j := 0) (b := 87) rfl)
theorem dL_law_641 : decode cL_law 641 = .ok (.goto 1798, 3) := de_167 (lb_40 (j := 1) (b := 167) rfl) (lb_40 (j := 2) (b := 7) rfl) (lb_40 (j := 3) (b := 6) rfl) (by decide +kernel)
theorem dL_law_644 : decode cL_law 644 = .ok (.aload_n 1, 1) := de_43 (lb_40 (j := 4) (b := 43) rfl)
theorem dL_law_645 : decode cL_law 645 = .ok (.aload_n 0, 1) := de_42 (lb_40 (j := 5) (b := 42) rfl)
theorem dL_law_646 : decode cL_law 646 = .ok (.iload 5, 2) := de_21 (lb_40 (j := 6) (b := 21) rfl) (lb_40 (j := 7) (b := 5) rfl) rfl
theorem dL_law_648 : decode cL_law 648 = .ok (.iconst 1, 1) := de_4 (lb_40 (j := 8) (b := 4) rfl)
theorem dL_law_649 : decode cL_law 649 = .ok (.iadd, 1) := de_96 (lb_40 (j := 9) (b := 96) rfl)
theorem dL_law_650 : decode cL_law 650 = .ok (.iaload, 1) := de_46 (lb_40 (j := 10) (b := 46) rfl)
theorem dL_law_651 : decode cL_law 651 = .ok (.aload_n 0, 1) := de_42 (lb_40 (j := 11) (b := 42) rfl)
theorem dL_law_652 : decode cL_law 652 = .ok (.iload 5, 2) := de_21 (lb_40 (j := 12) (b := 21) rfl) (lb_40 (j := 13) (b := 5) rfl) rfl
theorem dL_law_654 : decode cL_law 654 = .ok (.iconst 2, 1) := de_5 (lb_40 (j := 14) (b := 5) rfl)
theorem dL_law_655 : decode cL_law 655 = .ok (.iadd, 1) := de_96 (lb_40 (j := 15) (b := 96) rfl)
theorem dL_law_656 : decode cL_law 656 = .ok (.iaload, 1) := de_46 (lb_41 (j := 0) (b := 46) rfl)
theorem dL_law_657 : decode cL_law 657 = .ok (.aload_n 0, 1) := de_42 (lb_41 (j := 1) (b := 42) rfl)
theorem dL_law_658 : decode cL_law 658 = .ok (.iload 5, 2) := de_21 (lb_41 (j := 2) (b := 21) rfl) (lb_41 (j := 3) (b := 5) rfl) rfl
theorem dL_law_660 : decode cL_law 660 = .ok (.iconst 3, 1) := de_6 (lb_41 (j := 4) (b := 6) rfl)
theorem dL_law_661 : decode cL_law 661 = .ok (.iadd, 1) := de_96 (lb_41 (j := 5) (b := 96) rfl)
theorem dL_law_662 : decode cL_law 662 = .ok (.iaload, 1) := de_46 (lb_41 (j := 6) (b := 46) rfl)
theorem dL_law_663 : decode cL_law 663 = .ok (.aload_n 3, 1) := de_45 (lb_41 (j := 7) (b := 45) rfl)
theorem dL_law_664 : decode cL_law 664 = .ok (.invokestatic 245, 3) := de_184 (lb_41 (j := 8) (b := 184) rfl) (lb_41 (j := 9) (b := 0) rfl) (lb_41 (j := 10) (b := 245) rfl) rfl
theorem dL_law_667 : decode cL_law 667 = .ok (.istore 6, 2) := de_54 (lb_41 (j := 11) (b := 54) rfl) (lb_41 (j := 12) (b := 6) rfl) rfl
theorem dL_law_669 : decode cL_law 669 = .ok (.aload_n 2, 1) := de_44 (lb_41 (j := 13) (b := 44) rfl)
theorem dL_law_670 : decode cL_law 670 = .ok (.aload_n 0, 1) := de_42 (lb_41 (j := 14) (b := 42) rfl)
theorem dL_law_671 : decode cL_law 671 = .ok (.iload 5, 2) := de_21 (lb_41 (j := 15) (b := 21) rfl) (lb_42 (j := 0) (b := 5) rfl) rfl
theorem dL_law_673 : decode cL_law 673 = .ok (.iconst 1, 1) := de_4 (lb_42 (j := 1) (b := 4) rfl)
theorem dL_law_674 : decode cL_law 674 = .ok (.iadd, 1) := de_96 (lb_42 (j := 2) (b := 96) rfl)
theorem dL_law_675 : decode cL_law 675 = .ok (.iaload, 1) := de_46 (lb_42 (j := 3) (b := 46) rfl)
theorem dL_law_676 : decode cL_law 676 = .ok (.aload_n 0, 1) := de_42 (lb_42 (j := 4) (b := 42) rfl)
theorem dL_law_677 : decode cL_law 677 = .ok (.iload 5, 2) := de_21 (lb_42 (j := 5) (b := 21) rfl) (lb_42 (j := 6) (b := 5) rfl) rfl
theorem dL_law_679 : decode cL_law 679 = .ok (.iconst 2, 1) := de_5 (lb_42 (j := 7) (b := 5) rfl)
theorem dL_law_680 : decode cL_law 680 = .ok (.iadd, 1) := de_96 (lb_42 (j := 8) (b := 96) rfl)
theorem dL_law_681 : decode cL_law 681 = .ok (.iaload, 1) := de_46 (lb_42 (j := 9) (b := 46) rfl)
theorem dL_law_682 : decode cL_law 682 = .ok (.aload_n 0, 1) := de_42 (lb_42 (j := 10) (b := 42) rfl)
theorem dL_law_683 : decode cL_law 683 = .ok (.iload 5, 2) := de_21 (lb_42 (j := 11) (b := 21) rfl) (lb_42 (j := 12) (b := 5) rfl) rfl
theorem dL_law_685 : decode cL_law 685 = .ok (.iconst 3, 1) := de_6 (lb_42 (j := 13) (b := 6) rfl)
theorem dL_law_686 : decode cL_law 686 = .ok (.iadd, 1) := de_96 (lb_42 (j := 14) (b := 96) rfl)
theorem dL_law_687 : decode cL_law 687 = .ok (.iaload, 1) := de_46 (lb_42 (j := 15) (b := 46) rfl)
theorem dL_law_688 : decode cL_law 688 = .ok (.invokevirtual 248, 3) := de_182 (lb_43 (j := 0) (b := 182) rfl) (lb_43 (j := 1) (b := 0) rfl) (lb_43 (j := 2) (b := 248) rfl) rfl
theorem dL_law_691 : decode cL_law 691 = .ok (.istore 7, 2) := de_54 (lb_43 (j := 3) (b := 54) rfl) (lb_43 (j := 4) (b := 7) rfl) rfl
theorem dL_law_693 : decode cL_law 693 = .ok (.goto 1746, 3) := de_167 (lb_43 (j := 5) (b := 167) rfl) (lb_43 (j := 6) (b := 6) rfl) (lb_43 (j := 7) (b := 210) rfl) (by decide +kernel)
theorem dL_law_696 : decode cL_law 696 = .ok (.aload_n 1, 1) := de_43 (lb_43 (j := 8) (b := 43) rfl)
theorem dL_law_697 : decode cL_law 697 = .ok (.aload_n 0, 1) := de_42 (lb_43 (j := 9) (b := 42) rfl)
theorem dL_law_698 : decode cL_law 698 = .ok (.iload 5, 2) := de_21 (lb_43 (j := 10) (b := 21) rfl) (lb_43 (j := 11) (b := 5) rfl) rfl
theorem dL_law_700 : decode cL_law 700 = .ok (.iconst 1, 1) := de_4 (lb_43 (j := 12) (b := 4) rfl)
theorem dL_law_701 : decode cL_law 701 = .ok (.iadd, 1) := de_96 (lb_43 (j := 13) (b := 96) rfl)
theorem dL_law_702 : decode cL_law 702 = .ok (.iaload, 1) := de_46 (lb_43 (j := 14) (b := 46) rfl)
theorem dL_law_703 : decode cL_law 703 = .ok (.aload_n 3, 1) := de_45 (lb_43 (j := 15) (b := 45) rfl)
theorem dL_law_704 : decode cL_law 704 = .ok (.invokestatic 249, 3) := de_184 (lb_44 (j := 0) (b := 184) rfl) (lb_44 (j := 1) (b := 0) rfl) (lb_44 (j := 2) (b := 249) rfl) rfl
theorem dL_law_707 : decode cL_law 707 = .ok (.istore 6, 2) := de_54 (lb_44 (j := 3) (b := 54) rfl) (lb_44 (j := 4) (b := 6) rfl) rfl
theorem dL_law_709 : decode cL_law 709 = .ok (.aload_n 2, 1) := de_44 (lb_44 (j := 5) (b := 44) rfl)
theorem dL_law_710 : decode cL_law 710 = .ok (.aload_n 0, 1) := de_42 (lb_44 (j := 6) (b := 42) rfl)
theorem dL_law_711 : decode cL_law 711 = .ok (.iload 5, 2) := de_21 (lb_44 (j := 7) (b := 21) rfl) (lb_44 (j := 8) (b := 5) rfl) rfl
theorem dL_law_713 : decode cL_law 713 = .ok (.iconst 1, 1) := de_4 (lb_44 (j := 9) (b := 4) rfl)
theorem dL_law_714 : decode cL_law 714 = .ok (.iadd, 1) := de_96 (lb_44 (j := 10) (b := 96) rfl)
theorem dL_law_715 : decode cL_law 715 = .ok (.iaload, 1) := de_46 (lb_44 (j := 11) (b := 46) rfl)
theorem dL_law_716 : decode cL_law 716 = .ok (.invokevirtual 251, 3) := de_182 (lb_44 (j := 12) (b := 182) rfl) (lb_44 (j := 13) (b := 0) rfl) (lb_44 (j := 14) (b := 251) rfl) rfl
theorem dL_law_719 : decode cL_law 719 = .ok (.istore 7, 2) := de_54 (lb_44 (j := 15) (b := 54) rfl) (lb_45 (j := 0) (b := 7) rfl) rfl
theorem dL_law_721 : decode cL_law 721 = .ok (.goto 1718, 3) := de_167 (lb_45 (j := 1) (b := 167) rfl) (lb_45 (j := 2) (b := 6) rfl) (lb_45 (j := 3) (b := 182) rfl) (by decide +kernel)
theorem dL_law_724 : decode cL_law 724 = .ok (.aload_n 1, 1) := de_43 (lb_45 (j := 4) (b := 43) rfl)
theorem dL_law_725 : decode cL_law 725 = .ok (.aload_n 0, 1) := de_42 (lb_45 (j := 5) (b := 42) rfl)
theorem dL_law_726 : decode cL_law 726 = .ok (.iload 5, 2) := de_21 (lb_45 (j := 6) (b := 21) rfl) (lb_45 (j := 7) (b := 5) rfl) rfl
theorem dL_law_728 : decode cL_law 728 = .ok (.iconst 1, 1) := de_4 (lb_45 (j := 8) (b := 4) rfl)
theorem dL_law_729 : decode cL_law 729 = .ok (.iadd, 1) := de_96 (lb_45 (j := 9) (b := 96) rfl)
theorem dL_law_730 : decode cL_law 730 = .ok (.iaload, 1) := de_46 (lb_45 (j := 10) (b := 46) rfl)
theorem dL_law_731 : decode cL_law 731 = .ok (.aload_n 0, 1) := de_42 (lb_45 (j := 11) (b := 42) rfl)
theorem dL_law_732 : decode cL_law 732 = .ok (.iload 5, 2) := de_21 (lb_45 (j := 12) (b := 21) rfl) (lb_45 (j := 13) (b := 5) rfl) rfl
theorem dL_law_734 : decode cL_law 734 = .ok (.iconst 2, 1) := de_5 (lb_45 (j := 14) (b := 5) rfl)
theorem dL_law_735 : decode cL_law 735 = .ok (.iadd, 1) := de_96 (lb_45 (j := 15) (b := 96) rfl)
theorem dL_law_736 : decode cL_law 736 = .ok (.iaload, 1) := de_46 (lb_46 (j := 0) (b := 46) rfl)
theorem dL_law_737 : decode cL_law 737 = .ok (.aload_n 3, 1) := de_45 (lb_46 (j := 1) (b := 45) rfl)
theorem dL_law_738 : decode cL_law 738 = .ok (.invokestatic 252, 3) := de_184 (lb_46 (j := 2) (b := 184) rfl) (lb_46 (j := 3) (b := 0) rfl) (lb_46 (j := 4) (b := 252) rfl) rfl
theorem dL_law_741 : decode cL_law 741 = .ok (.istore 6, 2) := de_54 (lb_46 (j := 5) (b := 54) rfl) (lb_46 (j := 6) (b := 6) rfl) rfl
theorem dL_law_743 : decode cL_law 743 = .ok (.aload_n 2, 1) := de_44 (lb_46 (j := 7) (b := 44) rfl)
theorem dL_law_744 : decode cL_law 744 = .ok (.aload_n 0, 1) := de_42 (lb_46 (j := 8) (b := 42) rfl)
theorem dL_law_745 : decode cL_law 745 = .ok (.iload 5, 2) := de_21 (lb_46 (j := 9) (b := 21) rfl) (lb_46 (j := 10) (b := 5) rfl) rfl
theorem dL_law_747 : decode cL_law 747 = .ok (.iconst 1, 1) := de_4 (lb_46 (j := 11) (b := 4) rfl)
theorem dL_law_748 : decode cL_law 748 = .ok (.iadd, 1) := de_96 (lb_46 (j := 12) (b := 96) rfl)
theorem dL_law_749 : decode cL_law 749 = .ok (.iaload, 1) := de_46 (lb_46 (j := 13) (b := 46) rfl)
theorem dL_law_750 : decode cL_law 750 = .ok (.aload_n 0, 1) := de_42 (lb_46 (j := 14) (b := 42) rfl)
theorem dL_law_751 : decode cL_law 751 = .ok (.iload 5, 2) := de_21 (lb_46 (j := 15) (b := 21) rfl) (lb_47 (j := 0) (b := 5) rfl) rfl
theorem dL_law_753 : decode cL_law 753 = .ok (.iconst 2, 1) := de_5 (lb_47 (j := 1) (b := 5) rfl)
theorem dL_law_754 : decode cL_law 754 = .ok (.iadd, 1) := de_96 (lb_47 (j := 2) (b := 96) rfl)
theorem dL_law_755 : decode cL_law 755 = .ok (.iaload, 1) := de_46 (lb_47 (j := 3) (b := 46) rfl)
theorem dL_law_756 : decode cL_law 756 = .ok (.invokevirtual 254, 3) := de_182 (lb_47 (j := 4) (b := 182) rfl) (lb_47 (j := 5) (b := 0) rfl) (lb_47 (j := 6) (b := 254) rfl) rfl
theorem dL_law_759 : decode cL_law 759 = .ok (.istore 7, 2) := de_54 (lb_47 (j := 7) (b := 54) rfl) (lb_47 (j := 8) (b := 7) rfl) rfl
theorem dL_law_761 : decode cL_law 761 = .ok (.goto 1678, 3) := de_167 (lb_47 (j := 9) (b := 167) rfl) (lb_47 (j := 10) (b := 6) rfl) (lb_47 (j := 11) (b := 142) rfl) (by decide +kernel)
theorem dL_law_764 : decode cL_law 764 = .ok (.aload_n 1, 1) := de_43 (lb_47 (j := 12) (b := 43) rfl)
theorem dL_law_765 : decode cL_law 765 = .ok (.invokevirtual 255, 3) := de_182 (lb_47 (j := 13) (b := 182) rfl) (lb_47 (j := 14) (b := 0) rfl) (lb_47 (j := 15) (b := 255) rfl) rfl
theorem dL_law_768 : decode cL_law 768 = .ok (.pop, 1) := de_87 (lb_48 (j := 0) (b := 87) rfl)
theorem dL_law_769 : decode cL_law 769 = .ok (.aload_n 2, 1) := de_44 (lb_48 (j := 1) (b := 44) rfl)
theorem dL_law_770 : decode cL_law 770 = .ok (.invokevirtual 258, 3) := de_182 (lb_48 (j := 2) (b := 182) rfl) (lb_48 (j := 3) (b := 1) rfl) (lb_48 (j := 4) (b := 2) rfl) rfl
theorem dL_law_773 : decode cL_law 773 = .ok (.pop, 1) := de_87 (lb_48 (j := 5) (b := 87) rfl)
theorem dL_law_774 : decode cL_law 774 = .ok (.goto 1665, 3) := de_167 (lb_48 (j := 6) (b := 167) rfl) (lb_48 (j := 7) (b := 6) rfl) (lb_48 (j := 8) (b := 129) rfl) (by decide +kernel)
set_option maxHeartbeats 4000000 in
set_option maxRecDepth 100000 in
theorem y_a8 {p : Program} {e : Env} {s : State} {m : MethodId} {below : List Frame} {meth : Method} {c : Code} (l : Launch) (hst : l.stackTraces = false) {b L : Nat} {xs : Nat → Int32} (hx : p.tables.exec = Jvm.exec) (hb : c.code = code) (hml : c.maxLocals = 9) (hown : s.vm.findClass RL = some m.cls) (hts : ∀ w ∈ lw_tbl, w.before #[Value.ref b] s = true) (hX0 : va_X b L xs s s.heap) (hbl : b < s.heap.size) (hX : xT (fun q => s.heap.size ≤ q) s) (hN : nC s) (hTS : sAll s.heap.size s) {D : va_G} {cI cJ cZ cMic cSrc cSt cAI cAJ cD : ClassId} (hK : va_K D vwCl (CT cI cJ cZ cMic cSrc cSt cAI cAJ ++ [(cD, .double)]) s) {Q : State → Prop} {i j : Nat} (hi : i + 6 ≤ L) (hL : L ≤ 3072) (hj : j < 512) {aj ae : Nat} {ad am : Nat → Nat} {T : AT} {Sm : MS} {f : Nat → Int64} {g : Nat → UInt64} {ls : Array Slot} {H : Heap} {locs : List Loc} (hV : IV aR0 1586 aK1 aK2 T) (hrc : RC T) (hJ : JJ Sm) (G : gL cI cJ cZ cMic cSrc cSt cAI cAJ D ad (fun q => s.heap.size ≤ q) s.heap H locs T (oJ aj cJ f :: oD ae cD g :: MW cI cJ cZ am Sm)) (hl : lv_has ls 9 [(5, .int (nI i)), (4, .ref ae), (3, .ref aj), (2, .ref (am 0)), (1, .ref (ad 0)), (0, .ref b)]) (kk : ∀ {r1 : Int32} {T1 : AT} {r2 : Int32} {S1 : MS} (ad2 : Nat → Nat) (f1 : Nat → Int64) (g1 : Nat → UInt64) (H1 : Heap) (locs1 : List Loc) (ls1 : Array Slot), g_X11_columns T 0 = some (r1, T1) → fr_columns Sm = some (r2, S1) → ad2 0 = ad 0 → IV aR0 1586 aK1 aK2 T1 → RC T1 → JJ S1 → gL cI cJ cZ cMic cSrc cSt cAI cAJ D ad2 (fun q => s.heap.size ≤ q) s.heap H1 locs1 T1 (oJ aj cJ f1 :: oD ae cD g1 :: MW cI cJ cZ am S1) → lv_has ls1 9 [(5, .int (nI i)), (4, .ref ae), (3, .ref aj), (2, .ref (am 0)), (1, .ref (ad2 0)), (0, .ref b)] → W p l e room_1 s m #[Value.ref b] below meth c H1 locs1 (19 + T1.1 + (j + 1)) (38467 + sg T1 + 6 * (j + 1)) Q (F0 m 2439 ls1 [])) : W p l e room_1 s m #[Value.ref b] below meth c H locs (19 + T.1 + j) (38467 + sg T + 6 * j) Q (F0 m 537 ls []) := by
  have E : cE p c cL_law s m #[Value.ref b] lw_tbl D RL (CT cI cJ cZ cMic cSrc cSt cAI cAJ ++ [(cD, .double)]) := ⟨hx, hb, hts, hown, hK⟩
  have hA : ∀ q : Nat, s.heap.size ≤ q → s.heap.size ≤ q := fun _ h => h
  have h0T : 0 < T.1 := Nat.lt_of_lt_of_le (by decide) hV.1.2.2
  have h0s : T.2.1 0 = (11, 0) := hV.2.1 0 ⟨by decide, by decide +kernel, by decide +kernel⟩
  refine lv_aload_n hx hb dL_law_537 rfl (lv_at hl 4 rfl) ?_
  obtain ⟨⟨r1, T1⟩, hg, hc⟩ := cs_X11_columns T 0 hV (by decide +kernel)
  have hV1 : IV aR0 1586 aK1 aK2 T1 := by rw [show T1 = T from hc.1]; exact hV
  have hg1 := (gl_sp (s_X11_columns hg))
  have hg2 := sg_le hg1
  have hg3 := hg1.1
  have hk := hV1.2.2.2.2.2.2
  have hrc1 := hg1.2.2 hrc
  have hr0 := a_room
  refine t_cvi (As := []) (rest := []) E G hA hX hX.2.2.2.1 hml (u_X11_columns l hst D cI cJ cZ cMic cSrc cSt cAI cAJ ad T 0  hg) (cwV 0 hts (glA (L := [Cond.methodLink RL 227 yX11_columns, Cond.instanceMethod yX11_columns, Cond.selects RX11 yX11_columns yX11_columns, Cond.initialized RX11]) (gl_in [(3, 72), (3, 73), (3, 74), (1, 1)] (by decide +kernel) (by decide +kernel)) ⟨(t_of [Cond.code yX11_columns cX11_columns 1 (some .int)] [(3, 75)] (by decide +kernel) _ List.mem_cons_self), List.all_eq_true.mp (by decide +kernel : [Cond.code yX11_columns cX11_columns 1 (some .int)].all goodWord = true) _ List.mem_cons_self⟩) rfl rfl rfl (by decide +kernel) ⟨Nat.le_of_ble_eq_true rfl, Nat.le_of_ble_eq_true rfl⟩) h0T (cc_o11 h0s) rfl rfl hl.1 rfl (lv_room (Nat.le_of_ble_eq_true rfl)) dL_law_538 ⟨by show _ ≤ 601024; omega, by show _ ≤ 7293034; omega⟩ ?_
  intro r9 T9 H locs hp G
  obtain ⟨hr9, hS1⟩ := hp
  rw [hS1] at G
  refine lv_to (y := r1) hr9 ?_
  refine lv_pop hx hb dL_law_541 rfl ?_
  refine lv_aload_n hx hb dL_law_542 rfl (lv_at hl 3 rfl) ?_
  obtain ⟨⟨r2, S1⟩, hf, hj⟩ := sj_columns Sm hJ
  have hJ1 : JJ S1 := hj
  refine y_mi (As := []) (rest := []) E G hA hX.2.2.2.2 hml (tr_columns l D cI cJ cZ am Sm  hf) (cwV 0 hts (glM (L := [Cond.methodLink RL 230 yX12_columns, Cond.instanceMethod yX12_columns, Cond.selects RX12 yX12_columns yX12_columns, Cond.initialized RX12]) (gl_in [(9, 68), (9, 69), (9, 70), (1, 14)] (by decide +kernel) (by decide +kernel)) ⟨(t_of [Cond.code yX12_columns cX12_columns 1 (some .int)] [(9, 71)] (by decide +kernel) _ List.mem_cons_self), List.all_eq_true.mp (by decide +kernel : [Cond.code yX12_columns cX12_columns 1 (some .int)].all goodWord = true) _ List.mem_cons_self⟩) rfl rfl rfl (by decide +kernel) ⟨Nat.le_of_ble_eq_true rfl, Nat.le_of_ble_eq_true rfl⟩) rfl hl.1 rfl (lv_room (Nat.le_of_ble_eq_true rfl)) dL_law_543 ⟨by show _ ≤ 601024; omega, by show _ ≤ 7293034; omega⟩ (fun H locs G => ?_)
  refine lv_pop hx hb dL_law_546 rfl ?_
  refine lv_goto (tgt := 2439) hx hb dL_law_547 (by decide) ?_
  refine W.widen (k := 19 + T1.1 + (j + 1)) (n := 38467 + sg T1 + 6 * (j + 1)) (by omega) (by omega) ?_
  exact kk ad f g H locs ls hg hf rfl hV1 hrc1 hJ1 G hl
set_option maxHeartbeats 4000000 in
set_option maxRecDepth 100000 in
theorem y_a9 {p : Program} {e : Env} {s : State} {m : MethodId} {below : List Frame} {meth : Method} {c : Code} (l : Launch) (hst : l.stackTraces = false) {b L : Nat} {xs : Nat → Int32} (hx : p.tables.exec = Jvm.exec) (hb : c.code = code) (hml : c.maxLocals = 9) (hown : s.vm.findClass RL = some m.cls) (hts : ∀ w ∈ lw_tbl, w.before #[Value.ref b] s = true) (hX0 : va_X b L xs s s.heap) (hbl : b < s.heap.size) (hX : xT (fun q => s.heap.size ≤ q) s) (hN : nC s) (hTS : sAll s.heap.size s) {D : va_G} {cI cJ cZ cMic cSrc cSt cAI cAJ cD : ClassId} (hK : va_K D vwCl (CT cI cJ cZ cMic cSrc cSt cAI cAJ ++ [(cD, .double)]) s) {Q : State → Prop} {i j : Nat} (hi : i + 6 ≤ L) (hL : L ≤ 3072) (hj : j < 512) {aj ae : Nat} {ad am : Nat → Nat} {T : AT} {Sm : MS} {f : Nat → Int64} {g : Nat → UInt64} {ls : Array Slot} {H : Heap} {locs : List Loc} (hV : IV aR0 1586 aK1 aK2 T) (hrc : RC T) (hJ : JJ Sm) (G : gL cI cJ cZ cMic cSrc cSt cAI cAJ D ad (fun q => s.heap.size ≤ q) s.heap H locs T (oJ aj cJ f :: oD ae cD g :: MW cI cJ cZ am Sm)) (hl : lv_has ls 9 [(5, .int (nI i)), (4, .ref ae), (3, .ref aj), (2, .ref (am 0)), (1, .ref (ad 0)), (0, .ref b)]) (kk : ∀ {r1 : Int32} {T1 : AT} {r2 : Int32} {S1 : MS} (ad2 : Nat → Nat) (f1 : Nat → Int64) (g1 : Nat → UInt64) (H1 : Heap) (locs1 : List Loc) (ls1 : Array Slot), g_X11_rows T 0 = some (r1, T1) → fr_rows Sm = some (r2, S1) → ad2 0 = ad 0 → IV aR0 1586 aK1 aK2 T1 → RC T1 → JJ S1 → gL cI cJ cZ cMic cSrc cSt cAI cAJ D ad2 (fun q => s.heap.size ≤ q) s.heap H1 locs1 T1 (oJ aj cJ f1 :: oD ae cD g1 :: MW cI cJ cZ am S1) → lv_has ls1 9 [(5, .int (nI i)), (4, .ref ae), (3, .ref aj), (2, .ref (am 0)), (1, .ref (ad2 0)), (0, .ref b)] → W p l e room_1 s m #[Value.ref b] below meth c H1 locs1 (19 + T1.1 + (j + 1)) (38467 + sg T1 + 6 * (j + 1)) Q (F0 m 2439 ls1 [])) : W p l e room_1 s m #[Value.ref b] below meth c H locs (19 + T.1 + j) (38467 + sg T + 6 * j) Q (F0 m 550 ls []) := by
  have E : cE p c cL_law s m #[Value.ref b] lw_tbl D RL (CT cI cJ cZ cMic cSrc cSt cAI cAJ ++ [(cD, .double)]) := ⟨hx, hb, hts, hown, hK⟩
  have hA : ∀ q : Nat, s.heap.size ≤ q → s.heap.size ≤ q := fun _ h => h
  have h0T : 0 < T.1 := Nat.lt_of_lt_of_le (by decide) hV.1.2.2
  have h0s : T.2.1 0 = (11, 0) := hV.2.1 0 ⟨by decide, by decide +kernel, by decide +kernel⟩
  refine lv_aload_n hx hb dL_law_550 rfl (lv_at hl 4 rfl) ?_
  obtain ⟨⟨r1, T1⟩, hg, hc⟩ := cs_X11_rows T 0 hV (by decide +kernel)
  have hV1 : IV aR0 1586 aK1 aK2 T1 := by rw [show T1 = T from hc.1]; exact hV
  have hg1 := (gl_sp (s_X11_rows hg))
  have hg2 := sg_le hg1
  have hg3 := hg1.1
  have hk := hV1.2.2.2.2.2.2
  have hrc1 := hg1.2.2 hrc
  have hr0 := a_room
  refine t_cvi (As := []) (rest := []) E G hA hX hX.2.2.2.1 hml (u_X11_rows l hst D cI cJ cZ cMic cSrc cSt cAI cAJ ad T 0  hg) (cwV 0 hts (glA (L := [Cond.methodLink RL 231 yX11_rows, Cond.instanceMethod yX11_rows, Cond.selects RX11 yX11_rows yX11_rows, Cond.initialized RX11]) (gl_in [(3, 76), (3, 77), (3, 78), (1, 1)] (by decide +kernel) (by decide +kernel)) ⟨(t_of [Cond.code yX11_rows cX11_rows 1 (some .int)] [(3, 79)] (by decide +kernel) _ List.mem_cons_self), List.all_eq_true.mp (by decide +kernel : [Cond.code yX11_rows cX11_rows 1 (some .int)].all goodWord = true) _ List.mem_cons_self⟩) rfl rfl rfl (by decide +kernel) ⟨Nat.le_of_ble_eq_true rfl, Nat.le_of_ble_eq_true rfl⟩) h0T (cc_o11 h0s) rfl rfl hl.1 rfl (lv_room (Nat.le_of_ble_eq_true rfl)) dL_law_551 ⟨by show _ ≤ 601024; omega, by show _ ≤ 7293034; omega⟩ ?_
  intro r9 T9 H locs hp G
  obtain ⟨hr9, hS1⟩ := hp
  rw [hS1] at G
  refine lv_to (y := r1) hr9 ?_
  refine lv_pop hx hb dL_law_554 rfl ?_
  refine lv_aload_n hx hb dL_law_555 rfl (lv_at hl 3 rfl) ?_
  obtain ⟨⟨r2, S1⟩, hf, hj⟩ := sj_rows Sm hJ
  have hJ1 : JJ S1 := hj
  refine y_mi (As := []) (rest := []) E G hA hX.2.2.2.2 hml (tr_rows l D cI cJ cZ am Sm  hf) (cwV 0 hts (glM (L := [Cond.methodLink RL 234 yX12_rows, Cond.instanceMethod yX12_rows, Cond.selects RX12 yX12_rows yX12_rows, Cond.initialized RX12]) (gl_in [(9, 72), (9, 73), (9, 74), (1, 14)] (by decide +kernel) (by decide +kernel)) ⟨(t_of [Cond.code yX12_rows cX12_rows 1 (some .int)] [(9, 75)] (by decide +kernel) _ List.mem_cons_self), List.all_eq_true.mp (by decide +kernel : [Cond.code yX12_rows cX12_rows 1 (some .int)].all goodWord = true) _ List.mem_cons_self⟩) rfl rfl rfl (by decide +kernel) ⟨Nat.le_of_ble_eq_true rfl, Nat.le_of_ble_eq_true rfl⟩) rfl hl.1 rfl (lv_room (Nat.le_of_ble_eq_true rfl)) dL_law_556 ⟨by show _ ≤ 601024; omega, by show _ ≤ 7293034; omega⟩ (fun H locs G => ?_)
  refine lv_pop hx hb dL_law_559 rfl ?_
  refine lv_goto (tgt := 2439) hx hb dL_law_560 (by decide) ?_
  refine W.widen (k := 19 + T1.1 + (j + 1)) (n := 38467 + sg T1 + 6 * (j + 1)) (by omega) (by omega) ?_
  exact kk ad f g H locs ls hg hf rfl hV1 hrc1 hJ1 G hl
set_option maxHeartbeats 4000000 in
set_option maxRecDepth 100000 in
theorem y_a10 {p : Program} {e : Env} {s : State} {m : MethodId} {below : List Frame} {meth : Method} {c : Code} (l : Launch) (hst : l.stackTraces = false) {b L : Nat} {xs : Nat → Int32} (hx : p.tables.exec = Jvm.exec) (hb : c.code = code) (hml : c.maxLocals = 9) (hown : s.vm.findClass RL = some m.cls) (hts : ∀ w ∈ lw_tbl, w.before #[Value.ref b] s = true) (hX0 : va_X b L xs s s.heap) (hbl : b < s.heap.size) (hX : xT (fun q => s.heap.size ≤ q) s) (hN : nC s) (hTS : sAll s.heap.size s) {D : va_G} {cI cJ cZ cMic cSrc cSt cAI cAJ cD : ClassId} (hK : va_K D vwCl (CT cI cJ cZ cMic cSrc cSt cAI cAJ ++ [(cD, .double)]) s) {Q : State → Prop} {i j : Nat} (hi : i + 6 ≤ L) (hL : L ≤ 3072) (hj : j < 512) {aj ae : Nat} {ad am : Nat → Nat} {T : AT} {Sm : MS} {f : Nat → Int64} {g : Nat → UInt64} {ls : Array Slot} {H : Heap} {locs : List Loc} (hV : IV aR0 1586 aK1 aK2 T) (hrc : RC T) (hJ : JJ Sm) (G : gL cI cJ cZ cMic cSrc cSt cAI cAJ D ad (fun q => s.heap.size ≤ q) s.heap H locs T (oJ aj cJ f :: oD ae cD g :: MW cI cJ cZ am Sm)) (hl : lv_has ls 9 [(5, .int (nI i)), (4, .ref ae), (3, .ref aj), (2, .ref (am 0)), (1, .ref (ad 0)), (0, .ref b)]) (hq : ∀ {k1 : Nat} {r1 : Int32} {T1 : AT} {r2 : Int32} {S1 : MS}, g_X11_cellAt T 0 (xs (i + 1)) (xs (i + 2)) = some (k1, r1, T1) → fr_cellAt Sm (xs (i + 1)) (xs (i + 2)) = some (r2, S1) → (S1.1 0) = (vck 1 2 3 k1) ∧ ((vck 1 2 3 k1) = 0 → k1 = 0 ∧ r1 = r2)) (kk : ∀ {k1 : Nat} {r1 : Int32} {T1 : AT} {r2 : Int32} {S1 : MS} (ad2 : Nat → Nat) (f1 : Nat → Int64) (g1 : Nat → UInt64) (H1 : Heap) (locs1 : List Loc) (ls1 : Array Slot), g_X11_cellAt T 0 (xs (i + 1)) (xs (i + 2)) = some (k1, r1, T1) → fr_cellAt Sm (xs (i + 1)) (xs (i + 2)) = some (r2, S1) → ad2 0 = ad 0 → IV aR0 1586 aK1 aK2 T1 → RC T1 → JJ S1 → gL cI cJ cZ cMic cSrc cSt cAI cAJ D ad2 (fun q => s.heap.size ≤ q) s.heap H1 locs1 T1 (oJ aj cJ f1 :: oD ae cD g1 :: MW cI cJ cZ am S1) → lv_has ls1 9 [(5, .int (nI i)), (4, .ref ae), (3, .ref aj), (2, .ref (am 0)), (1, .ref (ad2 0)), (0, .ref b)] → W p l e room_1 s m #[Value.ref b] below meth c H1 locs1 (19 + T1.1 + (j + 1)) (38467 + sg T1 + 6 * (j + 1)) Q (F0 m 2439 ls1 [])) : W p l e room_1 s m #[Value.ref b] below meth c H locs (19 + T.1 + j) (38467 + sg T + 6 * j) Q (F0 m 563 ls []) := by
  have E : cE p c cL_law s m #[Value.ref b] lw_tbl D RL (CT cI cJ cZ cMic cSrc cSt cAI cAJ ++ [(cD, .double)]) := ⟨hx, hb, hts, hown, hK⟩
  have hA : ∀ q : Nat, s.heap.size ≤ q → s.heap.size ≤ q := fun _ h => h
  have h0T : 0 < T.1 := Nat.lt_of_lt_of_le (by decide) hV.1.2.2
  have h0s : T.2.1 0 = (11, 0) := hV.2.1 0 ⟨by decide, by decide +kernel, by decide +kernel⟩
  refine lv_aload_n hx hb dL_law_563 rfl (lv_at hl 4 rfl) ?_
  refine lv_aload_n hx hb dL_law_564 rfl (lv_at hl 5 rfl) ?_
  refine lv_iload hx hb dL_law_565 (lv_at hl 0 rfl) ?_
  refine lv_iconst (v := 1) hx hb dL_law_567 (by decide) ?_
  refine lv_iadd hx hb dL_law_568 ?_
  refine lv_to (y := nI (i + 1)) (nI_add i 1) ?_
  refine va_sld hx hb hX0 hbl (Nat.not_le.mpr hbl) G.2.2 (i := nI (i + 1)) (vp_in_nI (n := i + 1) (N := L) (by omega) (by omega)) dL_law_569 ?_
  refine lv_to (y := xs (i + 1)) (congrArg xs (nI_clamp (by omega))) ?_
  refine lv_aload_n hx hb dL_law_570 rfl (lv_at hl 5 rfl) ?_
  refine lv_iload hx hb dL_law_571 (lv_at hl 0 rfl) ?_
  refine lv_iconst (v := 2) hx hb dL_law_573 (by decide) ?_
  refine lv_iadd hx hb dL_law_574 ?_
  refine lv_to (y := nI (i + 2)) (nI_add i 2) ?_
  refine va_sld hx hb hX0 hbl (Nat.not_le.mpr hbl) G.2.2 (i := nI (i + 2)) (vp_in_nI (n := i + 2) (N := L) (by omega) (by omega)) dL_law_575 ?_
  refine lv_to (y := xs (i + 2)) (congrArg xs (nI_clamp (by omega))) ?_
  refine lv_aload_n hx hb dL_law_576 rfl (lv_at hl 2 rfl) ?_
  obtain ⟨⟨k1, r1, T1⟩, hg, hc⟩ := cs_X11_cellAt T 0 (xs (i + 1)) (xs (i + 2)) hV (by decide +kernel)
  have hV1 : IV aR0 1586 aK1 aK2 T1 := by rw [show T1 = T from hc.1]; exact hV
  have hg1 := (gl_sp (s_X11_cellAt hg))
  have hg2 := sg_le hg1
  have hg3 := hg1.1
  have hk := hV1.2.2.2.2.2.2
  have hrc1 := hg1.2.2 hrc
  have hr0 := a_room
  refine l_v (h0 := s.heap.size) (As := [.ref (ad 0), .int (xs (i + 1)), .int (xs (i + 2)), .ref aj]) (rest := []) E G hA hX hN (fun _ h => h) hTS hml (v_cellAt l hst D s.heap.size ad T 0 (xs (i + 1)) (xs (i + 2)) aj f hg hrc h0T h0s) (vx_cwSW 4 hts (glA (L := [Cond.methodLink RL 235 yL_cellAt, Cond.static yL_cellAt, Cond.initialized RL]) (gl_in [(5, 66), (5, 67), (1, 0)] (by decide +kernel) (by decide +kernel)) ⟨(t_of [Cond.codeWith yL_cellAt cL_cellAt 5 (some .int) [(0, 10, 13, 21), (0, 10, 17, 13), (0, 10, 21, 15)]] [(5, 68)] (by decide +kernel) _ List.mem_cons_self), List.all_eq_true.mp (by decide +kernel : [Cond.codeWith yL_cellAt cL_cellAt 5 (some .int) [(0, 10, 13, 21), (0, 10, 17, 13), (0, 10, 21, 15)]].all goodWord = true) _ List.mem_cons_self⟩) rfl rfl rfl (by decide +kernel) ⟨Nat.le_of_ble_eq_true rfl, Nat.le_of_ble_eq_true rfl⟩) rfl hl.1 rfl (lv_room (Nat.le_of_ble_eq_true rfl)) dL_law_577 ⟨by show _ ≤ 601024; omega, by show _ ≤ 7293034; omega⟩ ?_
  intro ad2 H locs had G
  rw [← had 0 h0T] at hl
  refine lv_istore (lv' := [(6, .int (vck 1 2 3 k1)), (5, .int (nI i)), (4, .ref ae), (3, .ref aj), (2, .ref (am 0)), (1, .ref (ad2 0)), (0, .ref b)]) hx hb dL_law_580 hl (by decide) rfl (fun ls hl => ?_)
  refine lv_aload_n hx hb dL_law_582 rfl (lv_at hl 4 rfl) ?_
  refine lv_aload_n hx hb dL_law_583 rfl (lv_at hl 6 rfl) ?_
  refine lv_iload hx hb dL_law_584 (lv_at hl 1 rfl) ?_
  refine lv_iconst (v := 1) hx hb dL_law_586 (by decide) ?_
  refine lv_iadd hx hb dL_law_587 ?_
  refine lv_to (y := nI (i + 1)) (nI_add i 1) ?_
  refine va_sld hx hb hX0 hbl (Nat.not_le.mpr hbl) G.2.2 (i := nI (i + 1)) (vp_in_nI (n := i + 1) (N := L) (by omega) (by omega)) dL_law_588 ?_
  refine lv_to (y := xs (i + 1)) (congrArg xs (nI_clamp (by omega))) ?_
  refine lv_aload_n hx hb dL_law_589 rfl (lv_at hl 6 rfl) ?_
  refine lv_iload hx hb dL_law_590 (lv_at hl 1 rfl) ?_
  refine lv_iconst (v := 2) hx hb dL_law_592 (by decide) ?_
  refine lv_iadd hx hb dL_law_593 ?_
  refine lv_to (y := nI (i + 2)) (nI_add i 2) ?_
  refine va_sld hx hb hX0 hbl (Nat.not_le.mpr hbl) G.2.2 (i := nI (i + 2)) (vp_in_nI (n := i + 2) (N := L) (by omega) (by omega)) dL_law_594 ?_
  refine lv_to (y := xs (i + 2)) (congrArg xs (nI_clamp (by omega))) ?_
  obtain ⟨⟨r2, S1⟩, hf, hj⟩ := sj_cellAt Sm (xs (i + 1)) (xs (i + 2)) hJ
  have hJ1 : JJ S1 := hj
  refine y_mi (As := [.int (xs (i + 1)), .int (xs (i + 2))]) (rest := []) E G hA hX.2.2.2.2 hml (tr_cellAt l D cI cJ cZ am Sm (xs (i + 1)) (xs (i + 2)) hf) (cwV 2 hts (glM (L := [Cond.methodLink RL 237 yX12_cellAt, Cond.instanceMethod yX12_cellAt, Cond.selects RX12 yX12_cellAt yX12_cellAt, Cond.initialized RX12]) (gl_in [(9, 76), (9, 77), (9, 78), (1, 14)] (by decide +kernel) (by decide +kernel)) ⟨(t_of [Cond.code yX12_cellAt cX12_cellAt 3 (some .int)] [(9, 79)] (by decide +kernel) _ List.mem_cons_self), List.all_eq_true.mp (by decide +kernel : [Cond.code yX12_cellAt cX12_cellAt 3 (some .int)].all goodWord = true) _ List.mem_cons_self⟩) rfl rfl rfl (by decide +kernel) ⟨Nat.le_of_ble_eq_true rfl, Nat.le_of_ble_eq_true rfl⟩) rfl hl.1 rfl (lv_room (Nat.le_of_ble_eq_true rfl)) dL_law_595 ⟨by show _ ≤ 601024; omega, by show _ ≤ 7293034; omega⟩ (fun H locs G => ?_)
  refine lv_istore (lv' := [(7, .int r2), (6, .int (vck 1 2 3 k1)), (5, .int (nI i)), (4, .ref ae), (3, .ref aj), (2, .ref (am 0)), (1, .ref (ad2 0)), (0, .ref b)]) hx hb dL_law_598 hl (by decide) rfl (fun ls hl => ?_)
  refine lv_aload_n hx hb dL_law_600 rfl (lv_at hl 5 rfl) ?_
  refine y_mi (As := []) (rest := []) E G hA hX.2.2.2.2 hml (tr_thrown l D cI cJ cZ am S1 (r1 := S1.1 0) (S1 := S1) rfl) (cwV 0 hts (glM (L := [Cond.methodLink RL 238 yX12_thrown, Cond.instanceMethod yX12_thrown, Cond.selects RX12 yX12_thrown yX12_thrown, Cond.initialized RX12]) (gl_in [(8, 65), (8, 66), (8, 67), (1, 14)] (by decide +kernel) (by decide +kernel)) ⟨(t_of [Cond.code yX12_thrown cX12_thrown 1 (some .int)] [(8, 68)] (by decide +kernel) _ List.mem_cons_self), List.all_eq_true.mp (by decide +kernel : [Cond.code yX12_thrown cX12_thrown 1 (some .int)].all goodWord = true) _ List.mem_cons_self⟩) rfl rfl rfl (by decide +kernel) ⟨Nat.le_of_ble_eq_true rfl, Nat.le_of_ble_eq_true rfl⟩) rfl hl.1 rfl (lv_room (Nat.le_of_ble_eq_true rfl)) dL_law_601 ⟨by show _ ≤ 601024; omega, by show _ ≤ 7293034; omega⟩ (fun H locs G => ?_)
  refine lv_iload hx hb dL_law_604 (lv_at hl 1 rfl) ?_
  refine lv_icmp_eq (tgt := 611) hx hb dL_law_606 (by decide) (fun c1 => ?_) (fun c1 => absurd (hq hg hf).1 c1)
  refine lv_iload hx hb dL_law_611 (lv_at hl 1 rfl) ?_
  refine lv_if_ne (tgt := 628) hx hb dL_law_613 (by decide) (fun c1 => ?_) (fun c1 => ?_)
  · refine lv_goto (tgt := 2439) hx hb dL_law_628 (by decide) ?_
    have hl := lv_sub hl [2, 3, 4, 5, 6, 7] rfl
    refine W.widen (k := 19 + T1.1 + (j + 1)) (n := 38467 + sg T1 + 6 * (j + 1)) (by omega) (by omega) ?_
    exact kk ad2 (vfJ k1 f r1.toInt64) g H locs ls hg hf (had 0 h0T) hV1 hrc1 hJ1 G hl
  obtain ⟨hk0, hq2⟩ := (hq hg hf).2 c1
  subst hk0
  refine lv_aload_n hx hb dL_law_616 rfl (lv_at hl 4 rfl) ?_
  refine lv_iconst (v := 0) hx hb dL_law_617 (by decide) ?_
  refine va_lald hx hb hK G.1 T1.1 1 (tW_at _ _ _ _ _) rfl (vp_in_nI (n := 0) (N := 1) (by decide) (by decide)) dL_law_618 ?_
  rw [show (vfJ 0 f r1.toInt64) (0 : Int32).toNatClampNeg = r1.toInt64 from rfl]
  refine lv_iload hx hb dL_law_619 (lv_at hl 0 rfl) ?_
  refine lv_i2l (v := r2.toInt64) hx hb dL_law_621 rfl ?_
  refine W.lcmp hx hb dL_law_622 ?_
  refine lv_if_eq (tgt := 628) hx hb dL_law_623 (by decide) (fun c1 => ?_) (fun c1 => absurd (by rw [hq2]; exact lg_cmp_rf _) c1)
  refine lv_goto (tgt := 2439) hx hb dL_law_628 (by decide) ?_
  have hl := lv_sub hl [2, 3, 4, 5, 6, 7] rfl
  refine W.widen (k := 19 + T1.1 + (j + 1)) (n := 38467 + sg T1 + 6 * (j + 1)) (by omega) (by omega) ?_
  exact kk ad2 (vfJ 0 f r1.toInt64) g H locs ls hg hf (had 0 h0T) hV1 hrc1 hJ1 G hl
set_option maxHeartbeats 4000000 in
set_option maxRecDepth 100000 in
theorem y_a11 {p : Program} {e : Env} {s : State} {m : MethodId} {below : List Frame} {meth : Method} {c : Code} (l : Launch) (hst : l.stackTraces = false) {b L : Nat} {xs : Nat → Int32} (hx : p.tables.exec = Jvm.exec) (hb : c.code = code) (hml : c.maxLocals = 9) (hown : s.vm.findClass RL = some m.cls) (hts : ∀ w ∈ lw_tbl, w.before #[Value.ref b] s = true) (hX0 : va_X b L xs s s.heap) (hbl : b < s.heap.size) (hX : xT (fun q => s.heap.size ≤ q) s) (hN : nC s) (hTS : sAll s.heap.size s) {D : va_G} {cI cJ cZ cMic cSrc cSt cAI cAJ cD : ClassId} (hK : va_K D vwCl (CT cI cJ cZ cMic cSrc cSt cAI cAJ ++ [(cD, .double)]) s) {Q : State → Prop} {i j : Nat} (hi : i + 6 ≤ L) (hL : L ≤ 3072) (hj : j < 512) {aj ae : Nat} {ad am : Nat → Nat} {T : AT} {Sm : MS} {f : Nat → Int64} {g : Nat → UInt64} {ls : Array Slot} {H : Heap} {locs : List Loc} (hV : IV aR0 1586 aK1 aK2 T) (hrc : RC T) (hJ : JJ Sm) (G : gL cI cJ cZ cMic cSrc cSt cAI cAJ D ad (fun q => s.heap.size ≤ q) s.heap H locs T (oJ aj cJ f :: oD ae cD g :: MW cI cJ cZ am Sm)) (hl : lv_has ls 9 [(5, .int (nI i)), (4, .ref ae), (3, .ref aj), (2, .ref (am 0)), (1, .ref (ad 0)), (0, .ref b)]) (kk : ∀ {r1 : Int32} {T1 : AT} {r2 : Int32} {S1 : MS} (ad2 : Nat → Nat) (f1 : Nat → Int64) (g1 : Nat → UInt64) (H1 : Heap) (locs1 : List Loc) (ls1 : Array Slot), g_X11_sources T 0 = some (r1, T1) → fr_sources Sm = some (r2, S1) → ad2 0 = ad 0 → IV aR0 1586 aK1 aK2 T1 → RC T1 → JJ S1 → gL cI cJ cZ cMic cSrc cSt cAI cAJ D ad2 (fun q => s.heap.size ≤ q) s.heap H1 locs1 T1 (oJ aj cJ f1 :: oD ae cD g1 :: MW cI cJ cZ am S1) → lv_has ls1 9 [(5, .int (nI i)), (4, .ref ae), (3, .ref aj), (2, .ref (am 0)), (1, .ref (ad2 0)), (0, .ref b)] → W p l e room_1 s m #[Value.ref b] below meth c H1 locs1 (19 + T1.1 + (j + 1)) (38467 + sg T1 + 6 * (j + 1)) Q (F0 m 2439 ls1 [])) : W p l e room_1 s m #[Value.ref b] below meth c H locs (19 + T.1 + j) (38467 + sg T + 6 * j) Q (F0 m 631 ls []) := by
  have E : cE p c cL_law s m #[Value.ref b] lw_tbl D RL (CT cI cJ cZ cMic cSrc cSt cAI cAJ ++ [(cD, .double)]) := ⟨hx, hb, hts, hown, hK⟩
  have hA : ∀ q : Nat, s.heap.size ≤ q → s.heap.size ≤ q := fun _ h => h
  have h0T : 0 < T.1 := Nat.lt_of_lt_of_le (by decide) hV.1.2.2
  have h0s : T.2.1 0 = (11, 0) := hV.2.1 0 ⟨by decide, by decide +kernel, by decide +kernel⟩
  refine lv_aload_n hx hb dL_law_631 rfl (lv_at hl 4 rfl) ?_
  obtain ⟨⟨r1, T1⟩, hg, hc⟩ := cs_X11_sources T 0 hV (by decide +kernel)
  have hV1 : IV aR0 1586 aK1 aK2 T1 := by rw [show T1 = T from hc.1]; exact hV
  have hg1 := (gl_sp (s_X11_sources hg))
  have hg2 := sg_le hg1
  have hg3 := hg1.1
  have hk := hV1.2.2.2.2.2.2
  have hrc1 := hg1.2.2 hrc
  have hr0 := a_room
  refine t_cvi (As := []) (rest := []) E G hA hX hX.2.2.2.1 hml (u_X11_sources l hst D cI cJ cZ cMic cSrc cSt cAI cAJ ad T 0  hg) (cwV 0 hts (glA (L := [Cond.methodLink RL 241 yX11_sources, Cond.instanceMethod yX11_sources, Cond.selects RX11 yX11_sources yX11_sources, Cond.initialized RX11]) (gl_in [(3, 80), (3, 81), (3, 82), (1, 1)] (by decide +kernel) (by decide +kernel)) ⟨(t_of [Cond.code yX11_sources cX11_sources 1 (some .int)] [(3, 83)] (by decide +kernel) _ List.mem_cons_self), List.all_eq_true.mp (by decide +kernel : [Cond.code yX11_sources cX11_sources 1 (some .int)].all goodWord = true) _ List.mem_cons_self⟩) rfl rfl rfl (by decide +kernel) ⟨Nat.le_of_ble_eq_true rfl, Nat.le_of_ble_eq_true rfl⟩) h0T (cc_o11 h0s) rfl rfl hl.1 rfl (lv_room (Nat.le_of_ble_eq_true rfl)) dL_law_632 ⟨by show _ ≤ 601024; omega, by show _ ≤ 7293034; omega⟩ ?_
  intro r9 T9 H locs hp G
  obtain ⟨hr9, hS1⟩ := hp
  rw [hS1] at G
  refine lv_to (y := r1) hr9 ?_
  refine lv_pop hx hb dL_law_635 rfl ?_
  refine lv_aload_n hx hb dL_law_636 rfl (lv_at hl 3 rfl) ?_
  obtain ⟨⟨r2, S1⟩, hf, hj⟩ := sj_sources Sm hJ
  have hJ1 : JJ S1 := hj
  refine y_mi (As := []) (rest := []) E G hA hX.2.2.2.2 hml (tr_sources l D cI cJ cZ am Sm  hf) (cwV 0 hts (glM (L := [Cond.methodLink RL 244 yX12_sources, Cond.instanceMethod yX12_sources, Cond.selects RX12 yX12_sources yX12_sources, Cond.initialized RX12]) (gl_in [(9, 84), (9, 85), (9, 86), (1, 14)] (by decide +kernel) (by decide +kernel)) ⟨(t_of [Cond.code yX12_sources cX12_sources 1 (some .int)] [(9, 87)] (by decide +kernel) _ List.mem_cons_self), List.all_eq_true.mp (by decide +kernel : [Cond.code yX12_sources cX12_sources 1 (some .int)].all goodWord = true) _ List.mem_cons_self⟩) rfl rfl rfl (by decide +kernel) ⟨Nat.le_of_ble_eq_true rfl, Nat.le_of_ble_eq_true rfl⟩) rfl hl.1 rfl (lv_room (Nat.le_of_ble_eq_true rfl)) dL_law_637 ⟨by show _ ≤ 601024; omega, by show _ ≤ 7293034; omega⟩ (fun H locs G => ?_)
  refine lv_pop hx hb dL_law_640 rfl ?_
  refine lv_goto (tgt := 2439) hx hb dL_law_641 (by decide) ?_
  refine W.widen (k := 19 + T1.1 + (j + 1)) (n := 38467 + sg T1 + 6 * (j + 1)) (by omega) (by omega) ?_
  exact kk ad f g H locs ls hg hf rfl hV1 hrc1 hJ1 G hl
set_option maxHeartbeats 4000000 in
set_option maxRecDepth 100000 in
theorem y_a12 {p : Program} {e : Env} {s : State} {m : MethodId} {below : List Frame} {meth : Method} {c : Code} (l : Launch) (hst : l.stackTraces = false) {b L : Nat} {xs : Nat → Int32} (hx : p.tables.exec = Jvm.exec) (hb : c.code = code) (hml : c.maxLocals = 9) (hown : s.vm.findClass RL = some m.cls) (hts : ∀ w ∈ lw_tbl, w.before #[Value.ref b] s = true) (hX0 : va_X b L xs s s.heap) (hbl : b < s.heap.size) (hX : xT (fun q => s.heap.size ≤ q) s) (hN : nC s) (hTS : sAll s.heap.size s) {D : va_G} {cI cJ cZ cMic cSrc cSt cAI cAJ cD : ClassId} (hK : va_K D vwCl (CT cI cJ cZ cMic cSrc cSt cAI cAJ ++ [(cD, .double)]) s) {Q : State → Prop} {i j : Nat} (hi : i + 6 ≤ L) (hL : L ≤ 3072) (hj : j < 512) {aj ae : Nat} {ad am : Nat → Nat} {T : AT} {Sm : MS} {f : Nat → Int64} {g : Nat → UInt64} {ls : Array Slot} {H : Heap} {locs : List Loc} (hV : IV aR0 1586 aK1 aK2 T) (hrc : RC T) (hJ : JJ Sm) (G : gL cI cJ cZ cMic cSrc cSt cAI cAJ D ad (fun q => s.heap.size ≤ q) s.heap H locs T (oJ aj cJ f :: oD ae cD g :: MW cI cJ cZ am Sm)) (hl : lv_has ls 9 [(5, .int (nI i)), (4, .ref ae), (3, .ref aj), (2, .ref (am 0)), (1, .ref (ad 0)), (0, .ref b)]) (kk : ∀ {k1 : Nat} {r1 : Int32} {T1 : AT} {r2 : Int32} {S1 : MS} (ad2 : Nat → Nat) (f1 : Nat → Int64) (g1 : Nat → UInt64) (H1 : Heap) (locs1 : List Loc) (ls1 : Array Slot), g_X11_sourceAt T 0 (xs (i + 1)) (xs (i + 2)) (xs (i + 3)) = some (k1, r1, T1) → fr_sourceAt Sm (xs (i + 1)) (xs (i + 2)) (xs (i + 3)) = some (r2, S1) → ad2 0 = ad 0 → IV aR0 1586 aK1 aK2 T1 → RC T1 → JJ S1 → gL cI cJ cZ cMic cSrc cSt cAI cAJ D ad2 (fun q => s.heap.size ≤ q) s.heap H1 locs1 T1 (oJ aj cJ f1 :: oD ae cD g1 :: MW cI cJ cZ am S1) → lv_has ls1 9 [(5, .int (nI i)), (4, .ref ae), (3, .ref aj), (2, .ref (am 0)), (1, .ref (ad2 0)), (0, .ref b)] → W p l e room_1 s m #[Value.ref b] below meth c H1 locs1 (19 + T1.1 + (j + 1)) (38467 + sg T1 + 6 * (j + 1)) Q (F0 m 2439 ls1 [])) : W p l e room_1 s m #[Value.ref b] below meth c H locs (19 + T.1 + j) (38467 + sg T + 6 * j) Q (F0 m 644 ls []) := by
  have E : cE p c cL_law s m #[Value.ref b] lw_tbl D RL (CT cI cJ cZ cMic cSrc cSt cAI cAJ ++ [(cD, .double)]) := ⟨hx, hb, hts, hown, hK⟩
  have hA : ∀ q : Nat, s.heap.size ≤ q → s.heap.size ≤ q := fun _ h => h
  have h0T : 0 < T.1 := Nat.lt_of_lt_of_le (by decide) hV.1.2.2
  have h0s : T.2.1 0 = (11, 0) := hV.2.1 0 ⟨by decide, by decide +kernel, by decide +kernel⟩
  refine lv_aload_n hx hb dL_law_644 rfl (lv_at hl 4 rfl) ?_
  refine lv_aload_n hx hb dL_law_645 rfl (lv_at hl 5 rfl) ?_
  refine lv_iload hx hb dL_law_646 (lv_at hl 0 rfl) ?_
  refine lv_iconst (v := 1) hx hb dL_law_648 (by decide) ?_
  refine lv_iadd hx hb dL_law_649 ?_
  refine lv_to (y := nI (i + 1)) (nI_add i 1) ?_
  refine va_sld hx hb hX0 hbl (Nat.not_le.mpr hbl) G.2.2 (i := nI (i + 1)) (vp_in_nI (n := i + 1) (N := L) (by omega) (by omega)) dL_law_650 ?_
  refine lv_to (y := xs (i + 1)) (congrArg xs (nI_clamp (by omega))) ?_
  refine lv_aload_n hx hb dL_law_651 rfl (lv_at hl 5 rfl) ?_
  refine lv_iload hx hb dL_law_652 (lv_at hl 0 rfl) ?_
  refine lv_iconst (v := 2) hx hb dL_law_654 (by decide) ?_
  refine lv_iadd hx hb dL_law_655 ?_
  refine lv_to (y := nI (i + 2)) (nI_add i 2) ?_
  refine va_sld hx hb hX0 hbl (Nat.not_le.mpr hbl) G.2.2 (i := nI (i + 2)) (vp_in_nI (n := i + 2) (N := L) (by omega) (by omega)) dL_law_656 ?_
  refine lv_to (y := xs (i + 2)) (congrArg xs (nI_clamp (by omega))) ?_
  refine lv_aload_n hx hb dL_law_657 rfl (lv_at hl 5 rfl) ?_
  refine lv_iload hx hb dL_law_658 (lv_at hl 0 rfl) ?_
  refine lv_iconst (v := 3) hx hb dL_law_660 (by decide) ?_
  refine lv_iadd hx hb dL_law_661 ?_
  refine lv_to (y := nI (i + 3)) (nI_add i 3) ?_
  refine va_sld hx hb hX0 hbl (Nat.not_le.mpr hbl) G.2.2 (i := nI (i + 3)) (vp_in_nI (n := i + 3) (N := L) (by omega) (by omega)) dL_law_662 ?_
  refine lv_to (y := xs (i + 3)) (congrArg xs (nI_clamp (by omega))) ?_
  refine lv_aload_n hx hb dL_law_663 rfl (lv_at hl 2 rfl) ?_
  obtain ⟨⟨k1, r1, T1⟩, hg, hc⟩ := cs_X11_sourceAt T 0 (xs (i + 1)) (xs (i + 2)) (xs (i + 3)) hV (by decide +kernel)
  have hV1 : IV aR0 1586 aK1 aK2 T1 := by rw [show T1 = T from hc.1]; exact hV
  have hg1 := (gl_sp (s_X11_sourceAt hg))
  have hg2 := sg_le hg1
  have hg3 := hg1.1
  have hk := hV1.2.2.2.2.2.2
  have hrc1 := hg1.2.2 hrc
  have hr0 := a_room
  refine l_v (h0 := s.heap.size) (As := [.ref (ad 0), .int (xs (i + 1)), .int (xs (i + 2)), .int (xs (i + 3)), .ref aj]) (rest := []) E G hA hX hN (fun _ h => h) hTS hml (v_sourceAt l hst D s.heap.size ad T 0 (xs (i + 1)) (xs (i + 2)) (xs (i + 3)) aj f hg hrc h0T h0s) (vx_cwSW 5 hts (glA (L := [Cond.methodLink RL 245 yL_sourceAt, Cond.static yL_sourceAt, Cond.initialized RL]) (gl_in [(5, 79), (5, 80), (1, 0)] (by decide +kernel) (by decide +kernel)) ⟨(t_of [Cond.codeWith yL_sourceAt cL_sourceAt 6 (some .int) [(0, 12, 15, 21), (0, 12, 19, 13), (0, 12, 23, 15)]] [(5, 81)] (by decide +kernel) _ List.mem_cons_self), List.all_eq_true.mp (by decide +kernel : [Cond.codeWith yL_sourceAt cL_sourceAt 6 (some .int) [(0, 12, 15, 21), (0, 12, 19, 13), (0, 12, 23, 15)]].all goodWord = true) _ List.mem_cons_self⟩) rfl rfl rfl (by decide +kernel) ⟨Nat.le_of_ble_eq_true rfl, Nat.le_of_ble_eq_true rfl⟩) rfl hl.1 rfl (lv_room (Nat.le_of_ble_eq_true rfl)) dL_law_664 ⟨by show _ ≤ 601024; omega, by show _ ≤ 7293034; omega⟩ ?_
  intro ad2 H locs had G
  rw [← had 0 h0T] at hl
  refine lv_istore (lv' := [(6, .int (vck 1 2 3 k1)), (5, .int (nI i)), (4, .ref ae), (3, .ref aj), (2, .ref (am 0)), (1, .ref (ad2 0)), (0, .ref b)]) hx hb dL_law_667 hl (by decide) rfl (fun ls hl => ?_)
  refine lv_aload_n hx hb dL_law_669 rfl (lv_at hl 4 rfl) ?_
  refine lv_aload_n hx hb dL_law_670 rfl (lv_at hl 6 rfl) ?_
  refine lv_iload hx hb dL_law_671 (lv_at hl 1 rfl) ?_
  refine lv_iconst (v := 1) hx hb dL_law_673 (by decide) ?_
  refine lv_iadd hx hb dL_law_674 ?_
  refine lv_to (y := nI (i + 1)) (nI_add i 1) ?_
  refine va_sld hx hb hX0 hbl (Nat.not_le.mpr hbl) G.2.2 (i := nI (i + 1)) (vp_in_nI (n := i + 1) (N := L) (by omega) (by omega)) dL_law_675 ?_
  refine lv_to (y := xs (i + 1)) (congrArg xs (nI_clamp (by omega))) ?_
  refine lv_aload_n hx hb dL_law_676 rfl (lv_at hl 6 rfl) ?_
  refine lv_iload hx hb dL_law_677 (lv_at hl 1 rfl) ?_
  refine lv_iconst (v := 2) hx hb dL_law_679 (by decide) ?_
  refine lv_iadd hx hb dL_law_680 ?_
  refine lv_to (y := nI (i + 2)) (nI_add i 2) ?_
  refine va_sld hx hb hX0 hbl (Nat.not_le.mpr hbl) G.2.2 (i := nI (i + 2)) (vp_in_nI (n := i + 2) (N := L) (by omega) (by omega)) dL_law_681 ?_
  refine lv_to (y := xs (i + 2)) (congrArg xs (nI_clamp (by omega))) ?_
  refine lv_aload_n hx hb dL_law_682 rfl (lv_at hl 6 rfl) ?_
  refine lv_iload hx hb dL_law_683 (lv_at hl 1 rfl) ?_
  refine lv_iconst (v := 3) hx hb dL_law_685 (by decide) ?_
  refine lv_iadd hx hb dL_law_686 ?_
  refine lv_to (y := nI (i + 3)) (nI_add i 3) ?_
  refine va_sld hx hb hX0 hbl (Nat.not_le.mpr hbl) G.2.2 (i := nI (i + 3)) (vp_in_nI (n := i + 3) (N := L) (by omega) (by omega)) dL_law_687 ?_
  refine lv_to (y := xs (i + 3)) (congrArg xs (nI_clamp (by omega))) ?_
  obtain ⟨⟨r2, S1⟩, hf, hj⟩ := sj_sourceAt Sm (xs (i + 1)) (xs (i + 2)) (xs (i + 3)) hJ
  have hJ1 : JJ S1 := hj
  refine y_mi (As := [.int (xs (i + 1)), .int (xs (i + 2)), .int (xs (i + 3))]) (rest := []) E G hA hX.2.2.2.2 hml (tr_sourceAt l D cI cJ cZ am Sm (xs (i + 1)) (xs (i + 2)) (xs (i + 3)) hf) (cwV 3 hts (glM (L := [Cond.methodLink RL 248 yX12_sourceAt, Cond.instanceMethod yX12_sourceAt, Cond.selects RX12 yX12_sourceAt yX12_sourceAt, Cond.initialized RX12]) (gl_in [(9, 88), (9, 89), (9, 90), (1, 14)] (by decide +kernel) (by decide +kernel)) ⟨(t_of [Cond.code yX12_sourceAt cX12_sourceAt 4 (some .int)] [(9, 91)] (by decide +kernel) _ List.mem_cons_self), List.all_eq_true.mp (by decide +kernel : [Cond.code yX12_sourceAt cX12_sourceAt 4 (some .int)].all goodWord = true) _ List.mem_cons_self⟩) rfl rfl rfl (by decide +kernel) ⟨Nat.le_of_ble_eq_true rfl, Nat.le_of_ble_eq_true rfl⟩) rfl hl.1 rfl (lv_room (Nat.le_of_ble_eq_true rfl)) dL_law_688 ⟨by show _ ≤ 601024; omega, by show _ ≤ 7293034; omega⟩ (fun H locs G => ?_)
  refine lv_istore (lv' := [(7, .int r2), (6, .int (vck 1 2 3 k1)), (5, .int (nI i)), (4, .ref ae), (3, .ref aj), (2, .ref (am 0)), (1, .ref (ad2 0)), (0, .ref b)]) hx hb dL_law_691 hl (by decide) rfl (fun ls hl => ?_)
  refine lv_goto (tgt := 2439) hx hb dL_law_693 (by decide) ?_
  have hl := lv_sub hl [2, 3, 4, 5, 6, 7] rfl
  refine W.widen (k := 19 + T1.1 + (j + 1)) (n := 38467 + sg T1 + 6 * (j + 1)) (by omega) (by omega) ?_
  exact kk ad2 (vfJ k1 f r1.toInt64) g H locs ls hg hf (had 0 h0T) hV1 hrc1 hJ1 G hl
set_option maxHeartbeats 4000000 in
set_option maxRecDepth 100000 in
theorem y_a13 {p : Program} {e : Env} {s : State} {m : MethodId} {below : List Frame} {meth : Method} {c : Code} (l : Launch) (hst : l.stackTraces = false) {b L : Nat} {xs : Nat → Int32} (hx : p.tables.exec = Jvm.exec) (hb : c.code = code) (hml : c.maxLocals = 9) (hown : s.vm.findClass RL = some m.cls) (hts : ∀ w ∈ lw_tbl, w.before #[Value.ref b] s = true) (hX0 : va_X b L xs s s.heap) (hbl : b < s.heap.size) (hX : xT (fun q => s.heap.size ≤ q) s) (hN : nC s) (hTS : sAll s.heap.size s) {D : va_G} {cI cJ cZ cMic cSrc cSt cAI cAJ cD : ClassId} (hK : va_K D vwCl (CT cI cJ cZ cMic cSrc cSt cAI cAJ ++ [(cD, .double)]) s) {Q : State → Prop} {i j : Nat} (hi : i + 6 ≤ L) (hL : L ≤ 3072) (hj : j < 512) {aj ae : Nat} {ad am : Nat → Nat} {T : AT} {Sm : MS} {f : Nat → Int64} {g : Nat → UInt64} {ls : Array Slot} {H : Heap} {locs : List Loc} (hV : IV aR0 1586 aK1 aK2 T) (hrc : RC T) (hJ : JJ Sm) (G : gL cI cJ cZ cMic cSrc cSt cAI cAJ D ad (fun q => s.heap.size ≤ q) s.heap H locs T (oJ aj cJ f :: oD ae cD g :: MW cI cJ cZ am Sm)) (hl : lv_has ls 9 [(5, .int (nI i)), (4, .ref ae), (3, .ref aj), (2, .ref (am 0)), (1, .ref (ad 0)), (0, .ref b)]) (kk : ∀ {k1 : Nat} {r1 : Int32} {T1 : AT} {r2 : Int32} {S1 : MS} (ad2 : Nat → Nat) (f1 : Nat → Int64) (g1 : Nat → UInt64) (H1 : Heap) (locs1 : List Loc) (ls1 : Array Slot), g_X11_isOn T 0 (xs (i + 1)) = some (k1, r1, T1) → fr_isOn Sm (xs (i + 1)) = some (r2, S1) → ad2 0 = ad 0 → IV aR0 1586 aK1 aK2 T1 → RC T1 → JJ S1 → gL cI cJ cZ cMic cSrc cSt cAI cAJ D ad2 (fun q => s.heap.size ≤ q) s.heap H1 locs1 T1 (oJ aj cJ f1 :: oD ae cD g1 :: MW cI cJ cZ am S1) → lv_has ls1 9 [(5, .int (nI i)), (4, .ref ae), (3, .ref aj), (2, .ref (am 0)), (1, .ref (ad2 0)), (0, .ref b)] → W p l e room_1 s m #[Value.ref b] below meth c H1 locs1 (19 + T1.1 + (j + 1)) (38467 + sg T1 + 6 * (j + 1)) Q (F0 m 2439 ls1 [])) : W p l e room_1 s m #[Value.ref b] below meth c H locs (19 + T.1 + j) (38467 + sg T + 6 * j) Q (F0 m 696 ls []) := by
  have E : cE p c cL_law s m #[Value.ref b] lw_tbl D RL (CT cI cJ cZ cMic cSrc cSt cAI cAJ ++ [(cD, .double)]) := ⟨hx, hb, hts, hown, hK⟩
  have hA : ∀ q : Nat, s.heap.size ≤ q → s.heap.size ≤ q := fun _ h => h
  have h0T : 0 < T.1 := Nat.lt_of_lt_of_le (by decide) hV.1.2.2
  have h0s : T.2.1 0 = (11, 0) := hV.2.1 0 ⟨by decide, by decide +kernel, by decide +kernel⟩
  refine lv_aload_n hx hb dL_law_696 rfl (lv_at hl 4 rfl) ?_
  refine lv_aload_n hx hb dL_law_697 rfl (lv_at hl 5 rfl) ?_
  refine lv_iload hx hb dL_law_698 (lv_at hl 0 rfl) ?_
  refine lv_iconst (v := 1) hx hb dL_law_700 (by decide) ?_
  refine lv_iadd hx hb dL_law_701 ?_
  refine lv_to (y := nI (i + 1)) (nI_add i 1) ?_
  refine va_sld hx hb hX0 hbl (Nat.not_le.mpr hbl) G.2.2 (i := nI (i + 1)) (vp_in_nI (n := i + 1) (N := L) (by omega) (by omega)) dL_law_702 ?_
  refine lv_to (y := xs (i + 1)) (congrArg xs (nI_clamp (by omega))) ?_
  refine lv_aload_n hx hb dL_law_703 rfl (lv_at hl 2 rfl) ?_
  obtain ⟨⟨k1, r1, T1⟩, hg, hc⟩ := cs_X11_isOn T 0 (xs (i + 1)) hV (by decide +kernel)
  have hV1 : IV aR0 1586 aK1 aK2 T1 := by rw [show T1 = T from hc.1]; exact hV
  have hg1 := (gl_sp (s_X11_isOn hg))
  have hg2 := sg_le hg1
  have hg3 := hg1.1
  have hk := hV1.2.2.2.2.2.2
  have hrc1 := hg1.2.2 hrc
  have hr0 := a_room
  refine l_v (h0 := s.heap.size) (As := [.ref (ad 0), .int (xs (i + 1)), .ref aj]) (rest := []) E G hA hX hN (fun _ h => h) hTS hml (v_isOn l hst D s.heap.size ad T 0 (xs (i + 1)) aj f hg hrc h0T h0s) (vx_cwSW 3 hts (glA (L := [Cond.methodLink RL 249 yL_isOn, Cond.static yL_isOn, Cond.initialized RL]) (gl_in [(5, 91), (5, 92), (1, 0)] (by decide +kernel) (by decide +kernel)) ⟨(t_of [Cond.codeWith yL_isOn cL_isOn 4 (some .int) [(0, 16, 19, 21), (0, 16, 22, 13)]] [(5, 93)] (by decide +kernel) _ List.mem_cons_self), List.all_eq_true.mp (by decide +kernel : [Cond.codeWith yL_isOn cL_isOn 4 (some .int) [(0, 16, 19, 21), (0, 16, 22, 13)]].all goodWord = true) _ List.mem_cons_self⟩) rfl rfl rfl (by decide +kernel) ⟨Nat.le_of_ble_eq_true rfl, Nat.le_of_ble_eq_true rfl⟩) rfl hl.1 rfl (lv_room (Nat.le_of_ble_eq_true rfl)) dL_law_704 ⟨by show _ ≤ 601024; omega, by show _ ≤ 7293034; omega⟩ ?_
  intro ad2 H locs had G
  rw [← had 0 h0T] at hl
  refine lv_istore (lv' := [(6, .int (vck 1 2 0 k1)), (5, .int (nI i)), (4, .ref ae), (3, .ref aj), (2, .ref (am 0)), (1, .ref (ad2 0)), (0, .ref b)]) hx hb dL_law_707 hl (by decide) rfl (fun ls hl => ?_)
  refine lv_aload_n hx hb dL_law_709 rfl (lv_at hl 4 rfl) ?_
  refine lv_aload_n hx hb dL_law_710 rfl (lv_at hl 6 rfl) ?_
  refine lv_iload hx hb dL_law_711 (lv_at hl 1 rfl) ?_
  refine lv_iconst (v := 1) hx hb dL_law_713 (by decide) ?_
  refine lv_iadd hx hb dL_law_714 ?_
  refine lv_to (y := nI (i + 1)) (nI_add i 1) ?_
  refine va_sld hx hb hX0 hbl (Nat.not_le.mpr hbl) G.2.2 (i := nI (i + 1)) (vp_in_nI (n := i + 1) (N := L) (by omega) (by omega)) dL_law_715 ?_
  refine lv_to (y := xs (i + 1)) (congrArg xs (nI_clamp (by omega))) ?_
  obtain ⟨⟨r2, S1⟩, hf, hj⟩ := sj_isOn Sm (xs (i + 1)) hJ
  have hJ1 : JJ S1 := hj
  refine y_mi (As := [.int (xs (i + 1))]) (rest := []) E G hA hX.2.2.2.2 hml (tr_isOn l D cI cJ cZ am Sm (xs (i + 1)) hf) (cwV 1 hts (glM (L := [Cond.methodLink RL 251 yX12_isOn, Cond.instanceMethod yX12_isOn, Cond.selects RX12 yX12_isOn yX12_isOn, Cond.initialized RX12]) (gl_in [(9, 100), (9, 101), (9, 102), (1, 14)] (by decide +kernel) (by decide +kernel)) ⟨(t_of [Cond.code yX12_isOn cX12_isOn 2 (some .boolean)] [(9, 103)] (by decide +kernel) _ List.mem_cons_self), List.all_eq_true.mp (by decide +kernel : [Cond.code yX12_isOn cX12_isOn 2 (some .boolean)].all goodWord = true) _ List.mem_cons_self⟩) rfl rfl rfl (by decide +kernel) ⟨Nat.le_of_ble_eq_true rfl, Nat.le_of_ble_eq_true rfl⟩) rfl hl.1 rfl (lv_room (Nat.le_of_ble_eq_true rfl)) dL_law_716 ⟨by show _ ≤ 601024; omega, by show _ ≤ 7293034; omega⟩ (fun H locs G => ?_)
  refine lv_istore (lv' := [(7, .int r2), (6, .int (vck 1 2 0 k1)), (5, .int (nI i)), (4, .ref ae), (3, .ref aj), (2, .ref (am 0)), (1, .ref (ad2 0)), (0, .ref b)]) hx hb dL_law_719 hl (by decide) rfl (fun ls hl => ?_)
  refine lv_goto (tgt := 2439) hx hb dL_law_721 (by decide) ?_
  have hl := lv_sub hl [2, 3, 4, 5, 6, 7] rfl
  refine W.widen (k := 19 + T1.1 + (j + 1)) (n := 38467 + sg T1 + 6 * (j + 1)) (by omega) (by omega) ?_
  exact kk ad2 (vfJ k1 f (vzb r1)) g H locs ls hg hf (had 0 h0T) hV1 hrc1 hJ1 G hl
set_option maxHeartbeats 4000000 in
set_option maxRecDepth 100000 in
theorem y_a14 {p : Program} {e : Env} {s : State} {m : MethodId} {below : List Frame} {meth : Method} {c : Code} (l : Launch) (hst : l.stackTraces = false) {b L : Nat} {xs : Nat → Int32} (hx : p.tables.exec = Jvm.exec) (hb : c.code = code) (hml : c.maxLocals = 9) (hown : s.vm.findClass RL = some m.cls) (hts : ∀ w ∈ lw_tbl, w.before #[Value.ref b] s = true) (hX0 : va_X b L xs s s.heap) (hbl : b < s.heap.size) (hX : xT (fun q => s.heap.size ≤ q) s) (hN : nC s) (hTS : sAll s.heap.size s) {D : va_G} {cI cJ cZ cMic cSrc cSt cAI cAJ cD : ClassId} (hK : va_K D vwCl (CT cI cJ cZ cMic cSrc cSt cAI cAJ ++ [(cD, .double)]) s) {Q : State → Prop} {i j : Nat} (hi : i + 6 ≤ L) (hL : L ≤ 3072) (hj : j < 512) {aj ae : Nat} {ad am : Nat → Nat} {T : AT} {Sm : MS} {f : Nat → Int64} {g : Nat → UInt64} {ls : Array Slot} {H : Heap} {locs : List Loc} (hV : IV aR0 1586 aK1 aK2 T) (hrc : RC T) (hJ : JJ Sm) (G : gL cI cJ cZ cMic cSrc cSt cAI cAJ D ad (fun q => s.heap.size ≤ q) s.heap H locs T (oJ aj cJ f :: oD ae cD g :: MW cI cJ cZ am Sm)) (hl : lv_has ls 9 [(5, .int (nI i)), (4, .ref ae), (3, .ref aj), (2, .ref (am 0)), (1, .ref (ad 0)), (0, .ref b)]) (kk : ∀ {k1 : Nat} {r1 : Int32} {T1 : AT} {r2 : Int32} {S1 : MS} (ad2 : Nat → Nat) (f1 : Nat → Int64) (g1 : Nat → UInt64) (H1 : Heap) (locs1 : List Loc) (ls1 : Array Slot), g_X11_waveAt T 0 (xs (i + 1)) (xs (i + 2)) = some (k1, r1, T1) → fr_waveAt Sm (xs (i + 1)) (xs (i + 2)) = some (r2, S1) → ad2 0 = ad 0 → IV aR0 1586 aK1 aK2 T1 → RC T1 → JJ S1 → gL cI cJ cZ cMic cSrc cSt cAI cAJ D ad2 (fun q => s.heap.size ≤ q) s.heap H1 locs1 T1 (oJ aj cJ f1 :: oD ae cD g1 :: MW cI cJ cZ am S1) → lv_has ls1 9 [(5, .int (nI i)), (4, .ref ae), (3, .ref aj), (2, .ref (am 0)), (1, .ref (ad2 0)), (0, .ref b)] → W p l e room_1 s m #[Value.ref b] below meth c H1 locs1 (19 + T1.1 + (j + 1)) (38467 + sg T1 + 6 * (j + 1)) Q (F0 m 2439 ls1 [])) : W p l e room_1 s m #[Value.ref b] below meth c H locs (19 + T.1 + j) (38467 + sg T + 6 * j) Q (F0 m 724 ls []) := by
  have E : cE p c cL_law s m #[Value.ref b] lw_tbl D RL (CT cI cJ cZ cMic cSrc cSt cAI cAJ ++ [(cD, .double)]) := ⟨hx, hb, hts, hown, hK⟩
  have hA : ∀ q : Nat, s.heap.size ≤ q → s.heap.size ≤ q := fun _ h => h
  have h0T : 0 < T.1 := Nat.lt_of_lt_of_le (by decide) hV.1.2.2
  have h0s : T.2.1 0 = (11, 0) := hV.2.1 0 ⟨by decide, by decide +kernel, by decide +kernel⟩
  refine lv_aload_n hx hb dL_law_724 rfl (lv_at hl 4 rfl) ?_
  refine lv_aload_n hx hb dL_law_725 rfl (lv_at hl 5 rfl) ?_
  refine lv_iload hx hb dL_law_726 (lv_at hl 0 rfl) ?_
  refine lv_iconst (v := 1) hx hb dL_law_728 (by decide) ?_
  refine lv_iadd hx hb dL_law_729 ?_
  refine lv_to (y := nI (i + 1)) (nI_add i 1) ?_
  refine va_sld hx hb hX0 hbl (Nat.not_le.mpr hbl) G.2.2 (i := nI (i + 1)) (vp_in_nI (n := i + 1) (N := L) (by omega) (by omega)) dL_law_730 ?_
  refine lv_to (y := xs (i + 1)) (congrArg xs (nI_clamp (by omega))) ?_
  refine lv_aload_n hx hb dL_law_731 rfl (lv_at hl 5 rfl) ?_
  refine lv_iload hx hb dL_law_732 (lv_at hl 0 rfl) ?_
  refine lv_iconst (v := 2) hx hb dL_law_734 (by decide) ?_
  refine lv_iadd hx hb dL_law_735 ?_
  refine lv_to (y := nI (i + 2)) (nI_add i 2) ?_
  refine va_sld hx hb hX0 hbl (Nat.not_le.mpr hbl) G.2.2 (i := nI (i + 2)) (vp_in_nI (n := i + 2) (N := L) (by omega) (by omega)) dL_law_736 ?_
  refine lv_to (y := xs (i + 2)) (congrArg xs (nI_clamp (by omega))) ?_
  refine lv_aload_n hx hb dL_law_737 rfl (lv_at hl 2 rfl) ?_
  obtain ⟨⟨k1, r1, T1⟩, hg, hc⟩ := cs_X11_waveAt T 0 (xs (i + 1)) (xs (i + 2)) hV (by decide +kernel)
  have hV1 : IV aR0 1586 aK1 aK2 T1 := by rw [show T1 = T from hc.1]; exact hV
  have hg1 := (gl_sp (s_X11_waveAt hg))
  have hg2 := sg_le hg1
  have hg3 := hg1.1
  have hk := hV1.2.2.2.2.2.2
  have hrc1 := hg1.2.2 hrc
  have hr0 := a_room
  refine l_v (h0 := s.heap.size) (As := [.ref (ad 0), .int (xs (i + 1)), .int (xs (i + 2)), .ref aj]) (rest := []) E G hA hX hN (fun _ h => h) hTS hml (v_waveAt l hst D s.heap.size ad T 0 (xs (i + 1)) (xs (i + 2)) aj f hg hrc h0T h0s) (vx_cwSW 4 hts (glA (L := [Cond.methodLink RL 252 yL_waveAt, Cond.static yL_waveAt, Cond.initialized RL]) (gl_in [(5, 98), (5, 99), (1, 0)] (by decide +kernel) (by decide +kernel)) ⟨(t_of [Cond.codeWith yL_waveAt cL_waveAt 5 (some .int) [(0, 10, 13, 21), (0, 10, 17, 13), (0, 10, 21, 15)]] [(5, 100)] (by decide +kernel) _ List.mem_cons_self), List.all_eq_true.mp (by decide +kernel : [Cond.codeWith yL_waveAt cL_waveAt 5 (some .int) [(0, 10, 13, 21), (0, 10, 17, 13), (0, 10, 21, 15)]].all goodWord = true) _ List.mem_cons_self⟩) rfl rfl rfl (by decide +kernel) ⟨Nat.le_of_ble_eq_true rfl, Nat.le_of_ble_eq_true rfl⟩) rfl hl.1 rfl (lv_room (Nat.le_of_ble_eq_true rfl)) dL_law_738 ⟨by show _ ≤ 601024; omega, by show _ ≤ 7293034; omega⟩ ?_
  intro ad2 H locs had G
  rw [← had 0 h0T] at hl
  refine lv_istore (lv' := [(6, .int (vck 1 2 3 k1)), (5, .int (nI i)), (4, .ref ae), (3, .ref aj), (2, .ref (am 0)), (1, .ref (ad2 0)), (0, .ref b)]) hx hb dL_law_741 hl (by decide) rfl (fun ls hl => ?_)
  refine lv_aload_n hx hb dL_law_743 rfl (lv_at hl 4 rfl) ?_
  refine lv_aload_n hx hb dL_law_744 rfl (lv_at hl 6 rfl) ?_
  refine lv_iload hx hb dL_law_745 (lv_at hl 1 rfl) ?_
  refine lv_iconst (v := 1) hx hb dL_law_747 (by decide) ?_
  refine lv_iadd hx hb dL_law_748 ?_
  refine lv_to (y := nI (i + 1)) (nI_add i 1) ?_
  refine va_sld hx hb hX0 hbl (Nat.not_le.mpr hbl) G.2.2 (i := nI (i + 1)) (vp_in_nI (n := i + 1) (N := L) (by omega) (by omega)) dL_law_749 ?_
  refine lv_to (y := xs (i + 1)) (congrArg xs (nI_clamp (by omega))) ?_
  refine lv_aload_n hx hb dL_law_750 rfl (lv_at hl 6 rfl) ?_
  refine lv_iload hx hb dL_law_751 (lv_at hl 1 rfl) ?_
  refine lv_iconst (v := 2) hx hb dL_law_753 (by decide) ?_
  refine lv_iadd hx hb dL_law_754 ?_
  refine lv_to (y := nI (i + 2)) (nI_add i 2) ?_
  refine va_sld hx hb hX0 hbl (Nat.not_le.mpr hbl) G.2.2 (i := nI (i + 2)) (vp_in_nI (n := i + 2) (N := L) (by omega) (by omega)) dL_law_755 ?_
  refine lv_to (y := xs (i + 2)) (congrArg xs (nI_clamp (by omega))) ?_
  obtain ⟨⟨r2, S1⟩, hf, hj⟩ := sj_waveAt Sm (xs (i + 1)) (xs (i + 2)) hJ
  have hJ1 : JJ S1 := hj
  refine y_mi (As := [.int (xs (i + 1)), .int (xs (i + 2))]) (rest := []) E G hA hX.2.2.2.2 hml (tr_waveAt l D cI cJ cZ am Sm (xs (i + 1)) (xs (i + 2)) hf) (cwV 2 hts (glM (L := [Cond.methodLink RL 254 yX12_waveAt, Cond.instanceMethod yX12_waveAt, Cond.selects RX12 yX12_waveAt yX12_waveAt, Cond.initialized RX12]) (gl_in [(9, 104), (9, 105), (9, 106), (1, 14)] (by decide +kernel) (by decide +kernel)) ⟨(t_of [Cond.code yX12_waveAt cX12_waveAt 3 (some .int)] [(9, 107)] (by decide +kernel) _ List.mem_cons_self), List.all_eq_true.mp (by decide +kernel : [Cond.code yX12_waveAt cX12_waveAt 3 (some .int)].all goodWord = true) _ List.mem_cons_self⟩) rfl rfl rfl (by decide +kernel) ⟨Nat.le_of_ble_eq_true rfl, Nat.le_of_ble_eq_true rfl⟩) rfl hl.1 rfl (lv_room (Nat.le_of_ble_eq_true rfl)) dL_law_756 ⟨by show _ ≤ 601024; omega, by show _ ≤ 7293034; omega⟩ (fun H locs G => ?_)
  refine lv_istore (lv' := [(7, .int r2), (6, .int (vck 1 2 3 k1)), (5, .int (nI i)), (4, .ref ae), (3, .ref aj), (2, .ref (am 0)), (1, .ref (ad2 0)), (0, .ref b)]) hx hb dL_law_759 hl (by decide) rfl (fun ls hl => ?_)
  refine lv_goto (tgt := 2439) hx hb dL_law_761 (by decide) ?_
  have hl := lv_sub hl [2, 3, 4, 5, 6, 7] rfl
  refine W.widen (k := 19 + T1.1 + (j + 1)) (n := 38467 + sg T1 + 6 * (j + 1)) (by omega) (by omega) ?_
  exact kk ad2 (vfJ k1 f r1.toInt64) g H locs ls hg hf (had 0 h0T) hV1 hrc1 hJ1 G hl
set_option maxHeartbeats 4000000 in
set_option maxRecDepth 100000 in
theorem y_a15 {p : Program} {e : Env} {s : State} {m : MethodId} {below : List Frame} {meth : Method} {c : Code} (l : Launch) (hst : l.stackTraces = false) {b L : Nat} {xs : Nat → Int32} (hx : p.tables.exec = Jvm.exec) (hb : c.code = code) (hml : c.maxLocals = 9) (hown : s.vm.findClass RL = some m.cls) (hts : ∀ w ∈ lw_tbl, w.before #[Value.ref b] s = true) (hX0 : va_X b L xs s s.heap) (hbl : b < s.heap.size) (hX : xT (fun q => s.heap.size ≤ q) s) (hN : nC s) (hTS : sAll s.heap.size s) {D : va_G} {cI cJ cZ cMic cSrc cSt cAI cAJ cD : ClassId} (hK : va_K D vwCl (CT cI cJ cZ cMic cSrc cSt cAI cAJ ++ [(cD, .double)]) s) {Q : State → Prop} {i j : Nat} (hi : i + 6 ≤ L) (hL : L ≤ 3072) (hj : j < 512) {aj ae : Nat} {ad am : Nat → Nat} {T : AT} {Sm : MS} {f : Nat → Int64} {g : Nat → UInt64} {ls : Array Slot} {H : Heap} {locs : List Loc} (hV : IV aR0 1586 aK1 aK2 T) (hrc : RC T) (hJ : JJ Sm) (G : gL cI cJ cZ cMic cSrc cSt cAI cAJ D ad (fun q => s.heap.size ≤ q) s.heap H locs T (oJ aj cJ f :: oD ae cD g :: MW cI cJ cZ am Sm)) (hl : lv_has ls 9 [(5, .int (nI i)), (4, .ref ae), (3, .ref aj), (2, .ref (am 0)), (1, .ref (ad 0)), (0, .ref b)]) (kk : ∀ {r1 : Int32} {T1 : AT} {r2 : Int32} {S1 : MS} (ad2 : Nat → Nat) (f1 : Nat → Int64) (g1 : Nat → UInt64) (H1 : Heap) (locs1 : List Loc) (ls1 : Array Slot), g_X11_samples T 0 = some (r1, T1) → fr_samples Sm = some (r2, S1) → ad2 0 = ad 0 → IV aR0 1586 aK1 aK2 T1 → RC T1 → JJ S1 → gL cI cJ cZ cMic cSrc cSt cAI cAJ D ad2 (fun q => s.heap.size ≤ q) s.heap H1 locs1 T1 (oJ aj cJ f1 :: oD ae cD g1 :: MW cI cJ cZ am S1) → lv_has ls1 9 [(5, .int (nI i)), (4, .ref ae), (3, .ref aj), (2, .ref (am 0)), (1, .ref (ad2 0)), (0, .ref b)] → W p l e room_1 s m #[Value.ref b] below meth c H1 locs1 (19 + T1.1 + (j + 1)) (38467 + sg T1 + 6 * (j + 1)) Q (F0 m 2439 ls1 [])) : W p l e room_1 s m #[Value.ref b] below meth c H locs (19 + T.1 + j) (38467 + sg T + 6 * j) Q (F0 m 764 ls []) := by
  have E : cE p c cL_law s m #[Value.ref b] lw_tbl D RL (CT cI cJ cZ cMic cSrc cSt cAI cAJ ++ [(cD, .double)]) := ⟨hx, hb, hts, hown, hK⟩
  have hA : ∀ q : Nat, s.heap.size ≤ q → s.heap.size ≤ q := fun _ h => h
  have h0T : 0 < T.1 := Nat.lt_of_lt_of_le (by decide) hV.1.2.2
  have h0s : T.2.1 0 = (11, 0) := hV.2.1 0 ⟨by decide, by decide +kernel, by decide +kernel⟩
  refine lv_aload_n hx hb dL_law_764 rfl (lv_at hl 4 rfl) ?_
  obtain ⟨⟨r1, T1⟩, hg, hc⟩ := cs_X11_samples T 0 hV (by decide +kernel)
  have hV1 : IV aR0 1586 aK1 aK2 T1 := by rw [show T1 = T from hc.1]; exact hV
  have hg1 := (gl_sp (s_X11_samples hg))
  have hg2 := sg_le hg1
  have hg3 := hg1.1
  have hk := hV1.2.2.2.2.2.2
  have hrc1 := hg1.2.2 hrc
  have hr0 := a_room
  refine t_cvi (As := []) (rest := []) E G hA hX hX.2.2.2.1 hml (u_X11_samples l hst D cI cJ cZ cMic cSrc cSt cAI cAJ ad T 0  hg) (cwV 0 hts (glA (L := [Cond.methodLink RL 255 yX11_samples, Cond.instanceMethod yX11_samples, Cond.selects RX11 yX11_samples yX11_samples, Cond.initialized RX11]) (gl_in [(3, 84), (3, 85), (3, 86), (1, 1)] (by decide +kernel) (by decide +kernel)) ⟨(t_of [Cond.code yX11_samples cX11_samples 1 (some .int)] [(3, 87)] (by decide +kernel) _ List.mem_cons_self), List.all_eq_true.mp (by decide +kernel : [Cond.code yX11_samples cX11_samples 1 (some .int)].all goodWord = true) _ List.mem_cons_self⟩) rfl rfl rfl (by decide +kernel) ⟨Nat.le_of_ble_eq_true rfl, Nat.le_of_ble_eq_true rfl⟩) h0T (cc_o11 h0s) rfl rfl hl.1 rfl (lv_room (Nat.le_of_ble_eq_true rfl)) dL_law_765 ⟨by show _ ≤ 601024; omega, by show _ ≤ 7293034; omega⟩ ?_
  intro r9 T9 H locs hp G
  obtain ⟨hr9, hS1⟩ := hp
  rw [hS1] at G
  refine lv_to (y := r1) hr9 ?_
  refine lv_pop hx hb dL_law_768 rfl ?_
  refine lv_aload_n hx hb dL_law_769 rfl (lv_at hl 3 rfl) ?_
  obtain ⟨⟨r2, S1⟩, hf, hj⟩ := sj_samples Sm hJ
  have hJ1 : JJ S1 := hj
  refine y_mi (As := []) (rest := []) E G hA hX.2.2.2.2 hml (tr_samples l D cI cJ cZ am Sm  hf) (cwV 0 hts (glM (L := [Cond.methodLink RL 258 yX12_samples, Cond.instanceMethod yX12_samples, Cond.selects RX12 yX12_samples yX12_samples, Cond.initialized RX12]) (gl_in [(9, 108), (9, 109), (9, 110), (1, 14)] (by decide +kernel) (by decide +kernel)) ⟨(t_of [Cond.code yX12_samples cX12_samples 1 (some .int)] [(9, 111)] (by decide +kernel) _ List.mem_cons_self), List.all_eq_true.mp (by decide +kernel : [Cond.code yX12_samples cX12_samples 1 (some .int)].all goodWord = true) _ List.mem_cons_self⟩) rfl rfl rfl (by decide +kernel) ⟨Nat.le_of_ble_eq_true rfl, Nat.le_of_ble_eq_true rfl⟩) rfl hl.1 rfl (lv_room (Nat.le_of_ble_eq_true rfl)) dL_law_770 ⟨by show _ ≤ 601024; omega, by show _ ≤ 7293034; omega⟩ (fun H locs G => ?_)
  refine lv_pop hx hb dL_law_773 rfl ?_
  refine lv_goto (tgt := 2439) hx hb dL_law_774 (by decide) ?_
  refine W.widen (k := 19 + T1.1 + (j + 1)) (n := 38467 + sg T1 + 6 * (j + 1)) (by omega) (by omega) ?_
  exact kk ad f g H locs ls hg hf rfl hV1 hrc1 hJ1 G hl
end
section
/-! 17c.arm2.lean.txt -/
theorem dL_law_777 : decode cL_law 777 = .ok (.aload_n 1, 1) := de_43 (lb_48 (j := 9) (b := 43) rfl)
theorem dL_law_778 : decode cL_law 778 = .ok (.aload_n 0, 1) := de_42 (lb_48 (j := 10) (b := 42) rfl)
theorem dL_law_779 : decode cL_law 779 = .ok (.iload 5, 2) := de_21 (lb_48 (j := 11) (b := 21) rfl) (lb_48 (j := 12) (b := 5) rfl) rfl
theorem dL_law_781 : decode cL_law 781 = .ok (.iconst 1, 1) := de_4 (lb_48 (j := 13) (b := 4) rfl)
theorem dL_law_782 : decode cL_law 782 = .ok (.iadd, 1) := de_96 (lb_48 (j := 14) (b := 96) rfl)
theorem dL_law_783 : decode cL_law 783 = .ok (.iaload, 1) := de_46 (lb_48 (j := 15) (b := 46) rfl)
theorem dL_law_784 : decode cL_law 784 = .ok (.aload_n 0, 1) := de_42 (lb_49 (j := 0) (b := 42) rfl)
theorem dL_law_785 : decode cL_law 785 = .ok (.iload 5, 2) := de_21 (lb_49 (j := 1) (b := 21) rfl) (lb_49 (j := 2) (b := 5) rfl) rfl
theorem dL_law_787 : decode cL_law 787 = .ok (.iconst 2, 1) := de_5 (lb_49 (j := 3) (b := 5) rfl)
theorem dL_law_788 : decode cL_law 788 = .ok (.iadd, 1) := de_96 (lb_49 (j := 4) (b := 96) rfl)
theorem dL_law_789 : decode cL_law 789 = .ok (.iaload, 1) := de_46 (lb_49 (j := 5) (b := 46) rfl)
theorem dL_law_790 : decode cL_law 790 = .ok (.aload_n 3, 1) := de_45 (lb_49 (j := 6) (b := 45) rfl)
theorem dL_law_791 : decode cL_law 791 = .ok (.invokestatic 259, 3) := de_184 (lb_49 (j := 7) (b := 184) rfl) (lb_49 (j := 8) (b := 1) rfl) (lb_49 (j := 9) (b := 3) rfl) rfl
theorem dL_law_794 : decode cL_law 794 = .ok (.istore 6, 2) := de_54 (lb_49 (j := 10) (b := 54) rfl) (lb_49 (j := 11) (b := 6) rfl) rfl
theorem dL_law_796 : decode cL_law 796 = .ok (.aload_n 2, 1) := de_44 (lb_49 (j := 12) (b := 44) rfl)
theorem dL_law_797 : decode cL_law 797 = .ok (.aload_n 0, 1) := de_42 (lb_49 (j := 13) (b := 42) rfl)
theorem dL_law_798 : decode cL_law 798 = .ok (.iload 5, 2) := de_21 (lb_49 (j := 14) (b := 21) rfl) (lb_49 (j := 15) (b := 5) rfl) rfl
theorem dL_law_800 : decode cL_law 800 = .ok (.iconst 1, 1) := de_4 (lb_50 (j := 0) (b := 4) rfl)
theorem dL_law_801 : decode cL_law 801 = .ok (.iadd, 1) := de_96 (lb_50 (j := 1) (b := 96) rfl)
theorem dL_law_802 : decode cL_law 802 = .ok (.iaload, 1) := de_46 (lb_50 (j := 2) (b := 46) rfl)
theorem dL_law_803 : decode cL_law 803 = .ok (.aload_n 0, 1) := de_42 (lb_50 (j := 3) (b := 42) rfl)
theorem dL_law_804 : decode cL_law 804 = .ok (.iload 5, 2) := de_21 (lb_50 (j := 4) (b := 21) rfl) (lb_50 (j := 5) (b := 5) rfl) rfl
theorem dL_law_806 : decode cL_law 806 = .ok (.iconst 2, 1) := de_5 (lb_50 (j := 6) (b := 5) rfl)
theorem dL_law_807 : decode cL_law 807 = .ok (.iadd, 1) := de_96 (lb_50 (j := 7) (b := 96) rfl)
theorem dL_law_808 : decode cL_law 808 = .ok (.iaload, 1) := de_46 (lb_50 (j := 8) (b := 46) rfl)
theorem dL_law_809 : decode cL_law 809 = .ok (.invokevirtual 261, 3) := de_182 (lb_50 (j := 9) (b := 182) rfl) (lb_50 (j := 10) (b := 1) rfl) (lb_50 (j := 11) (b := 5) rfl) rfl
theorem dL_law_812 : decode cL_law 812 = .ok (.istore 7, 2) := de_54 (lb_50 (j := 12) (b := 54) rfl) (lb_50 (j := 13) (b := 7) rfl) rfl
theorem dL_law_814 : decode cL_law 814 = .ok (.goto 1625, 3) := de_167 (lb_50 (j := 14) (b := 167) rfl) (lb_50 (j := 15) (b := 6) rfl) (lb_51 (j := 0) (b := 89) rfl) (by decide +kernel)
theorem dL_law_817 : decode cL_law 817 = .ok (.aload_n 1, 1) := de_43 (lb_51 (j := 1) (b := 43) rfl)
theorem dL_law_818 : decode cL_law 818 = .ok (.aload_n 0, 1) := de_42 (lb_51 (j := 2) (b := 42) rfl)
theorem dL_law_819 : decode cL_law 819 = .ok (.iload 5, 2) := de_21 (lb_51 (j := 3) (b := 21) rfl) (lb_51 (j := 4) (b := 5) rfl) rfl
theorem dL_law_821 : decode cL_law 821 = .ok (.iconst 1, 1) := de_4 (lb_51 (j := 5) (b := 4) rfl)
theorem dL_law_822 : decode cL_law 822 = .ok (.iadd, 1) := de_96 (lb_51 (j := 6) (b := 96) rfl)
theorem dL_law_823 : decode cL_law 823 = .ok (.iaload, 1) := de_46 (lb_51 (j := 7) (b := 46) rfl)
theorem dL_law_824 : decode cL_law 824 = .ok (.aload_n 0, 1) := de_42 (lb_51 (j := 8) (b := 42) rfl)
theorem dL_law_825 : decode cL_law 825 = .ok (.iload 5, 2) := de_21 (lb_51 (j := 9) (b := 21) rfl) (lb_51 (j := 10) (b := 5) rfl) rfl
theorem dL_law_827 : decode cL_law 827 = .ok (.iconst 2, 1) := de_5 (lb_51 (j := 11) (b := 5) rfl)
theorem dL_law_828 : decode cL_law 828 = .ok (.iadd, 1) := de_96 (lb_51 (j := 12) (b := 96) rfl)
theorem dL_law_829 : decode cL_law 829 = .ok (.iaload, 1) := de_46 (lb_51 (j := 13) (b := 46) rfl)
theorem dL_law_830 : decode cL_law 830 = .ok (.aload_n 0, 1) := de_42 (lb_51 (j := 14) (b := 42) rfl)
theorem dL_law_831 : decode cL_law 831 = .ok (.iload 5, 2) := de_21 (lb_51 (j := 15) (b := 21) rfl) (lb_52 (j := 0) (b := 5) rfl) rfl
theorem dL_law_833 : decode cL_law 833 = .ok (.iconst 3, 1) := de_6 (lb_52 (j := 1) (b := 6) rfl)
theorem dL_law_834 : decode cL_law 834 = .ok (.iadd, 1) := de_96 (lb_52 (j := 2) (b := 96) rfl)
theorem dL_law_835 : decode cL_law 835 = .ok (.iaload, 1) := de_46 (lb_52 (j := 3) (b := 46) rfl)
theorem dL_law_836 : decode cL_law 836 = .ok (.aload_n 3, 1) := de_45 (lb_52 (j := 4) (b := 45) rfl)
theorem dL_law_837 : decode cL_law 837 = .ok (.invokestatic 262, 3) := de_184 (lb_52 (j := 5) (b := 184) rfl) (lb_52 (j := 6) (b := 1) rfl) (lb_52 (j := 7) (b := 6) rfl) rfl
theorem dL_law_840 : decode cL_law 840 = .ok (.istore 6, 2) := de_54 (lb_52 (j := 8) (b := 54) rfl) (lb_52 (j := 9) (b := 6) rfl) rfl
theorem dL_law_842 : decode cL_law 842 = .ok (.aload_n 2, 1) := de_44 (lb_52 (j := 10) (b := 44) rfl)
theorem dL_law_843 : decode cL_law 843 = .ok (.aload_n 0, 1) := de_42 (lb_52 (j := 11) (b := 42) rfl)
theorem dL_law_844 : decode cL_law 844 = .ok (.iload 5, 2) := de_21 (lb_52 (j := 12) (b := 21) rfl) (lb_52 (j := 13) (b := 5) rfl) rfl
theorem dL_law_846 : decode cL_law 846 = .ok (.iconst 1, 1) := de_4 (lb_52 (j := 14) (b := 4) rfl)
theorem dL_law_847 : decode cL_law 847 = .ok (.iadd, 1) := de_96 (lb_52 (j := 15) (b := 96) rfl)
theorem dL_law_848 : decode cL_law 848 = .ok (.iaload, 1) := de_46 (lb_53 (j := 0) (b := 46) rfl)
theorem dL_law_849 : decode cL_law 849 = .ok (.aload_n 0, 1) := de_42 (lb_53 (j := 1) (b := 42) rfl)
theorem dL_law_850 : decode cL_law 850 = .ok (.iload 5, 2) := de_21 (lb_53 (j := 2) (b := 21) rfl) (lb_53 (j := 3) (b := 5) rfl) rfl
theorem dL_law_852 : decode cL_law 852 = .ok (.iconst 2, 1) := de_5 (lb_53 (j := 4) (b := 5) rfl)
theorem dL_law_853 : decode cL_law 853 = .ok (.iadd, 1) := de_96 (lb_53 (j := 5) (b := 96) rfl)
theorem dL_law_854 : decode cL_law 854 = .ok (.iaload, 1) := de_46 (lb_53 (j := 6) (b := 46) rfl)
theorem dL_law_855 : decode cL_law 855 = .ok (.aload_n 0, 1) := de_42 (lb_53 (j := 7) (b := 42) rfl)
theorem dL_law_856 : decode cL_law 856 = .ok (.iload 5, 2) := de_21 (lb_53 (j := 8) (b := 21) rfl) (lb_53 (j := 9) (b := 5) rfl) rfl
theorem dL_law_858 : decode cL_law 858 = .ok (.iconst 3, 1) := de_6 (lb_53 (j := 10) (b := 6) rfl)
theorem dL_law_859 : decode cL_law 859 = .ok (.iadd, 1) := de_96 (lb_53 (j := 11) (b := 96) rfl)
theorem dL_law_860 : decode cL_law 860 = .ok (.iaload, 1) := de_46 (lb_53 (j := 12) (b := 46) rfl)
theorem dL_law_861 : decode cL_law 861 = .ok (.invokevirtual 264, 3) := de_182 (lb_53 (j := 13) (b := 182) rfl) (lb_53 (j := 14) (b := 1) rfl) (lb_53 (j := 15) (b := 8) rfl) rfl
theorem dL_law_864 : decode cL_law 864 = .ok (.istore 7, 2) := de_54 (lb_54 (j := 0) (b := 54) rfl) (lb_54 (j := 1) (b := 7) rfl) rfl
theorem dL_law_866 : decode cL_law 866 = .ok (.goto 1573, 3) := de_167 (lb_54 (j := 2) (b := 167) rfl) (lb_54 (j := 3) (b := 6) rfl) (lb_54 (j := 4) (b := 37) rfl) (by decide +kernel)
theorem dL_law_869 : decode cL_law 869 = .ok (.aload_n 1, 1) := de_43 (lb_54 (j := 5) (b := 43) rfl)
theorem dL_law_870 : decode cL_law 870 = .ok (.aload_n 0, 1) := de_42 (lb_54 (j := 6) (b := 42) rfl)
theorem dL_law_871 : decode cL_law 871 = .ok (.iload 5, 2) := de_21 (lb_54 (j := 7) (b := 21) rfl) (lb_54 (j := 8) (b := 5) rfl) rfl
theorem dL_law_873 : decode cL_law 873 = .ok (.iconst 1, 1) := de_4 (lb_54 (j := 9) (b := 4) rfl)
theorem dL_law_874 : decode cL_law 874 = .ok (.iadd, 1) := de_96 (lb_54 (j := 10) (b := 96) rfl)
theorem dL_law_875 : decode cL_law 875 = .ok (.iaload, 1) := de_46 (lb_54 (j := 11) (b := 46) rfl)
theorem dL_law_876 : decode cL_law 876 = .ok (.aload_n 3, 1) := de_45 (lb_54 (j := 12) (b := 45) rfl)
theorem dL_law_877 : decode cL_law 877 = .ok (.invokestatic 265, 3) := de_184 (lb_54 (j := 13) (b := 184) rfl) (lb_54 (j := 14) (b := 1) rfl) (lb_54 (j := 15) (b := 9) rfl) rfl
theorem dL_law_880 : decode cL_law 880 = .ok (.istore 6, 2) := de_54 (lb_55 (j := 0) (b := 54) rfl) (lb_55 (j := 1) (b := 6) rfl) rfl
theorem dL_law_882 : decode cL_law 882 = .ok (.aload_n 2, 1) := de_44 (lb_55 (j := 2) (b := 44) rfl)
theorem dL_law_883 : decode cL_law 883 = .ok (.aload_n 0, 1) := de_42 (lb_55 (j := 3) (b := 42) rfl)
theorem dL_law_884 : decode cL_law 884 = .ok (.iload 5, 2) := de_21 (lb_55 (j := 4) (b := 21) rfl) (lb_55 (j := 5) (b := 5) rfl) rfl
theorem dL_law_886 : decode cL_law 886 = .ok (.iconst 1, 1) := de_4 (lb_55 (j := 6) (b := 4) rfl)
theorem dL_law_887 : decode cL_law 887 = .ok (.iadd, 1) := de_96 (lb_55 (j := 7) (b := 96) rfl)
theorem dL_law_888 : decode cL_law 888 = .ok (.iaload, 1) := de_46 (lb_55 (j := 8) (b := 46) rfl)
theorem dL_law_889 : decode cL_law 889 = .ok (.invokevirtual 267, 3) := de_182 (lb_55 (j := 9) (b := 182) rfl) (lb_55 (j := 10) (b := 1) rfl) (lb_55 (j := 11) (b := 11) rfl) rfl
theorem dL_law_892 : decode cL_law 892 = .ok (.istore 7, 2) := de_54 (lb_55 (j := 12) (b := 54) rfl) (lb_55 (j := 13) (b := 7) rfl) rfl
theorem dL_law_894 : decode cL_law 894 = .ok (.goto 1545, 3) := de_167 (lb_55 (j := 14) (b := 167) rfl) (lb_55 (j := 15) (b := 6) rfl) (lb_56 (j := 0) (b := 9) rfl) (by decide +kernel)
theorem dL_law_897 : decode cL_law 897 = .ok (.aload_n 1, 1) := de_43 (lb_56 (j := 1) (b := 43) rfl)
theorem dL_law_898 : decode cL_law 898 = .ok (.aload_n 0, 1) := de_42 (lb_56 (j := 2) (b := 42) rfl)
theorem dL_law_899 : decode cL_law 899 = .ok (.iload 5, 2) := de_21 (lb_56 (j := 3) (b := 21) rfl) (lb_56 (j := 4) (b := 5) rfl) rfl
theorem dL_law_901 : decode cL_law 901 = .ok (.iconst 1, 1) := de_4 (lb_56 (j := 5) (b := 4) rfl)
theorem dL_law_902 : decode cL_law 902 = .ok (.iadd, 1) := de_96 (lb_56 (j := 6) (b := 96) rfl)
theorem dL_law_903 : decode cL_law 903 = .ok (.iaload, 1) := de_46 (lb_56 (j := 7) (b := 46) rfl)
theorem dL_law_904 : decode cL_law 904 = .ok (.aload_n 3, 1) := de_45 (lb_56 (j := 8) (b := 45) rfl)
theorem dL_law_905 : decode cL_law 905 = .ok (.invokestatic 268, 3) := de_184 (lb_56 (j := 9) (b := 184) rfl) (lb_56 (j := 10) (b := 1) rfl) (lb_56 (j := 11) (b := 12) rfl) rfl
theorem dL_law_908 : decode cL_law 908 = .ok (.istore 6, 2) := de_54 (lb_56 (j := 12) (b := 54) rfl) (lb_56 (j := 13) (b := 6) rfl) rfl
theorem dL_law_910 : decode cL_law 910 = .ok (.aload_n 2, 1) := de_44 (lb_56 (j := 14) (b := 44) rfl)
theorem dL_law_911 : decode cL_law 911 = .ok (.aload_n 0, 1) := de_42 (lb_56 (j := 15) (b := 42) rfl)
theorem dL_law_912 : decode cL_law 912 = .ok (.iload 5, 2) := de_21 (lb_57 (j := 0) (b := 21) rfl) (lb_57 (j := 1) (b := 5) rfl) rfl
theorem dL_law_914 : decode cL_law 914 = .ok (.iconst 1, 1) := de_4 (lb_57 (j := 2) (b := 4) rfl)
theorem dL_law_915 : decode cL_law 915 = .ok (.iadd, 1) := de_96 (lb_57 (j := 3) (b := 96) rfl)
theorem dL_law_916 : decode cL_law 916 = .ok (.iaload, 1) := de_46 (lb_57 (j := 4) (b := 46) rfl)
theorem dL_law_917 : decode cL_law 917 = .ok (.invokevirtual 270, 3) := de_182 (lb_57 (j := 5) (b := 182) rfl) (lb_57 (j := 6) (b := 1) rfl) (lb_57 (j := 7) (b := 14) rfl) rfl
theorem dL_law_920 : decode cL_law 920 = .ok (.istore 7, 2) := de_54 (lb_57 (j := 8) (b := 54) rfl) (lb_57 (j := 9) (b := 7) rfl) rfl
theorem dL_law_922 : decode cL_law 922 = .ok (.goto 1517, 3) := de_167 (lb_57 (j := 10) (b := 167) rfl) (lb_57 (j := 11) (b := 5) rfl) (lb_57 (j := 12) (b := 237) rfl) (by decide +kernel)
theorem dL_law_925 : decode cL_law 925 = .ok (.aload_n 1, 1) := de_43 (lb_57 (j := 13) (b := 43) rfl)
theorem dL_law_926 : decode cL_law 926 = .ok (.aload_n 0, 1) := de_42 (lb_57 (j := 14) (b := 42) rfl)
theorem dL_law_927 : decode cL_law 927 = .ok (.iload 5, 2) := de_21 (lb_57 (j := 15) (b := 21) rfl) (lb_58 (j := 0) (b := 5) rfl) rfl
theorem dL_law_929 : decode cL_law 929 = .ok (.iconst 1, 1) := de_4 (lb_58 (j := 1) (b := 4) rfl)
theorem dL_law_930 : decode cL_law 930 = .ok (.iadd, 1) := de_96 (lb_58 (j := 2) (b := 96) rfl)
theorem dL_law_931 : decode cL_law 931 = .ok (.iaload, 1) := de_46 (lb_58 (j := 3) (b := 46) rfl)
theorem dL_law_932 : decode cL_law 932 = .ok (.aload_n 0, 1) := de_42 (lb_58 (j := 4) (b := 42) rfl)
theorem dL_law_933 : decode cL_law 933 = .ok (.iload 5, 2) := de_21 (lb_58 (j := 5) (b := 21) rfl) (lb_58 (j := 6) (b := 5) rfl) rfl
theorem dL_law_935 : decode cL_law 935 = .ok (.iconst 2, 1) := de_5 (lb_58 (j := 7) (b := 5) rfl)
theorem dL_law_936 : decode cL_law 936 = .ok (.iadd, 1) := de_96 (lb_58 (j := 8) (b := 96) rfl)
theorem dL_law_937 : decode cL_law 937 = .ok (.iaload, 1) := de_46 (lb_58 (j := 9) (b := 46) rfl)
theorem dL_law_938 : decode cL_law 938 = .ok (.aload_n 3, 1) := de_45 (lb_58 (j := 10) (b := 45) rfl)
theorem dL_law_939 : decode cL_law 939 = .ok (.invokestatic 271, 3) := de_184 (lb_58 (j := 11) (b := 184) rfl) (lb_58 (j := 12) (b := 1) rfl) (lb_58 (j := 13) (b := 15) rfl) rfl
theorem dL_law_942 : decode cL_law 942 = .ok (.istore 6, 2) := de_54 (lb_58 (j := 14) (b := 54) rfl) (lb_58 (j := 15) (b := 6) rfl) rfl
theorem dL_law_944 : decode cL_law 944 = .ok (.aload_n 2, 1) := de_44 (lb_59 (j := 0) (b := 44) rfl)
theorem dL_law_945 : decode cL_law 945 = .ok (.aload_n 0, 1) := de_42 (lb_59 (j := 1) (b := 42) rfl)
theorem dL_law_946 : decode cL_law 946 = .ok (.iload 5, 2) := de_21 (lb_59 (j := 2) (b := 21) rfl) (lb_59 (j := 3) (b := 5) rfl) rfl
theorem dL_law_948 : decode cL_law 948 = .ok (.iconst 1, 1) := de_4 (lb_59 (j := 4) (b := 4) rfl)
theorem dL_law_949 : decode cL_law 949 = .ok (.iadd, 1) := de_96 (lb_59 (j := 5) (b := 96) rfl)
theorem dL_law_950 : decode cL_law 950 = .ok (.iaload, 1) := de_46 (lb_59 (j := 6) (b := 46) rfl)
theorem dL_law_951 : decode cL_law 951 = .ok (.aload_n 0, 1) := de_42 (lb_59 (j := 7) (b := 42) rfl)
theorem dL_law_952 : decode cL_law 952 = .ok (.iload 5, 2) := de_21 (lb_59 (j := 8) (b := 21) rfl) (lb_59 (j := 9) (b := 5) rfl) rfl
theorem dL_law_954 : decode cL_law 954 = .ok (.iconst 2, 1) := de_5 (lb_59 (j := 10) (b := 5) rfl)
theorem dL_law_955 : decode cL_law 955 = .ok (.iadd, 1) := de_96 (lb_59 (j := 11) (b := 96) rfl)
theorem dL_law_956 : decode cL_law 956 = .ok (.iaload, 1) := de_46 (lb_59 (j := 12) (b := 46) rfl)
theorem dL_law_957 : decode cL_law 957 = .ok (.invokevirtual 273, 3) := de_182 (lb_59 (j := 13) (b := 182) rfl) (lb_59 (j := 14) (b := 1) rfl) (lb_59 (j := 15) (b := 17) rfl) rfl
theorem dL_law_960 : decode cL_law 960 = .ok (.istore 7, 2) := de_54 (lb_60 (j := 0) (b := 54) rfl) (lb_60 (j := 1) (b := 7) rfl) rfl
theorem dL_law_962 : decode cL_law 962 = .ok (.goto 1477, 3) := de_167 (lb_60 (j := 2) (b := 167) rfl) (lb_60 (j := 3) (b := 5) rfl) (lb_60 (j := 4) (b := 197) rfl) (by decide +kernel)
theorem dL_law_965 : decode cL_law 965 = .ok (.aload_n 1, 1) := de_43 (lb_60 (j := 5) (b := 43) rfl)
theorem dL_law_966 : decode cL_law 966 = .ok (.aload_n 0, 1) := de_42 (lb_60 (j := 6) (b := 42) rfl)
theorem dL_law_967 : decode cL_law 967 = .ok (.iload 5, 2) := de_21 (lb_60 (j := 7) (b := 21) rfl) (lb_60 (j := 8) (b := 5) rfl) rfl
theorem dL_law_969 : decode cL_law 969 = .ok (.iconst 1, 1) := de_4 (lb_60 (j := 9) (b := 4) rfl)
theorem dL_law_970 : decode cL_law 970 = .ok (.iadd, 1) := de_96 (lb_60 (j := 10) (b := 96) rfl)
theorem dL_law_971 : decode cL_law 971 = .ok (.iaload, 1) := de_46 (lb_60 (j := 11) (b := 46) rfl)
theorem dL_law_972 : decode cL_law 972 = .ok (.aload_n 0, 1) := de_42 (lb_60 (j := 12) (b := 42) rfl)
theorem dL_law_973 : decode cL_law 973 = .ok (.iload 5, 2) := de_21 (lb_60 (j := 13) (b := 21) rfl) (lb_60 (j := 14) (b := 5) rfl) rfl
theorem dL_law_975 : decode cL_law 975 = .ok (.iconst 2, 1) := de_5 (lb_60 (j := 15) (b := 5) rfl)
theorem dL_law_976 : decode cL_law 976 = .ok (.iadd, 1) := de_96 (lb_61 (j := 0) (b := 96) rfl)
theorem dL_law_977 : decode cL_law 977 = .ok (.iaload, 1) := de_46 (lb_61 (j := 1) (b := 46) rfl)
theorem dL_law_978 : decode cL_law 978 = .ok (.aload_n 3, 1) := de_45 (lb_61 (j := 2) (b := 45) rfl)
theorem dL_law_979 : decode cL_law 979 = .ok (.invokestatic 274, 3) := de_184 (lb_61 (j := 3) (b := 184) rfl) (lb_61 (j := 4) (b := 1) rfl) (lb_61 (j := 5) (b := 18) rfl) rfl
theorem dL_law_982 : decode cL_law 982 = .ok (.istore 6, 2) := de_54 (lb_61 (j := 6) (b := 54) rfl) (lb_61 (j := 7) (b := 6) rfl) rfl
theorem dL_law_984 : decode cL_law 984 = .ok (.aload_n 2, 1) := de_44 (lb_61 (j := 8) (b := 44) rfl)
theorem dL_law_985 : decode cL_law 985 = .ok (.aload_n 0, 1) := de_42 (lb_61 (j := 9) (b := 42) rfl)
theorem dL_law_986 : decode cL_law 986 = .ok (.iload 5, 2) := de_21 (lb_61 (j := 10) (b := 21) rfl) (lb_61 (j := 11) (b := 5) rfl) rfl
theorem dL_law_988 : decode cL_law 988 = .ok (.iconst 1, 1) := de_4 (lb_61 (j := 12) (b := 4) rfl)
theorem dL_law_989 : decode cL_law 989 = .ok (.iadd, 1) := de_96 (lb_61 (j := 13) (b := 96) rfl)
theorem dL_law_990 : decode cL_law 990 = .ok (.iaload, 1) := de_46 (lb_61 (j := 14) (b := 46) rfl)
theorem dL_law_991 : decode cL_law 991 = .ok (.aload_n 0, 1) := de_42 (lb_61 (j := 15) (b := 42) rfl)
theorem dL_law_992 : decode cL_law 992 = .ok (.iload 5, 2) := de_21 (lb_62 (j := 0) (b := 21) rfl) (lb_62 (j := 1) (b := 5) rfl) rfl
theorem dL_law_994 : decode cL_law 994 = .ok (.iconst 2, 1) := de_5 (lb_62 (j := 2) (b := 5) rfl)
theorem dL_law_995 : decode cL_law 995 = .ok (.iadd, 1) := de_96 (lb_62 (j := 3) (b := 96) rfl)
theorem dL_law_996 : decode cL_law 996 = .ok (.iaload, 1) := de_46 (lb_62 (j := 4) (b := 46) rfl)
theorem dL_law_997 : decode cL_law 997 = .ok (.invokevirtual 276, 3) := de_182 (lb_62 (j := 5) (b := 182) rfl) (lb_62 (j := 6) (b := 1) rfl) (lb_62 (j := 7) (b := 20) rfl) rfl
theorem dL_law_1000 : decode cL_law 1000 = .ok (.istore 7, 2) := de_54 (lb_62 (j := 8) (b := 54) rfl) (lb_62 (j := 9) (b := 7) rfl) rfl
theorem dL_law_1002 : decode cL_law 1002 = .ok (.goto 1437, 3) := de_167 (lb_62 (j := 10) (b := 167) rfl) (lb_62 (j := 11) (b := 5) rfl) (lb_62 (j := 12) (b := 157) rfl) (by decide +kernel)
theorem dL_law_1005 : decode cL_law 1005 = .ok (.aload_n 1, 1) := de_43 (lb_62 (j := 13) (b := 43) rfl)
theorem dL_law_1006 : decode cL_law 1006 = .ok (.aload_n 0, 1) := de_42 (lb_62 (j := 14) (b := 42) rfl)
theorem dL_law_1007 : decode cL_law 1007 = .ok (.iload 5, 2) := de_21 (lb_62 (j := 15) (b := 21) rfl) (lb_63 (j := 0) (b := 5) rfl) rfl
theorem dL_law_1009 : decode cL_law 1009 = .ok (.iconst 1, 1) := de_4 (lb_63 (j := 1) (b := 4) rfl)
theorem dL_law_1010 : decode cL_law 1010 = .ok (.iadd, 1) := de_96 (lb_63 (j := 2) (b := 96) rfl)
theorem dL_law_1011 : decode cL_law 1011 = .ok (.iaload, 1) := de_46 (lb_63 (j := 3) (b := 46) rfl)
theorem dL_law_1012 : decode cL_law 1012 = .ok (.aload_n 3, 1) := de_45 (lb_63 (j := 4) (b := 45) rfl)
theorem dL_law_1013 : decode cL_law 1013 = .ok (.invokestatic 277, 3) := de_184 (lb_63 (j := 5) (b := 184) rfl) (lb_63 (j := 6) (b := 1) rfl) (lb_63 (j := 7) (b := 21) rfl) rfl
theorem dL_law_1016 : decode cL_law 1016 = .ok (.istore 6, 2) := de_54 (lb_63 (j := 8) (b := 54) rfl) (lb_63 (j := 9) (b := 6) rfl) rfl
theorem dL_law_1018 : decode cL_law 1018 = .ok (.aload_n 2, 1) := de_44 (lb_63 (j := 10) (b := 44) rfl)
theorem dL_law_1019 : decode cL_law 1019 = .ok (.aload_n 0, 1) := de_42 (lb_63 (j := 11) (b := 42) rfl)
theorem dL_law_1020 : decode cL_law 1020 = .ok (.iload 5, 2) := de_21 (lb_63 (j := 12) (b := 21) rfl) (lb_63 (j := 13) (b := 5) rfl) rfl
theorem dL_law_1022 : decode cL_law 1022 = .ok (.iconst 1, 1) := de_4 (lb_63 (j := 14) (b := 4) rfl)
theorem dL_law_1023 : decode cL_law 1023 = .ok (.iadd, 1) := de_96 (lb_63 (j := 15) (b := 96) rfl)
theorem dL_law_1024 : decode cL_law 1024 = .ok (.iaload, 1) := de_46 (lb_64 (j := 0) (b := 46) rfl)
theorem dL_law_1025 : decode cL_law 1025 = .ok (.invokevirtual 279, 3) := de_182 (lb_64 (j := 1) (b := 182) rfl) (lb_64 (j := 2) (b := 1) rfl) (lb_64 (j := 3) (b := 23) rfl) rfl
theorem dL_law_1028 : decode cL_law 1028 = .ok (.lstore 7, 2) := de_55 (lb_64 (j := 4) (b := 55) rfl) (lb_64 (j := 5) (b := 7) rfl) rfl
theorem dL_law_1030 : decode cL_law 1030 = .ok (.goto 1409, 3) := de_167 (lb_64 (j := 6) (b := 167) rfl) (lb_64 (j := 7) (b := 5) rfl) (lb_64 (j := 8) (b := 129) rfl) (by decide +kernel)
theorem dL_law_1033 : decode cL_law 1033 = .ok (.aload_n 1, 1) := de_43 (lb_64 (j := 9) (b := 43) rfl)
theorem dL_law_1034 : decode cL_law 1034 = .ok (.aload_n 0, 1) := de_42 (lb_64 (j := 10) (b := 42) rfl)
theorem dL_law_1035 : decode cL_law 1035 = .ok (.iload 5, 2) := de_21 (lb_64 (j := 11) (b := 21) rfl) (lb_64 (j := 12) (b := 5) rfl) rfl
theorem dL_law_1037 : decode cL_law 1037 = .ok (.iconst 1, 1) := de_4 (lb_64 (j := 13) (b := 4) rfl)
theorem dL_law_1038 : decode cL_law 1038 = .ok (.iadd, 1) := de_96 (lb_64 (j := 14) (b := 96) rfl)
theorem dL_law_1039 : decode cL_law 1039 = .ok (.iaload, 1) := de_46 (lb_64 (j := 15) (b := 46) rfl)
theorem dL_law_1040 : decode cL_law 1040 = .ok (.aload_n 0, 1) := de_42 (lb_65 (j := 0) (b := 42) rfl)
theorem dL_law_1041 : decode cL_law 1041 = .ok (.iload 5, 2) := de_21 (lb_65 (j := 1) (b := 21) rfl) (lb_65 (j := 2) (b := 5) rfl) rfl
theorem dL_law_1043 : decode cL_law 1043 = .ok (.iconst 2, 1) := de_5 (lb_65 (j := 3) (b := 5) rfl)
theorem dL_law_1044 : decode cL_law 1044 = .ok (.iadd, 1) := de_96 (lb_65 (j := 4) (b := 96) rfl)
theorem dL_law_1045 : decode cL_law 1045 = .ok (.iaload, 1) := de_46 (lb_65 (j := 5) (b := 46) rfl)
theorem dL_law_1046 : decode cL_law 1046 = .ok (.aload_n 3, 1) := de_45 (lb_65 (j := 6) (b := 45) rfl)
theorem dL_law_1047 : decode cL_law 1047 = .ok (.invokestatic 280, 3) := de_184 (lb_65 (j := 7) (b := 184) rfl) (lb_65 (j := 8) (b := 1) rfl) (lb_65 (j := 9) (b := 24) rfl) rfl
theorem dL_law_1050 : decode cL_law 1050 = .ok (.istore 6, 2) := de_54 (lb_65 (j := 10) (b := 54) rfl) (lb_65 (j := 11) (b := 6) rfl) rfl
theorem dL_law_1052 : decode cL_law 1052 = .ok (.aload_n 2, 1) := de_44 (lb_65 (j := 12) (b := 44) rfl)
theorem dL_law_1053 : decode cL_law 1053 = .ok (.aload_n 0, 1) := de_42 (lb_65 (j := 13) (b := 42) rfl)
theorem dL_law_1054 : decode cL_law 1054 = .ok (.iload 5, 2) := de_21 (lb_65 (j := 14) (b := 21) rfl) (lb_65 (j := 15) (b := 5) rfl) rfl
theorem dL_law_1056 : decode cL_law 1056 = .ok (.iconst 1, 1) := de_4 (lb_66 (j := 0) (b := 4) rfl)
theorem dL_law_1057 : decode cL_law 1057 = .ok (.iadd, 1) := de_96 (lb_66 (j := 1) (b := 96) rfl)
theorem dL_law_1058 : decode cL_law 1058 = .ok (.iaload, 1) := de_46 (lb_66 (j := 2) (b := 46) rfl)
theorem dL_law_1059 : decode cL_law 1059 = .ok (.aload_n 0, 1) := de_42 (lb_66 (j := 3) (b := 42) rfl)
theorem dL_law_1060 : decode cL_law 1060 = .ok (.iload 5, 2) := de_21 (lb_66 (j := 4) (b := 21) rfl) (lb_66 (j := 5) (b := 5) rfl) rfl
theorem dL_law_1062 : decode cL_law 1062 = .ok (.iconst 2, 1) := de_5 (lb_66 (j := 6) (b := 5) rfl)
theorem dL_law_1063 : decode cL_law 1063 = .ok (.iadd, 1) := de_96 (lb_66 (j := 7) (b := 96) rfl)
theorem dL_law_1064 : decode cL_law 1064 = .ok (.iaload, 1) := de_46 (lb_66 (j := 8) (b := 46) rfl)
theorem dL_law_1065 : decode cL_law 1065 = .ok (.invokevirtual 282, 3) := de_182 (lb_66 (j := 9) (b := 182) rfl) (lb_66 (j := 10) (b := 1) rfl) (lb_66 (j := 11) (b := 26) rfl) rfl
theorem dL_law_1068 : decode cL_law 1068 = .ok (.lstore 7, 2) := de_55 (lb_66 (j := 12) (b := 55) rfl) (lb_66 (j := 13) (b := 7) rfl) rfl
theorem dL_law_1070 : decode cL_law 1070 = .ok (.goto 1369, 3) := de_167 (lb_66 (j := 14) (b := 167) rfl) (lb_66 (j := 15) (b := 5) rfl) (lb_67 (j := 0) (b := 89) rfl) (by decide +kernel)
set_option maxHeartbeats 4000000 in
set_option maxRecDepth 100000 in
theorem y_a16 {p : Program} {e : Env} {s : State} {m : MethodId} {below : List Frame} {meth : Method} {c : Code} (l : Launch) (hst : l.stackTraces = false) {b L : Nat} {xs : Nat → Int32} (hx : p.tables.exec = Jvm.exec) (hb : c.code = code) (hml : c.maxLocals = 9) (hown : s.vm.findClass RL = some m.cls) (hts : ∀ w ∈ lw_tbl, w.before #[Value.ref b] s = true) (hX0 : va_X b L xs s s.heap) (hbl : b < s.heap.size) (hX : xT (fun q => s.heap.size ≤ q) s) (hN : nC s) (hTS : sAll s.heap.size s) {D : va_G} {cI cJ cZ cMic cSrc cSt cAI cAJ cD : ClassId} (hK : va_K D vwCl (CT cI cJ cZ cMic cSrc cSt cAI cAJ ++ [(cD, .double)]) s) {Q : State → Prop} {i j : Nat} (hi : i + 6 ≤ L) (hL : L ≤ 3072) (hj : j < 512) {aj ae : Nat} {ad am : Nat → Nat} {T : AT} {Sm : MS} {f : Nat → Int64} {g : Nat → UInt64} {ls : Array Slot} {H : Heap} {locs : List Loc} (hV : IV aR0 1586 aK1 aK2 T) (hrc : RC T) (hJ : JJ Sm) (G : gL cI cJ cZ cMic cSrc cSt cAI cAJ D ad (fun q => s.heap.size ≤ q) s.heap H locs T (oJ aj cJ f :: oD ae cD g :: MW cI cJ cZ am Sm)) (hl : lv_has ls 9 [(5, .int (nI i)), (4, .ref ae), (3, .ref aj), (2, .ref (am 0)), (1, .ref (ad 0)), (0, .ref b)]) (kk : ∀ {k1 : Nat} {r1 : Int32} {T1 : AT} {r2 : Int32} {S1 : MS} (ad2 : Nat → Nat) (f1 : Nat → Int64) (g1 : Nat → UInt64) (H1 : Heap) (locs1 : List Loc) (ls1 : Array Slot), g_X11_delay T 0 (xs (i + 1)) (xs (i + 2)) = some (k1, r1, T1) → fr_delay Sm (xs (i + 1)) (xs (i + 2)) = some (r2, S1) → ad2 0 = ad 0 → IV aR0 1586 aK1 aK2 T1 → RC T1 → JJ S1 → gL cI cJ cZ cMic cSrc cSt cAI cAJ D ad2 (fun q => s.heap.size ≤ q) s.heap H1 locs1 T1 (oJ aj cJ f1 :: oD ae cD g1 :: MW cI cJ cZ am S1) → lv_has ls1 9 [(5, .int (nI i)), (4, .ref ae), (3, .ref aj), (2, .ref (am 0)), (1, .ref (ad2 0)), (0, .ref b)] → W p l e room_1 s m #[Value.ref b] below meth c H1 locs1 (19 + T1.1 + (j + 1)) (38467 + sg T1 + 6 * (j + 1)) Q (F0 m 2439 ls1 [])) : W p l e room_1 s m #[Value.ref b] below meth c H locs (19 + T.1 + j) (38467 + sg T + 6 * j) Q (F0 m 777 ls []) := by
  have E : cE p c cL_law s m #[Value.ref b] lw_tbl D RL (CT cI cJ cZ cMic cSrc cSt cAI cAJ ++ [(cD, .double)]) := ⟨hx, hb, hts, hown, hK⟩
  have hA : ∀ q : Nat, s.heap.size ≤ q → s.heap.size ≤ q := fun _ h => h
  have h0T : 0 < T.1 := Nat.lt_of_lt_of_le (by decide) hV.1.2.2
  have h0s : T.2.1 0 = (11, 0) := hV.2.1 0 ⟨by decide, by decide +kernel, by decide +kernel⟩
  refine lv_aload_n hx hb dL_law_777 rfl (lv_at hl 4 rfl) ?_
  refine lv_aload_n hx hb dL_law_778 rfl (lv_at hl 5 rfl) ?_
  refine lv_iload hx hb dL_law_779 (lv_at hl 0 rfl) ?_
  refine lv_iconst (v := 1) hx hb dL_law_781 (by decide) ?_
  refine lv_iadd hx hb dL_law_782 ?_
  refine lv_to (y := nI (i + 1)) (nI_add i 1) ?_
  refine va_sld hx hb hX0 hbl (Nat.not_le.mpr hbl) G.2.2 (i := nI (i + 1)) (vp_in_nI (n := i + 1) (N := L) (by omega) (by omega)) dL_law_783 ?_
  refine lv_to (y := xs (i + 1)) (congrArg xs (nI_clamp (by omega))) ?_
  refine lv_aload_n hx hb dL_law_784 rfl (lv_at hl 5 rfl) ?_
  refine lv_iload hx hb dL_law_785 (lv_at hl 0 rfl) ?_
  refine lv_iconst (v := 2) hx hb dL_law_787 (by decide) ?_
  refine lv_iadd hx hb dL_law_788 ?_
  refine lv_to (y := nI (i + 2)) (nI_add i 2) ?_
  refine va_sld hx hb hX0 hbl (Nat.not_le.mpr hbl) G.2.2 (i := nI (i + 2)) (vp_in_nI (n := i + 2) (N := L) (by omega) (by omega)) dL_law_789 ?_
  refine lv_to (y := xs (i + 2)) (congrArg xs (nI_clamp (by omega))) ?_
  refine lv_aload_n hx hb dL_law_790 rfl (lv_at hl 2 rfl) ?_
  obtain ⟨⟨k1, r1, T1⟩, hg, hc⟩ := cs_X11_delay T 0 (xs (i + 1)) (xs (i + 2)) hV (by decide +kernel)
  have hV1 : IV aR0 1586 aK1 aK2 T1 := by rw [show T1 = T from hc.1]; exact hV
  have hg1 := (gl_sp (s_X11_delay hg))
  have hg2 := sg_le hg1
  have hg3 := hg1.1
  have hk := hV1.2.2.2.2.2.2
  have hrc1 := hg1.2.2 hrc
  have hr0 := a_room
  refine l_v (h0 := s.heap.size) (As := [.ref (ad 0), .int (xs (i + 1)), .int (xs (i + 2)), .ref aj]) (rest := []) E G hA hX hN (fun _ h => h) hTS hml (v_delay l hst D s.heap.size ad T 0 (xs (i + 1)) (xs (i + 2)) aj f hg hrc h0T h0s) (vx_cwSW 4 hts (glA (L := [Cond.methodLink RL 259 yL_delay, Cond.static yL_delay, Cond.initialized RL]) (gl_in [(5, 106), (5, 107), (1, 0)] (by decide +kernel) (by decide +kernel)) ⟨(t_of [Cond.codeWith yL_delay cL_delay 5 (some .int) [(0, 10, 13, 21), (0, 10, 17, 13)]] [(5, 108)] (by decide +kernel) _ List.mem_cons_self), List.all_eq_true.mp (by decide +kernel : [Cond.codeWith yL_delay cL_delay 5 (some .int) [(0, 10, 13, 21), (0, 10, 17, 13)]].all goodWord = true) _ List.mem_cons_self⟩) rfl rfl rfl (by decide +kernel) ⟨Nat.le_of_ble_eq_true rfl, Nat.le_of_ble_eq_true rfl⟩) rfl hl.1 rfl (lv_room (Nat.le_of_ble_eq_true rfl)) dL_law_791 ⟨by show _ ≤ 601024; omega, by show _ ≤ 7293034; omega⟩ ?_
  intro ad2 H locs had G
  rw [← had 0 h0T] at hl
  refine lv_istore (lv' := [(6, .int (vck 1 2 0 k1)), (5, .int (nI i)), (4, .ref ae), (3, .ref aj), (2, .ref (am 0)), (1, .ref (ad2 0)), (0, .ref b)]) hx hb dL_law_794 hl (by decide) rfl (fun ls hl => ?_)
  refine lv_aload_n hx hb dL_law_796 rfl (lv_at hl 4 rfl) ?_
  refine lv_aload_n hx hb dL_law_797 rfl (lv_at hl 6 rfl) ?_
  refine lv_iload hx hb dL_law_798 (lv_at hl 1 rfl) ?_
  refine lv_iconst (v := 1) hx hb dL_law_800 (by decide) ?_
  refine lv_iadd hx hb dL_law_801 ?_
  refine lv_to (y := nI (i + 1)) (nI_add i 1) ?_
  refine va_sld hx hb hX0 hbl (Nat.not_le.mpr hbl) G.2.2 (i := nI (i + 1)) (vp_in_nI (n := i + 1) (N := L) (by omega) (by omega)) dL_law_802 ?_
  refine lv_to (y := xs (i + 1)) (congrArg xs (nI_clamp (by omega))) ?_
  refine lv_aload_n hx hb dL_law_803 rfl (lv_at hl 6 rfl) ?_
  refine lv_iload hx hb dL_law_804 (lv_at hl 1 rfl) ?_
  refine lv_iconst (v := 2) hx hb dL_law_806 (by decide) ?_
  refine lv_iadd hx hb dL_law_807 ?_
  refine lv_to (y := nI (i + 2)) (nI_add i 2) ?_
  refine va_sld hx hb hX0 hbl (Nat.not_le.mpr hbl) G.2.2 (i := nI (i + 2)) (vp_in_nI (n := i + 2) (N := L) (by omega) (by omega)) dL_law_808 ?_
  refine lv_to (y := xs (i + 2)) (congrArg xs (nI_clamp (by omega))) ?_
  obtain ⟨⟨r2, S1⟩, hf, hj⟩ := sj_delay Sm (xs (i + 1)) (xs (i + 2)) hJ
  have hJ1 : JJ S1 := hj
  refine y_mi (As := [.int (xs (i + 1)), .int (xs (i + 2))]) (rest := []) E G hA hX.2.2.2.2 hml (tr_delay l D cI cJ cZ am Sm (xs (i + 1)) (xs (i + 2)) hf) (cwV 2 hts (glM (L := [Cond.methodLink RL 261 yX12_delay, Cond.instanceMethod yX12_delay, Cond.selects RX12 yX12_delay yX12_delay, Cond.initialized RX12]) (gl_in [(9, 112), (9, 113), (9, 114), (1, 14)] (by decide +kernel) (by decide +kernel)) ⟨(t_of [Cond.code yX12_delay cX12_delay 3 (some .int)] [(9, 115)] (by decide +kernel) _ List.mem_cons_self), List.all_eq_true.mp (by decide +kernel : [Cond.code yX12_delay cX12_delay 3 (some .int)].all goodWord = true) _ List.mem_cons_self⟩) rfl rfl rfl (by decide +kernel) ⟨Nat.le_of_ble_eq_true rfl, Nat.le_of_ble_eq_true rfl⟩) rfl hl.1 rfl (lv_room (Nat.le_of_ble_eq_true rfl)) dL_law_809 ⟨by show _ ≤ 601024; omega, by show _ ≤ 7293034; omega⟩ (fun H locs G => ?_)
  refine lv_istore (lv' := [(7, .int r2), (6, .int (vck 1 2 0 k1)), (5, .int (nI i)), (4, .ref ae), (3, .ref aj), (2, .ref (am 0)), (1, .ref (ad2 0)), (0, .ref b)]) hx hb dL_law_812 hl (by decide) rfl (fun ls hl => ?_)
  refine lv_goto (tgt := 2439) hx hb dL_law_814 (by decide) ?_
  have hl := lv_sub hl [2, 3, 4, 5, 6, 7] rfl
  refine W.widen (k := 19 + T1.1 + (j + 1)) (n := 38467 + sg T1 + 6 * (j + 1)) (by omega) (by omega) ?_
  exact kk ad2 (vfJ k1 f r1.toInt64) g H locs ls hg hf (had 0 h0T) hV1 hrc1 hJ1 G hl
set_option maxHeartbeats 4000000 in
set_option maxRecDepth 100000 in
theorem y_a17 {p : Program} {e : Env} {s : State} {m : MethodId} {below : List Frame} {meth : Method} {c : Code} (l : Launch) (hst : l.stackTraces = false) {b L : Nat} {xs : Nat → Int32} (hx : p.tables.exec = Jvm.exec) (hb : c.code = code) (hml : c.maxLocals = 9) (hown : s.vm.findClass RL = some m.cls) (hts : ∀ w ∈ lw_tbl, w.before #[Value.ref b] s = true) (hX0 : va_X b L xs s s.heap) (hbl : b < s.heap.size) (hX : xT (fun q => s.heap.size ≤ q) s) (hN : nC s) (hTS : sAll s.heap.size s) {D : va_G} {cI cJ cZ cMic cSrc cSt cAI cAJ cD : ClassId} (hK : va_K D vwCl (CT cI cJ cZ cMic cSrc cSt cAI cAJ ++ [(cD, .double)]) s) {Q : State → Prop} {i j : Nat} (hi : i + 6 ≤ L) (hL : L ≤ 3072) (hj : j < 512) {aj ae : Nat} {ad am : Nat → Nat} {T : AT} {Sm : MS} {f : Nat → Int64} {g : Nat → UInt64} {ls : Array Slot} {H : Heap} {locs : List Loc} (hV : IV aR0 1586 aK1 aK2 T) (hrc : RC T) (hJ : JJ Sm) (G : gL cI cJ cZ cMic cSrc cSt cAI cAJ D ad (fun q => s.heap.size ≤ q) s.heap H locs T (oJ aj cJ f :: oD ae cD g :: MW cI cJ cZ am Sm)) (hl : lv_has ls 9 [(5, .int (nI i)), (4, .ref ae), (3, .ref aj), (2, .ref (am 0)), (1, .ref (ad 0)), (0, .ref b)]) (kk : ∀ {k1 : Nat} {r1 : Int32} {T1 : AT} {r2 : Int32} {S1 : MS} (ad2 : Nat → Nat) (f1 : Nat → Int64) (g1 : Nat → UInt64) (H1 : Heap) (locs1 : List Loc) (ls1 : Array Slot), g_X11_delayTo T 0 (xs (i + 1)) (xs (i + 2)) (xs (i + 3)) = some (k1, r1, T1) → fr_delayTo Sm (xs (i + 1)) (xs (i + 2)) (xs (i + 3)) = some (r2, S1) → ad2 0 = ad 0 → IV aR0 1586 aK1 aK2 T1 → RC T1 → JJ S1 → gL cI cJ cZ cMic cSrc cSt cAI cAJ D ad2 (fun q => s.heap.size ≤ q) s.heap H1 locs1 T1 (oJ aj cJ f1 :: oD ae cD g1 :: MW cI cJ cZ am S1) → lv_has ls1 9 [(5, .int (nI i)), (4, .ref ae), (3, .ref aj), (2, .ref (am 0)), (1, .ref (ad2 0)), (0, .ref b)] → W p l e room_1 s m #[Value.ref b] below meth c H1 locs1 (19 + T1.1 + (j + 1)) (38467 + sg T1 + 6 * (j + 1)) Q (F0 m 2439 ls1 [])) : W p l e room_1 s m #[Value.ref b] below meth c H locs (19 + T.1 + j) (38467 + sg T + 6 * j) Q (F0 m 817 ls []) := by
  have E : cE p c cL_law s m #[Value.ref b] lw_tbl D RL (CT cI cJ cZ cMic cSrc cSt cAI cAJ ++ [(cD, .double)]) := ⟨hx, hb, hts, hown, hK⟩
  have hA : ∀ q : Nat, s.heap.size ≤ q → s.heap.size ≤ q := fun _ h => h
  have h0T : 0 < T.1 := Nat.lt_of_lt_of_le (by decide) hV.1.2.2
  have h0s : T.2.1 0 = (11, 0) := hV.2.1 0 ⟨by decide, by decide +kernel, by decide +kernel⟩
  refine lv_aload_n hx hb dL_law_817 rfl (lv_at hl 4 rfl) ?_
  refine lv_aload_n hx hb dL_law_818 rfl (lv_at hl 5 rfl) ?_
  refine lv_iload hx hb dL_law_819 (lv_at hl 0 rfl) ?_
  refine lv_iconst (v := 1) hx hb dL_law_821 (by decide) ?_
  refine lv_iadd hx hb dL_law_822 ?_
  refine lv_to (y := nI (i + 1)) (nI_add i 1) ?_
  refine va_sld hx hb hX0 hbl (Nat.not_le.mpr hbl) G.2.2 (i := nI (i + 1)) (vp_in_nI (n := i + 1) (N := L) (by omega) (by omega)) dL_law_823 ?_
  refine lv_to (y := xs (i + 1)) (congrArg xs (nI_clamp (by omega))) ?_
  refine lv_aload_n hx hb dL_law_824 rfl (lv_at hl 5 rfl) ?_
  refine lv_iload hx hb dL_law_825 (lv_at hl 0 rfl) ?_
  refine lv_iconst (v := 2) hx hb dL_law_827 (by decide) ?_
  refine lv_iadd hx hb dL_law_828 ?_
  refine lv_to (y := nI (i + 2)) (nI_add i 2) ?_
  refine va_sld hx hb hX0 hbl (Nat.not_le.mpr hbl) G.2.2 (i := nI (i + 2)) (vp_in_nI (n := i + 2) (N := L) (by omega) (by omega)) dL_law_829 ?_
  refine lv_to (y := xs (i + 2)) (congrArg xs (nI_clamp (by omega))) ?_
  refine lv_aload_n hx hb dL_law_830 rfl (lv_at hl 5 rfl) ?_
  refine lv_iload hx hb dL_law_831 (lv_at hl 0 rfl) ?_
  refine lv_iconst (v := 3) hx hb dL_law_833 (by decide) ?_
  refine lv_iadd hx hb dL_law_834 ?_
  refine lv_to (y := nI (i + 3)) (nI_add i 3) ?_
  refine va_sld hx hb hX0 hbl (Nat.not_le.mpr hbl) G.2.2 (i := nI (i + 3)) (vp_in_nI (n := i + 3) (N := L) (by omega) (by omega)) dL_law_835 ?_
  refine lv_to (y := xs (i + 3)) (congrArg xs (nI_clamp (by omega))) ?_
  refine lv_aload_n hx hb dL_law_836 rfl (lv_at hl 2 rfl) ?_
  obtain ⟨⟨k1, r1, T1⟩, hg, hc⟩ := cs_X11_delayTo T 0 (xs (i + 1)) (xs (i + 2)) (xs (i + 3)) hV (by decide +kernel)
  have hV1 : IV aR0 1586 aK1 aK2 T1 := by rw [show T1 = T from hc.1]; exact hV
  have hg1 := (gl_sp (s_X11_delayTo hg))
  have hg2 := sg_le hg1
  have hg3 := hg1.1
  have hk := hV1.2.2.2.2.2.2
  have hrc1 := hg1.2.2 hrc
  have hr0 := a_room
  refine l_v (h0 := s.heap.size) (As := [.ref (ad 0), .int (xs (i + 1)), .int (xs (i + 2)), .int (xs (i + 3)), .ref aj]) (rest := []) E G hA hX hN (fun _ h => h) hTS hml (v_delayTo l hst D s.heap.size ad T 0 (xs (i + 1)) (xs (i + 2)) (xs (i + 3)) aj f hg hrc h0T h0s) (vx_cwSW 5 hts (glA (L := [Cond.methodLink RL 262 yL_delayTo, Cond.static yL_delayTo, Cond.initialized RL]) (gl_in [(5, 113), (5, 114), (1, 0)] (by decide +kernel) (by decide +kernel)) ⟨(t_of [Cond.codeWith yL_delayTo cL_delayTo 6 (some .int) [(0, 12, 15, 21), (0, 12, 19, 13), (0, 12, 23, 15)]] [(5, 115)] (by decide +kernel) _ List.mem_cons_self), List.all_eq_true.mp (by decide +kernel : [Cond.codeWith yL_delayTo cL_delayTo 6 (some .int) [(0, 12, 15, 21), (0, 12, 19, 13), (0, 12, 23, 15)]].all goodWord = true) _ List.mem_cons_self⟩) rfl rfl rfl (by decide +kernel) ⟨Nat.le_of_ble_eq_true rfl, Nat.le_of_ble_eq_true rfl⟩) rfl hl.1 rfl (lv_room (Nat.le_of_ble_eq_true rfl)) dL_law_837 ⟨by show _ ≤ 601024; omega, by show _ ≤ 7293034; omega⟩ ?_
  intro ad2 H locs had G
  rw [← had 0 h0T] at hl
  refine lv_istore (lv' := [(6, .int (vck 1 2 3 k1)), (5, .int (nI i)), (4, .ref ae), (3, .ref aj), (2, .ref (am 0)), (1, .ref (ad2 0)), (0, .ref b)]) hx hb dL_law_840 hl (by decide) rfl (fun ls hl => ?_)
  refine lv_aload_n hx hb dL_law_842 rfl (lv_at hl 4 rfl) ?_
  refine lv_aload_n hx hb dL_law_843 rfl (lv_at hl 6 rfl) ?_
  refine lv_iload hx hb dL_law_844 (lv_at hl 1 rfl) ?_
  refine lv_iconst (v := 1) hx hb dL_law_846 (by decide) ?_
  refine lv_iadd hx hb dL_law_847 ?_
  refine lv_to (y := nI (i + 1)) (nI_add i 1) ?_
  refine va_sld hx hb hX0 hbl (Nat.not_le.mpr hbl) G.2.2 (i := nI (i + 1)) (vp_in_nI (n := i + 1) (N := L) (by omega) (by omega)) dL_law_848 ?_
  refine lv_to (y := xs (i + 1)) (congrArg xs (nI_clamp (by omega))) ?_
  refine lv_aload_n hx hb dL_law_849 rfl (lv_at hl 6 rfl) ?_
  refine lv_iload hx hb dL_law_850 (lv_at hl 1 rfl) ?_
  refine lv_iconst (v := 2) hx hb dL_law_852 (by decide) ?_
  refine lv_iadd hx hb dL_law_853 ?_
  refine lv_to (y := nI (i + 2)) (nI_add i 2) ?_
  refine va_sld hx hb hX0 hbl (Nat.not_le.mpr hbl) G.2.2 (i := nI (i + 2)) (vp_in_nI (n := i + 2) (N := L) (by omega) (by omega)) dL_law_854 ?_
  refine lv_to (y := xs (i + 2)) (congrArg xs (nI_clamp (by omega))) ?_
  refine lv_aload_n hx hb dL_law_855 rfl (lv_at hl 6 rfl) ?_
  refine lv_iload hx hb dL_law_856 (lv_at hl 1 rfl) ?_
  refine lv_iconst (v := 3) hx hb dL_law_858 (by decide) ?_
  refine lv_iadd hx hb dL_law_859 ?_
  refine lv_to (y := nI (i + 3)) (nI_add i 3) ?_
  refine va_sld hx hb hX0 hbl (Nat.not_le.mpr hbl) G.2.2 (i := nI (i + 3)) (vp_in_nI (n := i + 3) (N := L) (by omega) (by omega)) dL_law_860 ?_
  refine lv_to (y := xs (i + 3)) (congrArg xs (nI_clamp (by omega))) ?_
  obtain ⟨⟨r2, S1⟩, hf, hj⟩ := sj_delayTo Sm (xs (i + 1)) (xs (i + 2)) (xs (i + 3)) hJ
  have hJ1 : JJ S1 := hj
  refine y_mi (As := [.int (xs (i + 1)), .int (xs (i + 2)), .int (xs (i + 3))]) (rest := []) E G hA hX.2.2.2.2 hml (tr_delayTo l D cI cJ cZ am Sm (xs (i + 1)) (xs (i + 2)) (xs (i + 3)) hf) (cwV 3 hts (glM (L := [Cond.methodLink RL 264 yX12_delayTo, Cond.instanceMethod yX12_delayTo, Cond.selects RX12 yX12_delayTo yX12_delayTo, Cond.initialized RX12]) (gl_in [(9, 116), (9, 117), (9, 118), (1, 14)] (by decide +kernel) (by decide +kernel)) ⟨(t_of [Cond.code yX12_delayTo cX12_delayTo 4 (some .int)] [(9, 119)] (by decide +kernel) _ List.mem_cons_self), List.all_eq_true.mp (by decide +kernel : [Cond.code yX12_delayTo cX12_delayTo 4 (some .int)].all goodWord = true) _ List.mem_cons_self⟩) rfl rfl rfl (by decide +kernel) ⟨Nat.le_of_ble_eq_true rfl, Nat.le_of_ble_eq_true rfl⟩) rfl hl.1 rfl (lv_room (Nat.le_of_ble_eq_true rfl)) dL_law_861 ⟨by show _ ≤ 601024; omega, by show _ ≤ 7293034; omega⟩ (fun H locs G => ?_)
  refine lv_istore (lv' := [(7, .int r2), (6, .int (vck 1 2 3 k1)), (5, .int (nI i)), (4, .ref ae), (3, .ref aj), (2, .ref (am 0)), (1, .ref (ad2 0)), (0, .ref b)]) hx hb dL_law_864 hl (by decide) rfl (fun ls hl => ?_)
  refine lv_goto (tgt := 2439) hx hb dL_law_866 (by decide) ?_
  have hl := lv_sub hl [2, 3, 4, 5, 6, 7] rfl
  refine W.widen (k := 19 + T1.1 + (j + 1)) (n := 38467 + sg T1 + 6 * (j + 1)) (by omega) (by omega) ?_
  exact kk ad2 (vfJ k1 f r1.toInt64) g H locs ls hg hf (had 0 h0T) hV1 hrc1 hJ1 G hl
set_option maxHeartbeats 4000000 in
set_option maxRecDepth 100000 in
theorem y_a18 {p : Program} {e : Env} {s : State} {m : MethodId} {below : List Frame} {meth : Method} {c : Code} (l : Launch) (hst : l.stackTraces = false) {b L : Nat} {xs : Nat → Int32} (hx : p.tables.exec = Jvm.exec) (hb : c.code = code) (hml : c.maxLocals = 9) (hown : s.vm.findClass RL = some m.cls) (hts : ∀ w ∈ lw_tbl, w.before #[Value.ref b] s = true) (hX0 : va_X b L xs s s.heap) (hbl : b < s.heap.size) (hX : xT (fun q => s.heap.size ≤ q) s) (hN : nC s) (hTS : sAll s.heap.size s) {D : va_G} {cI cJ cZ cMic cSrc cSt cAI cAJ cD : ClassId} (hK : va_K D vwCl (CT cI cJ cZ cMic cSrc cSt cAI cAJ ++ [(cD, .double)]) s) {Q : State → Prop} {i j : Nat} (hi : i + 6 ≤ L) (hL : L ≤ 3072) (hj : j < 512) {aj ae : Nat} {ad am : Nat → Nat} {T : AT} {Sm : MS} {f : Nat → Int64} {g : Nat → UInt64} {ls : Array Slot} {H : Heap} {locs : List Loc} (hV : IV aR0 1586 aK1 aK2 T) (hrc : RC T) (hJ : JJ Sm) (G : gL cI cJ cZ cMic cSrc cSt cAI cAJ D ad (fun q => s.heap.size ≤ q) s.heap H locs T (oJ aj cJ f :: oD ae cD g :: MW cI cJ cZ am Sm)) (hl : lv_has ls 9 [(5, .int (nI i)), (4, .ref ae), (3, .ref aj), (2, .ref (am 0)), (1, .ref (ad 0)), (0, .ref b)]) (kk : ∀ {k1 : Nat} {r1 : Int32} {T1 : AT} {r2 : Int32} {S1 : MS} (ad2 : Nat → Nat) (f1 : Nat → Int64) (g1 : Nat → UInt64) (H1 : Heap) (locs1 : List Loc) (ls1 : Array Slot), g_X11_spread T 0 (xs (i + 1)) = some (k1, r1, T1) → fr_spread Sm (xs (i + 1)) = some (r2, S1) → ad2 0 = ad 0 → IV aR0 1586 aK1 aK2 T1 → RC T1 → JJ S1 → gL cI cJ cZ cMic cSrc cSt cAI cAJ D ad2 (fun q => s.heap.size ≤ q) s.heap H1 locs1 T1 (oJ aj cJ f1 :: oD ae cD g1 :: MW cI cJ cZ am S1) → lv_has ls1 9 [(5, .int (nI i)), (4, .ref ae), (3, .ref aj), (2, .ref (am 0)), (1, .ref (ad2 0)), (0, .ref b)] → W p l e room_1 s m #[Value.ref b] below meth c H1 locs1 (19 + T1.1 + (j + 1)) (38467 + sg T1 + 6 * (j + 1)) Q (F0 m 2439 ls1 [])) : W p l e room_1 s m #[Value.ref b] below meth c H locs (19 + T.1 + j) (38467 + sg T + 6 * j) Q (F0 m 869 ls []) := by
  have E : cE p c cL_law s m #[Value.ref b] lw_tbl D RL (CT cI cJ cZ cMic cSrc cSt cAI cAJ ++ [(cD, .double)]) := ⟨hx, hb, hts, hown, hK⟩
  have hA : ∀ q : Nat, s.heap.size ≤ q → s.heap.size ≤ q := fun _ h => h
  have h0T : 0 < T.1 := Nat.lt_of_lt_of_le (by decide) hV.1.2.2
  have h0s : T.2.1 0 = (11, 0) := hV.2.1 0 ⟨by decide, by decide +kernel, by decide +kernel⟩
  refine lv_aload_n hx hb dL_law_869 rfl (lv_at hl 4 rfl) ?_
  refine lv_aload_n hx hb dL_law_870 rfl (lv_at hl 5 rfl) ?_
  refine lv_iload hx hb dL_law_871 (lv_at hl 0 rfl) ?_
  refine lv_iconst (v := 1) hx hb dL_law_873 (by decide) ?_
  refine lv_iadd hx hb dL_law_874 ?_
  refine lv_to (y := nI (i + 1)) (nI_add i 1) ?_
  refine va_sld hx hb hX0 hbl (Nat.not_le.mpr hbl) G.2.2 (i := nI (i + 1)) (vp_in_nI (n := i + 1) (N := L) (by omega) (by omega)) dL_law_875 ?_
  refine lv_to (y := xs (i + 1)) (congrArg xs (nI_clamp (by omega))) ?_
  refine lv_aload_n hx hb dL_law_876 rfl (lv_at hl 2 rfl) ?_
  obtain ⟨⟨k1, r1, T1⟩, hg, hc⟩ := cs_X11_spread T 0 (xs (i + 1)) hV (by decide +kernel)
  have hV1 : IV aR0 1586 aK1 aK2 T1 := by rw [show T1 = T from hc.1]; exact hV
  have hg1 := (gl_sp (s_X11_spread hg))
  have hg2 := sg_le hg1
  have hg3 := hg1.1
  have hk := hV1.2.2.2.2.2.2
  have hrc1 := hg1.2.2 hrc
  have hr0 := a_room
  refine l_v (h0 := s.heap.size) (As := [.ref (ad 0), .int (xs (i + 1)), .ref aj]) (rest := []) E G hA hX hN (fun _ h => h) hTS hml (v_spread l hst D s.heap.size ad T 0 (xs (i + 1)) aj f hg hrc h0T h0s) (vx_cwSW 3 hts (glA (L := [Cond.methodLink RL 265 yL_spread, Cond.static yL_spread, Cond.initialized RL]) (gl_in [(5, 121), (5, 122), (1, 0)] (by decide +kernel) (by decide +kernel)) ⟨(t_of [Cond.codeWith yL_spread cL_spread 4 (some .int) [(0, 9, 12, 21), (0, 9, 15, 13)]] [(5, 123)] (by decide +kernel) _ List.mem_cons_self), List.all_eq_true.mp (by decide +kernel : [Cond.codeWith yL_spread cL_spread 4 (some .int) [(0, 9, 12, 21), (0, 9, 15, 13)]].all goodWord = true) _ List.mem_cons_self⟩) rfl rfl rfl (by decide +kernel) ⟨Nat.le_of_ble_eq_true rfl, Nat.le_of_ble_eq_true rfl⟩) rfl hl.1 rfl (lv_room (Nat.le_of_ble_eq_true rfl)) dL_law_877 ⟨by show _ ≤ 601024; omega, by show _ ≤ 7293034; omega⟩ ?_
  intro ad2 H locs had G
  rw [← had 0 h0T] at hl
  refine lv_istore (lv' := [(6, .int (vck 1 2 0 k1)), (5, .int (nI i)), (4, .ref ae), (3, .ref aj), (2, .ref (am 0)), (1, .ref (ad2 0)), (0, .ref b)]) hx hb dL_law_880 hl (by decide) rfl (fun ls hl => ?_)
  refine lv_aload_n hx hb dL_law_882 rfl (lv_at hl 4 rfl) ?_
  refine lv_aload_n hx hb dL_law_883 rfl (lv_at hl 6 rfl) ?_
  refine lv_iload hx hb dL_law_884 (lv_at hl 1 rfl) ?_
  refine lv_iconst (v := 1) hx hb dL_law_886 (by decide) ?_
  refine lv_iadd hx hb dL_law_887 ?_
  refine lv_to (y := nI (i + 1)) (nI_add i 1) ?_
  refine va_sld hx hb hX0 hbl (Nat.not_le.mpr hbl) G.2.2 (i := nI (i + 1)) (vp_in_nI (n := i + 1) (N := L) (by omega) (by omega)) dL_law_888 ?_
  refine lv_to (y := xs (i + 1)) (congrArg xs (nI_clamp (by omega))) ?_
  obtain ⟨⟨r2, S1⟩, hf, hj⟩ := sj_spread Sm (xs (i + 1)) hJ
  have hJ1 : JJ S1 := hj
  refine y_mi (As := [.int (xs (i + 1))]) (rest := []) E G hA hX.2.2.2.2 hml (tr_spread l D cI cJ cZ am Sm (xs (i + 1)) hf) (cwV 1 hts (glM (L := [Cond.methodLink RL 267 yX12_spread, Cond.instanceMethod yX12_spread, Cond.selects RX12 yX12_spread yX12_spread, Cond.initialized RX12]) (gl_in [(9, 123), (9, 124), (9, 125), (1, 14)] (by decide +kernel) (by decide +kernel)) ⟨(t_of [Cond.code yX12_spread cX12_spread 5 (some .int)] [(9, 126)] (by decide +kernel) _ List.mem_cons_self), List.all_eq_true.mp (by decide +kernel : [Cond.code yX12_spread cX12_spread 5 (some .int)].all goodWord = true) _ List.mem_cons_self⟩) rfl rfl rfl (by decide +kernel) ⟨Nat.le_of_ble_eq_true rfl, Nat.le_of_ble_eq_true rfl⟩) rfl hl.1 rfl (lv_room (Nat.le_of_ble_eq_true rfl)) dL_law_889 ⟨by show _ ≤ 601024; omega, by show _ ≤ 7293034; omega⟩ (fun H locs G => ?_)
  refine lv_istore (lv' := [(7, .int r2), (6, .int (vck 1 2 0 k1)), (5, .int (nI i)), (4, .ref ae), (3, .ref aj), (2, .ref (am 0)), (1, .ref (ad2 0)), (0, .ref b)]) hx hb dL_law_892 hl (by decide) rfl (fun ls hl => ?_)
  refine lv_goto (tgt := 2439) hx hb dL_law_894 (by decide) ?_
  have hl := lv_sub hl [2, 3, 4, 5, 6, 7] rfl
  refine W.widen (k := 19 + T1.1 + (j + 1)) (n := 38467 + sg T1 + 6 * (j + 1)) (by omega) (by omega) ?_
  exact kk ad2 (vfJ k1 f r1.toInt64) g H locs ls hg hf (had 0 h0T) hV1 hrc1 hJ1 G hl
set_option maxHeartbeats 4000000 in
set_option maxRecDepth 100000 in
theorem y_a19 {p : Program} {e : Env} {s : State} {m : MethodId} {below : List Frame} {meth : Method} {c : Code} (l : Launch) (hst : l.stackTraces = false) {b L : Nat} {xs : Nat → Int32} (hx : p.tables.exec = Jvm.exec) (hb : c.code = code) (hml : c.maxLocals = 9) (hown : s.vm.findClass RL = some m.cls) (hts : ∀ w ∈ lw_tbl, w.before #[Value.ref b] s = true) (hX0 : va_X b L xs s s.heap) (hbl : b < s.heap.size) (hX : xT (fun q => s.heap.size ≤ q) s) (hN : nC s) (hTS : sAll s.heap.size s) {D : va_G} {cI cJ cZ cMic cSrc cSt cAI cAJ cD : ClassId} (hK : va_K D vwCl (CT cI cJ cZ cMic cSrc cSt cAI cAJ ++ [(cD, .double)]) s) {Q : State → Prop} {i j : Nat} (hi : i + 6 ≤ L) (hL : L ≤ 3072) (hj : j < 512) {aj ae : Nat} {ad am : Nat → Nat} {T : AT} {Sm : MS} {f : Nat → Int64} {g : Nat → UInt64} {ls : Array Slot} {H : Heap} {locs : List Loc} (hV : IV aR0 1586 aK1 aK2 T) (hrc : RC T) (hJ : JJ Sm) (G : gL cI cJ cZ cMic cSrc cSt cAI cAJ D ad (fun q => s.heap.size ≤ q) s.heap H locs T (oJ aj cJ f :: oD ae cD g :: MW cI cJ cZ am Sm)) (hl : lv_has ls 9 [(5, .int (nI i)), (4, .ref ae), (3, .ref aj), (2, .ref (am 0)), (1, .ref (ad 0)), (0, .ref b)]) (kk : ∀ {k1 : Nat} {r1 : Int32} {T1 : AT} {r2 : Int32} {S1 : MS} (ad2 : Nat → Nat) (f1 : Nat → Int64) (g1 : Nat → UInt64) (H1 : Heap) (locs1 : List Loc) (ls1 : Array Slot), g_X11_window T 0 (xs (i + 1)) = some (k1, r1, T1) → fr_window Sm (xs (i + 1)) = some (r2, S1) → ad2 0 = ad 0 → IV aR0 1586 aK1 aK2 T1 → RC T1 → JJ S1 → gL cI cJ cZ cMic cSrc cSt cAI cAJ D ad2 (fun q => s.heap.size ≤ q) s.heap H1 locs1 T1 (oJ aj cJ f1 :: oD ae cD g1 :: MW cI cJ cZ am S1) → lv_has ls1 9 [(5, .int (nI i)), (4, .ref ae), (3, .ref aj), (2, .ref (am 0)), (1, .ref (ad2 0)), (0, .ref b)] → W p l e room_1 s m #[Value.ref b] below meth c H1 locs1 (19 + T1.1 + (j + 1)) (38467 + sg T1 + 6 * (j + 1)) Q (F0 m 2439 ls1 [])) : W p l e room_1 s m #[Value.ref b] below meth c H locs (19 + T.1 + j) (38467 + sg T + 6 * j) Q (F0 m 897 ls []) := by
  have E : cE p c cL_law s m #[Value.ref b] lw_tbl D RL (CT cI cJ cZ cMic cSrc cSt cAI cAJ ++ [(cD, .double)]) := ⟨hx, hb, hts, hown, hK⟩
  have hA : ∀ q : Nat, s.heap.size ≤ q → s.heap.size ≤ q := fun _ h => h
  have h0T : 0 < T.1 := Nat.lt_of_lt_of_le (by decide) hV.1.2.2
  have h0s : T.2.1 0 = (11, 0) := hV.2.1 0 ⟨by decide, by decide +kernel, by decide +kernel⟩
  refine lv_aload_n hx hb dL_law_897 rfl (lv_at hl 4 rfl) ?_
  refine lv_aload_n hx hb dL_law_898 rfl (lv_at hl 5 rfl) ?_
  refine lv_iload hx hb dL_law_899 (lv_at hl 0 rfl) ?_
  refine lv_iconst (v := 1) hx hb dL_law_901 (by decide) ?_
  refine lv_iadd hx hb dL_law_902 ?_
  refine lv_to (y := nI (i + 1)) (nI_add i 1) ?_
  refine va_sld hx hb hX0 hbl (Nat.not_le.mpr hbl) G.2.2 (i := nI (i + 1)) (vp_in_nI (n := i + 1) (N := L) (by omega) (by omega)) dL_law_903 ?_
  refine lv_to (y := xs (i + 1)) (congrArg xs (nI_clamp (by omega))) ?_
  refine lv_aload_n hx hb dL_law_904 rfl (lv_at hl 2 rfl) ?_
  obtain ⟨⟨k1, r1, T1⟩, hg, hc⟩ := cs_X11_window T 0 (xs (i + 1)) hV (by decide +kernel)
  have hV1 : IV aR0 1586 aK1 aK2 T1 := by rw [show T1 = T from hc.1]; exact hV
  have hg1 := (gl_sp (s_X11_window hg))
  have hg2 := sg_le hg1
  have hg3 := hg1.1
  have hk := hV1.2.2.2.2.2.2
  have hrc1 := hg1.2.2 hrc
  have hr0 := a_room
  refine l_v (h0 := s.heap.size) (As := [.ref (ad 0), .int (xs (i + 1)), .ref aj]) (rest := []) E G hA hX hN (fun _ h => h) hTS hml (v_window l hst D s.heap.size ad T 0 (xs (i + 1)) aj f hg hrc h0T h0s) (vx_cwSW 3 hts (glA (L := [Cond.methodLink RL 268 yL_window, Cond.static yL_window, Cond.initialized RL]) (gl_in [(5, 139), (5, 140), (1, 0)] (by decide +kernel) (by decide +kernel)) ⟨(t_of [Cond.codeWith yL_window cL_window 4 (some .int) [(0, 9, 12, 21), (0, 9, 15, 13)]] [(5, 141)] (by decide +kernel) _ List.mem_cons_self), List.all_eq_true.mp (by decide +kernel : [Cond.codeWith yL_window cL_window 4 (some .int) [(0, 9, 12, 21), (0, 9, 15, 13)]].all goodWord = true) _ List.mem_cons_self⟩) rfl rfl rfl (by decide +kernel) ⟨Nat.le_of_ble_eq_true rfl, Nat.le_of_ble_eq_true rfl⟩) rfl hl.1 rfl (lv_room (Nat.le_of_ble_eq_true rfl)) dL_law_905 ⟨by show _ ≤ 601024; omega, by show _ ≤ 7293034; omega⟩ ?_
  intro ad2 H locs had G
  rw [← had 0 h0T] at hl
  refine lv_istore (lv' := [(6, .int (vck 1 2 0 k1)), (5, .int (nI i)), (4, .ref ae), (3, .ref aj), (2, .ref (am 0)), (1, .ref (ad2 0)), (0, .ref b)]) hx hb dL_law_908 hl (by decide) rfl (fun ls hl => ?_)
  refine lv_aload_n hx hb dL_law_910 rfl (lv_at hl 4 rfl) ?_
  refine lv_aload_n hx hb dL_law_911 rfl (lv_at hl 6 rfl) ?_
  refine lv_iload hx hb dL_law_912 (lv_at hl 1 rfl) ?_
  refine lv_iconst (v := 1) hx hb dL_law_914 (by decide) ?_
  refine lv_iadd hx hb dL_law_915 ?_
  refine lv_to (y := nI (i + 1)) (nI_add i 1) ?_
  refine va_sld hx hb hX0 hbl (Nat.not_le.mpr hbl) G.2.2 (i := nI (i + 1)) (vp_in_nI (n := i + 1) (N := L) (by omega) (by omega)) dL_law_916 ?_
  refine lv_to (y := xs (i + 1)) (congrArg xs (nI_clamp (by omega))) ?_
  obtain ⟨⟨r2, S1⟩, hf, hj⟩ := sj_window Sm (xs (i + 1)) hJ
  have hJ1 : JJ S1 := hj
  refine y_mi (As := [.int (xs (i + 1))]) (rest := []) E G hA hX.2.2.2.2 hml (tr_window l D cI cJ cZ am Sm (xs (i + 1)) hf) (cwV 1 hts (glM (L := [Cond.methodLink RL 270 yX12_window, Cond.instanceMethod yX12_window, Cond.selects RX12 yX12_window yX12_window, Cond.initialized RX12]) (gl_in [(9, 132), (9, 133), (9, 134), (1, 14)] (by decide +kernel) (by decide +kernel)) ⟨(t_of [Cond.code yX12_window cX12_window 2 (some .int)] [(9, 135)] (by decide +kernel) _ List.mem_cons_self), List.all_eq_true.mp (by decide +kernel : [Cond.code yX12_window cX12_window 2 (some .int)].all goodWord = true) _ List.mem_cons_self⟩) rfl rfl rfl (by decide +kernel) ⟨Nat.le_of_ble_eq_true rfl, Nat.le_of_ble_eq_true rfl⟩) rfl hl.1 rfl (lv_room (Nat.le_of_ble_eq_true rfl)) dL_law_917 ⟨by show _ ≤ 601024; omega, by show _ ≤ 7293034; omega⟩ (fun H locs G => ?_)
  refine lv_istore (lv' := [(7, .int r2), (6, .int (vck 1 2 0 k1)), (5, .int (nI i)), (4, .ref ae), (3, .ref aj), (2, .ref (am 0)), (1, .ref (ad2 0)), (0, .ref b)]) hx hb dL_law_920 hl (by decide) rfl (fun ls hl => ?_)
  refine lv_goto (tgt := 2439) hx hb dL_law_922 (by decide) ?_
  have hl := lv_sub hl [2, 3, 4, 5, 6, 7] rfl
  refine W.widen (k := 19 + T1.1 + (j + 1)) (n := 38467 + sg T1 + 6 * (j + 1)) (by omega) (by omega) ?_
  exact kk ad2 (vfJ k1 f r1.toInt64) g H locs ls hg hf (had 0 h0T) hV1 hrc1 hJ1 G hl
set_option maxHeartbeats 4000000 in
set_option maxRecDepth 100000 in
theorem y_a20 {p : Program} {e : Env} {s : State} {m : MethodId} {below : List Frame} {meth : Method} {c : Code} (l : Launch) (hst : l.stackTraces = false) {b L : Nat} {xs : Nat → Int32} (hx : p.tables.exec = Jvm.exec) (hb : c.code = code) (hml : c.maxLocals = 9) (hown : s.vm.findClass RL = some m.cls) (hts : ∀ w ∈ lw_tbl, w.before #[Value.ref b] s = true) (hX0 : va_X b L xs s s.heap) (hbl : b < s.heap.size) (hX : xT (fun q => s.heap.size ≤ q) s) (hN : nC s) (hTS : sAll s.heap.size s) {D : va_G} {cI cJ cZ cMic cSrc cSt cAI cAJ cD : ClassId} (hK : va_K D vwCl (CT cI cJ cZ cMic cSrc cSt cAI cAJ ++ [(cD, .double)]) s) {Q : State → Prop} {i j : Nat} (hi : i + 6 ≤ L) (hL : L ≤ 3072) (hj : j < 512) {aj ae : Nat} {ad am : Nat → Nat} {T : AT} {Sm : MS} {f : Nat → Int64} {g : Nat → UInt64} {ls : Array Slot} {H : Heap} {locs : List Loc} (hV : IV aR0 1586 aK1 aK2 T) (hrc : RC T) (hJ : JJ Sm) (G : gL cI cJ cZ cMic cSrc cSt cAI cAJ D ad (fun q => s.heap.size ≤ q) s.heap H locs T (oJ aj cJ f :: oD ae cD g :: MW cI cJ cZ am Sm)) (hl : lv_has ls 9 [(5, .int (nI i)), (4, .ref ae), (3, .ref aj), (2, .ref (am 0)), (1, .ref (ad 0)), (0, .ref b)]) (kk : ∀ {k1 : Nat} {r1 : Int32} {T1 : AT} {r2 : Int32} {S1 : MS} (ad2 : Nat → Nat) (f1 : Nat → Int64) (g1 : Nat → UInt64) (H1 : Heap) (locs1 : List Loc) (ls1 : Array Slot), g_X11_sample T 0 (xs (i + 1)) (xs (i + 2)) = some (k1, r1, T1) → fr_sample Sm (xs (i + 1)) (xs (i + 2)) = some (r2, S1) → ad2 0 = ad 0 → IV aR0 1586 aK1 aK2 T1 → RC T1 → JJ S1 → gL cI cJ cZ cMic cSrc cSt cAI cAJ D ad2 (fun q => s.heap.size ≤ q) s.heap H1 locs1 T1 (oJ aj cJ f1 :: oD ae cD g1 :: MW cI cJ cZ am S1) → lv_has ls1 9 [(5, .int (nI i)), (4, .ref ae), (3, .ref aj), (2, .ref (am 0)), (1, .ref (ad2 0)), (0, .ref b)] → W p l e room_1 s m #[Value.ref b] below meth c H1 locs1 (19 + T1.1 + (j + 1)) (38467 + sg T1 + 6 * (j + 1)) Q (F0 m 2439 ls1 [])) : W p l e room_1 s m #[Value.ref b] below meth c H locs (19 + T.1 + j) (38467 + sg T + 6 * j) Q (F0 m 925 ls []) := by
  have E : cE p c cL_law s m #[Value.ref b] lw_tbl D RL (CT cI cJ cZ cMic cSrc cSt cAI cAJ ++ [(cD, .double)]) := ⟨hx, hb, hts, hown, hK⟩
  have hA : ∀ q : Nat, s.heap.size ≤ q → s.heap.size ≤ q := fun _ h => h
  have h0T : 0 < T.1 := Nat.lt_of_lt_of_le (by decide) hV.1.2.2
  have h0s : T.2.1 0 = (11, 0) := hV.2.1 0 ⟨by decide, by decide +kernel, by decide +kernel⟩
  refine lv_aload_n hx hb dL_law_925 rfl (lv_at hl 4 rfl) ?_
  refine lv_aload_n hx hb dL_law_926 rfl (lv_at hl 5 rfl) ?_
  refine lv_iload hx hb dL_law_927 (lv_at hl 0 rfl) ?_
  refine lv_iconst (v := 1) hx hb dL_law_929 (by decide) ?_
  refine lv_iadd hx hb dL_law_930 ?_
  refine lv_to (y := nI (i + 1)) (nI_add i 1) ?_
  refine va_sld hx hb hX0 hbl (Nat.not_le.mpr hbl) G.2.2 (i := nI (i + 1)) (vp_in_nI (n := i + 1) (N := L) (by omega) (by omega)) dL_law_931 ?_
  refine lv_to (y := xs (i + 1)) (congrArg xs (nI_clamp (by omega))) ?_
  refine lv_aload_n hx hb dL_law_932 rfl (lv_at hl 5 rfl) ?_
  refine lv_iload hx hb dL_law_933 (lv_at hl 0 rfl) ?_
  refine lv_iconst (v := 2) hx hb dL_law_935 (by decide) ?_
  refine lv_iadd hx hb dL_law_936 ?_
  refine lv_to (y := nI (i + 2)) (nI_add i 2) ?_
  refine va_sld hx hb hX0 hbl (Nat.not_le.mpr hbl) G.2.2 (i := nI (i + 2)) (vp_in_nI (n := i + 2) (N := L) (by omega) (by omega)) dL_law_937 ?_
  refine lv_to (y := xs (i + 2)) (congrArg xs (nI_clamp (by omega))) ?_
  refine lv_aload_n hx hb dL_law_938 rfl (lv_at hl 2 rfl) ?_
  obtain ⟨⟨k1, r1, T1⟩, hg, hc⟩ := cs_X11_sample T 0 (xs (i + 1)) (xs (i + 2)) hV (by decide +kernel)
  have hV1 : IV aR0 1586 aK1 aK2 T1 := by rw [show T1 = T from hc.1]; exact hV
  have hg1 := (gl_sp (s_X11_sample hg))
  have hg2 := sg_le hg1
  have hg3 := hg1.1
  have hk := hV1.2.2.2.2.2.2
  have hrc1 := hg1.2.2 hrc
  have hr0 := a_room
  refine l_v (h0 := s.heap.size) (As := [.ref (ad 0), .int (xs (i + 1)), .int (xs (i + 2)), .ref aj]) (rest := []) E G hA hX hN (fun _ h => h) hTS hml (v_sample l hst D s.heap.size ad T 0 (xs (i + 1)) (xs (i + 2)) aj f hg hrc h0T h0s) (vx_cwSW 4 hts (glA (L := [Cond.methodLink RL 271 yL_sample, Cond.static yL_sample, Cond.initialized RL]) (gl_in [(5, 150), (5, 151), (1, 0)] (by decide +kernel) (by decide +kernel)) ⟨(t_of [Cond.codeWith yL_sample cL_sample 5 (some .int) [(0, 10, 13, 21), (0, 10, 17, 13), (0, 10, 21, 15)]] [(5, 152)] (by decide +kernel) _ List.mem_cons_self), List.all_eq_true.mp (by decide +kernel : [Cond.codeWith yL_sample cL_sample 5 (some .int) [(0, 10, 13, 21), (0, 10, 17, 13), (0, 10, 21, 15)]].all goodWord = true) _ List.mem_cons_self⟩) rfl rfl rfl (by decide +kernel) ⟨Nat.le_of_ble_eq_true rfl, Nat.le_of_ble_eq_true rfl⟩) rfl hl.1 rfl (lv_room (Nat.le_of_ble_eq_true rfl)) dL_law_939 ⟨by show _ ≤ 601024; omega, by show _ ≤ 7293034; omega⟩ ?_
  intro ad2 H locs had G
  rw [← had 0 h0T] at hl
  refine lv_istore (lv' := [(6, .int (vck 1 2 3 k1)), (5, .int (nI i)), (4, .ref ae), (3, .ref aj), (2, .ref (am 0)), (1, .ref (ad2 0)), (0, .ref b)]) hx hb dL_law_942 hl (by decide) rfl (fun ls hl => ?_)
  refine lv_aload_n hx hb dL_law_944 rfl (lv_at hl 4 rfl) ?_
  refine lv_aload_n hx hb dL_law_945 rfl (lv_at hl 6 rfl) ?_
  refine lv_iload hx hb dL_law_946 (lv_at hl 1 rfl) ?_
  refine lv_iconst (v := 1) hx hb dL_law_948 (by decide) ?_
  refine lv_iadd hx hb dL_law_949 ?_
  refine lv_to (y := nI (i + 1)) (nI_add i 1) ?_
  refine va_sld hx hb hX0 hbl (Nat.not_le.mpr hbl) G.2.2 (i := nI (i + 1)) (vp_in_nI (n := i + 1) (N := L) (by omega) (by omega)) dL_law_950 ?_
  refine lv_to (y := xs (i + 1)) (congrArg xs (nI_clamp (by omega))) ?_
  refine lv_aload_n hx hb dL_law_951 rfl (lv_at hl 6 rfl) ?_
  refine lv_iload hx hb dL_law_952 (lv_at hl 1 rfl) ?_
  refine lv_iconst (v := 2) hx hb dL_law_954 (by decide) ?_
  refine lv_iadd hx hb dL_law_955 ?_
  refine lv_to (y := nI (i + 2)) (nI_add i 2) ?_
  refine va_sld hx hb hX0 hbl (Nat.not_le.mpr hbl) G.2.2 (i := nI (i + 2)) (vp_in_nI (n := i + 2) (N := L) (by omega) (by omega)) dL_law_956 ?_
  refine lv_to (y := xs (i + 2)) (congrArg xs (nI_clamp (by omega))) ?_
  obtain ⟨⟨r2, S1⟩, hf, hj⟩ := sj_sample Sm (xs (i + 1)) (xs (i + 2)) hJ
  have hJ1 : JJ S1 := hj
  refine y_mi (As := [.int (xs (i + 1)), .int (xs (i + 2))]) (rest := []) E G hA hX.2.2.2.2 hml (tr_sample l D cI cJ cZ am Sm (xs (i + 1)) (xs (i + 2)) hf) (cwV 2 hts (glM (L := [Cond.methodLink RL 273 yX12_sample, Cond.instanceMethod yX12_sample, Cond.selects RX12 yX12_sample yX12_sample, Cond.initialized RX12]) (gl_in [(9, 144), (9, 145), (9, 146), (1, 14)] (by decide +kernel) (by decide +kernel)) ⟨(t_of [Cond.code yX12_sample cX12_sample 3 (some .int)] [(9, 147)] (by decide +kernel) _ List.mem_cons_self), List.all_eq_true.mp (by decide +kernel : [Cond.code yX12_sample cX12_sample 3 (some .int)].all goodWord = true) _ List.mem_cons_self⟩) rfl rfl rfl (by decide +kernel) ⟨Nat.le_of_ble_eq_true rfl, Nat.le_of_ble_eq_true rfl⟩) rfl hl.1 rfl (lv_room (Nat.le_of_ble_eq_true rfl)) dL_law_957 ⟨by show _ ≤ 601024; omega, by show _ ≤ 7293034; omega⟩ (fun H locs G => ?_)
  refine lv_istore (lv' := [(7, .int r2), (6, .int (vck 1 2 3 k1)), (5, .int (nI i)), (4, .ref ae), (3, .ref aj), (2, .ref (am 0)), (1, .ref (ad2 0)), (0, .ref b)]) hx hb dL_law_960 hl (by decide) rfl (fun ls hl => ?_)
  refine lv_goto (tgt := 2439) hx hb dL_law_962 (by decide) ?_
  have hl := lv_sub hl [2, 3, 4, 5, 6, 7] rfl
  refine W.widen (k := 19 + T1.1 + (j + 1)) (n := 38467 + sg T1 + 6 * (j + 1)) (by omega) (by omega) ?_
  exact kk ad2 (vfJ k1 f r1.toInt64) g H locs ls hg hf (had 0 h0T) hV1 hrc1 hJ1 G hl
set_option maxHeartbeats 4000000 in
set_option maxRecDepth 100000 in
theorem y_a21 {p : Program} {e : Env} {s : State} {m : MethodId} {below : List Frame} {meth : Method} {c : Code} (l : Launch) (hst : l.stackTraces = false) {b L : Nat} {xs : Nat → Int32} (hx : p.tables.exec = Jvm.exec) (hb : c.code = code) (hml : c.maxLocals = 9) (hown : s.vm.findClass RL = some m.cls) (hts : ∀ w ∈ lw_tbl, w.before #[Value.ref b] s = true) (hX0 : va_X b L xs s s.heap) (hbl : b < s.heap.size) (hX : xT (fun q => s.heap.size ≤ q) s) (hN : nC s) (hTS : sAll s.heap.size s) {D : va_G} {cI cJ cZ cMic cSrc cSt cAI cAJ cD : ClassId} (hK : va_K D vwCl (CT cI cJ cZ cMic cSrc cSt cAI cAJ ++ [(cD, .double)]) s) {Q : State → Prop} {i j : Nat} (hi : i + 6 ≤ L) (hL : L ≤ 3072) (hj : j < 512) {aj ae : Nat} {ad am : Nat → Nat} {T : AT} {Sm : MS} {f : Nat → Int64} {g : Nat → UInt64} {ls : Array Slot} {H : Heap} {locs : List Loc} (hV : IV aR0 1586 aK1 aK2 T) (hrc : RC T) (hJ : JJ Sm) (G : gL cI cJ cZ cMic cSrc cSt cAI cAJ D ad (fun q => s.heap.size ≤ q) s.heap H locs T (oJ aj cJ f :: oD ae cD g :: MW cI cJ cZ am Sm)) (hl : lv_has ls 9 [(5, .int (nI i)), (4, .ref ae), (3, .ref aj), (2, .ref (am 0)), (1, .ref (ad 0)), (0, .ref b)]) (kk : ∀ {k1 : Nat} {r1 : Int32} {T1 : AT} {r2 : Int32} {S1 : MS} (ad2 : Nat → Nat) (f1 : Nat → Int64) (g1 : Nat → UInt64) (H1 : Heap) (locs1 : List Loc) (ls1 : Array Slot), g_X11_beam T 0 (xs (i + 1)) (xs (i + 2)) = some (k1, r1, T1) → fr_beam Sm (xs (i + 1)) (xs (i + 2)) = some (r2, S1) → ad2 0 = ad 0 → IV aR0 1586 aK1 aK2 T1 → RC T1 → JJ S1 → gL cI cJ cZ cMic cSrc cSt cAI cAJ D ad2 (fun q => s.heap.size ≤ q) s.heap H1 locs1 T1 (oJ aj cJ f1 :: oD ae cD g1 :: MW cI cJ cZ am S1) → lv_has ls1 9 [(5, .int (nI i)), (4, .ref ae), (3, .ref aj), (2, .ref (am 0)), (1, .ref (ad2 0)), (0, .ref b)] → W p l e room_1 s m #[Value.ref b] below meth c H1 locs1 (19 + T1.1 + (j + 1)) (38467 + sg T1 + 6 * (j + 1)) Q (F0 m 2439 ls1 [])) : W p l e room_1 s m #[Value.ref b] below meth c H locs (19 + T.1 + j) (38467 + sg T + 6 * j) Q (F0 m 965 ls []) := by
  have E : cE p c cL_law s m #[Value.ref b] lw_tbl D RL (CT cI cJ cZ cMic cSrc cSt cAI cAJ ++ [(cD, .double)]) := ⟨hx, hb, hts, hown, hK⟩
  have hA : ∀ q : Nat, s.heap.size ≤ q → s.heap.size ≤ q := fun _ h => h
  have h0T : 0 < T.1 := Nat.lt_of_lt_of_le (by decide) hV.1.2.2
  have h0s : T.2.1 0 = (11, 0) := hV.2.1 0 ⟨by decide, by decide +kernel, by decide +kernel⟩
  refine lv_aload_n hx hb dL_law_965 rfl (lv_at hl 4 rfl) ?_
  refine lv_aload_n hx hb dL_law_966 rfl (lv_at hl 5 rfl) ?_
  refine lv_iload hx hb dL_law_967 (lv_at hl 0 rfl) ?_
  refine lv_iconst (v := 1) hx hb dL_law_969 (by decide) ?_
  refine lv_iadd hx hb dL_law_970 ?_
  refine lv_to (y := nI (i + 1)) (nI_add i 1) ?_
  refine va_sld hx hb hX0 hbl (Nat.not_le.mpr hbl) G.2.2 (i := nI (i + 1)) (vp_in_nI (n := i + 1) (N := L) (by omega) (by omega)) dL_law_971 ?_
  refine lv_to (y := xs (i + 1)) (congrArg xs (nI_clamp (by omega))) ?_
  refine lv_aload_n hx hb dL_law_972 rfl (lv_at hl 5 rfl) ?_
  refine lv_iload hx hb dL_law_973 (lv_at hl 0 rfl) ?_
  refine lv_iconst (v := 2) hx hb dL_law_975 (by decide) ?_
  refine lv_iadd hx hb dL_law_976 ?_
  refine lv_to (y := nI (i + 2)) (nI_add i 2) ?_
  refine va_sld hx hb hX0 hbl (Nat.not_le.mpr hbl) G.2.2 (i := nI (i + 2)) (vp_in_nI (n := i + 2) (N := L) (by omega) (by omega)) dL_law_977 ?_
  refine lv_to (y := xs (i + 2)) (congrArg xs (nI_clamp (by omega))) ?_
  refine lv_aload_n hx hb dL_law_978 rfl (lv_at hl 2 rfl) ?_
  obtain ⟨⟨k1, r1, T1⟩, hg, hc⟩ := cs_X11_beam T 0 (xs (i + 1)) (xs (i + 2)) hV (by decide +kernel)
  have hV1 : IV aR0 1586 aK1 aK2 T1 := hc.1.1
  have hg1 := s_X11_beam hg
  have hg2 := sg_le hg1
  have hg3 := hg1.1
  have hk := hV1.2.2.2.2.2.2
  have hrc1 := hg1.2.2 hrc
  have hr0 := a_room
  refine l_v (h0 := s.heap.size) (As := [.ref (ad 0), .int (xs (i + 1)), .int (xs (i + 2)), .ref aj]) (rest := []) E G hA hX hN (fun _ h => h) hTS hml (v_beam l hst D s.heap.size ad T 0 (xs (i + 1)) (xs (i + 2)) aj f hg hrc h0T h0s) (vx_cwSW 4 hts (glA (L := [Cond.methodLink RL 274 yL_beam, Cond.static yL_beam, Cond.initialized RL]) (gl_in [(5, 162), (5, 163), (1, 0)] (by decide +kernel) (by decide +kernel)) ⟨(t_of [Cond.codeWith yL_beam cL_beam 5 (some .int) [(0, 10, 13, 21), (0, 10, 17, 13), (0, 10, 21, 15)]] [(5, 164)] (by decide +kernel) _ List.mem_cons_self), List.all_eq_true.mp (by decide +kernel : [Cond.codeWith yL_beam cL_beam 5 (some .int) [(0, 10, 13, 21), (0, 10, 17, 13), (0, 10, 21, 15)]].all goodWord = true) _ List.mem_cons_self⟩) rfl rfl rfl (by decide +kernel) ⟨Nat.le_of_ble_eq_true rfl, Nat.le_of_ble_eq_true rfl⟩) rfl hl.1 rfl (lv_room (Nat.le_of_ble_eq_true rfl)) dL_law_979 ⟨by show _ ≤ 601024; omega, by show _ ≤ 7293034; omega⟩ ?_
  intro ad2 H locs had G
  rw [← had 0 h0T] at hl
  refine lv_istore (lv' := [(6, .int (vck 1 2 3 k1)), (5, .int (nI i)), (4, .ref ae), (3, .ref aj), (2, .ref (am 0)), (1, .ref (ad2 0)), (0, .ref b)]) hx hb dL_law_982 hl (by decide) rfl (fun ls hl => ?_)
  refine lv_aload_n hx hb dL_law_984 rfl (lv_at hl 4 rfl) ?_
  refine lv_aload_n hx hb dL_law_985 rfl (lv_at hl 6 rfl) ?_
  refine lv_iload hx hb dL_law_986 (lv_at hl 1 rfl) ?_
  refine lv_iconst (v := 1) hx hb dL_law_988 (by decide) ?_
  refine lv_iadd hx hb dL_law_989 ?_
  refine lv_to (y := nI (i + 1)) (nI_add i 1) ?_
  refine va_sld hx hb hX0 hbl (Nat.not_le.mpr hbl) G.2.2 (i := nI (i + 1)) (vp_in_nI (n := i + 1) (N := L) (by omega) (by omega)) dL_law_990 ?_
  refine lv_to (y := xs (i + 1)) (congrArg xs (nI_clamp (by omega))) ?_
  refine lv_aload_n hx hb dL_law_991 rfl (lv_at hl 6 rfl) ?_
  refine lv_iload hx hb dL_law_992 (lv_at hl 1 rfl) ?_
  refine lv_iconst (v := 2) hx hb dL_law_994 (by decide) ?_
  refine lv_iadd hx hb dL_law_995 ?_
  refine lv_to (y := nI (i + 2)) (nI_add i 2) ?_
  refine va_sld hx hb hX0 hbl (Nat.not_le.mpr hbl) G.2.2 (i := nI (i + 2)) (vp_in_nI (n := i + 2) (N := L) (by omega) (by omega)) dL_law_996 ?_
  refine lv_to (y := xs (i + 2)) (congrArg xs (nI_clamp (by omega))) ?_
  obtain ⟨⟨r2, S1⟩, hf, hj⟩ := sj_beam Sm (xs (i + 1)) (xs (i + 2)) hJ
  have hJ1 : JJ S1 := hj
  refine y_mi (As := [.int (xs (i + 1)), .int (xs (i + 2))]) (rest := []) E G hA hX.2.2.2.2 hml (tr_beam l D cI cJ cZ am Sm (xs (i + 1)) (xs (i + 2)) hf) (cwV 2 hts (glM (L := [Cond.methodLink RL 276 yX12_beam, Cond.instanceMethod yX12_beam, Cond.selects RX12 yX12_beam yX12_beam, Cond.initialized RX12]) (gl_in [(9, 148), (9, 149), (9, 150), (1, 14)] (by decide +kernel) (by decide +kernel)) ⟨(t_of [Cond.code yX12_beam cX12_beam 3 (some .int)] [(9, 151)] (by decide +kernel) _ List.mem_cons_self), List.all_eq_true.mp (by decide +kernel : [Cond.code yX12_beam cX12_beam 3 (some .int)].all goodWord = true) _ List.mem_cons_self⟩) rfl rfl rfl (by decide +kernel) ⟨Nat.le_of_ble_eq_true rfl, Nat.le_of_ble_eq_true rfl⟩) rfl hl.1 rfl (lv_room (Nat.le_of_ble_eq_true rfl)) dL_law_997 ⟨by show _ ≤ 601024; omega, by show _ ≤ 7293034; omega⟩ (fun H locs G => ?_)
  refine lv_istore (lv' := [(7, .int r2), (6, .int (vck 1 2 3 k1)), (5, .int (nI i)), (4, .ref ae), (3, .ref aj), (2, .ref (am 0)), (1, .ref (ad2 0)), (0, .ref b)]) hx hb dL_law_1000 hl (by decide) rfl (fun ls hl => ?_)
  refine lv_goto (tgt := 2439) hx hb dL_law_1002 (by decide) ?_
  have hl := lv_sub hl [2, 3, 4, 5, 6, 7] rfl
  refine W.widen (k := 19 + T1.1 + (j + 1)) (n := 38467 + sg T1 + 6 * (j + 1)) (by omega) (by omega) ?_
  exact kk ad2 (vfJ k1 f r1.toInt64) g H locs ls hg hf (had 0 h0T) hV1 hrc1 hJ1 G hl
set_option maxHeartbeats 4000000 in
set_option maxRecDepth 100000 in
theorem y_a22 {p : Program} {e : Env} {s : State} {m : MethodId} {below : List Frame} {meth : Method} {c : Code} (l : Launch) (hst : l.stackTraces = false) {b L : Nat} {xs : Nat → Int32} (hx : p.tables.exec = Jvm.exec) (hb : c.code = code) (hml : c.maxLocals = 9) (hown : s.vm.findClass RL = some m.cls) (hts : ∀ w ∈ lw_tbl, w.before #[Value.ref b] s = true) (hX0 : va_X b L xs s s.heap) (hbl : b < s.heap.size) (hX : xT (fun q => s.heap.size ≤ q) s) (hN : nC s) (hTS : sAll s.heap.size s) {D : va_G} {cI cJ cZ cMic cSrc cSt cAI cAJ cD : ClassId} (hK : va_K D vwCl (CT cI cJ cZ cMic cSrc cSt cAI cAJ ++ [(cD, .double)]) s) {Q : State → Prop} {i j : Nat} (hi : i + 6 ≤ L) (hL : L ≤ 3072) (hj : j < 512) {aj ae : Nat} {ad am : Nat → Nat} {T : AT} {Sm : MS} {f : Nat → Int64} {g : Nat → UInt64} {ls : Array Slot} {H : Heap} {locs : List Loc} (hV : IV aR0 1586 aK1 aK2 T) (hrc : RC T) (hJ : JJ Sm) (G : gL cI cJ cZ cMic cSrc cSt cAI cAJ D ad (fun q => s.heap.size ≤ q) s.heap H locs T (oJ aj cJ f :: oD ae cD g :: MW cI cJ cZ am Sm)) (hl : lv_has ls 9 [(5, .int (nI i)), (4, .ref ae), (3, .ref aj), (2, .ref (am 0)), (1, .ref (ad 0)), (0, .ref b)]) (kk : ∀ {k1 : Nat} {r1 : Int64} {T1 : AT} {r2 : Int64} {S1 : MS} (ad2 : Nat → Nat) (f1 : Nat → Int64) (g1 : Nat → UInt64) (H1 : Heap) (locs1 : List Loc) (ls1 : Array Slot), g_X11_power T 0 (xs (i + 1)) = some (k1, r1, T1) → fr_power Sm (xs (i + 1)) = some (r2, S1) → ad2 0 = ad 0 → IV aR0 1586 aK1 aK2 T1 → RC T1 → JJ S1 → gL cI cJ cZ cMic cSrc cSt cAI cAJ D ad2 (fun q => s.heap.size ≤ q) s.heap H1 locs1 T1 (oJ aj cJ f1 :: oD ae cD g1 :: MW cI cJ cZ am S1) → lv_has ls1 9 [(5, .int (nI i)), (4, .ref ae), (3, .ref aj), (2, .ref (am 0)), (1, .ref (ad2 0)), (0, .ref b)] → W p l e room_1 s m #[Value.ref b] below meth c H1 locs1 (19 + T1.1 + (j + 1)) (38467 + sg T1 + 6 * (j + 1)) Q (F0 m 2439 ls1 [])) : W p l e room_1 s m #[Value.ref b] below meth c H locs (19 + T.1 + j) (38467 + sg T + 6 * j) Q (F0 m 1005 ls []) := by
  have E : cE p c cL_law s m #[Value.ref b] lw_tbl D RL (CT cI cJ cZ cMic cSrc cSt cAI cAJ ++ [(cD, .double)]) := ⟨hx, hb, hts, hown, hK⟩
  have hA : ∀ q : Nat, s.heap.size ≤ q → s.heap.size ≤ q := fun _ h => h
  have h0T : 0 < T.1 := Nat.lt_of_lt_of_le (by decide) hV.1.2.2
  have h0s : T.2.1 0 = (11, 0) := hV.2.1 0 ⟨by decide, by decide +kernel, by decide +kernel⟩
  refine lv_aload_n hx hb dL_law_1005 rfl (lv_at hl 4 rfl) ?_
  refine lv_aload_n hx hb dL_law_1006 rfl (lv_at hl 5 rfl) ?_
  refine lv_iload hx hb dL_law_1007 (lv_at hl 0 rfl) ?_
  refine lv_iconst (v := 1) hx hb dL_law_1009 (by decide) ?_
  refine lv_iadd hx hb dL_law_1010 ?_
  refine lv_to (y := nI (i + 1)) (nI_add i 1) ?_
  refine va_sld hx hb hX0 hbl (Nat.not_le.mpr hbl) G.2.2 (i := nI (i + 1)) (vp_in_nI (n := i + 1) (N := L) (by omega) (by omega)) dL_law_1011 ?_
  refine lv_to (y := xs (i + 1)) (congrArg xs (nI_clamp (by omega))) ?_
  refine lv_aload_n hx hb dL_law_1012 rfl (lv_at hl 2 rfl) ?_
  obtain ⟨⟨k1, r1, T1⟩, hg, hc⟩ := cs_X11_power T 0 (xs (i + 1)) hV (by decide +kernel)
  have hV1 : IV aR0 1586 aK1 aK2 T1 := hc.1.1
  have hg1 := s_X11_power hg
  have hg2 := sg_le hg1
  have hg3 := hg1.1
  have hk := hV1.2.2.2.2.2.2
  have hrc1 := hg1.2.2 hrc
  have hr0 := a_room
  refine l_v (h0 := s.heap.size) (As := [.ref (ad 0), .int (xs (i + 1)), .ref aj]) (rest := []) E G hA hX hN (fun _ h => h) hTS hml (v_power l hst D s.heap.size ad T 0 (xs (i + 1)) aj f hg hrc h0T h0s) (vx_cwSW 3 hts (glA (L := [Cond.methodLink RL 277 yL_power, Cond.static yL_power, Cond.initialized RL]) (gl_in [(5, 181), (5, 182), (1, 0)] (by decide +kernel) (by decide +kernel)) ⟨(t_of [Cond.codeWith yL_power cL_power 4 (some .int) [(0, 8, 11, 21), (0, 8, 14, 13)]] [(5, 183)] (by decide +kernel) _ List.mem_cons_self), List.all_eq_true.mp (by decide +kernel : [Cond.codeWith yL_power cL_power 4 (some .int) [(0, 8, 11, 21), (0, 8, 14, 13)]].all goodWord = true) _ List.mem_cons_self⟩) rfl rfl rfl (by decide +kernel) ⟨Nat.le_of_ble_eq_true rfl, Nat.le_of_ble_eq_true rfl⟩) rfl hl.1 rfl (lv_room (Nat.le_of_ble_eq_true rfl)) dL_law_1013 ⟨by show _ ≤ 601024; omega, by show _ ≤ 7293034; omega⟩ ?_
  intro ad2 H locs had G
  rw [← had 0 h0T] at hl
  refine lv_istore (lv' := [(6, .int (vck 1 2 0 k1)), (5, .int (nI i)), (4, .ref ae), (3, .ref aj), (2, .ref (am 0)), (1, .ref (ad2 0)), (0, .ref b)]) hx hb dL_law_1016 hl (by decide) rfl (fun ls hl => ?_)
  refine lv_aload_n hx hb dL_law_1018 rfl (lv_at hl 4 rfl) ?_
  refine lv_aload_n hx hb dL_law_1019 rfl (lv_at hl 6 rfl) ?_
  refine lv_iload hx hb dL_law_1020 (lv_at hl 1 rfl) ?_
  refine lv_iconst (v := 1) hx hb dL_law_1022 (by decide) ?_
  refine lv_iadd hx hb dL_law_1023 ?_
  refine lv_to (y := nI (i + 1)) (nI_add i 1) ?_
  refine va_sld hx hb hX0 hbl (Nat.not_le.mpr hbl) G.2.2 (i := nI (i + 1)) (vp_in_nI (n := i + 1) (N := L) (by omega) (by omega)) dL_law_1024 ?_
  refine lv_to (y := xs (i + 1)) (congrArg xs (nI_clamp (by omega))) ?_
  obtain ⟨⟨r2, S1⟩, hf, hj⟩ := sj_power Sm (xs (i + 1)) hJ
  have hJ1 : JJ S1 := hj
  refine y_ml (As := [.int (xs (i + 1))]) (rest := []) E G hA hX.2.2.2.2 hml (tr_power l D cI cJ cZ am Sm (xs (i + 1)) hf) (cwV 1 hts (glM (L := [Cond.methodLink RL 279 yX12_power, Cond.instanceMethod yX12_power, Cond.selects RX12 yX12_power yX12_power, Cond.initialized RX12]) (gl_in [(9, 156), (9, 157), (9, 158), (1, 14)] (by decide +kernel) (by decide +kernel)) ⟨(t_of [Cond.code yX12_power cX12_power 2 (some .long)] [(9, 159)] (by decide +kernel) _ List.mem_cons_self), List.all_eq_true.mp (by decide +kernel : [Cond.code yX12_power cX12_power 2 (some .long)].all goodWord = true) _ List.mem_cons_self⟩) rfl rfl rfl (by decide +kernel) ⟨Nat.le_of_ble_eq_true rfl, Nat.le_of_ble_eq_true rfl⟩) rfl hl.1 rfl (lv_room (Nat.le_of_ble_eq_true rfl)) dL_law_1025 ⟨by show _ ≤ 601024; omega, by show _ ≤ 7293034; omega⟩ (fun H locs G => ?_)
  refine lv_lstore (lv' := [(7, .long r2), (6, .int (vck 1 2 0 k1)), (5, .int (nI i)), (4, .ref ae), (3, .ref aj), (2, .ref (am 0)), (1, .ref (ad2 0)), (0, .ref b)]) hx hb dL_law_1028 hl (by decide) rfl (fun ls hl => ?_)
  refine lv_goto (tgt := 2439) hx hb dL_law_1030 (by decide) ?_
  have hl := lv_sub hl [2, 3, 4, 5, 6, 7] rfl
  refine W.widen (k := 19 + T1.1 + (j + 1)) (n := 38467 + sg T1 + 6 * (j + 1)) (by omega) (by omega) ?_
  exact kk ad2 (vfJ k1 f r1) g H locs ls hg hf (had 0 h0T) hV1 hrc1 hJ1 G hl
set_option maxHeartbeats 4000000 in
set_option maxRecDepth 100000 in
theorem y_a23 {p : Program} {e : Env} {s : State} {m : MethodId} {below : List Frame} {meth : Method} {c : Code} (l : Launch) (hst : l.stackTraces = false) {b L : Nat} {xs : Nat → Int32} (hx : p.tables.exec = Jvm.exec) (hb : c.code = code) (hml : c.maxLocals = 9) (hown : s.vm.findClass RL = some m.cls) (hts : ∀ w ∈ lw_tbl, w.before #[Value.ref b] s = true) (hX0 : va_X b L xs s s.heap) (hbl : b < s.heap.size) (hX : xT (fun q => s.heap.size ≤ q) s) (hN : nC s) (hTS : sAll s.heap.size s) {D : va_G} {cI cJ cZ cMic cSrc cSt cAI cAJ cD : ClassId} (hK : va_K D vwCl (CT cI cJ cZ cMic cSrc cSt cAI cAJ ++ [(cD, .double)]) s) {Q : State → Prop} {i j : Nat} (hi : i + 6 ≤ L) (hL : L ≤ 3072) (hj : j < 512) {aj ae : Nat} {ad am : Nat → Nat} {T : AT} {Sm : MS} {f : Nat → Int64} {g : Nat → UInt64} {ls : Array Slot} {H : Heap} {locs : List Loc} (hV : IV aR0 1586 aK1 aK2 T) (hrc : RC T) (hJ : JJ Sm) (G : gL cI cJ cZ cMic cSrc cSt cAI cAJ D ad (fun q => s.heap.size ≤ q) s.heap H locs T (oJ aj cJ f :: oD ae cD g :: MW cI cJ cZ am Sm)) (hl : lv_has ls 9 [(5, .int (nI i)), (4, .ref ae), (3, .ref aj), (2, .ref (am 0)), (1, .ref (ad 0)), (0, .ref b)]) (kk : ∀ {k1 : Nat} {r1 : Int64} {T1 : AT} {r2 : Int64} {S1 : MS} (ad2 : Nat → Nat) (f1 : Nat → Int64) (g1 : Nat → UInt64) (H1 : Heap) (locs1 : List Loc) (ls1 : Array Slot), g_X11_powerAt T 0 (xs (i + 1)) (xs (i + 2)) = some (k1, r1, T1) → fr_powerAt Sm (xs (i + 1)) (xs (i + 2)) = some (r2, S1) → ad2 0 = ad 0 → IV aR0 1586 aK1 aK2 T1 → RC T1 → JJ S1 → gL cI cJ cZ cMic cSrc cSt cAI cAJ D ad2 (fun q => s.heap.size ≤ q) s.heap H1 locs1 T1 (oJ aj cJ f1 :: oD ae cD g1 :: MW cI cJ cZ am S1) → lv_has ls1 9 [(5, .int (nI i)), (4, .ref ae), (3, .ref aj), (2, .ref (am 0)), (1, .ref (ad2 0)), (0, .ref b)] → W p l e room_1 s m #[Value.ref b] below meth c H1 locs1 (19 + T1.1 + (j + 1)) (38467 + sg T1 + 6 * (j + 1)) Q (F0 m 2439 ls1 [])) : W p l e room_1 s m #[Value.ref b] below meth c H locs (19 + T.1 + j) (38467 + sg T + 6 * j) Q (F0 m 1033 ls []) := by
  have E : cE p c cL_law s m #[Value.ref b] lw_tbl D RL (CT cI cJ cZ cMic cSrc cSt cAI cAJ ++ [(cD, .double)]) := ⟨hx, hb, hts, hown, hK⟩
  have hA : ∀ q : Nat, s.heap.size ≤ q → s.heap.size ≤ q := fun _ h => h
  have h0T : 0 < T.1 := Nat.lt_of_lt_of_le (by decide) hV.1.2.2
  have h0s : T.2.1 0 = (11, 0) := hV.2.1 0 ⟨by decide, by decide +kernel, by decide +kernel⟩
  refine lv_aload_n hx hb dL_law_1033 rfl (lv_at hl 4 rfl) ?_
  refine lv_aload_n hx hb dL_law_1034 rfl (lv_at hl 5 rfl) ?_
  refine lv_iload hx hb dL_law_1035 (lv_at hl 0 rfl) ?_
  refine lv_iconst (v := 1) hx hb dL_law_1037 (by decide) ?_
  refine lv_iadd hx hb dL_law_1038 ?_
  refine lv_to (y := nI (i + 1)) (nI_add i 1) ?_
  refine va_sld hx hb hX0 hbl (Nat.not_le.mpr hbl) G.2.2 (i := nI (i + 1)) (vp_in_nI (n := i + 1) (N := L) (by omega) (by omega)) dL_law_1039 ?_
  refine lv_to (y := xs (i + 1)) (congrArg xs (nI_clamp (by omega))) ?_
  refine lv_aload_n hx hb dL_law_1040 rfl (lv_at hl 5 rfl) ?_
  refine lv_iload hx hb dL_law_1041 (lv_at hl 0 rfl) ?_
  refine lv_iconst (v := 2) hx hb dL_law_1043 (by decide) ?_
  refine lv_iadd hx hb dL_law_1044 ?_
  refine lv_to (y := nI (i + 2)) (nI_add i 2) ?_
  refine va_sld hx hb hX0 hbl (Nat.not_le.mpr hbl) G.2.2 (i := nI (i + 2)) (vp_in_nI (n := i + 2) (N := L) (by omega) (by omega)) dL_law_1045 ?_
  refine lv_to (y := xs (i + 2)) (congrArg xs (nI_clamp (by omega))) ?_
  refine lv_aload_n hx hb dL_law_1046 rfl (lv_at hl 2 rfl) ?_
  obtain ⟨⟨k1, r1, T1⟩, hg, hc⟩ := cs_X11_powerAt T 0 (xs (i + 1)) (xs (i + 2)) hV (by decide +kernel)
  have hV1 : IV aR0 1586 aK1 aK2 T1 := hc.1.1
  have hg1 := s_X11_powerAt hg
  have hg2 := sg_le hg1
  have hg3 := hg1.1
  have hk := hV1.2.2.2.2.2.2
  have hrc1 := hg1.2.2 hrc
  have hr0 := a_room
  refine l_v (h0 := s.heap.size) (As := [.ref (ad 0), .int (xs (i + 1)), .int (xs (i + 2)), .ref aj]) (rest := []) E G hA hX hN (fun _ h => h) hTS hml (v_powerAt l hst D s.heap.size ad T 0 (xs (i + 1)) (xs (i + 2)) aj f hg hrc h0T h0s) (vx_cwSW 4 hts (glA (L := [Cond.methodLink RL 280 yL_powerAt, Cond.static yL_powerAt, Cond.initialized RL]) (gl_in [(6, 10), (6, 11), (1, 0)] (by decide +kernel) (by decide +kernel)) ⟨(t_of [Cond.codeWith yL_powerAt cL_powerAt 5 (some .int) [(0, 9, 12, 21), (0, 9, 16, 15)]] [(6, 12)] (by decide +kernel) _ List.mem_cons_self), List.all_eq_true.mp (by decide +kernel : [Cond.codeWith yL_powerAt cL_powerAt 5 (some .int) [(0, 9, 12, 21), (0, 9, 16, 15)]].all goodWord = true) _ List.mem_cons_self⟩) rfl rfl rfl (by decide +kernel) ⟨Nat.le_of_ble_eq_true rfl, Nat.le_of_ble_eq_true rfl⟩) rfl hl.1 rfl (lv_room (Nat.le_of_ble_eq_true rfl)) dL_law_1047 ⟨by show _ ≤ 601024; omega, by show _ ≤ 7293034; omega⟩ ?_
  intro ad2 H locs had G
  rw [← had 0 h0T] at hl
  refine lv_istore (lv' := [(6, .int (vck 1 0 2 k1)), (5, .int (nI i)), (4, .ref ae), (3, .ref aj), (2, .ref (am 0)), (1, .ref (ad2 0)), (0, .ref b)]) hx hb dL_law_1050 hl (by decide) rfl (fun ls hl => ?_)
  refine lv_aload_n hx hb dL_law_1052 rfl (lv_at hl 4 rfl) ?_
  refine lv_aload_n hx hb dL_law_1053 rfl (lv_at hl 6 rfl) ?_
  refine lv_iload hx hb dL_law_1054 (lv_at hl 1 rfl) ?_
  refine lv_iconst (v := 1) hx hb dL_law_1056 (by decide) ?_
  refine lv_iadd hx hb dL_law_1057 ?_
  refine lv_to (y := nI (i + 1)) (nI_add i 1) ?_
  refine va_sld hx hb hX0 hbl (Nat.not_le.mpr hbl) G.2.2 (i := nI (i + 1)) (vp_in_nI (n := i + 1) (N := L) (by omega) (by omega)) dL_law_1058 ?_
  refine lv_to (y := xs (i + 1)) (congrArg xs (nI_clamp (by omega))) ?_
  refine lv_aload_n hx hb dL_law_1059 rfl (lv_at hl 6 rfl) ?_
  refine lv_iload hx hb dL_law_1060 (lv_at hl 1 rfl) ?_
  refine lv_iconst (v := 2) hx hb dL_law_1062 (by decide) ?_
  refine lv_iadd hx hb dL_law_1063 ?_
  refine lv_to (y := nI (i + 2)) (nI_add i 2) ?_
  refine va_sld hx hb hX0 hbl (Nat.not_le.mpr hbl) G.2.2 (i := nI (i + 2)) (vp_in_nI (n := i + 2) (N := L) (by omega) (by omega)) dL_law_1064 ?_
  refine lv_to (y := xs (i + 2)) (congrArg xs (nI_clamp (by omega))) ?_
  obtain ⟨⟨r2, S1⟩, hf, hj⟩ := sj_powerAt Sm (xs (i + 1)) (xs (i + 2)) hJ
  have hJ1 : JJ S1 := hj
  refine y_ml (As := [.int (xs (i + 1)), .int (xs (i + 2))]) (rest := []) E G hA hX.2.2.2.2 hml (tr_powerAt l D cI cJ cZ am Sm (xs (i + 1)) (xs (i + 2)) hf) (cwV 2 hts (glM (L := [Cond.methodLink RL 282 yX12_powerAt, Cond.instanceMethod yX12_powerAt, Cond.selects RX12 yX12_powerAt yX12_powerAt, Cond.initialized RX12]) (gl_in [(9, 172), (9, 173), (9, 174), (1, 14)] (by decide +kernel) (by decide +kernel)) ⟨(t_of [Cond.code yX12_powerAt cX12_powerAt 3 (some .long)] [(9, 175)] (by decide +kernel) _ List.mem_cons_self), List.all_eq_true.mp (by decide +kernel : [Cond.code yX12_powerAt cX12_powerAt 3 (some .long)].all goodWord = true) _ List.mem_cons_self⟩) rfl rfl rfl (by decide +kernel) ⟨Nat.le_of_ble_eq_true rfl, Nat.le_of_ble_eq_true rfl⟩) rfl hl.1 rfl (lv_room (Nat.le_of_ble_eq_true rfl)) dL_law_1065 ⟨by show _ ≤ 601024; omega, by show _ ≤ 7293034; omega⟩ (fun H locs G => ?_)
  refine lv_lstore (lv' := [(7, .long r2), (6, .int (vck 1 0 2 k1)), (5, .int (nI i)), (4, .ref ae), (3, .ref aj), (2, .ref (am 0)), (1, .ref (ad2 0)), (0, .ref b)]) hx hb dL_law_1068 hl (by decide) rfl (fun ls hl => ?_)
  refine lv_goto (tgt := 2439) hx hb dL_law_1070 (by decide) ?_
  have hl := lv_sub hl [2, 3, 4, 5, 6, 7] rfl
  refine W.widen (k := 19 + T1.1 + (j + 1)) (n := 38467 + sg T1 + 6 * (j + 1)) (by omega) (by omega) ?_
  exact kk ad2 (vfJ k1 f r1) g H locs ls hg hf (had 0 h0T) hV1 hrc1 hJ1 G hl
end
section
/-! 17d.arm3.lean.txt -/
theorem dL_law_1073 : decode cL_law 1073 = .ok (.aload_n 1, 1) := de_43 (lb_67 (j := 1) (b := 43) rfl)
theorem dL_law_1074 : decode cL_law 1074 = .ok (.aload_n 3, 1) := de_45 (lb_67 (j := 2) (b := 45) rfl)
theorem dL_law_1075 : decode cL_law 1075 = .ok (.invokestatic 283, 3) := de_184 (lb_67 (j := 3) (b := 184) rfl) (lb_67 (j := 4) (b := 1) rfl) (lb_67 (j := 5) (b := 27) rfl) rfl
theorem dL_law_1078 : decode cL_law 1078 = .ok (.istore 6, 2) := de_54 (lb_67 (j := 6) (b := 54) rfl) (lb_67 (j := 7) (b := 6) rfl) rfl
theorem dL_law_1080 : decode cL_law 1080 = .ok (.aload_n 2, 1) := de_44 (lb_67 (j := 8) (b := 44) rfl)
theorem dL_law_1081 : decode cL_law 1081 = .ok (.invokevirtual 286, 3) := de_182 (lb_67 (j := 9) (b := 182) rfl) (lb_67 (j := 10) (b := 1) rfl) (lb_67 (j := 11) (b := 30) rfl) rfl
theorem dL_law_1084 : decode cL_law 1084 = .ok (.istore 7, 2) := de_54 (lb_67 (j := 12) (b := 54) rfl) (lb_67 (j := 13) (b := 7) rfl) rfl
theorem dL_law_1086 : decode cL_law 1086 = .ok (.goto 1353, 3) := de_167 (lb_67 (j := 14) (b := 167) rfl) (lb_67 (j := 15) (b := 5) rfl) (lb_68 (j := 0) (b := 73) rfl) (by decide +kernel)
theorem dL_law_1089 : decode cL_law 1089 = .ok (.aload_n 1, 1) := de_43 (lb_68 (j := 1) (b := 43) rfl)
theorem dL_law_1090 : decode cL_law 1090 = .ok (.aload_n 3, 1) := de_45 (lb_68 (j := 2) (b := 45) rfl)
theorem dL_law_1091 : decode cL_law 1091 = .ok (.invokestatic 287, 3) := de_184 (lb_68 (j := 3) (b := 184) rfl) (lb_68 (j := 4) (b := 1) rfl) (lb_68 (j := 5) (b := 31) rfl) rfl
theorem dL_law_1094 : decode cL_law 1094 = .ok (.istore 6, 2) := de_54 (lb_68 (j := 6) (b := 54) rfl) (lb_68 (j := 7) (b := 6) rfl) rfl
theorem dL_law_1096 : decode cL_law 1096 = .ok (.aload_n 2, 1) := de_44 (lb_68 (j := 8) (b := 44) rfl)
theorem dL_law_1097 : decode cL_law 1097 = .ok (.invokevirtual 289, 3) := de_182 (lb_68 (j := 9) (b := 182) rfl) (lb_68 (j := 10) (b := 1) rfl) (lb_68 (j := 11) (b := 33) rfl) rfl
theorem dL_law_1100 : decode cL_law 1100 = .ok (.lstore 7, 2) := de_55 (lb_68 (j := 12) (b := 55) rfl) (lb_68 (j := 13) (b := 7) rfl) rfl
theorem dL_law_1102 : decode cL_law 1102 = .ok (.goto 1337, 3) := de_167 (lb_68 (j := 14) (b := 167) rfl) (lb_68 (j := 15) (b := 5) rfl) (lb_69 (j := 0) (b := 57) rfl) (by decide +kernel)
theorem dL_law_1105 : decode cL_law 1105 = .ok (.aload_n 1, 1) := de_43 (lb_69 (j := 1) (b := 43) rfl)
theorem dL_law_1106 : decode cL_law 1106 = .ok (.aload_n 3, 1) := de_45 (lb_69 (j := 2) (b := 45) rfl)
theorem dL_law_1107 : decode cL_law 1107 = .ok (.invokestatic 290, 3) := de_184 (lb_69 (j := 3) (b := 184) rfl) (lb_69 (j := 4) (b := 1) rfl) (lb_69 (j := 5) (b := 34) rfl) rfl
theorem dL_law_1110 : decode cL_law 1110 = .ok (.istore 6, 2) := de_54 (lb_69 (j := 6) (b := 54) rfl) (lb_69 (j := 7) (b := 6) rfl) rfl
theorem dL_law_1112 : decode cL_law 1112 = .ok (.aload_n 2, 1) := de_44 (lb_69 (j := 8) (b := 44) rfl)
theorem dL_law_1113 : decode cL_law 1113 = .ok (.invokevirtual 292, 3) := de_182 (lb_69 (j := 9) (b := 182) rfl) (lb_69 (j := 10) (b := 1) rfl) (lb_69 (j := 11) (b := 36) rfl) rfl
theorem dL_law_1116 : decode cL_law 1116 = .ok (.lstore 7, 2) := de_55 (lb_69 (j := 12) (b := 55) rfl) (lb_69 (j := 13) (b := 7) rfl) rfl
theorem dL_law_1118 : decode cL_law 1118 = .ok (.goto 1321, 3) := de_167 (lb_69 (j := 14) (b := 167) rfl) (lb_69 (j := 15) (b := 5) rfl) (lb_70 (j := 0) (b := 41) rfl) (by decide +kernel)
theorem dL_law_1121 : decode cL_law 1121 = .ok (.aload_n 1, 1) := de_43 (lb_70 (j := 1) (b := 43) rfl)
theorem dL_law_1122 : decode cL_law 1122 = .ok (.aload_n 3, 1) := de_45 (lb_70 (j := 2) (b := 45) rfl)
theorem dL_law_1123 : decode cL_law 1123 = .ok (.invokestatic 293, 3) := de_184 (lb_70 (j := 3) (b := 184) rfl) (lb_70 (j := 4) (b := 1) rfl) (lb_70 (j := 5) (b := 37) rfl) rfl
theorem dL_law_1126 : decode cL_law 1126 = .ok (.istore 6, 2) := de_54 (lb_70 (j := 6) (b := 54) rfl) (lb_70 (j := 7) (b := 6) rfl) rfl
theorem dL_law_1128 : decode cL_law 1128 = .ok (.aload_n 2, 1) := de_44 (lb_70 (j := 8) (b := 44) rfl)
theorem dL_law_1129 : decode cL_law 1129 = .ok (.invokevirtual 295, 3) := de_182 (lb_70 (j := 9) (b := 182) rfl) (lb_70 (j := 10) (b := 1) rfl) (lb_70 (j := 11) (b := 39) rfl) rfl
theorem dL_law_1132 : decode cL_law 1132 = .ok (.istore 7, 2) := de_54 (lb_70 (j := 12) (b := 54) rfl) (lb_70 (j := 13) (b := 7) rfl) rfl
theorem dL_law_1134 : decode cL_law 1134 = .ok (.goto 1305, 3) := de_167 (lb_70 (j := 14) (b := 167) rfl) (lb_70 (j := 15) (b := 5) rfl) (lb_71 (j := 0) (b := 25) rfl) (by decide +kernel)
theorem dL_law_1137 : decode cL_law 1137 = .ok (.aload_n 1, 1) := de_43 (lb_71 (j := 1) (b := 43) rfl)
theorem dL_law_1138 : decode cL_law 1138 = .ok (.aload_n 0, 1) := de_42 (lb_71 (j := 2) (b := 42) rfl)
theorem dL_law_1139 : decode cL_law 1139 = .ok (.iload 5, 2) := de_21 (lb_71 (j := 3) (b := 21) rfl) (lb_71 (j := 4) (b := 5) rfl) rfl
theorem dL_law_1141 : decode cL_law 1141 = .ok (.iconst 1, 1) := de_4 (lb_71 (j := 5) (b := 4) rfl)
theorem dL_law_1142 : decode cL_law 1142 = .ok (.iadd, 1) := de_96 (lb_71 (j := 6) (b := 96) rfl)
theorem dL_law_1143 : decode cL_law 1143 = .ok (.iaload, 1) := de_46 (lb_71 (j := 7) (b := 46) rfl)
theorem dL_law_1144 : decode cL_law 1144 = .ok (.aload_n 3, 1) := de_45 (lb_71 (j := 8) (b := 45) rfl)
theorem dL_law_1145 : decode cL_law 1145 = .ok (.invokestatic 296, 3) := de_184 (lb_71 (j := 9) (b := 184) rfl) (lb_71 (j := 10) (b := 1) rfl) (lb_71 (j := 11) (b := 40) rfl) rfl
theorem dL_law_1148 : decode cL_law 1148 = .ok (.istore 6, 2) := de_54 (lb_71 (j := 12) (b := 54) rfl) (lb_71 (j := 13) (b := 6) rfl) rfl
theorem dL_law_1150 : decode cL_law 1150 = .ok (.aload_n 2, 1) := de_44 (lb_71 (j := 14) (b := 44) rfl)
theorem dL_law_1151 : decode cL_law 1151 = .ok (.aload_n 0, 1) := de_42 (lb_71 (j := 15) (b := 42) rfl)
theorem dL_law_1152 : decode cL_law 1152 = .ok (.iload 5, 2) := de_21 (lb_72 (j := 0) (b := 21) rfl) (lb_72 (j := 1) (b := 5) rfl) rfl
theorem dL_law_1154 : decode cL_law 1154 = .ok (.iconst 1, 1) := de_4 (lb_72 (j := 2) (b := 4) rfl)
theorem dL_law_1155 : decode cL_law 1155 = .ok (.iadd, 1) := de_96 (lb_72 (j := 3) (b := 96) rfl)
theorem dL_law_1156 : decode cL_law 1156 = .ok (.iaload, 1) := de_46 (lb_72 (j := 4) (b := 46) rfl)
theorem dL_law_1157 : decode cL_law 1157 = .ok (.invokevirtual 298, 3) := de_182 (lb_72 (j := 5) (b := 182) rfl) (lb_72 (j := 6) (b := 1) rfl) (lb_72 (j := 7) (b := 42) rfl) rfl
theorem dL_law_1160 : decode cL_law 1160 = .ok (.istore 7, 2) := de_54 (lb_72 (j := 8) (b := 54) rfl) (lb_72 (j := 9) (b := 7) rfl) rfl
theorem dL_law_1162 : decode cL_law 1162 = .ok (.goto 1277, 3) := de_167 (lb_72 (j := 10) (b := 167) rfl) (lb_72 (j := 11) (b := 4) rfl) (lb_72 (j := 12) (b := 253) rfl) (by decide +kernel)
theorem dL_law_1165 : decode cL_law 1165 = .ok (.aload_n 1, 1) := de_43 (lb_72 (j := 13) (b := 43) rfl)
theorem dL_law_1166 : decode cL_law 1166 = .ok (.aload_n 0, 1) := de_42 (lb_72 (j := 14) (b := 42) rfl)
theorem dL_law_1167 : decode cL_law 1167 = .ok (.iload 5, 2) := de_21 (lb_72 (j := 15) (b := 21) rfl) (lb_73 (j := 0) (b := 5) rfl) rfl
theorem dL_law_1169 : decode cL_law 1169 = .ok (.iconst 1, 1) := de_4 (lb_73 (j := 1) (b := 4) rfl)
theorem dL_law_1170 : decode cL_law 1170 = .ok (.iadd, 1) := de_96 (lb_73 (j := 2) (b := 96) rfl)
theorem dL_law_1171 : decode cL_law 1171 = .ok (.iaload, 1) := de_46 (lb_73 (j := 3) (b := 46) rfl)
theorem dL_law_1172 : decode cL_law 1172 = .ok (.aload_n 3, 1) := de_45 (lb_73 (j := 4) (b := 45) rfl)
theorem dL_law_1173 : decode cL_law 1173 = .ok (.invokestatic 299, 3) := de_184 (lb_73 (j := 5) (b := 184) rfl) (lb_73 (j := 6) (b := 1) rfl) (lb_73 (j := 7) (b := 43) rfl) rfl
theorem dL_law_1176 : decode cL_law 1176 = .ok (.istore 6, 2) := de_54 (lb_73 (j := 8) (b := 54) rfl) (lb_73 (j := 9) (b := 6) rfl) rfl
theorem dL_law_1178 : decode cL_law 1178 = .ok (.aload_n 2, 1) := de_44 (lb_73 (j := 10) (b := 44) rfl)
theorem dL_law_1179 : decode cL_law 1179 = .ok (.aload_n 0, 1) := de_42 (lb_73 (j := 11) (b := 42) rfl)
theorem dL_law_1180 : decode cL_law 1180 = .ok (.iload 5, 2) := de_21 (lb_73 (j := 12) (b := 21) rfl) (lb_73 (j := 13) (b := 5) rfl) rfl
theorem dL_law_1182 : decode cL_law 1182 = .ok (.iconst 1, 1) := de_4 (lb_73 (j := 14) (b := 4) rfl)
theorem dL_law_1183 : decode cL_law 1183 = .ok (.iadd, 1) := de_96 (lb_73 (j := 15) (b := 96) rfl)
theorem dL_law_1184 : decode cL_law 1184 = .ok (.iaload, 1) := de_46 (lb_74 (j := 0) (b := 46) rfl)
theorem dL_law_1185 : decode cL_law 1185 = .ok (.invokevirtual 301, 3) := de_182 (lb_74 (j := 1) (b := 182) rfl) (lb_74 (j := 2) (b := 1) rfl) (lb_74 (j := 3) (b := 45) rfl) rfl
theorem dL_law_1188 : decode cL_law 1188 = .ok (.istore 7, 2) := de_54 (lb_74 (j := 4) (b := 54) rfl) (lb_74 (j := 5) (b := 7) rfl) rfl
theorem dL_law_1190 : decode cL_law 1190 = .ok (.goto 1249, 3) := de_167 (lb_74 (j := 6) (b := 167) rfl) (lb_74 (j := 7) (b := 4) rfl) (lb_74 (j := 8) (b := 225) rfl) (by decide +kernel)
theorem dL_law_1193 : decode cL_law 1193 = .ok (.aload_n 1, 1) := de_43 (lb_74 (j := 9) (b := 43) rfl)
theorem dL_law_1194 : decode cL_law 1194 = .ok (.aload_n 0, 1) := de_42 (lb_74 (j := 10) (b := 42) rfl)
theorem dL_law_1195 : decode cL_law 1195 = .ok (.iload 5, 2) := de_21 (lb_74 (j := 11) (b := 21) rfl) (lb_74 (j := 12) (b := 5) rfl) rfl
theorem dL_law_1197 : decode cL_law 1197 = .ok (.iconst 1, 1) := de_4 (lb_74 (j := 13) (b := 4) rfl)
theorem dL_law_1198 : decode cL_law 1198 = .ok (.iadd, 1) := de_96 (lb_74 (j := 14) (b := 96) rfl)
theorem dL_law_1199 : decode cL_law 1199 = .ok (.iaload, 1) := de_46 (lb_74 (j := 15) (b := 46) rfl)
theorem dL_law_1200 : decode cL_law 1200 = .ok (.aload_n 3, 1) := de_45 (lb_75 (j := 0) (b := 45) rfl)
theorem dL_law_1201 : decode cL_law 1201 = .ok (.invokestatic 302, 3) := de_184 (lb_75 (j := 1) (b := 184) rfl) (lb_75 (j := 2) (b := 1) rfl) (lb_75 (j := 3) (b := 46) rfl) rfl
theorem dL_law_1204 : decode cL_law 1204 = .ok (.istore 6, 2) := de_54 (lb_75 (j := 4) (b := 54) rfl) (lb_75 (j := 5) (b := 6) rfl) rfl
theorem dL_law_1206 : decode cL_law 1206 = .ok (.aload_n 2, 1) := de_44 (lb_75 (j := 6) (b := 44) rfl)
theorem dL_law_1207 : decode cL_law 1207 = .ok (.aload_n 0, 1) := de_42 (lb_75 (j := 7) (b := 42) rfl)
theorem dL_law_1208 : decode cL_law 1208 = .ok (.iload 5, 2) := de_21 (lb_75 (j := 8) (b := 21) rfl) (lb_75 (j := 9) (b := 5) rfl) rfl
theorem dL_law_1210 : decode cL_law 1210 = .ok (.iconst 1, 1) := de_4 (lb_75 (j := 10) (b := 4) rfl)
theorem dL_law_1211 : decode cL_law 1211 = .ok (.iadd, 1) := de_96 (lb_75 (j := 11) (b := 96) rfl)
theorem dL_law_1212 : decode cL_law 1212 = .ok (.iaload, 1) := de_46 (lb_75 (j := 12) (b := 46) rfl)
theorem dL_law_1213 : decode cL_law 1213 = .ok (.invokevirtual 304, 3) := de_182 (lb_75 (j := 13) (b := 182) rfl) (lb_75 (j := 14) (b := 1) rfl) (lb_75 (j := 15) (b := 48) rfl) rfl
theorem dL_law_1216 : decode cL_law 1216 = .ok (.lstore 7, 2) := de_55 (lb_76 (j := 0) (b := 55) rfl) (lb_76 (j := 1) (b := 7) rfl) rfl
theorem dL_law_1218 : decode cL_law 1218 = .ok (.goto 1221, 3) := de_167 (lb_76 (j := 2) (b := 167) rfl) (lb_76 (j := 3) (b := 4) rfl) (lb_76 (j := 4) (b := 197) rfl) (by decide +kernel)
theorem dL_law_1221 : decode cL_law 1221 = .ok (.aload_n 1, 1) := de_43 (lb_76 (j := 5) (b := 43) rfl)
theorem dL_law_1222 : decode cL_law 1222 = .ok (.aload_n 0, 1) := de_42 (lb_76 (j := 6) (b := 42) rfl)
theorem dL_law_1223 : decode cL_law 1223 = .ok (.iload 5, 2) := de_21 (lb_76 (j := 7) (b := 21) rfl) (lb_76 (j := 8) (b := 5) rfl) rfl
theorem dL_law_1225 : decode cL_law 1225 = .ok (.iconst 1, 1) := de_4 (lb_76 (j := 9) (b := 4) rfl)
theorem dL_law_1226 : decode cL_law 1226 = .ok (.iadd, 1) := de_96 (lb_76 (j := 10) (b := 96) rfl)
theorem dL_law_1227 : decode cL_law 1227 = .ok (.iaload, 1) := de_46 (lb_76 (j := 11) (b := 46) rfl)
theorem dL_law_1228 : decode cL_law 1228 = .ok (.aload_n 3, 1) := de_45 (lb_76 (j := 12) (b := 45) rfl)
theorem dL_law_1229 : decode cL_law 1229 = .ok (.invokestatic 305, 3) := de_184 (lb_76 (j := 13) (b := 184) rfl) (lb_76 (j := 14) (b := 1) rfl) (lb_76 (j := 15) (b := 49) rfl) rfl
theorem dL_law_1232 : decode cL_law 1232 = .ok (.istore 6, 2) := de_54 (lb_77 (j := 0) (b := 54) rfl) (lb_77 (j := 1) (b := 6) rfl) rfl
theorem dL_law_1234 : decode cL_law 1234 = .ok (.aload_n 2, 1) := de_44 (lb_77 (j := 2) (b := 44) rfl)
theorem dL_law_1235 : decode cL_law 1235 = .ok (.aload_n 0, 1) := de_42 (lb_77 (j := 3) (b := 42) rfl)
theorem dL_law_1236 : decode cL_law 1236 = .ok (.iload 5, 2) := de_21 (lb_77 (j := 4) (b := 21) rfl) (lb_77 (j := 5) (b := 5) rfl) rfl
theorem dL_law_1238 : decode cL_law 1238 = .ok (.iconst 1, 1) := de_4 (lb_77 (j := 6) (b := 4) rfl)
theorem dL_law_1239 : decode cL_law 1239 = .ok (.iadd, 1) := de_96 (lb_77 (j := 7) (b := 96) rfl)
theorem dL_law_1240 : decode cL_law 1240 = .ok (.iaload, 1) := de_46 (lb_77 (j := 8) (b := 46) rfl)
theorem dL_law_1241 : decode cL_law 1241 = .ok (.invokevirtual 307, 3) := de_182 (lb_77 (j := 9) (b := 182) rfl) (lb_77 (j := 10) (b := 1) rfl) (lb_77 (j := 11) (b := 51) rfl) rfl
theorem dL_law_1244 : decode cL_law 1244 = .ok (.istore 7, 2) := de_54 (lb_77 (j := 12) (b := 54) rfl) (lb_77 (j := 13) (b := 7) rfl) rfl
theorem dL_law_1246 : decode cL_law 1246 = .ok (.goto 1193, 3) := de_167 (lb_77 (j := 14) (b := 167) rfl) (lb_77 (j := 15) (b := 4) rfl) (lb_78 (j := 0) (b := 169) rfl) (by decide +kernel)
set_option maxHeartbeats 4000000 in
set_option maxRecDepth 100000 in
theorem y_a24 {p : Program} {e : Env} {s : State} {m : MethodId} {below : List Frame} {meth : Method} {c : Code} (l : Launch) (hst : l.stackTraces = false) {b L : Nat} {xs : Nat → Int32} (hx : p.tables.exec = Jvm.exec) (hb : c.code = code) (hml : c.maxLocals = 9) (hown : s.vm.findClass RL = some m.cls) (hts : ∀ w ∈ lw_tbl, w.before #[Value.ref b] s = true) (hX0 : va_X b L xs s s.heap) (hbl : b < s.heap.size) (hX : xT (fun q => s.heap.size ≤ q) s) (hN : nC s) (hTS : sAll s.heap.size s) {D : va_G} {cI cJ cZ cMic cSrc cSt cAI cAJ cD : ClassId} (hK : va_K D vwCl (CT cI cJ cZ cMic cSrc cSt cAI cAJ ++ [(cD, .double)]) s) {Q : State → Prop} {i j : Nat} (hi : i + 6 ≤ L) (hL : L ≤ 3072) (hj : j < 512) {aj ae : Nat} {ad am : Nat → Nat} {T : AT} {Sm : MS} {f : Nat → Int64} {g : Nat → UInt64} {ls : Array Slot} {H : Heap} {locs : List Loc} (hV : IV aR0 1586 aK1 aK2 T) (hrc : RC T) (hJ : JJ Sm) (G : gL cI cJ cZ cMic cSrc cSt cAI cAJ D ad (fun q => s.heap.size ≤ q) s.heap H locs T (oJ aj cJ f :: oD ae cD g :: MW cI cJ cZ am Sm)) (hl : lv_has ls 9 [(5, .int (nI i)), (4, .ref ae), (3, .ref aj), (2, .ref (am 0)), (1, .ref (ad 0)), (0, .ref b)]) (kk : ∀ {k1 : Nat} {r1 : Int32} {T1 : AT} {r2 : Int32} {S1 : MS} (ad2 : Nat → Nat) (f1 : Nat → Int64) (g1 : Nat → UInt64) (H1 : Heap) (locs1 : List Loc) (ls1 : Array Slot), g_X11_best T 0 = some (k1, r1, T1) → fr_best Sm = some (r2, S1) → ad2 0 = ad 0 → IV aR0 1586 aK1 aK2 T1 → RC T1 → JJ S1 → gL cI cJ cZ cMic cSrc cSt cAI cAJ D ad2 (fun q => s.heap.size ≤ q) s.heap H1 locs1 T1 (oJ aj cJ f1 :: oD ae cD g1 :: MW cI cJ cZ am S1) → lv_has ls1 9 [(5, .int (nI i)), (4, .ref ae), (3, .ref aj), (2, .ref (am 0)), (1, .ref (ad2 0)), (0, .ref b)] → W p l e room_1 s m #[Value.ref b] below meth c H1 locs1 (19 + T1.1 + (j + 1)) (38467 + sg T1 + 6 * (j + 1)) Q (F0 m 2439 ls1 [])) : W p l e room_1 s m #[Value.ref b] below meth c H locs (19 + T.1 + j) (38467 + sg T + 6 * j) Q (F0 m 1073 ls []) := by
  have E : cE p c cL_law s m #[Value.ref b] lw_tbl D RL (CT cI cJ cZ cMic cSrc cSt cAI cAJ ++ [(cD, .double)]) := ⟨hx, hb, hts, hown, hK⟩
  have hA : ∀ q : Nat, s.heap.size ≤ q → s.heap.size ≤ q := fun _ h => h
  have h0T : 0 < T.1 := Nat.lt_of_lt_of_le (by decide) hV.1.2.2
  have h0s : T.2.1 0 = (11, 0) := hV.2.1 0 ⟨by decide, by decide +kernel, by decide +kernel⟩
  refine lv_aload_n hx hb dL_law_1073 rfl (lv_at hl 4 rfl) ?_
  refine lv_aload_n hx hb dL_law_1074 rfl (lv_at hl 2 rfl) ?_
  obtain ⟨⟨k1, r1, T1⟩, hg, hc⟩ := cs_X11_best T 0 hV (by decide +kernel)
  have hV1 : IV aR0 1586 aK1 aK2 T1 := hc.1.1
  have hg1 := s_X11_best hg
  have hg2 := sg_le hg1
  have hg3 := hg1.1
  have hk := hV1.2.2.2.2.2.2
  have hrc1 := hg1.2.2 hrc
  have hr0 := a_room
  refine l_v (h0 := s.heap.size) (As := [.ref (ad 0), .ref aj]) (rest := []) E G hA hX hN (fun _ h => h) hTS hml (v_best l hst D s.heap.size ad T 0  aj f hg hrc h0T h0s) (vx_cwSW 2 hts (glA (L := [Cond.methodLink RL 283 yL_best, Cond.static yL_best, Cond.initialized RL]) (gl_in [(6, 23), (6, 24), (1, 0)] (by decide +kernel) (by decide +kernel)) ⟨(t_of [Cond.codeWith yL_best cL_best 3 (some .int) [(0, 8, 11, 21)]] [(6, 25)] (by decide +kernel) _ List.mem_cons_self), List.all_eq_true.mp (by decide +kernel : [Cond.codeWith yL_best cL_best 3 (some .int) [(0, 8, 11, 21)]].all goodWord = true) _ List.mem_cons_self⟩) rfl rfl rfl (by decide +kernel) ⟨Nat.le_of_ble_eq_true rfl, Nat.le_of_ble_eq_true rfl⟩) rfl hl.1 rfl (lv_room (Nat.le_of_ble_eq_true rfl)) dL_law_1075 ⟨by show _ ≤ 601024; omega, by show _ ≤ 7293034; omega⟩ ?_
  intro ad2 H locs had G
  rw [← had 0 h0T] at hl
  refine lv_istore (lv' := [(6, .int (vck 1 0 0 k1)), (5, .int (nI i)), (4, .ref ae), (3, .ref aj), (2, .ref (am 0)), (1, .ref (ad2 0)), (0, .ref b)]) hx hb dL_law_1078 hl (by decide) rfl (fun ls hl => ?_)
  refine lv_aload_n hx hb dL_law_1080 rfl (lv_at hl 4 rfl) ?_
  obtain ⟨⟨r2, S1⟩, hf, hj⟩ := sj_best Sm hJ
  have hJ1 : JJ S1 := hj
  refine y_mi (As := []) (rest := []) E G hA hX.2.2.2.2 hml (tr_best l D cI cJ cZ am Sm  hf) (cwV 0 hts (glM (L := [Cond.methodLink RL 286 yX12_best, Cond.instanceMethod yX12_best, Cond.selects RX12 yX12_best yX12_best, Cond.initialized RX12]) (gl_in [(9, 180), (9, 181), (9, 182), (1, 14)] (by decide +kernel) (by decide +kernel)) ⟨(t_of [Cond.code yX12_best cX12_best 1 (some .int)] [(9, 183)] (by decide +kernel) _ List.mem_cons_self), List.all_eq_true.mp (by decide +kernel : [Cond.code yX12_best cX12_best 1 (some .int)].all goodWord = true) _ List.mem_cons_self⟩) rfl rfl rfl (by decide +kernel) ⟨Nat.le_of_ble_eq_true rfl, Nat.le_of_ble_eq_true rfl⟩) rfl hl.1 rfl (lv_room (Nat.le_of_ble_eq_true rfl)) dL_law_1081 ⟨by show _ ≤ 601024; omega, by show _ ≤ 7293034; omega⟩ (fun H locs G => ?_)
  refine lv_istore (lv' := [(7, .int r2), (6, .int (vck 1 0 0 k1)), (5, .int (nI i)), (4, .ref ae), (3, .ref aj), (2, .ref (am 0)), (1, .ref (ad2 0)), (0, .ref b)]) hx hb dL_law_1084 hl (by decide) rfl (fun ls hl => ?_)
  refine lv_goto (tgt := 2439) hx hb dL_law_1086 (by decide) ?_
  have hl := lv_sub hl [2, 3, 4, 5, 6, 7] rfl
  refine W.widen (k := 19 + T1.1 + (j + 1)) (n := 38467 + sg T1 + 6 * (j + 1)) (by omega) (by omega) ?_
  exact kk ad2 (vfJ k1 f r1.toInt64) g H locs ls hg hf (had 0 h0T) hV1 hrc1 hJ1 G hl
set_option maxHeartbeats 4000000 in
set_option maxRecDepth 100000 in
theorem y_a25 {p : Program} {e : Env} {s : State} {m : MethodId} {below : List Frame} {meth : Method} {c : Code} (l : Launch) (hst : l.stackTraces = false) {b L : Nat} {xs : Nat → Int32} (hx : p.tables.exec = Jvm.exec) (hb : c.code = code) (hml : c.maxLocals = 9) (hown : s.vm.findClass RL = some m.cls) (hts : ∀ w ∈ lw_tbl, w.before #[Value.ref b] s = true) (hX0 : va_X b L xs s s.heap) (hbl : b < s.heap.size) (hX : xT (fun q => s.heap.size ≤ q) s) (hN : nC s) (hTS : sAll s.heap.size s) {D : va_G} {cI cJ cZ cMic cSrc cSt cAI cAJ cD : ClassId} (hK : va_K D vwCl (CT cI cJ cZ cMic cSrc cSt cAI cAJ ++ [(cD, .double)]) s) {Q : State → Prop} {i j : Nat} (hi : i + 6 ≤ L) (hL : L ≤ 3072) (hj : j < 512) {aj ae : Nat} {ad am : Nat → Nat} {T : AT} {Sm : MS} {f : Nat → Int64} {g : Nat → UInt64} {ls : Array Slot} {H : Heap} {locs : List Loc} (hV : IV aR0 1586 aK1 aK2 T) (hrc : RC T) (hJ : JJ Sm) (G : gL cI cJ cZ cMic cSrc cSt cAI cAJ D ad (fun q => s.heap.size ≤ q) s.heap H locs T (oJ aj cJ f :: oD ae cD g :: MW cI cJ cZ am Sm)) (hl : lv_has ls 9 [(5, .int (nI i)), (4, .ref ae), (3, .ref aj), (2, .ref (am 0)), (1, .ref (ad 0)), (0, .ref b)]) (kk : ∀ {k1 : Nat} {r1 : Int64} {T1 : AT} {r2 : Int64} {S1 : MS} (ad2 : Nat → Nat) (f1 : Nat → Int64) (g1 : Nat → UInt64) (H1 : Heap) (locs1 : List Loc) (ls1 : Array Slot), g_X11_bestPower T 0 = some (k1, r1, T1) → fr_bestPower Sm = some (r2, S1) → ad2 0 = ad 0 → IV aR0 1586 aK1 aK2 T1 → RC T1 → JJ S1 → gL cI cJ cZ cMic cSrc cSt cAI cAJ D ad2 (fun q => s.heap.size ≤ q) s.heap H1 locs1 T1 (oJ aj cJ f1 :: oD ae cD g1 :: MW cI cJ cZ am S1) → lv_has ls1 9 [(5, .int (nI i)), (4, .ref ae), (3, .ref aj), (2, .ref (am 0)), (1, .ref (ad2 0)), (0, .ref b)] → W p l e room_1 s m #[Value.ref b] below meth c H1 locs1 (19 + T1.1 + (j + 1)) (38467 + sg T1 + 6 * (j + 1)) Q (F0 m 2439 ls1 [])) : W p l e room_1 s m #[Value.ref b] below meth c H locs (19 + T.1 + j) (38467 + sg T + 6 * j) Q (F0 m 1089 ls []) := by
  have E : cE p c cL_law s m #[Value.ref b] lw_tbl D RL (CT cI cJ cZ cMic cSrc cSt cAI cAJ ++ [(cD, .double)]) := ⟨hx, hb, hts, hown, hK⟩
  have hA : ∀ q : Nat, s.heap.size ≤ q → s.heap.size ≤ q := fun _ h => h
  have h0T : 0 < T.1 := Nat.lt_of_lt_of_le (by decide) hV.1.2.2
  have h0s : T.2.1 0 = (11, 0) := hV.2.1 0 ⟨by decide, by decide +kernel, by decide +kernel⟩
  refine lv_aload_n hx hb dL_law_1089 rfl (lv_at hl 4 rfl) ?_
  refine lv_aload_n hx hb dL_law_1090 rfl (lv_at hl 2 rfl) ?_
  obtain ⟨⟨k1, r1, T1⟩, hg, hc⟩ := cs_X11_bestPower T 0 hV (by decide +kernel)
  have hV1 : IV aR0 1586 aK1 aK2 T1 := hc.1.1
  have hg1 := s_X11_bestPower hg
  have hg2 := sg_le hg1
  have hg3 := hg1.1
  have hk := hV1.2.2.2.2.2.2
  have hrc1 := hg1.2.2 hrc
  have hr0 := a_room
  refine l_v (h0 := s.heap.size) (As := [.ref (ad 0), .ref aj]) (rest := []) E G hA hX hN (fun _ h => h) hTS hml (v_bestPower l hst D s.heap.size ad T 0  aj f hg hrc h0T h0s) (vx_cwSW 2 hts (glA (L := [Cond.methodLink RL 287 yL_bestPower, Cond.static yL_bestPower, Cond.initialized RL]) (gl_in [(6, 30), (6, 31), (1, 0)] (by decide +kernel) (by decide +kernel)) ⟨(t_of [Cond.codeWith yL_bestPower cL_bestPower 3 (some .int) [(0, 7, 10, 21)]] [(6, 32)] (by decide +kernel) _ List.mem_cons_self), List.all_eq_true.mp (by decide +kernel : [Cond.codeWith yL_bestPower cL_bestPower 3 (some .int) [(0, 7, 10, 21)]].all goodWord = true) _ List.mem_cons_self⟩) rfl rfl rfl (by decide +kernel) ⟨Nat.le_of_ble_eq_true rfl, Nat.le_of_ble_eq_true rfl⟩) rfl hl.1 rfl (lv_room (Nat.le_of_ble_eq_true rfl)) dL_law_1091 ⟨by show _ ≤ 601024; omega, by show _ ≤ 7293034; omega⟩ ?_
  intro ad2 H locs had G
  rw [← had 0 h0T] at hl
  refine lv_istore (lv' := [(6, .int (vck 1 0 0 k1)), (5, .int (nI i)), (4, .ref ae), (3, .ref aj), (2, .ref (am 0)), (1, .ref (ad2 0)), (0, .ref b)]) hx hb dL_law_1094 hl (by decide) rfl (fun ls hl => ?_)
  refine lv_aload_n hx hb dL_law_1096 rfl (lv_at hl 4 rfl) ?_
  obtain ⟨⟨r2, S1⟩, hf, hj⟩ := sj_bestPower Sm hJ
  have hJ1 : JJ S1 := hj
  refine y_ml (As := []) (rest := []) E G hA hX.2.2.2.2 hml (tr_bestPower l D cI cJ cZ am Sm  hf) (cwV 0 hts (glM (L := [Cond.methodLink RL 289 yX12_bestPower, Cond.instanceMethod yX12_bestPower, Cond.selects RX12 yX12_bestPower yX12_bestPower, Cond.initialized RX12]) (gl_in [(9, 192), (9, 193), (9, 194), (1, 14)] (by decide +kernel) (by decide +kernel)) ⟨(t_of [Cond.code yX12_bestPower cX12_bestPower 1 (some .long)] [(9, 195)] (by decide +kernel) _ List.mem_cons_self), List.all_eq_true.mp (by decide +kernel : [Cond.code yX12_bestPower cX12_bestPower 1 (some .long)].all goodWord = true) _ List.mem_cons_self⟩) rfl rfl rfl (by decide +kernel) ⟨Nat.le_of_ble_eq_true rfl, Nat.le_of_ble_eq_true rfl⟩) rfl hl.1 rfl (lv_room (Nat.le_of_ble_eq_true rfl)) dL_law_1097 ⟨by show _ ≤ 601024; omega, by show _ ≤ 7293034; omega⟩ (fun H locs G => ?_)
  refine lv_lstore (lv' := [(7, .long r2), (6, .int (vck 1 0 0 k1)), (5, .int (nI i)), (4, .ref ae), (3, .ref aj), (2, .ref (am 0)), (1, .ref (ad2 0)), (0, .ref b)]) hx hb dL_law_1100 hl (by decide) rfl (fun ls hl => ?_)
  refine lv_goto (tgt := 2439) hx hb dL_law_1102 (by decide) ?_
  have hl := lv_sub hl [2, 3, 4, 5, 6, 7] rfl
  refine W.widen (k := 19 + T1.1 + (j + 1)) (n := 38467 + sg T1 + 6 * (j + 1)) (by omega) (by omega) ?_
  exact kk ad2 (vfJ k1 f r1) g H locs ls hg hf (had 0 h0T) hV1 hrc1 hJ1 G hl
set_option maxHeartbeats 4000000 in
set_option maxRecDepth 100000 in
theorem y_a26 {p : Program} {e : Env} {s : State} {m : MethodId} {below : List Frame} {meth : Method} {c : Code} (l : Launch) (hst : l.stackTraces = false) {b L : Nat} {xs : Nat → Int32} (hx : p.tables.exec = Jvm.exec) (hb : c.code = code) (hml : c.maxLocals = 9) (hown : s.vm.findClass RL = some m.cls) (hts : ∀ w ∈ lw_tbl, w.before #[Value.ref b] s = true) (hX0 : va_X b L xs s s.heap) (hbl : b < s.heap.size) (hX : xT (fun q => s.heap.size ≤ q) s) (hN : nC s) (hTS : sAll s.heap.size s) {D : va_G} {cI cJ cZ cMic cSrc cSt cAI cAJ cD : ClassId} (hK : va_K D vwCl (CT cI cJ cZ cMic cSrc cSt cAI cAJ ++ [(cD, .double)]) s) {Q : State → Prop} {i j : Nat} (hi : i + 6 ≤ L) (hL : L ≤ 3072) (hj : j < 512) {aj ae : Nat} {ad am : Nat → Nat} {T : AT} {Sm : MS} {f : Nat → Int64} {g : Nat → UInt64} {ls : Array Slot} {H : Heap} {locs : List Loc} (hV : IV aR0 1586 aK1 aK2 T) (hrc : RC T) (hJ : JJ Sm) (G : gL cI cJ cZ cMic cSrc cSt cAI cAJ D ad (fun q => s.heap.size ≤ q) s.heap H locs T (oJ aj cJ f :: oD ae cD g :: MW cI cJ cZ am Sm)) (hl : lv_has ls 9 [(5, .int (nI i)), (4, .ref ae), (3, .ref aj), (2, .ref (am 0)), (1, .ref (ad 0)), (0, .ref b)]) (kk : ∀ {k1 : Nat} {r1 : Int64} {T1 : AT} {r2 : Int64} {S1 : MS} (ad2 : Nat → Nat) (f1 : Nat → Int64) (g1 : Nat → UInt64) (H1 : Heap) (locs1 : List Loc) (ls1 : Array Slot), g_X11_meanPower T 0 = some (k1, r1, T1) → fr_meanPower Sm = some (r2, S1) → ad2 0 = ad 0 → IV aR0 1586 aK1 aK2 T1 → RC T1 → JJ S1 → gL cI cJ cZ cMic cSrc cSt cAI cAJ D ad2 (fun q => s.heap.size ≤ q) s.heap H1 locs1 T1 (oJ aj cJ f1 :: oD ae cD g1 :: MW cI cJ cZ am S1) → lv_has ls1 9 [(5, .int (nI i)), (4, .ref ae), (3, .ref aj), (2, .ref (am 0)), (1, .ref (ad2 0)), (0, .ref b)] → W p l e room_1 s m #[Value.ref b] below meth c H1 locs1 (19 + T1.1 + (j + 1)) (38467 + sg T1 + 6 * (j + 1)) Q (F0 m 2439 ls1 [])) : W p l e room_1 s m #[Value.ref b] below meth c H locs (19 + T.1 + j) (38467 + sg T + 6 * j) Q (F0 m 1105 ls []) := by
  have E : cE p c cL_law s m #[Value.ref b] lw_tbl D RL (CT cI cJ cZ cMic cSrc cSt cAI cAJ ++ [(cD, .double)]) := ⟨hx, hb, hts, hown, hK⟩
  have hA : ∀ q : Nat, s.heap.size ≤ q → s.heap.size ≤ q := fun _ h => h
  have h0T : 0 < T.1 := Nat.lt_of_lt_of_le (by decide) hV.1.2.2
  have h0s : T.2.1 0 = (11, 0) := hV.2.1 0 ⟨by decide, by decide +kernel, by decide +kernel⟩
  refine lv_aload_n hx hb dL_law_1105 rfl (lv_at hl 4 rfl) ?_
  refine lv_aload_n hx hb dL_law_1106 rfl (lv_at hl 2 rfl) ?_
  obtain ⟨⟨k1, r1, T1⟩, hg, hc⟩ := cs_X11_meanPower T 0 hV (by decide +kernel)
  have hV1 : IV aR0 1586 aK1 aK2 T1 := hc.1.1
  have hg1 := s_X11_meanPower hg
  have hg2 := sg_le hg1
  have hg3 := hg1.1
  have hk := hV1.2.2.2.2.2.2
  have hrc1 := hg1.2.2 hrc
  have hr0 := a_room
  refine l_v (h0 := s.heap.size) (As := [.ref (ad 0), .ref aj]) (rest := []) E G hA hX hN (fun _ h => h) hTS hml (v_meanPower l hst D s.heap.size ad T 0  aj f hg hrc h0T h0s) (vx_cwSW 2 hts (glA (L := [Cond.methodLink RL 290 yL_meanPower, Cond.static yL_meanPower, Cond.initialized RL]) (gl_in [(6, 37), (6, 38), (1, 0)] (by decide +kernel) (by decide +kernel)) ⟨(t_of [Cond.codeWith yL_meanPower cL_meanPower 3 (some .int) [(0, 7, 10, 21)]] [(6, 39)] (by decide +kernel) _ List.mem_cons_self), List.all_eq_true.mp (by decide +kernel : [Cond.codeWith yL_meanPower cL_meanPower 3 (some .int) [(0, 7, 10, 21)]].all goodWord = true) _ List.mem_cons_self⟩) rfl rfl rfl (by decide +kernel) ⟨Nat.le_of_ble_eq_true rfl, Nat.le_of_ble_eq_true rfl⟩) rfl hl.1 rfl (lv_room (Nat.le_of_ble_eq_true rfl)) dL_law_1107 ⟨by show _ ≤ 601024; omega, by show _ ≤ 7293034; omega⟩ ?_
  intro ad2 H locs had G
  rw [← had 0 h0T] at hl
  refine lv_istore (lv' := [(6, .int (vck 1 0 0 k1)), (5, .int (nI i)), (4, .ref ae), (3, .ref aj), (2, .ref (am 0)), (1, .ref (ad2 0)), (0, .ref b)]) hx hb dL_law_1110 hl (by decide) rfl (fun ls hl => ?_)
  refine lv_aload_n hx hb dL_law_1112 rfl (lv_at hl 4 rfl) ?_
  obtain ⟨⟨r2, S1⟩, hf, hj⟩ := sj_meanPower Sm hJ
  have hJ1 : JJ S1 := hj
  refine y_ml (As := []) (rest := []) E G hA hX.2.2.2.2 hml (tr_meanPower l D cI cJ cZ am Sm  hf) (cwV 0 hts (glM (L := [Cond.methodLink RL 292 yX12_meanPower, Cond.instanceMethod yX12_meanPower, Cond.selects RX12 yX12_meanPower yX12_meanPower, Cond.initialized RX12]) (gl_in [(9, 196), (9, 197), (9, 198), (1, 14)] (by decide +kernel) (by decide +kernel)) ⟨(t_of [Cond.code yX12_meanPower cX12_meanPower 4 (some .long)] [(9, 199)] (by decide +kernel) _ List.mem_cons_self), List.all_eq_true.mp (by decide +kernel : [Cond.code yX12_meanPower cX12_meanPower 4 (some .long)].all goodWord = true) _ List.mem_cons_self⟩) rfl rfl rfl (by decide +kernel) ⟨Nat.le_of_ble_eq_true rfl, Nat.le_of_ble_eq_true rfl⟩) rfl hl.1 rfl (lv_room (Nat.le_of_ble_eq_true rfl)) dL_law_1113 ⟨by show _ ≤ 601024; omega, by show _ ≤ 7293034; omega⟩ (fun H locs G => ?_)
  refine lv_lstore (lv' := [(7, .long r2), (6, .int (vck 1 0 0 k1)), (5, .int (nI i)), (4, .ref ae), (3, .ref aj), (2, .ref (am 0)), (1, .ref (ad2 0)), (0, .ref b)]) hx hb dL_law_1116 hl (by decide) rfl (fun ls hl => ?_)
  refine lv_goto (tgt := 2439) hx hb dL_law_1118 (by decide) ?_
  have hl := lv_sub hl [2, 3, 4, 5, 6, 7] rfl
  refine W.widen (k := 19 + T1.1 + (j + 1)) (n := 38467 + sg T1 + 6 * (j + 1)) (by omega) (by omega) ?_
  exact kk ad2 (vfJ k1 f r1) g H locs ls hg hf (had 0 h0T) hV1 hrc1 hJ1 G hl
set_option maxHeartbeats 4000000 in
set_option maxRecDepth 100000 in
theorem y_a27 {p : Program} {e : Env} {s : State} {m : MethodId} {below : List Frame} {meth : Method} {c : Code} (l : Launch) (hst : l.stackTraces = false) {b L : Nat} {xs : Nat → Int32} (hx : p.tables.exec = Jvm.exec) (hb : c.code = code) (hml : c.maxLocals = 9) (hown : s.vm.findClass RL = some m.cls) (hts : ∀ w ∈ lw_tbl, w.before #[Value.ref b] s = true) (hX0 : va_X b L xs s s.heap) (hbl : b < s.heap.size) (hX : xT (fun q => s.heap.size ≤ q) s) (hN : nC s) (hTS : sAll s.heap.size s) {D : va_G} {cI cJ cZ cMic cSrc cSt cAI cAJ cD : ClassId} (hK : va_K D vwCl (CT cI cJ cZ cMic cSrc cSt cAI cAJ ++ [(cD, .double)]) s) {Q : State → Prop} {i j : Nat} (hi : i + 6 ≤ L) (hL : L ≤ 3072) (hj : j < 512) {aj ae : Nat} {ad am : Nat → Nat} {T : AT} {Sm : MS} {f : Nat → Int64} {g : Nat → UInt64} {ls : Array Slot} {H : Heap} {locs : List Loc} (hV : IV aR0 1586 aK1 aK2 T) (hrc : RC T) (hJ : JJ Sm) (G : gL cI cJ cZ cMic cSrc cSt cAI cAJ D ad (fun q => s.heap.size ≤ q) s.heap H locs T (oJ aj cJ f :: oD ae cD g :: MW cI cJ cZ am Sm)) (hl : lv_has ls 9 [(5, .int (nI i)), (4, .ref ae), (3, .ref aj), (2, .ref (am 0)), (1, .ref (ad 0)), (0, .ref b)]) (kk : ∀ {k1 : Nat} {r1 : Int32} {T1 : AT} {r2 : Int32} {S1 : MS} (ad2 : Nat → Nat) (f1 : Nat → Int64) (g1 : Nat → UInt64) (H1 : Heap) (locs1 : List Loc) (ls1 : Array Slot), g_X11_peaks T 0 = some (k1, r1, T1) → fr_peaks Sm = some (r2, S1) → ad2 0 = ad 0 → IV aR0 1586 aK1 aK2 T1 → RC T1 → JJ S1 → gL cI cJ cZ cMic cSrc cSt cAI cAJ D ad2 (fun q => s.heap.size ≤ q) s.heap H1 locs1 T1 (oJ aj cJ f1 :: oD ae cD g1 :: MW cI cJ cZ am S1) → lv_has ls1 9 [(5, .int (nI i)), (4, .ref ae), (3, .ref aj), (2, .ref (am 0)), (1, .ref (ad2 0)), (0, .ref b)] → W p l e room_1 s m #[Value.ref b] below meth c H1 locs1 (19 + T1.1 + (j + 1)) (38467 + sg T1 + 6 * (j + 1)) Q (F0 m 2439 ls1 [])) : W p l e room_1 s m #[Value.ref b] below meth c H locs (19 + T.1 + j) (38467 + sg T + 6 * j) Q (F0 m 1121 ls []) := by
  have E : cE p c cL_law s m #[Value.ref b] lw_tbl D RL (CT cI cJ cZ cMic cSrc cSt cAI cAJ ++ [(cD, .double)]) := ⟨hx, hb, hts, hown, hK⟩
  have hA : ∀ q : Nat, s.heap.size ≤ q → s.heap.size ≤ q := fun _ h => h
  have h0T : 0 < T.1 := Nat.lt_of_lt_of_le (by decide) hV.1.2.2
  have h0s : T.2.1 0 = (11, 0) := hV.2.1 0 ⟨by decide, by decide +kernel, by decide +kernel⟩
  refine lv_aload_n hx hb dL_law_1121 rfl (lv_at hl 4 rfl) ?_
  refine lv_aload_n hx hb dL_law_1122 rfl (lv_at hl 2 rfl) ?_
  obtain ⟨⟨k1, r1, T1⟩, hg, hc⟩ := cs_X11_peaks T 0 hV (by decide +kernel)
  have hV1 : IV aR0 1586 aK1 aK2 T1 := hc.1.1
  have hg1 := s_X11_peaks hg
  have hg2 := sg_le hg1
  have hg3 := hg1.1
  have hk := hV1.2.2.2.2.2.2
  have hrc1 := hg1.2.2 hrc
  have hr0 := a_room
  refine l_v (h0 := s.heap.size) (As := [.ref (ad 0), .ref aj]) (rest := []) E G hA hX hN (fun _ h => h) hTS hml (v_peaks l hst D s.heap.size ad T 0  aj f hg hrc h0T h0s) (vx_cwSW 2 hts (glA (L := [Cond.methodLink RL 293 yL_peaks, Cond.static yL_peaks, Cond.initialized RL]) (gl_in [(6, 51), (6, 52), (1, 0)] (by decide +kernel) (by decide +kernel)) ⟨(t_of [Cond.codeWith yL_peaks cL_peaks 3 (some .int) [(0, 8, 11, 21)]] [(6, 53)] (by decide +kernel) _ List.mem_cons_self), List.all_eq_true.mp (by decide +kernel : [Cond.codeWith yL_peaks cL_peaks 3 (some .int) [(0, 8, 11, 21)]].all goodWord = true) _ List.mem_cons_self⟩) rfl rfl rfl (by decide +kernel) ⟨Nat.le_of_ble_eq_true rfl, Nat.le_of_ble_eq_true rfl⟩) rfl hl.1 rfl (lv_room (Nat.le_of_ble_eq_true rfl)) dL_law_1123 ⟨by show _ ≤ 601024; omega, by show _ ≤ 7293034; omega⟩ ?_
  intro ad2 H locs had G
  rw [← had 0 h0T] at hl
  refine lv_istore (lv' := [(6, .int (vck 1 0 0 k1)), (5, .int (nI i)), (4, .ref ae), (3, .ref aj), (2, .ref (am 0)), (1, .ref (ad2 0)), (0, .ref b)]) hx hb dL_law_1126 hl (by decide) rfl (fun ls hl => ?_)
  refine lv_aload_n hx hb dL_law_1128 rfl (lv_at hl 4 rfl) ?_
  obtain ⟨⟨r2, S1⟩, hf, hj⟩ := sj_peaks Sm hJ
  have hJ1 : JJ S1 := hj
  refine y_mi (As := []) (rest := []) E G hA hX.2.2.2.2 hml (tr_peaks l D cI cJ cZ am Sm  hf) (cwV 0 hts (glM (L := [Cond.methodLink RL 295 yX12_peaks, Cond.instanceMethod yX12_peaks, Cond.selects RX12 yX12_peaks yX12_peaks, Cond.initialized RX12]) (gl_in [(9, 200), (9, 201), (9, 202), (1, 14)] (by decide +kernel) (by decide +kernel)) ⟨(t_of [Cond.code yX12_peaks cX12_peaks 3 (some .int)] [(9, 203)] (by decide +kernel) _ List.mem_cons_self), List.all_eq_true.mp (by decide +kernel : [Cond.code yX12_peaks cX12_peaks 3 (some .int)].all goodWord = true) _ List.mem_cons_self⟩) rfl rfl rfl (by decide +kernel) ⟨Nat.le_of_ble_eq_true rfl, Nat.le_of_ble_eq_true rfl⟩) rfl hl.1 rfl (lv_room (Nat.le_of_ble_eq_true rfl)) dL_law_1129 ⟨by show _ ≤ 601024; omega, by show _ ≤ 7293034; omega⟩ (fun H locs G => ?_)
  refine lv_istore (lv' := [(7, .int r2), (6, .int (vck 1 0 0 k1)), (5, .int (nI i)), (4, .ref ae), (3, .ref aj), (2, .ref (am 0)), (1, .ref (ad2 0)), (0, .ref b)]) hx hb dL_law_1132 hl (by decide) rfl (fun ls hl => ?_)
  refine lv_goto (tgt := 2439) hx hb dL_law_1134 (by decide) ?_
  have hl := lv_sub hl [2, 3, 4, 5, 6, 7] rfl
  refine W.widen (k := 19 + T1.1 + (j + 1)) (n := 38467 + sg T1 + 6 * (j + 1)) (by omega) (by omega) ?_
  exact kk ad2 (vfJ k1 f r1.toInt64) g H locs ls hg hf (had 0 h0T) hV1 hrc1 hJ1 G hl
set_option maxHeartbeats 4000000 in
set_option maxRecDepth 100000 in
theorem y_a28 {p : Program} {e : Env} {s : State} {m : MethodId} {below : List Frame} {meth : Method} {c : Code} (l : Launch) (hst : l.stackTraces = false) {b L : Nat} {xs : Nat → Int32} (hx : p.tables.exec = Jvm.exec) (hb : c.code = code) (hml : c.maxLocals = 9) (hown : s.vm.findClass RL = some m.cls) (hts : ∀ w ∈ lw_tbl, w.before #[Value.ref b] s = true) (hX0 : va_X b L xs s s.heap) (hbl : b < s.heap.size) (hX : xT (fun q => s.heap.size ≤ q) s) (hN : nC s) (hTS : sAll s.heap.size s) {D : va_G} {cI cJ cZ cMic cSrc cSt cAI cAJ cD : ClassId} (hK : va_K D vwCl (CT cI cJ cZ cMic cSrc cSt cAI cAJ ++ [(cD, .double)]) s) {Q : State → Prop} {i j : Nat} (hi : i + 6 ≤ L) (hL : L ≤ 3072) (hj : j < 512) {aj ae : Nat} {ad am : Nat → Nat} {T : AT} {Sm : MS} {f : Nat → Int64} {g : Nat → UInt64} {ls : Array Slot} {H : Heap} {locs : List Loc} (hV : IV aR0 1586 aK1 aK2 T) (hrc : RC T) (hJ : JJ Sm) (G : gL cI cJ cZ cMic cSrc cSt cAI cAJ D ad (fun q => s.heap.size ≤ q) s.heap H locs T (oJ aj cJ f :: oD ae cD g :: MW cI cJ cZ am Sm)) (hl : lv_has ls 9 [(5, .int (nI i)), (4, .ref ae), (3, .ref aj), (2, .ref (am 0)), (1, .ref (ad 0)), (0, .ref b)]) (kk : ∀ {k1 : Nat} {r1 : Int32} {T1 : AT} {r2 : Int32} {S1 : MS} (ad2 : Nat → Nat) (f1 : Nat → Int64) (g1 : Nat → UInt64) (H1 : Heap) (locs1 : List Loc) (ls1 : Array Slot), g_X11_peakAt T 0 (xs (i + 1)) = some (k1, r1, T1) → fr_peakAt Sm (xs (i + 1)) = some (r2, S1) → ad2 0 = ad 0 → IV aR0 1586 aK1 aK2 T1 → RC T1 → JJ S1 → gL cI cJ cZ cMic cSrc cSt cAI cAJ D ad2 (fun q => s.heap.size ≤ q) s.heap H1 locs1 T1 (oJ aj cJ f1 :: oD ae cD g1 :: MW cI cJ cZ am S1) → lv_has ls1 9 [(5, .int (nI i)), (4, .ref ae), (3, .ref aj), (2, .ref (am 0)), (1, .ref (ad2 0)), (0, .ref b)] → W p l e room_1 s m #[Value.ref b] below meth c H1 locs1 (19 + T1.1 + (j + 1)) (38467 + sg T1 + 6 * (j + 1)) Q (F0 m 2439 ls1 [])) : W p l e room_1 s m #[Value.ref b] below meth c H locs (19 + T.1 + j) (38467 + sg T + 6 * j) Q (F0 m 1137 ls []) := by
  have E : cE p c cL_law s m #[Value.ref b] lw_tbl D RL (CT cI cJ cZ cMic cSrc cSt cAI cAJ ++ [(cD, .double)]) := ⟨hx, hb, hts, hown, hK⟩
  have hA : ∀ q : Nat, s.heap.size ≤ q → s.heap.size ≤ q := fun _ h => h
  have h0T : 0 < T.1 := Nat.lt_of_lt_of_le (by decide) hV.1.2.2
  have h0s : T.2.1 0 = (11, 0) := hV.2.1 0 ⟨by decide, by decide +kernel, by decide +kernel⟩
  refine lv_aload_n hx hb dL_law_1137 rfl (lv_at hl 4 rfl) ?_
  refine lv_aload_n hx hb dL_law_1138 rfl (lv_at hl 5 rfl) ?_
  refine lv_iload hx hb dL_law_1139 (lv_at hl 0 rfl) ?_
  refine lv_iconst (v := 1) hx hb dL_law_1141 (by decide) ?_
  refine lv_iadd hx hb dL_law_1142 ?_
  refine lv_to (y := nI (i + 1)) (nI_add i 1) ?_
  refine va_sld hx hb hX0 hbl (Nat.not_le.mpr hbl) G.2.2 (i := nI (i + 1)) (vp_in_nI (n := i + 1) (N := L) (by omega) (by omega)) dL_law_1143 ?_
  refine lv_to (y := xs (i + 1)) (congrArg xs (nI_clamp (by omega))) ?_
  refine lv_aload_n hx hb dL_law_1144 rfl (lv_at hl 2 rfl) ?_
  obtain ⟨⟨k1, r1, T1⟩, hg, hc⟩ := cs_X11_peakAt T 0 (xs (i + 1)) hV (by decide +kernel)
  have hV1 : IV aR0 1586 aK1 aK2 T1 := hc.1.1
  have hg1 := s_X11_peakAt hg
  have hg2 := sg_le hg1
  have hg3 := hg1.1
  have hk := hV1.2.2.2.2.2.2
  have hrc1 := hg1.2.2 hrc
  have hr0 := a_room
  refine l_v (h0 := s.heap.size) (As := [.ref (ad 0), .int (xs (i + 1)), .ref aj]) (rest := []) E G hA hX hN (fun _ h => h) hTS hml (v_peakAt l hst D s.heap.size ad T 0 (xs (i + 1)) aj f hg hrc h0T h0s) (vx_cwSW 3 hts (glA (L := [Cond.methodLink RL 296 yL_peakAt, Cond.static yL_peakAt, Cond.initialized RL]) (gl_in [(6, 58), (6, 59), (1, 0)] (by decide +kernel) (by decide +kernel)) ⟨(t_of [Cond.codeWith yL_peakAt cL_peakAt 4 (some .int) [(0, 9, 12, 21), (0, 9, 15, 13)]] [(6, 60)] (by decide +kernel) _ List.mem_cons_self), List.all_eq_true.mp (by decide +kernel : [Cond.codeWith yL_peakAt cL_peakAt 4 (some .int) [(0, 9, 12, 21), (0, 9, 15, 13)]].all goodWord = true) _ List.mem_cons_self⟩) rfl rfl rfl (by decide +kernel) ⟨Nat.le_of_ble_eq_true rfl, Nat.le_of_ble_eq_true rfl⟩) rfl hl.1 rfl (lv_room (Nat.le_of_ble_eq_true rfl)) dL_law_1145 ⟨by show _ ≤ 601024; omega, by show _ ≤ 7293034; omega⟩ ?_
  intro ad2 H locs had G
  rw [← had 0 h0T] at hl
  refine lv_istore (lv' := [(6, .int (vck 1 2 0 k1)), (5, .int (nI i)), (4, .ref ae), (3, .ref aj), (2, .ref (am 0)), (1, .ref (ad2 0)), (0, .ref b)]) hx hb dL_law_1148 hl (by decide) rfl (fun ls hl => ?_)
  refine lv_aload_n hx hb dL_law_1150 rfl (lv_at hl 4 rfl) ?_
  refine lv_aload_n hx hb dL_law_1151 rfl (lv_at hl 6 rfl) ?_
  refine lv_iload hx hb dL_law_1152 (lv_at hl 1 rfl) ?_
  refine lv_iconst (v := 1) hx hb dL_law_1154 (by decide) ?_
  refine lv_iadd hx hb dL_law_1155 ?_
  refine lv_to (y := nI (i + 1)) (nI_add i 1) ?_
  refine va_sld hx hb hX0 hbl (Nat.not_le.mpr hbl) G.2.2 (i := nI (i + 1)) (vp_in_nI (n := i + 1) (N := L) (by omega) (by omega)) dL_law_1156 ?_
  refine lv_to (y := xs (i + 1)) (congrArg xs (nI_clamp (by omega))) ?_
  obtain ⟨⟨r2, S1⟩, hf, hj⟩ := sj_peakAt Sm (xs (i + 1)) hJ
  have hJ1 : JJ S1 := hj
  refine y_mi (As := [.int (xs (i + 1))]) (rest := []) E G hA hX.2.2.2.2 hml (tr_peakAt l D cI cJ cZ am Sm (xs (i + 1)) hf) (cwV 1 hts (glM (L := [Cond.methodLink RL 298 yX12_peakAt, Cond.instanceMethod yX12_peakAt, Cond.selects RX12 yX12_peakAt yX12_peakAt, Cond.initialized RX12]) (gl_in [(9, 208), (9, 209), (9, 210), (1, 14)] (by decide +kernel) (by decide +kernel)) ⟨(t_of [Cond.code yX12_peakAt cX12_peakAt 5 (some .int)] [(9, 211)] (by decide +kernel) _ List.mem_cons_self), List.all_eq_true.mp (by decide +kernel : [Cond.code yX12_peakAt cX12_peakAt 5 (some .int)].all goodWord = true) _ List.mem_cons_self⟩) rfl rfl rfl (by decide +kernel) ⟨Nat.le_of_ble_eq_true rfl, Nat.le_of_ble_eq_true rfl⟩) rfl hl.1 rfl (lv_room (Nat.le_of_ble_eq_true rfl)) dL_law_1157 ⟨by show _ ≤ 601024; omega, by show _ ≤ 7293034; omega⟩ (fun H locs G => ?_)
  refine lv_istore (lv' := [(7, .int r2), (6, .int (vck 1 2 0 k1)), (5, .int (nI i)), (4, .ref ae), (3, .ref aj), (2, .ref (am 0)), (1, .ref (ad2 0)), (0, .ref b)]) hx hb dL_law_1160 hl (by decide) rfl (fun ls hl => ?_)
  refine lv_goto (tgt := 2439) hx hb dL_law_1162 (by decide) ?_
  have hl := lv_sub hl [2, 3, 4, 5, 6, 7] rfl
  refine W.widen (k := 19 + T1.1 + (j + 1)) (n := 38467 + sg T1 + 6 * (j + 1)) (by omega) (by omega) ?_
  exact kk ad2 (vfJ k1 f r1.toInt64) g H locs ls hg hf (had 0 h0T) hV1 hrc1 hJ1 G hl
set_option maxHeartbeats 4000000 in
set_option maxRecDepth 100000 in
theorem y_a29 {p : Program} {e : Env} {s : State} {m : MethodId} {below : List Frame} {meth : Method} {c : Code} (l : Launch) (hst : l.stackTraces = false) {b L : Nat} {xs : Nat → Int32} (hx : p.tables.exec = Jvm.exec) (hb : c.code = code) (hml : c.maxLocals = 9) (hown : s.vm.findClass RL = some m.cls) (hts : ∀ w ∈ lw_tbl, w.before #[Value.ref b] s = true) (hX0 : va_X b L xs s s.heap) (hbl : b < s.heap.size) (hX : xT (fun q => s.heap.size ≤ q) s) (hN : nC s) (hTS : sAll s.heap.size s) {D : va_G} {cI cJ cZ cMic cSrc cSt cAI cAJ cD : ClassId} (hK : va_K D vwCl (CT cI cJ cZ cMic cSrc cSt cAI cAJ ++ [(cD, .double)]) s) {Q : State → Prop} {i j : Nat} (hi : i + 6 ≤ L) (hL : L ≤ 3072) (hj : j < 512) {aj ae : Nat} {ad am : Nat → Nat} {T : AT} {Sm : MS} {f : Nat → Int64} {g : Nat → UInt64} {ls : Array Slot} {H : Heap} {locs : List Loc} (hV : IV aR0 1586 aK1 aK2 T) (hrc : RC T) (hJ : JJ Sm) (G : gL cI cJ cZ cMic cSrc cSt cAI cAJ D ad (fun q => s.heap.size ≤ q) s.heap H locs T (oJ aj cJ f :: oD ae cD g :: MW cI cJ cZ am Sm)) (hl : lv_has ls 9 [(5, .int (nI i)), (4, .ref ae), (3, .ref aj), (2, .ref (am 0)), (1, .ref (ad 0)), (0, .ref b)]) (kk : ∀ {k1 : Nat} {r1 : Int32} {T1 : AT} {r2 : Int32} {S1 : MS} (ad2 : Nat → Nat) (f1 : Nat → Int64) (g1 : Nat → UInt64) (H1 : Heap) (locs1 : List Loc) (ls1 : Array Slot), g_X11_isPeak T 0 (xs (i + 1)) = some (k1, r1, T1) → fr_isPeak Sm (xs (i + 1)) = some (r2, S1) → ad2 0 = ad 0 → IV aR0 1586 aK1 aK2 T1 → RC T1 → JJ S1 → gL cI cJ cZ cMic cSrc cSt cAI cAJ D ad2 (fun q => s.heap.size ≤ q) s.heap H1 locs1 T1 (oJ aj cJ f1 :: oD ae cD g1 :: MW cI cJ cZ am S1) → lv_has ls1 9 [(5, .int (nI i)), (4, .ref ae), (3, .ref aj), (2, .ref (am 0)), (1, .ref (ad2 0)), (0, .ref b)] → W p l e room_1 s m #[Value.ref b] below meth c H1 locs1 (19 + T1.1 + (j + 1)) (38467 + sg T1 + 6 * (j + 1)) Q (F0 m 2439 ls1 [])) : W p l e room_1 s m #[Value.ref b] below meth c H locs (19 + T.1 + j) (38467 + sg T + 6 * j) Q (F0 m 1165 ls []) := by
  have E : cE p c cL_law s m #[Value.ref b] lw_tbl D RL (CT cI cJ cZ cMic cSrc cSt cAI cAJ ++ [(cD, .double)]) := ⟨hx, hb, hts, hown, hK⟩
  have hA : ∀ q : Nat, s.heap.size ≤ q → s.heap.size ≤ q := fun _ h => h
  have h0T : 0 < T.1 := Nat.lt_of_lt_of_le (by decide) hV.1.2.2
  have h0s : T.2.1 0 = (11, 0) := hV.2.1 0 ⟨by decide, by decide +kernel, by decide +kernel⟩
  refine lv_aload_n hx hb dL_law_1165 rfl (lv_at hl 4 rfl) ?_
  refine lv_aload_n hx hb dL_law_1166 rfl (lv_at hl 5 rfl) ?_
  refine lv_iload hx hb dL_law_1167 (lv_at hl 0 rfl) ?_
  refine lv_iconst (v := 1) hx hb dL_law_1169 (by decide) ?_
  refine lv_iadd hx hb dL_law_1170 ?_
  refine lv_to (y := nI (i + 1)) (nI_add i 1) ?_
  refine va_sld hx hb hX0 hbl (Nat.not_le.mpr hbl) G.2.2 (i := nI (i + 1)) (vp_in_nI (n := i + 1) (N := L) (by omega) (by omega)) dL_law_1171 ?_
  refine lv_to (y := xs (i + 1)) (congrArg xs (nI_clamp (by omega))) ?_
  refine lv_aload_n hx hb dL_law_1172 rfl (lv_at hl 2 rfl) ?_
  obtain ⟨⟨k1, r1, T1⟩, hg, hc⟩ := cs_X11_isPeak T 0 (xs (i + 1)) hV (by decide +kernel)
  have hV1 : IV aR0 1586 aK1 aK2 T1 := hc.1.1
  have hg1 := s_X11_isPeak hg
  have hg2 := sg_le hg1
  have hg3 := hg1.1
  have hk := hV1.2.2.2.2.2.2
  have hrc1 := hg1.2.2 hrc
  have hr0 := a_room
  refine l_v (h0 := s.heap.size) (As := [.ref (ad 0), .int (xs (i + 1)), .ref aj]) (rest := []) E G hA hX hN (fun _ h => h) hTS hml (v_isPeak l hst D s.heap.size ad T 0 (xs (i + 1)) aj f hg hrc h0T h0s) (vx_cwSW 3 hts (glA (L := [Cond.methodLink RL 299 yL_isPeak, Cond.static yL_isPeak, Cond.initialized RL]) (gl_in [(6, 74), (6, 75), (1, 0)] (by decide +kernel) (by decide +kernel)) ⟨(t_of [Cond.codeWith yL_isPeak cL_isPeak 4 (some .int) [(0, 16, 19, 21), (0, 16, 22, 13)]] [(6, 76)] (by decide +kernel) _ List.mem_cons_self), List.all_eq_true.mp (by decide +kernel : [Cond.codeWith yL_isPeak cL_isPeak 4 (some .int) [(0, 16, 19, 21), (0, 16, 22, 13)]].all goodWord = true) _ List.mem_cons_self⟩) rfl rfl rfl (by decide +kernel) ⟨Nat.le_of_ble_eq_true rfl, Nat.le_of_ble_eq_true rfl⟩) rfl hl.1 rfl (lv_room (Nat.le_of_ble_eq_true rfl)) dL_law_1173 ⟨by show _ ≤ 601024; omega, by show _ ≤ 7293034; omega⟩ ?_
  intro ad2 H locs had G
  rw [← had 0 h0T] at hl
  refine lv_istore (lv' := [(6, .int (vck 1 2 0 k1)), (5, .int (nI i)), (4, .ref ae), (3, .ref aj), (2, .ref (am 0)), (1, .ref (ad2 0)), (0, .ref b)]) hx hb dL_law_1176 hl (by decide) rfl (fun ls hl => ?_)
  refine lv_aload_n hx hb dL_law_1178 rfl (lv_at hl 4 rfl) ?_
  refine lv_aload_n hx hb dL_law_1179 rfl (lv_at hl 6 rfl) ?_
  refine lv_iload hx hb dL_law_1180 (lv_at hl 1 rfl) ?_
  refine lv_iconst (v := 1) hx hb dL_law_1182 (by decide) ?_
  refine lv_iadd hx hb dL_law_1183 ?_
  refine lv_to (y := nI (i + 1)) (nI_add i 1) ?_
  refine va_sld hx hb hX0 hbl (Nat.not_le.mpr hbl) G.2.2 (i := nI (i + 1)) (vp_in_nI (n := i + 1) (N := L) (by omega) (by omega)) dL_law_1184 ?_
  refine lv_to (y := xs (i + 1)) (congrArg xs (nI_clamp (by omega))) ?_
  obtain ⟨⟨r2, S1⟩, hf, hj⟩ := sj_isPeak Sm (xs (i + 1)) hJ
  have hJ1 : JJ S1 := hj
  refine y_mi (As := [.int (xs (i + 1))]) (rest := []) E G hA hX.2.2.2.2 hml (tr_isPeak l D cI cJ cZ am Sm (xs (i + 1)) hf) (cwV 1 hts (glM (L := [Cond.methodLink RL 301 yX12_isPeak, Cond.instanceMethod yX12_isPeak, Cond.selects RX12 yX12_isPeak yX12_isPeak, Cond.initialized RX12]) (gl_in [(9, 216), (9, 217), (9, 218), (1, 14)] (by decide +kernel) (by decide +kernel)) ⟨(t_of [Cond.code yX12_isPeak cX12_isPeak 2 (some .boolean)] [(9, 219)] (by decide +kernel) _ List.mem_cons_self), List.all_eq_true.mp (by decide +kernel : [Cond.code yX12_isPeak cX12_isPeak 2 (some .boolean)].all goodWord = true) _ List.mem_cons_self⟩) rfl rfl rfl (by decide +kernel) ⟨Nat.le_of_ble_eq_true rfl, Nat.le_of_ble_eq_true rfl⟩) rfl hl.1 rfl (lv_room (Nat.le_of_ble_eq_true rfl)) dL_law_1185 ⟨by show _ ≤ 601024; omega, by show _ ≤ 7293034; omega⟩ (fun H locs G => ?_)
  refine lv_istore (lv' := [(7, .int r2), (6, .int (vck 1 2 0 k1)), (5, .int (nI i)), (4, .ref ae), (3, .ref aj), (2, .ref (am 0)), (1, .ref (ad2 0)), (0, .ref b)]) hx hb dL_law_1188 hl (by decide) rfl (fun ls hl => ?_)
  refine lv_goto (tgt := 2439) hx hb dL_law_1190 (by decide) ?_
  have hl := lv_sub hl [2, 3, 4, 5, 6, 7] rfl
  refine W.widen (k := 19 + T1.1 + (j + 1)) (n := 38467 + sg T1 + 6 * (j + 1)) (by omega) (by omega) ?_
  exact kk ad2 (vfJ k1 f (vzb r1)) g H locs ls hg hf (had 0 h0T) hV1 hrc1 hJ1 G hl
set_option maxHeartbeats 4000000 in
set_option maxRecDepth 100000 in
theorem y_a30 {p : Program} {e : Env} {s : State} {m : MethodId} {below : List Frame} {meth : Method} {c : Code} (l : Launch) (hst : l.stackTraces = false) {b L : Nat} {xs : Nat → Int32} (hx : p.tables.exec = Jvm.exec) (hb : c.code = code) (hml : c.maxLocals = 9) (hown : s.vm.findClass RL = some m.cls) (hts : ∀ w ∈ lw_tbl, w.before #[Value.ref b] s = true) (hX0 : va_X b L xs s s.heap) (hbl : b < s.heap.size) (hX : xT (fun q => s.heap.size ≤ q) s) (hN : nC s) (hTS : sAll s.heap.size s) {D : va_G} {cI cJ cZ cMic cSrc cSt cAI cAJ cD : ClassId} (hK : va_K D vwCl (CT cI cJ cZ cMic cSrc cSt cAI cAJ ++ [(cD, .double)]) s) {Q : State → Prop} {i j : Nat} (hi : i + 6 ≤ L) (hL : L ≤ 3072) (hj : j < 512) {aj ae : Nat} {ad am : Nat → Nat} {T : AT} {Sm : MS} {f : Nat → Int64} {g : Nat → UInt64} {ls : Array Slot} {H : Heap} {locs : List Loc} (hV : IV aR0 1586 aK1 aK2 T) (hrc : RC T) (hJ : JJ Sm) (G : gL cI cJ cZ cMic cSrc cSt cAI cAJ D ad (fun q => s.heap.size ≤ q) s.heap H locs T (oJ aj cJ f :: oD ae cD g :: MW cI cJ cZ am Sm)) (hl : lv_has ls 9 [(5, .int (nI i)), (4, .ref ae), (3, .ref aj), (2, .ref (am 0)), (1, .ref (ad 0)), (0, .ref b)]) (kk : ∀ {k1 : Nat} {r1 : Int64} {T1 : AT} {r2 : Int64} {S1 : MS} (ad2 : Nat → Nat) (f1 : Nat → Int64) (g1 : Nat → UInt64) (H1 : Heap) (locs1 : List Loc) (ls1 : Array Slot), g_X11_zonePower T 0 (xs (i + 1)) = some (k1, r1, T1) → fr_zonePower Sm (xs (i + 1)) = some (r2, S1) → ad2 0 = ad 0 → IV aR0 1586 aK1 aK2 T1 → RC T1 → JJ S1 → gL cI cJ cZ cMic cSrc cSt cAI cAJ D ad2 (fun q => s.heap.size ≤ q) s.heap H1 locs1 T1 (oJ aj cJ f1 :: oD ae cD g1 :: MW cI cJ cZ am S1) → lv_has ls1 9 [(5, .int (nI i)), (4, .ref ae), (3, .ref aj), (2, .ref (am 0)), (1, .ref (ad2 0)), (0, .ref b)] → W p l e room_1 s m #[Value.ref b] below meth c H1 locs1 (19 + T1.1 + (j + 1)) (38467 + sg T1 + 6 * (j + 1)) Q (F0 m 2439 ls1 [])) : W p l e room_1 s m #[Value.ref b] below meth c H locs (19 + T.1 + j) (38467 + sg T + 6 * j) Q (F0 m 1193 ls []) := by
  have E : cE p c cL_law s m #[Value.ref b] lw_tbl D RL (CT cI cJ cZ cMic cSrc cSt cAI cAJ ++ [(cD, .double)]) := ⟨hx, hb, hts, hown, hK⟩
  have hA : ∀ q : Nat, s.heap.size ≤ q → s.heap.size ≤ q := fun _ h => h
  have h0T : 0 < T.1 := Nat.lt_of_lt_of_le (by decide) hV.1.2.2
  have h0s : T.2.1 0 = (11, 0) := hV.2.1 0 ⟨by decide, by decide +kernel, by decide +kernel⟩
  refine lv_aload_n hx hb dL_law_1193 rfl (lv_at hl 4 rfl) ?_
  refine lv_aload_n hx hb dL_law_1194 rfl (lv_at hl 5 rfl) ?_
  refine lv_iload hx hb dL_law_1195 (lv_at hl 0 rfl) ?_
  refine lv_iconst (v := 1) hx hb dL_law_1197 (by decide) ?_
  refine lv_iadd hx hb dL_law_1198 ?_
  refine lv_to (y := nI (i + 1)) (nI_add i 1) ?_
  refine va_sld hx hb hX0 hbl (Nat.not_le.mpr hbl) G.2.2 (i := nI (i + 1)) (vp_in_nI (n := i + 1) (N := L) (by omega) (by omega)) dL_law_1199 ?_
  refine lv_to (y := xs (i + 1)) (congrArg xs (nI_clamp (by omega))) ?_
  refine lv_aload_n hx hb dL_law_1200 rfl (lv_at hl 2 rfl) ?_
  obtain ⟨⟨k1, r1, T1⟩, hg, hc⟩ := cs_X11_zonePower T 0 (xs (i + 1)) hV (by decide +kernel)
  have hV1 : IV aR0 1586 aK1 aK2 T1 := hc.1.1
  have hg1 := s_X11_zonePower hg
  have hg2 := sg_le hg1
  have hg3 := hg1.1
  have hk := hV1.2.2.2.2.2.2
  have hrc1 := hg1.2.2 hrc
  have hr0 := a_room
  refine l_v (h0 := s.heap.size) (As := [.ref (ad 0), .int (xs (i + 1)), .ref aj]) (rest := []) E G hA hX hN (fun _ h => h) hTS hml (v_zonePower l hst D s.heap.size ad T 0 (xs (i + 1)) aj f hg hrc h0T h0s) (vx_cwSW 3 hts (glA (L := [Cond.methodLink RL 302 yL_zonePower, Cond.static yL_zonePower, Cond.initialized RL]) (gl_in [(6, 82), (6, 83), (1, 0)] (by decide +kernel) (by decide +kernel)) ⟨(t_of [Cond.codeWith yL_zonePower cL_zonePower 4 (some .int) [(0, 8, 11, 21), (0, 8, 14, 13)]] [(6, 84)] (by decide +kernel) _ List.mem_cons_self), List.all_eq_true.mp (by decide +kernel : [Cond.codeWith yL_zonePower cL_zonePower 4 (some .int) [(0, 8, 11, 21), (0, 8, 14, 13)]].all goodWord = true) _ List.mem_cons_self⟩) rfl rfl rfl (by decide +kernel) ⟨Nat.le_of_ble_eq_true rfl, Nat.le_of_ble_eq_true rfl⟩) rfl hl.1 rfl (lv_room (Nat.le_of_ble_eq_true rfl)) dL_law_1201 ⟨by show _ ≤ 601024; omega, by show _ ≤ 7293034; omega⟩ ?_
  intro ad2 H locs had G
  rw [← had 0 h0T] at hl
  refine lv_istore (lv' := [(6, .int (vck 1 2 0 k1)), (5, .int (nI i)), (4, .ref ae), (3, .ref aj), (2, .ref (am 0)), (1, .ref (ad2 0)), (0, .ref b)]) hx hb dL_law_1204 hl (by decide) rfl (fun ls hl => ?_)
  refine lv_aload_n hx hb dL_law_1206 rfl (lv_at hl 4 rfl) ?_
  refine lv_aload_n hx hb dL_law_1207 rfl (lv_at hl 6 rfl) ?_
  refine lv_iload hx hb dL_law_1208 (lv_at hl 1 rfl) ?_
  refine lv_iconst (v := 1) hx hb dL_law_1210 (by decide) ?_
  refine lv_iadd hx hb dL_law_1211 ?_
  refine lv_to (y := nI (i + 1)) (nI_add i 1) ?_
  refine va_sld hx hb hX0 hbl (Nat.not_le.mpr hbl) G.2.2 (i := nI (i + 1)) (vp_in_nI (n := i + 1) (N := L) (by omega) (by omega)) dL_law_1212 ?_
  refine lv_to (y := xs (i + 1)) (congrArg xs (nI_clamp (by omega))) ?_
  obtain ⟨⟨r2, S1⟩, hf, hj⟩ := sj_zonePower Sm (xs (i + 1)) hJ
  have hJ1 : JJ S1 := hj
  refine y_ml (As := [.int (xs (i + 1))]) (rest := []) E G hA hX.2.2.2.2 hml (tr_zonePower l D cI cJ cZ am Sm (xs (i + 1)) hf) (cwV 1 hts (glM (L := [Cond.methodLink RL 304 yX12_zonePower, Cond.instanceMethod yX12_zonePower, Cond.selects RX12 yX12_zonePower yX12_zonePower, Cond.initialized RX12]) (gl_in [(10, 69), (10, 70), (10, 71), (1, 14)] (by decide +kernel) (by decide +kernel)) ⟨(t_of [Cond.code yX12_zonePower cX12_zonePower 5 (some .long)] [(10, 72)] (by decide +kernel) _ List.mem_cons_self), List.all_eq_true.mp (by decide +kernel : [Cond.code yX12_zonePower cX12_zonePower 5 (some .long)].all goodWord = true) _ List.mem_cons_self⟩) rfl rfl rfl (by decide +kernel) ⟨Nat.le_of_ble_eq_true rfl, Nat.le_of_ble_eq_true rfl⟩) rfl hl.1 rfl (lv_room (Nat.le_of_ble_eq_true rfl)) dL_law_1213 ⟨by show _ ≤ 601024; omega, by show _ ≤ 7293034; omega⟩ (fun H locs G => ?_)
  refine lv_lstore (lv' := [(7, .long r2), (6, .int (vck 1 2 0 k1)), (5, .int (nI i)), (4, .ref ae), (3, .ref aj), (2, .ref (am 0)), (1, .ref (ad2 0)), (0, .ref b)]) hx hb dL_law_1216 hl (by decide) rfl (fun ls hl => ?_)
  refine lv_goto (tgt := 2439) hx hb dL_law_1218 (by decide) ?_
  have hl := lv_sub hl [2, 3, 4, 5, 6, 7] rfl
  refine W.widen (k := 19 + T1.1 + (j + 1)) (n := 38467 + sg T1 + 6 * (j + 1)) (by omega) (by omega) ?_
  exact kk ad2 (vfJ k1 f r1) g H locs ls hg hf (had 0 h0T) hV1 hrc1 hJ1 G hl
set_option maxHeartbeats 4000000 in
set_option maxRecDepth 100000 in
theorem y_a31 {p : Program} {e : Env} {s : State} {m : MethodId} {below : List Frame} {meth : Method} {c : Code} (l : Launch) (hst : l.stackTraces = false) {b L : Nat} {xs : Nat → Int32} (hx : p.tables.exec = Jvm.exec) (hb : c.code = code) (hml : c.maxLocals = 9) (hown : s.vm.findClass RL = some m.cls) (hts : ∀ w ∈ lw_tbl, w.before #[Value.ref b] s = true) (hX0 : va_X b L xs s s.heap) (hbl : b < s.heap.size) (hX : xT (fun q => s.heap.size ≤ q) s) (hN : nC s) (hTS : sAll s.heap.size s) {D : va_G} {cI cJ cZ cMic cSrc cSt cAI cAJ cD : ClassId} (hK : va_K D vwCl (CT cI cJ cZ cMic cSrc cSt cAI cAJ ++ [(cD, .double)]) s) {Q : State → Prop} {i j : Nat} (hi : i + 6 ≤ L) (hL : L ≤ 3072) (hj : j < 512) {aj ae : Nat} {ad am : Nat → Nat} {T : AT} {Sm : MS} {f : Nat → Int64} {g : Nat → UInt64} {ls : Array Slot} {H : Heap} {locs : List Loc} (hV : IV aR0 1586 aK1 aK2 T) (hrc : RC T) (hJ : JJ Sm) (G : gL cI cJ cZ cMic cSrc cSt cAI cAJ D ad (fun q => s.heap.size ≤ q) s.heap H locs T (oJ aj cJ f :: oD ae cD g :: MW cI cJ cZ am Sm)) (hl : lv_has ls 9 [(5, .int (nI i)), (4, .ref ae), (3, .ref aj), (2, .ref (am 0)), (1, .ref (ad 0)), (0, .ref b)]) (kk : ∀ {k1 : Nat} {r1 : Int32} {T1 : AT} {r2 : Int32} {S1 : MS} (ad2 : Nat → Nat) (f1 : Nat → Int64) (g1 : Nat → UInt64) (H1 : Heap) (locs1 : List Loc) (ls1 : Array Slot), g_X11_zoneBest T 0 (xs (i + 1)) = some (k1, r1, T1) → fr_zoneBest Sm (xs (i + 1)) = some (r2, S1) → ad2 0 = ad 0 → IV aR0 1586 aK1 aK2 T1 → RC T1 → JJ S1 → gL cI cJ cZ cMic cSrc cSt cAI cAJ D ad2 (fun q => s.heap.size ≤ q) s.heap H1 locs1 T1 (oJ aj cJ f1 :: oD ae cD g1 :: MW cI cJ cZ am S1) → lv_has ls1 9 [(5, .int (nI i)), (4, .ref ae), (3, .ref aj), (2, .ref (am 0)), (1, .ref (ad2 0)), (0, .ref b)] → W p l e room_1 s m #[Value.ref b] below meth c H1 locs1 (19 + T1.1 + (j + 1)) (38467 + sg T1 + 6 * (j + 1)) Q (F0 m 2439 ls1 [])) : W p l e room_1 s m #[Value.ref b] below meth c H locs (19 + T.1 + j) (38467 + sg T + 6 * j) Q (F0 m 1221 ls []) := by
  have E : cE p c cL_law s m #[Value.ref b] lw_tbl D RL (CT cI cJ cZ cMic cSrc cSt cAI cAJ ++ [(cD, .double)]) := ⟨hx, hb, hts, hown, hK⟩
  have hA : ∀ q : Nat, s.heap.size ≤ q → s.heap.size ≤ q := fun _ h => h
  have h0T : 0 < T.1 := Nat.lt_of_lt_of_le (by decide) hV.1.2.2
  have h0s : T.2.1 0 = (11, 0) := hV.2.1 0 ⟨by decide, by decide +kernel, by decide +kernel⟩
  refine lv_aload_n hx hb dL_law_1221 rfl (lv_at hl 4 rfl) ?_
  refine lv_aload_n hx hb dL_law_1222 rfl (lv_at hl 5 rfl) ?_
  refine lv_iload hx hb dL_law_1223 (lv_at hl 0 rfl) ?_
  refine lv_iconst (v := 1) hx hb dL_law_1225 (by decide) ?_
  refine lv_iadd hx hb dL_law_1226 ?_
  refine lv_to (y := nI (i + 1)) (nI_add i 1) ?_
  refine va_sld hx hb hX0 hbl (Nat.not_le.mpr hbl) G.2.2 (i := nI (i + 1)) (vp_in_nI (n := i + 1) (N := L) (by omega) (by omega)) dL_law_1227 ?_
  refine lv_to (y := xs (i + 1)) (congrArg xs (nI_clamp (by omega))) ?_
  refine lv_aload_n hx hb dL_law_1228 rfl (lv_at hl 2 rfl) ?_
  obtain ⟨⟨k1, r1, T1⟩, hg, hc⟩ := cs_X11_zoneBest T 0 (xs (i + 1)) hV (by decide +kernel)
  have hV1 : IV aR0 1586 aK1 aK2 T1 := hc.1.1
  have hg1 := s_X11_zoneBest hg
  have hg2 := sg_le hg1
  have hg3 := hg1.1
  have hk := hV1.2.2.2.2.2.2
  have hrc1 := hg1.2.2 hrc
  have hr0 := a_room
  refine l_v (h0 := s.heap.size) (As := [.ref (ad 0), .int (xs (i + 1)), .ref aj]) (rest := []) E G hA hX hN (fun _ h => h) hTS hml (v_zoneBest l hst D s.heap.size ad T 0 (xs (i + 1)) aj f hg hrc h0T h0s) (vx_cwSW 3 hts (glA (L := [Cond.methodLink RL 305 yL_zoneBest, Cond.static yL_zoneBest, Cond.initialized RL]) (gl_in [(6, 89), (6, 90), (1, 0)] (by decide +kernel) (by decide +kernel)) ⟨(t_of [Cond.codeWith yL_zoneBest cL_zoneBest 4 (some .int) [(0, 9, 12, 21), (0, 9, 15, 13)]] [(6, 91)] (by decide +kernel) _ List.mem_cons_self), List.all_eq_true.mp (by decide +kernel : [Cond.codeWith yL_zoneBest cL_zoneBest 4 (some .int) [(0, 9, 12, 21), (0, 9, 15, 13)]].all goodWord = true) _ List.mem_cons_self⟩) rfl rfl rfl (by decide +kernel) ⟨Nat.le_of_ble_eq_true rfl, Nat.le_of_ble_eq_true rfl⟩) rfl hl.1 rfl (lv_room (Nat.le_of_ble_eq_true rfl)) dL_law_1229 ⟨by show _ ≤ 601024; omega, by show _ ≤ 7293034; omega⟩ ?_
  intro ad2 H locs had G
  rw [← had 0 h0T] at hl
  refine lv_istore (lv' := [(6, .int (vck 1 2 0 k1)), (5, .int (nI i)), (4, .ref ae), (3, .ref aj), (2, .ref (am 0)), (1, .ref (ad2 0)), (0, .ref b)]) hx hb dL_law_1232 hl (by decide) rfl (fun ls hl => ?_)
  refine lv_aload_n hx hb dL_law_1234 rfl (lv_at hl 4 rfl) ?_
  refine lv_aload_n hx hb dL_law_1235 rfl (lv_at hl 6 rfl) ?_
  refine lv_iload hx hb dL_law_1236 (lv_at hl 1 rfl) ?_
  refine lv_iconst (v := 1) hx hb dL_law_1238 (by decide) ?_
  refine lv_iadd hx hb dL_law_1239 ?_
  refine lv_to (y := nI (i + 1)) (nI_add i 1) ?_
  refine va_sld hx hb hX0 hbl (Nat.not_le.mpr hbl) G.2.2 (i := nI (i + 1)) (vp_in_nI (n := i + 1) (N := L) (by omega) (by omega)) dL_law_1240 ?_
  refine lv_to (y := xs (i + 1)) (congrArg xs (nI_clamp (by omega))) ?_
  obtain ⟨⟨r2, S1⟩, hf, hj⟩ := sj_zoneBest Sm (xs (i + 1)) hJ
  have hJ1 : JJ S1 := hj
  refine y_mi (As := [.int (xs (i + 1))]) (rest := []) E G hA hX.2.2.2.2 hml (tr_zoneBest l D cI cJ cZ am Sm (xs (i + 1)) hf) (cwV 1 hts (glM (L := [Cond.methodLink RL 307 yX12_zoneBest, Cond.instanceMethod yX12_zoneBest, Cond.selects RX12 yX12_zoneBest yX12_zoneBest, Cond.initialized RX12]) (gl_in [(10, 81), (10, 82), (10, 83), (1, 14)] (by decide +kernel) (by decide +kernel)) ⟨(t_of [Cond.code yX12_zoneBest cX12_zoneBest 4 (some .int)] [(10, 84)] (by decide +kernel) _ List.mem_cons_self), List.all_eq_true.mp (by decide +kernel : [Cond.code yX12_zoneBest cX12_zoneBest 4 (some .int)].all goodWord = true) _ List.mem_cons_self⟩) rfl rfl rfl (by decide +kernel) ⟨Nat.le_of_ble_eq_true rfl, Nat.le_of_ble_eq_true rfl⟩) rfl hl.1 rfl (lv_room (Nat.le_of_ble_eq_true rfl)) dL_law_1241 ⟨by show _ ≤ 601024; omega, by show _ ≤ 7293034; omega⟩ (fun H locs G => ?_)
  refine lv_istore (lv' := [(7, .int r2), (6, .int (vck 1 2 0 k1)), (5, .int (nI i)), (4, .ref ae), (3, .ref aj), (2, .ref (am 0)), (1, .ref (ad2 0)), (0, .ref b)]) hx hb dL_law_1244 hl (by decide) rfl (fun ls hl => ?_)
  refine lv_goto (tgt := 2439) hx hb dL_law_1246 (by decide) ?_
  have hl := lv_sub hl [2, 3, 4, 5, 6, 7] rfl
  refine W.widen (k := 19 + T1.1 + (j + 1)) (n := 38467 + sg T1 + 6 * (j + 1)) (by omega) (by omega) ?_
  exact kk ad2 (vfJ k1 f r1.toInt64) g H locs ls hg hf (had 0 h0T) hV1 hrc1 hJ1 G hl
end
section
/-! 17e.arm4.lean.txt -/
theorem dL_law_1249 : decode cL_law 1249 = .ok (.aload_n 1, 1) := de_43 (lb_78 (j := 1) (b := 43) rfl)
theorem dL_law_1250 : decode cL_law 1250 = .ok (.aload 4, 2) := de_25 (lb_78 (j := 2) (b := 25) rfl) (lb_78 (j := 3) (b := 4) rfl) rfl
theorem dL_law_1252 : decode cL_law 1252 = .ok (.invokestatic 308, 3) := de_184 (lb_78 (j := 4) (b := 184) rfl) (lb_78 (j := 5) (b := 1) rfl) (lb_78 (j := 6) (b := 52) rfl) rfl
theorem dL_law_1255 : decode cL_law 1255 = .ok (.istore 6, 2) := de_54 (lb_78 (j := 7) (b := 54) rfl) (lb_78 (j := 8) (b := 6) rfl) rfl
theorem dL_law_1257 : decode cL_law 1257 = .ok (.aload_n 2, 1) := de_44 (lb_78 (j := 9) (b := 44) rfl)
theorem dL_law_1258 : decode cL_law 1258 = .ok (.invokevirtual 311, 3) := de_182 (lb_78 (j := 10) (b := 182) rfl) (lb_78 (j := 11) (b := 1) rfl) (lb_78 (j := 12) (b := 55) rfl) rfl
theorem dL_law_1261 : decode cL_law 1261 = .ok (.fstore 7, 2) := de_56 (lb_78 (j := 13) (b := 56) rfl) (lb_78 (j := 14) (b := 7) rfl) rfl
theorem dL_law_1263 : decode cL_law 1263 = .ok (.goto 1176, 3) := de_167 (lb_78 (j := 15) (b := 167) rfl) (lb_79 (j := 0) (b := 4) rfl) (lb_79 (j := 1) (b := 152) rfl) (by decide +kernel)
theorem dL_law_1266 : decode cL_law 1266 = .ok (.aload_n 1, 1) := de_43 (lb_79 (j := 2) (b := 43) rfl)
theorem dL_law_1267 : decode cL_law 1267 = .ok (.aload_n 0, 1) := de_42 (lb_79 (j := 3) (b := 42) rfl)
theorem dL_law_1268 : decode cL_law 1268 = .ok (.iload 5, 2) := de_21 (lb_79 (j := 4) (b := 21) rfl) (lb_79 (j := 5) (b := 5) rfl) rfl
theorem dL_law_1270 : decode cL_law 1270 = .ok (.iconst 1, 1) := de_4 (lb_79 (j := 6) (b := 4) rfl)
theorem dL_law_1271 : decode cL_law 1271 = .ok (.iadd, 1) := de_96 (lb_79 (j := 7) (b := 96) rfl)
theorem dL_law_1272 : decode cL_law 1272 = .ok (.iaload, 1) := de_46 (lb_79 (j := 8) (b := 46) rfl)
theorem dL_law_1273 : decode cL_law 1273 = .ok (.aload_n 0, 1) := de_42 (lb_79 (j := 9) (b := 42) rfl)
theorem dL_law_1274 : decode cL_law 1274 = .ok (.iload 5, 2) := de_21 (lb_79 (j := 10) (b := 21) rfl) (lb_79 (j := 11) (b := 5) rfl) rfl
theorem dL_law_1276 : decode cL_law 1276 = .ok (.iconst 2, 1) := de_5 (lb_79 (j := 12) (b := 5) rfl)
theorem dL_law_1277 : decode cL_law 1277 = .ok (.iadd, 1) := de_96 (lb_79 (j := 13) (b := 96) rfl)
theorem dL_law_1278 : decode cL_law 1278 = .ok (.iaload, 1) := de_46 (lb_79 (j := 14) (b := 46) rfl)
theorem dL_law_1279 : decode cL_law 1279 = .ok (.aload_n 0, 1) := de_42 (lb_79 (j := 15) (b := 42) rfl)
theorem dL_law_1280 : decode cL_law 1280 = .ok (.iload 5, 2) := de_21 (lb_80 (j := 0) (b := 21) rfl) (lb_80 (j := 1) (b := 5) rfl) rfl
theorem dL_law_1282 : decode cL_law 1282 = .ok (.iconst 3, 1) := de_6 (lb_80 (j := 2) (b := 6) rfl)
theorem dL_law_1283 : decode cL_law 1283 = .ok (.iadd, 1) := de_96 (lb_80 (j := 3) (b := 96) rfl)
theorem dL_law_1284 : decode cL_law 1284 = .ok (.iaload, 1) := de_46 (lb_80 (j := 4) (b := 46) rfl)
theorem dL_law_1285 : decode cL_law 1285 = .ok (.aload_n 3, 1) := de_45 (lb_80 (j := 5) (b := 45) rfl)
theorem dL_law_1286 : decode cL_law 1286 = .ok (.invokestatic 312, 3) := de_184 (lb_80 (j := 6) (b := 184) rfl) (lb_80 (j := 7) (b := 1) rfl) (lb_80 (j := 8) (b := 56) rfl) rfl
theorem dL_law_1289 : decode cL_law 1289 = .ok (.istore 6, 2) := de_54 (lb_80 (j := 9) (b := 54) rfl) (lb_80 (j := 10) (b := 6) rfl) rfl
theorem dL_law_1291 : decode cL_law 1291 = .ok (.aload_n 2, 1) := de_44 (lb_80 (j := 11) (b := 44) rfl)
theorem dL_law_1292 : decode cL_law 1292 = .ok (.aload_n 0, 1) := de_42 (lb_80 (j := 12) (b := 42) rfl)
theorem dL_law_1293 : decode cL_law 1293 = .ok (.iload 5, 2) := de_21 (lb_80 (j := 13) (b := 21) rfl) (lb_80 (j := 14) (b := 5) rfl) rfl
theorem dL_law_1295 : decode cL_law 1295 = .ok (.iconst 1, 1) := de_4 (lb_80 (j := 15) (b := 4) rfl)
theorem dL_law_1296 : decode cL_law 1296 = .ok (.iadd, 1) := de_96 (lb_81 (j := 0) (b := 96) rfl)
theorem dL_law_1297 : decode cL_law 1297 = .ok (.iaload, 1) := de_46 (lb_81 (j := 1) (b := 46) rfl)
theorem dL_law_1298 : decode cL_law 1298 = .ok (.aload_n 0, 1) := de_42 (lb_81 (j := 2) (b := 42) rfl)
theorem dL_law_1299 : decode cL_law 1299 = .ok (.iload 5, 2) := de_21 (lb_81 (j := 3) (b := 21) rfl) (lb_81 (j := 4) (b := 5) rfl) rfl
theorem dL_law_1301 : decode cL_law 1301 = .ok (.iconst 2, 1) := de_5 (lb_81 (j := 5) (b := 5) rfl)
theorem dL_law_1302 : decode cL_law 1302 = .ok (.iadd, 1) := de_96 (lb_81 (j := 6) (b := 96) rfl)
theorem dL_law_1303 : decode cL_law 1303 = .ok (.iaload, 1) := de_46 (lb_81 (j := 7) (b := 46) rfl)
theorem dL_law_1304 : decode cL_law 1304 = .ok (.aload_n 0, 1) := de_42 (lb_81 (j := 8) (b := 42) rfl)
theorem dL_law_1305 : decode cL_law 1305 = .ok (.iload 5, 2) := de_21 (lb_81 (j := 9) (b := 21) rfl) (lb_81 (j := 10) (b := 5) rfl) rfl
theorem dL_law_1307 : decode cL_law 1307 = .ok (.iconst 3, 1) := de_6 (lb_81 (j := 11) (b := 6) rfl)
theorem dL_law_1308 : decode cL_law 1308 = .ok (.iadd, 1) := de_96 (lb_81 (j := 12) (b := 96) rfl)
theorem dL_law_1309 : decode cL_law 1309 = .ok (.iaload, 1) := de_46 (lb_81 (j := 13) (b := 46) rfl)
theorem dL_law_1310 : decode cL_law 1310 = .ok (.invokevirtual 314, 3) := de_182 (lb_81 (j := 14) (b := 182) rfl) (lb_81 (j := 15) (b := 1) rfl) (lb_82 (j := 0) (b := 58) rfl) rfl
theorem dL_law_1313 : decode cL_law 1313 = .ok (.istore 7, 2) := de_54 (lb_82 (j := 1) (b := 54) rfl) (lb_82 (j := 2) (b := 7) rfl) rfl
theorem dL_law_1315 : decode cL_law 1315 = .ok (.goto 1124, 3) := de_167 (lb_82 (j := 3) (b := 167) rfl) (lb_82 (j := 4) (b := 4) rfl) (lb_82 (j := 5) (b := 100) rfl) (by decide +kernel)
theorem dL_law_1318 : decode cL_law 1318 = .ok (.aload_n 1, 1) := de_43 (lb_82 (j := 6) (b := 43) rfl)
theorem dL_law_1319 : decode cL_law 1319 = .ok (.aload_n 0, 1) := de_42 (lb_82 (j := 7) (b := 42) rfl)
theorem dL_law_1320 : decode cL_law 1320 = .ok (.iload 5, 2) := de_21 (lb_82 (j := 8) (b := 21) rfl) (lb_82 (j := 9) (b := 5) rfl) rfl
theorem dL_law_1322 : decode cL_law 1322 = .ok (.iconst 1, 1) := de_4 (lb_82 (j := 10) (b := 4) rfl)
theorem dL_law_1323 : decode cL_law 1323 = .ok (.iadd, 1) := de_96 (lb_82 (j := 11) (b := 96) rfl)
theorem dL_law_1324 : decode cL_law 1324 = .ok (.iaload, 1) := de_46 (lb_82 (j := 12) (b := 46) rfl)
theorem dL_law_1325 : decode cL_law 1325 = .ok (.aload_n 0, 1) := de_42 (lb_82 (j := 13) (b := 42) rfl)
theorem dL_law_1326 : decode cL_law 1326 = .ok (.iload 5, 2) := de_21 (lb_82 (j := 14) (b := 21) rfl) (lb_82 (j := 15) (b := 5) rfl) rfl
theorem dL_law_1328 : decode cL_law 1328 = .ok (.iconst 2, 1) := de_5 (lb_83 (j := 0) (b := 5) rfl)
theorem dL_law_1329 : decode cL_law 1329 = .ok (.iadd, 1) := de_96 (lb_83 (j := 1) (b := 96) rfl)
theorem dL_law_1330 : decode cL_law 1330 = .ok (.iaload, 1) := de_46 (lb_83 (j := 2) (b := 46) rfl)
theorem dL_law_1331 : decode cL_law 1331 = .ok (.aload_n 0, 1) := de_42 (lb_83 (j := 3) (b := 42) rfl)
theorem dL_law_1332 : decode cL_law 1332 = .ok (.iload 5, 2) := de_21 (lb_83 (j := 4) (b := 21) rfl) (lb_83 (j := 5) (b := 5) rfl) rfl
theorem dL_law_1334 : decode cL_law 1334 = .ok (.iconst 3, 1) := de_6 (lb_83 (j := 6) (b := 6) rfl)
theorem dL_law_1335 : decode cL_law 1335 = .ok (.iadd, 1) := de_96 (lb_83 (j := 7) (b := 96) rfl)
theorem dL_law_1336 : decode cL_law 1336 = .ok (.iaload, 1) := de_46 (lb_83 (j := 8) (b := 46) rfl)
theorem dL_law_1337 : decode cL_law 1337 = .ok (.aload_n 3, 1) := de_45 (lb_83 (j := 9) (b := 45) rfl)
theorem dL_law_1338 : decode cL_law 1338 = .ok (.invokestatic 315, 3) := de_184 (lb_83 (j := 10) (b := 184) rfl) (lb_83 (j := 11) (b := 1) rfl) (lb_83 (j := 12) (b := 59) rfl) rfl
theorem dL_law_1341 : decode cL_law 1341 = .ok (.istore 6, 2) := de_54 (lb_83 (j := 13) (b := 54) rfl) (lb_83 (j := 14) (b := 6) rfl) rfl
theorem dL_law_1343 : decode cL_law 1343 = .ok (.aload_n 2, 1) := de_44 (lb_83 (j := 15) (b := 44) rfl)
theorem dL_law_1344 : decode cL_law 1344 = .ok (.aload_n 0, 1) := de_42 (lb_84 (j := 0) (b := 42) rfl)
theorem dL_law_1345 : decode cL_law 1345 = .ok (.iload 5, 2) := de_21 (lb_84 (j := 1) (b := 21) rfl) (lb_84 (j := 2) (b := 5) rfl) rfl
theorem dL_law_1347 : decode cL_law 1347 = .ok (.iconst 1, 1) := de_4 (lb_84 (j := 3) (b := 4) rfl)
theorem dL_law_1348 : decode cL_law 1348 = .ok (.iadd, 1) := de_96 (lb_84 (j := 4) (b := 96) rfl)
theorem dL_law_1349 : decode cL_law 1349 = .ok (.iaload, 1) := de_46 (lb_84 (j := 5) (b := 46) rfl)
theorem dL_law_1350 : decode cL_law 1350 = .ok (.aload_n 0, 1) := de_42 (lb_84 (j := 6) (b := 42) rfl)
theorem dL_law_1351 : decode cL_law 1351 = .ok (.iload 5, 2) := de_21 (lb_84 (j := 7) (b := 21) rfl) (lb_84 (j := 8) (b := 5) rfl) rfl
theorem dL_law_1353 : decode cL_law 1353 = .ok (.iconst 2, 1) := de_5 (lb_84 (j := 9) (b := 5) rfl)
theorem dL_law_1354 : decode cL_law 1354 = .ok (.iadd, 1) := de_96 (lb_84 (j := 10) (b := 96) rfl)
theorem dL_law_1355 : decode cL_law 1355 = .ok (.iaload, 1) := de_46 (lb_84 (j := 11) (b := 46) rfl)
theorem dL_law_1356 : decode cL_law 1356 = .ok (.aload_n 0, 1) := de_42 (lb_84 (j := 12) (b := 42) rfl)
theorem dL_law_1357 : decode cL_law 1357 = .ok (.iload 5, 2) := de_21 (lb_84 (j := 13) (b := 21) rfl) (lb_84 (j := 14) (b := 5) rfl) rfl
theorem dL_law_1359 : decode cL_law 1359 = .ok (.iconst 3, 1) := de_6 (lb_84 (j := 15) (b := 6) rfl)
theorem dL_law_1360 : decode cL_law 1360 = .ok (.iadd, 1) := de_96 (lb_85 (j := 0) (b := 96) rfl)
theorem dL_law_1361 : decode cL_law 1361 = .ok (.iaload, 1) := de_46 (lb_85 (j := 1) (b := 46) rfl)
theorem dL_law_1362 : decode cL_law 1362 = .ok (.invokevirtual 317, 3) := de_182 (lb_85 (j := 2) (b := 182) rfl) (lb_85 (j := 3) (b := 1) rfl) (lb_85 (j := 4) (b := 61) rfl) rfl
theorem dL_law_1365 : decode cL_law 1365 = .ok (.istore 7, 2) := de_54 (lb_85 (j := 5) (b := 54) rfl) (lb_85 (j := 6) (b := 7) rfl) rfl
theorem dL_law_1367 : decode cL_law 1367 = .ok (.goto 1072, 3) := de_167 (lb_85 (j := 7) (b := 167) rfl) (lb_85 (j := 8) (b := 4) rfl) (lb_85 (j := 9) (b := 48) rfl) (by decide +kernel)
theorem dL_law_1370 : decode cL_law 1370 = .ok (.aload_n 1, 1) := de_43 (lb_85 (j := 10) (b := 43) rfl)
theorem dL_law_1371 : decode cL_law 1371 = .ok (.aload_n 0, 1) := de_42 (lb_85 (j := 11) (b := 42) rfl)
theorem dL_law_1372 : decode cL_law 1372 = .ok (.iload 5, 2) := de_21 (lb_85 (j := 12) (b := 21) rfl) (lb_85 (j := 13) (b := 5) rfl) rfl
theorem dL_law_1374 : decode cL_law 1374 = .ok (.iconst 1, 1) := de_4 (lb_85 (j := 14) (b := 4) rfl)
theorem dL_law_1375 : decode cL_law 1375 = .ok (.iadd, 1) := de_96 (lb_85 (j := 15) (b := 96) rfl)
theorem dL_law_1376 : decode cL_law 1376 = .ok (.iaload, 1) := de_46 (lb_86 (j := 0) (b := 46) rfl)
theorem dL_law_1377 : decode cL_law 1377 = .ok (.aload_n 0, 1) := de_42 (lb_86 (j := 1) (b := 42) rfl)
theorem dL_law_1378 : decode cL_law 1378 = .ok (.iload 5, 2) := de_21 (lb_86 (j := 2) (b := 21) rfl) (lb_86 (j := 3) (b := 5) rfl) rfl
theorem dL_law_1380 : decode cL_law 1380 = .ok (.iconst 2, 1) := de_5 (lb_86 (j := 4) (b := 5) rfl)
theorem dL_law_1381 : decode cL_law 1381 = .ok (.iadd, 1) := de_96 (lb_86 (j := 5) (b := 96) rfl)
theorem dL_law_1382 : decode cL_law 1382 = .ok (.iaload, 1) := de_46 (lb_86 (j := 6) (b := 46) rfl)
theorem dL_law_1383 : decode cL_law 1383 = .ok (.aload_n 3, 1) := de_45 (lb_86 (j := 7) (b := 45) rfl)
theorem dL_law_1384 : decode cL_law 1384 = .ok (.invokestatic 318, 3) := de_184 (lb_86 (j := 8) (b := 184) rfl) (lb_86 (j := 9) (b := 1) rfl) (lb_86 (j := 10) (b := 62) rfl) rfl
theorem dL_law_1387 : decode cL_law 1387 = .ok (.istore 6, 2) := de_54 (lb_86 (j := 11) (b := 54) rfl) (lb_86 (j := 12) (b := 6) rfl) rfl
theorem dL_law_1389 : decode cL_law 1389 = .ok (.aload_n 2, 1) := de_44 (lb_86 (j := 13) (b := 44) rfl)
theorem dL_law_1390 : decode cL_law 1390 = .ok (.aload_n 0, 1) := de_42 (lb_86 (j := 14) (b := 42) rfl)
theorem dL_law_1391 : decode cL_law 1391 = .ok (.iload 5, 2) := de_21 (lb_86 (j := 15) (b := 21) rfl) (lb_87 (j := 0) (b := 5) rfl) rfl
theorem dL_law_1393 : decode cL_law 1393 = .ok (.iconst 1, 1) := de_4 (lb_87 (j := 1) (b := 4) rfl)
theorem dL_law_1394 : decode cL_law 1394 = .ok (.iadd, 1) := de_96 (lb_87 (j := 2) (b := 96) rfl)
theorem dL_law_1395 : decode cL_law 1395 = .ok (.iaload, 1) := de_46 (lb_87 (j := 3) (b := 46) rfl)
theorem dL_law_1396 : decode cL_law 1396 = .ok (.aload_n 0, 1) := de_42 (lb_87 (j := 4) (b := 42) rfl)
theorem dL_law_1397 : decode cL_law 1397 = .ok (.iload 5, 2) := de_21 (lb_87 (j := 5) (b := 21) rfl) (lb_87 (j := 6) (b := 5) rfl) rfl
theorem dL_law_1399 : decode cL_law 1399 = .ok (.iconst 2, 1) := de_5 (lb_87 (j := 7) (b := 5) rfl)
theorem dL_law_1400 : decode cL_law 1400 = .ok (.iadd, 1) := de_96 (lb_87 (j := 8) (b := 96) rfl)
theorem dL_law_1401 : decode cL_law 1401 = .ok (.iaload, 1) := de_46 (lb_87 (j := 9) (b := 46) rfl)
theorem dL_law_1402 : decode cL_law 1402 = .ok (.invokevirtual 320, 3) := de_182 (lb_87 (j := 10) (b := 182) rfl) (lb_87 (j := 11) (b := 1) rfl) (lb_87 (j := 12) (b := 64) rfl) rfl
theorem dL_law_1405 : decode cL_law 1405 = .ok (.istore 7, 2) := de_54 (lb_87 (j := 13) (b := 54) rfl) (lb_87 (j := 14) (b := 7) rfl) rfl
theorem dL_law_1407 : decode cL_law 1407 = .ok (.goto 1032, 3) := de_167 (lb_87 (j := 15) (b := 167) rfl) (lb_88 (j := 0) (b := 4) rfl) (lb_88 (j := 1) (b := 8) rfl) (by decide +kernel)
theorem dL_law_1410 : decode cL_law 1410 = .ok (.aload_n 1, 1) := de_43 (lb_88 (j := 2) (b := 43) rfl)
theorem dL_law_1411 : decode cL_law 1411 = .ok (.aload_n 0, 1) := de_42 (lb_88 (j := 3) (b := 42) rfl)
theorem dL_law_1412 : decode cL_law 1412 = .ok (.iload 5, 2) := de_21 (lb_88 (j := 4) (b := 21) rfl) (lb_88 (j := 5) (b := 5) rfl) rfl
theorem dL_law_1414 : decode cL_law 1414 = .ok (.iconst 1, 1) := de_4 (lb_88 (j := 6) (b := 4) rfl)
theorem dL_law_1415 : decode cL_law 1415 = .ok (.iadd, 1) := de_96 (lb_88 (j := 7) (b := 96) rfl)
theorem dL_law_1416 : decode cL_law 1416 = .ok (.iaload, 1) := de_46 (lb_88 (j := 8) (b := 46) rfl)
theorem dL_law_1417 : decode cL_law 1417 = .ok (.aload_n 0, 1) := de_42 (lb_88 (j := 9) (b := 42) rfl)
theorem dL_law_1418 : decode cL_law 1418 = .ok (.iload 5, 2) := de_21 (lb_88 (j := 10) (b := 21) rfl) (lb_88 (j := 11) (b := 5) rfl) rfl
theorem dL_law_1420 : decode cL_law 1420 = .ok (.iconst 2, 1) := de_5 (lb_88 (j := 12) (b := 5) rfl)
theorem dL_law_1421 : decode cL_law 1421 = .ok (.iadd, 1) := de_96 (lb_88 (j := 13) (b := 96) rfl)
theorem dL_law_1422 : decode cL_law 1422 = .ok (.iaload, 1) := de_46 (lb_88 (j := 14) (b := 46) rfl)
theorem dL_law_1423 : decode cL_law 1423 = .ok (.aload_n 0, 1) := de_42 (lb_88 (j := 15) (b := 42) rfl)
theorem dL_law_1424 : decode cL_law 1424 = .ok (.iload 5, 2) := de_21 (lb_89 (j := 0) (b := 21) rfl) (lb_89 (j := 1) (b := 5) rfl) rfl
theorem dL_law_1426 : decode cL_law 1426 = .ok (.iconst 3, 1) := de_6 (lb_89 (j := 2) (b := 6) rfl)
theorem dL_law_1427 : decode cL_law 1427 = .ok (.iadd, 1) := de_96 (lb_89 (j := 3) (b := 96) rfl)
theorem dL_law_1428 : decode cL_law 1428 = .ok (.iaload, 1) := de_46 (lb_89 (j := 4) (b := 46) rfl)
theorem dL_law_1429 : decode cL_law 1429 = .ok (.aload_n 3, 1) := de_45 (lb_89 (j := 5) (b := 45) rfl)
theorem dL_law_1430 : decode cL_law 1430 = .ok (.invokestatic 321, 3) := de_184 (lb_89 (j := 6) (b := 184) rfl) (lb_89 (j := 7) (b := 1) rfl) (lb_89 (j := 8) (b := 65) rfl) rfl
theorem dL_law_1433 : decode cL_law 1433 = .ok (.istore 6, 2) := de_54 (lb_89 (j := 9) (b := 54) rfl) (lb_89 (j := 10) (b := 6) rfl) rfl
theorem dL_law_1435 : decode cL_law 1435 = .ok (.aload_n 2, 1) := de_44 (lb_89 (j := 11) (b := 44) rfl)
theorem dL_law_1436 : decode cL_law 1436 = .ok (.aload_n 0, 1) := de_42 (lb_89 (j := 12) (b := 42) rfl)
theorem dL_law_1437 : decode cL_law 1437 = .ok (.iload 5, 2) := de_21 (lb_89 (j := 13) (b := 21) rfl) (lb_89 (j := 14) (b := 5) rfl) rfl
theorem dL_law_1439 : decode cL_law 1439 = .ok (.iconst 1, 1) := de_4 (lb_89 (j := 15) (b := 4) rfl)
theorem dL_law_1440 : decode cL_law 1440 = .ok (.iadd, 1) := de_96 (lb_90 (j := 0) (b := 96) rfl)
theorem dL_law_1441 : decode cL_law 1441 = .ok (.iaload, 1) := de_46 (lb_90 (j := 1) (b := 46) rfl)
theorem dL_law_1442 : decode cL_law 1442 = .ok (.aload_n 0, 1) := de_42 (lb_90 (j := 2) (b := 42) rfl)
theorem dL_law_1443 : decode cL_law 1443 = .ok (.iload 5, 2) := de_21 (lb_90 (j := 3) (b := 21) rfl) (lb_90 (j := 4) (b := 5) rfl) rfl
theorem dL_law_1445 : decode cL_law 1445 = .ok (.iconst 2, 1) := de_5 (lb_90 (j := 5) (b := 5) rfl)
theorem dL_law_1446 : decode cL_law 1446 = .ok (.iadd, 1) := de_96 (lb_90 (j := 6) (b := 96) rfl)
theorem dL_law_1447 : decode cL_law 1447 = .ok (.iaload, 1) := de_46 (lb_90 (j := 7) (b := 46) rfl)
theorem dL_law_1448 : decode cL_law 1448 = .ok (.aload_n 0, 1) := de_42 (lb_90 (j := 8) (b := 42) rfl)
theorem dL_law_1449 : decode cL_law 1449 = .ok (.iload 5, 2) := de_21 (lb_90 (j := 9) (b := 21) rfl) (lb_90 (j := 10) (b := 5) rfl) rfl
theorem dL_law_1451 : decode cL_law 1451 = .ok (.iconst 3, 1) := de_6 (lb_90 (j := 11) (b := 6) rfl)
theorem dL_law_1452 : decode cL_law 1452 = .ok (.iadd, 1) := de_96 (lb_90 (j := 12) (b := 96) rfl)
theorem dL_law_1453 : decode cL_law 1453 = .ok (.iaload, 1) := de_46 (lb_90 (j := 13) (b := 46) rfl)
theorem dL_law_1454 : decode cL_law 1454 = .ok (.invokevirtual 323, 3) := de_182 (lb_90 (j := 14) (b := 182) rfl) (lb_90 (j := 15) (b := 1) rfl) (lb_91 (j := 0) (b := 67) rfl) rfl
theorem dL_law_1457 : decode cL_law 1457 = .ok (.lstore 7, 2) := de_55 (lb_91 (j := 1) (b := 55) rfl) (lb_91 (j := 2) (b := 7) rfl) rfl
theorem dL_law_1459 : decode cL_law 1459 = .ok (.goto 980, 3) := de_167 (lb_91 (j := 3) (b := 167) rfl) (lb_91 (j := 4) (b := 3) rfl) (lb_91 (j := 5) (b := 212) rfl) (by decide +kernel)
theorem dL_law_1462 : decode cL_law 1462 = .ok (.aload_n 1, 1) := de_43 (lb_91 (j := 6) (b := 43) rfl)
theorem dL_law_1463 : decode cL_law 1463 = .ok (.aload_n 0, 1) := de_42 (lb_91 (j := 7) (b := 42) rfl)
theorem dL_law_1464 : decode cL_law 1464 = .ok (.iload 5, 2) := de_21 (lb_91 (j := 8) (b := 21) rfl) (lb_91 (j := 9) (b := 5) rfl) rfl
theorem dL_law_1466 : decode cL_law 1466 = .ok (.iconst 1, 1) := de_4 (lb_91 (j := 10) (b := 4) rfl)
theorem dL_law_1467 : decode cL_law 1467 = .ok (.iadd, 1) := de_96 (lb_91 (j := 11) (b := 96) rfl)
theorem dL_law_1468 : decode cL_law 1468 = .ok (.iaload, 1) := de_46 (lb_91 (j := 12) (b := 46) rfl)
theorem dL_law_1469 : decode cL_law 1469 = .ok (.aload_n 0, 1) := de_42 (lb_91 (j := 13) (b := 42) rfl)
theorem dL_law_1470 : decode cL_law 1470 = .ok (.iload 5, 2) := de_21 (lb_91 (j := 14) (b := 21) rfl) (lb_91 (j := 15) (b := 5) rfl) rfl
theorem dL_law_1472 : decode cL_law 1472 = .ok (.iconst 2, 1) := de_5 (lb_92 (j := 0) (b := 5) rfl)
theorem dL_law_1473 : decode cL_law 1473 = .ok (.iadd, 1) := de_96 (lb_92 (j := 1) (b := 96) rfl)
theorem dL_law_1474 : decode cL_law 1474 = .ok (.iaload, 1) := de_46 (lb_92 (j := 2) (b := 46) rfl)
theorem dL_law_1475 : decode cL_law 1475 = .ok (.aload_n 3, 1) := de_45 (lb_92 (j := 3) (b := 45) rfl)
theorem dL_law_1476 : decode cL_law 1476 = .ok (.invokestatic 324, 3) := de_184 (lb_92 (j := 4) (b := 184) rfl) (lb_92 (j := 5) (b := 1) rfl) (lb_92 (j := 6) (b := 68) rfl) rfl
theorem dL_law_1479 : decode cL_law 1479 = .ok (.istore 6, 2) := de_54 (lb_92 (j := 7) (b := 54) rfl) (lb_92 (j := 8) (b := 6) rfl) rfl
theorem dL_law_1481 : decode cL_law 1481 = .ok (.aload_n 2, 1) := de_44 (lb_92 (j := 9) (b := 44) rfl)
theorem dL_law_1482 : decode cL_law 1482 = .ok (.aload_n 0, 1) := de_42 (lb_92 (j := 10) (b := 42) rfl)
theorem dL_law_1483 : decode cL_law 1483 = .ok (.iload 5, 2) := de_21 (lb_92 (j := 11) (b := 21) rfl) (lb_92 (j := 12) (b := 5) rfl) rfl
theorem dL_law_1485 : decode cL_law 1485 = .ok (.iconst 1, 1) := de_4 (lb_92 (j := 13) (b := 4) rfl)
theorem dL_law_1486 : decode cL_law 1486 = .ok (.iadd, 1) := de_96 (lb_92 (j := 14) (b := 96) rfl)
theorem dL_law_1487 : decode cL_law 1487 = .ok (.iaload, 1) := de_46 (lb_92 (j := 15) (b := 46) rfl)
theorem dL_law_1488 : decode cL_law 1488 = .ok (.aload_n 0, 1) := de_42 (lb_93 (j := 0) (b := 42) rfl)
theorem dL_law_1489 : decode cL_law 1489 = .ok (.iload 5, 2) := de_21 (lb_93 (j := 1) (b := 21) rfl) (lb_93 (j := 2) (b := 5) rfl) rfl
theorem dL_law_1491 : decode cL_law 1491 = .ok (.iconst 2, 1) := de_5 (lb_93 (j := 3) (b := 5) rfl)
theorem dL_law_1492 : decode cL_law 1492 = .ok (.iadd, 1) := de_96 (lb_93 (j := 4) (b := 96) rfl)
theorem dL_law_1493 : decode cL_law 1493 = .ok (.iaload, 1) := de_46 (lb_93 (j := 5) (b := 46) rfl)
theorem dL_law_1494 : decode cL_law 1494 = .ok (.invokevirtual 326, 3) := de_182 (lb_93 (j := 6) (b := 182) rfl) (lb_93 (j := 7) (b := 1) rfl) (lb_93 (j := 8) (b := 70) rfl) rfl
theorem dL_law_1497 : decode cL_law 1497 = .ok (.istore 7, 2) := de_54 (lb_93 (j := 9) (b := 54) rfl) (lb_93 (j := 10) (b := 7) rfl) rfl
theorem dL_law_1499 : decode cL_law 1499 = .ok (.goto 940, 3) := de_167 (lb_93 (j := 11) (b := 167) rfl) (lb_93 (j := 12) (b := 3) rfl) (lb_93 (j := 13) (b := 172) rfl) (by decide +kernel)
theorem dL_law_1502 : decode cL_law 1502 = .ok (.aload_n 1, 1) := de_43 (lb_93 (j := 14) (b := 43) rfl)
theorem dL_law_1503 : decode cL_law 1503 = .ok (.aload_n 0, 1) := de_42 (lb_93 (j := 15) (b := 42) rfl)
theorem dL_law_1504 : decode cL_law 1504 = .ok (.iload 5, 2) := de_21 (lb_94 (j := 0) (b := 21) rfl) (lb_94 (j := 1) (b := 5) rfl) rfl
theorem dL_law_1506 : decode cL_law 1506 = .ok (.iconst 1, 1) := de_4 (lb_94 (j := 2) (b := 4) rfl)
theorem dL_law_1507 : decode cL_law 1507 = .ok (.iadd, 1) := de_96 (lb_94 (j := 3) (b := 96) rfl)
theorem dL_law_1508 : decode cL_law 1508 = .ok (.iaload, 1) := de_46 (lb_94 (j := 4) (b := 46) rfl)
theorem dL_law_1509 : decode cL_law 1509 = .ok (.aload_n 3, 1) := de_45 (lb_94 (j := 5) (b := 45) rfl)
theorem dL_law_1510 : decode cL_law 1510 = .ok (.invokestatic 327, 3) := de_184 (lb_94 (j := 6) (b := 184) rfl) (lb_94 (j := 7) (b := 1) rfl) (lb_94 (j := 8) (b := 71) rfl) rfl
theorem dL_law_1513 : decode cL_law 1513 = .ok (.istore 6, 2) := de_54 (lb_94 (j := 9) (b := 54) rfl) (lb_94 (j := 10) (b := 6) rfl) rfl
theorem dL_law_1515 : decode cL_law 1515 = .ok (.aload_n 2, 1) := de_44 (lb_94 (j := 11) (b := 44) rfl)
theorem dL_law_1516 : decode cL_law 1516 = .ok (.aload_n 0, 1) := de_42 (lb_94 (j := 12) (b := 42) rfl)
theorem dL_law_1517 : decode cL_law 1517 = .ok (.iload 5, 2) := de_21 (lb_94 (j := 13) (b := 21) rfl) (lb_94 (j := 14) (b := 5) rfl) rfl
theorem dL_law_1519 : decode cL_law 1519 = .ok (.iconst 1, 1) := de_4 (lb_94 (j := 15) (b := 4) rfl)
theorem dL_law_1520 : decode cL_law 1520 = .ok (.iadd, 1) := de_96 (lb_95 (j := 0) (b := 96) rfl)
theorem dL_law_1521 : decode cL_law 1521 = .ok (.iaload, 1) := de_46 (lb_95 (j := 1) (b := 46) rfl)
theorem dL_law_1522 : decode cL_law 1522 = .ok (.invokevirtual 329, 3) := de_182 (lb_95 (j := 2) (b := 182) rfl) (lb_95 (j := 3) (b := 1) rfl) (lb_95 (j := 4) (b := 73) rfl) rfl
theorem dL_law_1525 : decode cL_law 1525 = .ok (.istore 7, 2) := de_54 (lb_95 (j := 5) (b := 54) rfl) (lb_95 (j := 6) (b := 7) rfl) rfl
theorem dL_law_1527 : decode cL_law 1527 = .ok (.goto 912, 3) := de_167 (lb_95 (j := 7) (b := 167) rfl) (lb_95 (j := 8) (b := 3) rfl) (lb_95 (j := 9) (b := 144) rfl) (by decide +kernel)
theorem dL_law_1530 : decode cL_law 1530 = .ok (.aload_n 1, 1) := de_43 (lb_95 (j := 10) (b := 43) rfl)
theorem dL_law_1531 : decode cL_law 1531 = .ok (.aload_n 0, 1) := de_42 (lb_95 (j := 11) (b := 42) rfl)
theorem dL_law_1532 : decode cL_law 1532 = .ok (.iload 5, 2) := de_21 (lb_95 (j := 12) (b := 21) rfl) (lb_95 (j := 13) (b := 5) rfl) rfl
theorem dL_law_1534 : decode cL_law 1534 = .ok (.iconst 1, 1) := de_4 (lb_95 (j := 14) (b := 4) rfl)
theorem dL_law_1535 : decode cL_law 1535 = .ok (.iadd, 1) := de_96 (lb_95 (j := 15) (b := 96) rfl)
theorem dL_law_1536 : decode cL_law 1536 = .ok (.iaload, 1) := de_46 (lb_96 (j := 0) (b := 46) rfl)
theorem dL_law_1537 : decode cL_law 1537 = .ok (.aload_n 3, 1) := de_45 (lb_96 (j := 1) (b := 45) rfl)
theorem dL_law_1538 : decode cL_law 1538 = .ok (.invokestatic 330, 3) := de_184 (lb_96 (j := 2) (b := 184) rfl) (lb_96 (j := 3) (b := 1) rfl) (lb_96 (j := 4) (b := 74) rfl) rfl
theorem dL_law_1541 : decode cL_law 1541 = .ok (.istore 6, 2) := de_54 (lb_96 (j := 5) (b := 54) rfl) (lb_96 (j := 6) (b := 6) rfl) rfl
theorem dL_law_1543 : decode cL_law 1543 = .ok (.aload_n 2, 1) := de_44 (lb_96 (j := 7) (b := 44) rfl)
theorem dL_law_1544 : decode cL_law 1544 = .ok (.aload_n 0, 1) := de_42 (lb_96 (j := 8) (b := 42) rfl)
theorem dL_law_1545 : decode cL_law 1545 = .ok (.iload 5, 2) := de_21 (lb_96 (j := 9) (b := 21) rfl) (lb_96 (j := 10) (b := 5) rfl) rfl
theorem dL_law_1547 : decode cL_law 1547 = .ok (.iconst 1, 1) := de_4 (lb_96 (j := 11) (b := 4) rfl)
theorem dL_law_1548 : decode cL_law 1548 = .ok (.iadd, 1) := de_96 (lb_96 (j := 12) (b := 96) rfl)
theorem dL_law_1549 : decode cL_law 1549 = .ok (.iaload, 1) := de_46 (lb_96 (j := 13) (b := 46) rfl)
theorem dL_law_1550 : decode cL_law 1550 = .ok (.invokevirtual 332, 3) := de_182 (lb_96 (j := 14) (b := 182) rfl) (lb_96 (j := 15) (b := 1) rfl) (lb_97 (j := 0) (b := 76) rfl) rfl
theorem dL_law_1553 : decode cL_law 1553 = .ok (.lstore 7, 2) := de_55 (lb_97 (j := 1) (b := 55) rfl) (lb_97 (j := 2) (b := 7) rfl) rfl
theorem dL_law_1555 : decode cL_law 1555 = .ok (.goto 884, 3) := de_167 (lb_97 (j := 3) (b := 167) rfl) (lb_97 (j := 4) (b := 3) rfl) (lb_97 (j := 5) (b := 116) rfl) (by decide +kernel)
set_option maxHeartbeats 4000000 in
set_option maxRecDepth 100000 in
theorem y_a32 {p : Program} {e : Env} {s : State} {m : MethodId} {below : List Frame} {meth : Method} {c : Code} (l : Launch) (hst : l.stackTraces = false) {b L : Nat} {xs : Nat → Int32} (hx : p.tables.exec = Jvm.exec) (hb : c.code = code) (hml : c.maxLocals = 9) (hown : s.vm.findClass RL = some m.cls) (hts : ∀ w ∈ lw_tbl, w.before #[Value.ref b] s = true) (hX0 : va_X b L xs s s.heap) (hbl : b < s.heap.size) (hX : xT (fun q => s.heap.size ≤ q) s) (hN : nC s) (hTS : sAll s.heap.size s) {D : va_G} {cI cJ cZ cMic cSrc cSt cAI cAJ cD : ClassId} (hK : va_K D vwCl (CT cI cJ cZ cMic cSrc cSt cAI cAJ ++ [(cD, .double)]) s) {Q : State → Prop} {i j : Nat} (hi : i + 6 ≤ L) (hL : L ≤ 3072) (hj : j < 512) {aj ae : Nat} {ad am : Nat → Nat} {T : AT} {Sm : MS} {f : Nat → Int64} {g : Nat → UInt64} {ls : Array Slot} {H : Heap} {locs : List Loc} (hV : IV aR0 1586 aK1 aK2 T) (hrc : RC T) (hJ : JJ Sm) (G : gL cI cJ cZ cMic cSrc cSt cAI cAJ D ad (fun q => s.heap.size ≤ q) s.heap H locs T (oJ aj cJ f :: oD ae cD g :: MW cI cJ cZ am Sm)) (hl : lv_has ls 9 [(5, .int (nI i)), (4, .ref ae), (3, .ref aj), (2, .ref (am 0)), (1, .ref (ad 0)), (0, .ref b)]) (kk : ∀ {k1 : Nat} {r1 : UInt32} {T1 : AT} {r2 : UInt32} {S1 : MS} (ad2 : Nat → Nat) (f1 : Nat → Int64) (g1 : Nat → UInt64) (H1 : Heap) (locs1 : List Loc) (ls1 : Array Slot), g_X11_contrast T 0 = some (k1, r1, T1) → fr_contrast Sm = some (r2, S1) → ad2 0 = ad 0 → IV aR0 1586 aK1 aK2 T1 → RC T1 → JJ S1 → gL cI cJ cZ cMic cSrc cSt cAI cAJ D ad2 (fun q => s.heap.size ≤ q) s.heap H1 locs1 T1 (oJ aj cJ f1 :: oD ae cD g1 :: MW cI cJ cZ am S1) → lv_has ls1 9 [(5, .int (nI i)), (4, .ref ae), (3, .ref aj), (2, .ref (am 0)), (1, .ref (ad2 0)), (0, .ref b)] → W p l e room_1 s m #[Value.ref b] below meth c H1 locs1 (19 + T1.1 + (j + 1)) (38467 + sg T1 + 6 * (j + 1)) Q (F0 m 2439 ls1 [])) : W p l e room_1 s m #[Value.ref b] below meth c H locs (19 + T.1 + j) (38467 + sg T + 6 * j) Q (F0 m 1249 ls []) := by
  have E : cE p c cL_law s m #[Value.ref b] lw_tbl D RL (CT cI cJ cZ cMic cSrc cSt cAI cAJ ++ [(cD, .double)]) := ⟨hx, hb, hts, hown, hK⟩
  have hA : ∀ q : Nat, s.heap.size ≤ q → s.heap.size ≤ q := fun _ h => h
  have h0T : 0 < T.1 := Nat.lt_of_lt_of_le (by decide) hV.1.2.2
  have h0s : T.2.1 0 = (11, 0) := hV.2.1 0 ⟨by decide, by decide +kernel, by decide +kernel⟩
  refine lv_aload_n hx hb dL_law_1249 rfl (lv_at hl 4 rfl) ?_
  refine lv_aload hx hb dL_law_1250 (lv_at hl 1 rfl) ?_
  obtain ⟨⟨k1, r1, T1⟩, hg, hc⟩ := cs_X11_contrast T 0 hV (by decide +kernel)
  have hV1 : IV aR0 1586 aK1 aK2 T1 := hc.1.1
  have hg1 := s_X11_contrast hg
  have hg2 := sg_le hg1
  have hg3 := hg1.1
  have hk := hV1.2.2.2.2.2.2
  have hrc1 := hg1.2.2 hrc
  have hr0 := a_room
  have G := gL_swap G
  refine l_v (h0 := s.heap.size) (As := [.ref (ad 0), .ref ae]) (rest := []) E G hA hX hN (fun _ h => h) hTS hml (v_contrast l hst D s.heap.size ad T 0  ae g nn_contrast hg hrc h0T h0s) (vx_cwSW 2 hts (glA (L := [Cond.methodLink RL 308 yL_contrast, Cond.static yL_contrast, Cond.initialized RL]) (gl_in [(6, 97), (6, 98), (1, 0)] (by decide +kernel) (by decide +kernel)) ⟨(t_of [Cond.codeWith yL_contrast cL_contrast 3 (some .int) [(0, 8, 11, 21)]] [(6, 99)] (by decide +kernel) _ List.mem_cons_self), List.all_eq_true.mp (by decide +kernel : [Cond.codeWith yL_contrast cL_contrast 3 (some .int) [(0, 8, 11, 21)]].all goodWord = true) _ List.mem_cons_self⟩) rfl rfl rfl (by decide +kernel) ⟨Nat.le_of_ble_eq_true rfl, Nat.le_of_ble_eq_true rfl⟩) rfl hl.1 rfl (lv_room (Nat.le_of_ble_eq_true rfl)) dL_law_1252 ⟨by show _ ≤ 601024; omega, by show _ ≤ 7293034; omega⟩ ?_
  intro ad2 H locs had G
  have G := gL_swap G
  rw [← had 0 h0T] at hl
  refine lv_istore (lv' := [(6, .int (vck 1 0 0 k1)), (5, .int (nI i)), (4, .ref ae), (3, .ref aj), (2, .ref (am 0)), (1, .ref (ad2 0)), (0, .ref b)]) hx hb dL_law_1255 hl (by decide) rfl (fun ls hl => ?_)
  refine lv_aload_n hx hb dL_law_1257 rfl (lv_at hl 4 rfl) ?_
  obtain ⟨⟨r2, S1⟩, hf, hj⟩ := sj_contrast Sm hJ
  have hJ1 : JJ S1 := hj
  refine y_mf (As := []) (rest := []) E G hA hX.2.2.2.2 hml (tr_contrast l D cI cJ cZ am Sm  hf) (cwV 0 hts (glM (L := [Cond.methodLink RL 311 yX12_contrast, Cond.instanceMethod yX12_contrast, Cond.selects RX12 yX12_contrast yX12_contrast, Cond.initialized RX12]) (gl_in [(9, 220), (9, 221), (9, 222), (1, 14)] (by decide +kernel) (by decide +kernel)) ⟨(t_of [Cond.code yX12_contrast cX12_contrast 5 (some .float)] [(9, 223)] (by decide +kernel) _ List.mem_cons_self), List.all_eq_true.mp (by decide +kernel : [Cond.code yX12_contrast cX12_contrast 5 (some .float)].all goodWord = true) _ List.mem_cons_self⟩) rfl rfl rfl (by decide +kernel) ⟨Nat.le_of_ble_eq_true rfl, Nat.le_of_ble_eq_true rfl⟩) rfl hl.1 rfl (lv_room (Nat.le_of_ble_eq_true rfl)) dL_law_1258 ⟨by show _ ≤ 601024; omega, by show _ ≤ 7293034; omega⟩ (fun H locs G => ?_)
  refine lv_fstore (lv' := [(7, .float r2), (6, .int (vck 1 0 0 k1)), (5, .int (nI i)), (4, .ref ae), (3, .ref aj), (2, .ref (am 0)), (1, .ref (ad2 0)), (0, .ref b)]) hx hb dL_law_1261 hl (by decide) rfl (fun ls hl => ?_)
  refine lv_goto (tgt := 2439) hx hb dL_law_1263 (by decide) ?_
  have hl := lv_sub hl [2, 3, 4, 5, 6, 7] rfl
  refine W.widen (k := 19 + T1.1 + (j + 1)) (n := 38467 + sg T1 + 6 * (j + 1)) (by omega) (by omega) ?_
  exact kk ad2 f (vfD k1 g (FP.f2d r1)) H locs ls hg hf (had 0 h0T) hV1 hrc1 hJ1 G hl
set_option maxHeartbeats 4000000 in
set_option maxRecDepth 100000 in
theorem y_a33 {p : Program} {e : Env} {s : State} {m : MethodId} {below : List Frame} {meth : Method} {c : Code} (l : Launch) (hst : l.stackTraces = false) {b L : Nat} {xs : Nat → Int32} (hx : p.tables.exec = Jvm.exec) (hb : c.code = code) (hml : c.maxLocals = 9) (hown : s.vm.findClass RL = some m.cls) (hts : ∀ w ∈ lw_tbl, w.before #[Value.ref b] s = true) (hX0 : va_X b L xs s s.heap) (hbl : b < s.heap.size) (hX : xT (fun q => s.heap.size ≤ q) s) (hN : nC s) (hTS : sAll s.heap.size s) {D : va_G} {cI cJ cZ cMic cSrc cSt cAI cAJ cD : ClassId} (hK : va_K D vwCl (CT cI cJ cZ cMic cSrc cSt cAI cAJ ++ [(cD, .double)]) s) {Q : State → Prop} {i j : Nat} (hi : i + 6 ≤ L) (hL : L ≤ 3072) (hj : j < 512) {aj ae : Nat} {ad am : Nat → Nat} {T : AT} {Sm : MS} {f : Nat → Int64} {g : Nat → UInt64} {ls : Array Slot} {H : Heap} {locs : List Loc} (hV : IV aR0 1586 aK1 aK2 T) (hrc : RC T) (hJ : JJ Sm) (G : gL cI cJ cZ cMic cSrc cSt cAI cAJ D ad (fun q => s.heap.size ≤ q) s.heap H locs T (oJ aj cJ f :: oD ae cD g :: MW cI cJ cZ am Sm)) (hl : lv_has ls 9 [(5, .int (nI i)), (4, .ref ae), (3, .ref aj), (2, .ref (am 0)), (1, .ref (ad 0)), (0, .ref b)]) (kk : ∀ {k1 : Nat} {r1 : Int32} {T1 : AT} {r2 : Int32} {S1 : MS} (ad2 : Nat → Nat) (f1 : Nat → Int64) (g1 : Nat → UInt64) (H1 : Heap) (locs1 : List Loc) (ls1 : Array Slot), g_X11_alias T 0 (xs (i + 1)) (xs (i + 2)) (xs (i + 3)) = some (k1, r1, T1) → fr_alias Sm (xs (i + 1)) (xs (i + 2)) (xs (i + 3)) = some (r2, S1) → ad2 0 = ad 0 → IV aR0 1586 aK1 aK2 T1 → RC T1 → JJ S1 → gL cI cJ cZ cMic cSrc cSt cAI cAJ D ad2 (fun q => s.heap.size ≤ q) s.heap H1 locs1 T1 (oJ aj cJ f1 :: oD ae cD g1 :: MW cI cJ cZ am S1) → lv_has ls1 9 [(5, .int (nI i)), (4, .ref ae), (3, .ref aj), (2, .ref (am 0)), (1, .ref (ad2 0)), (0, .ref b)] → W p l e room_1 s m #[Value.ref b] below meth c H1 locs1 (19 + T1.1 + (j + 1)) (38467 + sg T1 + 6 * (j + 1)) Q (F0 m 2439 ls1 [])) : W p l e room_1 s m #[Value.ref b] below meth c H locs (19 + T.1 + j) (38467 + sg T + 6 * j) Q (F0 m 1266 ls []) := by
  have E : cE p c cL_law s m #[Value.ref b] lw_tbl D RL (CT cI cJ cZ cMic cSrc cSt cAI cAJ ++ [(cD, .double)]) := ⟨hx, hb, hts, hown, hK⟩
  have hA : ∀ q : Nat, s.heap.size ≤ q → s.heap.size ≤ q := fun _ h => h
  have h0T : 0 < T.1 := Nat.lt_of_lt_of_le (by decide) hV.1.2.2
  have h0s : T.2.1 0 = (11, 0) := hV.2.1 0 ⟨by decide, by decide +kernel, by decide +kernel⟩
  refine lv_aload_n hx hb dL_law_1266 rfl (lv_at hl 4 rfl) ?_
  refine lv_aload_n hx hb dL_law_1267 rfl (lv_at hl 5 rfl) ?_
  refine lv_iload hx hb dL_law_1268 (lv_at hl 0 rfl) ?_
  refine lv_iconst (v := 1) hx hb dL_law_1270 (by decide) ?_
  refine lv_iadd hx hb dL_law_1271 ?_
  refine lv_to (y := nI (i + 1)) (nI_add i 1) ?_
  refine va_sld hx hb hX0 hbl (Nat.not_le.mpr hbl) G.2.2 (i := nI (i + 1)) (vp_in_nI (n := i + 1) (N := L) (by omega) (by omega)) dL_law_1272 ?_
  refine lv_to (y := xs (i + 1)) (congrArg xs (nI_clamp (by omega))) ?_
  refine lv_aload_n hx hb dL_law_1273 rfl (lv_at hl 5 rfl) ?_
  refine lv_iload hx hb dL_law_1274 (lv_at hl 0 rfl) ?_
  refine lv_iconst (v := 2) hx hb dL_law_1276 (by decide) ?_
  refine lv_iadd hx hb dL_law_1277 ?_
  refine lv_to (y := nI (i + 2)) (nI_add i 2) ?_
  refine va_sld hx hb hX0 hbl (Nat.not_le.mpr hbl) G.2.2 (i := nI (i + 2)) (vp_in_nI (n := i + 2) (N := L) (by omega) (by omega)) dL_law_1278 ?_
  refine lv_to (y := xs (i + 2)) (congrArg xs (nI_clamp (by omega))) ?_
  refine lv_aload_n hx hb dL_law_1279 rfl (lv_at hl 5 rfl) ?_
  refine lv_iload hx hb dL_law_1280 (lv_at hl 0 rfl) ?_
  refine lv_iconst (v := 3) hx hb dL_law_1282 (by decide) ?_
  refine lv_iadd hx hb dL_law_1283 ?_
  refine lv_to (y := nI (i + 3)) (nI_add i 3) ?_
  refine va_sld hx hb hX0 hbl (Nat.not_le.mpr hbl) G.2.2 (i := nI (i + 3)) (vp_in_nI (n := i + 3) (N := L) (by omega) (by omega)) dL_law_1284 ?_
  refine lv_to (y := xs (i + 3)) (congrArg xs (nI_clamp (by omega))) ?_
  refine lv_aload_n hx hb dL_law_1285 rfl (lv_at hl 2 rfl) ?_
  obtain ⟨⟨k1, r1, T1⟩, hg, hc⟩ := cs_X11_alias T 0 (xs (i + 1)) (xs (i + 2)) (xs (i + 3)) hV (by decide +kernel)
  have hV1 : IV aR0 1586 aK1 aK2 T1 := by rw [show T1 = T from hc.1]; exact hV
  have hg1 := (gl_sp (s_X11_alias hg))
  have hg2 := sg_le hg1
  have hg3 := hg1.1
  have hk := hV1.2.2.2.2.2.2
  have hrc1 := hg1.2.2 hrc
  have hr0 := a_room
  refine l_v (h0 := s.heap.size) (As := [.ref (ad 0), .int (xs (i + 1)), .int (xs (i + 2)), .int (xs (i + 3)), .ref aj]) (rest := []) E G hA hX hN (fun _ h => h) hTS hml (v_alias l hst D s.heap.size ad T 0 (xs (i + 1)) (xs (i + 2)) (xs (i + 3)) aj f hg hrc h0T h0s) (vx_cwSW 5 hts (glA (L := [Cond.methodLink RL 312 yL_alias, Cond.static yL_alias, Cond.initialized RL]) (gl_in [(6, 121), (6, 122), (1, 0)] (by decide +kernel) (by decide +kernel)) ⟨(t_of [Cond.codeWith yL_alias cL_alias 6 (some .int) [(0, 12, 15, 21), (0, 12, 19, 13), (0, 12, 23, 15)]] [(6, 123)] (by decide +kernel) _ List.mem_cons_self), List.all_eq_true.mp (by decide +kernel : [Cond.codeWith yL_alias cL_alias 6 (some .int) [(0, 12, 15, 21), (0, 12, 19, 13), (0, 12, 23, 15)]].all goodWord = true) _ List.mem_cons_self⟩) rfl rfl rfl (by decide +kernel) ⟨Nat.le_of_ble_eq_true rfl, Nat.le_of_ble_eq_true rfl⟩) rfl hl.1 rfl (lv_room (Nat.le_of_ble_eq_true rfl)) dL_law_1286 ⟨by show _ ≤ 601024; omega, by show _ ≤ 7293034; omega⟩ ?_
  intro ad2 H locs had G
  rw [← had 0 h0T] at hl
  refine lv_istore (lv' := [(6, .int (vck 1 2 3 k1)), (5, .int (nI i)), (4, .ref ae), (3, .ref aj), (2, .ref (am 0)), (1, .ref (ad2 0)), (0, .ref b)]) hx hb dL_law_1289 hl (by decide) rfl (fun ls hl => ?_)
  refine lv_aload_n hx hb dL_law_1291 rfl (lv_at hl 4 rfl) ?_
  refine lv_aload_n hx hb dL_law_1292 rfl (lv_at hl 6 rfl) ?_
  refine lv_iload hx hb dL_law_1293 (lv_at hl 1 rfl) ?_
  refine lv_iconst (v := 1) hx hb dL_law_1295 (by decide) ?_
  refine lv_iadd hx hb dL_law_1296 ?_
  refine lv_to (y := nI (i + 1)) (nI_add i 1) ?_
  refine va_sld hx hb hX0 hbl (Nat.not_le.mpr hbl) G.2.2 (i := nI (i + 1)) (vp_in_nI (n := i + 1) (N := L) (by omega) (by omega)) dL_law_1297 ?_
  refine lv_to (y := xs (i + 1)) (congrArg xs (nI_clamp (by omega))) ?_
  refine lv_aload_n hx hb dL_law_1298 rfl (lv_at hl 6 rfl) ?_
  refine lv_iload hx hb dL_law_1299 (lv_at hl 1 rfl) ?_
  refine lv_iconst (v := 2) hx hb dL_law_1301 (by decide) ?_
  refine lv_iadd hx hb dL_law_1302 ?_
  refine lv_to (y := nI (i + 2)) (nI_add i 2) ?_
  refine va_sld hx hb hX0 hbl (Nat.not_le.mpr hbl) G.2.2 (i := nI (i + 2)) (vp_in_nI (n := i + 2) (N := L) (by omega) (by omega)) dL_law_1303 ?_
  refine lv_to (y := xs (i + 2)) (congrArg xs (nI_clamp (by omega))) ?_
  refine lv_aload_n hx hb dL_law_1304 rfl (lv_at hl 6 rfl) ?_
  refine lv_iload hx hb dL_law_1305 (lv_at hl 1 rfl) ?_
  refine lv_iconst (v := 3) hx hb dL_law_1307 (by decide) ?_
  refine lv_iadd hx hb dL_law_1308 ?_
  refine lv_to (y := nI (i + 3)) (nI_add i 3) ?_
  refine va_sld hx hb hX0 hbl (Nat.not_le.mpr hbl) G.2.2 (i := nI (i + 3)) (vp_in_nI (n := i + 3) (N := L) (by omega) (by omega)) dL_law_1309 ?_
  refine lv_to (y := xs (i + 3)) (congrArg xs (nI_clamp (by omega))) ?_
  obtain ⟨⟨r2, S1⟩, hf, hj⟩ := sj_alias Sm (xs (i + 1)) (xs (i + 2)) (xs (i + 3)) hJ
  have hJ1 : JJ S1 := hj
  refine y_mi (As := [.int (xs (i + 1)), .int (xs (i + 2)), .int (xs (i + 3))]) (rest := []) E G hA hX.2.2.2.2 hml (tr_alias l D cI cJ cZ am Sm (xs (i + 1)) (xs (i + 2)) (xs (i + 3)) hf) (cwV 3 hts (glM (L := [Cond.methodLink RL 314 yX12_alias, Cond.instanceMethod yX12_alias, Cond.selects RX12 yX12_alias yX12_alias, Cond.initialized RX12]) (gl_in [(9, 227), (9, 228), (9, 229), (1, 14)] (by decide +kernel) (by decide +kernel)) ⟨(t_of [Cond.code yX12_alias cX12_alias 4 (some .int)] [(9, 230)] (by decide +kernel) _ List.mem_cons_self), List.all_eq_true.mp (by decide +kernel : [Cond.code yX12_alias cX12_alias 4 (some .int)].all goodWord = true) _ List.mem_cons_self⟩) rfl rfl rfl (by decide +kernel) ⟨Nat.le_of_ble_eq_true rfl, Nat.le_of_ble_eq_true rfl⟩) rfl hl.1 rfl (lv_room (Nat.le_of_ble_eq_true rfl)) dL_law_1310 ⟨by show _ ≤ 601024; omega, by show _ ≤ 7293034; omega⟩ (fun H locs G => ?_)
  refine lv_istore (lv' := [(7, .int r2), (6, .int (vck 1 2 3 k1)), (5, .int (nI i)), (4, .ref ae), (3, .ref aj), (2, .ref (am 0)), (1, .ref (ad2 0)), (0, .ref b)]) hx hb dL_law_1313 hl (by decide) rfl (fun ls hl => ?_)
  refine lv_goto (tgt := 2439) hx hb dL_law_1315 (by decide) ?_
  have hl := lv_sub hl [2, 3, 4, 5, 6, 7] rfl
  refine W.widen (k := 19 + T1.1 + (j + 1)) (n := 38467 + sg T1 + 6 * (j + 1)) (by omega) (by omega) ?_
  exact kk ad2 (vfJ k1 f r1.toInt64) g H locs ls hg hf (had 0 h0T) hV1 hrc1 hJ1 G hl
set_option maxHeartbeats 4000000 in
set_option maxRecDepth 100000 in
theorem y_a34 {p : Program} {e : Env} {s : State} {m : MethodId} {below : List Frame} {meth : Method} {c : Code} (l : Launch) (hst : l.stackTraces = false) {b L : Nat} {xs : Nat → Int32} (hx : p.tables.exec = Jvm.exec) (hb : c.code = code) (hml : c.maxLocals = 9) (hown : s.vm.findClass RL = some m.cls) (hts : ∀ w ∈ lw_tbl, w.before #[Value.ref b] s = true) (hX0 : va_X b L xs s s.heap) (hbl : b < s.heap.size) (hX : xT (fun q => s.heap.size ≤ q) s) (hN : nC s) (hTS : sAll s.heap.size s) {D : va_G} {cI cJ cZ cMic cSrc cSt cAI cAJ cD : ClassId} (hK : va_K D vwCl (CT cI cJ cZ cMic cSrc cSt cAI cAJ ++ [(cD, .double)]) s) {Q : State → Prop} {i j : Nat} (hi : i + 6 ≤ L) (hL : L ≤ 3072) (hj : j < 512) {aj ae : Nat} {ad am : Nat → Nat} {T : AT} {Sm : MS} {f : Nat → Int64} {g : Nat → UInt64} {ls : Array Slot} {H : Heap} {locs : List Loc} (hV : IV aR0 1586 aK1 aK2 T) (hrc : RC T) (hJ : JJ Sm) (G : gL cI cJ cZ cMic cSrc cSt cAI cAJ D ad (fun q => s.heap.size ≤ q) s.heap H locs T (oJ aj cJ f :: oD ae cD g :: MW cI cJ cZ am Sm)) (hl : lv_has ls 9 [(5, .int (nI i)), (4, .ref ae), (3, .ref aj), (2, .ref (am 0)), (1, .ref (ad 0)), (0, .ref b)]) (kk : ∀ {k1 : Nat} {r1 : Int32} {T1 : AT} {r2 : Int32} {S1 : MS} (ad2 : Nat → Nat) (f1 : Nat → Int64) (g1 : Nat → UInt64) (H1 : Heap) (locs1 : List Loc) (ls1 : Array Slot), g_X11_isAlias T 0 (xs (i + 1)) (xs (i + 2)) (xs (i + 3)) = some (k1, r1, T1) → fr_isAlias Sm (xs (i + 1)) (xs (i + 2)) (xs (i + 3)) = some (r2, S1) → ad2 0 = ad 0 → IV aR0 1586 aK1 aK2 T1 → RC T1 → JJ S1 → gL cI cJ cZ cMic cSrc cSt cAI cAJ D ad2 (fun q => s.heap.size ≤ q) s.heap H1 locs1 T1 (oJ aj cJ f1 :: oD ae cD g1 :: MW cI cJ cZ am S1) → lv_has ls1 9 [(5, .int (nI i)), (4, .ref ae), (3, .ref aj), (2, .ref (am 0)), (1, .ref (ad2 0)), (0, .ref b)] → W p l e room_1 s m #[Value.ref b] below meth c H1 locs1 (19 + T1.1 + (j + 1)) (38467 + sg T1 + 6 * (j + 1)) Q (F0 m 2439 ls1 [])) : W p l e room_1 s m #[Value.ref b] below meth c H locs (19 + T.1 + j) (38467 + sg T + 6 * j) Q (F0 m 1318 ls []) := by
  have E : cE p c cL_law s m #[Value.ref b] lw_tbl D RL (CT cI cJ cZ cMic cSrc cSt cAI cAJ ++ [(cD, .double)]) := ⟨hx, hb, hts, hown, hK⟩
  have hA : ∀ q : Nat, s.heap.size ≤ q → s.heap.size ≤ q := fun _ h => h
  have h0T : 0 < T.1 := Nat.lt_of_lt_of_le (by decide) hV.1.2.2
  have h0s : T.2.1 0 = (11, 0) := hV.2.1 0 ⟨by decide, by decide +kernel, by decide +kernel⟩
  refine lv_aload_n hx hb dL_law_1318 rfl (lv_at hl 4 rfl) ?_
  refine lv_aload_n hx hb dL_law_1319 rfl (lv_at hl 5 rfl) ?_
  refine lv_iload hx hb dL_law_1320 (lv_at hl 0 rfl) ?_
  refine lv_iconst (v := 1) hx hb dL_law_1322 (by decide) ?_
  refine lv_iadd hx hb dL_law_1323 ?_
  refine lv_to (y := nI (i + 1)) (nI_add i 1) ?_
  refine va_sld hx hb hX0 hbl (Nat.not_le.mpr hbl) G.2.2 (i := nI (i + 1)) (vp_in_nI (n := i + 1) (N := L) (by omega) (by omega)) dL_law_1324 ?_
  refine lv_to (y := xs (i + 1)) (congrArg xs (nI_clamp (by omega))) ?_
  refine lv_aload_n hx hb dL_law_1325 rfl (lv_at hl 5 rfl) ?_
  refine lv_iload hx hb dL_law_1326 (lv_at hl 0 rfl) ?_
  refine lv_iconst (v := 2) hx hb dL_law_1328 (by decide) ?_
  refine lv_iadd hx hb dL_law_1329 ?_
  refine lv_to (y := nI (i + 2)) (nI_add i 2) ?_
  refine va_sld hx hb hX0 hbl (Nat.not_le.mpr hbl) G.2.2 (i := nI (i + 2)) (vp_in_nI (n := i + 2) (N := L) (by omega) (by omega)) dL_law_1330 ?_
  refine lv_to (y := xs (i + 2)) (congrArg xs (nI_clamp (by omega))) ?_
  refine lv_aload_n hx hb dL_law_1331 rfl (lv_at hl 5 rfl) ?_
  refine lv_iload hx hb dL_law_1332 (lv_at hl 0 rfl) ?_
  refine lv_iconst (v := 3) hx hb dL_law_1334 (by decide) ?_
  refine lv_iadd hx hb dL_law_1335 ?_
  refine lv_to (y := nI (i + 3)) (nI_add i 3) ?_
  refine va_sld hx hb hX0 hbl (Nat.not_le.mpr hbl) G.2.2 (i := nI (i + 3)) (vp_in_nI (n := i + 3) (N := L) (by omega) (by omega)) dL_law_1336 ?_
  refine lv_to (y := xs (i + 3)) (congrArg xs (nI_clamp (by omega))) ?_
  refine lv_aload_n hx hb dL_law_1337 rfl (lv_at hl 2 rfl) ?_
  obtain ⟨⟨k1, r1, T1⟩, hg, hc⟩ := cs_X11_isAlias T 0 (xs (i + 1)) (xs (i + 2)) (xs (i + 3)) hV (by decide +kernel)
  have hV1 : IV aR0 1586 aK1 aK2 T1 := hc.1.1
  have hg1 := s_X11_isAlias hg
  have hg2 := sg_le hg1
  have hg3 := hg1.1
  have hk := hV1.2.2.2.2.2.2
  have hrc1 := hg1.2.2 hrc
  have hr0 := a_room
  refine l_v (h0 := s.heap.size) (As := [.ref (ad 0), .int (xs (i + 1)), .int (xs (i + 2)), .int (xs (i + 3)), .ref aj]) (rest := []) E G hA hX hN (fun _ h => h) hTS hml (v_isAlias l hst D s.heap.size ad T 0 (xs (i + 1)) (xs (i + 2)) (xs (i + 3)) aj f hg hrc h0T h0s) (vx_cwSW 5 hts (glA (L := [Cond.methodLink RL 315 yL_isAlias, Cond.static yL_isAlias, Cond.initialized RL]) (gl_in [(6, 134), (6, 135), (1, 0)] (by decide +kernel) (by decide +kernel)) ⟨(t_of [Cond.codeWith yL_isAlias cL_isAlias 6 (some .int) [(0, 19, 22, 21), (0, 19, 26, 13), (0, 19, 30, 15)]] [(6, 136)] (by decide +kernel) _ List.mem_cons_self), List.all_eq_true.mp (by decide +kernel : [Cond.codeWith yL_isAlias cL_isAlias 6 (some .int) [(0, 19, 22, 21), (0, 19, 26, 13), (0, 19, 30, 15)]].all goodWord = true) _ List.mem_cons_self⟩) rfl rfl rfl (by decide +kernel) ⟨Nat.le_of_ble_eq_true rfl, Nat.le_of_ble_eq_true rfl⟩) rfl hl.1 rfl (lv_room (Nat.le_of_ble_eq_true rfl)) dL_law_1338 ⟨by show _ ≤ 601024; omega, by show _ ≤ 7293034; omega⟩ ?_
  intro ad2 H locs had G
  rw [← had 0 h0T] at hl
  refine lv_istore (lv' := [(6, .int (vck 1 2 3 k1)), (5, .int (nI i)), (4, .ref ae), (3, .ref aj), (2, .ref (am 0)), (1, .ref (ad2 0)), (0, .ref b)]) hx hb dL_law_1341 hl (by decide) rfl (fun ls hl => ?_)
  refine lv_aload_n hx hb dL_law_1343 rfl (lv_at hl 4 rfl) ?_
  refine lv_aload_n hx hb dL_law_1344 rfl (lv_at hl 6 rfl) ?_
  refine lv_iload hx hb dL_law_1345 (lv_at hl 1 rfl) ?_
  refine lv_iconst (v := 1) hx hb dL_law_1347 (by decide) ?_
  refine lv_iadd hx hb dL_law_1348 ?_
  refine lv_to (y := nI (i + 1)) (nI_add i 1) ?_
  refine va_sld hx hb hX0 hbl (Nat.not_le.mpr hbl) G.2.2 (i := nI (i + 1)) (vp_in_nI (n := i + 1) (N := L) (by omega) (by omega)) dL_law_1349 ?_
  refine lv_to (y := xs (i + 1)) (congrArg xs (nI_clamp (by omega))) ?_
  refine lv_aload_n hx hb dL_law_1350 rfl (lv_at hl 6 rfl) ?_
  refine lv_iload hx hb dL_law_1351 (lv_at hl 1 rfl) ?_
  refine lv_iconst (v := 2) hx hb dL_law_1353 (by decide) ?_
  refine lv_iadd hx hb dL_law_1354 ?_
  refine lv_to (y := nI (i + 2)) (nI_add i 2) ?_
  refine va_sld hx hb hX0 hbl (Nat.not_le.mpr hbl) G.2.2 (i := nI (i + 2)) (vp_in_nI (n := i + 2) (N := L) (by omega) (by omega)) dL_law_1355 ?_
  refine lv_to (y := xs (i + 2)) (congrArg xs (nI_clamp (by omega))) ?_
  refine lv_aload_n hx hb dL_law_1356 rfl (lv_at hl 6 rfl) ?_
  refine lv_iload hx hb dL_law_1357 (lv_at hl 1 rfl) ?_
  refine lv_iconst (v := 3) hx hb dL_law_1359 (by decide) ?_
  refine lv_iadd hx hb dL_law_1360 ?_
  refine lv_to (y := nI (i + 3)) (nI_add i 3) ?_
  refine va_sld hx hb hX0 hbl (Nat.not_le.mpr hbl) G.2.2 (i := nI (i + 3)) (vp_in_nI (n := i + 3) (N := L) (by omega) (by omega)) dL_law_1361 ?_
  refine lv_to (y := xs (i + 3)) (congrArg xs (nI_clamp (by omega))) ?_
  obtain ⟨⟨r2, S1⟩, hf, hj⟩ := sj_isAlias Sm (xs (i + 1)) (xs (i + 2)) (xs (i + 3)) hJ
  have hJ1 : JJ S1 := hj
  refine y_mi (As := [.int (xs (i + 1)), .int (xs (i + 2)), .int (xs (i + 3))]) (rest := []) E G hA hX.2.2.2.2 hml (tr_isAlias l D cI cJ cZ am Sm (xs (i + 1)) (xs (i + 2)) (xs (i + 3)) hf) (cwV 3 hts (glM (L := [Cond.methodLink RL 317 yX12_isAlias, Cond.instanceMethod yX12_isAlias, Cond.selects RX12 yX12_isAlias yX12_isAlias, Cond.initialized RX12]) (gl_in [(10, 2), (10, 3), (10, 4), (1, 14)] (by decide +kernel) (by decide +kernel)) ⟨(t_of [Cond.code yX12_isAlias cX12_isAlias 4 (some .boolean)] [(10, 5)] (by decide +kernel) _ List.mem_cons_self), List.all_eq_true.mp (by decide +kernel : [Cond.code yX12_isAlias cX12_isAlias 4 (some .boolean)].all goodWord = true) _ List.mem_cons_self⟩) rfl rfl rfl (by decide +kernel) ⟨Nat.le_of_ble_eq_true rfl, Nat.le_of_ble_eq_true rfl⟩) rfl hl.1 rfl (lv_room (Nat.le_of_ble_eq_true rfl)) dL_law_1362 ⟨by show _ ≤ 601024; omega, by show _ ≤ 7293034; omega⟩ (fun H locs G => ?_)
  refine lv_istore (lv' := [(7, .int r2), (6, .int (vck 1 2 3 k1)), (5, .int (nI i)), (4, .ref ae), (3, .ref aj), (2, .ref (am 0)), (1, .ref (ad2 0)), (0, .ref b)]) hx hb dL_law_1365 hl (by decide) rfl (fun ls hl => ?_)
  refine lv_goto (tgt := 2439) hx hb dL_law_1367 (by decide) ?_
  have hl := lv_sub hl [2, 3, 4, 5, 6, 7] rfl
  refine W.widen (k := 19 + T1.1 + (j + 1)) (n := 38467 + sg T1 + 6 * (j + 1)) (by omega) (by omega) ?_
  exact kk ad2 (vfJ k1 f (vzb r1)) g H locs ls hg hf (had 0 h0T) hV1 hrc1 hJ1 G hl
set_option maxHeartbeats 4000000 in
set_option maxRecDepth 100000 in
theorem y_a35 {p : Program} {e : Env} {s : State} {m : MethodId} {below : List Frame} {meth : Method} {c : Code} (l : Launch) (hst : l.stackTraces = false) {b L : Nat} {xs : Nat → Int32} (hx : p.tables.exec = Jvm.exec) (hb : c.code = code) (hml : c.maxLocals = 9) (hown : s.vm.findClass RL = some m.cls) (hts : ∀ w ∈ lw_tbl, w.before #[Value.ref b] s = true) (hX0 : va_X b L xs s s.heap) (hbl : b < s.heap.size) (hX : xT (fun q => s.heap.size ≤ q) s) (hN : nC s) (hTS : sAll s.heap.size s) {D : va_G} {cI cJ cZ cMic cSrc cSt cAI cAJ cD : ClassId} (hK : va_K D vwCl (CT cI cJ cZ cMic cSrc cSt cAI cAJ ++ [(cD, .double)]) s) {Q : State → Prop} {i j : Nat} (hi : i + 6 ≤ L) (hL : L ≤ 3072) (hj : j < 512) {aj ae : Nat} {ad am : Nat → Nat} {T : AT} {Sm : MS} {f : Nat → Int64} {g : Nat → UInt64} {ls : Array Slot} {H : Heap} {locs : List Loc} (hV : IV aR0 1586 aK1 aK2 T) (hrc : RC T) (hJ : JJ Sm) (G : gL cI cJ cZ cMic cSrc cSt cAI cAJ D ad (fun q => s.heap.size ≤ q) s.heap H locs T (oJ aj cJ f :: oD ae cD g :: MW cI cJ cZ am Sm)) (hl : lv_has ls 9 [(5, .int (nI i)), (4, .ref ae), (3, .ref aj), (2, .ref (am 0)), (1, .ref (ad 0)), (0, .ref b)]) (kk : ∀ {k1 : Nat} {r1 : Int32} {T1 : AT} {r2 : Int32} {S1 : MS} (ad2 : Nat → Nat) (f1 : Nat → Int64) (g1 : Nat → UInt64) (H1 : Heap) (locs1 : List Loc) (ls1 : Array Slot), g_X11_aliases T 0 (xs (i + 1)) (xs (i + 2)) = some (k1, r1, T1) → fr_aliases Sm (xs (i + 1)) (xs (i + 2)) = some (r2, S1) → ad2 0 = ad 0 → IV aR0 1586 aK1 aK2 T1 → RC T1 → JJ S1 → gL cI cJ cZ cMic cSrc cSt cAI cAJ D ad2 (fun q => s.heap.size ≤ q) s.heap H1 locs1 T1 (oJ aj cJ f1 :: oD ae cD g1 :: MW cI cJ cZ am S1) → lv_has ls1 9 [(5, .int (nI i)), (4, .ref ae), (3, .ref aj), (2, .ref (am 0)), (1, .ref (ad2 0)), (0, .ref b)] → W p l e room_1 s m #[Value.ref b] below meth c H1 locs1 (19 + T1.1 + (j + 1)) (38467 + sg T1 + 6 * (j + 1)) Q (F0 m 2439 ls1 [])) : W p l e room_1 s m #[Value.ref b] below meth c H locs (19 + T.1 + j) (38467 + sg T + 6 * j) Q (F0 m 1370 ls []) := by
  have E : cE p c cL_law s m #[Value.ref b] lw_tbl D RL (CT cI cJ cZ cMic cSrc cSt cAI cAJ ++ [(cD, .double)]) := ⟨hx, hb, hts, hown, hK⟩
  have hA : ∀ q : Nat, s.heap.size ≤ q → s.heap.size ≤ q := fun _ h => h
  have h0T : 0 < T.1 := Nat.lt_of_lt_of_le (by decide) hV.1.2.2
  have h0s : T.2.1 0 = (11, 0) := hV.2.1 0 ⟨by decide, by decide +kernel, by decide +kernel⟩
  refine lv_aload_n hx hb dL_law_1370 rfl (lv_at hl 4 rfl) ?_
  refine lv_aload_n hx hb dL_law_1371 rfl (lv_at hl 5 rfl) ?_
  refine lv_iload hx hb dL_law_1372 (lv_at hl 0 rfl) ?_
  refine lv_iconst (v := 1) hx hb dL_law_1374 (by decide) ?_
  refine lv_iadd hx hb dL_law_1375 ?_
  refine lv_to (y := nI (i + 1)) (nI_add i 1) ?_
  refine va_sld hx hb hX0 hbl (Nat.not_le.mpr hbl) G.2.2 (i := nI (i + 1)) (vp_in_nI (n := i + 1) (N := L) (by omega) (by omega)) dL_law_1376 ?_
  refine lv_to (y := xs (i + 1)) (congrArg xs (nI_clamp (by omega))) ?_
  refine lv_aload_n hx hb dL_law_1377 rfl (lv_at hl 5 rfl) ?_
  refine lv_iload hx hb dL_law_1378 (lv_at hl 0 rfl) ?_
  refine lv_iconst (v := 2) hx hb dL_law_1380 (by decide) ?_
  refine lv_iadd hx hb dL_law_1381 ?_
  refine lv_to (y := nI (i + 2)) (nI_add i 2) ?_
  refine va_sld hx hb hX0 hbl (Nat.not_le.mpr hbl) G.2.2 (i := nI (i + 2)) (vp_in_nI (n := i + 2) (N := L) (by omega) (by omega)) dL_law_1382 ?_
  refine lv_to (y := xs (i + 2)) (congrArg xs (nI_clamp (by omega))) ?_
  refine lv_aload_n hx hb dL_law_1383 rfl (lv_at hl 2 rfl) ?_
  obtain ⟨⟨k1, r1, T1⟩, hg, hc⟩ := cs_X11_aliases T 0 (xs (i + 1)) (xs (i + 2)) hV (by decide +kernel)
  have hV1 : IV aR0 1586 aK1 aK2 T1 := hc.1.1
  have hg1 := s_X11_aliases hg
  have hg2 := sg_le hg1
  have hg3 := hg1.1
  have hk := hV1.2.2.2.2.2.2
  have hrc1 := hg1.2.2 hrc
  have hr0 := a_room
  refine l_v (h0 := s.heap.size) (As := [.ref (ad 0), .int (xs (i + 1)), .int (xs (i + 2)), .ref aj]) (rest := []) E G hA hX hN (fun _ h => h) hTS hml (v_aliases l hst D s.heap.size ad T 0 (xs (i + 1)) (xs (i + 2)) aj f hg hrc h0T h0s) (vx_cwSW 4 hts (glA (L := [Cond.methodLink RL 318 yL_aliases, Cond.static yL_aliases, Cond.initialized RL]) (gl_in [(6, 149), (6, 150), (1, 0)] (by decide +kernel) (by decide +kernel)) ⟨(t_of [Cond.codeWith yL_aliases cL_aliases 5 (some .int) [(0, 10, 13, 21), (0, 10, 17, 15)]] [(6, 151)] (by decide +kernel) _ List.mem_cons_self), List.all_eq_true.mp (by decide +kernel : [Cond.codeWith yL_aliases cL_aliases 5 (some .int) [(0, 10, 13, 21), (0, 10, 17, 15)]].all goodWord = true) _ List.mem_cons_self⟩) rfl rfl rfl (by decide +kernel) ⟨Nat.le_of_ble_eq_true rfl, Nat.le_of_ble_eq_true rfl⟩) rfl hl.1 rfl (lv_room (Nat.le_of_ble_eq_true rfl)) dL_law_1384 ⟨by show _ ≤ 601024; omega, by show _ ≤ 7293034; omega⟩ ?_
  intro ad2 H locs had G
  rw [← had 0 h0T] at hl
  refine lv_istore (lv' := [(6, .int (vck 1 0 2 k1)), (5, .int (nI i)), (4, .ref ae), (3, .ref aj), (2, .ref (am 0)), (1, .ref (ad2 0)), (0, .ref b)]) hx hb dL_law_1387 hl (by decide) rfl (fun ls hl => ?_)
  refine lv_aload_n hx hb dL_law_1389 rfl (lv_at hl 4 rfl) ?_
  refine lv_aload_n hx hb dL_law_1390 rfl (lv_at hl 6 rfl) ?_
  refine lv_iload hx hb dL_law_1391 (lv_at hl 1 rfl) ?_
  refine lv_iconst (v := 1) hx hb dL_law_1393 (by decide) ?_
  refine lv_iadd hx hb dL_law_1394 ?_
  refine lv_to (y := nI (i + 1)) (nI_add i 1) ?_
  refine va_sld hx hb hX0 hbl (Nat.not_le.mpr hbl) G.2.2 (i := nI (i + 1)) (vp_in_nI (n := i + 1) (N := L) (by omega) (by omega)) dL_law_1395 ?_
  refine lv_to (y := xs (i + 1)) (congrArg xs (nI_clamp (by omega))) ?_
  refine lv_aload_n hx hb dL_law_1396 rfl (lv_at hl 6 rfl) ?_
  refine lv_iload hx hb dL_law_1397 (lv_at hl 1 rfl) ?_
  refine lv_iconst (v := 2) hx hb dL_law_1399 (by decide) ?_
  refine lv_iadd hx hb dL_law_1400 ?_
  refine lv_to (y := nI (i + 2)) (nI_add i 2) ?_
  refine va_sld hx hb hX0 hbl (Nat.not_le.mpr hbl) G.2.2 (i := nI (i + 2)) (vp_in_nI (n := i + 2) (N := L) (by omega) (by omega)) dL_law_1401 ?_
  refine lv_to (y := xs (i + 2)) (congrArg xs (nI_clamp (by omega))) ?_
  obtain ⟨⟨r2, S1⟩, hf, hj⟩ := sj_aliases Sm (xs (i + 1)) (xs (i + 2)) hJ
  have hJ1 : JJ S1 := hj
  refine y_mi (As := [.int (xs (i + 1)), .int (xs (i + 2))]) (rest := []) E G hA hX.2.2.2.2 hml (tr_aliases l D cI cJ cZ am Sm (xs (i + 1)) (xs (i + 2)) hf) (cwV 2 hts (glM (L := [Cond.methodLink RL 320 yX12_aliases, Cond.instanceMethod yX12_aliases, Cond.selects RX12 yX12_aliases yX12_aliases, Cond.initialized RX12]) (gl_in [(10, 13), (10, 14), (10, 15), (1, 14)] (by decide +kernel) (by decide +kernel)) ⟨(t_of [Cond.code yX12_aliases cX12_aliases 6 (some .int)] [(10, 16)] (by decide +kernel) _ List.mem_cons_self), List.all_eq_true.mp (by decide +kernel : [Cond.code yX12_aliases cX12_aliases 6 (some .int)].all goodWord = true) _ List.mem_cons_self⟩) rfl rfl rfl (by decide +kernel) ⟨Nat.le_of_ble_eq_true rfl, Nat.le_of_ble_eq_true rfl⟩) rfl hl.1 rfl (lv_room (Nat.le_of_ble_eq_true rfl)) dL_law_1402 ⟨by show _ ≤ 601024; omega, by show _ ≤ 7293034; omega⟩ (fun H locs G => ?_)
  refine lv_istore (lv' := [(7, .int r2), (6, .int (vck 1 0 2 k1)), (5, .int (nI i)), (4, .ref ae), (3, .ref aj), (2, .ref (am 0)), (1, .ref (ad2 0)), (0, .ref b)]) hx hb dL_law_1405 hl (by decide) rfl (fun ls hl => ?_)
  refine lv_goto (tgt := 2439) hx hb dL_law_1407 (by decide) ?_
  have hl := lv_sub hl [2, 3, 4, 5, 6, 7] rfl
  refine W.widen (k := 19 + T1.1 + (j + 1)) (n := 38467 + sg T1 + 6 * (j + 1)) (by omega) (by omega) ?_
  exact kk ad2 (vfJ k1 f r1.toInt64) g H locs ls hg hf (had 0 h0T) hV1 hrc1 hJ1 G hl
set_option maxHeartbeats 4000000 in
set_option maxRecDepth 100000 in
theorem y_a36 {p : Program} {e : Env} {s : State} {m : MethodId} {below : List Frame} {meth : Method} {c : Code} (l : Launch) (hst : l.stackTraces = false) {b L : Nat} {xs : Nat → Int32} (hx : p.tables.exec = Jvm.exec) (hb : c.code = code) (hml : c.maxLocals = 9) (hown : s.vm.findClass RL = some m.cls) (hts : ∀ w ∈ lw_tbl, w.before #[Value.ref b] s = true) (hX0 : va_X b L xs s s.heap) (hbl : b < s.heap.size) (hX : xT (fun q => s.heap.size ≤ q) s) (hN : nC s) (hTS : sAll s.heap.size s) {D : va_G} {cI cJ cZ cMic cSrc cSt cAI cAJ cD : ClassId} (hK : va_K D vwCl (CT cI cJ cZ cMic cSrc cSt cAI cAJ ++ [(cD, .double)]) s) {Q : State → Prop} {i j : Nat} (hi : i + 6 ≤ L) (hL : L ≤ 3072) (hj : j < 512) {aj ae : Nat} {ad am : Nat → Nat} {T : AT} {Sm : MS} {f : Nat → Int64} {g : Nat → UInt64} {ls : Array Slot} {H : Heap} {locs : List Loc} (hV : IV aR0 1586 aK1 aK2 T) (hrc : RC T) (hJ : JJ Sm) (G : gL cI cJ cZ cMic cSrc cSt cAI cAJ D ad (fun q => s.heap.size ≤ q) s.heap H locs T (oJ aj cJ f :: oD ae cD g :: MW cI cJ cZ am Sm)) (hl : lv_has ls 9 [(5, .int (nI i)), (4, .ref ae), (3, .ref aj), (2, .ref (am 0)), (1, .ref (ad 0)), (0, .ref b)]) (kk : ∀ {k1 : Nat} {r1 : Int64} {T1 : AT} {r2 : Int64} {S1 : MS} (ad2 : Nat → Nat) (f1 : Nat → Int64) (g1 : Nat → UInt64) (H1 : Heap) (locs1 : List Loc) (ls1 : Array Slot), g_X11_blockPower T 0 (xs (i + 1)) (xs (i + 2)) (xs (i + 3)) = some (k1, r1, T1) → fr_blockPower Sm (xs (i + 1)) (xs (i + 2)) (xs (i + 3)) = some (r2, S1) → ad2 0 = ad 0 → IV aR0 1586 aK1 aK2 T1 → RC T1 → JJ S1 → gL cI cJ cZ cMic cSrc cSt cAI cAJ D ad2 (fun q => s.heap.size ≤ q) s.heap H1 locs1 T1 (oJ aj cJ f1 :: oD ae cD g1 :: MW cI cJ cZ am S1) → lv_has ls1 9 [(5, .int (nI i)), (4, .ref ae), (3, .ref aj), (2, .ref (am 0)), (1, .ref (ad2 0)), (0, .ref b)] → W p l e room_1 s m #[Value.ref b] below meth c H1 locs1 (19 + T1.1 + (j + 1)) (38467 + sg T1 + 6 * (j + 1)) Q (F0 m 2439 ls1 [])) : W p l e room_1 s m #[Value.ref b] below meth c H locs (19 + T.1 + j) (38467 + sg T + 6 * j) Q (F0 m 1410 ls []) := by
  have E : cE p c cL_law s m #[Value.ref b] lw_tbl D RL (CT cI cJ cZ cMic cSrc cSt cAI cAJ ++ [(cD, .double)]) := ⟨hx, hb, hts, hown, hK⟩
  have hA : ∀ q : Nat, s.heap.size ≤ q → s.heap.size ≤ q := fun _ h => h
  have h0T : 0 < T.1 := Nat.lt_of_lt_of_le (by decide) hV.1.2.2
  have h0s : T.2.1 0 = (11, 0) := hV.2.1 0 ⟨by decide, by decide +kernel, by decide +kernel⟩
  refine lv_aload_n hx hb dL_law_1410 rfl (lv_at hl 4 rfl) ?_
  refine lv_aload_n hx hb dL_law_1411 rfl (lv_at hl 5 rfl) ?_
  refine lv_iload hx hb dL_law_1412 (lv_at hl 0 rfl) ?_
  refine lv_iconst (v := 1) hx hb dL_law_1414 (by decide) ?_
  refine lv_iadd hx hb dL_law_1415 ?_
  refine lv_to (y := nI (i + 1)) (nI_add i 1) ?_
  refine va_sld hx hb hX0 hbl (Nat.not_le.mpr hbl) G.2.2 (i := nI (i + 1)) (vp_in_nI (n := i + 1) (N := L) (by omega) (by omega)) dL_law_1416 ?_
  refine lv_to (y := xs (i + 1)) (congrArg xs (nI_clamp (by omega))) ?_
  refine lv_aload_n hx hb dL_law_1417 rfl (lv_at hl 5 rfl) ?_
  refine lv_iload hx hb dL_law_1418 (lv_at hl 0 rfl) ?_
  refine lv_iconst (v := 2) hx hb dL_law_1420 (by decide) ?_
  refine lv_iadd hx hb dL_law_1421 ?_
  refine lv_to (y := nI (i + 2)) (nI_add i 2) ?_
  refine va_sld hx hb hX0 hbl (Nat.not_le.mpr hbl) G.2.2 (i := nI (i + 2)) (vp_in_nI (n := i + 2) (N := L) (by omega) (by omega)) dL_law_1422 ?_
  refine lv_to (y := xs (i + 2)) (congrArg xs (nI_clamp (by omega))) ?_
  refine lv_aload_n hx hb dL_law_1423 rfl (lv_at hl 5 rfl) ?_
  refine lv_iload hx hb dL_law_1424 (lv_at hl 0 rfl) ?_
  refine lv_iconst (v := 3) hx hb dL_law_1426 (by decide) ?_
  refine lv_iadd hx hb dL_law_1427 ?_
  refine lv_to (y := nI (i + 3)) (nI_add i 3) ?_
  refine va_sld hx hb hX0 hbl (Nat.not_le.mpr hbl) G.2.2 (i := nI (i + 3)) (vp_in_nI (n := i + 3) (N := L) (by omega) (by omega)) dL_law_1428 ?_
  refine lv_to (y := xs (i + 3)) (congrArg xs (nI_clamp (by omega))) ?_
  refine lv_aload_n hx hb dL_law_1429 rfl (lv_at hl 2 rfl) ?_
  obtain ⟨⟨k1, r1, T1⟩, hg, hc⟩ := cs_X11_blockPower T 0 (xs (i + 1)) (xs (i + 2)) (xs (i + 3)) hV (by decide +kernel)
  have hV1 : IV aR0 1586 aK1 aK2 T1 := hc.1.1
  have hg1 := s_X11_blockPower hg
  have hg2 := sg_le hg1
  have hg3 := hg1.1
  have hk := hV1.2.2.2.2.2.2
  have hrc1 := hg1.2.2 hrc
  have hr0 := a_room
  refine l_v (h0 := s.heap.size) (As := [.ref (ad 0), .int (xs (i + 1)), .int (xs (i + 2)), .int (xs (i + 3)), .ref aj]) (rest := []) E G hA hX hN (fun _ h => h) hTS hml (v_blockPower l hst D s.heap.size ad T 0 (xs (i + 1)) (xs (i + 2)) (xs (i + 3)) aj f hg hrc h0T h0s) (vx_cwSW 5 hts (glA (L := [Cond.methodLink RL 321 yL_blockPower, Cond.static yL_blockPower, Cond.initialized RL]) (gl_in [(6, 156), (6, 157), (1, 0)] (by decide +kernel) (by decide +kernel)) ⟨(t_of [Cond.codeWith yL_blockPower cL_blockPower 6 (some .int) [(0, 11, 14, 21), (0, 11, 18, 13), (0, 11, 22, 15)]] [(6, 158)] (by decide +kernel) _ List.mem_cons_self), List.all_eq_true.mp (by decide +kernel : [Cond.codeWith yL_blockPower cL_blockPower 6 (some .int) [(0, 11, 14, 21), (0, 11, 18, 13), (0, 11, 22, 15)]].all goodWord = true) _ List.mem_cons_self⟩) rfl rfl rfl (by decide +kernel) ⟨Nat.le_of_ble_eq_true rfl, Nat.le_of_ble_eq_true rfl⟩) rfl hl.1 rfl (lv_room (Nat.le_of_ble_eq_true rfl)) dL_law_1430 ⟨by show _ ≤ 601024; omega, by show _ ≤ 7293034; omega⟩ ?_
  intro ad2 H locs had G
  rw [← had 0 h0T] at hl
  refine lv_istore (lv' := [(6, .int (vck 1 2 3 k1)), (5, .int (nI i)), (4, .ref ae), (3, .ref aj), (2, .ref (am 0)), (1, .ref (ad2 0)), (0, .ref b)]) hx hb dL_law_1433 hl (by decide) rfl (fun ls hl => ?_)
  refine lv_aload_n hx hb dL_law_1435 rfl (lv_at hl 4 rfl) ?_
  refine lv_aload_n hx hb dL_law_1436 rfl (lv_at hl 6 rfl) ?_
  refine lv_iload hx hb dL_law_1437 (lv_at hl 1 rfl) ?_
  refine lv_iconst (v := 1) hx hb dL_law_1439 (by decide) ?_
  refine lv_iadd hx hb dL_law_1440 ?_
  refine lv_to (y := nI (i + 1)) (nI_add i 1) ?_
  refine va_sld hx hb hX0 hbl (Nat.not_le.mpr hbl) G.2.2 (i := nI (i + 1)) (vp_in_nI (n := i + 1) (N := L) (by omega) (by omega)) dL_law_1441 ?_
  refine lv_to (y := xs (i + 1)) (congrArg xs (nI_clamp (by omega))) ?_
  refine lv_aload_n hx hb dL_law_1442 rfl (lv_at hl 6 rfl) ?_
  refine lv_iload hx hb dL_law_1443 (lv_at hl 1 rfl) ?_
  refine lv_iconst (v := 2) hx hb dL_law_1445 (by decide) ?_
  refine lv_iadd hx hb dL_law_1446 ?_
  refine lv_to (y := nI (i + 2)) (nI_add i 2) ?_
  refine va_sld hx hb hX0 hbl (Nat.not_le.mpr hbl) G.2.2 (i := nI (i + 2)) (vp_in_nI (n := i + 2) (N := L) (by omega) (by omega)) dL_law_1447 ?_
  refine lv_to (y := xs (i + 2)) (congrArg xs (nI_clamp (by omega))) ?_
  refine lv_aload_n hx hb dL_law_1448 rfl (lv_at hl 6 rfl) ?_
  refine lv_iload hx hb dL_law_1449 (lv_at hl 1 rfl) ?_
  refine lv_iconst (v := 3) hx hb dL_law_1451 (by decide) ?_
  refine lv_iadd hx hb dL_law_1452 ?_
  refine lv_to (y := nI (i + 3)) (nI_add i 3) ?_
  refine va_sld hx hb hX0 hbl (Nat.not_le.mpr hbl) G.2.2 (i := nI (i + 3)) (vp_in_nI (n := i + 3) (N := L) (by omega) (by omega)) dL_law_1453 ?_
  refine lv_to (y := xs (i + 3)) (congrArg xs (nI_clamp (by omega))) ?_
  obtain ⟨⟨r2, S1⟩, hf, hj⟩ := sj_blockPower Sm (xs (i + 1)) (xs (i + 2)) (xs (i + 3)) hJ
  have hJ1 : JJ S1 := hj
  refine y_ml (As := [.int (xs (i + 1)), .int (xs (i + 2)), .int (xs (i + 3))]) (rest := []) E G hA hX.2.2.2.2 hml (tr_blockPower l D cI cJ cZ am Sm (xs (i + 1)) (xs (i + 2)) (xs (i + 3)) hf) (cwV 3 hts (glM (L := [Cond.methodLink RL 323 yX12_blockPower, Cond.instanceMethod yX12_blockPower, Cond.selects RX12 yX12_blockPower yX12_blockPower, Cond.initialized RX12]) (gl_in [(10, 17), (10, 18), (10, 19), (1, 14)] (by decide +kernel) (by decide +kernel)) ⟨(t_of [Cond.code yX12_blockPower cX12_blockPower 4 (some .long)] [(10, 20)] (by decide +kernel) _ List.mem_cons_self), List.all_eq_true.mp (by decide +kernel : [Cond.code yX12_blockPower cX12_blockPower 4 (some .long)].all goodWord = true) _ List.mem_cons_self⟩) rfl rfl rfl (by decide +kernel) ⟨Nat.le_of_ble_eq_true rfl, Nat.le_of_ble_eq_true rfl⟩) rfl hl.1 rfl (lv_room (Nat.le_of_ble_eq_true rfl)) dL_law_1454 ⟨by show _ ≤ 601024; omega, by show _ ≤ 7293034; omega⟩ (fun H locs G => ?_)
  refine lv_lstore (lv' := [(7, .long r2), (6, .int (vck 1 2 3 k1)), (5, .int (nI i)), (4, .ref ae), (3, .ref aj), (2, .ref (am 0)), (1, .ref (ad2 0)), (0, .ref b)]) hx hb dL_law_1457 hl (by decide) rfl (fun ls hl => ?_)
  refine lv_goto (tgt := 2439) hx hb dL_law_1459 (by decide) ?_
  have hl := lv_sub hl [2, 3, 4, 5, 6, 7] rfl
  refine W.widen (k := 19 + T1.1 + (j + 1)) (n := 38467 + sg T1 + 6 * (j + 1)) (by omega) (by omega) ?_
  exact kk ad2 (vfJ k1 f r1) g H locs ls hg hf (had 0 h0T) hV1 hrc1 hJ1 G hl
set_option maxHeartbeats 4000000 in
set_option maxRecDepth 100000 in
theorem y_a37 {p : Program} {e : Env} {s : State} {m : MethodId} {below : List Frame} {meth : Method} {c : Code} (l : Launch) (hst : l.stackTraces = false) {b L : Nat} {xs : Nat → Int32} (hx : p.tables.exec = Jvm.exec) (hb : c.code = code) (hml : c.maxLocals = 9) (hown : s.vm.findClass RL = some m.cls) (hts : ∀ w ∈ lw_tbl, w.before #[Value.ref b] s = true) (hX0 : va_X b L xs s s.heap) (hbl : b < s.heap.size) (hX : xT (fun q => s.heap.size ≤ q) s) (hN : nC s) (hTS : sAll s.heap.size s) {D : va_G} {cI cJ cZ cMic cSrc cSt cAI cAJ cD : ClassId} (hK : va_K D vwCl (CT cI cJ cZ cMic cSrc cSt cAI cAJ ++ [(cD, .double)]) s) {Q : State → Prop} {i j : Nat} (hi : i + 6 ≤ L) (hL : L ≤ 3072) (hj : j < 512) {aj ae : Nat} {ad am : Nat → Nat} {T : AT} {Sm : MS} {f : Nat → Int64} {g : Nat → UInt64} {ls : Array Slot} {H : Heap} {locs : List Loc} (hV : IV aR0 1586 aK1 aK2 T) (hrc : RC T) (hJ : JJ Sm) (G : gL cI cJ cZ cMic cSrc cSt cAI cAJ D ad (fun q => s.heap.size ≤ q) s.heap H locs T (oJ aj cJ f :: oD ae cD g :: MW cI cJ cZ am Sm)) (hl : lv_has ls 9 [(5, .int (nI i)), (4, .ref ae), (3, .ref aj), (2, .ref (am 0)), (1, .ref (ad 0)), (0, .ref b)]) (kk : ∀ {k1 : Nat} {r1 : Int32} {T1 : AT} {r2 : Int32} {S1 : MS} (ad2 : Nat → Nat) (f1 : Nat → Int64) (g1 : Nat → UInt64) (H1 : Heap) (locs1 : List Loc) (ls1 : Array Slot), g_X11_blockBest T 0 (xs (i + 1)) (xs (i + 2)) = some (k1, r1, T1) → fr_blockBest Sm (xs (i + 1)) (xs (i + 2)) = some (r2, S1) → ad2 0 = ad 0 → IV aR0 1586 aK1 aK2 T1 → RC T1 → JJ S1 → gL cI cJ cZ cMic cSrc cSt cAI cAJ D ad2 (fun q => s.heap.size ≤ q) s.heap H1 locs1 T1 (oJ aj cJ f1 :: oD ae cD g1 :: MW cI cJ cZ am S1) → lv_has ls1 9 [(5, .int (nI i)), (4, .ref ae), (3, .ref aj), (2, .ref (am 0)), (1, .ref (ad2 0)), (0, .ref b)] → W p l e room_1 s m #[Value.ref b] below meth c H1 locs1 (19 + T1.1 + (j + 1)) (38467 + sg T1 + 6 * (j + 1)) Q (F0 m 2439 ls1 [])) : W p l e room_1 s m #[Value.ref b] below meth c H locs (19 + T.1 + j) (38467 + sg T + 6 * j) Q (F0 m 1462 ls []) := by
  have E : cE p c cL_law s m #[Value.ref b] lw_tbl D RL (CT cI cJ cZ cMic cSrc cSt cAI cAJ ++ [(cD, .double)]) := ⟨hx, hb, hts, hown, hK⟩
  have hA : ∀ q : Nat, s.heap.size ≤ q → s.heap.size ≤ q := fun _ h => h
  have h0T : 0 < T.1 := Nat.lt_of_lt_of_le (by decide) hV.1.2.2
  have h0s : T.2.1 0 = (11, 0) := hV.2.1 0 ⟨by decide, by decide +kernel, by decide +kernel⟩
  refine lv_aload_n hx hb dL_law_1462 rfl (lv_at hl 4 rfl) ?_
  refine lv_aload_n hx hb dL_law_1463 rfl (lv_at hl 5 rfl) ?_
  refine lv_iload hx hb dL_law_1464 (lv_at hl 0 rfl) ?_
  refine lv_iconst (v := 1) hx hb dL_law_1466 (by decide) ?_
  refine lv_iadd hx hb dL_law_1467 ?_
  refine lv_to (y := nI (i + 1)) (nI_add i 1) ?_
  refine va_sld hx hb hX0 hbl (Nat.not_le.mpr hbl) G.2.2 (i := nI (i + 1)) (vp_in_nI (n := i + 1) (N := L) (by omega) (by omega)) dL_law_1468 ?_
  refine lv_to (y := xs (i + 1)) (congrArg xs (nI_clamp (by omega))) ?_
  refine lv_aload_n hx hb dL_law_1469 rfl (lv_at hl 5 rfl) ?_
  refine lv_iload hx hb dL_law_1470 (lv_at hl 0 rfl) ?_
  refine lv_iconst (v := 2) hx hb dL_law_1472 (by decide) ?_
  refine lv_iadd hx hb dL_law_1473 ?_
  refine lv_to (y := nI (i + 2)) (nI_add i 2) ?_
  refine va_sld hx hb hX0 hbl (Nat.not_le.mpr hbl) G.2.2 (i := nI (i + 2)) (vp_in_nI (n := i + 2) (N := L) (by omega) (by omega)) dL_law_1474 ?_
  refine lv_to (y := xs (i + 2)) (congrArg xs (nI_clamp (by omega))) ?_
  refine lv_aload_n hx hb dL_law_1475 rfl (lv_at hl 2 rfl) ?_
  obtain ⟨⟨k1, r1, T1⟩, hg, hc⟩ := cs_X11_blockBest T 0 (xs (i + 1)) (xs (i + 2)) hV (by decide +kernel)
  have hV1 : IV aR0 1586 aK1 aK2 T1 := hc.1.1
  have hg1 := s_X11_blockBest hg
  have hg2 := sg_le hg1
  have hg3 := hg1.1
  have hk := hV1.2.2.2.2.2.2
  have hrc1 := hg1.2.2 hrc
  have hr0 := a_room
  refine l_v (h0 := s.heap.size) (As := [.ref (ad 0), .int (xs (i + 1)), .int (xs (i + 2)), .ref aj]) (rest := []) E G hA hX hN (fun _ h => h) hTS hml (v_blockBest l hst D s.heap.size ad T 0 (xs (i + 1)) (xs (i + 2)) aj f hg hrc h0T h0s) (vx_cwSW 4 hts (glA (L := [Cond.methodLink RL 324 yL_blockBest, Cond.static yL_blockBest, Cond.initialized RL]) (gl_in [(6, 164), (6, 165), (1, 0)] (by decide +kernel) (by decide +kernel)) ⟨(t_of [Cond.codeWith yL_blockBest cL_blockBest 5 (some .int) [(0, 10, 13, 21), (0, 10, 17, 15)]] [(6, 166)] (by decide +kernel) _ List.mem_cons_self), List.all_eq_true.mp (by decide +kernel : [Cond.codeWith yL_blockBest cL_blockBest 5 (some .int) [(0, 10, 13, 21), (0, 10, 17, 15)]].all goodWord = true) _ List.mem_cons_self⟩) rfl rfl rfl (by decide +kernel) ⟨Nat.le_of_ble_eq_true rfl, Nat.le_of_ble_eq_true rfl⟩) rfl hl.1 rfl (lv_room (Nat.le_of_ble_eq_true rfl)) dL_law_1476 ⟨by show _ ≤ 601024; omega, by show _ ≤ 7293034; omega⟩ ?_
  intro ad2 H locs had G
  rw [← had 0 h0T] at hl
  refine lv_istore (lv' := [(6, .int (vck 1 0 2 k1)), (5, .int (nI i)), (4, .ref ae), (3, .ref aj), (2, .ref (am 0)), (1, .ref (ad2 0)), (0, .ref b)]) hx hb dL_law_1479 hl (by decide) rfl (fun ls hl => ?_)
  refine lv_aload_n hx hb dL_law_1481 rfl (lv_at hl 4 rfl) ?_
  refine lv_aload_n hx hb dL_law_1482 rfl (lv_at hl 6 rfl) ?_
  refine lv_iload hx hb dL_law_1483 (lv_at hl 1 rfl) ?_
  refine lv_iconst (v := 1) hx hb dL_law_1485 (by decide) ?_
  refine lv_iadd hx hb dL_law_1486 ?_
  refine lv_to (y := nI (i + 1)) (nI_add i 1) ?_
  refine va_sld hx hb hX0 hbl (Nat.not_le.mpr hbl) G.2.2 (i := nI (i + 1)) (vp_in_nI (n := i + 1) (N := L) (by omega) (by omega)) dL_law_1487 ?_
  refine lv_to (y := xs (i + 1)) (congrArg xs (nI_clamp (by omega))) ?_
  refine lv_aload_n hx hb dL_law_1488 rfl (lv_at hl 6 rfl) ?_
  refine lv_iload hx hb dL_law_1489 (lv_at hl 1 rfl) ?_
  refine lv_iconst (v := 2) hx hb dL_law_1491 (by decide) ?_
  refine lv_iadd hx hb dL_law_1492 ?_
  refine lv_to (y := nI (i + 2)) (nI_add i 2) ?_
  refine va_sld hx hb hX0 hbl (Nat.not_le.mpr hbl) G.2.2 (i := nI (i + 2)) (vp_in_nI (n := i + 2) (N := L) (by omega) (by omega)) dL_law_1493 ?_
  refine lv_to (y := xs (i + 2)) (congrArg xs (nI_clamp (by omega))) ?_
  obtain ⟨⟨r2, S1⟩, hf, hj⟩ := sj_blockBest Sm (xs (i + 1)) (xs (i + 2)) hJ
  have hJ1 : JJ S1 := hj
  refine y_mi (As := [.int (xs (i + 1)), .int (xs (i + 2))]) (rest := []) E G hA hX.2.2.2.2 hml (tr_blockBest l D cI cJ cZ am Sm (xs (i + 1)) (xs (i + 2)) hf) (cwV 2 hts (glM (L := [Cond.methodLink RL 326 yX12_blockBest, Cond.instanceMethod yX12_blockBest, Cond.selects RX12 yX12_blockBest yX12_blockBest, Cond.initialized RX12]) (gl_in [(10, 29), (10, 30), (10, 31), (1, 14)] (by decide +kernel) (by decide +kernel)) ⟨(t_of [Cond.code yX12_blockBest cX12_blockBest 3 (some .int)] [(10, 32)] (by decide +kernel) _ List.mem_cons_self), List.all_eq_true.mp (by decide +kernel : [Cond.code yX12_blockBest cX12_blockBest 3 (some .int)].all goodWord = true) _ List.mem_cons_self⟩) rfl rfl rfl (by decide +kernel) ⟨Nat.le_of_ble_eq_true rfl, Nat.le_of_ble_eq_true rfl⟩) rfl hl.1 rfl (lv_room (Nat.le_of_ble_eq_true rfl)) dL_law_1494 ⟨by show _ ≤ 601024; omega, by show _ ≤ 7293034; omega⟩ (fun H locs G => ?_)
  refine lv_istore (lv' := [(7, .int r2), (6, .int (vck 1 0 2 k1)), (5, .int (nI i)), (4, .ref ae), (3, .ref aj), (2, .ref (am 0)), (1, .ref (ad2 0)), (0, .ref b)]) hx hb dL_law_1497 hl (by decide) rfl (fun ls hl => ?_)
  refine lv_goto (tgt := 2439) hx hb dL_law_1499 (by decide) ?_
  have hl := lv_sub hl [2, 3, 4, 5, 6, 7] rfl
  refine W.widen (k := 19 + T1.1 + (j + 1)) (n := 38467 + sg T1 + 6 * (j + 1)) (by omega) (by omega) ?_
  exact kk ad2 (vfJ k1 f r1.toInt64) g H locs ls hg hf (had 0 h0T) hV1 hrc1 hJ1 G hl
set_option maxHeartbeats 4000000 in
set_option maxRecDepth 100000 in
theorem y_a38 {p : Program} {e : Env} {s : State} {m : MethodId} {below : List Frame} {meth : Method} {c : Code} (l : Launch) (hst : l.stackTraces = false) {b L : Nat} {xs : Nat → Int32} (hx : p.tables.exec = Jvm.exec) (hb : c.code = code) (hml : c.maxLocals = 9) (hown : s.vm.findClass RL = some m.cls) (hts : ∀ w ∈ lw_tbl, w.before #[Value.ref b] s = true) (hX0 : va_X b L xs s s.heap) (hbl : b < s.heap.size) (hX : xT (fun q => s.heap.size ≤ q) s) (hN : nC s) (hTS : sAll s.heap.size s) {D : va_G} {cI cJ cZ cMic cSrc cSt cAI cAJ cD : ClassId} (hK : va_K D vwCl (CT cI cJ cZ cMic cSrc cSt cAI cAJ ++ [(cD, .double)]) s) {Q : State → Prop} {i j : Nat} (hi : i + 6 ≤ L) (hL : L ≤ 3072) (hj : j < 512) {aj ae : Nat} {ad am : Nat → Nat} {T : AT} {Sm : MS} {f : Nat → Int64} {g : Nat → UInt64} {ls : Array Slot} {H : Heap} {locs : List Loc} (hV : IV aR0 1586 aK1 aK2 T) (hrc : RC T) (hJ : JJ Sm) (G : gL cI cJ cZ cMic cSrc cSt cAI cAJ D ad (fun q => s.heap.size ≤ q) s.heap H locs T (oJ aj cJ f :: oD ae cD g :: MW cI cJ cZ am Sm)) (hl : lv_has ls 9 [(5, .int (nI i)), (4, .ref ae), (3, .ref aj), (2, .ref (am 0)), (1, .ref (ad 0)), (0, .ref b)]) (kk : ∀ {k1 : Nat} {r1 : Int32} {T1 : AT} {r2 : Int32} {S1 : MS} (ad2 : Nat → Nat) (f1 : Nat → Int64) (g1 : Nat → UInt64) (H1 : Heap) (locs1 : List Loc) (ls1 : Array Slot), g_X11_path T 0 (xs (i + 1)) = some (k1, r1, T1) → fr_path Sm (xs (i + 1)) = some (r2, S1) → ad2 0 = ad 0 → IV aR0 1586 aK1 aK2 T1 → RC T1 → JJ S1 → gL cI cJ cZ cMic cSrc cSt cAI cAJ D ad2 (fun q => s.heap.size ≤ q) s.heap H1 locs1 T1 (oJ aj cJ f1 :: oD ae cD g1 :: MW cI cJ cZ am S1) → lv_has ls1 9 [(5, .int (nI i)), (4, .ref ae), (3, .ref aj), (2, .ref (am 0)), (1, .ref (ad2 0)), (0, .ref b)] → W p l e room_1 s m #[Value.ref b] below meth c H1 locs1 (19 + T1.1 + (j + 1)) (38467 + sg T1 + 6 * (j + 1)) Q (F0 m 2439 ls1 [])) : W p l e room_1 s m #[Value.ref b] below meth c H locs (19 + T.1 + j) (38467 + sg T + 6 * j) Q (F0 m 1502 ls []) := by
  have E : cE p c cL_law s m #[Value.ref b] lw_tbl D RL (CT cI cJ cZ cMic cSrc cSt cAI cAJ ++ [(cD, .double)]) := ⟨hx, hb, hts, hown, hK⟩
  have hA : ∀ q : Nat, s.heap.size ≤ q → s.heap.size ≤ q := fun _ h => h
  have h0T : 0 < T.1 := Nat.lt_of_lt_of_le (by decide) hV.1.2.2
  have h0s : T.2.1 0 = (11, 0) := hV.2.1 0 ⟨by decide, by decide +kernel, by decide +kernel⟩
  refine lv_aload_n hx hb dL_law_1502 rfl (lv_at hl 4 rfl) ?_
  refine lv_aload_n hx hb dL_law_1503 rfl (lv_at hl 5 rfl) ?_
  refine lv_iload hx hb dL_law_1504 (lv_at hl 0 rfl) ?_
  refine lv_iconst (v := 1) hx hb dL_law_1506 (by decide) ?_
  refine lv_iadd hx hb dL_law_1507 ?_
  refine lv_to (y := nI (i + 1)) (nI_add i 1) ?_
  refine va_sld hx hb hX0 hbl (Nat.not_le.mpr hbl) G.2.2 (i := nI (i + 1)) (vp_in_nI (n := i + 1) (N := L) (by omega) (by omega)) dL_law_1508 ?_
  refine lv_to (y := xs (i + 1)) (congrArg xs (nI_clamp (by omega))) ?_
  refine lv_aload_n hx hb dL_law_1509 rfl (lv_at hl 2 rfl) ?_
  obtain ⟨⟨k1, r1, T1⟩, hg, hc⟩ := cs_X11_path T 0 (xs (i + 1)) hV (by decide +kernel)
  have hV1 : IV aR0 1586 aK1 aK2 T1 := hc.1.1
  have hg1 := s_X11_path hg
  have hg2 := sg_le hg1
  have hg3 := hg1.1
  have hk := hV1.2.2.2.2.2.2
  have hrc1 := hg1.2.2 hrc
  have hr0 := a_room
  refine l_v (h0 := s.heap.size) (As := [.ref (ad 0), .int (xs (i + 1)), .ref aj]) (rest := []) E G hA hX hN (fun _ h => h) hTS hml (v_path l hst D s.heap.size ad T 0 (xs (i + 1)) aj f hg hrc h0T h0s) (vx_cwSW 3 hts (glA (L := [Cond.methodLink RL 327 yL_path, Cond.static yL_path, Cond.initialized RL]) (gl_in [(6, 186), (6, 187), (1, 0)] (by decide +kernel) (by decide +kernel)) ⟨(t_of [Cond.codeWith yL_path cL_path 4 (some .int) [(0, 9, 12, 21), (0, 9, 15, 15)]] [(6, 188)] (by decide +kernel) _ List.mem_cons_self), List.all_eq_true.mp (by decide +kernel : [Cond.codeWith yL_path cL_path 4 (some .int) [(0, 9, 12, 21), (0, 9, 15, 15)]].all goodWord = true) _ List.mem_cons_self⟩) rfl rfl rfl (by decide +kernel) ⟨Nat.le_of_ble_eq_true rfl, Nat.le_of_ble_eq_true rfl⟩) rfl hl.1 rfl (lv_room (Nat.le_of_ble_eq_true rfl)) dL_law_1510 ⟨by show _ ≤ 601024; omega, by show _ ≤ 7293034; omega⟩ ?_
  intro ad2 H locs had G
  rw [← had 0 h0T] at hl
  refine lv_istore (lv' := [(6, .int (vck 1 0 2 k1)), (5, .int (nI i)), (4, .ref ae), (3, .ref aj), (2, .ref (am 0)), (1, .ref (ad2 0)), (0, .ref b)]) hx hb dL_law_1513 hl (by decide) rfl (fun ls hl => ?_)
  refine lv_aload_n hx hb dL_law_1515 rfl (lv_at hl 4 rfl) ?_
  refine lv_aload_n hx hb dL_law_1516 rfl (lv_at hl 6 rfl) ?_
  refine lv_iload hx hb dL_law_1517 (lv_at hl 1 rfl) ?_
  refine lv_iconst (v := 1) hx hb dL_law_1519 (by decide) ?_
  refine lv_iadd hx hb dL_law_1520 ?_
  refine lv_to (y := nI (i + 1)) (nI_add i 1) ?_
  refine va_sld hx hb hX0 hbl (Nat.not_le.mpr hbl) G.2.2 (i := nI (i + 1)) (vp_in_nI (n := i + 1) (N := L) (by omega) (by omega)) dL_law_1521 ?_
  refine lv_to (y := xs (i + 1)) (congrArg xs (nI_clamp (by omega))) ?_
  obtain ⟨⟨r2, S1⟩, hf, hj⟩ := sj_path Sm (xs (i + 1)) hJ
  have hJ1 : JJ S1 := hj
  refine y_mi (As := [.int (xs (i + 1))]) (rest := []) E G hA hX.2.2.2.2 hml (tr_path l D cI cJ cZ am Sm (xs (i + 1)) hf) (cwV 1 hts (glM (L := [Cond.methodLink RL 329 yX12_path, Cond.instanceMethod yX12_path, Cond.selects RX12 yX12_path yX12_path, Cond.initialized RX12]) (gl_in [(10, 37), (10, 38), (10, 39), (1, 14)] (by decide +kernel) (by decide +kernel)) ⟨(t_of [Cond.code yX12_path cX12_path 6 (some .int)] [(10, 40)] (by decide +kernel) _ List.mem_cons_self), List.all_eq_true.mp (by decide +kernel : [Cond.code yX12_path cX12_path 6 (some .int)].all goodWord = true) _ List.mem_cons_self⟩) rfl rfl rfl (by decide +kernel) ⟨Nat.le_of_ble_eq_true rfl, Nat.le_of_ble_eq_true rfl⟩) rfl hl.1 rfl (lv_room (Nat.le_of_ble_eq_true rfl)) dL_law_1522 ⟨by show _ ≤ 601024; omega, by show _ ≤ 7293034; omega⟩ (fun H locs G => ?_)
  refine lv_istore (lv' := [(7, .int r2), (6, .int (vck 1 0 2 k1)), (5, .int (nI i)), (4, .ref ae), (3, .ref aj), (2, .ref (am 0)), (1, .ref (ad2 0)), (0, .ref b)]) hx hb dL_law_1525 hl (by decide) rfl (fun ls hl => ?_)
  refine lv_goto (tgt := 2439) hx hb dL_law_1527 (by decide) ?_
  have hl := lv_sub hl [2, 3, 4, 5, 6, 7] rfl
  refine W.widen (k := 19 + T1.1 + (j + 1)) (n := 38467 + sg T1 + 6 * (j + 1)) (by omega) (by omega) ?_
  exact kk ad2 (vfJ k1 f r1.toInt64) g H locs ls hg hf (had 0 h0T) hV1 hrc1 hJ1 G hl
set_option maxHeartbeats 4000000 in
set_option maxRecDepth 100000 in
theorem y_a39 {p : Program} {e : Env} {s : State} {m : MethodId} {below : List Frame} {meth : Method} {c : Code} (l : Launch) (hst : l.stackTraces = false) {b L : Nat} {xs : Nat → Int32} (hx : p.tables.exec = Jvm.exec) (hb : c.code = code) (hml : c.maxLocals = 9) (hown : s.vm.findClass RL = some m.cls) (hts : ∀ w ∈ lw_tbl, w.before #[Value.ref b] s = true) (hX0 : va_X b L xs s s.heap) (hbl : b < s.heap.size) (hX : xT (fun q => s.heap.size ≤ q) s) (hN : nC s) (hTS : sAll s.heap.size s) {D : va_G} {cI cJ cZ cMic cSrc cSt cAI cAJ cD : ClassId} (hK : va_K D vwCl (CT cI cJ cZ cMic cSrc cSt cAI cAJ ++ [(cD, .double)]) s) {Q : State → Prop} {i j : Nat} (hi : i + 6 ≤ L) (hL : L ≤ 3072) (hj : j < 512) {aj ae : Nat} {ad am : Nat → Nat} {T : AT} {Sm : MS} {f : Nat → Int64} {g : Nat → UInt64} {ls : Array Slot} {H : Heap} {locs : List Loc} (hV : IV aR0 1586 aK1 aK2 T) (hrc : RC T) (hJ : JJ Sm) (G : gL cI cJ cZ cMic cSrc cSt cAI cAJ D ad (fun q => s.heap.size ≤ q) s.heap H locs T (oJ aj cJ f :: oD ae cD g :: MW cI cJ cZ am Sm)) (hl : lv_has ls 9 [(5, .int (nI i)), (4, .ref ae), (3, .ref aj), (2, .ref (am 0)), (1, .ref (ad 0)), (0, .ref b)]) (kk : ∀ {k1 : Nat} {r1 : Int64} {T1 : AT} {r2 : Int64} {S1 : MS} (ad2 : Nat → Nat) (f1 : Nat → Int64) (g1 : Nat → UInt64) (H1 : Heap) (locs1 : List Loc) (ls1 : Array Slot), g_X11_trackScore T 0 (xs (i + 1)) = some (k1, r1, T1) → fr_trackScore Sm (xs (i + 1)) = some (r2, S1) → ad2 0 = ad 0 → IV aR0 1586 aK1 aK2 T1 → RC T1 → JJ S1 → gL cI cJ cZ cMic cSrc cSt cAI cAJ D ad2 (fun q => s.heap.size ≤ q) s.heap H1 locs1 T1 (oJ aj cJ f1 :: oD ae cD g1 :: MW cI cJ cZ am S1) → lv_has ls1 9 [(5, .int (nI i)), (4, .ref ae), (3, .ref aj), (2, .ref (am 0)), (1, .ref (ad2 0)), (0, .ref b)] → W p l e room_1 s m #[Value.ref b] below meth c H1 locs1 (19 + T1.1 + (j + 1)) (38467 + sg T1 + 6 * (j + 1)) Q (F0 m 2439 ls1 [])) : W p l e room_1 s m #[Value.ref b] below meth c H locs (19 + T.1 + j) (38467 + sg T + 6 * j) Q (F0 m 1530 ls []) := by
  have E : cE p c cL_law s m #[Value.ref b] lw_tbl D RL (CT cI cJ cZ cMic cSrc cSt cAI cAJ ++ [(cD, .double)]) := ⟨hx, hb, hts, hown, hK⟩
  have hA : ∀ q : Nat, s.heap.size ≤ q → s.heap.size ≤ q := fun _ h => h
  have h0T : 0 < T.1 := Nat.lt_of_lt_of_le (by decide) hV.1.2.2
  have h0s : T.2.1 0 = (11, 0) := hV.2.1 0 ⟨by decide, by decide +kernel, by decide +kernel⟩
  refine lv_aload_n hx hb dL_law_1530 rfl (lv_at hl 4 rfl) ?_
  refine lv_aload_n hx hb dL_law_1531 rfl (lv_at hl 5 rfl) ?_
  refine lv_iload hx hb dL_law_1532 (lv_at hl 0 rfl) ?_
  refine lv_iconst (v := 1) hx hb dL_law_1534 (by decide) ?_
  refine lv_iadd hx hb dL_law_1535 ?_
  refine lv_to (y := nI (i + 1)) (nI_add i 1) ?_
  refine va_sld hx hb hX0 hbl (Nat.not_le.mpr hbl) G.2.2 (i := nI (i + 1)) (vp_in_nI (n := i + 1) (N := L) (by omega) (by omega)) dL_law_1536 ?_
  refine lv_to (y := xs (i + 1)) (congrArg xs (nI_clamp (by omega))) ?_
  refine lv_aload_n hx hb dL_law_1537 rfl (lv_at hl 2 rfl) ?_
  obtain ⟨⟨k1, r1, T1⟩, hg, hc⟩ := cs_X11_trackScore T 0 (xs (i + 1)) hV (by decide +kernel)
  have hV1 : IV aR0 1586 aK1 aK2 T1 := hc.1.1
  have hg1 := s_X11_trackScore hg
  have hg2 := sg_le hg1
  have hg3 := hg1.1
  have hk := hV1.2.2.2.2.2.2
  have hrc1 := hg1.2.2 hrc
  have hr0 := a_room
  refine l_v (h0 := s.heap.size) (As := [.ref (ad 0), .int (xs (i + 1)), .ref aj]) (rest := []) E G hA hX hN (fun _ h => h) hTS hml (v_trackScore l hst D s.heap.size ad T 0 (xs (i + 1)) aj f hg hrc h0T h0s) (vx_cwSW 3 hts (glA (L := [Cond.methodLink RL 330 yL_trackScore, Cond.static yL_trackScore, Cond.initialized RL]) (gl_in [(6, 193), (6, 194), (1, 0)] (by decide +kernel) (by decide +kernel)) ⟨(t_of [Cond.codeWith yL_trackScore cL_trackScore 4 (some .int) [(0, 8, 11, 21), (0, 8, 14, 15)]] [(6, 195)] (by decide +kernel) _ List.mem_cons_self), List.all_eq_true.mp (by decide +kernel : [Cond.codeWith yL_trackScore cL_trackScore 4 (some .int) [(0, 8, 11, 21), (0, 8, 14, 15)]].all goodWord = true) _ List.mem_cons_self⟩) rfl rfl rfl (by decide +kernel) ⟨Nat.le_of_ble_eq_true rfl, Nat.le_of_ble_eq_true rfl⟩) rfl hl.1 rfl (lv_room (Nat.le_of_ble_eq_true rfl)) dL_law_1538 ⟨by show _ ≤ 601024; omega, by show _ ≤ 7293034; omega⟩ ?_
  intro ad2 H locs had G
  rw [← had 0 h0T] at hl
  refine lv_istore (lv' := [(6, .int (vck 1 0 2 k1)), (5, .int (nI i)), (4, .ref ae), (3, .ref aj), (2, .ref (am 0)), (1, .ref (ad2 0)), (0, .ref b)]) hx hb dL_law_1541 hl (by decide) rfl (fun ls hl => ?_)
  refine lv_aload_n hx hb dL_law_1543 rfl (lv_at hl 4 rfl) ?_
  refine lv_aload_n hx hb dL_law_1544 rfl (lv_at hl 6 rfl) ?_
  refine lv_iload hx hb dL_law_1545 (lv_at hl 1 rfl) ?_
  refine lv_iconst (v := 1) hx hb dL_law_1547 (by decide) ?_
  refine lv_iadd hx hb dL_law_1548 ?_
  refine lv_to (y := nI (i + 1)) (nI_add i 1) ?_
  refine va_sld hx hb hX0 hbl (Nat.not_le.mpr hbl) G.2.2 (i := nI (i + 1)) (vp_in_nI (n := i + 1) (N := L) (by omega) (by omega)) dL_law_1549 ?_
  refine lv_to (y := xs (i + 1)) (congrArg xs (nI_clamp (by omega))) ?_
  obtain ⟨⟨r2, S1⟩, hf, hj⟩ := sj_trackScore Sm (xs (i + 1)) hJ
  have hJ1 : JJ S1 := hj
  refine y_ml (As := [.int (xs (i + 1))]) (rest := []) E G hA hX.2.2.2.2 hml (tr_trackScore l D cI cJ cZ am Sm (xs (i + 1)) hf) (cwV 1 hts (glM (L := [Cond.methodLink RL 332 yX12_trackScore, Cond.instanceMethod yX12_trackScore, Cond.selects RX12 yX12_trackScore yX12_trackScore, Cond.initialized RX12]) (gl_in [(10, 41), (10, 42), (10, 43), (1, 14)] (by decide +kernel) (by decide +kernel)) ⟨(t_of [Cond.code yX12_trackScore cX12_trackScore 2 (some .long)] [(10, 44)] (by decide +kernel) _ List.mem_cons_self), List.all_eq_true.mp (by decide +kernel : [Cond.code yX12_trackScore cX12_trackScore 2 (some .long)].all goodWord = true) _ List.mem_cons_self⟩) rfl rfl rfl (by decide +kernel) ⟨Nat.le_of_ble_eq_true rfl, Nat.le_of_ble_eq_true rfl⟩) rfl hl.1 rfl (lv_room (Nat.le_of_ble_eq_true rfl)) dL_law_1550 ⟨by show _ ≤ 601024; omega, by show _ ≤ 7293034; omega⟩ (fun H locs G => ?_)
  refine lv_lstore (lv' := [(7, .long r2), (6, .int (vck 1 0 2 k1)), (5, .int (nI i)), (4, .ref ae), (3, .ref aj), (2, .ref (am 0)), (1, .ref (ad2 0)), (0, .ref b)]) hx hb dL_law_1553 hl (by decide) rfl (fun ls hl => ?_)
  refine lv_goto (tgt := 2439) hx hb dL_law_1555 (by decide) ?_
  have hl := lv_sub hl [2, 3, 4, 5, 6, 7] rfl
  refine W.widen (k := 19 + T1.1 + (j + 1)) (n := 38467 + sg T1 + 6 * (j + 1)) (by omega) (by omega) ?_
  exact kk ad2 (vfJ k1 f r1) g H locs ls hg hf (had 0 h0T) hV1 hrc1 hJ1 G hl
end
section
/-! 17f.arm5.lean.txt -/
theorem dL_law_1558 : decode cL_law 1558 = .ok (.aload_n 1, 1) := de_43 (lb_97 (j := 6) (b := 43) rfl)
theorem dL_law_1559 : decode cL_law 1559 = .ok (.aload_n 0, 1) := de_42 (lb_97 (j := 7) (b := 42) rfl)
theorem dL_law_1560 : decode cL_law 1560 = .ok (.iload 5, 2) := de_21 (lb_97 (j := 8) (b := 21) rfl) (lb_97 (j := 9) (b := 5) rfl) rfl
theorem dL_law_1562 : decode cL_law 1562 = .ok (.iconst 1, 1) := de_4 (lb_97 (j := 10) (b := 4) rfl)
theorem dL_law_1563 : decode cL_law 1563 = .ok (.iadd, 1) := de_96 (lb_97 (j := 11) (b := 96) rfl)
theorem dL_law_1564 : decode cL_law 1564 = .ok (.iaload, 1) := de_46 (lb_97 (j := 12) (b := 46) rfl)
theorem dL_law_1565 : decode cL_law 1565 = .ok (.aload_n 0, 1) := de_42 (lb_97 (j := 13) (b := 42) rfl)
theorem dL_law_1566 : decode cL_law 1566 = .ok (.iload 5, 2) := de_21 (lb_97 (j := 14) (b := 21) rfl) (lb_97 (j := 15) (b := 5) rfl) rfl
theorem dL_law_1568 : decode cL_law 1568 = .ok (.iconst 2, 1) := de_5 (lb_98 (j := 0) (b := 5) rfl)
theorem dL_law_1569 : decode cL_law 1569 = .ok (.iadd, 1) := de_96 (lb_98 (j := 1) (b := 96) rfl)
theorem dL_law_1570 : decode cL_law 1570 = .ok (.iaload, 1) := de_46 (lb_98 (j := 2) (b := 46) rfl)
theorem dL_law_1571 : decode cL_law 1571 = .ok (.aload_n 3, 1) := de_45 (lb_98 (j := 3) (b := 45) rfl)
theorem dL_law_1572 : decode cL_law 1572 = .ok (.invokestatic 333, 3) := de_184 (lb_98 (j := 4) (b := 184) rfl) (lb_98 (j := 5) (b := 1) rfl) (lb_98 (j := 6) (b := 77) rfl) rfl
theorem dL_law_1575 : decode cL_law 1575 = .ok (.istore 6, 2) := de_54 (lb_98 (j := 7) (b := 54) rfl) (lb_98 (j := 8) (b := 6) rfl) rfl
theorem dL_law_1577 : decode cL_law 1577 = .ok (.aload_n 2, 1) := de_44 (lb_98 (j := 9) (b := 44) rfl)
theorem dL_law_1578 : decode cL_law 1578 = .ok (.aload_n 0, 1) := de_42 (lb_98 (j := 10) (b := 42) rfl)
theorem dL_law_1579 : decode cL_law 1579 = .ok (.iload 5, 2) := de_21 (lb_98 (j := 11) (b := 21) rfl) (lb_98 (j := 12) (b := 5) rfl) rfl
theorem dL_law_1581 : decode cL_law 1581 = .ok (.iconst 1, 1) := de_4 (lb_98 (j := 13) (b := 4) rfl)
theorem dL_law_1582 : decode cL_law 1582 = .ok (.iadd, 1) := de_96 (lb_98 (j := 14) (b := 96) rfl)
theorem dL_law_1583 : decode cL_law 1583 = .ok (.iaload, 1) := de_46 (lb_98 (j := 15) (b := 46) rfl)
theorem dL_law_1584 : decode cL_law 1584 = .ok (.aload_n 0, 1) := de_42 (lb_99 (j := 0) (b := 42) rfl)
theorem dL_law_1585 : decode cL_law 1585 = .ok (.iload 5, 2) := de_21 (lb_99 (j := 1) (b := 21) rfl) (lb_99 (j := 2) (b := 5) rfl) rfl
theorem dL_law_1587 : decode cL_law 1587 = .ok (.iconst 2, 1) := de_5 (lb_99 (j := 3) (b := 5) rfl)
theorem dL_law_1588 : decode cL_law 1588 = .ok (.iadd, 1) := de_96 (lb_99 (j := 4) (b := 96) rfl)
theorem dL_law_1589 : decode cL_law 1589 = .ok (.iaload, 1) := de_46 (lb_99 (j := 5) (b := 46) rfl)
theorem dL_law_1590 : decode cL_law 1590 = .ok (.invokevirtual 335, 3) := de_182 (lb_99 (j := 6) (b := 182) rfl) (lb_99 (j := 7) (b := 1) rfl) (lb_99 (j := 8) (b := 79) rfl) rfl
theorem dL_law_1593 : decode cL_law 1593 = .ok (.istore 7, 2) := de_54 (lb_99 (j := 9) (b := 54) rfl) (lb_99 (j := 10) (b := 7) rfl) rfl
theorem dL_law_1595 : decode cL_law 1595 = .ok (.goto 844, 3) := de_167 (lb_99 (j := 11) (b := 167) rfl) (lb_99 (j := 12) (b := 3) rfl) (lb_99 (j := 13) (b := 76) rfl) (by decide +kernel)
theorem dL_law_1598 : decode cL_law 1598 = .ok (.aload_n 1, 1) := de_43 (lb_99 (j := 14) (b := 43) rfl)
theorem dL_law_1599 : decode cL_law 1599 = .ok (.aload_n 0, 1) := de_42 (lb_99 (j := 15) (b := 42) rfl)
theorem dL_law_1600 : decode cL_law 1600 = .ok (.iload 5, 2) := de_21 (lb_100 (j := 0) (b := 21) rfl) (lb_100 (j := 1) (b := 5) rfl) rfl
theorem dL_law_1602 : decode cL_law 1602 = .ok (.iconst 1, 1) := de_4 (lb_100 (j := 2) (b := 4) rfl)
theorem dL_law_1603 : decode cL_law 1603 = .ok (.iadd, 1) := de_96 (lb_100 (j := 3) (b := 96) rfl)
theorem dL_law_1604 : decode cL_law 1604 = .ok (.iaload, 1) := de_46 (lb_100 (j := 4) (b := 46) rfl)
theorem dL_law_1605 : decode cL_law 1605 = .ok (.aload_n 0, 1) := de_42 (lb_100 (j := 5) (b := 42) rfl)
theorem dL_law_1606 : decode cL_law 1606 = .ok (.iload 5, 2) := de_21 (lb_100 (j := 6) (b := 21) rfl) (lb_100 (j := 7) (b := 5) rfl) rfl
theorem dL_law_1608 : decode cL_law 1608 = .ok (.iconst 2, 1) := de_5 (lb_100 (j := 8) (b := 5) rfl)
theorem dL_law_1609 : decode cL_law 1609 = .ok (.iadd, 1) := de_96 (lb_100 (j := 9) (b := 96) rfl)
theorem dL_law_1610 : decode cL_law 1610 = .ok (.iaload, 1) := de_46 (lb_100 (j := 10) (b := 46) rfl)
theorem dL_law_1611 : decode cL_law 1611 = .ok (.aload_n 0, 1) := de_42 (lb_100 (j := 11) (b := 42) rfl)
theorem dL_law_1612 : decode cL_law 1612 = .ok (.iload 5, 2) := de_21 (lb_100 (j := 12) (b := 21) rfl) (lb_100 (j := 13) (b := 5) rfl) rfl
theorem dL_law_1614 : decode cL_law 1614 = .ok (.iconst 3, 1) := de_6 (lb_100 (j := 14) (b := 6) rfl)
theorem dL_law_1615 : decode cL_law 1615 = .ok (.iadd, 1) := de_96 (lb_100 (j := 15) (b := 96) rfl)
theorem dL_law_1616 : decode cL_law 1616 = .ok (.iaload, 1) := de_46 (lb_101 (j := 0) (b := 46) rfl)
theorem dL_law_1617 : decode cL_law 1617 = .ok (.aload_n 3, 1) := de_45 (lb_101 (j := 1) (b := 45) rfl)
theorem dL_law_1618 : decode cL_law 1618 = .ok (.invokestatic 336, 3) := de_184 (lb_101 (j := 2) (b := 184) rfl) (lb_101 (j := 3) (b := 1) rfl) (lb_101 (j := 4) (b := 80) rfl) rfl
theorem dL_law_1621 : decode cL_law 1621 = .ok (.istore 6, 2) := de_54 (lb_101 (j := 5) (b := 54) rfl) (lb_101 (j := 6) (b := 6) rfl) rfl
theorem dL_law_1623 : decode cL_law 1623 = .ok (.aload_n 2, 1) := de_44 (lb_101 (j := 7) (b := 44) rfl)
theorem dL_law_1624 : decode cL_law 1624 = .ok (.aload_n 0, 1) := de_42 (lb_101 (j := 8) (b := 42) rfl)
theorem dL_law_1625 : decode cL_law 1625 = .ok (.iload 5, 2) := de_21 (lb_101 (j := 9) (b := 21) rfl) (lb_101 (j := 10) (b := 5) rfl) rfl
theorem dL_law_1627 : decode cL_law 1627 = .ok (.iconst 1, 1) := de_4 (lb_101 (j := 11) (b := 4) rfl)
theorem dL_law_1628 : decode cL_law 1628 = .ok (.iadd, 1) := de_96 (lb_101 (j := 12) (b := 96) rfl)
theorem dL_law_1629 : decode cL_law 1629 = .ok (.iaload, 1) := de_46 (lb_101 (j := 13) (b := 46) rfl)
theorem dL_law_1630 : decode cL_law 1630 = .ok (.aload_n 0, 1) := de_42 (lb_101 (j := 14) (b := 42) rfl)
theorem dL_law_1631 : decode cL_law 1631 = .ok (.iload 5, 2) := de_21 (lb_101 (j := 15) (b := 21) rfl) (lb_102 (j := 0) (b := 5) rfl) rfl
theorem dL_law_1633 : decode cL_law 1633 = .ok (.iconst 2, 1) := de_5 (lb_102 (j := 1) (b := 5) rfl)
theorem dL_law_1634 : decode cL_law 1634 = .ok (.iadd, 1) := de_96 (lb_102 (j := 2) (b := 96) rfl)
theorem dL_law_1635 : decode cL_law 1635 = .ok (.iaload, 1) := de_46 (lb_102 (j := 3) (b := 46) rfl)
theorem dL_law_1636 : decode cL_law 1636 = .ok (.aload_n 0, 1) := de_42 (lb_102 (j := 4) (b := 42) rfl)
theorem dL_law_1637 : decode cL_law 1637 = .ok (.iload 5, 2) := de_21 (lb_102 (j := 5) (b := 21) rfl) (lb_102 (j := 6) (b := 5) rfl) rfl
theorem dL_law_1639 : decode cL_law 1639 = .ok (.iconst 3, 1) := de_6 (lb_102 (j := 7) (b := 6) rfl)
theorem dL_law_1640 : decode cL_law 1640 = .ok (.iadd, 1) := de_96 (lb_102 (j := 8) (b := 96) rfl)
theorem dL_law_1641 : decode cL_law 1641 = .ok (.iaload, 1) := de_46 (lb_102 (j := 9) (b := 46) rfl)
theorem dL_law_1642 : decode cL_law 1642 = .ok (.invokevirtual 338, 3) := de_182 (lb_102 (j := 10) (b := 182) rfl) (lb_102 (j := 11) (b := 1) rfl) (lb_102 (j := 12) (b := 82) rfl) rfl
theorem dL_law_1645 : decode cL_law 1645 = .ok (.lstore 7, 2) := de_55 (lb_102 (j := 13) (b := 55) rfl) (lb_102 (j := 14) (b := 7) rfl) rfl
theorem dL_law_1647 : decode cL_law 1647 = .ok (.goto 792, 3) := de_167 (lb_102 (j := 15) (b := 167) rfl) (lb_103 (j := 0) (b := 3) rfl) (lb_103 (j := 1) (b := 24) rfl) (by decide +kernel)
theorem dL_law_1650 : decode cL_law 1650 = .ok (.aload_n 1, 1) := de_43 (lb_103 (j := 2) (b := 43) rfl)
theorem dL_law_1651 : decode cL_law 1651 = .ok (.aload_n 0, 1) := de_42 (lb_103 (j := 3) (b := 42) rfl)
theorem dL_law_1652 : decode cL_law 1652 = .ok (.iload 5, 2) := de_21 (lb_103 (j := 4) (b := 21) rfl) (lb_103 (j := 5) (b := 5) rfl) rfl
theorem dL_law_1654 : decode cL_law 1654 = .ok (.iconst 1, 1) := de_4 (lb_103 (j := 6) (b := 4) rfl)
theorem dL_law_1655 : decode cL_law 1655 = .ok (.iadd, 1) := de_96 (lb_103 (j := 7) (b := 96) rfl)
theorem dL_law_1656 : decode cL_law 1656 = .ok (.iaload, 1) := de_46 (lb_103 (j := 8) (b := 46) rfl)
theorem dL_law_1657 : decode cL_law 1657 = .ok (.aload_n 0, 1) := de_42 (lb_103 (j := 9) (b := 42) rfl)
theorem dL_law_1658 : decode cL_law 1658 = .ok (.iload 5, 2) := de_21 (lb_103 (j := 10) (b := 21) rfl) (lb_103 (j := 11) (b := 5) rfl) rfl
theorem dL_law_1660 : decode cL_law 1660 = .ok (.iconst 2, 1) := de_5 (lb_103 (j := 12) (b := 5) rfl)
theorem dL_law_1661 : decode cL_law 1661 = .ok (.iadd, 1) := de_96 (lb_103 (j := 13) (b := 96) rfl)
theorem dL_law_1662 : decode cL_law 1662 = .ok (.iaload, 1) := de_46 (lb_103 (j := 14) (b := 46) rfl)
theorem dL_law_1663 : decode cL_law 1663 = .ok (.aload_n 0, 1) := de_42 (lb_103 (j := 15) (b := 42) rfl)
theorem dL_law_1664 : decode cL_law 1664 = .ok (.iload 5, 2) := de_21 (lb_104 (j := 0) (b := 21) rfl) (lb_104 (j := 1) (b := 5) rfl) rfl
theorem dL_law_1666 : decode cL_law 1666 = .ok (.iconst 3, 1) := de_6 (lb_104 (j := 2) (b := 6) rfl)
theorem dL_law_1667 : decode cL_law 1667 = .ok (.iadd, 1) := de_96 (lb_104 (j := 3) (b := 96) rfl)
theorem dL_law_1668 : decode cL_law 1668 = .ok (.iaload, 1) := de_46 (lb_104 (j := 4) (b := 46) rfl)
theorem dL_law_1669 : decode cL_law 1669 = .ok (.aload_n 3, 1) := de_45 (lb_104 (j := 5) (b := 45) rfl)
theorem dL_law_1670 : decode cL_law 1670 = .ok (.invokestatic 339, 3) := de_184 (lb_104 (j := 6) (b := 184) rfl) (lb_104 (j := 7) (b := 1) rfl) (lb_104 (j := 8) (b := 83) rfl) rfl
theorem dL_law_1673 : decode cL_law 1673 = .ok (.istore 6, 2) := de_54 (lb_104 (j := 9) (b := 54) rfl) (lb_104 (j := 10) (b := 6) rfl) rfl
theorem dL_law_1675 : decode cL_law 1675 = .ok (.aload_n 2, 1) := de_44 (lb_104 (j := 11) (b := 44) rfl)
theorem dL_law_1676 : decode cL_law 1676 = .ok (.aload_n 0, 1) := de_42 (lb_104 (j := 12) (b := 42) rfl)
theorem dL_law_1677 : decode cL_law 1677 = .ok (.iload 5, 2) := de_21 (lb_104 (j := 13) (b := 21) rfl) (lb_104 (j := 14) (b := 5) rfl) rfl
theorem dL_law_1679 : decode cL_law 1679 = .ok (.iconst 1, 1) := de_4 (lb_104 (j := 15) (b := 4) rfl)
theorem dL_law_1680 : decode cL_law 1680 = .ok (.iadd, 1) := de_96 (lb_105 (j := 0) (b := 96) rfl)
theorem dL_law_1681 : decode cL_law 1681 = .ok (.iaload, 1) := de_46 (lb_105 (j := 1) (b := 46) rfl)
theorem dL_law_1682 : decode cL_law 1682 = .ok (.aload_n 0, 1) := de_42 (lb_105 (j := 2) (b := 42) rfl)
theorem dL_law_1683 : decode cL_law 1683 = .ok (.iload 5, 2) := de_21 (lb_105 (j := 3) (b := 21) rfl) (lb_105 (j := 4) (b := 5) rfl) rfl
theorem dL_law_1685 : decode cL_law 1685 = .ok (.iconst 2, 1) := de_5 (lb_105 (j := 5) (b := 5) rfl)
theorem dL_law_1686 : decode cL_law 1686 = .ok (.iadd, 1) := de_96 (lb_105 (j := 6) (b := 96) rfl)
theorem dL_law_1687 : decode cL_law 1687 = .ok (.iaload, 1) := de_46 (lb_105 (j := 7) (b := 46) rfl)
theorem dL_law_1688 : decode cL_law 1688 = .ok (.aload_n 0, 1) := de_42 (lb_105 (j := 8) (b := 42) rfl)
theorem dL_law_1689 : decode cL_law 1689 = .ok (.iload 5, 2) := de_21 (lb_105 (j := 9) (b := 21) rfl) (lb_105 (j := 10) (b := 5) rfl) rfl
theorem dL_law_1691 : decode cL_law 1691 = .ok (.iconst 3, 1) := de_6 (lb_105 (j := 11) (b := 6) rfl)
theorem dL_law_1692 : decode cL_law 1692 = .ok (.iadd, 1) := de_96 (lb_105 (j := 12) (b := 96) rfl)
theorem dL_law_1693 : decode cL_law 1693 = .ok (.iaload, 1) := de_46 (lb_105 (j := 13) (b := 46) rfl)
theorem dL_law_1694 : decode cL_law 1694 = .ok (.invokevirtual 341, 3) := de_182 (lb_105 (j := 14) (b := 182) rfl) (lb_105 (j := 15) (b := 1) rfl) (lb_106 (j := 0) (b := 85) rfl) rfl
theorem dL_law_1697 : decode cL_law 1697 = .ok (.istore 7, 2) := de_54 (lb_106 (j := 1) (b := 54) rfl) (lb_106 (j := 2) (b := 7) rfl) rfl
theorem dL_law_1699 : decode cL_law 1699 = .ok (.goto 740, 3) := de_167 (lb_106 (j := 3) (b := 167) rfl) (lb_106 (j := 4) (b := 2) rfl) (lb_106 (j := 5) (b := 228) rfl) (by decide +kernel)
theorem dL_law_1702 : decode cL_law 1702 = .ok (.aload_n 1, 1) := de_43 (lb_106 (j := 6) (b := 43) rfl)
theorem dL_law_1703 : decode cL_law 1703 = .ok (.aload_n 0, 1) := de_42 (lb_106 (j := 7) (b := 42) rfl)
theorem dL_law_1704 : decode cL_law 1704 = .ok (.iload 5, 2) := de_21 (lb_106 (j := 8) (b := 21) rfl) (lb_106 (j := 9) (b := 5) rfl) rfl
theorem dL_law_1706 : decode cL_law 1706 = .ok (.iconst 1, 1) := de_4 (lb_106 (j := 10) (b := 4) rfl)
theorem dL_law_1707 : decode cL_law 1707 = .ok (.iadd, 1) := de_96 (lb_106 (j := 11) (b := 96) rfl)
theorem dL_law_1708 : decode cL_law 1708 = .ok (.iaload, 1) := de_46 (lb_106 (j := 12) (b := 46) rfl)
theorem dL_law_1709 : decode cL_law 1709 = .ok (.aload_n 0, 1) := de_42 (lb_106 (j := 13) (b := 42) rfl)
theorem dL_law_1710 : decode cL_law 1710 = .ok (.iload 5, 2) := de_21 (lb_106 (j := 14) (b := 21) rfl) (lb_106 (j := 15) (b := 5) rfl) rfl
theorem dL_law_1712 : decode cL_law 1712 = .ok (.iconst 2, 1) := de_5 (lb_107 (j := 0) (b := 5) rfl)
theorem dL_law_1713 : decode cL_law 1713 = .ok (.iadd, 1) := de_96 (lb_107 (j := 1) (b := 96) rfl)
theorem dL_law_1714 : decode cL_law 1714 = .ok (.iaload, 1) := de_46 (lb_107 (j := 2) (b := 46) rfl)
theorem dL_law_1715 : decode cL_law 1715 = .ok (.aload_n 0, 1) := de_42 (lb_107 (j := 3) (b := 42) rfl)
theorem dL_law_1716 : decode cL_law 1716 = .ok (.iload 5, 2) := de_21 (lb_107 (j := 4) (b := 21) rfl) (lb_107 (j := 5) (b := 5) rfl) rfl
theorem dL_law_1718 : decode cL_law 1718 = .ok (.iconst 3, 1) := de_6 (lb_107 (j := 6) (b := 6) rfl)
theorem dL_law_1719 : decode cL_law 1719 = .ok (.iadd, 1) := de_96 (lb_107 (j := 7) (b := 96) rfl)
theorem dL_law_1720 : decode cL_law 1720 = .ok (.iaload, 1) := de_46 (lb_107 (j := 8) (b := 46) rfl)
theorem dL_law_1721 : decode cL_law 1721 = .ok (.aload_n 3, 1) := de_45 (lb_107 (j := 9) (b := 45) rfl)
theorem dL_law_1722 : decode cL_law 1722 = .ok (.invokestatic 342, 3) := de_184 (lb_107 (j := 10) (b := 184) rfl) (lb_107 (j := 11) (b := 1) rfl) (lb_107 (j := 12) (b := 86) rfl) rfl
theorem dL_law_1725 : decode cL_law 1725 = .ok (.istore 6, 2) := de_54 (lb_107 (j := 13) (b := 54) rfl) (lb_107 (j := 14) (b := 6) rfl) rfl
theorem dL_law_1727 : decode cL_law 1727 = .ok (.aload_n 2, 1) := de_44 (lb_107 (j := 15) (b := 44) rfl)
theorem dL_law_1728 : decode cL_law 1728 = .ok (.aload_n 0, 1) := de_42 (lb_108 (j := 0) (b := 42) rfl)
theorem dL_law_1729 : decode cL_law 1729 = .ok (.iload 5, 2) := de_21 (lb_108 (j := 1) (b := 21) rfl) (lb_108 (j := 2) (b := 5) rfl) rfl
theorem dL_law_1731 : decode cL_law 1731 = .ok (.iconst 1, 1) := de_4 (lb_108 (j := 3) (b := 4) rfl)
theorem dL_law_1732 : decode cL_law 1732 = .ok (.iadd, 1) := de_96 (lb_108 (j := 4) (b := 96) rfl)
theorem dL_law_1733 : decode cL_law 1733 = .ok (.iaload, 1) := de_46 (lb_108 (j := 5) (b := 46) rfl)
theorem dL_law_1734 : decode cL_law 1734 = .ok (.aload_n 0, 1) := de_42 (lb_108 (j := 6) (b := 42) rfl)
theorem dL_law_1735 : decode cL_law 1735 = .ok (.iload 5, 2) := de_21 (lb_108 (j := 7) (b := 21) rfl) (lb_108 (j := 8) (b := 5) rfl) rfl
theorem dL_law_1737 : decode cL_law 1737 = .ok (.iconst 2, 1) := de_5 (lb_108 (j := 9) (b := 5) rfl)
theorem dL_law_1738 : decode cL_law 1738 = .ok (.iadd, 1) := de_96 (lb_108 (j := 10) (b := 96) rfl)
theorem dL_law_1739 : decode cL_law 1739 = .ok (.iaload, 1) := de_46 (lb_108 (j := 11) (b := 46) rfl)
theorem dL_law_1740 : decode cL_law 1740 = .ok (.aload_n 0, 1) := de_42 (lb_108 (j := 12) (b := 42) rfl)
theorem dL_law_1741 : decode cL_law 1741 = .ok (.iload 5, 2) := de_21 (lb_108 (j := 13) (b := 21) rfl) (lb_108 (j := 14) (b := 5) rfl) rfl
theorem dL_law_1743 : decode cL_law 1743 = .ok (.iconst 3, 1) := de_6 (lb_108 (j := 15) (b := 6) rfl)
theorem dL_law_1744 : decode cL_law 1744 = .ok (.iadd, 1) := de_96 (lb_109 (j := 0) (b := 96) rfl)
theorem dL_law_1745 : decode cL_law 1745 = .ok (.iaload, 1) := de_46 (lb_109 (j := 1) (b := 46) rfl)
theorem dL_law_1746 : decode cL_law 1746 = .ok (.invokevirtual 344, 3) := de_182 (lb_109 (j := 2) (b := 182) rfl) (lb_109 (j := 3) (b := 1) rfl) (lb_109 (j := 4) (b := 88) rfl) rfl
theorem dL_law_1749 : decode cL_law 1749 = .ok (.lstore 7, 2) := de_55 (lb_109 (j := 5) (b := 55) rfl) (lb_109 (j := 6) (b := 7) rfl) rfl
theorem dL_law_1751 : decode cL_law 1751 = .ok (.goto 688, 3) := de_167 (lb_109 (j := 7) (b := 167) rfl) (lb_109 (j := 8) (b := 2) rfl) (lb_109 (j := 9) (b := 176) rfl) (by decide +kernel)
theorem dL_law_1754 : decode cL_law 1754 = .ok (.aload_n 1, 1) := de_43 (lb_109 (j := 10) (b := 43) rfl)
theorem dL_law_1755 : decode cL_law 1755 = .ok (.aload_n 0, 1) := de_42 (lb_109 (j := 11) (b := 42) rfl)
theorem dL_law_1756 : decode cL_law 1756 = .ok (.iload 5, 2) := de_21 (lb_109 (j := 12) (b := 21) rfl) (lb_109 (j := 13) (b := 5) rfl) rfl
theorem dL_law_1758 : decode cL_law 1758 = .ok (.iconst 1, 1) := de_4 (lb_109 (j := 14) (b := 4) rfl)
theorem dL_law_1759 : decode cL_law 1759 = .ok (.iadd, 1) := de_96 (lb_109 (j := 15) (b := 96) rfl)
theorem dL_law_1760 : decode cL_law 1760 = .ok (.iaload, 1) := de_46 (lb_110 (j := 0) (b := 46) rfl)
theorem dL_law_1761 : decode cL_law 1761 = .ok (.aload_n 0, 1) := de_42 (lb_110 (j := 1) (b := 42) rfl)
theorem dL_law_1762 : decode cL_law 1762 = .ok (.iload 5, 2) := de_21 (lb_110 (j := 2) (b := 21) rfl) (lb_110 (j := 3) (b := 5) rfl) rfl
theorem dL_law_1764 : decode cL_law 1764 = .ok (.iconst 2, 1) := de_5 (lb_110 (j := 4) (b := 5) rfl)
theorem dL_law_1765 : decode cL_law 1765 = .ok (.iadd, 1) := de_96 (lb_110 (j := 5) (b := 96) rfl)
theorem dL_law_1766 : decode cL_law 1766 = .ok (.iaload, 1) := de_46 (lb_110 (j := 6) (b := 46) rfl)
theorem dL_law_1767 : decode cL_law 1767 = .ok (.aload_n 0, 1) := de_42 (lb_110 (j := 7) (b := 42) rfl)
theorem dL_law_1768 : decode cL_law 1768 = .ok (.iload 5, 2) := de_21 (lb_110 (j := 8) (b := 21) rfl) (lb_110 (j := 9) (b := 5) rfl) rfl
theorem dL_law_1770 : decode cL_law 1770 = .ok (.iconst 3, 1) := de_6 (lb_110 (j := 10) (b := 6) rfl)
theorem dL_law_1771 : decode cL_law 1771 = .ok (.iadd, 1) := de_96 (lb_110 (j := 11) (b := 96) rfl)
theorem dL_law_1772 : decode cL_law 1772 = .ok (.iaload, 1) := de_46 (lb_110 (j := 12) (b := 46) rfl)
theorem dL_law_1773 : decode cL_law 1773 = .ok (.aload_n 3, 1) := de_45 (lb_110 (j := 13) (b := 45) rfl)
theorem dL_law_1774 : decode cL_law 1774 = .ok (.invokestatic 345, 3) := de_184 (lb_110 (j := 14) (b := 184) rfl) (lb_110 (j := 15) (b := 1) rfl) (lb_111 (j := 0) (b := 89) rfl) rfl
theorem dL_law_1777 : decode cL_law 1777 = .ok (.istore 6, 2) := de_54 (lb_111 (j := 1) (b := 54) rfl) (lb_111 (j := 2) (b := 6) rfl) rfl
theorem dL_law_1779 : decode cL_law 1779 = .ok (.aload_n 2, 1) := de_44 (lb_111 (j := 3) (b := 44) rfl)
theorem dL_law_1780 : decode cL_law 1780 = .ok (.aload_n 0, 1) := de_42 (lb_111 (j := 4) (b := 42) rfl)
theorem dL_law_1781 : decode cL_law 1781 = .ok (.iload 5, 2) := de_21 (lb_111 (j := 5) (b := 21) rfl) (lb_111 (j := 6) (b := 5) rfl) rfl
theorem dL_law_1783 : decode cL_law 1783 = .ok (.iconst 1, 1) := de_4 (lb_111 (j := 7) (b := 4) rfl)
theorem dL_law_1784 : decode cL_law 1784 = .ok (.iadd, 1) := de_96 (lb_111 (j := 8) (b := 96) rfl)
theorem dL_law_1785 : decode cL_law 1785 = .ok (.iaload, 1) := de_46 (lb_111 (j := 9) (b := 46) rfl)
theorem dL_law_1786 : decode cL_law 1786 = .ok (.aload_n 0, 1) := de_42 (lb_111 (j := 10) (b := 42) rfl)
theorem dL_law_1787 : decode cL_law 1787 = .ok (.iload 5, 2) := de_21 (lb_111 (j := 11) (b := 21) rfl) (lb_111 (j := 12) (b := 5) rfl) rfl
theorem dL_law_1789 : decode cL_law 1789 = .ok (.iconst 2, 1) := de_5 (lb_111 (j := 13) (b := 5) rfl)
theorem dL_law_1790 : decode cL_law 1790 = .ok (.iadd, 1) := de_96 (lb_111 (j := 14) (b := 96) rfl)
theorem dL_law_1791 : decode cL_law 1791 = .ok (.iaload, 1) := de_46 (lb_111 (j := 15) (b := 46) rfl)
theorem dL_law_1792 : decode cL_law 1792 = .ok (.aload_n 0, 1) := de_42 (lb_112 (j := 0) (b := 42) rfl)
theorem dL_law_1793 : decode cL_law 1793 = .ok (.iload 5, 2) := de_21 (lb_112 (j := 1) (b := 21) rfl) (lb_112 (j := 2) (b := 5) rfl) rfl
theorem dL_law_1795 : decode cL_law 1795 = .ok (.iconst 3, 1) := de_6 (lb_112 (j := 3) (b := 6) rfl)
theorem dL_law_1796 : decode cL_law 1796 = .ok (.iadd, 1) := de_96 (lb_112 (j := 4) (b := 96) rfl)
theorem dL_law_1797 : decode cL_law 1797 = .ok (.iaload, 1) := de_46 (lb_112 (j := 5) (b := 46) rfl)
theorem dL_law_1798 : decode cL_law 1798 = .ok (.invokevirtual 347, 3) := de_182 (lb_112 (j := 6) (b := 182) rfl) (lb_112 (j := 7) (b := 1) rfl) (lb_112 (j := 8) (b := 91) rfl) rfl
theorem dL_law_1801 : decode cL_law 1801 = .ok (.istore 7, 2) := de_54 (lb_112 (j := 9) (b := 54) rfl) (lb_112 (j := 10) (b := 7) rfl) rfl
theorem dL_law_1803 : decode cL_law 1803 = .ok (.goto 636, 3) := de_167 (lb_112 (j := 11) (b := 167) rfl) (lb_112 (j := 12) (b := 2) rfl) (lb_112 (j := 13) (b := 124) rfl) (by decide +kernel)
theorem dL_law_1806 : decode cL_law 1806 = .ok (.aload_n 1, 1) := de_43 (lb_112 (j := 14) (b := 43) rfl)
theorem dL_law_1807 : decode cL_law 1807 = .ok (.aload_n 0, 1) := de_42 (lb_112 (j := 15) (b := 42) rfl)
theorem dL_law_1808 : decode cL_law 1808 = .ok (.iload 5, 2) := de_21 (lb_113 (j := 0) (b := 21) rfl) (lb_113 (j := 1) (b := 5) rfl) rfl
theorem dL_law_1810 : decode cL_law 1810 = .ok (.iconst 1, 1) := de_4 (lb_113 (j := 2) (b := 4) rfl)
theorem dL_law_1811 : decode cL_law 1811 = .ok (.iadd, 1) := de_96 (lb_113 (j := 3) (b := 96) rfl)
theorem dL_law_1812 : decode cL_law 1812 = .ok (.iaload, 1) := de_46 (lb_113 (j := 4) (b := 46) rfl)
theorem dL_law_1813 : decode cL_law 1813 = .ok (.aload_n 3, 1) := de_45 (lb_113 (j := 5) (b := 45) rfl)
theorem dL_law_1814 : decode cL_law 1814 = .ok (.invokestatic 348, 3) := de_184 (lb_113 (j := 6) (b := 184) rfl) (lb_113 (j := 7) (b := 1) rfl) (lb_113 (j := 8) (b := 92) rfl) rfl
theorem dL_law_1817 : decode cL_law 1817 = .ok (.istore 6, 2) := de_54 (lb_113 (j := 9) (b := 54) rfl) (lb_113 (j := 10) (b := 6) rfl) rfl
theorem dL_law_1819 : decode cL_law 1819 = .ok (.aload_n 2, 1) := de_44 (lb_113 (j := 11) (b := 44) rfl)
theorem dL_law_1820 : decode cL_law 1820 = .ok (.aload_n 0, 1) := de_42 (lb_113 (j := 12) (b := 42) rfl)
theorem dL_law_1821 : decode cL_law 1821 = .ok (.iload 5, 2) := de_21 (lb_113 (j := 13) (b := 21) rfl) (lb_113 (j := 14) (b := 5) rfl) rfl
theorem dL_law_1823 : decode cL_law 1823 = .ok (.iconst 1, 1) := de_4 (lb_113 (j := 15) (b := 4) rfl)
theorem dL_law_1824 : decode cL_law 1824 = .ok (.iadd, 1) := de_96 (lb_114 (j := 0) (b := 96) rfl)
theorem dL_law_1825 : decode cL_law 1825 = .ok (.iaload, 1) := de_46 (lb_114 (j := 1) (b := 46) rfl)
theorem dL_law_1826 : decode cL_law 1826 = .ok (.invokevirtual 350, 3) := de_182 (lb_114 (j := 2) (b := 182) rfl) (lb_114 (j := 3) (b := 1) rfl) (lb_114 (j := 4) (b := 94) rfl) rfl
theorem dL_law_1829 : decode cL_law 1829 = .ok (.lstore 7, 2) := de_55 (lb_114 (j := 5) (b := 55) rfl) (lb_114 (j := 6) (b := 7) rfl) rfl
theorem dL_law_1831 : decode cL_law 1831 = .ok (.goto 608, 3) := de_167 (lb_114 (j := 7) (b := 167) rfl) (lb_114 (j := 8) (b := 2) rfl) (lb_114 (j := 9) (b := 96) rfl) (by decide +kernel)
theorem dL_law_1834 : decode cL_law 1834 = .ok (.aload_n 1, 1) := de_43 (lb_114 (j := 10) (b := 43) rfl)
theorem dL_law_1835 : decode cL_law 1835 = .ok (.aload_n 0, 1) := de_42 (lb_114 (j := 11) (b := 42) rfl)
theorem dL_law_1836 : decode cL_law 1836 = .ok (.iload 5, 2) := de_21 (lb_114 (j := 12) (b := 21) rfl) (lb_114 (j := 13) (b := 5) rfl) rfl
theorem dL_law_1838 : decode cL_law 1838 = .ok (.iconst 1, 1) := de_4 (lb_114 (j := 14) (b := 4) rfl)
theorem dL_law_1839 : decode cL_law 1839 = .ok (.iadd, 1) := de_96 (lb_114 (j := 15) (b := 96) rfl)
theorem dL_law_1840 : decode cL_law 1840 = .ok (.iaload, 1) := de_46 (lb_115 (j := 0) (b := 46) rfl)
theorem dL_law_1841 : decode cL_law 1841 = .ok (.aload_n 3, 1) := de_45 (lb_115 (j := 1) (b := 45) rfl)
theorem dL_law_1842 : decode cL_law 1842 = .ok (.invokestatic 351, 3) := de_184 (lb_115 (j := 2) (b := 184) rfl) (lb_115 (j := 3) (b := 1) rfl) (lb_115 (j := 4) (b := 95) rfl) rfl
theorem dL_law_1845 : decode cL_law 1845 = .ok (.istore 6, 2) := de_54 (lb_115 (j := 5) (b := 54) rfl) (lb_115 (j := 6) (b := 6) rfl) rfl
theorem dL_law_1847 : decode cL_law 1847 = .ok (.aload_n 2, 1) := de_44 (lb_115 (j := 7) (b := 44) rfl)
theorem dL_law_1848 : decode cL_law 1848 = .ok (.aload_n 0, 1) := de_42 (lb_115 (j := 8) (b := 42) rfl)
theorem dL_law_1849 : decode cL_law 1849 = .ok (.iload 5, 2) := de_21 (lb_115 (j := 9) (b := 21) rfl) (lb_115 (j := 10) (b := 5) rfl) rfl
theorem dL_law_1851 : decode cL_law 1851 = .ok (.iconst 1, 1) := de_4 (lb_115 (j := 11) (b := 4) rfl)
theorem dL_law_1852 : decode cL_law 1852 = .ok (.iadd, 1) := de_96 (lb_115 (j := 12) (b := 96) rfl)
theorem dL_law_1853 : decode cL_law 1853 = .ok (.iaload, 1) := de_46 (lb_115 (j := 13) (b := 46) rfl)
theorem dL_law_1854 : decode cL_law 1854 = .ok (.invokevirtual 353, 3) := de_182 (lb_115 (j := 14) (b := 182) rfl) (lb_115 (j := 15) (b := 1) rfl) (lb_116 (j := 0) (b := 97) rfl) rfl
theorem dL_law_1857 : decode cL_law 1857 = .ok (.istore 7, 2) := de_54 (lb_116 (j := 1) (b := 54) rfl) (lb_116 (j := 2) (b := 7) rfl) rfl
theorem dL_law_1859 : decode cL_law 1859 = .ok (.goto 580, 3) := de_167 (lb_116 (j := 3) (b := 167) rfl) (lb_116 (j := 4) (b := 2) rfl) (lb_116 (j := 5) (b := 68) rfl) (by decide +kernel)
theorem dL_law_1862 : decode cL_law 1862 = .ok (.aload_n 1, 1) := de_43 (lb_116 (j := 6) (b := 43) rfl)
theorem dL_law_1863 : decode cL_law 1863 = .ok (.aload_n 3, 1) := de_45 (lb_116 (j := 7) (b := 45) rfl)
theorem dL_law_1864 : decode cL_law 1864 = .ok (.invokestatic 354, 3) := de_184 (lb_116 (j := 8) (b := 184) rfl) (lb_116 (j := 9) (b := 1) rfl) (lb_116 (j := 10) (b := 98) rfl) rfl
theorem dL_law_1867 : decode cL_law 1867 = .ok (.istore 6, 2) := de_54 (lb_116 (j := 11) (b := 54) rfl) (lb_116 (j := 12) (b := 6) rfl) rfl
theorem dL_law_1869 : decode cL_law 1869 = .ok (.aload_n 2, 1) := de_44 (lb_116 (j := 13) (b := 44) rfl)
theorem dL_law_1870 : decode cL_law 1870 = .ok (.invokevirtual 356, 3) := de_182 (lb_116 (j := 14) (b := 182) rfl) (lb_116 (j := 15) (b := 1) rfl) (lb_117 (j := 0) (b := 100) rfl) rfl
theorem dL_law_1873 : decode cL_law 1873 = .ok (.istore 7, 2) := de_54 (lb_117 (j := 1) (b := 54) rfl) (lb_117 (j := 2) (b := 7) rfl) rfl
theorem dL_law_1875 : decode cL_law 1875 = .ok (.goto 564, 3) := de_167 (lb_117 (j := 3) (b := 167) rfl) (lb_117 (j := 4) (b := 2) rfl) (lb_117 (j := 5) (b := 52) rfl) (by decide +kernel)
set_option maxHeartbeats 4000000 in
set_option maxRecDepth 100000 in
theorem y_a40 {p : Program} {e : Env} {s : State} {m : MethodId} {below : List Frame} {meth : Method} {c : Code} (l : Launch) (hst : l.stackTraces = false) {b L : Nat} {xs : Nat → Int32} (hx : p.tables.exec = Jvm.exec) (hb : c.code = code) (hml : c.maxLocals = 9) (hown : s.vm.findClass RL = some m.cls) (hts : ∀ w ∈ lw_tbl, w.before #[Value.ref b] s = true) (hX0 : va_X b L xs s s.heap) (hbl : b < s.heap.size) (hX : xT (fun q => s.heap.size ≤ q) s) (hN : nC s) (hTS : sAll s.heap.size s) {D : va_G} {cI cJ cZ cMic cSrc cSt cAI cAJ cD : ClassId} (hK : va_K D vwCl (CT cI cJ cZ cMic cSrc cSt cAI cAJ ++ [(cD, .double)]) s) {Q : State → Prop} {i j : Nat} (hi : i + 6 ≤ L) (hL : L ≤ 3072) (hj : j < 512) {aj ae : Nat} {ad am : Nat → Nat} {T : AT} {Sm : MS} {f : Nat → Int64} {g : Nat → UInt64} {ls : Array Slot} {H : Heap} {locs : List Loc} (hV : IV aR0 1586 aK1 aK2 T) (hrc : RC T) (hJ : JJ Sm) (G : gL cI cJ cZ cMic cSrc cSt cAI cAJ D ad (fun q => s.heap.size ≤ q) s.heap H locs T (oJ aj cJ f :: oD ae cD g :: MW cI cJ cZ am Sm)) (hl : lv_has ls 9 [(5, .int (nI i)), (4, .ref ae), (3, .ref aj), (2, .ref (am 0)), (1, .ref (ad 0)), (0, .ref b)]) (kk : ∀ {k1 : Nat} {r1 : Int32} {T1 : AT} {r2 : Int32} {S1 : MS} (ad2 : Nat → Nat) (f1 : Nat → Int64) (g1 : Nat → UInt64) (H1 : Heap) (locs1 : List Loc) (ls1 : Array Slot), g_X11_trackCell T 0 (xs (i + 1)) (xs (i + 2)) = some (k1, r1, T1) → fr_trackCell Sm (xs (i + 1)) (xs (i + 2)) = some (r2, S1) → ad2 0 = ad 0 → IV aR0 1586 aK1 aK2 T1 → RC T1 → JJ S1 → gL cI cJ cZ cMic cSrc cSt cAI cAJ D ad2 (fun q => s.heap.size ≤ q) s.heap H1 locs1 T1 (oJ aj cJ f1 :: oD ae cD g1 :: MW cI cJ cZ am S1) → lv_has ls1 9 [(5, .int (nI i)), (4, .ref ae), (3, .ref aj), (2, .ref (am 0)), (1, .ref (ad2 0)), (0, .ref b)] → W p l e room_1 s m #[Value.ref b] below meth c H1 locs1 (19 + T1.1 + (j + 1)) (38467 + sg T1 + 6 * (j + 1)) Q (F0 m 2439 ls1 [])) : W p l e room_1 s m #[Value.ref b] below meth c H locs (19 + T.1 + j) (38467 + sg T + 6 * j) Q (F0 m 1558 ls []) := by
  have E : cE p c cL_law s m #[Value.ref b] lw_tbl D RL (CT cI cJ cZ cMic cSrc cSt cAI cAJ ++ [(cD, .double)]) := ⟨hx, hb, hts, hown, hK⟩
  have hA : ∀ q : Nat, s.heap.size ≤ q → s.heap.size ≤ q := fun _ h => h
  have h0T : 0 < T.1 := Nat.lt_of_lt_of_le (by decide) hV.1.2.2
  have h0s : T.2.1 0 = (11, 0) := hV.2.1 0 ⟨by decide, by decide +kernel, by decide +kernel⟩
  refine lv_aload_n hx hb dL_law_1558 rfl (lv_at hl 4 rfl) ?_
  refine lv_aload_n hx hb dL_law_1559 rfl (lv_at hl 5 rfl) ?_
  refine lv_iload hx hb dL_law_1560 (lv_at hl 0 rfl) ?_
  refine lv_iconst (v := 1) hx hb dL_law_1562 (by decide) ?_
  refine lv_iadd hx hb dL_law_1563 ?_
  refine lv_to (y := nI (i + 1)) (nI_add i 1) ?_
  refine va_sld hx hb hX0 hbl (Nat.not_le.mpr hbl) G.2.2 (i := nI (i + 1)) (vp_in_nI (n := i + 1) (N := L) (by omega) (by omega)) dL_law_1564 ?_
  refine lv_to (y := xs (i + 1)) (congrArg xs (nI_clamp (by omega))) ?_
  refine lv_aload_n hx hb dL_law_1565 rfl (lv_at hl 5 rfl) ?_
  refine lv_iload hx hb dL_law_1566 (lv_at hl 0 rfl) ?_
  refine lv_iconst (v := 2) hx hb dL_law_1568 (by decide) ?_
  refine lv_iadd hx hb dL_law_1569 ?_
  refine lv_to (y := nI (i + 2)) (nI_add i 2) ?_
  refine va_sld hx hb hX0 hbl (Nat.not_le.mpr hbl) G.2.2 (i := nI (i + 2)) (vp_in_nI (n := i + 2) (N := L) (by omega) (by omega)) dL_law_1570 ?_
  refine lv_to (y := xs (i + 2)) (congrArg xs (nI_clamp (by omega))) ?_
  refine lv_aload_n hx hb dL_law_1571 rfl (lv_at hl 2 rfl) ?_
  obtain ⟨⟨k1, r1, T1⟩, hg, hc⟩ := cs_X11_trackCell T 0 (xs (i + 1)) (xs (i + 2)) hV (by decide +kernel)
  have hV1 : IV aR0 1586 aK1 aK2 T1 := hc.1.1
  have hg1 := s_X11_trackCell hg
  have hg2 := sg_le hg1
  have hg3 := hg1.1
  have hk := hV1.2.2.2.2.2.2
  have hrc1 := hg1.2.2 hrc
  have hr0 := a_room
  refine l_v (h0 := s.heap.size) (As := [.ref (ad 0), .int (xs (i + 1)), .int (xs (i + 2)), .ref aj]) (rest := []) E G hA hX hN (fun _ h => h) hTS hml (v_trackCell l hst D s.heap.size ad T 0 (xs (i + 1)) (xs (i + 2)) aj f hg hrc h0T h0s) (vx_cwSW 4 hts (glA (L := [Cond.methodLink RL 333 yL_trackCell, Cond.static yL_trackCell, Cond.initialized RL]) (gl_in [(6, 212), (6, 213), (1, 0)] (by decide +kernel) (by decide +kernel)) ⟨(t_of [Cond.codeWith yL_trackCell cL_trackCell 5 (some .int) [(0, 10, 13, 21), (0, 10, 17, 13), (0, 10, 21, 15)]] [(6, 214)] (by decide +kernel) _ List.mem_cons_self), List.all_eq_true.mp (by decide +kernel : [Cond.codeWith yL_trackCell cL_trackCell 5 (some .int) [(0, 10, 13, 21), (0, 10, 17, 13), (0, 10, 21, 15)]].all goodWord = true) _ List.mem_cons_self⟩) rfl rfl rfl (by decide +kernel) ⟨Nat.le_of_ble_eq_true rfl, Nat.le_of_ble_eq_true rfl⟩) rfl hl.1 rfl (lv_room (Nat.le_of_ble_eq_true rfl)) dL_law_1572 ⟨by show _ ≤ 601024; omega, by show _ ≤ 7293034; omega⟩ ?_
  intro ad2 H locs had G
  rw [← had 0 h0T] at hl
  refine lv_istore (lv' := [(6, .int (vck 1 2 3 k1)), (5, .int (nI i)), (4, .ref ae), (3, .ref aj), (2, .ref (am 0)), (1, .ref (ad2 0)), (0, .ref b)]) hx hb dL_law_1575 hl (by decide) rfl (fun ls hl => ?_)
  refine lv_aload_n hx hb dL_law_1577 rfl (lv_at hl 4 rfl) ?_
  refine lv_aload_n hx hb dL_law_1578 rfl (lv_at hl 6 rfl) ?_
  refine lv_iload hx hb dL_law_1579 (lv_at hl 1 rfl) ?_
  refine lv_iconst (v := 1) hx hb dL_law_1581 (by decide) ?_
  refine lv_iadd hx hb dL_law_1582 ?_
  refine lv_to (y := nI (i + 1)) (nI_add i 1) ?_
  refine va_sld hx hb hX0 hbl (Nat.not_le.mpr hbl) G.2.2 (i := nI (i + 1)) (vp_in_nI (n := i + 1) (N := L) (by omega) (by omega)) dL_law_1583 ?_
  refine lv_to (y := xs (i + 1)) (congrArg xs (nI_clamp (by omega))) ?_
  refine lv_aload_n hx hb dL_law_1584 rfl (lv_at hl 6 rfl) ?_
  refine lv_iload hx hb dL_law_1585 (lv_at hl 1 rfl) ?_
  refine lv_iconst (v := 2) hx hb dL_law_1587 (by decide) ?_
  refine lv_iadd hx hb dL_law_1588 ?_
  refine lv_to (y := nI (i + 2)) (nI_add i 2) ?_
  refine va_sld hx hb hX0 hbl (Nat.not_le.mpr hbl) G.2.2 (i := nI (i + 2)) (vp_in_nI (n := i + 2) (N := L) (by omega) (by omega)) dL_law_1589 ?_
  refine lv_to (y := xs (i + 2)) (congrArg xs (nI_clamp (by omega))) ?_
  obtain ⟨⟨r2, S1⟩, hf, hj⟩ := sj_trackCell Sm (xs (i + 1)) (xs (i + 2)) hJ
  have hJ1 : JJ S1 := hj
  refine y_mi (As := [.int (xs (i + 1)), .int (xs (i + 2))]) (rest := []) E G hA hX.2.2.2.2 hml (tr_trackCell l D cI cJ cZ am Sm (xs (i + 1)) (xs (i + 2)) hf) (cwV 2 hts (glM (L := [Cond.methodLink RL 335 yX12_trackCell, Cond.instanceMethod yX12_trackCell, Cond.selects RX12 yX12_trackCell yX12_trackCell, Cond.initialized RX12]) (gl_in [(10, 65), (10, 66), (10, 67), (1, 14)] (by decide +kernel) (by decide +kernel)) ⟨(t_of [Cond.code yX12_trackCell cX12_trackCell 5 (some .int)] [(10, 68)] (by decide +kernel) _ List.mem_cons_self), List.all_eq_true.mp (by decide +kernel : [Cond.code yX12_trackCell cX12_trackCell 5 (some .int)].all goodWord = true) _ List.mem_cons_self⟩) rfl rfl rfl (by decide +kernel) ⟨Nat.le_of_ble_eq_true rfl, Nat.le_of_ble_eq_true rfl⟩) rfl hl.1 rfl (lv_room (Nat.le_of_ble_eq_true rfl)) dL_law_1590 ⟨by show _ ≤ 601024; omega, by show _ ≤ 7293034; omega⟩ (fun H locs G => ?_)
  refine lv_istore (lv' := [(7, .int r2), (6, .int (vck 1 2 3 k1)), (5, .int (nI i)), (4, .ref ae), (3, .ref aj), (2, .ref (am 0)), (1, .ref (ad2 0)), (0, .ref b)]) hx hb dL_law_1593 hl (by decide) rfl (fun ls hl => ?_)
  refine lv_goto (tgt := 2439) hx hb dL_law_1595 (by decide) ?_
  have hl := lv_sub hl [2, 3, 4, 5, 6, 7] rfl
  refine W.widen (k := 19 + T1.1 + (j + 1)) (n := 38467 + sg T1 + 6 * (j + 1)) (by omega) (by omega) ?_
  exact kk ad2 (vfJ k1 f r1.toInt64) g H locs ls hg hf (had 0 h0T) hV1 hrc1 hJ1 G hl
set_option maxHeartbeats 4000000 in
set_option maxRecDepth 100000 in
theorem y_a41 {p : Program} {e : Env} {s : State} {m : MethodId} {below : List Frame} {meth : Method} {c : Code} (l : Launch) (hst : l.stackTraces = false) {b L : Nat} {xs : Nat → Int32} (hx : p.tables.exec = Jvm.exec) (hb : c.code = code) (hml : c.maxLocals = 9) (hown : s.vm.findClass RL = some m.cls) (hts : ∀ w ∈ lw_tbl, w.before #[Value.ref b] s = true) (hX0 : va_X b L xs s s.heap) (hbl : b < s.heap.size) (hX : xT (fun q => s.heap.size ≤ q) s) (hN : nC s) (hTS : sAll s.heap.size s) {D : va_G} {cI cJ cZ cMic cSrc cSt cAI cAJ cD : ClassId} (hK : va_K D vwCl (CT cI cJ cZ cMic cSrc cSt cAI cAJ ++ [(cD, .double)]) s) {Q : State → Prop} {i j : Nat} (hi : i + 6 ≤ L) (hL : L ≤ 3072) (hj : j < 512) {aj ae : Nat} {ad am : Nat → Nat} {T : AT} {Sm : MS} {f : Nat → Int64} {g : Nat → UInt64} {ls : Array Slot} {H : Heap} {locs : List Loc} (hV : IV aR0 1586 aK1 aK2 T) (hrc : RC T) (hJ : JJ Sm) (G : gL cI cJ cZ cMic cSrc cSt cAI cAJ D ad (fun q => s.heap.size ≤ q) s.heap H locs T (oJ aj cJ f :: oD ae cD g :: MW cI cJ cZ am Sm)) (hl : lv_has ls 9 [(5, .int (nI i)), (4, .ref ae), (3, .ref aj), (2, .ref (am 0)), (1, .ref (ad 0)), (0, .ref b)]) (kk : ∀ {k1 : Nat} {r1 : Int64} {T1 : AT} {r2 : Int64} {S1 : MS} (ad2 : Nat → Nat) (f1 : Nat → Int64) (g1 : Nat → UInt64) (H1 : Heap) (locs1 : List Loc) (ls1 : Array Slot), g_X11_movingPower T 0 (xs (i + 1)) (xs (i + 2)) (xs (i + 3)) = some (k1, r1, T1) → fr_movingPower Sm (xs (i + 1)) (xs (i + 2)) (xs (i + 3)) = some (r2, S1) → ad2 0 = ad 0 → IV aR0 1586 aK1 aK2 T1 → RC T1 → JJ S1 → gL cI cJ cZ cMic cSrc cSt cAI cAJ D ad2 (fun q => s.heap.size ≤ q) s.heap H1 locs1 T1 (oJ aj cJ f1 :: oD ae cD g1 :: MW cI cJ cZ am S1) → lv_has ls1 9 [(5, .int (nI i)), (4, .ref ae), (3, .ref aj), (2, .ref (am 0)), (1, .ref (ad2 0)), (0, .ref b)] → W p l e room_1 s m #[Value.ref b] below meth c H1 locs1 (19 + T1.1 + (j + 1)) (38467 + sg T1 + 6 * (j + 1)) Q (F0 m 2439 ls1 [])) : W p l e room_1 s m #[Value.ref b] below meth c H locs (19 + T.1 + j) (38467 + sg T + 6 * j) Q (F0 m 1598 ls []) := by
  have E : cE p c cL_law s m #[Value.ref b] lw_tbl D RL (CT cI cJ cZ cMic cSrc cSt cAI cAJ ++ [(cD, .double)]) := ⟨hx, hb, hts, hown, hK⟩
  have hA : ∀ q : Nat, s.heap.size ≤ q → s.heap.size ≤ q := fun _ h => h
  have h0T : 0 < T.1 := Nat.lt_of_lt_of_le (by decide) hV.1.2.2
  have h0s : T.2.1 0 = (11, 0) := hV.2.1 0 ⟨by decide, by decide +kernel, by decide +kernel⟩
  refine lv_aload_n hx hb dL_law_1598 rfl (lv_at hl 4 rfl) ?_
  refine lv_aload_n hx hb dL_law_1599 rfl (lv_at hl 5 rfl) ?_
  refine lv_iload hx hb dL_law_1600 (lv_at hl 0 rfl) ?_
  refine lv_iconst (v := 1) hx hb dL_law_1602 (by decide) ?_
  refine lv_iadd hx hb dL_law_1603 ?_
  refine lv_to (y := nI (i + 1)) (nI_add i 1) ?_
  refine va_sld hx hb hX0 hbl (Nat.not_le.mpr hbl) G.2.2 (i := nI (i + 1)) (vp_in_nI (n := i + 1) (N := L) (by omega) (by omega)) dL_law_1604 ?_
  refine lv_to (y := xs (i + 1)) (congrArg xs (nI_clamp (by omega))) ?_
  refine lv_aload_n hx hb dL_law_1605 rfl (lv_at hl 5 rfl) ?_
  refine lv_iload hx hb dL_law_1606 (lv_at hl 0 rfl) ?_
  refine lv_iconst (v := 2) hx hb dL_law_1608 (by decide) ?_
  refine lv_iadd hx hb dL_law_1609 ?_
  refine lv_to (y := nI (i + 2)) (nI_add i 2) ?_
  refine va_sld hx hb hX0 hbl (Nat.not_le.mpr hbl) G.2.2 (i := nI (i + 2)) (vp_in_nI (n := i + 2) (N := L) (by omega) (by omega)) dL_law_1610 ?_
  refine lv_to (y := xs (i + 2)) (congrArg xs (nI_clamp (by omega))) ?_
  refine lv_aload_n hx hb dL_law_1611 rfl (lv_at hl 5 rfl) ?_
  refine lv_iload hx hb dL_law_1612 (lv_at hl 0 rfl) ?_
  refine lv_iconst (v := 3) hx hb dL_law_1614 (by decide) ?_
  refine lv_iadd hx hb dL_law_1615 ?_
  refine lv_to (y := nI (i + 3)) (nI_add i 3) ?_
  refine va_sld hx hb hX0 hbl (Nat.not_le.mpr hbl) G.2.2 (i := nI (i + 3)) (vp_in_nI (n := i + 3) (N := L) (by omega) (by omega)) dL_law_1616 ?_
  refine lv_to (y := xs (i + 3)) (congrArg xs (nI_clamp (by omega))) ?_
  refine lv_aload_n hx hb dL_law_1617 rfl (lv_at hl 2 rfl) ?_
  obtain ⟨⟨k1, r1, T1⟩, hg, hc⟩ := cs_X11_movingPower T 0 (xs (i + 1)) (xs (i + 2)) (xs (i + 3)) hV (by decide +kernel)
  have hV1 : IV aR0 1586 aK1 aK2 T1 := hc.1.1
  have hg1 := s_X11_movingPower hg
  have hg2 := sg_le hg1
  have hg3 := hg1.1
  have hk := hV1.2.2.2.2.2.2
  have hrc1 := hg1.2.2 hrc
  have hr0 := a_room
  refine l_v (h0 := s.heap.size) (As := [.ref (ad 0), .int (xs (i + 1)), .int (xs (i + 2)), .int (xs (i + 3)), .ref aj]) (rest := []) E G hA hX hN (fun _ h => h) hTS hml (v_movingPower l hst D s.heap.size ad T 0 (xs (i + 1)) (xs (i + 2)) (xs (i + 3)) aj f hg hrc h0T h0s) (vx_cwSW 5 hts (glA (L := [Cond.methodLink RL 336 yL_movingPower, Cond.static yL_movingPower, Cond.initialized RL]) (gl_in [(6, 220), (6, 221), (1, 0)] (by decide +kernel) (by decide +kernel)) ⟨(t_of [Cond.codeWith yL_movingPower cL_movingPower 6 (some .int) [(0, 11, 14, 21), (0, 11, 18, 13), (0, 11, 22, 15)]] [(6, 222)] (by decide +kernel) _ List.mem_cons_self), List.all_eq_true.mp (by decide +kernel : [Cond.codeWith yL_movingPower cL_movingPower 6 (some .int) [(0, 11, 14, 21), (0, 11, 18, 13), (0, 11, 22, 15)]].all goodWord = true) _ List.mem_cons_self⟩) rfl rfl rfl (by decide +kernel) ⟨Nat.le_of_ble_eq_true rfl, Nat.le_of_ble_eq_true rfl⟩) rfl hl.1 rfl (lv_room (Nat.le_of_ble_eq_true rfl)) dL_law_1618 ⟨by show _ ≤ 601024; omega, by show _ ≤ 7293034; omega⟩ ?_
  intro ad2 H locs had G
  rw [← had 0 h0T] at hl
  refine lv_istore (lv' := [(6, .int (vck 1 2 3 k1)), (5, .int (nI i)), (4, .ref ae), (3, .ref aj), (2, .ref (am 0)), (1, .ref (ad2 0)), (0, .ref b)]) hx hb dL_law_1621 hl (by decide) rfl (fun ls hl => ?_)
  refine lv_aload_n hx hb dL_law_1623 rfl (lv_at hl 4 rfl) ?_
  refine lv_aload_n hx hb dL_law_1624 rfl (lv_at hl 6 rfl) ?_
  refine lv_iload hx hb dL_law_1625 (lv_at hl 1 rfl) ?_
  refine lv_iconst (v := 1) hx hb dL_law_1627 (by decide) ?_
  refine lv_iadd hx hb dL_law_1628 ?_
  refine lv_to (y := nI (i + 1)) (nI_add i 1) ?_
  refine va_sld hx hb hX0 hbl (Nat.not_le.mpr hbl) G.2.2 (i := nI (i + 1)) (vp_in_nI (n := i + 1) (N := L) (by omega) (by omega)) dL_law_1629 ?_
  refine lv_to (y := xs (i + 1)) (congrArg xs (nI_clamp (by omega))) ?_
  refine lv_aload_n hx hb dL_law_1630 rfl (lv_at hl 6 rfl) ?_
  refine lv_iload hx hb dL_law_1631 (lv_at hl 1 rfl) ?_
  refine lv_iconst (v := 2) hx hb dL_law_1633 (by decide) ?_
  refine lv_iadd hx hb dL_law_1634 ?_
  refine lv_to (y := nI (i + 2)) (nI_add i 2) ?_
  refine va_sld hx hb hX0 hbl (Nat.not_le.mpr hbl) G.2.2 (i := nI (i + 2)) (vp_in_nI (n := i + 2) (N := L) (by omega) (by omega)) dL_law_1635 ?_
  refine lv_to (y := xs (i + 2)) (congrArg xs (nI_clamp (by omega))) ?_
  refine lv_aload_n hx hb dL_law_1636 rfl (lv_at hl 6 rfl) ?_
  refine lv_iload hx hb dL_law_1637 (lv_at hl 1 rfl) ?_
  refine lv_iconst (v := 3) hx hb dL_law_1639 (by decide) ?_
  refine lv_iadd hx hb dL_law_1640 ?_
  refine lv_to (y := nI (i + 3)) (nI_add i 3) ?_
  refine va_sld hx hb hX0 hbl (Nat.not_le.mpr hbl) G.2.2 (i := nI (i + 3)) (vp_in_nI (n := i + 3) (N := L) (by omega) (by omega)) dL_law_1641 ?_
  refine lv_to (y := xs (i + 3)) (congrArg xs (nI_clamp (by omega))) ?_
  obtain ⟨⟨r2, S1⟩, hf, hj⟩ := sj_movingPower Sm (xs (i + 1)) (xs (i + 2)) (xs (i + 3)) hJ
  have hJ1 : JJ S1 := hj
  refine y_ml (As := [.int (xs (i + 1)), .int (xs (i + 2)), .int (xs (i + 3))]) (rest := []) E G hA hX.2.2.2.2 hml (tr_movingPower l D cI cJ cZ am Sm (xs (i + 1)) (xs (i + 2)) (xs (i + 3)) hf) (cwV 3 hts (glM (L := [Cond.methodLink RL 338 yX12_movingPower, Cond.instanceMethod yX12_movingPower, Cond.selects RX12 yX12_movingPower yX12_movingPower, Cond.initialized RX12]) (gl_in [(10, 85), (10, 86), (10, 87), (1, 14)] (by decide +kernel) (by decide +kernel)) ⟨(t_of [Cond.code yX12_movingPower cX12_movingPower 4 (some .long)] [(10, 88)] (by decide +kernel) _ List.mem_cons_self), List.all_eq_true.mp (by decide +kernel : [Cond.code yX12_movingPower cX12_movingPower 4 (some .long)].all goodWord = true) _ List.mem_cons_self⟩) rfl rfl rfl (by decide +kernel) ⟨Nat.le_of_ble_eq_true rfl, Nat.le_of_ble_eq_true rfl⟩) rfl hl.1 rfl (lv_room (Nat.le_of_ble_eq_true rfl)) dL_law_1642 ⟨by show _ ≤ 601024; omega, by show _ ≤ 7293034; omega⟩ (fun H locs G => ?_)
  refine lv_lstore (lv' := [(7, .long r2), (6, .int (vck 1 2 3 k1)), (5, .int (nI i)), (4, .ref ae), (3, .ref aj), (2, .ref (am 0)), (1, .ref (ad2 0)), (0, .ref b)]) hx hb dL_law_1645 hl (by decide) rfl (fun ls hl => ?_)
  refine lv_goto (tgt := 2439) hx hb dL_law_1647 (by decide) ?_
  have hl := lv_sub hl [2, 3, 4, 5, 6, 7] rfl
  refine W.widen (k := 19 + T1.1 + (j + 1)) (n := 38467 + sg T1 + 6 * (j + 1)) (by omega) (by omega) ?_
  exact kk ad2 (vfJ k1 f r1) g H locs ls hg hf (had 0 h0T) hV1 hrc1 hJ1 G hl
set_option maxHeartbeats 4000000 in
set_option maxRecDepth 100000 in
theorem y_a42 {p : Program} {e : Env} {s : State} {m : MethodId} {below : List Frame} {meth : Method} {c : Code} (l : Launch) (hst : l.stackTraces = false) {b L : Nat} {xs : Nat → Int32} (hx : p.tables.exec = Jvm.exec) (hb : c.code = code) (hml : c.maxLocals = 9) (hown : s.vm.findClass RL = some m.cls) (hts : ∀ w ∈ lw_tbl, w.before #[Value.ref b] s = true) (hX0 : va_X b L xs s s.heap) (hbl : b < s.heap.size) (hX : xT (fun q => s.heap.size ≤ q) s) (hN : nC s) (hTS : sAll s.heap.size s) {D : va_G} {cI cJ cZ cMic cSrc cSt cAI cAJ cD : ClassId} (hK : va_K D vwCl (CT cI cJ cZ cMic cSrc cSt cAI cAJ ++ [(cD, .double)]) s) {Q : State → Prop} {i j : Nat} (hi : i + 6 ≤ L) (hL : L ≤ 3072) (hj : j < 512) {aj ae : Nat} {ad am : Nat → Nat} {T : AT} {Sm : MS} {f : Nat → Int64} {g : Nat → UInt64} {ls : Array Slot} {H : Heap} {locs : List Loc} (hV : IV aR0 1586 aK1 aK2 T) (hrc : RC T) (hJ : JJ Sm) (G : gL cI cJ cZ cMic cSrc cSt cAI cAJ D ad (fun q => s.heap.size ≤ q) s.heap H locs T (oJ aj cJ f :: oD ae cD g :: MW cI cJ cZ am Sm)) (hl : lv_has ls 9 [(5, .int (nI i)), (4, .ref ae), (3, .ref aj), (2, .ref (am 0)), (1, .ref (ad 0)), (0, .ref b)]) (kk : ∀ {k1 : Nat} {r1 : Int32} {T1 : AT} {r2 : Int32} {S1 : MS} (ad2 : Nat → Nat) (f1 : Nat → Int64) (g1 : Nat → UInt64) (H1 : Heap) (locs1 : List Loc) (ls1 : Array Slot), g_X11_bestVelocity T 0 (xs (i + 1)) (xs (i + 2)) (xs (i + 3)) = some (k1, r1, T1) → fr_bestVelocity Sm (xs (i + 1)) (xs (i + 2)) (xs (i + 3)) = some (r2, S1) → ad2 0 = ad 0 → IV aR0 1586 aK1 aK2 T1 → RC T1 → JJ S1 → gL cI cJ cZ cMic cSrc cSt cAI cAJ D ad2 (fun q => s.heap.size ≤ q) s.heap H1 locs1 T1 (oJ aj cJ f1 :: oD ae cD g1 :: MW cI cJ cZ am S1) → lv_has ls1 9 [(5, .int (nI i)), (4, .ref ae), (3, .ref aj), (2, .ref (am 0)), (1, .ref (ad2 0)), (0, .ref b)] → W p l e room_1 s m #[Value.ref b] below meth c H1 locs1 (19 + T1.1 + (j + 1)) (38467 + sg T1 + 6 * (j + 1)) Q (F0 m 2439 ls1 [])) : W p l e room_1 s m #[Value.ref b] below meth c H locs (19 + T.1 + j) (38467 + sg T + 6 * j) Q (F0 m 1650 ls []) := by
  have E : cE p c cL_law s m #[Value.ref b] lw_tbl D RL (CT cI cJ cZ cMic cSrc cSt cAI cAJ ++ [(cD, .double)]) := ⟨hx, hb, hts, hown, hK⟩
  have hA : ∀ q : Nat, s.heap.size ≤ q → s.heap.size ≤ q := fun _ h => h
  have h0T : 0 < T.1 := Nat.lt_of_lt_of_le (by decide) hV.1.2.2
  have h0s : T.2.1 0 = (11, 0) := hV.2.1 0 ⟨by decide, by decide +kernel, by decide +kernel⟩
  refine lv_aload_n hx hb dL_law_1650 rfl (lv_at hl 4 rfl) ?_
  refine lv_aload_n hx hb dL_law_1651 rfl (lv_at hl 5 rfl) ?_
  refine lv_iload hx hb dL_law_1652 (lv_at hl 0 rfl) ?_
  refine lv_iconst (v := 1) hx hb dL_law_1654 (by decide) ?_
  refine lv_iadd hx hb dL_law_1655 ?_
  refine lv_to (y := nI (i + 1)) (nI_add i 1) ?_
  refine va_sld hx hb hX0 hbl (Nat.not_le.mpr hbl) G.2.2 (i := nI (i + 1)) (vp_in_nI (n := i + 1) (N := L) (by omega) (by omega)) dL_law_1656 ?_
  refine lv_to (y := xs (i + 1)) (congrArg xs (nI_clamp (by omega))) ?_
  refine lv_aload_n hx hb dL_law_1657 rfl (lv_at hl 5 rfl) ?_
  refine lv_iload hx hb dL_law_1658 (lv_at hl 0 rfl) ?_
  refine lv_iconst (v := 2) hx hb dL_law_1660 (by decide) ?_
  refine lv_iadd hx hb dL_law_1661 ?_
  refine lv_to (y := nI (i + 2)) (nI_add i 2) ?_
  refine va_sld hx hb hX0 hbl (Nat.not_le.mpr hbl) G.2.2 (i := nI (i + 2)) (vp_in_nI (n := i + 2) (N := L) (by omega) (by omega)) dL_law_1662 ?_
  refine lv_to (y := xs (i + 2)) (congrArg xs (nI_clamp (by omega))) ?_
  refine lv_aload_n hx hb dL_law_1663 rfl (lv_at hl 5 rfl) ?_
  refine lv_iload hx hb dL_law_1664 (lv_at hl 0 rfl) ?_
  refine lv_iconst (v := 3) hx hb dL_law_1666 (by decide) ?_
  refine lv_iadd hx hb dL_law_1667 ?_
  refine lv_to (y := nI (i + 3)) (nI_add i 3) ?_
  refine va_sld hx hb hX0 hbl (Nat.not_le.mpr hbl) G.2.2 (i := nI (i + 3)) (vp_in_nI (n := i + 3) (N := L) (by omega) (by omega)) dL_law_1668 ?_
  refine lv_to (y := xs (i + 3)) (congrArg xs (nI_clamp (by omega))) ?_
  refine lv_aload_n hx hb dL_law_1669 rfl (lv_at hl 2 rfl) ?_
  obtain ⟨⟨k1, r1, T1⟩, hg, hc⟩ := cs_X11_bestVelocity T 0 (xs (i + 1)) (xs (i + 2)) (xs (i + 3)) hV (by decide +kernel)
  have hV1 : IV aR0 1586 aK1 aK2 T1 := hc.1.1
  have hg1 := s_X11_bestVelocity hg
  have hg2 := sg_le hg1
  have hg3 := hg1.1
  have hk := hV1.2.2.2.2.2.2
  have hrc1 := hg1.2.2 hrc
  have hr0 := a_room
  refine l_v (h0 := s.heap.size) (As := [.ref (ad 0), .int (xs (i + 1)), .int (xs (i + 2)), .int (xs (i + 3)), .ref aj]) (rest := []) E G hA hX hN (fun _ h => h) hTS hml (v_bestVelocity l hst D s.heap.size ad T 0 (xs (i + 1)) (xs (i + 2)) (xs (i + 3)) aj f hg hrc h0T h0s) (vx_cwSW 5 hts (glA (L := [Cond.methodLink RL 339 yL_bestVelocity, Cond.static yL_bestVelocity, Cond.initialized RL]) (gl_in [(6, 233), (6, 234), (1, 0)] (by decide +kernel) (by decide +kernel)) ⟨(t_of [Cond.codeWith yL_bestVelocity cL_bestVelocity 6 (some .int) [(0, 12, 15, 21), (0, 12, 19, 13), (0, 12, 23, 15)]] [(6, 235)] (by decide +kernel) _ List.mem_cons_self), List.all_eq_true.mp (by decide +kernel : [Cond.codeWith yL_bestVelocity cL_bestVelocity 6 (some .int) [(0, 12, 15, 21), (0, 12, 19, 13), (0, 12, 23, 15)]].all goodWord = true) _ List.mem_cons_self⟩) rfl rfl rfl (by decide +kernel) ⟨Nat.le_of_ble_eq_true rfl, Nat.le_of_ble_eq_true rfl⟩) rfl hl.1 rfl (lv_room (Nat.le_of_ble_eq_true rfl)) dL_law_1670 ⟨by show _ ≤ 601024; omega, by show _ ≤ 7293034; omega⟩ ?_
  intro ad2 H locs had G
  rw [← had 0 h0T] at hl
  refine lv_istore (lv' := [(6, .int (vck 1 2 3 k1)), (5, .int (nI i)), (4, .ref ae), (3, .ref aj), (2, .ref (am 0)), (1, .ref (ad2 0)), (0, .ref b)]) hx hb dL_law_1673 hl (by decide) rfl (fun ls hl => ?_)
  refine lv_aload_n hx hb dL_law_1675 rfl (lv_at hl 4 rfl) ?_
  refine lv_aload_n hx hb dL_law_1676 rfl (lv_at hl 6 rfl) ?_
  refine lv_iload hx hb dL_law_1677 (lv_at hl 1 rfl) ?_
  refine lv_iconst (v := 1) hx hb dL_law_1679 (by decide) ?_
  refine lv_iadd hx hb dL_law_1680 ?_
  refine lv_to (y := nI (i + 1)) (nI_add i 1) ?_
  refine va_sld hx hb hX0 hbl (Nat.not_le.mpr hbl) G.2.2 (i := nI (i + 1)) (vp_in_nI (n := i + 1) (N := L) (by omega) (by omega)) dL_law_1681 ?_
  refine lv_to (y := xs (i + 1)) (congrArg xs (nI_clamp (by omega))) ?_
  refine lv_aload_n hx hb dL_law_1682 rfl (lv_at hl 6 rfl) ?_
  refine lv_iload hx hb dL_law_1683 (lv_at hl 1 rfl) ?_
  refine lv_iconst (v := 2) hx hb dL_law_1685 (by decide) ?_
  refine lv_iadd hx hb dL_law_1686 ?_
  refine lv_to (y := nI (i + 2)) (nI_add i 2) ?_
  refine va_sld hx hb hX0 hbl (Nat.not_le.mpr hbl) G.2.2 (i := nI (i + 2)) (vp_in_nI (n := i + 2) (N := L) (by omega) (by omega)) dL_law_1687 ?_
  refine lv_to (y := xs (i + 2)) (congrArg xs (nI_clamp (by omega))) ?_
  refine lv_aload_n hx hb dL_law_1688 rfl (lv_at hl 6 rfl) ?_
  refine lv_iload hx hb dL_law_1689 (lv_at hl 1 rfl) ?_
  refine lv_iconst (v := 3) hx hb dL_law_1691 (by decide) ?_
  refine lv_iadd hx hb dL_law_1692 ?_
  refine lv_to (y := nI (i + 3)) (nI_add i 3) ?_
  refine va_sld hx hb hX0 hbl (Nat.not_le.mpr hbl) G.2.2 (i := nI (i + 3)) (vp_in_nI (n := i + 3) (N := L) (by omega) (by omega)) dL_law_1693 ?_
  refine lv_to (y := xs (i + 3)) (congrArg xs (nI_clamp (by omega))) ?_
  obtain ⟨⟨r2, S1⟩, hf, hj⟩ := sj_bestVelocity Sm (xs (i + 1)) (xs (i + 2)) (xs (i + 3)) hJ
  have hJ1 : JJ S1 := hj
  refine y_mi (As := [.int (xs (i + 1)), .int (xs (i + 2)), .int (xs (i + 3))]) (rest := []) E G hA hX.2.2.2.2 hml (tr_bestVelocity l D cI cJ cZ am Sm (xs (i + 1)) (xs (i + 2)) (xs (i + 3)) hf) (cwV 3 hts (glM (L := [Cond.methodLink RL 341 yX12_bestVelocity, Cond.instanceMethod yX12_bestVelocity, Cond.selects RX12 yX12_bestVelocity yX12_bestVelocity, Cond.initialized RX12]) (gl_in [(10, 96), (10, 97), (10, 98), (1, 14)] (by decide +kernel) (by decide +kernel)) ⟨(t_of [Cond.code yX12_bestVelocity cX12_bestVelocity 11 (some .int)] [(10, 99)] (by decide +kernel) _ List.mem_cons_self), List.all_eq_true.mp (by decide +kernel : [Cond.code yX12_bestVelocity cX12_bestVelocity 11 (some .int)].all goodWord = true) _ List.mem_cons_self⟩) rfl rfl rfl (by decide +kernel) ⟨Nat.le_of_ble_eq_true rfl, Nat.le_of_ble_eq_true rfl⟩) rfl hl.1 rfl (lv_room (Nat.le_of_ble_eq_true rfl)) dL_law_1694 ⟨by show _ ≤ 601024; omega, by show _ ≤ 7293034; omega⟩ (fun H locs G => ?_)
  refine lv_istore (lv' := [(7, .int r2), (6, .int (vck 1 2 3 k1)), (5, .int (nI i)), (4, .ref ae), (3, .ref aj), (2, .ref (am 0)), (1, .ref (ad2 0)), (0, .ref b)]) hx hb dL_law_1697 hl (by decide) rfl (fun ls hl => ?_)
  refine lv_goto (tgt := 2439) hx hb dL_law_1699 (by decide) ?_
  have hl := lv_sub hl [2, 3, 4, 5, 6, 7] rfl
  refine W.widen (k := 19 + T1.1 + (j + 1)) (n := 38467 + sg T1 + 6 * (j + 1)) (by omega) (by omega) ?_
  exact kk ad2 (vfJ k1 f r1.toInt64) g H locs ls hg hf (had 0 h0T) hV1 hrc1 hJ1 G hl
set_option maxHeartbeats 4000000 in
set_option maxRecDepth 100000 in
theorem y_a43 {p : Program} {e : Env} {s : State} {m : MethodId} {below : List Frame} {meth : Method} {c : Code} (l : Launch) (hst : l.stackTraces = false) {b L : Nat} {xs : Nat → Int32} (hx : p.tables.exec = Jvm.exec) (hb : c.code = code) (hml : c.maxLocals = 9) (hown : s.vm.findClass RL = some m.cls) (hts : ∀ w ∈ lw_tbl, w.before #[Value.ref b] s = true) (hX0 : va_X b L xs s s.heap) (hbl : b < s.heap.size) (hX : xT (fun q => s.heap.size ≤ q) s) (hN : nC s) (hTS : sAll s.heap.size s) {D : va_G} {cI cJ cZ cMic cSrc cSt cAI cAJ cD : ClassId} (hK : va_K D vwCl (CT cI cJ cZ cMic cSrc cSt cAI cAJ ++ [(cD, .double)]) s) {Q : State → Prop} {i j : Nat} (hi : i + 6 ≤ L) (hL : L ≤ 3072) (hj : j < 512) {aj ae : Nat} {ad am : Nat → Nat} {T : AT} {Sm : MS} {f : Nat → Int64} {g : Nat → UInt64} {ls : Array Slot} {H : Heap} {locs : List Loc} (hV : IV aR0 1586 aK1 aK2 T) (hrc : RC T) (hJ : JJ Sm) (G : gL cI cJ cZ cMic cSrc cSt cAI cAJ D ad (fun q => s.heap.size ≤ q) s.heap H locs T (oJ aj cJ f :: oD ae cD g :: MW cI cJ cZ am Sm)) (hl : lv_has ls 9 [(5, .int (nI i)), (4, .ref ae), (3, .ref aj), (2, .ref (am 0)), (1, .ref (ad 0)), (0, .ref b)]) (kk : ∀ {k1 : Nat} {r1 : Int64} {T1 : AT} {r2 : Int64} {S1 : MS} (ad2 : Nat → Nat) (f1 : Nat → Int64) (g1 : Nat → UInt64) (H1 : Heap) (locs1 : List Loc) (ls1 : Array Slot), g_X11_correlation T 0 (xs (i + 1)) (xs (i + 2)) (xs (i + 3)) = some (k1, r1, T1) → fr_correlation Sm (xs (i + 1)) (xs (i + 2)) (xs (i + 3)) = some (r2, S1) → ad2 0 = ad 0 → IV aR0 1586 aK1 aK2 T1 → RC T1 → JJ S1 → gL cI cJ cZ cMic cSrc cSt cAI cAJ D ad2 (fun q => s.heap.size ≤ q) s.heap H1 locs1 T1 (oJ aj cJ f1 :: oD ae cD g1 :: MW cI cJ cZ am S1) → lv_has ls1 9 [(5, .int (nI i)), (4, .ref ae), (3, .ref aj), (2, .ref (am 0)), (1, .ref (ad2 0)), (0, .ref b)] → W p l e room_1 s m #[Value.ref b] below meth c H1 locs1 (19 + T1.1 + (j + 1)) (38467 + sg T1 + 6 * (j + 1)) Q (F0 m 2439 ls1 [])) : W p l e room_1 s m #[Value.ref b] below meth c H locs (19 + T.1 + j) (38467 + sg T + 6 * j) Q (F0 m 1702 ls []) := by
  have E : cE p c cL_law s m #[Value.ref b] lw_tbl D RL (CT cI cJ cZ cMic cSrc cSt cAI cAJ ++ [(cD, .double)]) := ⟨hx, hb, hts, hown, hK⟩
  have hA : ∀ q : Nat, s.heap.size ≤ q → s.heap.size ≤ q := fun _ h => h
  have h0T : 0 < T.1 := Nat.lt_of_lt_of_le (by decide) hV.1.2.2
  have h0s : T.2.1 0 = (11, 0) := hV.2.1 0 ⟨by decide, by decide +kernel, by decide +kernel⟩
  refine lv_aload_n hx hb dL_law_1702 rfl (lv_at hl 4 rfl) ?_
  refine lv_aload_n hx hb dL_law_1703 rfl (lv_at hl 5 rfl) ?_
  refine lv_iload hx hb dL_law_1704 (lv_at hl 0 rfl) ?_
  refine lv_iconst (v := 1) hx hb dL_law_1706 (by decide) ?_
  refine lv_iadd hx hb dL_law_1707 ?_
  refine lv_to (y := nI (i + 1)) (nI_add i 1) ?_
  refine va_sld hx hb hX0 hbl (Nat.not_le.mpr hbl) G.2.2 (i := nI (i + 1)) (vp_in_nI (n := i + 1) (N := L) (by omega) (by omega)) dL_law_1708 ?_
  refine lv_to (y := xs (i + 1)) (congrArg xs (nI_clamp (by omega))) ?_
  refine lv_aload_n hx hb dL_law_1709 rfl (lv_at hl 5 rfl) ?_
  refine lv_iload hx hb dL_law_1710 (lv_at hl 0 rfl) ?_
  refine lv_iconst (v := 2) hx hb dL_law_1712 (by decide) ?_
  refine lv_iadd hx hb dL_law_1713 ?_
  refine lv_to (y := nI (i + 2)) (nI_add i 2) ?_
  refine va_sld hx hb hX0 hbl (Nat.not_le.mpr hbl) G.2.2 (i := nI (i + 2)) (vp_in_nI (n := i + 2) (N := L) (by omega) (by omega)) dL_law_1714 ?_
  refine lv_to (y := xs (i + 2)) (congrArg xs (nI_clamp (by omega))) ?_
  refine lv_aload_n hx hb dL_law_1715 rfl (lv_at hl 5 rfl) ?_
  refine lv_iload hx hb dL_law_1716 (lv_at hl 0 rfl) ?_
  refine lv_iconst (v := 3) hx hb dL_law_1718 (by decide) ?_
  refine lv_iadd hx hb dL_law_1719 ?_
  refine lv_to (y := nI (i + 3)) (nI_add i 3) ?_
  refine va_sld hx hb hX0 hbl (Nat.not_le.mpr hbl) G.2.2 (i := nI (i + 3)) (vp_in_nI (n := i + 3) (N := L) (by omega) (by omega)) dL_law_1720 ?_
  refine lv_to (y := xs (i + 3)) (congrArg xs (nI_clamp (by omega))) ?_
  refine lv_aload_n hx hb dL_law_1721 rfl (lv_at hl 2 rfl) ?_
  obtain ⟨⟨k1, r1, T1⟩, hg, hc⟩ := cs_X11_correlation T 0 (xs (i + 1)) (xs (i + 2)) (xs (i + 3)) hV (by decide +kernel)
  have hV1 : IV aR0 1586 aK1 aK2 T1 := hc.1.1
  have hg1 := s_X11_correlation hg
  have hg2 := sg_le hg1
  have hg3 := hg1.1
  have hk := hV1.2.2.2.2.2.2
  have hrc1 := hg1.2.2 hrc
  have hr0 := a_room
  refine l_v (h0 := s.heap.size) (As := [.ref (ad 0), .int (xs (i + 1)), .int (xs (i + 2)), .int (xs (i + 3)), .ref aj]) (rest := []) E G hA hX hN (fun _ h => h) hTS hml (v_correlation l hst D s.heap.size ad T 0 (xs (i + 1)) (xs (i + 2)) (xs (i + 3)) aj f hg hrc h0T h0s) (vx_cwSW 5 hts (glA (L := [Cond.methodLink RL 342 yL_correlation, Cond.static yL_correlation, Cond.initialized RL]) (gl_in [(7, 2), (7, 3), (1, 0)] (by decide +kernel) (by decide +kernel)) ⟨(t_of [Cond.codeWith yL_correlation cL_correlation 6 (some .int) [(0, 11, 14, 21), (0, 11, 18, 13), (0, 11, 22, 15)]] [(7, 4)] (by decide +kernel) _ List.mem_cons_self), List.all_eq_true.mp (by decide +kernel : [Cond.codeWith yL_correlation cL_correlation 6 (some .int) [(0, 11, 14, 21), (0, 11, 18, 13), (0, 11, 22, 15)]].all goodWord = true) _ List.mem_cons_self⟩) rfl rfl rfl (by decide +kernel) ⟨Nat.le_of_ble_eq_true rfl, Nat.le_of_ble_eq_true rfl⟩) rfl hl.1 rfl (lv_room (Nat.le_of_ble_eq_true rfl)) dL_law_1722 ⟨by show _ ≤ 601024; omega, by show _ ≤ 7293034; omega⟩ ?_
  intro ad2 H locs had G
  rw [← had 0 h0T] at hl
  refine lv_istore (lv' := [(6, .int (vck 1 2 3 k1)), (5, .int (nI i)), (4, .ref ae), (3, .ref aj), (2, .ref (am 0)), (1, .ref (ad2 0)), (0, .ref b)]) hx hb dL_law_1725 hl (by decide) rfl (fun ls hl => ?_)
  refine lv_aload_n hx hb dL_law_1727 rfl (lv_at hl 4 rfl) ?_
  refine lv_aload_n hx hb dL_law_1728 rfl (lv_at hl 6 rfl) ?_
  refine lv_iload hx hb dL_law_1729 (lv_at hl 1 rfl) ?_
  refine lv_iconst (v := 1) hx hb dL_law_1731 (by decide) ?_
  refine lv_iadd hx hb dL_law_1732 ?_
  refine lv_to (y := nI (i + 1)) (nI_add i 1) ?_
  refine va_sld hx hb hX0 hbl (Nat.not_le.mpr hbl) G.2.2 (i := nI (i + 1)) (vp_in_nI (n := i + 1) (N := L) (by omega) (by omega)) dL_law_1733 ?_
  refine lv_to (y := xs (i + 1)) (congrArg xs (nI_clamp (by omega))) ?_
  refine lv_aload_n hx hb dL_law_1734 rfl (lv_at hl 6 rfl) ?_
  refine lv_iload hx hb dL_law_1735 (lv_at hl 1 rfl) ?_
  refine lv_iconst (v := 2) hx hb dL_law_1737 (by decide) ?_
  refine lv_iadd hx hb dL_law_1738 ?_
  refine lv_to (y := nI (i + 2)) (nI_add i 2) ?_
  refine va_sld hx hb hX0 hbl (Nat.not_le.mpr hbl) G.2.2 (i := nI (i + 2)) (vp_in_nI (n := i + 2) (N := L) (by omega) (by omega)) dL_law_1739 ?_
  refine lv_to (y := xs (i + 2)) (congrArg xs (nI_clamp (by omega))) ?_
  refine lv_aload_n hx hb dL_law_1740 rfl (lv_at hl 6 rfl) ?_
  refine lv_iload hx hb dL_law_1741 (lv_at hl 1 rfl) ?_
  refine lv_iconst (v := 3) hx hb dL_law_1743 (by decide) ?_
  refine lv_iadd hx hb dL_law_1744 ?_
  refine lv_to (y := nI (i + 3)) (nI_add i 3) ?_
  refine va_sld hx hb hX0 hbl (Nat.not_le.mpr hbl) G.2.2 (i := nI (i + 3)) (vp_in_nI (n := i + 3) (N := L) (by omega) (by omega)) dL_law_1745 ?_
  refine lv_to (y := xs (i + 3)) (congrArg xs (nI_clamp (by omega))) ?_
  obtain ⟨⟨r2, S1⟩, hf, hj⟩ := sj_correlation Sm (xs (i + 1)) (xs (i + 2)) (xs (i + 3)) hJ
  have hJ1 : JJ S1 := hj
  refine y_ml (As := [.int (xs (i + 1)), .int (xs (i + 2)), .int (xs (i + 3))]) (rest := []) E G hA hX.2.2.2.2 hml (tr_correlation l D cI cJ cZ am Sm (xs (i + 1)) (xs (i + 2)) (xs (i + 3)) hf) (cwV 3 hts (glM (L := [Cond.methodLink RL 344 yX12_correlation, Cond.instanceMethod yX12_correlation, Cond.selects RX12 yX12_correlation yX12_correlation, Cond.initialized RX12]) (gl_in [(10, 100), (10, 101), (10, 102), (1, 14)] (by decide +kernel) (by decide +kernel)) ⟨(t_of [Cond.code yX12_correlation cX12_correlation 4 (some .long)] [(10, 103)] (by decide +kernel) _ List.mem_cons_self), List.all_eq_true.mp (by decide +kernel : [Cond.code yX12_correlation cX12_correlation 4 (some .long)].all goodWord = true) _ List.mem_cons_self⟩) rfl rfl rfl (by decide +kernel) ⟨Nat.le_of_ble_eq_true rfl, Nat.le_of_ble_eq_true rfl⟩) rfl hl.1 rfl (lv_room (Nat.le_of_ble_eq_true rfl)) dL_law_1746 ⟨by show _ ≤ 601024; omega, by show _ ≤ 7293034; omega⟩ (fun H locs G => ?_)
  refine lv_lstore (lv' := [(7, .long r2), (6, .int (vck 1 2 3 k1)), (5, .int (nI i)), (4, .ref ae), (3, .ref aj), (2, .ref (am 0)), (1, .ref (ad2 0)), (0, .ref b)]) hx hb dL_law_1749 hl (by decide) rfl (fun ls hl => ?_)
  refine lv_goto (tgt := 2439) hx hb dL_law_1751 (by decide) ?_
  have hl := lv_sub hl [2, 3, 4, 5, 6, 7] rfl
  refine W.widen (k := 19 + T1.1 + (j + 1)) (n := 38467 + sg T1 + 6 * (j + 1)) (by omega) (by omega) ?_
  exact kk ad2 (vfJ k1 f r1) g H locs ls hg hf (had 0 h0T) hV1 hrc1 hJ1 G hl
set_option maxHeartbeats 4000000 in
set_option maxRecDepth 100000 in
theorem y_a44 {p : Program} {e : Env} {s : State} {m : MethodId} {below : List Frame} {meth : Method} {c : Code} (l : Launch) (hst : l.stackTraces = false) {b L : Nat} {xs : Nat → Int32} (hx : p.tables.exec = Jvm.exec) (hb : c.code = code) (hml : c.maxLocals = 9) (hown : s.vm.findClass RL = some m.cls) (hts : ∀ w ∈ lw_tbl, w.before #[Value.ref b] s = true) (hX0 : va_X b L xs s s.heap) (hbl : b < s.heap.size) (hX : xT (fun q => s.heap.size ≤ q) s) (hN : nC s) (hTS : sAll s.heap.size s) {D : va_G} {cI cJ cZ cMic cSrc cSt cAI cAJ cD : ClassId} (hK : va_K D vwCl (CT cI cJ cZ cMic cSrc cSt cAI cAJ ++ [(cD, .double)]) s) {Q : State → Prop} {i j : Nat} (hi : i + 6 ≤ L) (hL : L ≤ 3072) (hj : j < 512) {aj ae : Nat} {ad am : Nat → Nat} {T : AT} {Sm : MS} {f : Nat → Int64} {g : Nat → UInt64} {ls : Array Slot} {H : Heap} {locs : List Loc} (hV : IV aR0 1586 aK1 aK2 T) (hrc : RC T) (hJ : JJ Sm) (G : gL cI cJ cZ cMic cSrc cSt cAI cAJ D ad (fun q => s.heap.size ≤ q) s.heap H locs T (oJ aj cJ f :: oD ae cD g :: MW cI cJ cZ am Sm)) (hl : lv_has ls 9 [(5, .int (nI i)), (4, .ref ae), (3, .ref aj), (2, .ref (am 0)), (1, .ref (ad 0)), (0, .ref b)]) (kk : ∀ {k1 : Nat} {r1 : Int32} {T1 : AT} {r2 : Int32} {S1 : MS} (ad2 : Nat → Nat) (f1 : Nat → Int64) (g1 : Nat → UInt64) (H1 : Heap) (locs1 : List Loc) (ls1 : Array Slot), g_X11_bestLag T 0 (xs (i + 1)) (xs (i + 2)) (xs (i + 3)) = some (k1, r1, T1) → fr_bestLag Sm (xs (i + 1)) (xs (i + 2)) (xs (i + 3)) = some (r2, S1) → ad2 0 = ad 0 → IV aR0 1586 aK1 aK2 T1 → RC T1 → JJ S1 → gL cI cJ cZ cMic cSrc cSt cAI cAJ D ad2 (fun q => s.heap.size ≤ q) s.heap H1 locs1 T1 (oJ aj cJ f1 :: oD ae cD g1 :: MW cI cJ cZ am S1) → lv_has ls1 9 [(5, .int (nI i)), (4, .ref ae), (3, .ref aj), (2, .ref (am 0)), (1, .ref (ad2 0)), (0, .ref b)] → W p l e room_1 s m #[Value.ref b] below meth c H1 locs1 (19 + T1.1 + (j + 1)) (38467 + sg T1 + 6 * (j + 1)) Q (F0 m 2439 ls1 [])) : W p l e room_1 s m #[Value.ref b] below meth c H locs (19 + T.1 + j) (38467 + sg T + 6 * j) Q (F0 m 1754 ls []) := by
  have E : cE p c cL_law s m #[Value.ref b] lw_tbl D RL (CT cI cJ cZ cMic cSrc cSt cAI cAJ ++ [(cD, .double)]) := ⟨hx, hb, hts, hown, hK⟩
  have hA : ∀ q : Nat, s.heap.size ≤ q → s.heap.size ≤ q := fun _ h => h
  have h0T : 0 < T.1 := Nat.lt_of_lt_of_le (by decide) hV.1.2.2
  have h0s : T.2.1 0 = (11, 0) := hV.2.1 0 ⟨by decide, by decide +kernel, by decide +kernel⟩
  refine lv_aload_n hx hb dL_law_1754 rfl (lv_at hl 4 rfl) ?_
  refine lv_aload_n hx hb dL_law_1755 rfl (lv_at hl 5 rfl) ?_
  refine lv_iload hx hb dL_law_1756 (lv_at hl 0 rfl) ?_
  refine lv_iconst (v := 1) hx hb dL_law_1758 (by decide) ?_
  refine lv_iadd hx hb dL_law_1759 ?_
  refine lv_to (y := nI (i + 1)) (nI_add i 1) ?_
  refine va_sld hx hb hX0 hbl (Nat.not_le.mpr hbl) G.2.2 (i := nI (i + 1)) (vp_in_nI (n := i + 1) (N := L) (by omega) (by omega)) dL_law_1760 ?_
  refine lv_to (y := xs (i + 1)) (congrArg xs (nI_clamp (by omega))) ?_
  refine lv_aload_n hx hb dL_law_1761 rfl (lv_at hl 5 rfl) ?_
  refine lv_iload hx hb dL_law_1762 (lv_at hl 0 rfl) ?_
  refine lv_iconst (v := 2) hx hb dL_law_1764 (by decide) ?_
  refine lv_iadd hx hb dL_law_1765 ?_
  refine lv_to (y := nI (i + 2)) (nI_add i 2) ?_
  refine va_sld hx hb hX0 hbl (Nat.not_le.mpr hbl) G.2.2 (i := nI (i + 2)) (vp_in_nI (n := i + 2) (N := L) (by omega) (by omega)) dL_law_1766 ?_
  refine lv_to (y := xs (i + 2)) (congrArg xs (nI_clamp (by omega))) ?_
  refine lv_aload_n hx hb dL_law_1767 rfl (lv_at hl 5 rfl) ?_
  refine lv_iload hx hb dL_law_1768 (lv_at hl 0 rfl) ?_
  refine lv_iconst (v := 3) hx hb dL_law_1770 (by decide) ?_
  refine lv_iadd hx hb dL_law_1771 ?_
  refine lv_to (y := nI (i + 3)) (nI_add i 3) ?_
  refine va_sld hx hb hX0 hbl (Nat.not_le.mpr hbl) G.2.2 (i := nI (i + 3)) (vp_in_nI (n := i + 3) (N := L) (by omega) (by omega)) dL_law_1772 ?_
  refine lv_to (y := xs (i + 3)) (congrArg xs (nI_clamp (by omega))) ?_
  refine lv_aload_n hx hb dL_law_1773 rfl (lv_at hl 2 rfl) ?_
  obtain ⟨⟨k1, r1, T1⟩, hg, hc⟩ := cs_X11_bestLag T 0 (xs (i + 1)) (xs (i + 2)) (xs (i + 3)) hV (by decide +kernel)
  have hV1 : IV aR0 1586 aK1 aK2 T1 := hc.1.1
  have hg1 := s_X11_bestLag hg
  have hg2 := sg_le hg1
  have hg3 := hg1.1
  have hk := hV1.2.2.2.2.2.2
  have hrc1 := hg1.2.2 hrc
  have hr0 := a_room
  refine l_v (h0 := s.heap.size) (As := [.ref (ad 0), .int (xs (i + 1)), .int (xs (i + 2)), .int (xs (i + 3)), .ref aj]) (rest := []) E G hA hX hN (fun _ h => h) hTS hml (v_bestLag l hst D s.heap.size ad T 0 (xs (i + 1)) (xs (i + 2)) (xs (i + 3)) aj f hg hrc h0T h0s) (vx_cwSW 5 hts (glA (L := [Cond.methodLink RL 345 yL_bestLag, Cond.static yL_bestLag, Cond.initialized RL]) (gl_in [(7, 13), (7, 14), (1, 0)] (by decide +kernel) (by decide +kernel)) ⟨(t_of [Cond.codeWith yL_bestLag cL_bestLag 6 (some .int) [(0, 12, 15, 21), (0, 12, 19, 13), (0, 12, 23, 15)]] [(7, 15)] (by decide +kernel) _ List.mem_cons_self), List.all_eq_true.mp (by decide +kernel : [Cond.codeWith yL_bestLag cL_bestLag 6 (some .int) [(0, 12, 15, 21), (0, 12, 19, 13), (0, 12, 23, 15)]].all goodWord = true) _ List.mem_cons_self⟩) rfl rfl rfl (by decide +kernel) ⟨Nat.le_of_ble_eq_true rfl, Nat.le_of_ble_eq_true rfl⟩) rfl hl.1 rfl (lv_room (Nat.le_of_ble_eq_true rfl)) dL_law_1774 ⟨by show _ ≤ 601024; omega, by show _ ≤ 7293034; omega⟩ ?_
  intro ad2 H locs had G
  rw [← had 0 h0T] at hl
  refine lv_istore (lv' := [(6, .int (vck 1 2 3 k1)), (5, .int (nI i)), (4, .ref ae), (3, .ref aj), (2, .ref (am 0)), (1, .ref (ad2 0)), (0, .ref b)]) hx hb dL_law_1777 hl (by decide) rfl (fun ls hl => ?_)
  refine lv_aload_n hx hb dL_law_1779 rfl (lv_at hl 4 rfl) ?_
  refine lv_aload_n hx hb dL_law_1780 rfl (lv_at hl 6 rfl) ?_
  refine lv_iload hx hb dL_law_1781 (lv_at hl 1 rfl) ?_
  refine lv_iconst (v := 1) hx hb dL_law_1783 (by decide) ?_
  refine lv_iadd hx hb dL_law_1784 ?_
  refine lv_to (y := nI (i + 1)) (nI_add i 1) ?_
  refine va_sld hx hb hX0 hbl (Nat.not_le.mpr hbl) G.2.2 (i := nI (i + 1)) (vp_in_nI (n := i + 1) (N := L) (by omega) (by omega)) dL_law_1785 ?_
  refine lv_to (y := xs (i + 1)) (congrArg xs (nI_clamp (by omega))) ?_
  refine lv_aload_n hx hb dL_law_1786 rfl (lv_at hl 6 rfl) ?_
  refine lv_iload hx hb dL_law_1787 (lv_at hl 1 rfl) ?_
  refine lv_iconst (v := 2) hx hb dL_law_1789 (by decide) ?_
  refine lv_iadd hx hb dL_law_1790 ?_
  refine lv_to (y := nI (i + 2)) (nI_add i 2) ?_
  refine va_sld hx hb hX0 hbl (Nat.not_le.mpr hbl) G.2.2 (i := nI (i + 2)) (vp_in_nI (n := i + 2) (N := L) (by omega) (by omega)) dL_law_1791 ?_
  refine lv_to (y := xs (i + 2)) (congrArg xs (nI_clamp (by omega))) ?_
  refine lv_aload_n hx hb dL_law_1792 rfl (lv_at hl 6 rfl) ?_
  refine lv_iload hx hb dL_law_1793 (lv_at hl 1 rfl) ?_
  refine lv_iconst (v := 3) hx hb dL_law_1795 (by decide) ?_
  refine lv_iadd hx hb dL_law_1796 ?_
  refine lv_to (y := nI (i + 3)) (nI_add i 3) ?_
  refine va_sld hx hb hX0 hbl (Nat.not_le.mpr hbl) G.2.2 (i := nI (i + 3)) (vp_in_nI (n := i + 3) (N := L) (by omega) (by omega)) dL_law_1797 ?_
  refine lv_to (y := xs (i + 3)) (congrArg xs (nI_clamp (by omega))) ?_
  obtain ⟨⟨r2, S1⟩, hf, hj⟩ := sj_bestLag Sm (xs (i + 1)) (xs (i + 2)) (xs (i + 3)) hJ
  have hJ1 : JJ S1 := hj
  refine y_mi (As := [.int (xs (i + 1)), .int (xs (i + 2)), .int (xs (i + 3))]) (rest := []) E G hA hX.2.2.2.2 hml (tr_bestLag l D cI cJ cZ am Sm (xs (i + 1)) (xs (i + 2)) (xs (i + 3)) hf) (cwV 3 hts (glM (L := [Cond.methodLink RL 347 yX12_bestLag, Cond.instanceMethod yX12_bestLag, Cond.selects RX12 yX12_bestLag yX12_bestLag, Cond.initialized RX12]) (gl_in [(10, 108), (10, 109), (10, 110), (1, 14)] (by decide +kernel) (by decide +kernel)) ⟨(t_of [Cond.code yX12_bestLag cX12_bestLag 6 (some .int)] [(10, 111)] (by decide +kernel) _ List.mem_cons_self), List.all_eq_true.mp (by decide +kernel : [Cond.code yX12_bestLag cX12_bestLag 6 (some .int)].all goodWord = true) _ List.mem_cons_self⟩) rfl rfl rfl (by decide +kernel) ⟨Nat.le_of_ble_eq_true rfl, Nat.le_of_ble_eq_true rfl⟩) rfl hl.1 rfl (lv_room (Nat.le_of_ble_eq_true rfl)) dL_law_1798 ⟨by show _ ≤ 601024; omega, by show _ ≤ 7293034; omega⟩ (fun H locs G => ?_)
  refine lv_istore (lv' := [(7, .int r2), (6, .int (vck 1 2 3 k1)), (5, .int (nI i)), (4, .ref ae), (3, .ref aj), (2, .ref (am 0)), (1, .ref (ad2 0)), (0, .ref b)]) hx hb dL_law_1801 hl (by decide) rfl (fun ls hl => ?_)
  refine lv_goto (tgt := 2439) hx hb dL_law_1803 (by decide) ?_
  have hl := lv_sub hl [2, 3, 4, 5, 6, 7] rfl
  refine W.widen (k := 19 + T1.1 + (j + 1)) (n := 38467 + sg T1 + 6 * (j + 1)) (by omega) (by omega) ?_
  exact kk ad2 (vfJ k1 f r1.toInt64) g H locs ls hg hf (had 0 h0T) hV1 hrc1 hJ1 G hl
set_option maxHeartbeats 4000000 in
set_option maxRecDepth 100000 in
theorem y_a45 {p : Program} {e : Env} {s : State} {m : MethodId} {below : List Frame} {meth : Method} {c : Code} (l : Launch) (hst : l.stackTraces = false) {b L : Nat} {xs : Nat → Int32} (hx : p.tables.exec = Jvm.exec) (hb : c.code = code) (hml : c.maxLocals = 9) (hown : s.vm.findClass RL = some m.cls) (hts : ∀ w ∈ lw_tbl, w.before #[Value.ref b] s = true) (hX0 : va_X b L xs s s.heap) (hbl : b < s.heap.size) (hX : xT (fun q => s.heap.size ≤ q) s) (hN : nC s) (hTS : sAll s.heap.size s) {D : va_G} {cI cJ cZ cMic cSrc cSt cAI cAJ cD : ClassId} (hK : va_K D vwCl (CT cI cJ cZ cMic cSrc cSt cAI cAJ ++ [(cD, .double)]) s) {Q : State → Prop} {i j : Nat} (hi : i + 6 ≤ L) (hL : L ≤ 3072) (hj : j < 512) {aj ae : Nat} {ad am : Nat → Nat} {T : AT} {Sm : MS} {f : Nat → Int64} {g : Nat → UInt64} {ls : Array Slot} {H : Heap} {locs : List Loc} (hV : IV aR0 1586 aK1 aK2 T) (hrc : RC T) (hJ : JJ Sm) (G : gL cI cJ cZ cMic cSrc cSt cAI cAJ D ad (fun q => s.heap.size ≤ q) s.heap H locs T (oJ aj cJ f :: oD ae cD g :: MW cI cJ cZ am Sm)) (hl : lv_has ls 9 [(5, .int (nI i)), (4, .ref ae), (3, .ref aj), (2, .ref (am 0)), (1, .ref (ad 0)), (0, .ref b)]) (kk : ∀ {k1 : Nat} {r1 : Int64} {T1 : AT} {r2 : Int64} {S1 : MS} (ad2 : Nat → Nat) (f1 : Nat → Int64) (g1 : Nat → UInt64) (H1 : Heap) (locs1 : List Loc) (ls1 : Array Slot), g_X11_level T 0 (xs (i + 1)) = some (k1, r1, T1) → fr_level Sm (xs (i + 1)) = some (r2, S1) → ad2 0 = ad 0 → IV aR0 1586 aK1 aK2 T1 → RC T1 → JJ S1 → gL cI cJ cZ cMic cSrc cSt cAI cAJ D ad2 (fun q => s.heap.size ≤ q) s.heap H1 locs1 T1 (oJ aj cJ f1 :: oD ae cD g1 :: MW cI cJ cZ am S1) → lv_has ls1 9 [(5, .int (nI i)), (4, .ref ae), (3, .ref aj), (2, .ref (am 0)), (1, .ref (ad2 0)), (0, .ref b)] → W p l e room_1 s m #[Value.ref b] below meth c H1 locs1 (19 + T1.1 + (j + 1)) (38467 + sg T1 + 6 * (j + 1)) Q (F0 m 2439 ls1 [])) : W p l e room_1 s m #[Value.ref b] below meth c H locs (19 + T.1 + j) (38467 + sg T + 6 * j) Q (F0 m 1806 ls []) := by
  have E : cE p c cL_law s m #[Value.ref b] lw_tbl D RL (CT cI cJ cZ cMic cSrc cSt cAI cAJ ++ [(cD, .double)]) := ⟨hx, hb, hts, hown, hK⟩
  have hA : ∀ q : Nat, s.heap.size ≤ q → s.heap.size ≤ q := fun _ h => h
  have h0T : 0 < T.1 := Nat.lt_of_lt_of_le (by decide) hV.1.2.2
  have h0s : T.2.1 0 = (11, 0) := hV.2.1 0 ⟨by decide, by decide +kernel, by decide +kernel⟩
  refine lv_aload_n hx hb dL_law_1806 rfl (lv_at hl 4 rfl) ?_
  refine lv_aload_n hx hb dL_law_1807 rfl (lv_at hl 5 rfl) ?_
  refine lv_iload hx hb dL_law_1808 (lv_at hl 0 rfl) ?_
  refine lv_iconst (v := 1) hx hb dL_law_1810 (by decide) ?_
  refine lv_iadd hx hb dL_law_1811 ?_
  refine lv_to (y := nI (i + 1)) (nI_add i 1) ?_
  refine va_sld hx hb hX0 hbl (Nat.not_le.mpr hbl) G.2.2 (i := nI (i + 1)) (vp_in_nI (n := i + 1) (N := L) (by omega) (by omega)) dL_law_1812 ?_
  refine lv_to (y := xs (i + 1)) (congrArg xs (nI_clamp (by omega))) ?_
  refine lv_aload_n hx hb dL_law_1813 rfl (lv_at hl 2 rfl) ?_
  obtain ⟨⟨k1, r1, T1⟩, hg, hc⟩ := cs_X11_level T 0 (xs (i + 1)) hV (by decide +kernel)
  have hV1 : IV aR0 1586 aK1 aK2 T1 := hc.1.1
  have hg1 := s_X11_level hg
  have hg2 := sg_le hg1
  have hg3 := hg1.1
  have hk := hV1.2.2.2.2.2.2
  have hrc1 := hg1.2.2 hrc
  have hr0 := a_room
  refine l_v (h0 := s.heap.size) (As := [.ref (ad 0), .int (xs (i + 1)), .ref aj]) (rest := []) E G hA hX hN (fun _ h => h) hTS hml (v_level l hst D s.heap.size ad T 0 (xs (i + 1)) aj f hg hrc h0T h0s) (vx_cwSW 3 hts (glA (L := [Cond.methodLink RL 348 yL_level, Cond.static yL_level, Cond.initialized RL]) (gl_in [(7, 20), (7, 21), (1, 0)] (by decide +kernel) (by decide +kernel)) ⟨(t_of [Cond.codeWith yL_level cL_level 4 (some .int) [(0, 8, 11, 21), (0, 8, 14, 13)]] [(7, 22)] (by decide +kernel) _ List.mem_cons_self), List.all_eq_true.mp (by decide +kernel : [Cond.codeWith yL_level cL_level 4 (some .int) [(0, 8, 11, 21), (0, 8, 14, 13)]].all goodWord = true) _ List.mem_cons_self⟩) rfl rfl rfl (by decide +kernel) ⟨Nat.le_of_ble_eq_true rfl, Nat.le_of_ble_eq_true rfl⟩) rfl hl.1 rfl (lv_room (Nat.le_of_ble_eq_true rfl)) dL_law_1814 ⟨by show _ ≤ 601024; omega, by show _ ≤ 7293034; omega⟩ ?_
  intro ad2 H locs had G
  rw [← had 0 h0T] at hl
  refine lv_istore (lv' := [(6, .int (vck 1 2 0 k1)), (5, .int (nI i)), (4, .ref ae), (3, .ref aj), (2, .ref (am 0)), (1, .ref (ad2 0)), (0, .ref b)]) hx hb dL_law_1817 hl (by decide) rfl (fun ls hl => ?_)
  refine lv_aload_n hx hb dL_law_1819 rfl (lv_at hl 4 rfl) ?_
  refine lv_aload_n hx hb dL_law_1820 rfl (lv_at hl 6 rfl) ?_
  refine lv_iload hx hb dL_law_1821 (lv_at hl 1 rfl) ?_
  refine lv_iconst (v := 1) hx hb dL_law_1823 (by decide) ?_
  refine lv_iadd hx hb dL_law_1824 ?_
  refine lv_to (y := nI (i + 1)) (nI_add i 1) ?_
  refine va_sld hx hb hX0 hbl (Nat.not_le.mpr hbl) G.2.2 (i := nI (i + 1)) (vp_in_nI (n := i + 1) (N := L) (by omega) (by omega)) dL_law_1825 ?_
  refine lv_to (y := xs (i + 1)) (congrArg xs (nI_clamp (by omega))) ?_
  obtain ⟨⟨r2, S1⟩, hf, hj⟩ := sj_level Sm (xs (i + 1)) hJ
  have hJ1 : JJ S1 := hj
  refine y_ml (As := [.int (xs (i + 1))]) (rest := []) E G hA hX.2.2.2.2 hml (tr_level l D cI cJ cZ am Sm (xs (i + 1)) hf) (cwV 1 hts (glM (L := [Cond.methodLink RL 350 yX12_level, Cond.instanceMethod yX12_level, Cond.selects RX12 yX12_level yX12_level, Cond.initialized RX12]) (gl_in [(10, 112), (10, 113), (10, 114), (1, 14)] (by decide +kernel) (by decide +kernel)) ⟨(t_of [Cond.code yX12_level cX12_level 2 (some .long)] [(10, 115)] (by decide +kernel) _ List.mem_cons_self), List.all_eq_true.mp (by decide +kernel : [Cond.code yX12_level cX12_level 2 (some .long)].all goodWord = true) _ List.mem_cons_self⟩) rfl rfl rfl (by decide +kernel) ⟨Nat.le_of_ble_eq_true rfl, Nat.le_of_ble_eq_true rfl⟩) rfl hl.1 rfl (lv_room (Nat.le_of_ble_eq_true rfl)) dL_law_1826 ⟨by show _ ≤ 601024; omega, by show _ ≤ 7293034; omega⟩ (fun H locs G => ?_)
  refine lv_lstore (lv' := [(7, .long r2), (6, .int (vck 1 2 0 k1)), (5, .int (nI i)), (4, .ref ae), (3, .ref aj), (2, .ref (am 0)), (1, .ref (ad2 0)), (0, .ref b)]) hx hb dL_law_1829 hl (by decide) rfl (fun ls hl => ?_)
  refine lv_goto (tgt := 2439) hx hb dL_law_1831 (by decide) ?_
  have hl := lv_sub hl [2, 3, 4, 5, 6, 7] rfl
  refine W.widen (k := 19 + T1.1 + (j + 1)) (n := 38467 + sg T1 + 6 * (j + 1)) (by omega) (by omega) ?_
  exact kk ad2 (vfJ k1 f r1) g H locs ls hg hf (had 0 h0T) hV1 hrc1 hJ1 G hl
set_option maxHeartbeats 4000000 in
set_option maxRecDepth 100000 in
theorem y_a46 {p : Program} {e : Env} {s : State} {m : MethodId} {below : List Frame} {meth : Method} {c : Code} (l : Launch) (hst : l.stackTraces = false) {b L : Nat} {xs : Nat → Int32} (hx : p.tables.exec = Jvm.exec) (hb : c.code = code) (hml : c.maxLocals = 9) (hown : s.vm.findClass RL = some m.cls) (hts : ∀ w ∈ lw_tbl, w.before #[Value.ref b] s = true) (hX0 : va_X b L xs s s.heap) (hbl : b < s.heap.size) (hX : xT (fun q => s.heap.size ≤ q) s) (hN : nC s) (hTS : sAll s.heap.size s) {D : va_G} {cI cJ cZ cMic cSrc cSt cAI cAJ cD : ClassId} (hK : va_K D vwCl (CT cI cJ cZ cMic cSrc cSt cAI cAJ ++ [(cD, .double)]) s) {Q : State → Prop} {i j : Nat} (hi : i + 6 ≤ L) (hL : L ≤ 3072) (hj : j < 512) {aj ae : Nat} {ad am : Nat → Nat} {T : AT} {Sm : MS} {f : Nat → Int64} {g : Nat → UInt64} {ls : Array Slot} {H : Heap} {locs : List Loc} (hV : IV aR0 1586 aK1 aK2 T) (hrc : RC T) (hJ : JJ Sm) (G : gL cI cJ cZ cMic cSrc cSt cAI cAJ D ad (fun q => s.heap.size ≤ q) s.heap H locs T (oJ aj cJ f :: oD ae cD g :: MW cI cJ cZ am Sm)) (hl : lv_has ls 9 [(5, .int (nI i)), (4, .ref ae), (3, .ref aj), (2, .ref (am 0)), (1, .ref (ad 0)), (0, .ref b)]) (kk : ∀ {k1 : Nat} {r1 : Int32} {T1 : AT} {r2 : Int32} {S1 : MS} (ad2 : Nat → Nat) (f1 : Nat → Int64) (g1 : Nat → UInt64) (H1 : Heap) (locs1 : List Loc) (ls1 : Array Slot), g_X11_loudest T 0 (xs (i + 1)) = some (k1, r1, T1) → fr_loudest Sm (xs (i + 1)) = some (r2, S1) → ad2 0 = ad 0 → IV aR0 1586 aK1 aK2 T1 → RC T1 → JJ S1 → gL cI cJ cZ cMic cSrc cSt cAI cAJ D ad2 (fun q => s.heap.size ≤ q) s.heap H1 locs1 T1 (oJ aj cJ f1 :: oD ae cD g1 :: MW cI cJ cZ am S1) → lv_has ls1 9 [(5, .int (nI i)), (4, .ref ae), (3, .ref aj), (2, .ref (am 0)), (1, .ref (ad2 0)), (0, .ref b)] → W p l e room_1 s m #[Value.ref b] below meth c H1 locs1 (19 + T1.1 + (j + 1)) (38467 + sg T1 + 6 * (j + 1)) Q (F0 m 2439 ls1 [])) : W p l e room_1 s m #[Value.ref b] below meth c H locs (19 + T.1 + j) (38467 + sg T + 6 * j) Q (F0 m 1834 ls []) := by
  have E : cE p c cL_law s m #[Value.ref b] lw_tbl D RL (CT cI cJ cZ cMic cSrc cSt cAI cAJ ++ [(cD, .double)]) := ⟨hx, hb, hts, hown, hK⟩
  have hA : ∀ q : Nat, s.heap.size ≤ q → s.heap.size ≤ q := fun _ h => h
  have h0T : 0 < T.1 := Nat.lt_of_lt_of_le (by decide) hV.1.2.2
  have h0s : T.2.1 0 = (11, 0) := hV.2.1 0 ⟨by decide, by decide +kernel, by decide +kernel⟩
  refine lv_aload_n hx hb dL_law_1834 rfl (lv_at hl 4 rfl) ?_
  refine lv_aload_n hx hb dL_law_1835 rfl (lv_at hl 5 rfl) ?_
  refine lv_iload hx hb dL_law_1836 (lv_at hl 0 rfl) ?_
  refine lv_iconst (v := 1) hx hb dL_law_1838 (by decide) ?_
  refine lv_iadd hx hb dL_law_1839 ?_
  refine lv_to (y := nI (i + 1)) (nI_add i 1) ?_
  refine va_sld hx hb hX0 hbl (Nat.not_le.mpr hbl) G.2.2 (i := nI (i + 1)) (vp_in_nI (n := i + 1) (N := L) (by omega) (by omega)) dL_law_1840 ?_
  refine lv_to (y := xs (i + 1)) (congrArg xs (nI_clamp (by omega))) ?_
  refine lv_aload_n hx hb dL_law_1841 rfl (lv_at hl 2 rfl) ?_
  obtain ⟨⟨k1, r1, T1⟩, hg, hc⟩ := cs_X11_loudest T 0 (xs (i + 1)) hV (by decide +kernel)
  have hV1 : IV aR0 1586 aK1 aK2 T1 := hc.1.1
  have hg1 := s_X11_loudest hg
  have hg2 := sg_le hg1
  have hg3 := hg1.1
  have hk := hV1.2.2.2.2.2.2
  have hrc1 := hg1.2.2 hrc
  have hr0 := a_room
  refine l_v (h0 := s.heap.size) (As := [.ref (ad 0), .int (xs (i + 1)), .ref aj]) (rest := []) E G hA hX hN (fun _ h => h) hTS hml (v_loudest l hst D s.heap.size ad T 0 (xs (i + 1)) aj f hg hrc h0T h0s) (vx_cwSW 3 hts (glA (L := [Cond.methodLink RL 351 yL_loudest, Cond.static yL_loudest, Cond.initialized RL]) (gl_in [(7, 31), (7, 32), (1, 0)] (by decide +kernel) (by decide +kernel)) ⟨(t_of [Cond.codeWith yL_loudest cL_loudest 4 (some .int) [(0, 9, 12, 21), (0, 9, 15, 13)]] [(7, 33)] (by decide +kernel) _ List.mem_cons_self), List.all_eq_true.mp (by decide +kernel : [Cond.codeWith yL_loudest cL_loudest 4 (some .int) [(0, 9, 12, 21), (0, 9, 15, 13)]].all goodWord = true) _ List.mem_cons_self⟩) rfl rfl rfl (by decide +kernel) ⟨Nat.le_of_ble_eq_true rfl, Nat.le_of_ble_eq_true rfl⟩) rfl hl.1 rfl (lv_room (Nat.le_of_ble_eq_true rfl)) dL_law_1842 ⟨by show _ ≤ 601024; omega, by show _ ≤ 7293034; omega⟩ ?_
  intro ad2 H locs had G
  rw [← had 0 h0T] at hl
  refine lv_istore (lv' := [(6, .int (vck 1 2 0 k1)), (5, .int (nI i)), (4, .ref ae), (3, .ref aj), (2, .ref (am 0)), (1, .ref (ad2 0)), (0, .ref b)]) hx hb dL_law_1845 hl (by decide) rfl (fun ls hl => ?_)
  refine lv_aload_n hx hb dL_law_1847 rfl (lv_at hl 4 rfl) ?_
  refine lv_aload_n hx hb dL_law_1848 rfl (lv_at hl 6 rfl) ?_
  refine lv_iload hx hb dL_law_1849 (lv_at hl 1 rfl) ?_
  refine lv_iconst (v := 1) hx hb dL_law_1851 (by decide) ?_
  refine lv_iadd hx hb dL_law_1852 ?_
  refine lv_to (y := nI (i + 1)) (nI_add i 1) ?_
  refine va_sld hx hb hX0 hbl (Nat.not_le.mpr hbl) G.2.2 (i := nI (i + 1)) (vp_in_nI (n := i + 1) (N := L) (by omega) (by omega)) dL_law_1853 ?_
  refine lv_to (y := xs (i + 1)) (congrArg xs (nI_clamp (by omega))) ?_
  obtain ⟨⟨r2, S1⟩, hf, hj⟩ := sj_loudest Sm (xs (i + 1)) hJ
  have hJ1 : JJ S1 := hj
  refine y_mi (As := [.int (xs (i + 1))]) (rest := []) E G hA hX.2.2.2.2 hml (tr_loudest l D cI cJ cZ am Sm (xs (i + 1)) hf) (cwV 1 hts (glM (L := [Cond.methodLink RL 353 yX12_loudest, Cond.instanceMethod yX12_loudest, Cond.selects RX12 yX12_loudest yX12_loudest, Cond.initialized RX12]) (gl_in [(10, 120), (10, 121), (10, 122), (1, 14)] (by decide +kernel) (by decide +kernel)) ⟨(t_of [Cond.code yX12_loudest cX12_loudest 5 (some .int)] [(10, 123)] (by decide +kernel) _ List.mem_cons_self), List.all_eq_true.mp (by decide +kernel : [Cond.code yX12_loudest cX12_loudest 5 (some .int)].all goodWord = true) _ List.mem_cons_self⟩) rfl rfl rfl (by decide +kernel) ⟨Nat.le_of_ble_eq_true rfl, Nat.le_of_ble_eq_true rfl⟩) rfl hl.1 rfl (lv_room (Nat.le_of_ble_eq_true rfl)) dL_law_1854 ⟨by show _ ≤ 601024; omega, by show _ ≤ 7293034; omega⟩ (fun H locs G => ?_)
  refine lv_istore (lv' := [(7, .int r2), (6, .int (vck 1 2 0 k1)), (5, .int (nI i)), (4, .ref ae), (3, .ref aj), (2, .ref (am 0)), (1, .ref (ad2 0)), (0, .ref b)]) hx hb dL_law_1857 hl (by decide) rfl (fun ls hl => ?_)
  refine lv_goto (tgt := 2439) hx hb dL_law_1859 (by decide) ?_
  have hl := lv_sub hl [2, 3, 4, 5, 6, 7] rfl
  refine W.widen (k := 19 + T1.1 + (j + 1)) (n := 38467 + sg T1 + 6 * (j + 1)) (by omega) (by omega) ?_
  exact kk ad2 (vfJ k1 f r1.toInt64) g H locs ls hg hf (had 0 h0T) hV1 hrc1 hJ1 G hl
set_option maxHeartbeats 4000000 in
set_option maxRecDepth 100000 in
theorem y_a47 {p : Program} {e : Env} {s : State} {m : MethodId} {below : List Frame} {meth : Method} {c : Code} (l : Launch) (hst : l.stackTraces = false) {b L : Nat} {xs : Nat → Int32} (hx : p.tables.exec = Jvm.exec) (hb : c.code = code) (hml : c.maxLocals = 9) (hown : s.vm.findClass RL = some m.cls) (hts : ∀ w ∈ lw_tbl, w.before #[Value.ref b] s = true) (hX0 : va_X b L xs s s.heap) (hbl : b < s.heap.size) (hX : xT (fun q => s.heap.size ≤ q) s) (hN : nC s) (hTS : sAll s.heap.size s) {D : va_G} {cI cJ cZ cMic cSrc cSt cAI cAJ cD : ClassId} (hK : va_K D vwCl (CT cI cJ cZ cMic cSrc cSt cAI cAJ ++ [(cD, .double)]) s) {Q : State → Prop} {i j : Nat} (hi : i + 6 ≤ L) (hL : L ≤ 3072) (hj : j < 512) {aj ae : Nat} {ad am : Nat → Nat} {T : AT} {Sm : MS} {f : Nat → Int64} {g : Nat → UInt64} {ls : Array Slot} {H : Heap} {locs : List Loc} (hV : IV aR0 1586 aK1 aK2 T) (hrc : RC T) (hJ : JJ Sm) (G : gL cI cJ cZ cMic cSrc cSt cAI cAJ D ad (fun q => s.heap.size ≤ q) s.heap H locs T (oJ aj cJ f :: oD ae cD g :: MW cI cJ cZ am Sm)) (hl : lv_has ls 9 [(5, .int (nI i)), (4, .ref ae), (3, .ref aj), (2, .ref (am 0)), (1, .ref (ad 0)), (0, .ref b)]) (kk : ∀ {k1 : Nat} {r1 : Int32} {T1 : AT} {r2 : Int32} {S1 : MS} (ad2 : Nat → Nat) (f1 : Nat → Int64) (g1 : Nat → UInt64) (H1 : Heap) (locs1 : List Loc) (ls1 : Array Slot), g_X11_writeMap T 0 = some (k1, r1, T1) → fr_writeMap Sm = some (r2, S1) → ad2 0 = ad 0 → IV aR0 1586 aK1 aK2 T1 → RC T1 → JJ S1 → gL cI cJ cZ cMic cSrc cSt cAI cAJ D ad2 (fun q => s.heap.size ≤ q) s.heap H1 locs1 T1 (oJ aj cJ f1 :: oD ae cD g1 :: MW cI cJ cZ am S1) → lv_has ls1 9 [(5, .int (nI i)), (4, .ref ae), (3, .ref aj), (2, .ref (am 0)), (1, .ref (ad2 0)), (0, .ref b)] → W p l e room_1 s m #[Value.ref b] below meth c H1 locs1 (19 + T1.1 + (j + 1)) (38467 + sg T1 + 6 * (j + 1)) Q (F0 m 2439 ls1 [])) : W p l e room_1 s m #[Value.ref b] below meth c H locs (19 + T.1 + j) (38467 + sg T + 6 * j) Q (F0 m 1862 ls []) := by
  have E : cE p c cL_law s m #[Value.ref b] lw_tbl D RL (CT cI cJ cZ cMic cSrc cSt cAI cAJ ++ [(cD, .double)]) := ⟨hx, hb, hts, hown, hK⟩
  have hA : ∀ q : Nat, s.heap.size ≤ q → s.heap.size ≤ q := fun _ h => h
  have h0T : 0 < T.1 := Nat.lt_of_lt_of_le (by decide) hV.1.2.2
  have h0s : T.2.1 0 = (11, 0) := hV.2.1 0 ⟨by decide, by decide +kernel, by decide +kernel⟩
  refine lv_aload_n hx hb dL_law_1862 rfl (lv_at hl 4 rfl) ?_
  refine lv_aload_n hx hb dL_law_1863 rfl (lv_at hl 2 rfl) ?_
  obtain ⟨⟨k1, r1, T1⟩, hg, hc⟩ := cs_X11_writeMap T 0 hV (by decide +kernel)
  have hV1 : IV aR0 1586 aK1 aK2 T1 := hc.1.1
  have hg1 := s_X11_writeMap hg
  have hg2 := sg_le hg1
  have hg3 := hg1.1
  have hk := hV1.2.2.2.2.2.2
  have hrc1 := hg1.2.2 hrc
  have hr0 := a_room
  refine l_v (h0 := s.heap.size) (As := [.ref (ad 0), .ref aj]) (rest := []) E G hA hX hN (fun _ h => h) hTS hml (v_writeMap l hst D s.heap.size ad T 0  aj f hg hrc h0T h0s) (vx_cwSW 2 hts (glA (L := [Cond.methodLink RL 354 yL_writeMap, Cond.static yL_writeMap, Cond.initialized RL]) (gl_in [(7, 39), (7, 40), (1, 0)] (by decide +kernel) (by decide +kernel)) ⟨(t_of [Cond.codeWith yL_writeMap cL_writeMap 3 (some .int) [(0, 8, 11, 21)]] [(7, 41)] (by decide +kernel) _ List.mem_cons_self), List.all_eq_true.mp (by decide +kernel : [Cond.codeWith yL_writeMap cL_writeMap 3 (some .int) [(0, 8, 11, 21)]].all goodWord = true) _ List.mem_cons_self⟩) rfl rfl rfl (by decide +kernel) ⟨Nat.le_of_ble_eq_true rfl, Nat.le_of_ble_eq_true rfl⟩) rfl hl.1 rfl (lv_room (Nat.le_of_ble_eq_true rfl)) dL_law_1864 ⟨by show _ ≤ 601024; omega, by show _ ≤ 7293034; omega⟩ ?_
  intro ad2 H locs had G
  rw [← had 0 h0T] at hl
  refine lv_istore (lv' := [(6, .int (vck 1 0 0 k1)), (5, .int (nI i)), (4, .ref ae), (3, .ref aj), (2, .ref (am 0)), (1, .ref (ad2 0)), (0, .ref b)]) hx hb dL_law_1867 hl (by decide) rfl (fun ls hl => ?_)
  refine lv_aload_n hx hb dL_law_1869 rfl (lv_at hl 4 rfl) ?_
  obtain ⟨⟨r2, S1⟩, hf, hj⟩ := sj_writeMap Sm hJ
  have hJ1 : JJ S1 := hj
  refine y_mi (As := []) (rest := []) E G hA hX.2.2.2.2 hml (tr_writeMap l D cI cJ cZ am Sm  hf) (cwV 0 hts (glM (L := [Cond.methodLink RL 356 yX12_writeMap, Cond.instanceMethod yX12_writeMap, Cond.selects RX12 yX12_writeMap yX12_writeMap, Cond.initialized RX12]) (gl_in [(10, 124), (10, 125), (10, 126), (1, 14)] (by decide +kernel) (by decide +kernel)) ⟨(t_of [Cond.code yX12_writeMap cX12_writeMap 4 (some .int)] [(10, 127)] (by decide +kernel) _ List.mem_cons_self), List.all_eq_true.mp (by decide +kernel : [Cond.code yX12_writeMap cX12_writeMap 4 (some .int)].all goodWord = true) _ List.mem_cons_self⟩) rfl rfl rfl (by decide +kernel) ⟨Nat.le_of_ble_eq_true rfl, Nat.le_of_ble_eq_true rfl⟩) rfl hl.1 rfl (lv_room (Nat.le_of_ble_eq_true rfl)) dL_law_1870 ⟨by show _ ≤ 601024; omega, by show _ ≤ 7293034; omega⟩ (fun H locs G => ?_)
  refine lv_istore (lv' := [(7, .int r2), (6, .int (vck 1 0 0 k1)), (5, .int (nI i)), (4, .ref ae), (3, .ref aj), (2, .ref (am 0)), (1, .ref (ad2 0)), (0, .ref b)]) hx hb dL_law_1873 hl (by decide) rfl (fun ls hl => ?_)
  refine lv_goto (tgt := 2439) hx hb dL_law_1875 (by decide) ?_
  have hl := lv_sub hl [2, 3, 4, 5, 6, 7] rfl
  refine W.widen (k := 19 + T1.1 + (j + 1)) (n := 38467 + sg T1 + 6 * (j + 1)) (by omega) (by omega) ?_
  exact kk ad2 (vfJ k1 f r1.toInt64) g H locs ls hg hf (had 0 h0T) hV1 hrc1 hJ1 G hl
end
